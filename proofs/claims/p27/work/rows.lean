section
-- ===== PART A: goes FIRST, ahead of the names: the tables' words, and 'selects' of the private methods out of them =====
/-- a private method of a class that the tables say can be made, by its rows of tables_1 -/
def lw_okq (q : MethodName × Nat) : Prop := (q.1.cls ≠ "java/lang/invoke/MethodHandle" ∧ q.1.cls ≠ "java/lang/invoke/VarHandle") ∧ Cond.instantiable q.1.cls q.2 ∈ tables_1 ∧ Cond.privateMethod q.1 ∈ tables_1 ∧ Cond.instanceMethod q.1 ∈ tables_1
theorem lw_p0 : lw_okq (⟨"RelayBank$Bank", "eventsBefore", "(I)I"⟩, 15) := ⟨⟨by decide +kernel, by decide +kernel⟩, List.mem_of_getElem? (i := 18) (by decide +kernel), List.mem_of_getElem? (i := 227) (by decide +kernel), List.mem_of_getElem? (i := 228) (by decide +kernel)⟩
theorem lw_p1 : lw_okq (⟨"RelayBank", "endingOf", "(LRelayBank$Bank;IZ)I"⟩, 6) := ⟨⟨by decide +kernel, by decide +kernel⟩, List.mem_of_getElem? (i := 10) (by decide +kernel), List.mem_of_getElem? (i := 246) (by decide +kernel), List.mem_of_getElem? (i := 247) (by decide +kernel)⟩
theorem lw_p2 : lw_okq (⟨"RelayBank$Bank", "moveArmature", "(I)V"⟩, 15) := ⟨⟨by decide +kernel, by decide +kernel⟩, List.mem_of_getElem? (i := 18) (by decide +kernel), List.mem_of_getElem? (i := 273) (by decide +kernel), List.mem_of_getElem? (i := 274) (by decide +kernel)⟩
theorem lw_p3 : lw_okq (⟨"RelayBank$Bank", "lookAtCoils", "()I"⟩, 15) := ⟨⟨by decide +kernel, by decide +kernel⟩, List.mem_of_getElem? (i := 18) (by decide +kernel), List.mem_of_getElem? (i := 277) (by decide +kernel), List.mem_of_getElem? (i := 278) (by decide +kernel)⟩
theorem lw_p4 : lw_okq (⟨"RelayBank$Bank", "turnCoil", "(I)V"⟩, 15) := ⟨⟨by decide +kernel, by decide +kernel⟩, List.mem_of_getElem? (i := 18) (by decide +kernel), List.mem_of_getElem? (i := 283) (by decide +kernel), List.mem_of_getElem? (i := 284) (by decide +kernel)⟩
theorem lw_p5 : lw_okq (⟨"RelayBank", "raceIn", "(LRelayBank$Bank;)I"⟩, 6) := ⟨⟨by decide +kernel, by decide +kernel⟩, List.mem_of_getElem? (i := 10) (by decide +kernel), List.mem_of_getElem? (i := 295) (by decide +kernel), List.mem_of_getElem? (i := 296) (by decide +kernel)⟩
theorem lw_p6 : lw_okq (⟨"RelayBank$Past", "bankAt", "(I)LRelayBank$Bank;"⟩, 3) := ⟨⟨by decide +kernel, by decide +kernel⟩, List.mem_of_getElem? (i := 83) (by decide +kernel), List.mem_of_getElem? (i := 307) (by decide +kernel), List.mem_of_getElem? (i := 308) (by decide +kernel)⟩
theorem lw_p7 : lw_okq (⟨"RelayBank$Bank", "putBranch", "(III)V"⟩, 15) := ⟨⟨by decide +kernel, by decide +kernel⟩, List.mem_of_getElem? (i := 18) (by decide +kernel), List.mem_of_getElem? (i := 376) (by decide +kernel), List.mem_of_getElem? (i := 377) (by decide +kernel)⟩
def lw_privs_1 : List (MethodName × Nat) := [(⟨"RelayBank$Bank", "eventsBefore", "(I)I"⟩, 15), (⟨"RelayBank", "endingOf", "(LRelayBank$Bank;IZ)I"⟩, 6), (⟨"RelayBank$Bank", "moveArmature", "(I)V"⟩, 15), (⟨"RelayBank$Bank", "lookAtCoils", "()I"⟩, 15), (⟨"RelayBank$Bank", "turnCoil", "(I)V"⟩, 15), (⟨"RelayBank", "raceIn", "(LRelayBank$Bank;)I"⟩, 6), (⟨"RelayBank$Past", "bankAt", "(I)LRelayBank$Bank;"⟩, 3), (⟨"RelayBank$Bank", "putBranch", "(III)V"⟩, 15)]
theorem lw_r1 : ∀ q ∈ lw_privs_1, lw_okq q := List.forall_mem_cons.mpr ⟨lw_p0, List.forall_mem_cons.mpr ⟨lw_p1, List.forall_mem_cons.mpr ⟨lw_p2, List.forall_mem_cons.mpr ⟨lw_p3, List.forall_mem_cons.mpr ⟨lw_p4, List.forall_mem_cons.mpr ⟨lw_p5, List.forall_mem_cons.mpr ⟨lw_p6, List.forall_mem_cons.mpr ⟨lw_p7, fun _ h => absurd h List.not_mem_nil⟩⟩⟩⟩⟩⟩⟩⟩
def lw_privs : List (MethodName × Nat) := lw_privs_1
def lw_tbl : List Cond := k2_sels lw_privs ++ tables_1
theorem lw_privs_ok : ∀ q ∈ lw_privs, lw_okq q := lw_r1
-- ===== end of PART A; then your names; then what follows =====
end
section
/-! ===== BEGIN words of one list among another's, by their places ===== -/
theorem goodIn_r {big : List Cond} (ws : List Cond) (ps : List Nat) (hp : ws = ps.filterMap (fun i => big[i]?)) (h : ws.all goodWord = true) : GoodIn big ws := by
  intro w hw
  have h1 := List.all_eq_true.mp h w hw
  rw [hp] at hw
  obtain ⟨i, -, hi⟩ := List.mem_filterMap.mp hw
  have hm : w ∈ big := by first | exact List.mem_of_getElem? hi | exact List.getElem?_mem hi
  exact ⟨hm, good_of_word h1⟩
theorem goodIn_app {big a b : List Cond} (ha : GoodIn big a) (hb : GoodIn big b) : GoodIn big (a ++ b) := fun w h => (List.mem_append.mp h).elim (ha w) (hb w)
theorem goodIn_ca {big a b : List Cond} {c : Cond} (ha : GoodIn big (c :: a)) (hb : GoodIn big b) : GoodIn big (c :: (a ++ b)) := fun w h => (List.mem_cons.mp h).elim (fun e => ha w (List.mem_cons.mpr (Or.inl e))) (fun h => (List.mem_append.mp h).elim (fun h => ha w (List.mem_cons.mpr (Or.inr h))) (hb w))
theorem goodIn_sub {big ws : List Cond} (hm : ∀ w ∈ ws, w ∈ big) (h : ws.all goodWord = true) : GoodIn big ws := fun w hw => ⟨hm w hw, good_of_word (List.all_eq_true.mp h w hw)⟩
/-! ===== END ===== -/

/-! ===== BEGIN printed: names, fields, word lists, decode rows ===== -/
def RX0 : String := "RelayBank$Bank"
def TX0 : u_T := fun k => match k with
  | 0 => ("RelayBank$Bank", "pickUps", "[I", true)
  | 1 => ("RelayBank$Bank", "releases", "[I", true)
  | 2 => ("RelayBank$Bank", "bounces", "[I", true)
  | 3 => ("RelayBank$Bank", "sizes", "[I", true)
  | 4 => ("RelayBank$Bank", "branches", "[I", true)
  | 5 => ("RelayBank$Bank", "dues", "[I", true)
  | 6 => ("RelayBank$Bank", "relays", "I", false)
  | 7 => ("RelayBank$Bank", "time", "I", false)
  | 8 => ("RelayBank$Bank", "keys", "I", false)
  | 9 => ("RelayBank$Bank", "fed", "I", false)
  | 10 => ("RelayBank$Bank", "attracted", "I", false)
  | 11 => ("RelayBank$Bank", "bouncing", "I", false)
  | 12 => ("RelayBank$Bank", "stuck", "I", false)
  | 13 => ("RelayBank$Bank", "alwaysOpen", "I", false)
  | _ => ("RelayBank$Bank", "alwaysClosed", "I", false)
def tyX0 : Nat → FieldType := fun k => match k with
  | 0 => .array .int
  | 1 => .array .int
  | 2 => .array .int
  | 3 => .array .int
  | 4 => .array .int
  | 5 => .array .int
  | 6 => .int
  | 7 => .int
  | 8 => .int
  | 9 => .int
  | 10 => .int
  | 11 => .int
  | 12 => .int
  | 13 => .int
  | _ => .int
abbrev wsX00 : List Cond := u_ws RX0 TX0 15
theorem nmX0 : ∀ a, a < 15 → ∀ b, b < 15 → a ≠ b → (TX0 a).2.1 ≠ (TX0 b).2.1 := by decide +kernel
theorem tyX0_ok : ∀ k, k < 15 → parseFieldDescriptor (TX0 k).2.2.1 = some (tyX0 k) := by decide +kernel
abbrev cX0_init : ByteArray := prog_2_method_1_code
def yX0_init : MethodName := ⟨RX0, "<init>", "()V"⟩
abbrev cX0_copy : ByteArray := prog_2_method_2_code
def yX0_copy : MethodName := ⟨RX0, "copy", "(LRelayBank$Bank;)V"⟩
abbrev cX0_has : ByteArray := prog_2_method_3_code
def yX0_has : MethodName := ⟨RX0, "has", "(I)Z"⟩
abbrev cX0_add : ByteArray := prog_2_method_4_code
def yX0_add : MethodName := ⟨RX0, "add", "(III)I"⟩
abbrev cX0_putDelays : ByteArray := prog_2_method_5_code
def yX0_putDelays : MethodName := ⟨RX0, "putDelays", "(IIII)Z"⟩
abbrev cX0_branchesOf : ByteArray := prog_2_method_6_code
def yX0_branchesOf : MethodName := ⟨RX0, "branchesOf", "(I)I"⟩
abbrev cX0_branchAt : ByteArray := prog_2_method_7_code
def yX0_branchAt : MethodName := ⟨RX0, "branchAt", "(II)I"⟩
abbrev cX0_putBranch : ByteArray := prog_2_method_8_code
def yX0_putBranch : MethodName := ⟨RX0, "putBranch", "(III)V"⟩
abbrev cX0_putCondition : ByteArray := prog_2_method_9_code
def yX0_putCondition : MethodName := ⟨RX0, "putCondition", "(IIII)I"⟩
abbrev cX0_dropBranch : ByteArray := prog_2_method_10_code
def yX0_dropBranch : MethodName := ⟨RX0, "dropBranch", "(II)I"⟩
abbrev cX0_concerns : ByteArray := prog_2_method_12_code
def yX0_concerns : MethodName := ⟨RX0, "concerns", "(II)Z"⟩
abbrev cX0_turnKey : ByteArray := prog_2_method_13_code
def yX0_turnKey : MethodName := ⟨RX0, "turnKey", "(I)I"⟩
abbrev cX0_faultOf : ByteArray := prog_2_method_14_code
def yX0_faultOf : MethodName := ⟨RX0, "faultOf", "(I)I"⟩
abbrev cX0_putFault : ByteArray := prog_2_method_15_code
def yX0_putFault : MethodName := ⟨RX0, "putFault", "(II)V"⟩
abbrev cX0_closedContacts : ByteArray := prog_2_method_16_code
def yX0_closedContacts : MethodName := ⟨RX0, "closedContacts", "()I"⟩
abbrev cX0_failing : ByteArray := prog_2_method_17_code
def yX0_failing : MethodName := ⟨RX0, "failing", "()I"⟩
abbrev cX0_conducts : ByteArray := prog_2_method_18_code
def yX0_conducts : MethodName := ⟨RX0, "conducts", "(II)Z"⟩
abbrev cX0_lookAtCoils : ByteArray := prog_2_method_20_code
def yX0_lookAtCoils : MethodName := ⟨RX0, "lookAtCoils", "()I"⟩
abbrev cX0_turnCoil : ByteArray := prog_2_method_21_code
def yX0_turnCoil : MethodName := ⟨RX0, "turnCoil", "(I)V"⟩
abbrev cX0_relayOf : ByteArray := prog_2_method_22_code
def yX0_relayOf : MethodName := ⟨RX0, "relayOf", "(I)I"⟩
abbrev cX0_isBounceEnd : ByteArray := prog_2_method_23_code
def yX0_isBounceEnd : MethodName := ⟨RX0, "isBounceEnd", "(I)Z"⟩
abbrev cX0_kindOf : ByteArray := prog_2_method_24_code
def yX0_kindOf : MethodName := ⟨RX0, "kindOf", "(I)I"⟩
abbrev cX0_waiting : ByteArray := prog_2_method_25_code
def yX0_waiting : MethodName := ⟨RX0, "waiting", "()I"⟩
abbrev cX0_isQuiet : ByteArray := prog_2_method_26_code
def yX0_isQuiet : MethodName := ⟨RX0, "isQuiet", "()Z"⟩
abbrev cX0_nextSlot : ByteArray := prog_2_method_27_code
def yX0_nextSlot : MethodName := ⟨RX0, "nextSlot", "(Z)I"⟩
abbrev cX0_slotAt : ByteArray := prog_2_method_28_code
def yX0_slotAt : MethodName := ⟨RX0, "slotAt", "(I)I"⟩
abbrev cX0_eventsBefore : ByteArray := prog_2_method_29_code
def yX0_eventsBefore : MethodName := ⟨RX0, "eventsBefore", "(I)I"⟩
abbrev cX0_happen : ByteArray := prog_2_method_30_code
def yX0_happen : MethodName := ⟨RX0, "happen", "(I)V"⟩
abbrev cX0_moveArmature : ByteArray := prog_2_method_31_code
def yX0_moveArmature : MethodName := ⟨RX0, "moveArmature", "(I)V"⟩
abbrev cX0_run : ByteArray := prog_2_method_32_code
def yX0_run : MethodName := ⟨RX0, "run", "(IIZ)I"⟩
def RX1 : String := "RelayBank$Branch"
def TX1 : u_T := fun k => match k with
  | _ => ("", "", "", false)
def tyX1 : Nat → FieldType := fun k => match k with
  | _ => .int
abbrev wsX10 : List Cond := u_ws RX1 TX1 0
theorem nmX1 : ∀ a, a < 0 → ∀ b, b < 0 → a ≠ b → (TX1 a).2.1 ≠ (TX1 b).2.1 := by decide +kernel
theorem tyX1_ok : ∀ k, k < 0 → parseFieldDescriptor (TX1 k).2.2.1 = some (tyX1 k) := by decide +kernel
abbrev cX1_bit : ByteArray := prog_3_method_2_code
def yX1_bit : MethodName := ⟨RX1, "bit", "(II)I"⟩
abbrev cX1_howOf : ByteArray := prog_3_method_3_code
def yX1_howOf : MethodName := ⟨RX1, "howOf", "(II)I"⟩
abbrev cX1_with : ByteArray := prog_3_method_4_code
def yX1_with : MethodName := ⟨RX1, "with", "(III)I"⟩
def RX2 : String := "RelayBank$CircuitReader"
def TX2 : u_T := fun k => match k with
  | 0 => ("RelayBank$CircuitReader", "branches", "[I", true)
  | 1 => ("RelayBank$CircuitReader", "size", "I", false)
  | 2 => ("RelayBank$CircuitReader", "relays", "I", false)
  | _ => ("RelayBank$CircuitReader", "place", "I", false)
def tyX2 : Nat → FieldType := fun k => match k with
  | 0 => .array .int
  | 1 => .int
  | 2 => .int
  | _ => .int
abbrev wsX20 : List Cond := u_ws RX2 TX2 4
theorem nmX2 : ∀ a, a < 4 → ∀ b, b < 4 → a ≠ b → (TX2 a).2.1 ≠ (TX2 b).2.1 := by decide +kernel
theorem tyX2_ok : ∀ k, k < 4 → parseFieldDescriptor (TX2 k).2.2.1 = some (tyX2 k) := by decide +kernel
abbrev cX2_init : ByteArray := prog_4_method_1_code
def yX2_init : MethodName := ⟨RX2, "<init>", "()V"⟩
def RX3 : String := "RelayBank$Past"
def TX3 : u_T := fun k => match k with
  | 0 => ("RelayBank$Past", "banks", "[LRelayBank$Bank;", true)
  | 1 => ("RelayBank$Past", "oldest", "I", false)
  | _ => ("RelayBank$Past", "size", "I", false)
def tyX3 : Nat → FieldType := fun k => match k with
  | 0 => .array (.object "RelayBank$Bank")
  | 1 => .int
  | _ => .int
abbrev wsX30 : List Cond := u_ws RX3 TX3 3
theorem nmX3 : ∀ a, a < 3 → ∀ b, b < 3 → a ≠ b → (TX3 a).2.1 ≠ (TX3 b).2.1 := by decide +kernel
theorem tyX3_ok : ∀ k, k < 3 → parseFieldDescriptor (TX3 k).2.2.1 = some (tyX3 k) := by decide +kernel
abbrev cX3_init : ByteArray := prog_5_method_1_code
def yX3_init : MethodName := ⟨RX3, "<init>", "()V"⟩
abbrev cX3_bankAt : ByteArray := prog_5_method_2_code
def yX3_bankAt : MethodName := ⟨RX3, "bankAt", "(I)LRelayBank$Bank;"⟩
abbrev cX3_save : ByteArray := prog_5_method_3_code
def yX3_save : MethodName := ⟨RX3, "save", "(LRelayBank$Bank;)V"⟩
abbrev cX3_restore : ByteArray := prog_5_method_4_code
def yX3_restore : MethodName := ⟨RX3, "restore", "(LRelayBank$Bank;)Z"⟩
def RX4 : String := "RelayBank$Text"
def TX4 : u_T := fun k => match k with
  | 0 => ("RelayBank$Text", "characters", "[C", true)
  | _ => ("RelayBank$Text", "length", "I", false)
def tyX4 : Nat → FieldType := fun k => match k with
  | 0 => .array .char
  | _ => .int
abbrev wsX40 : List Cond := u_ws RX4 TX4 2
theorem nmX4 : ∀ a, a < 2 → ∀ b, b < 2 → a ≠ b → (TX4 a).2.1 ≠ (TX4 b).2.1 := by decide +kernel
theorem tyX4_ok : ∀ k, k < 2 → parseFieldDescriptor (TX4 k).2.2.1 = some (tyX4 k) := by decide +kernel
abbrev cX4_init : ByteArray := prog_6_method_1_code
def yX4_init : MethodName := ⟨RX4, "<init>", "()V"⟩
def RX5 : String := "RelayBank"
def TX5 : u_T := fun k => match k with
  | 0 => ("RelayBank", "now", "LRelayBank$Bank;", true)
  | 1 => ("RelayBank", "past", "LRelayBank$Past;", true)
  | 2 => ("RelayBank", "text", "LRelayBank$Text;", true)
  | 3 => ("RelayBank", "reader", "LRelayBank$CircuitReader;", true)
  | 4 => ("RelayBank", "changed", "LRelayBank$Bank;", true)
  | _ => ("RelayBank", "trial", "LRelayBank$Bank;", true)
def tyX5 : Nat → FieldType := fun k => match k with
  | 0 => .object "RelayBank$Bank"
  | 1 => .object "RelayBank$Past"
  | 2 => .object "RelayBank$Text"
  | 3 => .object "RelayBank$CircuitReader"
  | 4 => .object "RelayBank$Bank"
  | _ => .object "RelayBank$Bank"
abbrev wsX50 : List Cond := u_ws RX5 TX5 6
theorem nmX5 : ∀ a, a < 6 → ∀ b, b < 6 → a ≠ b → (TX5 a).2.1 ≠ (TX5 b).2.1 := by decide +kernel
theorem tyX5_ok : ∀ k, k < 6 → parseFieldDescriptor (TX5 k).2.2.1 = some (tyX5 k) := by decide +kernel
abbrev cX5_init : ByteArray := prog_1_method_1_code
def yX5_init : MethodName := ⟨RX5, "<init>", "()V"⟩
abbrev cX5_addRelay : ByteArray := prog_1_method_2_code
def yX5_addRelay : MethodName := ⟨RX5, "addRelay", "(III)I"⟩
abbrev cX5_setDelays : ByteArray := prog_1_method_3_code
def yX5_setDelays : MethodName := ⟨RX5, "setDelays", "(IIII)I"⟩
abbrev cX5_setCondition : ByteArray := prog_1_method_4_code
def yX5_setCondition : MethodName := ⟨RX5, "setCondition", "(IIII)I"⟩
abbrev cX5_removeBranch : ByteArray := prog_1_method_5_code
def yX5_removeBranch : MethodName := ⟨RX5, "removeBranch", "(II)I"⟩
abbrev cX5_press : ByteArray := prog_1_method_9_code
def yX5_press : MethodName := ⟨RX5, "press", "(II)I"⟩
abbrev cX5_setFault : ByteArray := prog_1_method_10_code
def yX5_setFault : MethodName := ⟨RX5, "setFault", "(II)I"⟩
abbrev cX5_stick : ByteArray := prog_1_method_11_code
def yX5_stick : MethodName := ⟨RX5, "stick", "(II)I"⟩
abbrev cX5_step : ByteArray := prog_1_method_12_code
def yX5_step : MethodName := ⟨RX5, "step", "()I"⟩
abbrev cX5_settle : ByteArray := prog_1_method_13_code
def yX5_settle : MethodName := ⟨RX5, "settle", "(I)I"⟩
abbrev cX5_pass : ByteArray := prog_1_method_14_code
def yX5_pass : MethodName := ⟨RX5, "pass", "(I)I"⟩
abbrev cX5_count : ByteArray := prog_1_method_15_code
def yX5_count : MethodName := ⟨RX5, "count", "(I)I"⟩
abbrev cX5_relay : ByteArray := prog_1_method_16_code
def yX5_relay : MethodName := ⟨RX5, "relay", "(II)I"⟩
abbrev cX5_condition : ByteArray := prog_1_method_17_code
def yX5_condition : MethodName := ⟨RX5, "condition", "(III)I"⟩
abbrev cX5_event : ByteArray := prog_1_method_18_code
def yX5_event : MethodName := ⟨RX5, "event", "(II)I"⟩
abbrev cX5_outcome : ByteArray := prog_1_method_19_code
def yX5_outcome : MethodName := ⟨RX5, "outcome", "(II)I"⟩
abbrev cX5_isRace : ByteArray := prog_1_method_20_code
def yX5_isRace : MethodName := ⟨RX5, "isRace", "()I"⟩
abbrev cX5_undo : ByteArray := prog_1_method_25_code
def yX5_undo : MethodName := ⟨RX5, "undo", "()I"⟩
abbrev cX5_endingOf : ByteArray := prog_1_method_26_code
def yX5_endingOf : MethodName := ⟨RX5, "endingOf", "(LRelayBank$Bank;IZ)I"⟩
abbrev cX5_raceIn : ByteArray := prog_1_method_27_code
def yX5_raceIn : MethodName := ⟨RX5, "raceIn", "(LRelayBank$Bank;)I"⟩
abbrev cX5_isKey : ByteArray := prog_1_method_28_code
def yX5_isKey : MethodName := ⟨RX5, "isKey", "(I)Z"⟩
abbrev cX5_areDelays : ByteArray := prog_1_method_29_code
def yX5_areDelays : MethodName := ⟨RX5, "areDelays", "(III)Z"⟩
abbrev cX5_isWithin : ByteArray := prog_1_method_30_code
def yX5_isWithin : MethodName := ⟨RX5, "isWithin", "(III)Z"⟩
abbrev cX5_bitOf : ByteArray := prog_1_method_31_code
def yX5_bitOf : MethodName := ⟨RX5, "bitOf", "(II)I"⟩
abbrev cX5_isIn : ByteArray := prog_1_method_32_code
def yX5_isIn : MethodName := ⟨RX5, "isIn", "(II)Z"⟩
abbrev cX5_at : ByteArray := prog_1_method_33_code
def yX5_at : MethodName := ⟨RX5, "at", "([II)I"⟩
abbrev cX5_put : ByteArray := prog_1_method_34_code
def yX5_put : MethodName := ⟨RX5, "put", "([III)V"⟩
def RX6 : String := "RelayBankModel"
def TX6 : u_T := fun k => match k with
  | _ => ("", "", "", false)
def tyX6 : Nat → FieldType := fun k => match k with
  | _ => .int
abbrev wsX60 : List Cond := u_ws RX6 TX6 0
theorem nmX6 : ∀ a, a < 0 → ∀ b, b < 0 → a ≠ b → (TX6 a).2.1 ≠ (TX6 b).2.1 := by decide +kernel
theorem tyX6_ok : ∀ k, k < 0 → parseFieldDescriptor (TX6 k).2.2.1 = some (tyX6 k) := by decide +kernel
def RJ9 : String := "java/lang/Math"
def TJ9 : u_T := fun k => match k with
  | _ => ("", "", "", false)
def tyJ9 : Nat → FieldType := fun k => match k with
  | _ => .int
abbrev wsJ90 : List Cond := u_ws RJ9 TJ9 0
theorem nmJ9 : ∀ a, a < 0 → ∀ b, b < 0 → a ≠ b → (TJ9 a).2.1 ≠ (TJ9 b).2.1 := by decide +kernel
theorem tyJ9_ok : ∀ k, k < 0 → parseFieldDescriptor (TJ9 k).2.2.1 = some (tyJ9 k) := by decide +kernel
abbrev cJ9_floorMod_7cf53 : ByteArray := prog_9_method_50_code
def yJ9_floorMod_7cf53 : MethodName := ⟨RJ9, "floorMod", "(II)I"⟩
def RJ10 : String := "java/lang/System"
def TJ10 : u_T := fun k => match k with
  | _ => ("", "", "", false)
def tyJ10 : Nat → FieldType := fun k => match k with
  | _ => .int
abbrev wsJ100 : List Cond := u_ws RJ10 TJ10 0
theorem nmJ10 : ∀ a, a < 0 → ∀ b, b < 0 → a ≠ b → (TJ10 a).2.1 ≠ (TJ10 b).2.1 := by decide +kernel
theorem tyJ10_ok : ∀ k, k < 0 → parseFieldDescriptor (TJ10 k).2.2.1 = some (tyJ10 k) := by decide +kernel
def RL : String := "RelayBankLaw"
abbrev cL_cell : ByteArray := method_2_code
def yL_cell : MethodName := ⟨RL, "cell", "([II)I"⟩
abbrev cL_low : ByteArray := method_3_code
def yL_low : MethodName := ⟨RL, "low", "(II)I"⟩
abbrev cL_tale : ByteArray := method_4_code
def yL_tale : MethodName := ⟨RL, "tale", "(LRelayBank;)J"⟩
abbrev cL_does : ByteArray := method_5_code
def yL_does : MethodName := ⟨RL, "does", "(LRelayBank;I)I"⟩
abbrev cL_law : ByteArray := code
def yL_law : MethodName := ⟨RL, "law", "([I)Z"⟩
def wsL_law_r1 : List Cond := [Cond.classLink RL 13 RX5, Cond.instantiable RX5 6, Cond.initialized RX5, Cond.methodLink RL 76 yX5_init, Cond.instanceMethod yX5_init, Cond.code yX5_init cX5_init 1 none, Cond.methodLink RX5 3 objectInit, Cond.instanceMethod objectInit, Cond.code objectInit ⟨#[0xb1]⟩ 1 none, Cond.classLink RX5 9 RX0, Cond.instantiable RX0 15, Cond.initialized RX0, Cond.fieldLink RX5 12 "RelayBank" "now" "LRelayBank$Bank;", Cond.classLink RX5 16 RX3, Cond.instantiable RX3 3, Cond.initialized RX3, Cond.fieldLink RX5 19 "RelayBank" "past" "LRelayBank$Past;", Cond.classLink RX5 23 RX4, Cond.instantiable RX4 2, Cond.initialized RX4, Cond.fieldLink RX5 26 "RelayBank" "text" "LRelayBank$Text;", Cond.classLink RX5 30 RX2, Cond.instantiable RX2 4, Cond.initialized RX2]
def wsL_law_r2 : List Cond := [Cond.fieldLink RX5 33 "RelayBank" "reader" "LRelayBank$CircuitReader;", Cond.fieldLink RX5 37 "RelayBank" "changed" "LRelayBank$Bank;", Cond.fieldLink RX5 40 "RelayBank" "trial" "LRelayBank$Bank;", Cond.methodLink RX5 11 yX0_init, Cond.instanceMethod yX0_init, Cond.code yX0_init cX0_init 2 none, Cond.methodLink RX0 3 objectInit, Cond.arrayClass .int, Cond.fieldLink RX0 9 "RelayBank$Bank" "pickUps" "[I", Cond.fieldLink RX0 15 "RelayBank$Bank" "releases" "[I", Cond.fieldLink RX0 18 "RelayBank$Bank" "bounces" "[I", Cond.fieldLink RX0 21 "RelayBank$Bank" "sizes" "[I", Cond.fieldLink RX0 24 "RelayBank$Bank" "branches" "[I", Cond.fieldLink RX0 27 "RelayBank$Bank" "dues" "[I", Cond.constant RX0 30 (2147483647), Cond.methodLink RX5 18 yX3_init, Cond.instanceMethod yX3_init, Cond.code yX3_init cX3_init 2 none, Cond.methodLink RX3 3 objectInit, Cond.classLink RX3 9 RX0, Cond.fieldLink RX3 11 "RelayBank$Past" "banks" "[LRelayBank$Bank;", Cond.methodLink RX3 17 yX0_init, Cond.instanceMethod yX4_init, Cond.code yX4_init cX4_init 1 none]
def wsL_law_r3 : List Cond := [Cond.methodLink RX4 3 objectInit, Cond.arrayClass .char, Cond.fieldLink RX4 9 "RelayBank$Text" "characters" "[C", Cond.instanceMethod yX2_init, Cond.code yX2_init cX2_init 1 none, Cond.methodLink RX2 3 objectInit, Cond.fieldLink RX2 9 "RelayBank$CircuitReader" "branches" "[I", Cond.methodLink RL 77 yL_cell, Cond.static yL_cell, Cond.initialized RL, Cond.code yL_cell cL_cell 2 (some .int), Cond.methodLink RL 81 yL_tale, Cond.static yL_tale, Cond.code yL_tale cL_tale 6 (some .long), Cond.constantLong RL 8 (3), Cond.constantLong RL 10 (31), Cond.constantLong RL 18 (37), Cond.constantLong RL 24 (41), Cond.constantLong RL 30 (43), Cond.constantLong RL 35 (5), Cond.constantLong RL 37 (7), Cond.methodLink RL 12 yX5_count, Cond.instanceMethod yX5_count, Cond.selects RX5 yX5_count yX5_count]
def wsL_law_r4 : List Cond := [Cond.code yX5_count cX5_count 2 (some .int), Cond.methodLink RX5 156 yX0_waiting, Cond.instanceMethod yX0_waiting, Cond.selects RX0 yX0_waiting yX0_waiting, Cond.code yX0_waiting cX0_waiting 3 (some .int), Cond.methodLink RX5 166 yX0_closedContacts, Cond.instanceMethod yX0_closedContacts, Cond.selects RX0 yX0_closedContacts yX0_closedContacts, Cond.code yX0_closedContacts cX0_closedContacts 1 (some .int), Cond.fieldLink RX0 50 "RelayBank$Bank" "attracted" "I", Cond.fieldLink RX0 53 "RelayBank$Bank" "bouncing" "I", Cond.fieldLink RX0 59 "RelayBank$Bank" "alwaysOpen" "I", Cond.fieldLink RX0 62 "RelayBank$Bank" "alwaysClosed" "I", Cond.methodLink RL 20 yX5_relay, Cond.instanceMethod yX5_relay, Cond.selects RX5 yX5_relay yX5_relay, Cond.code yX5_relay cX5_relay 3 (some .int), Cond.methodLink RX5 59 yX0_has, Cond.instanceMethod yX0_has, Cond.selects RX0 yX0_has yX0_has, Cond.code yX0_has cX0_has 2 (some .boolean), Cond.fieldLink RX0 37 "RelayBank$Bank" "relays" "I", Cond.static yX5_isWithin, Cond.code yX5_isWithin cX5_isWithin 3 (some .boolean)]
def wsL_law_r5 : List Cond := [Cond.methodLink RX5 176 yX5_at, Cond.static yX5_at, Cond.code yX5_at cX5_at 2 (some .int), Cond.methodLink RX5 67 yX0_branchesOf, Cond.instanceMethod yX0_branchesOf, Cond.selects RX0 yX0_branchesOf yX0_branchesOf, Cond.code yX0_branchesOf cX0_branchesOf 2 (some .int), Cond.methodLink RX5 117 yX0_faultOf, Cond.instanceMethod yX0_faultOf, Cond.selects RX0 yX0_faultOf yX0_faultOf, Cond.code yX0_faultOf cX0_faultOf 2 (some .int), Cond.static yX5_isIn, Cond.code yX5_isIn cX5_isIn 2 (some .boolean), Cond.methodLink RX5 127 yX5_bitOf, Cond.static yX5_bitOf, Cond.code yX5_bitOf cX5_bitOf 2 (some .int), Cond.methodLink RX5 186 yX0_concerns, Cond.instanceMethod yX0_concerns, Cond.selects RX0 yX0_concerns yX0_concerns, Cond.code yX0_concerns cX0_concerns 5 (some .boolean), Cond.methodLink RX0 81 yX0_branchesOf, Cond.methodLink RX0 85 yX0_branchAt, Cond.instanceMethod yX0_branchAt, Cond.selects RX0 yX0_branchAt yX0_branchAt]
def wsL_law_r6 : List Cond := [Cond.code yX0_branchAt cX0_branchAt 3 (some .int), Cond.methodLink RX0 103 yX1_howOf, Cond.static yX1_howOf, Cond.initialized RX1, Cond.code yX1_howOf cX1_howOf 2 (some .int), Cond.methodLink RX1 9 yX1_bit, Cond.static yX1_bit, Cond.code yX1_bit cX1_bit 2 (some .int), Cond.methodLink RX5 189 yX0_failing, Cond.instanceMethod yX0_failing, Cond.selects RX0 yX0_failing yX0_failing, Cond.code yX0_failing cX0_failing 2 (some .int), Cond.fieldLink RX0 44 "RelayBank$Bank" "keys" "I", Cond.constant RX0 113 (65535), Cond.methodLink RX0 110 yX0_closedContacts, Cond.methodLink RX5 192 yX0_conducts, Cond.instanceMethod yX0_conducts, Cond.selects RX0 yX0_conducts yX0_conducts, Cond.code yX0_conducts cX0_conducts 6 (some .boolean), Cond.methodLink RL 26 yX5_condition, Cond.instanceMethod yX5_condition, Cond.selects RX5 yX5_condition yX5_condition, Cond.code yX5_condition cX5_condition 4 (some .int), Cond.methodLink RX5 71 yX5_isWithin]
def wsL_law_r7 : List Cond := [Cond.methodLink RX5 195 yX0_branchAt, Cond.methodLink RX5 198 yX1_howOf, Cond.methodLink RL 32 yX5_event, Cond.instanceMethod yX5_event, Cond.selects RX5 yX5_event yX5_event, Cond.code yX5_event cX5_event 4 (some .int), Cond.methodLink RX5 203 yX0_slotAt, Cond.instanceMethod yX0_slotAt, Cond.selects RX0 yX0_slotAt yX0_slotAt, Cond.code yX0_slotAt cX0_slotAt 3 (some .int), Cond.methodLink RX0 135 yX0_eventsBefore, Cond.instanceMethod yX0_eventsBefore, Cond.selects RX0 yX0_eventsBefore yX0_eventsBefore, Cond.code yX0_eventsBefore cX0_eventsBefore 5 (some .int), Cond.methodLink RX5 141 yX0_relayOf, Cond.static yX0_relayOf, Cond.code yX0_relayOf cX0_relayOf 1 (some .int), Cond.methodLink RX5 134 yX0_kindOf, Cond.instanceMethod yX0_kindOf, Cond.selects RX0 yX0_kindOf yX0_kindOf, Cond.code yX0_kindOf cX0_kindOf 2 (some .int), Cond.fieldLink RX0 47 "RelayBank$Bank" "fed" "I", Cond.methodLink RX0 124 yX0_isBounceEnd, Cond.static yX0_isBounceEnd]
def wsL_law_r8 : List Cond := [Cond.code yX0_isBounceEnd cX0_isBounceEnd 1 (some .boolean), Cond.methodLink RX0 128 yX0_relayOf, Cond.methodLink RL 85 yL_does, Cond.static yL_does, Cond.code yL_does cL_does 3 (some .int), Cond.methodLink RL 39 yL_low, Cond.static yL_low, Cond.code yL_low cL_low 2 (some .int), Cond.constant RL 7 (2147483647), Cond.methodLink RL 44 yX5_addRelay, Cond.instanceMethod yX5_addRelay, Cond.selects RX5 yX5_addRelay yX5_addRelay, Cond.code yX5_addRelay cX5_addRelay 4 (some .int), Cond.methodLink RX5 43 yX5_areDelays, Cond.static yX5_areDelays, Cond.code yX5_areDelays cX5_areDelays 3 (some .boolean), Cond.methodLink RX5 51 yX3_save, Cond.instanceMethod yX3_save, Cond.selects RX3 yX3_save yX3_save, Cond.code yX3_save cX3_save 3 none, Cond.fieldLink RX3 28 "RelayBank$Past" "size" "I", Cond.fieldLink RX3 18 "RelayBank$Past" "oldest" "I", Cond.methodLink RX3 22 yJ9_floorMod_7cf53, Cond.static yJ9_floorMod_7cf53]
def wsL_law_r9 : List Cond := [Cond.initialized RJ9, Cond.code yJ9_floorMod_7cf53 cJ9_floorMod_7cf53 3 (some .int), Cond.methodLink RX3 31 yX3_bankAt, Cond.instanceMethod yX3_bankAt, Cond.selects RX3 yX3_bankAt yX3_bankAt, Cond.code yX3_bankAt cX3_bankAt 3 (some (.object "RelayBank$Bank")), Cond.methodLink RX3 35 yX0_copy, Cond.instanceMethod yX0_copy, Cond.selects RX0 yX0_copy yX0_copy, Cond.code yX0_copy cX0_copy 2 none, Cond.methodLink RX0 31 arraycopyName, Cond.native arraycopyName, Cond.static arraycopyName, Cond.initialized "java/lang/System", Cond.fieldLink RX0 41 "RelayBank$Bank" "time" "I", Cond.fieldLink RX0 56 "RelayBank$Bank" "stuck" "I", Cond.methodLink RX5 55 yX0_add, Cond.instanceMethod yX0_add, Cond.selects RX0 yX0_add yX0_add, Cond.code yX0_add cX0_add 5 (some .int), Cond.methodLink RX0 69 yX0_putDelays, Cond.instanceMethod yX0_putDelays, Cond.selects RX0 yX0_putDelays yX0_putDelays, Cond.code yX0_putDelays cX0_putDelays 6 (some .boolean)]
def wsL_law_r10 : List Cond := [Cond.static yX5_put, Cond.code yX5_put cX5_put 3 none, Cond.methodLink RL 47 yX5_setDelays, Cond.instanceMethod yX5_setDelays, Cond.selects RX5 yX5_setDelays yX5_setDelays, Cond.code yX5_setDelays cX5_setDelays 5 (some .int), Cond.methodLink RX5 63 yX0_putDelays, Cond.methodLink RL 51 yX5_setCondition, Cond.instanceMethod yX5_setCondition, Cond.selects RX5 yX5_setCondition yX5_setCondition, Cond.code yX5_setCondition cX5_setCondition 5 (some .int), Cond.methodLink RX5 74 yX0_putCondition, Cond.instanceMethod yX0_putCondition, Cond.selects RX0 yX0_putCondition yX0_putCondition, Cond.code yX0_putCondition cX0_putCondition 7 (some .int), Cond.methodLink RX0 89 yX1_with, Cond.static yX1_with, Cond.code yX1_with cX1_with 4 (some .int), Cond.methodLink RX0 95 yX0_putBranch, Cond.instanceMethod yX0_putBranch, Cond.selects RX0 yX0_putBranch yX0_putBranch, Cond.code yX0_putBranch cX0_putBranch 4 none, Cond.methodLink RX0 99 yX0_lookAtCoils, Cond.instanceMethod yX0_lookAtCoils]
def wsL_law_r11 : List Cond := [Cond.selects RX0 yX0_lookAtCoils yX0_lookAtCoils, Cond.code yX0_lookAtCoils cX0_lookAtCoils 4 (some .int), Cond.methodLink RX0 114 yX0_failing, Cond.methodLink RX0 117 yX0_conducts, Cond.methodLink RX0 120 yX0_turnCoil, Cond.instanceMethod yX0_turnCoil, Cond.selects RX0 yX0_turnCoil yX0_turnCoil, Cond.code yX0_turnCoil cX0_turnCoil 3 none, Cond.methodLink RL 54 yX5_removeBranch, Cond.instanceMethod yX5_removeBranch, Cond.selects RX5 yX5_removeBranch yX5_removeBranch, Cond.code yX5_removeBranch cX5_removeBranch 3 (some .int), Cond.methodLink RX5 78 yX0_dropBranch, Cond.instanceMethod yX0_dropBranch, Cond.selects RX0 yX0_dropBranch yX0_dropBranch, Cond.code yX0_dropBranch cX0_dropBranch 5 (some .int), Cond.methodLink RL 57 yX5_press, Cond.instanceMethod yX5_press, Cond.selects RX5 yX5_press yX5_press, Cond.code yX5_press cX5_press 3 (some .int), Cond.methodLink RX5 104 yX5_isKey, Cond.static yX5_isKey, Cond.code yX5_isKey cX5_isKey 1 (some .boolean), Cond.methodLink RX5 110 yX5_isIn]
def wsL_law_r12 : List Cond := [Cond.methodLink RX5 114 yX0_turnKey, Cond.instanceMethod yX0_turnKey, Cond.selects RX0 yX0_turnKey yX0_turnKey, Cond.code yX0_turnKey cX0_turnKey 2 (some .int), Cond.methodLink RL 60 yX5_setFault, Cond.instanceMethod yX5_setFault, Cond.selects RX5 yX5_setFault yX5_setFault, Cond.code yX5_setFault cX5_setFault 4 (some .int), Cond.methodLink RX5 120 yX0_putFault, Cond.instanceMethod yX0_putFault, Cond.selects RX0 yX0_putFault yX0_putFault, Cond.code yX0_putFault cX0_putFault 4 none, Cond.methodLink RL 63 yX5_stick, Cond.instanceMethod yX5_stick, Cond.selects RX5 yX5_stick yX5_stick, Cond.code yX5_stick cX5_stick 4 (some .int), Cond.methodLink RL 66 yX5_settle, Cond.instanceMethod yX5_settle, Cond.selects RX5 yX5_settle yX5_settle, Cond.code yX5_settle cX5_settle 2 (some .int), Cond.constant RX5 144 (2147483647), Cond.methodLink RX5 145 yX0_run, Cond.instanceMethod yX0_run, Cond.selects RX0 yX0_run yX0_run]
def wsL_law_r13 : List Cond := [Cond.code yX0_run cX0_run 6 (some .int), Cond.methodLink RX0 131 yX0_nextSlot, Cond.instanceMethod yX0_nextSlot, Cond.selects RX0 yX0_nextSlot yX0_nextSlot, Cond.code yX0_nextSlot cX0_nextSlot 8 (some .int), Cond.methodLink RX0 141 yX0_happen, Cond.instanceMethod yX0_happen, Cond.selects RX0 yX0_happen yX0_happen, Cond.code yX0_happen cX0_happen 3 none, Cond.methodLink RX0 138 yX0_moveArmature, Cond.instanceMethod yX0_moveArmature, Cond.selects RX0 yX0_moveArmature yX0_moveArmature, Cond.code yX0_moveArmature cX0_moveArmature 3 none, Cond.methodLink RL 69 yX5_pass, Cond.instanceMethod yX5_pass, Cond.selects RX5 yX5_pass yX5_pass, Cond.code yX5_pass cX5_pass 4 (some .int), Cond.constant RX5 152 (100000), Cond.methodLink RX5 153 yX0_copy, Cond.methodLink RL 72 yX5_step, Cond.instanceMethod yX5_step, Cond.selects RX5 yX5_step yX5_step, Cond.code yX5_step cX5_step 3 (some .int), Cond.methodLink RX5 130 yX0_nextSlot]
def wsL_law_r14 : List Cond := [Cond.methodLink RX5 137 yX0_happen, Cond.methodLink RL 89 yX5_undo, Cond.instanceMethod yX5_undo, Cond.selects RX5 yX5_undo yX5_undo, Cond.code yX5_undo cX5_undo 1 (some .int), Cond.methodLink RX5 224 yX3_restore, Cond.instanceMethod yX3_restore, Cond.selects RX3 yX3_restore yX3_restore, Cond.code yX3_restore cX3_restore 3 (some .boolean), Cond.methodLink RL 92 yX5_isRace, Cond.instanceMethod yX5_isRace, Cond.selects RX5 yX5_isRace yX5_isRace, Cond.code yX5_isRace cX5_isRace 1 (some .int), Cond.methodLink RX5 213 yX5_raceIn, Cond.instanceMethod yX5_raceIn, Cond.selects RX5 yX5_raceIn yX5_raceIn, Cond.code yX5_raceIn cX5_raceIn 3 (some .int), Cond.methodLink RX5 209 yX5_endingOf, Cond.instanceMethod yX5_endingOf, Cond.selects RX5 yX5_endingOf yX5_endingOf, Cond.code yX5_endingOf cX5_endingOf 4 (some .int), Cond.methodLink RX5 217 yX0_isQuiet, Cond.instanceMethod yX0_isQuiet, Cond.selects RX0 yX0_isQuiet yX0_isQuiet]
def wsL_law_r15 : List Cond := [Cond.code yX0_isQuiet cX0_isQuiet 1 (some .boolean), Cond.methodLink RL 95 yX5_outcome, Cond.instanceMethod yX5_outcome, Cond.selects RX5 yX5_outcome yX5_outcome, Cond.code yX5_outcome cX5_outcome 3 (some .int)]
def wsL_law : List Cond := (wsL_law_r1 ++ (wsL_law_r2 ++ (wsL_law_r3 ++ (wsL_law_r4 ++ (wsL_law_r5 ++ (wsL_law_r6 ++ (wsL_law_r7 ++ (wsL_law_r8 ++ (wsL_law_r9 ++ (wsL_law_r10 ++ (wsL_law_r11 ++ (wsL_law_r12 ++ (wsL_law_r13 ++ (wsL_law_r14 ++ wsL_law_r15)))))))))))))) ++ wsX50 ++ wsX00 ++ wsX30 ++ wsX40 ++ wsX20 ++ ([] : List Cond)
theorem inlX0 : ∀ w ∈ wsX00, w ∈ wsL_law := fun _ h => List.mem_append_left _ (List.mem_append_left _ (List.mem_append_left _ (List.mem_append_left _ (List.mem_append_right _ h))))
theorem inlX2 : ∀ w ∈ wsX20, w ∈ wsL_law := fun _ h => List.mem_append_left _ (List.mem_append_right _ h)
theorem inlX3 : ∀ w ∈ wsX30, w ∈ wsL_law := fun _ h => List.mem_append_left _ (List.mem_append_left _ (List.mem_append_left _ (List.mem_append_right _ h)))
theorem inlX4 : ∀ w ∈ wsX40, w ∈ wsL_law := fun _ h => List.mem_append_left _ (List.mem_append_left _ (List.mem_append_right _ h))
theorem inlX5 : ∀ w ∈ wsX50, w ∈ wsL_law := fun _ h => List.mem_append_left _ (List.mem_append_left _ (List.mem_append_left _ (List.mem_append_left _ (List.mem_append_left _ (List.mem_append_right _ h)))))
abbrev vwCl : List vw_C := [(RX0, TX0, 15), (RX2, TX2, 4), (RX3, TX3, 3), (RX4, TX4, 2), (RX5, TX5, 6)]
end
section
theorem mem_ps {big : List Cond} (ws : List Cond) (ps : List Nat) (h : ws.map some = ps.map (fun i => big[i]?)) : ∀ w ∈ ws, w ∈ big := by
  intro w hw
  have h1 : some w ∈ ps.map (fun i => big[i]?) := by rw [← h]; exact List.mem_map.mpr ⟨w, hw, rfl⟩
  obtain ⟨i, -, hi⟩ := List.mem_map.mp h1
  exact List.mem_of_getElem? hi
set_option maxRecDepth 20000 in
theorem wsL_law_i1 : ∀ w ∈ wsL_law_r1, w ∈ lw_tbl := mem_ps _ [17, 18, 9, 19, 20, 21, 22, 23, 24, 25, 26, 10, 140, 90, 91, 11, 141, 110, 111, 12, 142, 124, 125, 13] (by decide +kernel)
set_option maxRecDepth 20000 in
theorem wsL_law_g1 : wsL_law_r1.all goodWord = true := by decide +kernel
set_option maxRecDepth 20000 in
theorem wsL_law_i2 : ∀ w ∈ wsL_law_r2, w ∈ lw_tbl := mem_ps _ [143, 144, 145, 27, 28, 29, 30, 89, 32, 34, 36, 38, 39, 40, 31, 92, 93, 94, 95, 96, 99, 98, 113, 114] (by decide +kernel)
set_option maxRecDepth 20000 in
theorem wsL_law_g2 : wsL_law_r2.all goodWord = true := by decide +kernel
set_option maxRecDepth 20000 in
theorem wsL_law_i3 : ∀ w ∈ wsL_law_r3, w ∈ lw_tbl := mem_ps _ [115, 123, 116, 127, 128, 129, 130, 322, 323, 8, 324, 325, 326, 327, 328, 329, 330, 331, 338, 339, 340, 159, 160, 161] (by decide +kernel)
set_option maxRecDepth 20000 in
theorem wsL_law_g3 : wsL_law_r3.all goodWord = true := by decide +kernel
set_option maxRecDepth 20000 in
theorem wsL_law_i4 : ∀ w ∈ wsL_law_r4, w ∈ lw_tbl := mem_ps _ [162, 163, 164, 165, 166, 167, 168, 169, 170, 50, 52, 56, 57, 171, 172, 173, 174, 175, 176, 177, 178, 43, 180, 181] (by decide +kernel)
set_option maxRecDepth 20000 in
theorem wsL_law_g4 : wsL_law_r4.all goodWord = true := by decide +kernel
set_option maxRecDepth 20000 in
theorem wsL_law_i5 : ∀ w ∈ wsL_law_r5, w ∈ lw_tbl := mem_ps _ [182, 183, 184, 185, 186, 187, 188, 190, 191, 192, 193, 195, 196, 197, 198, 199, 200, 201, 202, 203, 204, 205, 206, 207] (by decide +kernel)
set_option maxRecDepth 20000 in
theorem wsL_law_g5 : wsL_law_r5.all goodWord = true := by decide +kernel
set_option maxRecDepth 20000 in
theorem wsL_law_i6 : ∀ w ∈ wsL_law_r6, w ∈ lw_tbl := mem_ps _ [208, 209, 210, 14, 211, 212, 213, 214, 215, 216, 217, 218, 46, 220, 219, 221, 222, 223, 224, 332, 333, 334, 335, 229] (by decide +kernel)
set_option maxRecDepth 20000 in
theorem wsL_law_g6 : wsL_law_r6.all goodWord = true := by decide +kernel
set_option maxRecDepth 20000 in
theorem wsL_law_i7 : ∀ w ∈ wsL_law_r7, w ∈ lw_tbl := mem_ps _ [336, 337, 225, 226, 227, 228, 230, 231, 232, 233, 234, 236, 0, 237, 238, 239, 240, 241, 242, 243, 244, 48, 245, 246] (by decide +kernel)
set_option maxRecDepth 20000 in
theorem wsL_law_g7 : wsL_law_r7.all goodWord = true := by decide +kernel
set_option maxRecDepth 20000 in
theorem wsL_law_i8 : ∀ w ∈ wsL_law_r8, w ∈ lw_tbl := mem_ps _ [247, 248, 341, 342, 343, 344, 345, 346, 347, 348, 349, 350, 351, 352, 353, 354, 355, 356, 357, 358, 101, 100, 318, 319] (by decide +kernel)
set_option maxRecDepth 20000 in
theorem wsL_law_g8 : wsL_law_r8.all goodWord = true := by decide +kernel
set_option maxRecDepth 20000 in
theorem wsL_law_i9 : ∀ w ∈ wsL_law_r9, w ∈ lw_tbl := mem_ps _ [15, 320, 314, 316, 6, 317, 321, 258, 259, 260, 261, 263, 262, 16, 44, 54, 359, 360, 361, 362, 363, 364, 365, 366] (by decide +kernel)
set_option maxRecDepth 20000 in
theorem wsL_law_g9 : wsL_law_r9.all goodWord = true := by decide +kernel
set_option maxRecDepth 20000 in
theorem wsL_law_i10 : ∀ w ∈ wsL_law_r10, w ∈ lw_tbl := mem_ps _ [278, 279, 367, 368, 369, 370, 371, 372, 373, 374, 375, 376, 377, 378, 379, 380, 381, 382, 383, 385, 7, 386, 284, 286] (by decide +kernel)
set_option maxRecDepth 20000 in
theorem wsL_law_g10 : wsL_law_r10.all goodWord = true := by decide +kernel
set_option maxRecDepth 20000 in
theorem wsL_law_i11 : ∀ w ∈ wsL_law_r11, w ∈ lw_tbl := mem_ps _ [3, 287, 288, 289, 290, 292, 4, 293, 387, 388, 389, 390, 391, 392, 393, 394, 395, 396, 397, 398, 399, 400, 401, 402] (by decide +kernel)
set_option maxRecDepth 20000 in
theorem wsL_law_g11 : wsL_law_r11.all goodWord = true := by decide +kernel
set_option maxRecDepth 20000 in
theorem wsL_law_i12 : ∀ w ∈ wsL_law_r12, w ∈ lw_tbl := mem_ps _ [403, 404, 405, 406, 407, 408, 409, 410, 411, 412, 413, 414, 415, 416, 417, 418, 419, 420, 421, 422, 264, 265, 266, 267] (by decide +kernel)
set_option maxRecDepth 20000 in
theorem wsL_law_g12 : wsL_law_r12.all goodWord = true := by decide +kernel
set_option maxRecDepth 20000 in
theorem wsL_law_i13 : ∀ w ∈ wsL_law_r13, w ∈ lw_tbl := mem_ps _ [268, 269, 270, 271, 272, 273, 274, 275, 276, 280, 282, 2, 283, 423, 424, 425, 426, 427, 257, 428, 429, 430, 431, 432] (by decide +kernel)
set_option maxRecDepth 20000 in
theorem wsL_law_g13 : wsL_law_r13.all goodWord = true := by decide +kernel
set_option maxRecDepth 20000 in
theorem wsL_law_i14 : ∀ w ∈ wsL_law_r14, w ∈ lw_tbl := mem_ps _ [433, 306, 307, 308, 309, 310, 311, 312, 313, 298, 299, 300, 301, 302, 304, 5, 305, 253, 255, 1, 256, 294, 295, 296] (by decide +kernel)
set_option maxRecDepth 20000 in
theorem wsL_law_g14 : wsL_law_r14.all goodWord = true := by decide +kernel
set_option maxRecDepth 20000 in
theorem wsL_law_i15 : ∀ w ∈ wsL_law_r15, w ∈ lw_tbl := mem_ps _ [297, 249, 250, 251, 252] (by decide +kernel)
set_option maxRecDepth 20000 in
theorem wsL_law_g15 : wsL_law_r15.all goodWord = true := by decide +kernel
theorem wsl_X0_i : ∀ w ∈ wsX00, w ∈ lw_tbl := mem_ps _ [58, 60, 62, 64, 66, 68, 70, 72, 74, 76, 78, 80, 82, 84, 86] (by decide +kernel)
theorem wsl_X0_g : wsX00.all goodWord = true := by decide +kernel
theorem wsl_X2_i : ∀ w ∈ wsX20, w ∈ lw_tbl := mem_ps _ [131, 133, 135, 137] (by decide +kernel)
theorem wsl_X2_g : wsX20.all goodWord = true := by decide +kernel
theorem wsl_X3_i : ∀ w ∈ wsX30, w ∈ lw_tbl := mem_ps _ [103, 105, 107] (by decide +kernel)
theorem wsl_X3_g : wsX30.all goodWord = true := by decide +kernel
theorem wsl_X4_i : ∀ w ∈ wsX40, w ∈ lw_tbl := mem_ps _ [118, 120] (by decide +kernel)
theorem wsl_X4_g : wsX40.all goodWord = true := by decide +kernel
theorem wsl_X5_i : ∀ w ∈ wsX50, w ∈ lw_tbl := mem_ps _ [146, 148, 150, 152, 154, 156] (by decide +kernel)
theorem wsl_X5_g : wsX50.all goodWord = true := by decide +kernel
theorem wsL_law_in : ∀ w ∈ wsL_law, w ∈ lw_tbl := by
  unfold wsL_law
  exact List.forall_mem_append.mpr ⟨List.forall_mem_append.mpr ⟨List.forall_mem_append.mpr ⟨List.forall_mem_append.mpr ⟨List.forall_mem_append.mpr ⟨List.forall_mem_append.mpr ⟨List.forall_mem_append.mpr ⟨wsL_law_i1, List.forall_mem_append.mpr ⟨wsL_law_i2, List.forall_mem_append.mpr ⟨wsL_law_i3, List.forall_mem_append.mpr ⟨wsL_law_i4, List.forall_mem_append.mpr ⟨wsL_law_i5, List.forall_mem_append.mpr ⟨wsL_law_i6, List.forall_mem_append.mpr ⟨wsL_law_i7, List.forall_mem_append.mpr ⟨wsL_law_i8, List.forall_mem_append.mpr ⟨wsL_law_i9, List.forall_mem_append.mpr ⟨wsL_law_i10, List.forall_mem_append.mpr ⟨wsL_law_i11, List.forall_mem_append.mpr ⟨wsL_law_i12, List.forall_mem_append.mpr ⟨wsL_law_i13, List.forall_mem_append.mpr ⟨wsL_law_i14, wsL_law_i15⟩⟩⟩⟩⟩⟩⟩⟩⟩⟩⟩⟩⟩⟩, wsl_X5_i⟩, wsl_X0_i⟩, wsl_X3_i⟩, wsl_X4_i⟩, wsl_X2_i⟩, (fun _ h => absurd h List.not_mem_nil)⟩
theorem wsL_law_gd : ∀ w ∈ wsL_law, goodWord w = true := by
  unfold wsL_law
  exact List.forall_mem_append.mpr ⟨List.forall_mem_append.mpr ⟨List.forall_mem_append.mpr ⟨List.forall_mem_append.mpr ⟨List.forall_mem_append.mpr ⟨List.forall_mem_append.mpr ⟨List.forall_mem_append.mpr ⟨(List.all_eq_true.mp wsL_law_g1), List.forall_mem_append.mpr ⟨(List.all_eq_true.mp wsL_law_g2), List.forall_mem_append.mpr ⟨(List.all_eq_true.mp wsL_law_g3), List.forall_mem_append.mpr ⟨(List.all_eq_true.mp wsL_law_g4), List.forall_mem_append.mpr ⟨(List.all_eq_true.mp wsL_law_g5), List.forall_mem_append.mpr ⟨(List.all_eq_true.mp wsL_law_g6), List.forall_mem_append.mpr ⟨(List.all_eq_true.mp wsL_law_g7), List.forall_mem_append.mpr ⟨(List.all_eq_true.mp wsL_law_g8), List.forall_mem_append.mpr ⟨(List.all_eq_true.mp wsL_law_g9), List.forall_mem_append.mpr ⟨(List.all_eq_true.mp wsL_law_g10), List.forall_mem_append.mpr ⟨(List.all_eq_true.mp wsL_law_g11), List.forall_mem_append.mpr ⟨(List.all_eq_true.mp wsL_law_g12), List.forall_mem_append.mpr ⟨(List.all_eq_true.mp wsL_law_g13), List.forall_mem_append.mpr ⟨(List.all_eq_true.mp wsL_law_g14), (List.all_eq_true.mp wsL_law_g15)⟩⟩⟩⟩⟩⟩⟩⟩⟩⟩⟩⟩⟩⟩, (List.all_eq_true.mp wsl_X5_g)⟩, (List.all_eq_true.mp wsl_X0_g)⟩, (List.all_eq_true.mp wsl_X3_g)⟩, (List.all_eq_true.mp wsl_X4_g)⟩, (List.all_eq_true.mp wsl_X2_g)⟩, (fun _ h => absurd h List.not_mem_nil)⟩
theorem wsL_GI : GoodIn wsL_law wsL_law := fun w h => ⟨h, good_of_word (wsL_law_gd w h)⟩
end
section
theorem dX0_init_0 : decode cX0_init 0 = .ok (.aload_n 0, 1) := by decide +kernel
theorem dX0_init_1 : decode cX0_init 1 = .ok (.invokespecial 3, 3) := by decide +kernel
theorem dX0_init_4 : decode cX0_init 4 = .ok (.aload_n 0, 1) := by decide +kernel
theorem dX0_init_5 : decode cX0_init 5 = .ok (.bipush 8, 2) := by decide +kernel
theorem dX0_init_7 : decode cX0_init 7 = .ok (.newarray .int, 2) := by decide +kernel
theorem dX0_init_9 : decode cX0_init 9 = .ok (.putfield 9, 3) := by decide +kernel
theorem dX0_init_12 : decode cX0_init 12 = .ok (.aload_n 0, 1) := by decide +kernel
theorem dX0_init_13 : decode cX0_init 13 = .ok (.bipush 8, 2) := by decide +kernel
theorem dX0_init_15 : decode cX0_init 15 = .ok (.newarray .int, 2) := by decide +kernel
theorem dX0_init_17 : decode cX0_init 17 = .ok (.putfield 15, 3) := by decide +kernel
theorem dX0_init_20 : decode cX0_init 20 = .ok (.aload_n 0, 1) := by decide +kernel
theorem dX0_init_21 : decode cX0_init 21 = .ok (.bipush 8, 2) := by decide +kernel
theorem dX0_init_23 : decode cX0_init 23 = .ok (.newarray .int, 2) := by decide +kernel
theorem dX0_init_25 : decode cX0_init 25 = .ok (.putfield 18, 3) := by decide +kernel
theorem dX0_init_28 : decode cX0_init 28 = .ok (.aload_n 0, 1) := by decide +kernel
theorem dX0_init_29 : decode cX0_init 29 = .ok (.bipush 8, 2) := by decide +kernel
theorem dX0_init_31 : decode cX0_init 31 = .ok (.newarray .int, 2) := by decide +kernel
theorem dX0_init_33 : decode cX0_init 33 = .ok (.putfield 21, 3) := by decide +kernel
theorem dX0_init_36 : decode cX0_init 36 = .ok (.aload_n 0, 1) := by decide +kernel
theorem dX0_init_37 : decode cX0_init 37 = .ok (.bipush 48, 2) := by decide +kernel
theorem dX0_init_39 : decode cX0_init 39 = .ok (.newarray .int, 2) := by decide +kernel
theorem dX0_init_41 : decode cX0_init 41 = .ok (.putfield 24, 3) := by decide +kernel
theorem dX0_init_44 : decode cX0_init 44 = .ok (.aload_n 0, 1) := by decide +kernel
theorem dX0_init_45 : decode cX0_init 45 = .ok (.bipush 16, 2) := by decide +kernel
theorem dX0_init_47 : decode cX0_init 47 = .ok (.newarray .int, 2) := by decide +kernel
theorem dX0_init_49 : decode cX0_init 49 = .ok (.putfield 27, 3) := by decide +kernel
theorem dX0_init_52 : decode cX0_init 52 = .ok (.iconst 0, 1) := by decide +kernel
theorem dX0_init_53 : decode cX0_init 53 = .ok (.istore_n 1, 1) := by decide +kernel
theorem dX0_init_54 : decode cX0_init 54 = .ok (.iload_n 1, 1) := by decide +kernel
theorem dX0_init_55 : decode cX0_init 55 = .ok (.aload_n 0, 1) := by decide +kernel
theorem dX0_init_56 : decode cX0_init 56 = .ok (.getfield 27, 3) := by decide +kernel
theorem dX0_init_59 : decode cX0_init 59 = .ok (.arraylength, 1) := by decide +kernel
theorem dX0_init_60 : decode cX0_init 60 = .ok (.if_icmp .ge 17, 3) := by decide +kernel
theorem dX0_init_63 : decode cX0_init 63 = .ok (.aload_n 0, 1) := by decide +kernel
theorem dX0_init_64 : decode cX0_init 64 = .ok (.getfield 27, 3) := by decide +kernel
theorem dX0_init_67 : decode cX0_init 67 = .ok (.iload_n 1, 1) := by decide +kernel
theorem dX0_init_68 : decode cX0_init 68 = .ok (.ldc 30, 2) := by decide +kernel
theorem dX0_init_70 : decode cX0_init 70 = .ok (.iastore, 1) := by decide +kernel
theorem dX0_init_71 : decode cX0_init 71 = .ok (.iinc 1 1, 3) := by decide +kernel
theorem dX0_init_74 : decode cX0_init 74 = .ok (.goto (-20), 3) := by decide +kernel
theorem dX0_init_77 : decode cX0_init 77 = .ok (.return_, 1) := by decide +kernel
theorem dX0_copy_0 : decode cX0_copy 0 = .ok (.aload_n 1, 1) := by decide +kernel
theorem dX0_copy_1 : decode cX0_copy 1 = .ok (.getfield 9, 3) := by decide +kernel
theorem dX0_copy_4 : decode cX0_copy 4 = .ok (.iconst 0, 1) := by decide +kernel
theorem dX0_copy_5 : decode cX0_copy 5 = .ok (.aload_n 0, 1) := by decide +kernel
theorem dX0_copy_6 : decode cX0_copy 6 = .ok (.getfield 9, 3) := by decide +kernel
theorem dX0_copy_9 : decode cX0_copy 9 = .ok (.iconst 0, 1) := by decide +kernel
theorem dX0_copy_10 : decode cX0_copy 10 = .ok (.bipush 8, 2) := by decide +kernel
theorem dX0_copy_12 : decode cX0_copy 12 = .ok (.invokestatic 31, 3) := by decide +kernel
theorem dX0_copy_15 : decode cX0_copy 15 = .ok (.aload_n 1, 1) := by decide +kernel
theorem dX0_copy_16 : decode cX0_copy 16 = .ok (.getfield 15, 3) := by decide +kernel
theorem dX0_copy_19 : decode cX0_copy 19 = .ok (.iconst 0, 1) := by decide +kernel
theorem dX0_copy_20 : decode cX0_copy 20 = .ok (.aload_n 0, 1) := by decide +kernel
theorem dX0_copy_21 : decode cX0_copy 21 = .ok (.getfield 15, 3) := by decide +kernel
theorem dX0_copy_24 : decode cX0_copy 24 = .ok (.iconst 0, 1) := by decide +kernel
theorem dX0_copy_25 : decode cX0_copy 25 = .ok (.bipush 8, 2) := by decide +kernel
theorem dX0_copy_27 : decode cX0_copy 27 = .ok (.invokestatic 31, 3) := by decide +kernel
theorem dX0_copy_30 : decode cX0_copy 30 = .ok (.aload_n 1, 1) := by decide +kernel
theorem dX0_copy_31 : decode cX0_copy 31 = .ok (.getfield 18, 3) := by decide +kernel
theorem dX0_copy_34 : decode cX0_copy 34 = .ok (.iconst 0, 1) := by decide +kernel
theorem dX0_copy_35 : decode cX0_copy 35 = .ok (.aload_n 0, 1) := by decide +kernel
theorem dX0_copy_36 : decode cX0_copy 36 = .ok (.getfield 18, 3) := by decide +kernel
theorem dX0_copy_39 : decode cX0_copy 39 = .ok (.iconst 0, 1) := by decide +kernel
theorem dX0_copy_40 : decode cX0_copy 40 = .ok (.bipush 8, 2) := by decide +kernel
theorem dX0_copy_42 : decode cX0_copy 42 = .ok (.invokestatic 31, 3) := by decide +kernel
theorem dX0_copy_45 : decode cX0_copy 45 = .ok (.aload_n 1, 1) := by decide +kernel
theorem dX0_copy_46 : decode cX0_copy 46 = .ok (.getfield 21, 3) := by decide +kernel
theorem dX0_copy_49 : decode cX0_copy 49 = .ok (.iconst 0, 1) := by decide +kernel
theorem dX0_copy_50 : decode cX0_copy 50 = .ok (.aload_n 0, 1) := by decide +kernel
theorem dX0_copy_51 : decode cX0_copy 51 = .ok (.getfield 21, 3) := by decide +kernel
theorem dX0_copy_54 : decode cX0_copy 54 = .ok (.iconst 0, 1) := by decide +kernel
theorem dX0_copy_55 : decode cX0_copy 55 = .ok (.bipush 8, 2) := by decide +kernel
theorem dX0_copy_57 : decode cX0_copy 57 = .ok (.invokestatic 31, 3) := by decide +kernel
theorem dX0_copy_60 : decode cX0_copy 60 = .ok (.aload_n 1, 1) := by decide +kernel
theorem dX0_copy_61 : decode cX0_copy 61 = .ok (.getfield 24, 3) := by decide +kernel
theorem dX0_copy_64 : decode cX0_copy 64 = .ok (.iconst 0, 1) := by decide +kernel
theorem dX0_copy_65 : decode cX0_copy 65 = .ok (.aload_n 0, 1) := by decide +kernel
theorem dX0_copy_66 : decode cX0_copy 66 = .ok (.getfield 24, 3) := by decide +kernel
theorem dX0_copy_69 : decode cX0_copy 69 = .ok (.iconst 0, 1) := by decide +kernel
theorem dX0_copy_70 : decode cX0_copy 70 = .ok (.bipush 48, 2) := by decide +kernel
theorem dX0_copy_72 : decode cX0_copy 72 = .ok (.invokestatic 31, 3) := by decide +kernel
theorem dX0_copy_75 : decode cX0_copy 75 = .ok (.aload_n 1, 1) := by decide +kernel
theorem dX0_copy_76 : decode cX0_copy 76 = .ok (.getfield 27, 3) := by decide +kernel
theorem dX0_copy_79 : decode cX0_copy 79 = .ok (.iconst 0, 1) := by decide +kernel
theorem dX0_copy_80 : decode cX0_copy 80 = .ok (.aload_n 0, 1) := by decide +kernel
theorem dX0_copy_81 : decode cX0_copy 81 = .ok (.getfield 27, 3) := by decide +kernel
theorem dX0_copy_84 : decode cX0_copy 84 = .ok (.iconst 0, 1) := by decide +kernel
theorem dX0_copy_85 : decode cX0_copy 85 = .ok (.bipush 16, 2) := by decide +kernel
theorem dX0_copy_87 : decode cX0_copy 87 = .ok (.invokestatic 31, 3) := by decide +kernel
theorem dX0_copy_90 : decode cX0_copy 90 = .ok (.aload_n 0, 1) := by decide +kernel
theorem dX0_copy_91 : decode cX0_copy 91 = .ok (.aload_n 1, 1) := by decide +kernel
theorem dX0_copy_92 : decode cX0_copy 92 = .ok (.getfield 37, 3) := by decide +kernel
theorem dX0_copy_95 : decode cX0_copy 95 = .ok (.putfield 37, 3) := by decide +kernel
theorem dX0_copy_98 : decode cX0_copy 98 = .ok (.aload_n 0, 1) := by decide +kernel
theorem dX0_copy_99 : decode cX0_copy 99 = .ok (.aload_n 1, 1) := by decide +kernel
theorem dX0_copy_100 : decode cX0_copy 100 = .ok (.getfield 41, 3) := by decide +kernel
theorem dX0_copy_103 : decode cX0_copy 103 = .ok (.putfield 41, 3) := by decide +kernel
theorem dX0_copy_106 : decode cX0_copy 106 = .ok (.aload_n 0, 1) := by decide +kernel
theorem dX0_copy_107 : decode cX0_copy 107 = .ok (.aload_n 1, 1) := by decide +kernel
theorem dX0_copy_108 : decode cX0_copy 108 = .ok (.getfield 44, 3) := by decide +kernel
theorem dX0_copy_111 : decode cX0_copy 111 = .ok (.putfield 44, 3) := by decide +kernel
theorem dX0_copy_114 : decode cX0_copy 114 = .ok (.aload_n 0, 1) := by decide +kernel
theorem dX0_copy_115 : decode cX0_copy 115 = .ok (.aload_n 1, 1) := by decide +kernel
theorem dX0_copy_116 : decode cX0_copy 116 = .ok (.getfield 47, 3) := by decide +kernel
theorem dX0_copy_119 : decode cX0_copy 119 = .ok (.putfield 47, 3) := by decide +kernel
theorem dX0_copy_122 : decode cX0_copy 122 = .ok (.aload_n 0, 1) := by decide +kernel
theorem dX0_copy_123 : decode cX0_copy 123 = .ok (.aload_n 1, 1) := by decide +kernel
theorem dX0_copy_124 : decode cX0_copy 124 = .ok (.getfield 50, 3) := by decide +kernel
theorem dX0_copy_127 : decode cX0_copy 127 = .ok (.putfield 50, 3) := by decide +kernel
theorem dX0_copy_130 : decode cX0_copy 130 = .ok (.aload_n 0, 1) := by decide +kernel
theorem dX0_copy_131 : decode cX0_copy 131 = .ok (.aload_n 1, 1) := by decide +kernel
theorem dX0_copy_132 : decode cX0_copy 132 = .ok (.getfield 53, 3) := by decide +kernel
theorem dX0_copy_135 : decode cX0_copy 135 = .ok (.putfield 53, 3) := by decide +kernel
theorem dX0_copy_138 : decode cX0_copy 138 = .ok (.aload_n 0, 1) := by decide +kernel
theorem dX0_copy_139 : decode cX0_copy 139 = .ok (.aload_n 1, 1) := by decide +kernel
theorem dX0_copy_140 : decode cX0_copy 140 = .ok (.getfield 56, 3) := by decide +kernel
theorem dX0_copy_143 : decode cX0_copy 143 = .ok (.putfield 56, 3) := by decide +kernel
theorem dX0_copy_146 : decode cX0_copy 146 = .ok (.aload_n 0, 1) := by decide +kernel
theorem dX0_copy_147 : decode cX0_copy 147 = .ok (.aload_n 1, 1) := by decide +kernel
theorem dX0_copy_148 : decode cX0_copy 148 = .ok (.getfield 59, 3) := by decide +kernel
theorem dX0_copy_151 : decode cX0_copy 151 = .ok (.putfield 59, 3) := by decide +kernel
theorem dX0_copy_154 : decode cX0_copy 154 = .ok (.aload_n 0, 1) := by decide +kernel
theorem dX0_copy_155 : decode cX0_copy 155 = .ok (.aload_n 1, 1) := by decide +kernel
theorem dX0_copy_156 : decode cX0_copy 156 = .ok (.getfield 62, 3) := by decide +kernel
theorem dX0_copy_159 : decode cX0_copy 159 = .ok (.putfield 62, 3) := by decide +kernel
theorem dX0_copy_162 : decode cX0_copy 162 = .ok (.return_, 1) := by decide +kernel
theorem dX0_has_0 : decode cX0_has 0 = .ok (.iload_n 1, 1) := by decide +kernel
theorem dX0_has_1 : decode cX0_has 1 = .ok (.iconst 0, 1) := by decide +kernel
theorem dX0_has_2 : decode cX0_has 2 = .ok (.aload_n 0, 1) := by decide +kernel
theorem dX0_has_3 : decode cX0_has 3 = .ok (.getfield 37, 3) := by decide +kernel
theorem dX0_has_6 : decode cX0_has 6 = .ok (.iconst 1, 1) := by decide +kernel
theorem dX0_has_7 : decode cX0_has 7 = .ok (.isub, 1) := by decide +kernel
theorem dX0_has_8 : decode cX0_has 8 = .ok (.invokestatic 65, 3) := by decide +kernel
theorem dX0_has_11 : decode cX0_has 11 = .ok (.ireturn, 1) := by decide +kernel
theorem dX0_add_0 : decode cX0_add 0 = .ok (.aload_n 0, 1) := by decide +kernel
theorem dX0_add_1 : decode cX0_add 1 = .ok (.getfield 37, 3) := by decide +kernel
theorem dX0_add_4 : decode cX0_add 4 = .ok (.istore 4, 2) := by decide +kernel
theorem dX0_add_6 : decode cX0_add 6 = .ok (.aload_n 0, 1) := by decide +kernel
theorem dX0_add_7 : decode cX0_add 7 = .ok (.dup, 1) := by decide +kernel
theorem dX0_add_8 : decode cX0_add 8 = .ok (.getfield 37, 3) := by decide +kernel
theorem dX0_add_11 : decode cX0_add 11 = .ok (.iconst 1, 1) := by decide +kernel
theorem dX0_add_12 : decode cX0_add 12 = .ok (.iadd, 1) := by decide +kernel
theorem dX0_add_13 : decode cX0_add 13 = .ok (.putfield 37, 3) := by decide +kernel
theorem dX0_add_16 : decode cX0_add 16 = .ok (.aload_n 0, 1) := by decide +kernel
theorem dX0_add_17 : decode cX0_add 17 = .ok (.iload 4, 2) := by decide +kernel
theorem dX0_add_19 : decode cX0_add 19 = .ok (.iload_n 1, 1) := by decide +kernel
theorem dX0_add_20 : decode cX0_add 20 = .ok (.iload_n 2, 1) := by decide +kernel
theorem dX0_add_21 : decode cX0_add 21 = .ok (.iload_n 3, 1) := by decide +kernel
theorem dX0_add_22 : decode cX0_add 22 = .ok (.invokevirtual 69, 3) := by decide +kernel
theorem dX0_add_25 : decode cX0_add 25 = .ok (.pop, 1) := by decide +kernel
theorem dX0_add_26 : decode cX0_add 26 = .ok (.iload 4, 2) := by decide +kernel
theorem dX0_add_28 : decode cX0_add 28 = .ok (.ireturn, 1) := by decide +kernel
theorem dX0_putDelays_0 : decode cX0_putDelays 0 = .ok (.aload_n 0, 1) := by decide +kernel
theorem dX0_putDelays_1 : decode cX0_putDelays 1 = .ok (.getfield 9, 3) := by decide +kernel
theorem dX0_putDelays_4 : decode cX0_putDelays 4 = .ok (.iload_n 1, 1) := by decide +kernel
theorem dX0_putDelays_5 : decode cX0_putDelays 5 = .ok (.invokestatic 73, 3) := by decide +kernel
theorem dX0_putDelays_8 : decode cX0_putDelays 8 = .ok (.iload_n 2, 1) := by decide +kernel
theorem dX0_putDelays_9 : decode cX0_putDelays 9 = .ok (.if_icmp .ne 32, 3) := by decide +kernel
theorem dX0_putDelays_12 : decode cX0_putDelays 12 = .ok (.aload_n 0, 1) := by decide +kernel
theorem dX0_putDelays_13 : decode cX0_putDelays 13 = .ok (.getfield 15, 3) := by decide +kernel
theorem dX0_putDelays_16 : decode cX0_putDelays 16 = .ok (.iload_n 1, 1) := by decide +kernel
theorem dX0_putDelays_17 : decode cX0_putDelays 17 = .ok (.invokestatic 73, 3) := by decide +kernel
theorem dX0_putDelays_20 : decode cX0_putDelays 20 = .ok (.iload_n 3, 1) := by decide +kernel
theorem dX0_putDelays_21 : decode cX0_putDelays 21 = .ok (.if_icmp .ne 20, 3) := by decide +kernel
theorem dX0_putDelays_24 : decode cX0_putDelays 24 = .ok (.aload_n 0, 1) := by decide +kernel
theorem dX0_putDelays_25 : decode cX0_putDelays 25 = .ok (.getfield 18, 3) := by decide +kernel
theorem dX0_putDelays_28 : decode cX0_putDelays 28 = .ok (.iload_n 1, 1) := by decide +kernel
theorem dX0_putDelays_29 : decode cX0_putDelays 29 = .ok (.invokestatic 73, 3) := by decide +kernel
theorem dX0_putDelays_32 : decode cX0_putDelays 32 = .ok (.iload 4, 2) := by decide +kernel
theorem dX0_putDelays_34 : decode cX0_putDelays 34 = .ok (.if_icmp .ne 7, 3) := by decide +kernel
theorem dX0_putDelays_37 : decode cX0_putDelays 37 = .ok (.iconst 1, 1) := by decide +kernel
theorem dX0_putDelays_38 : decode cX0_putDelays 38 = .ok (.goto 4, 3) := by decide +kernel
theorem dX0_putDelays_41 : decode cX0_putDelays 41 = .ok (.iconst 0, 1) := by decide +kernel
theorem dX0_putDelays_42 : decode cX0_putDelays 42 = .ok (.istore 5, 2) := by decide +kernel
theorem dX0_putDelays_44 : decode cX0_putDelays 44 = .ok (.aload_n 0, 1) := by decide +kernel
theorem dX0_putDelays_45 : decode cX0_putDelays 45 = .ok (.getfield 9, 3) := by decide +kernel
theorem dX0_putDelays_48 : decode cX0_putDelays 48 = .ok (.iload_n 1, 1) := by decide +kernel
theorem dX0_putDelays_49 : decode cX0_putDelays 49 = .ok (.iload_n 2, 1) := by decide +kernel
theorem dX0_putDelays_50 : decode cX0_putDelays 50 = .ok (.invokestatic 77, 3) := by decide +kernel
theorem dX0_putDelays_53 : decode cX0_putDelays 53 = .ok (.aload_n 0, 1) := by decide +kernel
theorem dX0_putDelays_54 : decode cX0_putDelays 54 = .ok (.getfield 15, 3) := by decide +kernel
theorem dX0_putDelays_57 : decode cX0_putDelays 57 = .ok (.iload_n 1, 1) := by decide +kernel
theorem dX0_putDelays_58 : decode cX0_putDelays 58 = .ok (.iload_n 3, 1) := by decide +kernel
theorem dX0_putDelays_59 : decode cX0_putDelays 59 = .ok (.invokestatic 77, 3) := by decide +kernel
theorem dX0_putDelays_62 : decode cX0_putDelays 62 = .ok (.aload_n 0, 1) := by decide +kernel
theorem dX0_putDelays_63 : decode cX0_putDelays 63 = .ok (.getfield 18, 3) := by decide +kernel
theorem dX0_putDelays_66 : decode cX0_putDelays 66 = .ok (.iload_n 1, 1) := by decide +kernel
theorem dX0_putDelays_67 : decode cX0_putDelays 67 = .ok (.iload 4, 2) := by decide +kernel
theorem dX0_putDelays_69 : decode cX0_putDelays 69 = .ok (.invokestatic 77, 3) := by decide +kernel
theorem dX0_putDelays_72 : decode cX0_putDelays 72 = .ok (.iload 5, 2) := by decide +kernel
theorem dX0_putDelays_74 : decode cX0_putDelays 74 = .ok (.ifCond .ne 7, 3) := by decide +kernel
theorem dX0_putDelays_77 : decode cX0_putDelays 77 = .ok (.iconst 1, 1) := by decide +kernel
theorem dX0_putDelays_78 : decode cX0_putDelays 78 = .ok (.goto 4, 3) := by decide +kernel
theorem dX0_putDelays_81 : decode cX0_putDelays 81 = .ok (.iconst 0, 1) := by decide +kernel
theorem dX0_putDelays_82 : decode cX0_putDelays 82 = .ok (.ireturn, 1) := by decide +kernel
theorem dX0_branchesOf_0 : decode cX0_branchesOf 0 = .ok (.aload_n 0, 1) := by decide +kernel
theorem dX0_branchesOf_1 : decode cX0_branchesOf 1 = .ok (.getfield 21, 3) := by decide +kernel
theorem dX0_branchesOf_4 : decode cX0_branchesOf 4 = .ok (.iload_n 1, 1) := by decide +kernel
theorem dX0_branchesOf_5 : decode cX0_branchesOf 5 = .ok (.invokestatic 73, 3) := by decide +kernel
theorem dX0_branchesOf_8 : decode cX0_branchesOf 8 = .ok (.ireturn, 1) := by decide +kernel
theorem dX0_branchAt_0 : decode cX0_branchAt 0 = .ok (.aload_n 0, 1) := by decide +kernel
theorem dX0_branchAt_1 : decode cX0_branchAt 1 = .ok (.getfield 24, 3) := by decide +kernel
theorem dX0_branchAt_4 : decode cX0_branchAt 4 = .ok (.iload_n 1, 1) := by decide +kernel
theorem dX0_branchAt_5 : decode cX0_branchAt 5 = .ok (.bipush 6, 2) := by decide +kernel
theorem dX0_branchAt_7 : decode cX0_branchAt 7 = .ok (.imul, 1) := by decide +kernel
theorem dX0_branchAt_8 : decode cX0_branchAt 8 = .ok (.iload_n 2, 1) := by decide +kernel
theorem dX0_branchAt_9 : decode cX0_branchAt 9 = .ok (.iadd, 1) := by decide +kernel
theorem dX0_branchAt_10 : decode cX0_branchAt 10 = .ok (.invokestatic 73, 3) := by decide +kernel
theorem dX0_branchAt_13 : decode cX0_branchAt 13 = .ok (.ireturn, 1) := by decide +kernel
theorem dX0_putBranch_0 : decode cX0_putBranch 0 = .ok (.aload_n 0, 1) := by decide +kernel
theorem dX0_putBranch_1 : decode cX0_putBranch 1 = .ok (.getfield 24, 3) := by decide +kernel
theorem dX0_putBranch_4 : decode cX0_putBranch 4 = .ok (.iload_n 1, 1) := by decide +kernel
theorem dX0_putBranch_5 : decode cX0_putBranch 5 = .ok (.bipush 6, 2) := by decide +kernel
theorem dX0_putBranch_7 : decode cX0_putBranch 7 = .ok (.imul, 1) := by decide +kernel
theorem dX0_putBranch_8 : decode cX0_putBranch 8 = .ok (.iload_n 2, 1) := by decide +kernel
theorem dX0_putBranch_9 : decode cX0_putBranch 9 = .ok (.iadd, 1) := by decide +kernel
theorem dX0_putBranch_10 : decode cX0_putBranch 10 = .ok (.iload_n 3, 1) := by decide +kernel
theorem dX0_putBranch_11 : decode cX0_putBranch 11 = .ok (.invokestatic 77, 3) := by decide +kernel
theorem dX0_putBranch_14 : decode cX0_putBranch 14 = .ok (.return_, 1) := by decide +kernel
theorem dX0_putCondition_0 : decode cX0_putCondition 0 = .ok (.iload_n 2, 1) := by decide +kernel
theorem dX0_putCondition_1 : decode cX0_putCondition 1 = .ok (.aload_n 0, 1) := by decide +kernel
theorem dX0_putCondition_2 : decode cX0_putCondition 2 = .ok (.iload_n 1, 1) := by decide +kernel
theorem dX0_putCondition_3 : decode cX0_putCondition 3 = .ok (.invokevirtual 81, 3) := by decide +kernel
theorem dX0_putCondition_6 : decode cX0_putCondition 6 = .ok (.if_icmp .ne 7, 3) := by decide +kernel
theorem dX0_putCondition_9 : decode cX0_putCondition 9 = .ok (.iconst 1, 1) := by decide +kernel
theorem dX0_putCondition_10 : decode cX0_putCondition 10 = .ok (.goto 4, 3) := by decide +kernel
theorem dX0_putCondition_13 : decode cX0_putCondition 13 = .ok (.iconst 0, 1) := by decide +kernel
theorem dX0_putCondition_14 : decode cX0_putCondition 14 = .ok (.istore 5, 2) := by decide +kernel
theorem dX0_putCondition_16 : decode cX0_putCondition 16 = .ok (.iload 5, 2) := by decide +kernel
theorem dX0_putCondition_18 : decode cX0_putCondition 18 = .ok (.ifCond .eq 7, 3) := by decide +kernel
theorem dX0_putCondition_21 : decode cX0_putCondition 21 = .ok (.iconst 0, 1) := by decide +kernel
theorem dX0_putCondition_22 : decode cX0_putCondition 22 = .ok (.goto 9, 3) := by decide +kernel
theorem dX0_putCondition_25 : decode cX0_putCondition 25 = .ok (.aload_n 0, 1) := by decide +kernel
theorem dX0_putCondition_26 : decode cX0_putCondition 26 = .ok (.iload_n 1, 1) := by decide +kernel
theorem dX0_putCondition_27 : decode cX0_putCondition 27 = .ok (.iload_n 2, 1) := by decide +kernel
theorem dX0_putCondition_28 : decode cX0_putCondition 28 = .ok (.invokevirtual 85, 3) := by decide +kernel
theorem dX0_putCondition_31 : decode cX0_putCondition 31 = .ok (.istore 6, 2) := by decide +kernel
theorem dX0_putCondition_33 : decode cX0_putCondition 33 = .ok (.iload 5, 2) := by decide +kernel
theorem dX0_putCondition_35 : decode cX0_putCondition 35 = .ok (.ifCond .eq 14, 3) := by decide +kernel
theorem dX0_putCondition_38 : decode cX0_putCondition 38 = .ok (.aload_n 0, 1) := by decide +kernel
theorem dX0_putCondition_39 : decode cX0_putCondition 39 = .ok (.getfield 21, 3) := by decide +kernel
theorem dX0_putCondition_42 : decode cX0_putCondition 42 = .ok (.iload_n 1, 1) := by decide +kernel
theorem dX0_putCondition_43 : decode cX0_putCondition 43 = .ok (.iload_n 2, 1) := by decide +kernel
theorem dX0_putCondition_44 : decode cX0_putCondition 44 = .ok (.iconst 1, 1) := by decide +kernel
theorem dX0_putCondition_45 : decode cX0_putCondition 45 = .ok (.iadd, 1) := by decide +kernel
theorem dX0_putCondition_46 : decode cX0_putCondition 46 = .ok (.invokestatic 77, 3) := by decide +kernel
theorem dX0_putCondition_49 : decode cX0_putCondition 49 = .ok (.aload_n 0, 1) := by decide +kernel
theorem dX0_putCondition_50 : decode cX0_putCondition 50 = .ok (.iload_n 1, 1) := by decide +kernel
theorem dX0_putCondition_51 : decode cX0_putCondition 51 = .ok (.iload_n 2, 1) := by decide +kernel
theorem dX0_putCondition_52 : decode cX0_putCondition 52 = .ok (.iload 6, 2) := by decide +kernel
theorem dX0_putCondition_54 : decode cX0_putCondition 54 = .ok (.iload_n 3, 1) := by decide +kernel
theorem dX0_putCondition_55 : decode cX0_putCondition 55 = .ok (.iload 4, 2) := by decide +kernel
theorem dX0_putCondition_57 : decode cX0_putCondition 57 = .ok (.invokestatic 89, 3) := by decide +kernel
theorem dX0_putCondition_60 : decode cX0_putCondition 60 = .ok (.invokevirtual 95, 3) := by decide +kernel
theorem dX0_putCondition_63 : decode cX0_putCondition 63 = .ok (.aload_n 0, 1) := by decide +kernel
theorem dX0_putCondition_64 : decode cX0_putCondition 64 = .ok (.invokevirtual 99, 3) := by decide +kernel
theorem dX0_putCondition_67 : decode cX0_putCondition 67 = .ok (.pop, 1) := by decide +kernel
theorem dX0_putCondition_68 : decode cX0_putCondition 68 = .ok (.iload 6, 2) := by decide +kernel
theorem dX0_putCondition_70 : decode cX0_putCondition 70 = .ok (.iload_n 3, 1) := by decide +kernel
theorem dX0_putCondition_71 : decode cX0_putCondition 71 = .ok (.invokestatic 103, 3) := by decide +kernel
theorem dX0_putCondition_74 : decode cX0_putCondition 74 = .ok (.ireturn, 1) := by decide +kernel
theorem dX0_dropBranch_0 : decode cX0_dropBranch 0 = .ok (.aload_n 0, 1) := by decide +kernel
theorem dX0_dropBranch_1 : decode cX0_dropBranch 1 = .ok (.iload_n 1, 1) := by decide +kernel
theorem dX0_dropBranch_2 : decode cX0_dropBranch 2 = .ok (.invokevirtual 81, 3) := by decide +kernel
theorem dX0_dropBranch_5 : decode cX0_dropBranch 5 = .ok (.iconst 1, 1) := by decide +kernel
theorem dX0_dropBranch_6 : decode cX0_dropBranch 6 = .ok (.isub, 1) := by decide +kernel
theorem dX0_dropBranch_7 : decode cX0_dropBranch 7 = .ok (.istore_n 3, 1) := by decide +kernel
theorem dX0_dropBranch_8 : decode cX0_dropBranch 8 = .ok (.iload_n 2, 1) := by decide +kernel
theorem dX0_dropBranch_9 : decode cX0_dropBranch 9 = .ok (.istore 4, 2) := by decide +kernel
theorem dX0_dropBranch_11 : decode cX0_dropBranch 11 = .ok (.iload 4, 2) := by decide +kernel
theorem dX0_dropBranch_13 : decode cX0_dropBranch 13 = .ok (.iload_n 3, 1) := by decide +kernel
theorem dX0_dropBranch_14 : decode cX0_dropBranch 14 = .ok (.if_icmp .ge 25, 3) := by decide +kernel
theorem dX0_dropBranch_17 : decode cX0_dropBranch 17 = .ok (.aload_n 0, 1) := by decide +kernel
theorem dX0_dropBranch_18 : decode cX0_dropBranch 18 = .ok (.iload_n 1, 1) := by decide +kernel
theorem dX0_dropBranch_19 : decode cX0_dropBranch 19 = .ok (.iload 4, 2) := by decide +kernel
theorem dX0_dropBranch_21 : decode cX0_dropBranch 21 = .ok (.aload_n 0, 1) := by decide +kernel
theorem dX0_dropBranch_22 : decode cX0_dropBranch 22 = .ok (.iload_n 1, 1) := by decide +kernel
theorem dX0_dropBranch_23 : decode cX0_dropBranch 23 = .ok (.iload 4, 2) := by decide +kernel
theorem dX0_dropBranch_25 : decode cX0_dropBranch 25 = .ok (.iconst 1, 1) := by decide +kernel
theorem dX0_dropBranch_26 : decode cX0_dropBranch 26 = .ok (.iadd, 1) := by decide +kernel
theorem dX0_dropBranch_27 : decode cX0_dropBranch 27 = .ok (.invokevirtual 85, 3) := by decide +kernel
theorem dX0_dropBranch_30 : decode cX0_dropBranch 30 = .ok (.invokevirtual 95, 3) := by decide +kernel
theorem dX0_dropBranch_33 : decode cX0_dropBranch 33 = .ok (.iinc 4 1, 3) := by decide +kernel
theorem dX0_dropBranch_36 : decode cX0_dropBranch 36 = .ok (.goto (-25), 3) := by decide +kernel
theorem dX0_dropBranch_39 : decode cX0_dropBranch 39 = .ok (.aload_n 0, 1) := by decide +kernel
theorem dX0_dropBranch_40 : decode cX0_dropBranch 40 = .ok (.getfield 21, 3) := by decide +kernel
theorem dX0_dropBranch_43 : decode cX0_dropBranch 43 = .ok (.iload_n 1, 1) := by decide +kernel
theorem dX0_dropBranch_44 : decode cX0_dropBranch 44 = .ok (.iload_n 3, 1) := by decide +kernel
theorem dX0_dropBranch_45 : decode cX0_dropBranch 45 = .ok (.invokestatic 77, 3) := by decide +kernel
theorem dX0_dropBranch_48 : decode cX0_dropBranch 48 = .ok (.aload_n 0, 1) := by decide +kernel
theorem dX0_dropBranch_49 : decode cX0_dropBranch 49 = .ok (.invokevirtual 99, 3) := by decide +kernel
theorem dX0_dropBranch_52 : decode cX0_dropBranch 52 = .ok (.pop, 1) := by decide +kernel
theorem dX0_dropBranch_53 : decode cX0_dropBranch 53 = .ok (.iload_n 3, 1) := by decide +kernel
theorem dX0_dropBranch_54 : decode cX0_dropBranch 54 = .ok (.ireturn, 1) := by decide +kernel
theorem dX0_concerns_0 : decode cX0_concerns 0 = .ok (.aload_n 0, 1) := by decide +kernel
theorem dX0_concerns_1 : decode cX0_concerns 1 = .ok (.iload_n 1, 1) := by decide +kernel
theorem dX0_concerns_2 : decode cX0_concerns 2 = .ok (.invokevirtual 81, 3) := by decide +kernel
theorem dX0_concerns_5 : decode cX0_concerns 5 = .ok (.istore_n 3, 1) := by decide +kernel
theorem dX0_concerns_6 : decode cX0_concerns 6 = .ok (.iconst 0, 1) := by decide +kernel
theorem dX0_concerns_7 : decode cX0_concerns 7 = .ok (.istore 4, 2) := by decide +kernel
theorem dX0_concerns_9 : decode cX0_concerns 9 = .ok (.iload 4, 2) := by decide +kernel
theorem dX0_concerns_11 : decode cX0_concerns 11 = .ok (.iload_n 3, 1) := by decide +kernel
theorem dX0_concerns_12 : decode cX0_concerns 12 = .ok (.if_icmp .ge 25, 3) := by decide +kernel
theorem dX0_concerns_15 : decode cX0_concerns 15 = .ok (.aload_n 0, 1) := by decide +kernel
theorem dX0_concerns_16 : decode cX0_concerns 16 = .ok (.iload_n 1, 1) := by decide +kernel
theorem dX0_concerns_17 : decode cX0_concerns 17 = .ok (.iload 4, 2) := by decide +kernel
theorem dX0_concerns_19 : decode cX0_concerns 19 = .ok (.invokevirtual 85, 3) := by decide +kernel
theorem dX0_concerns_22 : decode cX0_concerns 22 = .ok (.iload_n 2, 1) := by decide +kernel
theorem dX0_concerns_23 : decode cX0_concerns 23 = .ok (.invokestatic 103, 3) := by decide +kernel
theorem dX0_concerns_26 : decode cX0_concerns 26 = .ok (.ifCond .eq 5, 3) := by decide +kernel
theorem dX0_concerns_29 : decode cX0_concerns 29 = .ok (.iconst 1, 1) := by decide +kernel
theorem dX0_concerns_30 : decode cX0_concerns 30 = .ok (.ireturn, 1) := by decide +kernel
theorem dX0_concerns_31 : decode cX0_concerns 31 = .ok (.iinc 4 1, 3) := by decide +kernel
theorem dX0_concerns_34 : decode cX0_concerns 34 = .ok (.goto (-25), 3) := by decide +kernel
theorem dX0_concerns_37 : decode cX0_concerns 37 = .ok (.iconst 0, 1) := by decide +kernel
theorem dX0_concerns_38 : decode cX0_concerns 38 = .ok (.ireturn, 1) := by decide +kernel
theorem dX0_turnKey_0 : decode cX0_turnKey 0 = .ok (.aload_n 0, 1) := by decide +kernel
theorem dX0_turnKey_1 : decode cX0_turnKey 1 = .ok (.dup, 1) := by decide +kernel
theorem dX0_turnKey_2 : decode cX0_turnKey 2 = .ok (.getfield 44, 3) := by decide +kernel
theorem dX0_turnKey_5 : decode cX0_turnKey 5 = .ok (.iconst 1, 1) := by decide +kernel
theorem dX0_turnKey_6 : decode cX0_turnKey 6 = .ok (.iload_n 1, 1) := by decide +kernel
theorem dX0_turnKey_7 : decode cX0_turnKey 7 = .ok (.ishl, 1) := by decide +kernel
theorem dX0_turnKey_8 : decode cX0_turnKey 8 = .ok (.ixor, 1) := by decide +kernel
theorem dX0_turnKey_9 : decode cX0_turnKey 9 = .ok (.putfield 44, 3) := by decide +kernel
theorem dX0_turnKey_12 : decode cX0_turnKey 12 = .ok (.aload_n 0, 1) := by decide +kernel
theorem dX0_turnKey_13 : decode cX0_turnKey 13 = .ok (.invokevirtual 99, 3) := by decide +kernel
theorem dX0_turnKey_16 : decode cX0_turnKey 16 = .ok (.ireturn, 1) := by decide +kernel
theorem dX0_faultOf_0 : decode cX0_faultOf 0 = .ok (.aload_n 0, 1) := by decide +kernel
theorem dX0_faultOf_1 : decode cX0_faultOf 1 = .ok (.getfield 59, 3) := by decide +kernel
theorem dX0_faultOf_4 : decode cX0_faultOf 4 = .ok (.iload_n 1, 1) := by decide +kernel
theorem dX0_faultOf_5 : decode cX0_faultOf 5 = .ok (.invokestatic 106, 3) := by decide +kernel
theorem dX0_faultOf_8 : decode cX0_faultOf 8 = .ok (.ifCond .eq 7, 3) := by decide +kernel
theorem dX0_faultOf_11 : decode cX0_faultOf 11 = .ok (.iconst 1, 1) := by decide +kernel
theorem dX0_faultOf_12 : decode cX0_faultOf 12 = .ok (.goto 19, 3) := by decide +kernel
theorem dX0_faultOf_15 : decode cX0_faultOf 15 = .ok (.aload_n 0, 1) := by decide +kernel
theorem dX0_faultOf_16 : decode cX0_faultOf 16 = .ok (.getfield 62, 3) := by decide +kernel
theorem dX0_faultOf_19 : decode cX0_faultOf 19 = .ok (.iload_n 1, 1) := by decide +kernel
theorem dX0_faultOf_20 : decode cX0_faultOf 20 = .ok (.invokestatic 106, 3) := by decide +kernel
theorem dX0_faultOf_23 : decode cX0_faultOf 23 = .ok (.ifCond .eq 7, 3) := by decide +kernel
theorem dX0_faultOf_26 : decode cX0_faultOf 26 = .ok (.iconst 2, 1) := by decide +kernel
theorem dX0_faultOf_27 : decode cX0_faultOf 27 = .ok (.goto 4, 3) := by decide +kernel
theorem dX0_faultOf_30 : decode cX0_faultOf 30 = .ok (.iconst 0, 1) := by decide +kernel
theorem dX0_faultOf_31 : decode cX0_faultOf 31 = .ok (.ireturn, 1) := by decide +kernel
theorem dX0_putFault_0 : decode cX0_putFault 0 = .ok (.iconst 1, 1) := by decide +kernel
theorem dX0_putFault_1 : decode cX0_putFault 1 = .ok (.iload_n 1, 1) := by decide +kernel
theorem dX0_putFault_2 : decode cX0_putFault 2 = .ok (.ishl, 1) := by decide +kernel
theorem dX0_putFault_3 : decode cX0_putFault 3 = .ok (.istore_n 3, 1) := by decide +kernel
theorem dX0_putFault_4 : decode cX0_putFault 4 = .ok (.aload_n 0, 1) := by decide +kernel
theorem dX0_putFault_5 : decode cX0_putFault 5 = .ok (.iload_n 2, 1) := by decide +kernel
theorem dX0_putFault_6 : decode cX0_putFault 6 = .ok (.iconst 1, 1) := by decide +kernel
theorem dX0_putFault_7 : decode cX0_putFault 7 = .ok (.if_icmp .ne 12, 3) := by decide +kernel
theorem dX0_putFault_10 : decode cX0_putFault 10 = .ok (.aload_n 0, 1) := by decide +kernel
theorem dX0_putFault_11 : decode cX0_putFault 11 = .ok (.getfield 59, 3) := by decide +kernel
theorem dX0_putFault_14 : decode cX0_putFault 14 = .ok (.iload_n 3, 1) := by decide +kernel
theorem dX0_putFault_15 : decode cX0_putFault 15 = .ok (.ior, 1) := by decide +kernel
theorem dX0_putFault_16 : decode cX0_putFault 16 = .ok (.goto 11, 3) := by decide +kernel
theorem dX0_putFault_19 : decode cX0_putFault 19 = .ok (.aload_n 0, 1) := by decide +kernel
theorem dX0_putFault_20 : decode cX0_putFault 20 = .ok (.getfield 59, 3) := by decide +kernel
theorem dX0_putFault_23 : decode cX0_putFault 23 = .ok (.iload_n 3, 1) := by decide +kernel
theorem dX0_putFault_24 : decode cX0_putFault 24 = .ok (.iconst (-1), 1) := by decide +kernel
theorem dX0_putFault_25 : decode cX0_putFault 25 = .ok (.ixor, 1) := by decide +kernel
theorem dX0_putFault_26 : decode cX0_putFault 26 = .ok (.iand, 1) := by decide +kernel
theorem dX0_putFault_27 : decode cX0_putFault 27 = .ok (.putfield 59, 3) := by decide +kernel
theorem dX0_putFault_30 : decode cX0_putFault 30 = .ok (.aload_n 0, 1) := by decide +kernel
theorem dX0_putFault_31 : decode cX0_putFault 31 = .ok (.iload_n 2, 1) := by decide +kernel
theorem dX0_putFault_32 : decode cX0_putFault 32 = .ok (.iconst 2, 1) := by decide +kernel
theorem dX0_putFault_33 : decode cX0_putFault 33 = .ok (.if_icmp .ne 12, 3) := by decide +kernel
theorem dX0_putFault_36 : decode cX0_putFault 36 = .ok (.aload_n 0, 1) := by decide +kernel
theorem dX0_putFault_37 : decode cX0_putFault 37 = .ok (.getfield 62, 3) := by decide +kernel
theorem dX0_putFault_40 : decode cX0_putFault 40 = .ok (.iload_n 3, 1) := by decide +kernel
theorem dX0_putFault_41 : decode cX0_putFault 41 = .ok (.ior, 1) := by decide +kernel
theorem dX0_putFault_42 : decode cX0_putFault 42 = .ok (.goto 11, 3) := by decide +kernel
theorem dX0_putFault_45 : decode cX0_putFault 45 = .ok (.aload_n 0, 1) := by decide +kernel
theorem dX0_putFault_46 : decode cX0_putFault 46 = .ok (.getfield 62, 3) := by decide +kernel
theorem dX0_putFault_49 : decode cX0_putFault 49 = .ok (.iload_n 3, 1) := by decide +kernel
theorem dX0_putFault_50 : decode cX0_putFault 50 = .ok (.iconst (-1), 1) := by decide +kernel
theorem dX0_putFault_51 : decode cX0_putFault 51 = .ok (.ixor, 1) := by decide +kernel
theorem dX0_putFault_52 : decode cX0_putFault 52 = .ok (.iand, 1) := by decide +kernel
theorem dX0_putFault_53 : decode cX0_putFault 53 = .ok (.putfield 62, 3) := by decide +kernel
theorem dX0_putFault_56 : decode cX0_putFault 56 = .ok (.aload_n 0, 1) := by decide +kernel
theorem dX0_putFault_57 : decode cX0_putFault 57 = .ok (.invokevirtual 99, 3) := by decide +kernel
theorem dX0_putFault_60 : decode cX0_putFault 60 = .ok (.pop, 1) := by decide +kernel
theorem dX0_putFault_61 : decode cX0_putFault 61 = .ok (.return_, 1) := by decide +kernel
theorem dX0_closedContacts_0 : decode cX0_closedContacts 0 = .ok (.aload_n 0, 1) := by decide +kernel
theorem dX0_closedContacts_1 : decode cX0_closedContacts 1 = .ok (.getfield 50, 3) := by decide +kernel
theorem dX0_closedContacts_4 : decode cX0_closedContacts 4 = .ok (.aload_n 0, 1) := by decide +kernel
theorem dX0_closedContacts_5 : decode cX0_closedContacts 5 = .ok (.getfield 53, 3) := by decide +kernel
theorem dX0_closedContacts_8 : decode cX0_closedContacts 8 = .ok (.iconst (-1), 1) := by decide +kernel
theorem dX0_closedContacts_9 : decode cX0_closedContacts 9 = .ok (.ixor, 1) := by decide +kernel
theorem dX0_closedContacts_10 : decode cX0_closedContacts 10 = .ok (.iand, 1) := by decide +kernel
theorem dX0_closedContacts_11 : decode cX0_closedContacts 11 = .ok (.aload_n 0, 1) := by decide +kernel
theorem dX0_closedContacts_12 : decode cX0_closedContacts 12 = .ok (.getfield 59, 3) := by decide +kernel
theorem dX0_closedContacts_15 : decode cX0_closedContacts 15 = .ok (.iconst (-1), 1) := by decide +kernel
theorem dX0_closedContacts_16 : decode cX0_closedContacts 16 = .ok (.ixor, 1) := by decide +kernel
theorem dX0_closedContacts_17 : decode cX0_closedContacts 17 = .ok (.iand, 1) := by decide +kernel
theorem dX0_closedContacts_18 : decode cX0_closedContacts 18 = .ok (.aload_n 0, 1) := by decide +kernel
theorem dX0_closedContacts_19 : decode cX0_closedContacts 19 = .ok (.getfield 62, 3) := by decide +kernel
theorem dX0_closedContacts_22 : decode cX0_closedContacts 22 = .ok (.ior, 1) := by decide +kernel
theorem dX0_closedContacts_23 : decode cX0_closedContacts 23 = .ok (.ireturn, 1) := by decide +kernel
theorem dX0_failing_0 : decode cX0_failing 0 = .ok (.aload_n 0, 1) := by decide +kernel
theorem dX0_failing_1 : decode cX0_failing 1 = .ok (.getfield 44, 3) := by decide +kernel
theorem dX0_failing_4 : decode cX0_failing 4 = .ok (.aload_n 0, 1) := by decide +kernel
theorem dX0_failing_5 : decode cX0_failing 5 = .ok (.invokevirtual 110, 3) := by decide +kernel
theorem dX0_failing_8 : decode cX0_failing 8 = .ok (.bipush 8, 2) := by decide +kernel
theorem dX0_failing_10 : decode cX0_failing 10 = .ok (.ishl, 1) := by decide +kernel
theorem dX0_failing_11 : decode cX0_failing 11 = .ok (.ior, 1) := by decide +kernel
theorem dX0_failing_12 : decode cX0_failing 12 = .ok (.istore_n 1, 1) := by decide +kernel
theorem dX0_failing_13 : decode cX0_failing 13 = .ok (.iload_n 1, 1) := by decide +kernel
theorem dX0_failing_14 : decode cX0_failing 14 = .ok (.bipush 16, 2) := by decide +kernel
theorem dX0_failing_16 : decode cX0_failing 16 = .ok (.ishl, 1) := by decide +kernel
theorem dX0_failing_17 : decode cX0_failing 17 = .ok (.iload_n 1, 1) := by decide +kernel
theorem dX0_failing_18 : decode cX0_failing 18 = .ok (.iconst (-1), 1) := by decide +kernel
theorem dX0_failing_19 : decode cX0_failing 19 = .ok (.ixor, 1) := by decide +kernel
theorem dX0_failing_20 : decode cX0_failing 20 = .ok (.ldc 113, 2) := by decide +kernel
theorem dX0_failing_22 : decode cX0_failing 22 = .ok (.iand, 1) := by decide +kernel
theorem dX0_failing_23 : decode cX0_failing 23 = .ok (.ior, 1) := by decide +kernel
theorem dX0_failing_24 : decode cX0_failing 24 = .ok (.ireturn, 1) := by decide +kernel
theorem dX0_conducts_0 : decode cX0_conducts 0 = .ok (.iload_n 1, 1) := by decide +kernel
theorem dX0_conducts_1 : decode cX0_conducts 1 = .ok (.bipush 6, 2) := by decide +kernel
theorem dX0_conducts_3 : decode cX0_conducts 3 = .ok (.imul, 1) := by decide +kernel
theorem dX0_conducts_4 : decode cX0_conducts 4 = .ok (.istore_n 3, 1) := by decide +kernel
theorem dX0_conducts_5 : decode cX0_conducts 5 = .ok (.aload_n 0, 1) := by decide +kernel
theorem dX0_conducts_6 : decode cX0_conducts 6 = .ok (.getfield 21, 3) := by decide +kernel
theorem dX0_conducts_9 : decode cX0_conducts 9 = .ok (.iload_n 1, 1) := by decide +kernel
theorem dX0_conducts_10 : decode cX0_conducts 10 = .ok (.invokestatic 73, 3) := by decide +kernel
theorem dX0_conducts_13 : decode cX0_conducts 13 = .ok (.istore 4, 2) := by decide +kernel
theorem dX0_conducts_15 : decode cX0_conducts 15 = .ok (.iconst 0, 1) := by decide +kernel
theorem dX0_conducts_16 : decode cX0_conducts 16 = .ok (.istore 5, 2) := by decide +kernel
theorem dX0_conducts_18 : decode cX0_conducts 18 = .ok (.iload 5, 2) := by decide +kernel
theorem dX0_conducts_20 : decode cX0_conducts 20 = .ok (.iload 4, 2) := by decide +kernel
theorem dX0_conducts_22 : decode cX0_conducts 22 = .ok (.if_icmp .ge 27, 3) := by decide +kernel
theorem dX0_conducts_25 : decode cX0_conducts 25 = .ok (.aload_n 0, 1) := by decide +kernel
theorem dX0_conducts_26 : decode cX0_conducts 26 = .ok (.getfield 24, 3) := by decide +kernel
theorem dX0_conducts_29 : decode cX0_conducts 29 = .ok (.iload_n 3, 1) := by decide +kernel
theorem dX0_conducts_30 : decode cX0_conducts 30 = .ok (.iload 5, 2) := by decide +kernel
theorem dX0_conducts_32 : decode cX0_conducts 32 = .ok (.iadd, 1) := by decide +kernel
theorem dX0_conducts_33 : decode cX0_conducts 33 = .ok (.invokestatic 73, 3) := by decide +kernel
theorem dX0_conducts_36 : decode cX0_conducts 36 = .ok (.iload_n 2, 1) := by decide +kernel
theorem dX0_conducts_37 : decode cX0_conducts 37 = .ok (.iand, 1) := by decide +kernel
theorem dX0_conducts_38 : decode cX0_conducts 38 = .ok (.ifCond .ne 5, 3) := by decide +kernel
theorem dX0_conducts_41 : decode cX0_conducts 41 = .ok (.iconst 1, 1) := by decide +kernel
theorem dX0_conducts_42 : decode cX0_conducts 42 = .ok (.ireturn, 1) := by decide +kernel
theorem dX0_conducts_43 : decode cX0_conducts 43 = .ok (.iinc 5 1, 3) := by decide +kernel
theorem dX0_conducts_46 : decode cX0_conducts 46 = .ok (.goto (-28), 3) := by decide +kernel
theorem dX0_conducts_49 : decode cX0_conducts 49 = .ok (.iconst 0, 1) := by decide +kernel
theorem dX0_conducts_50 : decode cX0_conducts 50 = .ok (.ireturn, 1) := by decide +kernel
theorem dX0_lookAtCoils_0 : decode cX0_lookAtCoils 0 = .ok (.aload_n 0, 1) := by decide +kernel
theorem dX0_lookAtCoils_1 : decode cX0_lookAtCoils 1 = .ok (.invokevirtual 114, 3) := by decide +kernel
theorem dX0_lookAtCoils_4 : decode cX0_lookAtCoils 4 = .ok (.istore_n 1, 1) := by decide +kernel
theorem dX0_lookAtCoils_5 : decode cX0_lookAtCoils 5 = .ok (.iconst 0, 1) := by decide +kernel
theorem dX0_lookAtCoils_6 : decode cX0_lookAtCoils 6 = .ok (.istore_n 2, 1) := by decide +kernel
theorem dX0_lookAtCoils_7 : decode cX0_lookAtCoils 7 = .ok (.iconst 0, 1) := by decide +kernel
theorem dX0_lookAtCoils_8 : decode cX0_lookAtCoils 8 = .ok (.istore_n 3, 1) := by decide +kernel
theorem dX0_lookAtCoils_9 : decode cX0_lookAtCoils 9 = .ok (.iload_n 3, 1) := by decide +kernel
theorem dX0_lookAtCoils_10 : decode cX0_lookAtCoils 10 = .ok (.aload_n 0, 1) := by decide +kernel
theorem dX0_lookAtCoils_11 : decode cX0_lookAtCoils 11 = .ok (.getfield 37, 3) := by decide +kernel
theorem dX0_lookAtCoils_14 : decode cX0_lookAtCoils 14 = .ok (.if_icmp .ge 34, 3) := by decide +kernel
theorem dX0_lookAtCoils_17 : decode cX0_lookAtCoils 17 = .ok (.aload_n 0, 1) := by decide +kernel
theorem dX0_lookAtCoils_18 : decode cX0_lookAtCoils 18 = .ok (.iload_n 3, 1) := by decide +kernel
theorem dX0_lookAtCoils_19 : decode cX0_lookAtCoils 19 = .ok (.iload_n 1, 1) := by decide +kernel
theorem dX0_lookAtCoils_20 : decode cX0_lookAtCoils 20 = .ok (.invokevirtual 117, 3) := by decide +kernel
theorem dX0_lookAtCoils_23 : decode cX0_lookAtCoils 23 = .ok (.aload_n 0, 1) := by decide +kernel
theorem dX0_lookAtCoils_24 : decode cX0_lookAtCoils 24 = .ok (.getfield 47, 3) := by decide +kernel
theorem dX0_lookAtCoils_27 : decode cX0_lookAtCoils 27 = .ok (.iload_n 3, 1) := by decide +kernel
theorem dX0_lookAtCoils_28 : decode cX0_lookAtCoils 28 = .ok (.invokestatic 106, 3) := by decide +kernel
theorem dX0_lookAtCoils_31 : decode cX0_lookAtCoils 31 = .ok (.if_icmp .eq 11, 3) := by decide +kernel
theorem dX0_lookAtCoils_34 : decode cX0_lookAtCoils 34 = .ok (.aload_n 0, 1) := by decide +kernel
theorem dX0_lookAtCoils_35 : decode cX0_lookAtCoils 35 = .ok (.iload_n 3, 1) := by decide +kernel
theorem dX0_lookAtCoils_36 : decode cX0_lookAtCoils 36 = .ok (.invokevirtual 120, 3) := by decide +kernel
theorem dX0_lookAtCoils_39 : decode cX0_lookAtCoils 39 = .ok (.iinc 2 1, 3) := by decide +kernel
theorem dX0_lookAtCoils_42 : decode cX0_lookAtCoils 42 = .ok (.iinc 3 1, 3) := by decide +kernel
theorem dX0_lookAtCoils_45 : decode cX0_lookAtCoils 45 = .ok (.goto (-36), 3) := by decide +kernel
theorem dX0_lookAtCoils_48 : decode cX0_lookAtCoils 48 = .ok (.iload_n 2, 1) := by decide +kernel
theorem dX0_lookAtCoils_49 : decode cX0_lookAtCoils 49 = .ok (.ireturn, 1) := by decide +kernel
theorem dX0_turnCoil_0 : decode cX0_turnCoil 0 = .ok (.aload_n 0, 1) := by decide +kernel
theorem dX0_turnCoil_1 : decode cX0_turnCoil 1 = .ok (.dup, 1) := by decide +kernel
theorem dX0_turnCoil_2 : decode cX0_turnCoil 2 = .ok (.getfield 47, 3) := by decide +kernel
theorem dX0_turnCoil_5 : decode cX0_turnCoil 5 = .ok (.iconst 1, 1) := by decide +kernel
theorem dX0_turnCoil_6 : decode cX0_turnCoil 6 = .ok (.iload_n 1, 1) := by decide +kernel
theorem dX0_turnCoil_7 : decode cX0_turnCoil 7 = .ok (.ishl, 1) := by decide +kernel
theorem dX0_turnCoil_8 : decode cX0_turnCoil 8 = .ok (.ixor, 1) := by decide +kernel
theorem dX0_turnCoil_9 : decode cX0_turnCoil 9 = .ok (.putfield 47, 3) := by decide +kernel
theorem dX0_turnCoil_12 : decode cX0_turnCoil 12 = .ok (.ldc 30, 2) := by decide +kernel
theorem dX0_turnCoil_14 : decode cX0_turnCoil 14 = .ok (.istore_n 2, 1) := by decide +kernel
theorem dX0_turnCoil_15 : decode cX0_turnCoil 15 = .ok (.aload_n 0, 1) := by decide +kernel
theorem dX0_turnCoil_16 : decode cX0_turnCoil 16 = .ok (.getfield 47, 3) := by decide +kernel
theorem dX0_turnCoil_19 : decode cX0_turnCoil 19 = .ok (.aload_n 0, 1) := by decide +kernel
theorem dX0_turnCoil_20 : decode cX0_turnCoil 20 = .ok (.getfield 50, 3) := by decide +kernel
theorem dX0_turnCoil_23 : decode cX0_turnCoil 23 = .ok (.ixor, 1) := by decide +kernel
theorem dX0_turnCoil_24 : decode cX0_turnCoil 24 = .ok (.iload_n 1, 1) := by decide +kernel
theorem dX0_turnCoil_25 : decode cX0_turnCoil 25 = .ok (.invokestatic 106, 3) := by decide +kernel
theorem dX0_turnCoil_28 : decode cX0_turnCoil 28 = .ok (.ifCond .eq 35, 3) := by decide +kernel
theorem dX0_turnCoil_31 : decode cX0_turnCoil 31 = .ok (.aload_n 0, 1) := by decide +kernel
theorem dX0_turnCoil_32 : decode cX0_turnCoil 32 = .ok (.getfield 41, 3) := by decide +kernel
theorem dX0_turnCoil_35 : decode cX0_turnCoil 35 = .ok (.aload_n 0, 1) := by decide +kernel
theorem dX0_turnCoil_36 : decode cX0_turnCoil 36 = .ok (.getfield 47, 3) := by decide +kernel
theorem dX0_turnCoil_39 : decode cX0_turnCoil 39 = .ok (.iload_n 1, 1) := by decide +kernel
theorem dX0_turnCoil_40 : decode cX0_turnCoil 40 = .ok (.invokestatic 106, 3) := by decide +kernel
theorem dX0_turnCoil_43 : decode cX0_turnCoil 43 = .ok (.ifCond .eq 10, 3) := by decide +kernel
theorem dX0_turnCoil_46 : decode cX0_turnCoil 46 = .ok (.aload_n 0, 1) := by decide +kernel
theorem dX0_turnCoil_47 : decode cX0_turnCoil 47 = .ok (.getfield 9, 3) := by decide +kernel
theorem dX0_turnCoil_50 : decode cX0_turnCoil 50 = .ok (.goto 7, 3) := by decide +kernel
theorem dX0_turnCoil_53 : decode cX0_turnCoil 53 = .ok (.aload_n 0, 1) := by decide +kernel
theorem dX0_turnCoil_54 : decode cX0_turnCoil 54 = .ok (.getfield 15, 3) := by decide +kernel
theorem dX0_turnCoil_57 : decode cX0_turnCoil 57 = .ok (.iload_n 1, 1) := by decide +kernel
theorem dX0_turnCoil_58 : decode cX0_turnCoil 58 = .ok (.invokestatic 73, 3) := by decide +kernel
theorem dX0_turnCoil_61 : decode cX0_turnCoil 61 = .ok (.iadd, 1) := by decide +kernel
theorem dX0_turnCoil_62 : decode cX0_turnCoil 62 = .ok (.istore_n 2, 1) := by decide +kernel
theorem dX0_turnCoil_63 : decode cX0_turnCoil 63 = .ok (.aload_n 0, 1) := by decide +kernel
theorem dX0_turnCoil_64 : decode cX0_turnCoil 64 = .ok (.getfield 27, 3) := by decide +kernel
theorem dX0_turnCoil_67 : decode cX0_turnCoil 67 = .ok (.iconst 2, 1) := by decide +kernel
theorem dX0_turnCoil_68 : decode cX0_turnCoil 68 = .ok (.iload_n 1, 1) := by decide +kernel
theorem dX0_turnCoil_69 : decode cX0_turnCoil 69 = .ok (.imul, 1) := by decide +kernel
theorem dX0_turnCoil_70 : decode cX0_turnCoil 70 = .ok (.iload_n 2, 1) := by decide +kernel
theorem dX0_turnCoil_71 : decode cX0_turnCoil 71 = .ok (.invokestatic 77, 3) := by decide +kernel
theorem dX0_turnCoil_74 : decode cX0_turnCoil 74 = .ok (.return_, 1) := by decide +kernel
theorem dX0_relayOf_0 : decode cX0_relayOf 0 = .ok (.iload_n 0, 1) := by decide +kernel
theorem dX0_relayOf_1 : decode cX0_relayOf 1 = .ok (.iconst 1, 1) := by decide +kernel
theorem dX0_relayOf_2 : decode cX0_relayOf 2 = .ok (.ishr, 1) := by decide +kernel
theorem dX0_relayOf_3 : decode cX0_relayOf 3 = .ok (.ireturn, 1) := by decide +kernel
theorem dX0_isBounceEnd_0 : decode cX0_isBounceEnd 0 = .ok (.iload_n 0, 1) := by decide +kernel
theorem dX0_isBounceEnd_1 : decode cX0_isBounceEnd 1 = .ok (.iconst 1, 1) := by decide +kernel
theorem dX0_isBounceEnd_2 : decode cX0_isBounceEnd 2 = .ok (.iand, 1) := by decide +kernel
theorem dX0_isBounceEnd_3 : decode cX0_isBounceEnd 3 = .ok (.iconst 1, 1) := by decide +kernel
theorem dX0_isBounceEnd_4 : decode cX0_isBounceEnd 4 = .ok (.if_icmp .ne 7, 3) := by decide +kernel
theorem dX0_isBounceEnd_7 : decode cX0_isBounceEnd 7 = .ok (.iconst 1, 1) := by decide +kernel
theorem dX0_isBounceEnd_8 : decode cX0_isBounceEnd 8 = .ok (.goto 4, 3) := by decide +kernel
theorem dX0_isBounceEnd_11 : decode cX0_isBounceEnd 11 = .ok (.iconst 0, 1) := by decide +kernel
theorem dX0_isBounceEnd_12 : decode cX0_isBounceEnd 12 = .ok (.ireturn, 1) := by decide +kernel
theorem dX0_kindOf_0 : decode cX0_kindOf 0 = .ok (.iload_n 1, 1) := by decide +kernel
theorem dX0_kindOf_1 : decode cX0_kindOf 1 = .ok (.invokestatic 124, 3) := by decide +kernel
theorem dX0_kindOf_4 : decode cX0_kindOf 4 = .ok (.ifCond .eq 5, 3) := by decide +kernel
theorem dX0_kindOf_7 : decode cX0_kindOf 7 = .ok (.iconst 2, 1) := by decide +kernel
theorem dX0_kindOf_8 : decode cX0_kindOf 8 = .ok (.ireturn, 1) := by decide +kernel
theorem dX0_kindOf_9 : decode cX0_kindOf 9 = .ok (.aload_n 0, 1) := by decide +kernel
theorem dX0_kindOf_10 : decode cX0_kindOf 10 = .ok (.getfield 47, 3) := by decide +kernel
theorem dX0_kindOf_13 : decode cX0_kindOf 13 = .ok (.iload_n 1, 1) := by decide +kernel
theorem dX0_kindOf_14 : decode cX0_kindOf 14 = .ok (.invokestatic 128, 3) := by decide +kernel
theorem dX0_kindOf_17 : decode cX0_kindOf 17 = .ok (.invokestatic 106, 3) := by decide +kernel
theorem dX0_kindOf_20 : decode cX0_kindOf 20 = .ok (.ifCond .eq 7, 3) := by decide +kernel
theorem dX0_kindOf_23 : decode cX0_kindOf 23 = .ok (.iconst 0, 1) := by decide +kernel
theorem dX0_kindOf_24 : decode cX0_kindOf 24 = .ok (.goto 4, 3) := by decide +kernel
theorem dX0_kindOf_27 : decode cX0_kindOf 27 = .ok (.iconst 1, 1) := by decide +kernel
theorem dX0_kindOf_28 : decode cX0_kindOf 28 = .ok (.ireturn, 1) := by decide +kernel
theorem dX0_waiting_0 : decode cX0_waiting 0 = .ok (.iconst 0, 1) := by decide +kernel
theorem dX0_waiting_1 : decode cX0_waiting 1 = .ok (.istore_n 1, 1) := by decide +kernel
theorem dX0_waiting_2 : decode cX0_waiting 2 = .ok (.iconst 0, 1) := by decide +kernel
theorem dX0_waiting_3 : decode cX0_waiting 3 = .ok (.istore_n 2, 1) := by decide +kernel
theorem dX0_waiting_4 : decode cX0_waiting 4 = .ok (.iload_n 2, 1) := by decide +kernel
theorem dX0_waiting_5 : decode cX0_waiting 5 = .ok (.aload_n 0, 1) := by decide +kernel
theorem dX0_waiting_6 : decode cX0_waiting 6 = .ok (.getfield 27, 3) := by decide +kernel
theorem dX0_waiting_9 : decode cX0_waiting 9 = .ok (.arraylength, 1) := by decide +kernel
theorem dX0_waiting_10 : decode cX0_waiting 10 = .ok (.if_icmp .ge 23, 3) := by decide +kernel
theorem dX0_waiting_13 : decode cX0_waiting 13 = .ok (.aload_n 0, 1) := by decide +kernel
theorem dX0_waiting_14 : decode cX0_waiting 14 = .ok (.getfield 27, 3) := by decide +kernel
theorem dX0_waiting_17 : decode cX0_waiting 17 = .ok (.iload_n 2, 1) := by decide +kernel
theorem dX0_waiting_18 : decode cX0_waiting 18 = .ok (.iaload, 1) := by decide +kernel
theorem dX0_waiting_19 : decode cX0_waiting 19 = .ok (.ldc 30, 2) := by decide +kernel
theorem dX0_waiting_21 : decode cX0_waiting 21 = .ok (.if_icmp .eq 6, 3) := by decide +kernel
theorem dX0_waiting_24 : decode cX0_waiting 24 = .ok (.iinc 1 1, 3) := by decide +kernel
theorem dX0_waiting_27 : decode cX0_waiting 27 = .ok (.iinc 2 1, 3) := by decide +kernel
theorem dX0_waiting_30 : decode cX0_waiting 30 = .ok (.goto (-26), 3) := by decide +kernel
theorem dX0_waiting_33 : decode cX0_waiting 33 = .ok (.iload_n 1, 1) := by decide +kernel
theorem dX0_waiting_34 : decode cX0_waiting 34 = .ok (.ireturn, 1) := by decide +kernel
theorem dX0_isQuiet_0 : decode cX0_isQuiet 0 = .ok (.aload_n 0, 1) := by decide +kernel
theorem dX0_isQuiet_1 : decode cX0_isQuiet 1 = .ok (.iconst 0, 1) := by decide +kernel
theorem dX0_isQuiet_2 : decode cX0_isQuiet 2 = .ok (.invokevirtual 131, 3) := by decide +kernel
theorem dX0_isQuiet_5 : decode cX0_isQuiet 5 = .ok (.iconst (-1), 1) := by decide +kernel
theorem dX0_isQuiet_6 : decode cX0_isQuiet 6 = .ok (.if_icmp .ne 7, 3) := by decide +kernel
theorem dX0_isQuiet_9 : decode cX0_isQuiet 9 = .ok (.iconst 1, 1) := by decide +kernel
theorem dX0_isQuiet_10 : decode cX0_isQuiet 10 = .ok (.goto 4, 3) := by decide +kernel
theorem dX0_isQuiet_13 : decode cX0_isQuiet 13 = .ok (.iconst 0, 1) := by decide +kernel
theorem dX0_isQuiet_14 : decode cX0_isQuiet 14 = .ok (.ireturn, 1) := by decide +kernel
theorem dX0_nextSlot_0 : decode cX0_nextSlot 0 = .ok (.iconst (-1), 1) := by decide +kernel
theorem dX0_nextSlot_1 : decode cX0_nextSlot 1 = .ok (.istore_n 2, 1) := by decide +kernel
theorem dX0_nextSlot_2 : decode cX0_nextSlot 2 = .ok (.ldc 30, 2) := by decide +kernel
theorem dX0_nextSlot_4 : decode cX0_nextSlot 4 = .ok (.istore_n 3, 1) := by decide +kernel
theorem dX0_nextSlot_5 : decode cX0_nextSlot 5 = .ok (.iconst 0, 1) := by decide +kernel
theorem dX0_nextSlot_6 : decode cX0_nextSlot 6 = .ok (.istore 4, 2) := by decide +kernel
theorem dX0_nextSlot_8 : decode cX0_nextSlot 8 = .ok (.iload 4, 2) := by decide +kernel
theorem dX0_nextSlot_10 : decode cX0_nextSlot 10 = .ok (.aload_n 0, 1) := by decide +kernel
theorem dX0_nextSlot_11 : decode cX0_nextSlot 11 = .ok (.getfield 37, 3) := by decide +kernel
theorem dX0_nextSlot_14 : decode cX0_nextSlot 14 = .ok (.if_icmp .ge 81, 3) := by decide +kernel
theorem dX0_nextSlot_17 : decode cX0_nextSlot 17 = .ok (.iconst 2, 1) := by decide +kernel
theorem dX0_nextSlot_18 : decode cX0_nextSlot 18 = .ok (.iload_n 1, 1) := by decide +kernel
theorem dX0_nextSlot_19 : decode cX0_nextSlot 19 = .ok (.ifCond .eq 15, 3) := by decide +kernel
theorem dX0_nextSlot_22 : decode cX0_nextSlot 22 = .ok (.aload_n 0, 1) := by decide +kernel
theorem dX0_nextSlot_23 : decode cX0_nextSlot 23 = .ok (.getfield 37, 3) := by decide +kernel
theorem dX0_nextSlot_26 : decode cX0_nextSlot 26 = .ok (.iconst 1, 1) := by decide +kernel
theorem dX0_nextSlot_27 : decode cX0_nextSlot 27 = .ok (.isub, 1) := by decide +kernel
theorem dX0_nextSlot_28 : decode cX0_nextSlot 28 = .ok (.iload 4, 2) := by decide +kernel
theorem dX0_nextSlot_30 : decode cX0_nextSlot 30 = .ok (.isub, 1) := by decide +kernel
theorem dX0_nextSlot_31 : decode cX0_nextSlot 31 = .ok (.goto 5, 3) := by decide +kernel
theorem dX0_nextSlot_34 : decode cX0_nextSlot 34 = .ok (.iload 4, 2) := by decide +kernel
theorem dX0_nextSlot_36 : decode cX0_nextSlot 36 = .ok (.imul, 1) := by decide +kernel
theorem dX0_nextSlot_37 : decode cX0_nextSlot 37 = .ok (.istore 5, 2) := by decide +kernel
theorem dX0_nextSlot_39 : decode cX0_nextSlot 39 = .ok (.aload_n 0, 1) := by decide +kernel
theorem dX0_nextSlot_40 : decode cX0_nextSlot 40 = .ok (.getfield 27, 3) := by decide +kernel
theorem dX0_nextSlot_43 : decode cX0_nextSlot 43 = .ok (.iload 5, 2) := by decide +kernel
theorem dX0_nextSlot_45 : decode cX0_nextSlot 45 = .ok (.invokestatic 73, 3) := by decide +kernel
theorem dX0_nextSlot_48 : decode cX0_nextSlot 48 = .ok (.istore 6, 2) := by decide +kernel
theorem dX0_nextSlot_50 : decode cX0_nextSlot 50 = .ok (.aload_n 0, 1) := by decide +kernel
theorem dX0_nextSlot_51 : decode cX0_nextSlot 51 = .ok (.getfield 27, 3) := by decide +kernel
theorem dX0_nextSlot_54 : decode cX0_nextSlot 54 = .ok (.iload 5, 2) := by decide +kernel
theorem dX0_nextSlot_56 : decode cX0_nextSlot 56 = .ok (.iconst 1, 1) := by decide +kernel
theorem dX0_nextSlot_57 : decode cX0_nextSlot 57 = .ok (.iadd, 1) := by decide +kernel
theorem dX0_nextSlot_58 : decode cX0_nextSlot 58 = .ok (.invokestatic 73, 3) := by decide +kernel
theorem dX0_nextSlot_61 : decode cX0_nextSlot 61 = .ok (.istore 7, 2) := by decide +kernel
theorem dX0_nextSlot_63 : decode cX0_nextSlot 63 = .ok (.iload 6, 2) := by decide +kernel
theorem dX0_nextSlot_65 : decode cX0_nextSlot 65 = .ok (.iload_n 3, 1) := by decide +kernel
theorem dX0_nextSlot_66 : decode cX0_nextSlot 66 = .ok (.if_icmp .ge 9, 3) := by decide +kernel
theorem dX0_nextSlot_69 : decode cX0_nextSlot 69 = .ok (.iload 5, 2) := by decide +kernel
theorem dX0_nextSlot_71 : decode cX0_nextSlot 71 = .ok (.istore_n 2, 1) := by decide +kernel
theorem dX0_nextSlot_72 : decode cX0_nextSlot 72 = .ok (.iload 6, 2) := by decide +kernel
theorem dX0_nextSlot_74 : decode cX0_nextSlot 74 = .ok (.istore_n 3, 1) := by decide +kernel
theorem dX0_nextSlot_75 : decode cX0_nextSlot 75 = .ok (.iload 7, 2) := by decide +kernel
theorem dX0_nextSlot_77 : decode cX0_nextSlot 77 = .ok (.iload_n 3, 1) := by decide +kernel
theorem dX0_nextSlot_78 : decode cX0_nextSlot 78 = .ok (.if_icmp .ge 11, 3) := by decide +kernel
theorem dX0_nextSlot_81 : decode cX0_nextSlot 81 = .ok (.iload 5, 2) := by decide +kernel
theorem dX0_nextSlot_83 : decode cX0_nextSlot 83 = .ok (.iconst 1, 1) := by decide +kernel
theorem dX0_nextSlot_84 : decode cX0_nextSlot 84 = .ok (.iadd, 1) := by decide +kernel
theorem dX0_nextSlot_85 : decode cX0_nextSlot 85 = .ok (.istore_n 2, 1) := by decide +kernel
theorem dX0_nextSlot_86 : decode cX0_nextSlot 86 = .ok (.iload 7, 2) := by decide +kernel
theorem dX0_nextSlot_88 : decode cX0_nextSlot 88 = .ok (.istore_n 3, 1) := by decide +kernel
theorem dX0_nextSlot_89 : decode cX0_nextSlot 89 = .ok (.iinc 4 1, 3) := by decide +kernel
theorem dX0_nextSlot_92 : decode cX0_nextSlot 92 = .ok (.goto (-84), 3) := by decide +kernel
theorem dX0_nextSlot_95 : decode cX0_nextSlot 95 = .ok (.iload_n 2, 1) := by decide +kernel
theorem dX0_nextSlot_96 : decode cX0_nextSlot 96 = .ok (.ireturn, 1) := by decide +kernel
theorem dX0_slotAt_0 : decode cX0_slotAt 0 = .ok (.iconst 0, 1) := by decide +kernel
theorem dX0_slotAt_1 : decode cX0_slotAt 1 = .ok (.istore_n 2, 1) := by decide +kernel
theorem dX0_slotAt_2 : decode cX0_slotAt 2 = .ok (.iload_n 2, 1) := by decide +kernel
theorem dX0_slotAt_3 : decode cX0_slotAt 3 = .ok (.aload_n 0, 1) := by decide +kernel
theorem dX0_slotAt_4 : decode cX0_slotAt 4 = .ok (.getfield 27, 3) := by decide +kernel
theorem dX0_slotAt_7 : decode cX0_slotAt 7 = .ok (.arraylength, 1) := by decide +kernel
theorem dX0_slotAt_8 : decode cX0_slotAt 8 = .ok (.if_icmp .ge 31, 3) := by decide +kernel
theorem dX0_slotAt_11 : decode cX0_slotAt 11 = .ok (.aload_n 0, 1) := by decide +kernel
theorem dX0_slotAt_12 : decode cX0_slotAt 12 = .ok (.getfield 27, 3) := by decide +kernel
theorem dX0_slotAt_15 : decode cX0_slotAt 15 = .ok (.iload_n 2, 1) := by decide +kernel
theorem dX0_slotAt_16 : decode cX0_slotAt 16 = .ok (.iaload, 1) := by decide +kernel
theorem dX0_slotAt_17 : decode cX0_slotAt 17 = .ok (.ldc 30, 2) := by decide +kernel
theorem dX0_slotAt_19 : decode cX0_slotAt 19 = .ok (.if_icmp .eq 14, 3) := by decide +kernel
theorem dX0_slotAt_22 : decode cX0_slotAt 22 = .ok (.aload_n 0, 1) := by decide +kernel
theorem dX0_slotAt_23 : decode cX0_slotAt 23 = .ok (.iload_n 2, 1) := by decide +kernel
theorem dX0_slotAt_24 : decode cX0_slotAt 24 = .ok (.invokevirtual 135, 3) := by decide +kernel
theorem dX0_slotAt_27 : decode cX0_slotAt 27 = .ok (.iload_n 1, 1) := by decide +kernel
theorem dX0_slotAt_28 : decode cX0_slotAt 28 = .ok (.if_icmp .ne 5, 3) := by decide +kernel
theorem dX0_slotAt_31 : decode cX0_slotAt 31 = .ok (.iload_n 2, 1) := by decide +kernel
theorem dX0_slotAt_32 : decode cX0_slotAt 32 = .ok (.ireturn, 1) := by decide +kernel
theorem dX0_slotAt_33 : decode cX0_slotAt 33 = .ok (.iinc 2 1, 3) := by decide +kernel
theorem dX0_slotAt_36 : decode cX0_slotAt 36 = .ok (.goto (-34), 3) := by decide +kernel
theorem dX0_slotAt_39 : decode cX0_slotAt 39 = .ok (.iconst (-1), 1) := by decide +kernel
theorem dX0_slotAt_40 : decode cX0_slotAt 40 = .ok (.ireturn, 1) := by decide +kernel
theorem dX0_eventsBefore_0 : decode cX0_eventsBefore 0 = .ok (.aload_n 0, 1) := by decide +kernel
theorem dX0_eventsBefore_1 : decode cX0_eventsBefore 1 = .ok (.getfield 27, 3) := by decide +kernel
theorem dX0_eventsBefore_4 : decode cX0_eventsBefore 4 = .ok (.iload_n 1, 1) := by decide +kernel
theorem dX0_eventsBefore_5 : decode cX0_eventsBefore 5 = .ok (.invokestatic 73, 3) := by decide +kernel
theorem dX0_eventsBefore_8 : decode cX0_eventsBefore 8 = .ok (.istore_n 2, 1) := by decide +kernel
theorem dX0_eventsBefore_9 : decode cX0_eventsBefore 9 = .ok (.iconst 0, 1) := by decide +kernel
theorem dX0_eventsBefore_10 : decode cX0_eventsBefore 10 = .ok (.istore_n 3, 1) := by decide +kernel
theorem dX0_eventsBefore_11 : decode cX0_eventsBefore 11 = .ok (.iconst 0, 1) := by decide +kernel
theorem dX0_eventsBefore_12 : decode cX0_eventsBefore 12 = .ok (.istore 4, 2) := by decide +kernel
theorem dX0_eventsBefore_14 : decode cX0_eventsBefore 14 = .ok (.iload 4, 2) := by decide +kernel
theorem dX0_eventsBefore_16 : decode cX0_eventsBefore 16 = .ok (.aload_n 0, 1) := by decide +kernel
theorem dX0_eventsBefore_17 : decode cX0_eventsBefore 17 = .ok (.getfield 27, 3) := by decide +kernel
theorem dX0_eventsBefore_20 : decode cX0_eventsBefore 20 = .ok (.arraylength, 1) := by decide +kernel
theorem dX0_eventsBefore_21 : decode cX0_eventsBefore 21 = .ok (.if_icmp .ge 40, 3) := by decide +kernel
theorem dX0_eventsBefore_24 : decode cX0_eventsBefore 24 = .ok (.aload_n 0, 1) := by decide +kernel
theorem dX0_eventsBefore_25 : decode cX0_eventsBefore 25 = .ok (.getfield 27, 3) := by decide +kernel
theorem dX0_eventsBefore_28 : decode cX0_eventsBefore 28 = .ok (.iload 4, 2) := by decide +kernel
theorem dX0_eventsBefore_30 : decode cX0_eventsBefore 30 = .ok (.iaload, 1) := by decide +kernel
theorem dX0_eventsBefore_31 : decode cX0_eventsBefore 31 = .ok (.iload_n 2, 1) := by decide +kernel
theorem dX0_eventsBefore_32 : decode cX0_eventsBefore 32 = .ok (.if_icmp .lt 20, 3) := by decide +kernel
theorem dX0_eventsBefore_35 : decode cX0_eventsBefore 35 = .ok (.aload_n 0, 1) := by decide +kernel
theorem dX0_eventsBefore_36 : decode cX0_eventsBefore 36 = .ok (.getfield 27, 3) := by decide +kernel
theorem dX0_eventsBefore_39 : decode cX0_eventsBefore 39 = .ok (.iload 4, 2) := by decide +kernel
theorem dX0_eventsBefore_41 : decode cX0_eventsBefore 41 = .ok (.iaload, 1) := by decide +kernel
theorem dX0_eventsBefore_42 : decode cX0_eventsBefore 42 = .ok (.iload_n 2, 1) := by decide +kernel
theorem dX0_eventsBefore_43 : decode cX0_eventsBefore 43 = .ok (.if_icmp .ne 12, 3) := by decide +kernel
theorem dX0_eventsBefore_46 : decode cX0_eventsBefore 46 = .ok (.iload 4, 2) := by decide +kernel
theorem dX0_eventsBefore_48 : decode cX0_eventsBefore 48 = .ok (.iload_n 1, 1) := by decide +kernel
theorem dX0_eventsBefore_49 : decode cX0_eventsBefore 49 = .ok (.if_icmp .ge 6, 3) := by decide +kernel
theorem dX0_eventsBefore_52 : decode cX0_eventsBefore 52 = .ok (.iinc 3 1, 3) := by decide +kernel
theorem dX0_eventsBefore_55 : decode cX0_eventsBefore 55 = .ok (.iinc 4 1, 3) := by decide +kernel
theorem dX0_eventsBefore_58 : decode cX0_eventsBefore 58 = .ok (.goto (-44), 3) := by decide +kernel
theorem dX0_eventsBefore_61 : decode cX0_eventsBefore 61 = .ok (.iload_n 3, 1) := by decide +kernel
theorem dX0_eventsBefore_62 : decode cX0_eventsBefore 62 = .ok (.ireturn, 1) := by decide +kernel
theorem dX0_happen_0 : decode cX0_happen 0 = .ok (.iload_n 1, 1) := by decide +kernel
theorem dX0_happen_1 : decode cX0_happen 1 = .ok (.invokestatic 128, 3) := by decide +kernel
theorem dX0_happen_4 : decode cX0_happen 4 = .ok (.istore_n 2, 1) := by decide +kernel
theorem dX0_happen_5 : decode cX0_happen 5 = .ok (.aload_n 0, 1) := by decide +kernel
theorem dX0_happen_6 : decode cX0_happen 6 = .ok (.aload_n 0, 1) := by decide +kernel
theorem dX0_happen_7 : decode cX0_happen 7 = .ok (.getfield 27, 3) := by decide +kernel
theorem dX0_happen_10 : decode cX0_happen 10 = .ok (.iload_n 1, 1) := by decide +kernel
theorem dX0_happen_11 : decode cX0_happen 11 = .ok (.invokestatic 73, 3) := by decide +kernel
theorem dX0_happen_14 : decode cX0_happen 14 = .ok (.putfield 41, 3) := by decide +kernel
theorem dX0_happen_17 : decode cX0_happen 17 = .ok (.aload_n 0, 1) := by decide +kernel
theorem dX0_happen_18 : decode cX0_happen 18 = .ok (.getfield 27, 3) := by decide +kernel
theorem dX0_happen_21 : decode cX0_happen 21 = .ok (.iload_n 1, 1) := by decide +kernel
theorem dX0_happen_22 : decode cX0_happen 22 = .ok (.ldc 30, 2) := by decide +kernel
theorem dX0_happen_24 : decode cX0_happen 24 = .ok (.invokestatic 77, 3) := by decide +kernel
theorem dX0_happen_27 : decode cX0_happen 27 = .ok (.iload_n 1, 1) := by decide +kernel
theorem dX0_happen_28 : decode cX0_happen 28 = .ok (.invokestatic 124, 3) := by decide +kernel
theorem dX0_happen_31 : decode cX0_happen 31 = .ok (.ifCond .eq 20, 3) := by decide +kernel
theorem dX0_happen_34 : decode cX0_happen 34 = .ok (.aload_n 0, 1) := by decide +kernel
theorem dX0_happen_35 : decode cX0_happen 35 = .ok (.dup, 1) := by decide +kernel
theorem dX0_happen_36 : decode cX0_happen 36 = .ok (.getfield 53, 3) := by decide +kernel
theorem dX0_happen_39 : decode cX0_happen 39 = .ok (.iconst 1, 1) := by decide +kernel
theorem dX0_happen_40 : decode cX0_happen 40 = .ok (.iload_n 2, 1) := by decide +kernel
theorem dX0_happen_41 : decode cX0_happen 41 = .ok (.ishl, 1) := by decide +kernel
theorem dX0_happen_42 : decode cX0_happen 42 = .ok (.iconst (-1), 1) := by decide +kernel
theorem dX0_happen_43 : decode cX0_happen 43 = .ok (.ixor, 1) := by decide +kernel
theorem dX0_happen_44 : decode cX0_happen 44 = .ok (.iand, 1) := by decide +kernel
theorem dX0_happen_45 : decode cX0_happen 45 = .ok (.putfield 53, 3) := by decide +kernel
theorem dX0_happen_48 : decode cX0_happen 48 = .ok (.goto 19, 3) := by decide +kernel
theorem dX0_happen_51 : decode cX0_happen 51 = .ok (.aload_n 0, 1) := by decide +kernel
theorem dX0_happen_52 : decode cX0_happen 52 = .ok (.getfield 56, 3) := by decide +kernel
theorem dX0_happen_55 : decode cX0_happen 55 = .ok (.iload_n 2, 1) := by decide +kernel
theorem dX0_happen_56 : decode cX0_happen 56 = .ok (.invokestatic 106, 3) := by decide +kernel
theorem dX0_happen_59 : decode cX0_happen 59 = .ok (.ifCond .ne 8, 3) := by decide +kernel
theorem dX0_happen_62 : decode cX0_happen 62 = .ok (.aload_n 0, 1) := by decide +kernel
theorem dX0_happen_63 : decode cX0_happen 63 = .ok (.iload_n 2, 1) := by decide +kernel
theorem dX0_happen_64 : decode cX0_happen 64 = .ok (.invokevirtual 138, 3) := by decide +kernel
theorem dX0_happen_67 : decode cX0_happen 67 = .ok (.aload_n 0, 1) := by decide +kernel
theorem dX0_happen_68 : decode cX0_happen 68 = .ok (.invokevirtual 99, 3) := by decide +kernel
theorem dX0_happen_71 : decode cX0_happen 71 = .ok (.pop, 1) := by decide +kernel
theorem dX0_happen_72 : decode cX0_happen 72 = .ok (.return_, 1) := by decide +kernel
theorem dX0_moveArmature_0 : decode cX0_moveArmature 0 = .ok (.aload_n 0, 1) := by decide +kernel
theorem dX0_moveArmature_1 : decode cX0_moveArmature 1 = .ok (.dup, 1) := by decide +kernel
theorem dX0_moveArmature_2 : decode cX0_moveArmature 2 = .ok (.getfield 50, 3) := by decide +kernel
theorem dX0_moveArmature_5 : decode cX0_moveArmature 5 = .ok (.iconst 1, 1) := by decide +kernel
theorem dX0_moveArmature_6 : decode cX0_moveArmature 6 = .ok (.iload_n 1, 1) := by decide +kernel
theorem dX0_moveArmature_7 : decode cX0_moveArmature 7 = .ok (.ishl, 1) := by decide +kernel
theorem dX0_moveArmature_8 : decode cX0_moveArmature 8 = .ok (.ixor, 1) := by decide +kernel
theorem dX0_moveArmature_9 : decode cX0_moveArmature 9 = .ok (.putfield 50, 3) := by decide +kernel
theorem dX0_moveArmature_12 : decode cX0_moveArmature 12 = .ok (.aload_n 0, 1) := by decide +kernel
theorem dX0_moveArmature_13 : decode cX0_moveArmature 13 = .ok (.getfield 18, 3) := by decide +kernel
theorem dX0_moveArmature_16 : decode cX0_moveArmature 16 = .ok (.iload_n 1, 1) := by decide +kernel
theorem dX0_moveArmature_17 : decode cX0_moveArmature 17 = .ok (.invokestatic 73, 3) := by decide +kernel
theorem dX0_moveArmature_20 : decode cX0_moveArmature 20 = .ok (.istore_n 2, 1) := by decide +kernel
theorem dX0_moveArmature_21 : decode cX0_moveArmature 21 = .ok (.iload_n 2, 1) := by decide +kernel
theorem dX0_moveArmature_22 : decode cX0_moveArmature 22 = .ok (.ifCond .le 33, 3) := by decide +kernel
theorem dX0_moveArmature_25 : decode cX0_moveArmature 25 = .ok (.aload_n 0, 1) := by decide +kernel
theorem dX0_moveArmature_26 : decode cX0_moveArmature 26 = .ok (.dup, 1) := by decide +kernel
theorem dX0_moveArmature_27 : decode cX0_moveArmature 27 = .ok (.getfield 53, 3) := by decide +kernel
theorem dX0_moveArmature_30 : decode cX0_moveArmature 30 = .ok (.iconst 1, 1) := by decide +kernel
theorem dX0_moveArmature_31 : decode cX0_moveArmature 31 = .ok (.iload_n 1, 1) := by decide +kernel
theorem dX0_moveArmature_32 : decode cX0_moveArmature 32 = .ok (.ishl, 1) := by decide +kernel
theorem dX0_moveArmature_33 : decode cX0_moveArmature 33 = .ok (.ior, 1) := by decide +kernel
theorem dX0_moveArmature_34 : decode cX0_moveArmature 34 = .ok (.putfield 53, 3) := by decide +kernel
theorem dX0_moveArmature_37 : decode cX0_moveArmature 37 = .ok (.aload_n 0, 1) := by decide +kernel
theorem dX0_moveArmature_38 : decode cX0_moveArmature 38 = .ok (.getfield 27, 3) := by decide +kernel
theorem dX0_moveArmature_41 : decode cX0_moveArmature 41 = .ok (.iconst 2, 1) := by decide +kernel
theorem dX0_moveArmature_42 : decode cX0_moveArmature 42 = .ok (.iload_n 1, 1) := by decide +kernel
theorem dX0_moveArmature_43 : decode cX0_moveArmature 43 = .ok (.imul, 1) := by decide +kernel
theorem dX0_moveArmature_44 : decode cX0_moveArmature 44 = .ok (.iconst 1, 1) := by decide +kernel
theorem dX0_moveArmature_45 : decode cX0_moveArmature 45 = .ok (.iadd, 1) := by decide +kernel
theorem dX0_moveArmature_46 : decode cX0_moveArmature 46 = .ok (.aload_n 0, 1) := by decide +kernel
theorem dX0_moveArmature_47 : decode cX0_moveArmature 47 = .ok (.getfield 41, 3) := by decide +kernel
theorem dX0_moveArmature_50 : decode cX0_moveArmature 50 = .ok (.iload_n 2, 1) := by decide +kernel
theorem dX0_moveArmature_51 : decode cX0_moveArmature 51 = .ok (.iadd, 1) := by decide +kernel
theorem dX0_moveArmature_52 : decode cX0_moveArmature 52 = .ok (.invokestatic 77, 3) := by decide +kernel
theorem dX0_moveArmature_55 : decode cX0_moveArmature 55 = .ok (.return_, 1) := by decide +kernel
theorem dX0_run_0 : decode cX0_run 0 = .ok (.iconst 0, 1) := by decide +kernel
theorem dX0_run_1 : decode cX0_run 1 = .ok (.istore 4, 2) := by decide +kernel
theorem dX0_run_3 : decode cX0_run 3 = .ok (.iload 4, 2) := by decide +kernel
theorem dX0_run_5 : decode cX0_run 5 = .ok (.iload_n 1, 1) := by decide +kernel
theorem dX0_run_6 : decode cX0_run 6 = .ok (.if_icmp .ge 44, 3) := by decide +kernel
theorem dX0_run_9 : decode cX0_run 9 = .ok (.aload_n 0, 1) := by decide +kernel
theorem dX0_run_10 : decode cX0_run 10 = .ok (.iload_n 3, 1) := by decide +kernel
theorem dX0_run_11 : decode cX0_run 11 = .ok (.invokevirtual 131, 3) := by decide +kernel
theorem dX0_run_14 : decode cX0_run 14 = .ok (.istore 5, 2) := by decide +kernel
theorem dX0_run_16 : decode cX0_run 16 = .ok (.iload 5, 2) := by decide +kernel
theorem dX0_run_18 : decode cX0_run 18 = .ok (.iconst (-1), 1) := by decide +kernel
theorem dX0_run_19 : decode cX0_run 19 = .ok (.if_icmp .eq 16, 3) := by decide +kernel
theorem dX0_run_22 : decode cX0_run 22 = .ok (.aload_n 0, 1) := by decide +kernel
theorem dX0_run_23 : decode cX0_run 23 = .ok (.getfield 27, 3) := by decide +kernel
theorem dX0_run_26 : decode cX0_run 26 = .ok (.iload 5, 2) := by decide +kernel
theorem dX0_run_28 : decode cX0_run 28 = .ok (.invokestatic 73, 3) := by decide +kernel
theorem dX0_run_31 : decode cX0_run 31 = .ok (.iload_n 2, 1) := by decide +kernel
theorem dX0_run_32 : decode cX0_run 32 = .ok (.if_icmp .le 6, 3) := by decide +kernel
theorem dX0_run_35 : decode cX0_run 35 = .ok (.iload 4, 2) := by decide +kernel
theorem dX0_run_37 : decode cX0_run 37 = .ok (.ireturn, 1) := by decide +kernel
theorem dX0_run_38 : decode cX0_run 38 = .ok (.aload_n 0, 1) := by decide +kernel
theorem dX0_run_39 : decode cX0_run 39 = .ok (.iload 5, 2) := by decide +kernel
theorem dX0_run_41 : decode cX0_run 41 = .ok (.invokevirtual 141, 3) := by decide +kernel
theorem dX0_run_44 : decode cX0_run 44 = .ok (.iinc 4 1, 3) := by decide +kernel
theorem dX0_run_47 : decode cX0_run 47 = .ok (.goto (-44), 3) := by decide +kernel
theorem dX0_run_50 : decode cX0_run 50 = .ok (.iload_n 1, 1) := by decide +kernel
theorem dX0_run_51 : decode cX0_run 51 = .ok (.ireturn, 1) := by decide +kernel
end
section
theorem dX1_bit_0 : decode cX1_bit 0 = .ok (.iload_n 1, 1) := by decide +kernel
theorem dX1_bit_1 : decode cX1_bit 1 = .ok (.lookupswitch 38 #[(1, 27), (2, 31)], 27) := by decide +kernel
theorem dX1_bit_28 : decode cX1_bit 28 = .ok (.iconst 1, 1) := by decide +kernel
theorem dX1_bit_29 : decode cX1_bit 29 = .ok (.iload_n 0, 1) := by decide +kernel
theorem dX1_bit_30 : decode cX1_bit 30 = .ok (.ishl, 1) := by decide +kernel
theorem dX1_bit_31 : decode cX1_bit 31 = .ok (.ireturn, 1) := by decide +kernel
theorem dX1_bit_32 : decode cX1_bit 32 = .ok (.iconst 1, 1) := by decide +kernel
theorem dX1_bit_33 : decode cX1_bit 33 = .ok (.bipush 16, 2) := by decide +kernel
theorem dX1_bit_35 : decode cX1_bit 35 = .ok (.iload_n 0, 1) := by decide +kernel
theorem dX1_bit_36 : decode cX1_bit 36 = .ok (.iadd, 1) := by decide +kernel
theorem dX1_bit_37 : decode cX1_bit 37 = .ok (.ishl, 1) := by decide +kernel
theorem dX1_bit_38 : decode cX1_bit 38 = .ok (.ireturn, 1) := by decide +kernel
theorem dX1_bit_39 : decode cX1_bit 39 = .ok (.iconst 0, 1) := by decide +kernel
theorem dX1_bit_40 : decode cX1_bit 40 = .ok (.ireturn, 1) := by decide +kernel
theorem dX1_howOf_0 : decode cX1_howOf 0 = .ok (.iload_n 0, 1) := by decide +kernel
theorem dX1_howOf_1 : decode cX1_howOf 1 = .ok (.iload_n 1, 1) := by decide +kernel
theorem dX1_howOf_2 : decode cX1_howOf 2 = .ok (.iconst 1, 1) := by decide +kernel
theorem dX1_howOf_3 : decode cX1_howOf 3 = .ok (.invokestatic 9, 3) := by decide +kernel
theorem dX1_howOf_6 : decode cX1_howOf 6 = .ok (.iand, 1) := by decide +kernel
theorem dX1_howOf_7 : decode cX1_howOf 7 = .ok (.ifCond .eq 5, 3) := by decide +kernel
theorem dX1_howOf_10 : decode cX1_howOf 10 = .ok (.iconst 1, 1) := by decide +kernel
theorem dX1_howOf_11 : decode cX1_howOf 11 = .ok (.ireturn, 1) := by decide +kernel
theorem dX1_howOf_12 : decode cX1_howOf 12 = .ok (.iload_n 0, 1) := by decide +kernel
theorem dX1_howOf_13 : decode cX1_howOf 13 = .ok (.iload_n 1, 1) := by decide +kernel
theorem dX1_howOf_14 : decode cX1_howOf 14 = .ok (.iconst 2, 1) := by decide +kernel
theorem dX1_howOf_15 : decode cX1_howOf 15 = .ok (.invokestatic 9, 3) := by decide +kernel
theorem dX1_howOf_18 : decode cX1_howOf 18 = .ok (.iand, 1) := by decide +kernel
theorem dX1_howOf_19 : decode cX1_howOf 19 = .ok (.ifCond .eq 7, 3) := by decide +kernel
theorem dX1_howOf_22 : decode cX1_howOf 22 = .ok (.iconst 2, 1) := by decide +kernel
theorem dX1_howOf_23 : decode cX1_howOf 23 = .ok (.goto 4, 3) := by decide +kernel
theorem dX1_howOf_26 : decode cX1_howOf 26 = .ok (.iconst 0, 1) := by decide +kernel
theorem dX1_howOf_27 : decode cX1_howOf 27 = .ok (.ireturn, 1) := by decide +kernel
theorem dX1_with_0 : decode cX1_with 0 = .ok (.iload_n 0, 1) := by decide +kernel
theorem dX1_with_1 : decode cX1_with 1 = .ok (.iload_n 1, 1) := by decide +kernel
theorem dX1_with_2 : decode cX1_with 2 = .ok (.iconst 1, 1) := by decide +kernel
theorem dX1_with_3 : decode cX1_with 3 = .ok (.invokestatic 9, 3) := by decide +kernel
theorem dX1_with_6 : decode cX1_with 6 = .ok (.iload_n 1, 1) := by decide +kernel
theorem dX1_with_7 : decode cX1_with 7 = .ok (.iconst 2, 1) := by decide +kernel
theorem dX1_with_8 : decode cX1_with 8 = .ok (.invokestatic 9, 3) := by decide +kernel
theorem dX1_with_11 : decode cX1_with 11 = .ok (.ior, 1) := by decide +kernel
theorem dX1_with_12 : decode cX1_with 12 = .ok (.iconst (-1), 1) := by decide +kernel
theorem dX1_with_13 : decode cX1_with 13 = .ok (.ixor, 1) := by decide +kernel
theorem dX1_with_14 : decode cX1_with 14 = .ok (.iand, 1) := by decide +kernel
theorem dX1_with_15 : decode cX1_with 15 = .ok (.istore_n 3, 1) := by decide +kernel
theorem dX1_with_16 : decode cX1_with 16 = .ok (.iload_n 3, 1) := by decide +kernel
theorem dX1_with_17 : decode cX1_with 17 = .ok (.iload_n 1, 1) := by decide +kernel
theorem dX1_with_18 : decode cX1_with 18 = .ok (.iload_n 2, 1) := by decide +kernel
theorem dX1_with_19 : decode cX1_with 19 = .ok (.invokestatic 9, 3) := by decide +kernel
theorem dX1_with_22 : decode cX1_with 22 = .ok (.ior, 1) := by decide +kernel
theorem dX1_with_23 : decode cX1_with 23 = .ok (.ireturn, 1) := by decide +kernel
theorem dX2_init_0 : decode cX2_init 0 = .ok (.aload_n 0, 1) := by decide +kernel
theorem dX2_init_1 : decode cX2_init 1 = .ok (.invokespecial 3, 3) := by decide +kernel
theorem dX2_init_4 : decode cX2_init 4 = .ok (.aload_n 0, 1) := by decide +kernel
theorem dX2_init_5 : decode cX2_init 5 = .ok (.bipush 6, 2) := by decide +kernel
theorem dX2_init_7 : decode cX2_init 7 = .ok (.newarray .int, 2) := by decide +kernel
theorem dX2_init_9 : decode cX2_init 9 = .ok (.putfield 9, 3) := by decide +kernel
theorem dX2_init_12 : decode cX2_init 12 = .ok (.return_, 1) := by decide +kernel
theorem dX3_init_0 : decode cX3_init 0 = .ok (.aload_n 0, 1) := by decide +kernel
theorem dX3_init_1 : decode cX3_init 1 = .ok (.invokespecial 3, 3) := by decide +kernel
theorem dX3_init_4 : decode cX3_init 4 = .ok (.aload_n 0, 1) := by decide +kernel
theorem dX3_init_5 : decode cX3_init 5 = .ok (.bipush 6, 2) := by decide +kernel
theorem dX3_init_7 : decode cX3_init 7 = .ok (.anewarray 9, 3) := by decide +kernel
theorem dX3_init_10 : decode cX3_init 10 = .ok (.putfield 11, 3) := by decide +kernel
theorem dX3_init_13 : decode cX3_init 13 = .ok (.iconst 0, 1) := by decide +kernel
theorem dX3_init_14 : decode cX3_init 14 = .ok (.istore_n 1, 1) := by decide +kernel
theorem dX3_init_15 : decode cX3_init 15 = .ok (.iload_n 1, 1) := by decide +kernel
theorem dX3_init_16 : decode cX3_init 16 = .ok (.aload_n 0, 1) := by decide +kernel
theorem dX3_init_17 : decode cX3_init 17 = .ok (.getfield 11, 3) := by decide +kernel
theorem dX3_init_20 : decode cX3_init 20 = .ok (.arraylength, 1) := by decide +kernel
theorem dX3_init_21 : decode cX3_init 21 = .ok (.if_icmp .ge 22, 3) := by decide +kernel
theorem dX3_init_24 : decode cX3_init 24 = .ok (.aload_n 0, 1) := by decide +kernel
theorem dX3_init_25 : decode cX3_init 25 = .ok (.getfield 11, 3) := by decide +kernel
theorem dX3_init_28 : decode cX3_init 28 = .ok (.iload_n 1, 1) := by decide +kernel
theorem dX3_init_29 : decode cX3_init 29 = .ok (.new 9, 3) := by decide +kernel
theorem dX3_init_32 : decode cX3_init 32 = .ok (.dup, 1) := by decide +kernel
theorem dX3_init_33 : decode cX3_init 33 = .ok (.invokespecial 17, 3) := by decide +kernel
theorem dX3_init_36 : decode cX3_init 36 = .ok (.aastore, 1) := by decide +kernel
theorem dX3_init_37 : decode cX3_init 37 = .ok (.iinc 1 1, 3) := by decide +kernel
theorem dX3_init_40 : decode cX3_init 40 = .ok (.goto (-25), 3) := by decide +kernel
theorem dX3_init_43 : decode cX3_init 43 = .ok (.return_, 1) := by decide +kernel
theorem dX3_bankAt_0 : decode cX3_bankAt 0 = .ok (.aload_n 0, 1) := by decide +kernel
theorem dX3_bankAt_1 : decode cX3_bankAt 1 = .ok (.getfield 18, 3) := by decide +kernel
theorem dX3_bankAt_4 : decode cX3_bankAt 4 = .ok (.iload_n 1, 1) := by decide +kernel
theorem dX3_bankAt_5 : decode cX3_bankAt 5 = .ok (.iadd, 1) := by decide +kernel
theorem dX3_bankAt_6 : decode cX3_bankAt 6 = .ok (.bipush 6, 2) := by decide +kernel
theorem dX3_bankAt_8 : decode cX3_bankAt 8 = .ok (.invokestatic 22, 3) := by decide +kernel
theorem dX3_bankAt_11 : decode cX3_bankAt 11 = .ok (.istore_n 2, 1) := by decide +kernel
theorem dX3_bankAt_12 : decode cX3_bankAt 12 = .ok (.iload_n 2, 1) := by decide +kernel
theorem dX3_bankAt_13 : decode cX3_bankAt 13 = .ok (.aload_n 0, 1) := by decide +kernel
theorem dX3_bankAt_14 : decode cX3_bankAt 14 = .ok (.getfield 11, 3) := by decide +kernel
theorem dX3_bankAt_17 : decode cX3_bankAt 17 = .ok (.arraylength, 1) := by decide +kernel
theorem dX3_bankAt_18 : decode cX3_bankAt 18 = .ok (.if_icmp .ge 12, 3) := by decide +kernel
theorem dX3_bankAt_21 : decode cX3_bankAt 21 = .ok (.aload_n 0, 1) := by decide +kernel
theorem dX3_bankAt_22 : decode cX3_bankAt 22 = .ok (.getfield 11, 3) := by decide +kernel
theorem dX3_bankAt_25 : decode cX3_bankAt 25 = .ok (.iload_n 2, 1) := by decide +kernel
theorem dX3_bankAt_26 : decode cX3_bankAt 26 = .ok (.aaload, 1) := by decide +kernel
theorem dX3_bankAt_27 : decode cX3_bankAt 27 = .ok (.goto 4, 3) := by decide +kernel
theorem dX3_bankAt_30 : decode cX3_bankAt 30 = .ok (.aconst_null, 1) := by decide +kernel
theorem dX3_bankAt_31 : decode cX3_bankAt 31 = .ok (.areturn, 1) := by decide +kernel
theorem dX3_save_0 : decode cX3_save 0 = .ok (.aload_n 0, 1) := by decide +kernel
theorem dX3_save_1 : decode cX3_save 1 = .ok (.getfield 28, 3) := by decide +kernel
theorem dX3_save_4 : decode cX3_save 4 = .ok (.bipush 6, 2) := by decide +kernel
theorem dX3_save_6 : decode cX3_save 6 = .ok (.if_icmp .ne 28, 3) := by decide +kernel
theorem dX3_save_9 : decode cX3_save 9 = .ok (.aload_n 0, 1) := by decide +kernel
theorem dX3_save_10 : decode cX3_save 10 = .ok (.aload_n 0, 1) := by decide +kernel
theorem dX3_save_11 : decode cX3_save 11 = .ok (.getfield 18, 3) := by decide +kernel
theorem dX3_save_14 : decode cX3_save 14 = .ok (.iconst 1, 1) := by decide +kernel
theorem dX3_save_15 : decode cX3_save 15 = .ok (.iadd, 1) := by decide +kernel
theorem dX3_save_16 : decode cX3_save 16 = .ok (.bipush 6, 2) := by decide +kernel
theorem dX3_save_18 : decode cX3_save 18 = .ok (.invokestatic 22, 3) := by decide +kernel
theorem dX3_save_21 : decode cX3_save 21 = .ok (.putfield 18, 3) := by decide +kernel
theorem dX3_save_24 : decode cX3_save 24 = .ok (.aload_n 0, 1) := by decide +kernel
theorem dX3_save_25 : decode cX3_save 25 = .ok (.dup, 1) := by decide +kernel
theorem dX3_save_26 : decode cX3_save 26 = .ok (.getfield 28, 3) := by decide +kernel
theorem dX3_save_29 : decode cX3_save 29 = .ok (.iconst 1, 1) := by decide +kernel
theorem dX3_save_30 : decode cX3_save 30 = .ok (.isub, 1) := by decide +kernel
theorem dX3_save_31 : decode cX3_save 31 = .ok (.putfield 28, 3) := by decide +kernel
theorem dX3_save_34 : decode cX3_save 34 = .ok (.aload_n 0, 1) := by decide +kernel
theorem dX3_save_35 : decode cX3_save 35 = .ok (.aload_n 0, 1) := by decide +kernel
theorem dX3_save_36 : decode cX3_save 36 = .ok (.getfield 28, 3) := by decide +kernel
theorem dX3_save_39 : decode cX3_save 39 = .ok (.invokevirtual 31, 3) := by decide +kernel
theorem dX3_save_42 : decode cX3_save 42 = .ok (.astore_n 2, 1) := by decide +kernel
theorem dX3_save_43 : decode cX3_save 43 = .ok (.aload_n 2, 1) := by decide +kernel
theorem dX3_save_44 : decode cX3_save 44 = .ok (.ifnull 18, 3) := by decide +kernel
theorem dX3_save_47 : decode cX3_save 47 = .ok (.aload_n 2, 1) := by decide +kernel
theorem dX3_save_48 : decode cX3_save 48 = .ok (.aload_n 1, 1) := by decide +kernel
theorem dX3_save_49 : decode cX3_save 49 = .ok (.invokevirtual 35, 3) := by decide +kernel
theorem dX3_save_52 : decode cX3_save 52 = .ok (.aload_n 0, 1) := by decide +kernel
theorem dX3_save_53 : decode cX3_save 53 = .ok (.dup, 1) := by decide +kernel
theorem dX3_save_54 : decode cX3_save 54 = .ok (.getfield 28, 3) := by decide +kernel
theorem dX3_save_57 : decode cX3_save 57 = .ok (.iconst 1, 1) := by decide +kernel
theorem dX3_save_58 : decode cX3_save 58 = .ok (.iadd, 1) := by decide +kernel
theorem dX3_save_59 : decode cX3_save 59 = .ok (.putfield 28, 3) := by decide +kernel
theorem dX3_save_62 : decode cX3_save 62 = .ok (.return_, 1) := by decide +kernel
theorem dX3_restore_0 : decode cX3_restore 0 = .ok (.aload_n 0, 1) := by decide +kernel
theorem dX3_restore_1 : decode cX3_restore 1 = .ok (.getfield 28, 3) := by decide +kernel
theorem dX3_restore_4 : decode cX3_restore 4 = .ok (.ifCond .le 16, 3) := by decide +kernel
theorem dX3_restore_7 : decode cX3_restore 7 = .ok (.aload_n 0, 1) := by decide +kernel
theorem dX3_restore_8 : decode cX3_restore 8 = .ok (.aload_n 0, 1) := by decide +kernel
theorem dX3_restore_9 : decode cX3_restore 9 = .ok (.getfield 28, 3) := by decide +kernel
theorem dX3_restore_12 : decode cX3_restore 12 = .ok (.iconst 1, 1) := by decide +kernel
theorem dX3_restore_13 : decode cX3_restore 13 = .ok (.isub, 1) := by decide +kernel
theorem dX3_restore_14 : decode cX3_restore 14 = .ok (.invokevirtual 31, 3) := by decide +kernel
theorem dX3_restore_17 : decode cX3_restore 17 = .ok (.goto 4, 3) := by decide +kernel
theorem dX3_restore_20 : decode cX3_restore 20 = .ok (.aconst_null, 1) := by decide +kernel
theorem dX3_restore_21 : decode cX3_restore 21 = .ok (.astore_n 2, 1) := by decide +kernel
theorem dX3_restore_22 : decode cX3_restore 22 = .ok (.aload_n 2, 1) := by decide +kernel
theorem dX3_restore_23 : decode cX3_restore 23 = .ok (.ifnonnull 5, 3) := by decide +kernel
theorem dX3_restore_26 : decode cX3_restore 26 = .ok (.iconst 0, 1) := by decide +kernel
theorem dX3_restore_27 : decode cX3_restore 27 = .ok (.ireturn, 1) := by decide +kernel
theorem dX3_restore_28 : decode cX3_restore 28 = .ok (.aload_n 1, 1) := by decide +kernel
theorem dX3_restore_29 : decode cX3_restore 29 = .ok (.aload_n 2, 1) := by decide +kernel
theorem dX3_restore_30 : decode cX3_restore 30 = .ok (.invokevirtual 35, 3) := by decide +kernel
theorem dX3_restore_33 : decode cX3_restore 33 = .ok (.aload_n 0, 1) := by decide +kernel
theorem dX3_restore_34 : decode cX3_restore 34 = .ok (.dup, 1) := by decide +kernel
theorem dX3_restore_35 : decode cX3_restore 35 = .ok (.getfield 28, 3) := by decide +kernel
theorem dX3_restore_38 : decode cX3_restore 38 = .ok (.iconst 1, 1) := by decide +kernel
theorem dX3_restore_39 : decode cX3_restore 39 = .ok (.isub, 1) := by decide +kernel
theorem dX3_restore_40 : decode cX3_restore 40 = .ok (.putfield 28, 3) := by decide +kernel
theorem dX3_restore_43 : decode cX3_restore 43 = .ok (.iconst 1, 1) := by decide +kernel
theorem dX3_restore_44 : decode cX3_restore 44 = .ok (.ireturn, 1) := by decide +kernel
theorem dX4_init_0 : decode cX4_init 0 = .ok (.aload_n 0, 1) := by decide +kernel
theorem dX4_init_1 : decode cX4_init 1 = .ok (.invokespecial 3, 3) := by decide +kernel
theorem dX4_init_4 : decode cX4_init 4 = .ok (.aload_n 0, 1) := by decide +kernel
theorem dX4_init_5 : decode cX4_init 5 = .ok (.bipush 60, 2) := by decide +kernel
theorem dX4_init_7 : decode cX4_init 7 = .ok (.newarray .char, 2) := by decide +kernel
theorem dX4_init_9 : decode cX4_init 9 = .ok (.putfield 9, 3) := by decide +kernel
theorem dX4_init_12 : decode cX4_init 12 = .ok (.return_, 1) := by decide +kernel
theorem dJ9_floorMod_7cf53_0 : decode cJ9_floorMod_7cf53 0 = .ok (.iload_n 0, 1) := by decide +kernel
theorem dJ9_floorMod_7cf53_1 : decode cJ9_floorMod_7cf53 1 = .ok (.iload_n 1, 1) := by decide +kernel
theorem dJ9_floorMod_7cf53_2 : decode cJ9_floorMod_7cf53 2 = .ok (.irem, 1) := by decide +kernel
theorem dJ9_floorMod_7cf53_3 : decode cJ9_floorMod_7cf53 3 = .ok (.istore_n 2, 1) := by decide +kernel
theorem dJ9_floorMod_7cf53_4 : decode cJ9_floorMod_7cf53 4 = .ok (.iload_n 0, 1) := by decide +kernel
theorem dJ9_floorMod_7cf53_5 : decode cJ9_floorMod_7cf53 5 = .ok (.iload_n 1, 1) := by decide +kernel
theorem dJ9_floorMod_7cf53_6 : decode cJ9_floorMod_7cf53 6 = .ok (.ixor, 1) := by decide +kernel
theorem dJ9_floorMod_7cf53_7 : decode cJ9_floorMod_7cf53 7 = .ok (.ifCond .ge 11, 3) := by decide +kernel
theorem dJ9_floorMod_7cf53_10 : decode cJ9_floorMod_7cf53 10 = .ok (.iload_n 2, 1) := by decide +kernel
theorem dJ9_floorMod_7cf53_11 : decode cJ9_floorMod_7cf53 11 = .ok (.ifCond .eq 7, 3) := by decide +kernel
theorem dJ9_floorMod_7cf53_14 : decode cJ9_floorMod_7cf53 14 = .ok (.iload_n 2, 1) := by decide +kernel
theorem dJ9_floorMod_7cf53_15 : decode cJ9_floorMod_7cf53 15 = .ok (.iload_n 1, 1) := by decide +kernel
theorem dJ9_floorMod_7cf53_16 : decode cJ9_floorMod_7cf53 16 = .ok (.iadd, 1) := by decide +kernel
theorem dJ9_floorMod_7cf53_17 : decode cJ9_floorMod_7cf53 17 = .ok (.ireturn, 1) := by decide +kernel
theorem dJ9_floorMod_7cf53_18 : decode cJ9_floorMod_7cf53 18 = .ok (.iload_n 2, 1) := by decide +kernel
theorem dJ9_floorMod_7cf53_19 : decode cJ9_floorMod_7cf53 19 = .ok (.ireturn, 1) := by decide +kernel
end
section
theorem dX5_init_0 : decode cX5_init 0 = .ok (.aload_n 0, 1) := by decide +kernel
theorem dX5_init_1 : decode cX5_init 1 = .ok (.invokespecial 3, 3) := by decide +kernel
theorem dX5_init_4 : decode cX5_init 4 = .ok (.aload_n 0, 1) := by decide +kernel
theorem dX5_init_5 : decode cX5_init 5 = .ok (.new 9, 3) := by decide +kernel
theorem dX5_init_8 : decode cX5_init 8 = .ok (.dup, 1) := by decide +kernel
theorem dX5_init_9 : decode cX5_init 9 = .ok (.invokespecial 11, 3) := by decide +kernel
theorem dX5_init_12 : decode cX5_init 12 = .ok (.putfield 12, 3) := by decide +kernel
theorem dX5_init_15 : decode cX5_init 15 = .ok (.aload_n 0, 1) := by decide +kernel
theorem dX5_init_16 : decode cX5_init 16 = .ok (.new 16, 3) := by decide +kernel
theorem dX5_init_19 : decode cX5_init 19 = .ok (.dup, 1) := by decide +kernel
theorem dX5_init_20 : decode cX5_init 20 = .ok (.invokespecial 18, 3) := by decide +kernel
theorem dX5_init_23 : decode cX5_init 23 = .ok (.putfield 19, 3) := by decide +kernel
theorem dX5_init_26 : decode cX5_init 26 = .ok (.aload_n 0, 1) := by decide +kernel
theorem dX5_init_27 : decode cX5_init 27 = .ok (.new 23, 3) := by decide +kernel
theorem dX5_init_30 : decode cX5_init 30 = .ok (.dup, 1) := by decide +kernel
theorem dX5_init_31 : decode cX5_init 31 = .ok (.invokespecial 25, 3) := by decide +kernel
theorem dX5_init_34 : decode cX5_init 34 = .ok (.putfield 26, 3) := by decide +kernel
theorem dX5_init_37 : decode cX5_init 37 = .ok (.aload_n 0, 1) := by decide +kernel
theorem dX5_init_38 : decode cX5_init 38 = .ok (.new 30, 3) := by decide +kernel
theorem dX5_init_41 : decode cX5_init 41 = .ok (.dup, 1) := by decide +kernel
theorem dX5_init_42 : decode cX5_init 42 = .ok (.invokespecial 32, 3) := by decide +kernel
theorem dX5_init_45 : decode cX5_init 45 = .ok (.putfield 33, 3) := by decide +kernel
theorem dX5_init_48 : decode cX5_init 48 = .ok (.aload_n 0, 1) := by decide +kernel
theorem dX5_init_49 : decode cX5_init 49 = .ok (.new 9, 3) := by decide +kernel
theorem dX5_init_52 : decode cX5_init 52 = .ok (.dup, 1) := by decide +kernel
theorem dX5_init_53 : decode cX5_init 53 = .ok (.invokespecial 11, 3) := by decide +kernel
theorem dX5_init_56 : decode cX5_init 56 = .ok (.putfield 37, 3) := by decide +kernel
theorem dX5_init_59 : decode cX5_init 59 = .ok (.aload_n 0, 1) := by decide +kernel
theorem dX5_init_60 : decode cX5_init 60 = .ok (.new 9, 3) := by decide +kernel
theorem dX5_init_63 : decode cX5_init 63 = .ok (.dup, 1) := by decide +kernel
theorem dX5_init_64 : decode cX5_init 64 = .ok (.invokespecial 11, 3) := by decide +kernel
theorem dX5_init_67 : decode cX5_init 67 = .ok (.putfield 40, 3) := by decide +kernel
theorem dX5_init_70 : decode cX5_init 70 = .ok (.return_, 1) := by decide +kernel
theorem dX5_addRelay_0 : decode cX5_addRelay 0 = .ok (.iload_n 1, 1) := by decide +kernel
theorem dX5_addRelay_1 : decode cX5_addRelay 1 = .ok (.iload_n 2, 1) := by decide +kernel
theorem dX5_addRelay_2 : decode cX5_addRelay 2 = .ok (.iload_n 3, 1) := by decide +kernel
theorem dX5_addRelay_3 : decode cX5_addRelay 3 = .ok (.invokestatic 43, 3) := by decide +kernel
theorem dX5_addRelay_6 : decode cX5_addRelay 6 = .ok (.ifCond .ne 5, 3) := by decide +kernel
theorem dX5_addRelay_9 : decode cX5_addRelay 9 = .ok (.iconst (-1), 1) := by decide +kernel
theorem dX5_addRelay_10 : decode cX5_addRelay 10 = .ok (.ireturn, 1) := by decide +kernel
theorem dX5_addRelay_11 : decode cX5_addRelay 11 = .ok (.aload_n 0, 1) := by decide +kernel
theorem dX5_addRelay_12 : decode cX5_addRelay 12 = .ok (.getfield 12, 3) := by decide +kernel
theorem dX5_addRelay_15 : decode cX5_addRelay 15 = .ok (.getfield 47, 3) := by decide +kernel
theorem dX5_addRelay_18 : decode cX5_addRelay 18 = .ok (.bipush 8, 2) := by decide +kernel
theorem dX5_addRelay_20 : decode cX5_addRelay 20 = .ok (.if_icmp .lt 6, 3) := by decide +kernel
theorem dX5_addRelay_23 : decode cX5_addRelay 23 = .ok (.bipush (-3), 2) := by decide +kernel
theorem dX5_addRelay_25 : decode cX5_addRelay 25 = .ok (.ireturn, 1) := by decide +kernel
theorem dX5_addRelay_26 : decode cX5_addRelay 26 = .ok (.aload_n 0, 1) := by decide +kernel
theorem dX5_addRelay_27 : decode cX5_addRelay 27 = .ok (.getfield 19, 3) := by decide +kernel
theorem dX5_addRelay_30 : decode cX5_addRelay 30 = .ok (.aload_n 0, 1) := by decide +kernel
theorem dX5_addRelay_31 : decode cX5_addRelay 31 = .ok (.getfield 12, 3) := by decide +kernel
theorem dX5_addRelay_34 : decode cX5_addRelay 34 = .ok (.invokevirtual 51, 3) := by decide +kernel
theorem dX5_addRelay_37 : decode cX5_addRelay 37 = .ok (.aload_n 0, 1) := by decide +kernel
theorem dX5_addRelay_38 : decode cX5_addRelay 38 = .ok (.getfield 12, 3) := by decide +kernel
theorem dX5_addRelay_41 : decode cX5_addRelay 41 = .ok (.iload_n 1, 1) := by decide +kernel
theorem dX5_addRelay_42 : decode cX5_addRelay 42 = .ok (.iload_n 2, 1) := by decide +kernel
theorem dX5_addRelay_43 : decode cX5_addRelay 43 = .ok (.iload_n 3, 1) := by decide +kernel
theorem dX5_addRelay_44 : decode cX5_addRelay 44 = .ok (.invokevirtual 55, 3) := by decide +kernel
theorem dX5_addRelay_47 : decode cX5_addRelay 47 = .ok (.ireturn, 1) := by decide +kernel
theorem dX5_setDelays_0 : decode cX5_setDelays 0 = .ok (.aload_n 0, 1) := by decide +kernel
theorem dX5_setDelays_1 : decode cX5_setDelays 1 = .ok (.getfield 12, 3) := by decide +kernel
theorem dX5_setDelays_4 : decode cX5_setDelays 4 = .ok (.iload_n 1, 1) := by decide +kernel
theorem dX5_setDelays_5 : decode cX5_setDelays 5 = .ok (.invokevirtual 59, 3) := by decide +kernel
theorem dX5_setDelays_8 : decode cX5_setDelays 8 = .ok (.ifCond .eq 13, 3) := by decide +kernel
theorem dX5_setDelays_11 : decode cX5_setDelays 11 = .ok (.iload_n 2, 1) := by decide +kernel
theorem dX5_setDelays_12 : decode cX5_setDelays 12 = .ok (.iload_n 3, 1) := by decide +kernel
theorem dX5_setDelays_13 : decode cX5_setDelays 13 = .ok (.iload 4, 2) := by decide +kernel
theorem dX5_setDelays_15 : decode cX5_setDelays 15 = .ok (.invokestatic 43, 3) := by decide +kernel
theorem dX5_setDelays_18 : decode cX5_setDelays 18 = .ok (.ifCond .ne 5, 3) := by decide +kernel
theorem dX5_setDelays_21 : decode cX5_setDelays 21 = .ok (.iconst (-1), 1) := by decide +kernel
theorem dX5_setDelays_22 : decode cX5_setDelays 22 = .ok (.ireturn, 1) := by decide +kernel
theorem dX5_setDelays_23 : decode cX5_setDelays 23 = .ok (.aload_n 0, 1) := by decide +kernel
theorem dX5_setDelays_24 : decode cX5_setDelays 24 = .ok (.getfield 19, 3) := by decide +kernel
theorem dX5_setDelays_27 : decode cX5_setDelays 27 = .ok (.aload_n 0, 1) := by decide +kernel
theorem dX5_setDelays_28 : decode cX5_setDelays 28 = .ok (.getfield 12, 3) := by decide +kernel
theorem dX5_setDelays_31 : decode cX5_setDelays 31 = .ok (.invokevirtual 51, 3) := by decide +kernel
theorem dX5_setDelays_34 : decode cX5_setDelays 34 = .ok (.aload_n 0, 1) := by decide +kernel
theorem dX5_setDelays_35 : decode cX5_setDelays 35 = .ok (.getfield 12, 3) := by decide +kernel
theorem dX5_setDelays_38 : decode cX5_setDelays 38 = .ok (.iload_n 1, 1) := by decide +kernel
theorem dX5_setDelays_39 : decode cX5_setDelays 39 = .ok (.iload_n 2, 1) := by decide +kernel
theorem dX5_setDelays_40 : decode cX5_setDelays 40 = .ok (.iload_n 3, 1) := by decide +kernel
theorem dX5_setDelays_41 : decode cX5_setDelays 41 = .ok (.iload 4, 2) := by decide +kernel
theorem dX5_setDelays_43 : decode cX5_setDelays 43 = .ok (.invokevirtual 63, 3) := by decide +kernel
theorem dX5_setDelays_46 : decode cX5_setDelays 46 = .ok (.ifCond .eq 7, 3) := by decide +kernel
theorem dX5_setDelays_49 : decode cX5_setDelays 49 = .ok (.iconst 1, 1) := by decide +kernel
theorem dX5_setDelays_50 : decode cX5_setDelays 50 = .ok (.goto 4, 3) := by decide +kernel
theorem dX5_setDelays_53 : decode cX5_setDelays 53 = .ok (.iconst 0, 1) := by decide +kernel
theorem dX5_setDelays_54 : decode cX5_setDelays 54 = .ok (.ireturn, 1) := by decide +kernel
theorem dX5_setCondition_0 : decode cX5_setCondition 0 = .ok (.aload_n 0, 1) := by decide +kernel
theorem dX5_setCondition_1 : decode cX5_setCondition 1 = .ok (.getfield 12, 3) := by decide +kernel
theorem dX5_setCondition_4 : decode cX5_setCondition 4 = .ok (.iload_n 1, 1) := by decide +kernel
theorem dX5_setCondition_5 : decode cX5_setCondition 5 = .ok (.invokevirtual 59, 3) := by decide +kernel
theorem dX5_setCondition_8 : decode cX5_setCondition 8 = .ok (.ifCond .eq 19, 3) := by decide +kernel
theorem dX5_setCondition_11 : decode cX5_setCondition 11 = .ok (.iload_n 2, 1) := by decide +kernel
theorem dX5_setCondition_12 : decode cX5_setCondition 12 = .ok (.iconst 0, 1) := by decide +kernel
theorem dX5_setCondition_13 : decode cX5_setCondition 13 = .ok (.aload_n 0, 1) := by decide +kernel
theorem dX5_setCondition_14 : decode cX5_setCondition 14 = .ok (.getfield 12, 3) := by decide +kernel
theorem dX5_setCondition_17 : decode cX5_setCondition 17 = .ok (.iload_n 1, 1) := by decide +kernel
theorem dX5_setCondition_18 : decode cX5_setCondition 18 = .ok (.invokevirtual 67, 3) := by decide +kernel
theorem dX5_setCondition_21 : decode cX5_setCondition 21 = .ok (.invokestatic 71, 3) := by decide +kernel
theorem dX5_setCondition_24 : decode cX5_setCondition 24 = .ok (.ifCond .ne 5, 3) := by decide +kernel
theorem dX5_setCondition_27 : decode cX5_setCondition 27 = .ok (.iconst (-1), 1) := by decide +kernel
theorem dX5_setCondition_28 : decode cX5_setCondition 28 = .ok (.ireturn, 1) := by decide +kernel
theorem dX5_setCondition_29 : decode cX5_setCondition 29 = .ok (.iload_n 3, 1) := by decide +kernel
theorem dX5_setCondition_30 : decode cX5_setCondition 30 = .ok (.iconst 0, 1) := by decide +kernel
theorem dX5_setCondition_31 : decode cX5_setCondition 31 = .ok (.bipush 8, 2) := by decide +kernel
theorem dX5_setCondition_33 : decode cX5_setCondition 33 = .ok (.aload_n 0, 1) := by decide +kernel
theorem dX5_setCondition_34 : decode cX5_setCondition 34 = .ok (.getfield 12, 3) := by decide +kernel
theorem dX5_setCondition_37 : decode cX5_setCondition 37 = .ok (.getfield 47, 3) := by decide +kernel
theorem dX5_setCondition_40 : decode cX5_setCondition 40 = .ok (.iadd, 1) := by decide +kernel
theorem dX5_setCondition_41 : decode cX5_setCondition 41 = .ok (.iconst 1, 1) := by decide +kernel
theorem dX5_setCondition_42 : decode cX5_setCondition 42 = .ok (.isub, 1) := by decide +kernel
theorem dX5_setCondition_43 : decode cX5_setCondition 43 = .ok (.invokestatic 71, 3) := by decide +kernel
theorem dX5_setCondition_46 : decode cX5_setCondition 46 = .ok (.ifCond .eq 13, 3) := by decide +kernel
theorem dX5_setCondition_49 : decode cX5_setCondition 49 = .ok (.iload 4, 2) := by decide +kernel
theorem dX5_setCondition_51 : decode cX5_setCondition 51 = .ok (.iconst 0, 1) := by decide +kernel
theorem dX5_setCondition_52 : decode cX5_setCondition 52 = .ok (.iconst 2, 1) := by decide +kernel
theorem dX5_setCondition_53 : decode cX5_setCondition 53 = .ok (.invokestatic 71, 3) := by decide +kernel
theorem dX5_setCondition_56 : decode cX5_setCondition 56 = .ok (.ifCond .ne 5, 3) := by decide +kernel
theorem dX5_setCondition_59 : decode cX5_setCondition 59 = .ok (.iconst (-1), 1) := by decide +kernel
theorem dX5_setCondition_60 : decode cX5_setCondition 60 = .ok (.ireturn, 1) := by decide +kernel
theorem dX5_setCondition_61 : decode cX5_setCondition 61 = .ok (.iload_n 2, 1) := by decide +kernel
theorem dX5_setCondition_62 : decode cX5_setCondition 62 = .ok (.bipush 6, 2) := by decide +kernel
theorem dX5_setCondition_64 : decode cX5_setCondition 64 = .ok (.if_icmp .lt 6, 3) := by decide +kernel
theorem dX5_setCondition_67 : decode cX5_setCondition 67 = .ok (.bipush (-3), 2) := by decide +kernel
theorem dX5_setCondition_69 : decode cX5_setCondition 69 = .ok (.ireturn, 1) := by decide +kernel
theorem dX5_setCondition_70 : decode cX5_setCondition 70 = .ok (.aload_n 0, 1) := by decide +kernel
theorem dX5_setCondition_71 : decode cX5_setCondition 71 = .ok (.getfield 19, 3) := by decide +kernel
theorem dX5_setCondition_74 : decode cX5_setCondition 74 = .ok (.aload_n 0, 1) := by decide +kernel
theorem dX5_setCondition_75 : decode cX5_setCondition 75 = .ok (.getfield 12, 3) := by decide +kernel
theorem dX5_setCondition_78 : decode cX5_setCondition 78 = .ok (.invokevirtual 51, 3) := by decide +kernel
theorem dX5_setCondition_81 : decode cX5_setCondition 81 = .ok (.aload_n 0, 1) := by decide +kernel
theorem dX5_setCondition_82 : decode cX5_setCondition 82 = .ok (.getfield 12, 3) := by decide +kernel
theorem dX5_setCondition_85 : decode cX5_setCondition 85 = .ok (.iload_n 1, 1) := by decide +kernel
theorem dX5_setCondition_86 : decode cX5_setCondition 86 = .ok (.iload_n 2, 1) := by decide +kernel
theorem dX5_setCondition_87 : decode cX5_setCondition 87 = .ok (.iload_n 3, 1) := by decide +kernel
theorem dX5_setCondition_88 : decode cX5_setCondition 88 = .ok (.iload 4, 2) := by decide +kernel
theorem dX5_setCondition_90 : decode cX5_setCondition 90 = .ok (.invokevirtual 74, 3) := by decide +kernel
theorem dX5_setCondition_93 : decode cX5_setCondition 93 = .ok (.ireturn, 1) := by decide +kernel
theorem dX5_removeBranch_0 : decode cX5_removeBranch 0 = .ok (.aload_n 0, 1) := by decide +kernel
theorem dX5_removeBranch_1 : decode cX5_removeBranch 1 = .ok (.getfield 12, 3) := by decide +kernel
theorem dX5_removeBranch_4 : decode cX5_removeBranch 4 = .ok (.iload_n 1, 1) := by decide +kernel
theorem dX5_removeBranch_5 : decode cX5_removeBranch 5 = .ok (.invokevirtual 59, 3) := by decide +kernel
theorem dX5_removeBranch_8 : decode cX5_removeBranch 8 = .ok (.ifCond .eq 21, 3) := by decide +kernel
theorem dX5_removeBranch_11 : decode cX5_removeBranch 11 = .ok (.iload_n 2, 1) := by decide +kernel
theorem dX5_removeBranch_12 : decode cX5_removeBranch 12 = .ok (.iconst 0, 1) := by decide +kernel
theorem dX5_removeBranch_13 : decode cX5_removeBranch 13 = .ok (.aload_n 0, 1) := by decide +kernel
theorem dX5_removeBranch_14 : decode cX5_removeBranch 14 = .ok (.getfield 12, 3) := by decide +kernel
theorem dX5_removeBranch_17 : decode cX5_removeBranch 17 = .ok (.iload_n 1, 1) := by decide +kernel
theorem dX5_removeBranch_18 : decode cX5_removeBranch 18 = .ok (.invokevirtual 67, 3) := by decide +kernel
theorem dX5_removeBranch_21 : decode cX5_removeBranch 21 = .ok (.iconst 1, 1) := by decide +kernel
theorem dX5_removeBranch_22 : decode cX5_removeBranch 22 = .ok (.isub, 1) := by decide +kernel
theorem dX5_removeBranch_23 : decode cX5_removeBranch 23 = .ok (.invokestatic 71, 3) := by decide +kernel
theorem dX5_removeBranch_26 : decode cX5_removeBranch 26 = .ok (.ifCond .ne 5, 3) := by decide +kernel
theorem dX5_removeBranch_29 : decode cX5_removeBranch 29 = .ok (.iconst (-1), 1) := by decide +kernel
theorem dX5_removeBranch_30 : decode cX5_removeBranch 30 = .ok (.ireturn, 1) := by decide +kernel
theorem dX5_removeBranch_31 : decode cX5_removeBranch 31 = .ok (.aload_n 0, 1) := by decide +kernel
theorem dX5_removeBranch_32 : decode cX5_removeBranch 32 = .ok (.getfield 19, 3) := by decide +kernel
theorem dX5_removeBranch_35 : decode cX5_removeBranch 35 = .ok (.aload_n 0, 1) := by decide +kernel
theorem dX5_removeBranch_36 : decode cX5_removeBranch 36 = .ok (.getfield 12, 3) := by decide +kernel
theorem dX5_removeBranch_39 : decode cX5_removeBranch 39 = .ok (.invokevirtual 51, 3) := by decide +kernel
theorem dX5_removeBranch_42 : decode cX5_removeBranch 42 = .ok (.aload_n 0, 1) := by decide +kernel
theorem dX5_removeBranch_43 : decode cX5_removeBranch 43 = .ok (.getfield 12, 3) := by decide +kernel
theorem dX5_removeBranch_46 : decode cX5_removeBranch 46 = .ok (.iload_n 1, 1) := by decide +kernel
theorem dX5_removeBranch_47 : decode cX5_removeBranch 47 = .ok (.iload_n 2, 1) := by decide +kernel
theorem dX5_removeBranch_48 : decode cX5_removeBranch 48 = .ok (.invokevirtual 78, 3) := by decide +kernel
theorem dX5_removeBranch_51 : decode cX5_removeBranch 51 = .ok (.ireturn, 1) := by decide +kernel
theorem dX5_press_0 : decode cX5_press 0 = .ok (.iload_n 1, 1) := by decide +kernel
theorem dX5_press_1 : decode cX5_press 1 = .ok (.invokestatic 104, 3) := by decide +kernel
theorem dX5_press_4 : decode cX5_press 4 = .ok (.ifCond .eq 12, 3) := by decide +kernel
theorem dX5_press_7 : decode cX5_press 7 = .ok (.iload_n 2, 1) := by decide +kernel
theorem dX5_press_8 : decode cX5_press 8 = .ok (.iconst 0, 1) := by decide +kernel
theorem dX5_press_9 : decode cX5_press 9 = .ok (.iconst 1, 1) := by decide +kernel
theorem dX5_press_10 : decode cX5_press 10 = .ok (.invokestatic 71, 3) := by decide +kernel
theorem dX5_press_13 : decode cX5_press 13 = .ok (.ifCond .ne 5, 3) := by decide +kernel
theorem dX5_press_16 : decode cX5_press 16 = .ok (.iconst (-1), 1) := by decide +kernel
theorem dX5_press_17 : decode cX5_press 17 = .ok (.ireturn, 1) := by decide +kernel
theorem dX5_press_18 : decode cX5_press 18 = .ok (.aload_n 0, 1) := by decide +kernel
theorem dX5_press_19 : decode cX5_press 19 = .ok (.getfield 12, 3) := by decide +kernel
theorem dX5_press_22 : decode cX5_press 22 = .ok (.getfield 107, 3) := by decide +kernel
theorem dX5_press_25 : decode cX5_press 25 = .ok (.iload_n 1, 1) := by decide +kernel
theorem dX5_press_26 : decode cX5_press 26 = .ok (.invokestatic 110, 3) := by decide +kernel
theorem dX5_press_29 : decode cX5_press 29 = .ok (.iload_n 2, 1) := by decide +kernel
theorem dX5_press_30 : decode cX5_press 30 = .ok (.iconst 1, 1) := by decide +kernel
theorem dX5_press_31 : decode cX5_press 31 = .ok (.if_icmp .ne 7, 3) := by decide +kernel
theorem dX5_press_34 : decode cX5_press 34 = .ok (.iconst 1, 1) := by decide +kernel
theorem dX5_press_35 : decode cX5_press 35 = .ok (.goto 4, 3) := by decide +kernel
theorem dX5_press_38 : decode cX5_press 38 = .ok (.iconst 0, 1) := by decide +kernel
theorem dX5_press_39 : decode cX5_press 39 = .ok (.if_icmp .ne 6, 3) := by decide +kernel
theorem dX5_press_42 : decode cX5_press 42 = .ok (.bipush (-2), 2) := by decide +kernel
theorem dX5_press_44 : decode cX5_press 44 = .ok (.ireturn, 1) := by decide +kernel
theorem dX5_press_45 : decode cX5_press 45 = .ok (.aload_n 0, 1) := by decide +kernel
theorem dX5_press_46 : decode cX5_press 46 = .ok (.getfield 19, 3) := by decide +kernel
theorem dX5_press_49 : decode cX5_press 49 = .ok (.aload_n 0, 1) := by decide +kernel
theorem dX5_press_50 : decode cX5_press 50 = .ok (.getfield 12, 3) := by decide +kernel
theorem dX5_press_53 : decode cX5_press 53 = .ok (.invokevirtual 51, 3) := by decide +kernel
theorem dX5_press_56 : decode cX5_press 56 = .ok (.aload_n 0, 1) := by decide +kernel
theorem dX5_press_57 : decode cX5_press 57 = .ok (.getfield 12, 3) := by decide +kernel
theorem dX5_press_60 : decode cX5_press 60 = .ok (.iload_n 1, 1) := by decide +kernel
theorem dX5_press_61 : decode cX5_press 61 = .ok (.invokevirtual 114, 3) := by decide +kernel
theorem dX5_press_64 : decode cX5_press 64 = .ok (.ireturn, 1) := by decide +kernel
theorem dX5_setFault_0 : decode cX5_setFault 0 = .ok (.aload_n 0, 1) := by decide +kernel
theorem dX5_setFault_1 : decode cX5_setFault 1 = .ok (.getfield 12, 3) := by decide +kernel
theorem dX5_setFault_4 : decode cX5_setFault 4 = .ok (.iload_n 1, 1) := by decide +kernel
theorem dX5_setFault_5 : decode cX5_setFault 5 = .ok (.invokevirtual 59, 3) := by decide +kernel
theorem dX5_setFault_8 : decode cX5_setFault 8 = .ok (.ifCond .eq 12, 3) := by decide +kernel
theorem dX5_setFault_11 : decode cX5_setFault 11 = .ok (.iload_n 2, 1) := by decide +kernel
theorem dX5_setFault_12 : decode cX5_setFault 12 = .ok (.iconst 0, 1) := by decide +kernel
theorem dX5_setFault_13 : decode cX5_setFault 13 = .ok (.iconst 2, 1) := by decide +kernel
theorem dX5_setFault_14 : decode cX5_setFault 14 = .ok (.invokestatic 71, 3) := by decide +kernel
theorem dX5_setFault_17 : decode cX5_setFault 17 = .ok (.ifCond .ne 5, 3) := by decide +kernel
theorem dX5_setFault_20 : decode cX5_setFault 20 = .ok (.iconst (-1), 1) := by decide +kernel
theorem dX5_setFault_21 : decode cX5_setFault 21 = .ok (.ireturn, 1) := by decide +kernel
theorem dX5_setFault_22 : decode cX5_setFault 22 = .ok (.aload_n 0, 1) := by decide +kernel
theorem dX5_setFault_23 : decode cX5_setFault 23 = .ok (.getfield 19, 3) := by decide +kernel
theorem dX5_setFault_26 : decode cX5_setFault 26 = .ok (.aload_n 0, 1) := by decide +kernel
theorem dX5_setFault_27 : decode cX5_setFault 27 = .ok (.getfield 12, 3) := by decide +kernel
theorem dX5_setFault_30 : decode cX5_setFault 30 = .ok (.invokevirtual 51, 3) := by decide +kernel
theorem dX5_setFault_33 : decode cX5_setFault 33 = .ok (.aload_n 0, 1) := by decide +kernel
theorem dX5_setFault_34 : decode cX5_setFault 34 = .ok (.getfield 12, 3) := by decide +kernel
theorem dX5_setFault_37 : decode cX5_setFault 37 = .ok (.iload_n 1, 1) := by decide +kernel
theorem dX5_setFault_38 : decode cX5_setFault 38 = .ok (.invokevirtual 117, 3) := by decide +kernel
theorem dX5_setFault_41 : decode cX5_setFault 41 = .ok (.istore_n 3, 1) := by decide +kernel
theorem dX5_setFault_42 : decode cX5_setFault 42 = .ok (.aload_n 0, 1) := by decide +kernel
theorem dX5_setFault_43 : decode cX5_setFault 43 = .ok (.getfield 12, 3) := by decide +kernel
theorem dX5_setFault_46 : decode cX5_setFault 46 = .ok (.iload_n 1, 1) := by decide +kernel
theorem dX5_setFault_47 : decode cX5_setFault 47 = .ok (.iload_n 2, 1) := by decide +kernel
theorem dX5_setFault_48 : decode cX5_setFault 48 = .ok (.invokevirtual 120, 3) := by decide +kernel
theorem dX5_setFault_51 : decode cX5_setFault 51 = .ok (.iload_n 3, 1) := by decide +kernel
theorem dX5_setFault_52 : decode cX5_setFault 52 = .ok (.ireturn, 1) := by decide +kernel
theorem dX5_stick_0 : decode cX5_stick 0 = .ok (.aload_n 0, 1) := by decide +kernel
theorem dX5_stick_1 : decode cX5_stick 1 = .ok (.getfield 12, 3) := by decide +kernel
theorem dX5_stick_4 : decode cX5_stick 4 = .ok (.iload_n 1, 1) := by decide +kernel
theorem dX5_stick_5 : decode cX5_stick 5 = .ok (.invokevirtual 59, 3) := by decide +kernel
theorem dX5_stick_8 : decode cX5_stick 8 = .ok (.ifCond .eq 12, 3) := by decide +kernel
theorem dX5_stick_11 : decode cX5_stick 11 = .ok (.iload_n 2, 1) := by decide +kernel
theorem dX5_stick_12 : decode cX5_stick 12 = .ok (.iconst 0, 1) := by decide +kernel
theorem dX5_stick_13 : decode cX5_stick 13 = .ok (.iconst 1, 1) := by decide +kernel
theorem dX5_stick_14 : decode cX5_stick 14 = .ok (.invokestatic 71, 3) := by decide +kernel
theorem dX5_stick_17 : decode cX5_stick 17 = .ok (.ifCond .ne 5, 3) := by decide +kernel
theorem dX5_stick_20 : decode cX5_stick 20 = .ok (.iconst (-1), 1) := by decide +kernel
theorem dX5_stick_21 : decode cX5_stick 21 = .ok (.ireturn, 1) := by decide +kernel
theorem dX5_stick_22 : decode cX5_stick 22 = .ok (.aload_n 0, 1) := by decide +kernel
theorem dX5_stick_23 : decode cX5_stick 23 = .ok (.getfield 19, 3) := by decide +kernel
theorem dX5_stick_26 : decode cX5_stick 26 = .ok (.aload_n 0, 1) := by decide +kernel
theorem dX5_stick_27 : decode cX5_stick 27 = .ok (.getfield 12, 3) := by decide +kernel
theorem dX5_stick_30 : decode cX5_stick 30 = .ok (.invokevirtual 51, 3) := by decide +kernel
theorem dX5_stick_33 : decode cX5_stick 33 = .ok (.aload_n 0, 1) := by decide +kernel
theorem dX5_stick_34 : decode cX5_stick 34 = .ok (.getfield 12, 3) := by decide +kernel
theorem dX5_stick_37 : decode cX5_stick 37 = .ok (.getfield 124, 3) := by decide +kernel
theorem dX5_stick_40 : decode cX5_stick 40 = .ok (.iload_n 1, 1) := by decide +kernel
theorem dX5_stick_41 : decode cX5_stick 41 = .ok (.invokestatic 127, 3) := by decide +kernel
theorem dX5_stick_44 : decode cX5_stick 44 = .ok (.istore_n 3, 1) := by decide +kernel
theorem dX5_stick_45 : decode cX5_stick 45 = .ok (.aload_n 0, 1) := by decide +kernel
theorem dX5_stick_46 : decode cX5_stick 46 = .ok (.getfield 12, 3) := by decide +kernel
theorem dX5_stick_49 : decode cX5_stick 49 = .ok (.iload_n 2, 1) := by decide +kernel
theorem dX5_stick_50 : decode cX5_stick 50 = .ok (.iconst 1, 1) := by decide +kernel
theorem dX5_stick_51 : decode cX5_stick 51 = .ok (.if_icmp .ne 17, 3) := by decide +kernel
theorem dX5_stick_54 : decode cX5_stick 54 = .ok (.aload_n 0, 1) := by decide +kernel
theorem dX5_stick_55 : decode cX5_stick 55 = .ok (.getfield 12, 3) := by decide +kernel
theorem dX5_stick_58 : decode cX5_stick 58 = .ok (.getfield 124, 3) := by decide +kernel
theorem dX5_stick_61 : decode cX5_stick 61 = .ok (.iconst 1, 1) := by decide +kernel
theorem dX5_stick_62 : decode cX5_stick 62 = .ok (.iload_n 1, 1) := by decide +kernel
theorem dX5_stick_63 : decode cX5_stick 63 = .ok (.ishl, 1) := by decide +kernel
theorem dX5_stick_64 : decode cX5_stick 64 = .ok (.ior, 1) := by decide +kernel
theorem dX5_stick_65 : decode cX5_stick 65 = .ok (.goto 16, 3) := by decide +kernel
theorem dX5_stick_68 : decode cX5_stick 68 = .ok (.aload_n 0, 1) := by decide +kernel
theorem dX5_stick_69 : decode cX5_stick 69 = .ok (.getfield 12, 3) := by decide +kernel
theorem dX5_stick_72 : decode cX5_stick 72 = .ok (.getfield 124, 3) := by decide +kernel
theorem dX5_stick_75 : decode cX5_stick 75 = .ok (.iconst 1, 1) := by decide +kernel
theorem dX5_stick_76 : decode cX5_stick 76 = .ok (.iload_n 1, 1) := by decide +kernel
theorem dX5_stick_77 : decode cX5_stick 77 = .ok (.ishl, 1) := by decide +kernel
theorem dX5_stick_78 : decode cX5_stick 78 = .ok (.iconst (-1), 1) := by decide +kernel
theorem dX5_stick_79 : decode cX5_stick 79 = .ok (.ixor, 1) := by decide +kernel
theorem dX5_stick_80 : decode cX5_stick 80 = .ok (.iand, 1) := by decide +kernel
theorem dX5_stick_81 : decode cX5_stick 81 = .ok (.putfield 124, 3) := by decide +kernel
theorem dX5_stick_84 : decode cX5_stick 84 = .ok (.iload_n 3, 1) := by decide +kernel
theorem dX5_stick_85 : decode cX5_stick 85 = .ok (.ireturn, 1) := by decide +kernel
theorem dX5_step_0 : decode cX5_step 0 = .ok (.aload_n 0, 1) := by decide +kernel
theorem dX5_step_1 : decode cX5_step 1 = .ok (.getfield 12, 3) := by decide +kernel
theorem dX5_step_4 : decode cX5_step 4 = .ok (.iconst 0, 1) := by decide +kernel
theorem dX5_step_5 : decode cX5_step 5 = .ok (.invokevirtual 130, 3) := by decide +kernel
theorem dX5_step_8 : decode cX5_step 8 = .ok (.istore_n 1, 1) := by decide +kernel
theorem dX5_step_9 : decode cX5_step 9 = .ok (.iload_n 1, 1) := by decide +kernel
theorem dX5_step_10 : decode cX5_step 10 = .ok (.iconst (-1), 1) := by decide +kernel
theorem dX5_step_11 : decode cX5_step 11 = .ok (.if_icmp .ne 6, 3) := by decide +kernel
theorem dX5_step_14 : decode cX5_step 14 = .ok (.bipush (-2), 2) := by decide +kernel
theorem dX5_step_16 : decode cX5_step 16 = .ok (.ireturn, 1) := by decide +kernel
theorem dX5_step_17 : decode cX5_step 17 = .ok (.aload_n 0, 1) := by decide +kernel
theorem dX5_step_18 : decode cX5_step 18 = .ok (.getfield 19, 3) := by decide +kernel
theorem dX5_step_21 : decode cX5_step 21 = .ok (.aload_n 0, 1) := by decide +kernel
theorem dX5_step_22 : decode cX5_step 22 = .ok (.getfield 12, 3) := by decide +kernel
theorem dX5_step_25 : decode cX5_step 25 = .ok (.invokevirtual 51, 3) := by decide +kernel
theorem dX5_step_28 : decode cX5_step 28 = .ok (.aload_n 0, 1) := by decide +kernel
theorem dX5_step_29 : decode cX5_step 29 = .ok (.getfield 12, 3) := by decide +kernel
theorem dX5_step_32 : decode cX5_step 32 = .ok (.iload_n 1, 1) := by decide +kernel
theorem dX5_step_33 : decode cX5_step 33 = .ok (.invokevirtual 134, 3) := by decide +kernel
theorem dX5_step_36 : decode cX5_step 36 = .ok (.istore_n 2, 1) := by decide +kernel
theorem dX5_step_37 : decode cX5_step 37 = .ok (.aload_n 0, 1) := by decide +kernel
theorem dX5_step_38 : decode cX5_step 38 = .ok (.getfield 12, 3) := by decide +kernel
theorem dX5_step_41 : decode cX5_step 41 = .ok (.iload_n 1, 1) := by decide +kernel
theorem dX5_step_42 : decode cX5_step 42 = .ok (.invokevirtual 137, 3) := by decide +kernel
theorem dX5_step_45 : decode cX5_step 45 = .ok (.bipush 10, 2) := by decide +kernel
theorem dX5_step_47 : decode cX5_step 47 = .ok (.iload_n 1, 1) := by decide +kernel
theorem dX5_step_48 : decode cX5_step 48 = .ok (.invokestatic 141, 3) := by decide +kernel
theorem dX5_step_51 : decode cX5_step 51 = .ok (.imul, 1) := by decide +kernel
theorem dX5_step_52 : decode cX5_step 52 = .ok (.iload_n 2, 1) := by decide +kernel
theorem dX5_step_53 : decode cX5_step 53 = .ok (.iadd, 1) := by decide +kernel
theorem dX5_step_54 : decode cX5_step 54 = .ok (.ireturn, 1) := by decide +kernel
theorem dX5_settle_0 : decode cX5_settle 0 = .ok (.iload_n 1, 1) := by decide +kernel
theorem dX5_settle_1 : decode cX5_settle 1 = .ok (.iconst 1, 1) := by decide +kernel
theorem dX5_settle_2 : decode cX5_settle 2 = .ok (.sipush 200, 3) := by decide +kernel
theorem dX5_settle_5 : decode cX5_settle 5 = .ok (.invokestatic 71, 3) := by decide +kernel
theorem dX5_settle_8 : decode cX5_settle 8 = .ok (.ifCond .ne 5, 3) := by decide +kernel
theorem dX5_settle_11 : decode cX5_settle 11 = .ok (.iconst (-1), 1) := by decide +kernel
theorem dX5_settle_12 : decode cX5_settle 12 = .ok (.ireturn, 1) := by decide +kernel
theorem dX5_settle_13 : decode cX5_settle 13 = .ok (.aload_n 0, 1) := by decide +kernel
theorem dX5_settle_14 : decode cX5_settle 14 = .ok (.getfield 19, 3) := by decide +kernel
theorem dX5_settle_17 : decode cX5_settle 17 = .ok (.aload_n 0, 1) := by decide +kernel
theorem dX5_settle_18 : decode cX5_settle 18 = .ok (.getfield 12, 3) := by decide +kernel
theorem dX5_settle_21 : decode cX5_settle 21 = .ok (.invokevirtual 51, 3) := by decide +kernel
theorem dX5_settle_24 : decode cX5_settle 24 = .ok (.aload_n 0, 1) := by decide +kernel
theorem dX5_settle_25 : decode cX5_settle 25 = .ok (.getfield 12, 3) := by decide +kernel
theorem dX5_settle_28 : decode cX5_settle 28 = .ok (.iload_n 1, 1) := by decide +kernel
theorem dX5_settle_29 : decode cX5_settle 29 = .ok (.ldc 144, 2) := by decide +kernel
theorem dX5_settle_31 : decode cX5_settle 31 = .ok (.iconst 0, 1) := by decide +kernel
theorem dX5_settle_32 : decode cX5_settle 32 = .ok (.invokevirtual 145, 3) := by decide +kernel
theorem dX5_settle_35 : decode cX5_settle 35 = .ok (.ireturn, 1) := by decide +kernel
theorem dX5_pass_0 : decode cX5_pass 0 = .ok (.iload_n 1, 1) := by decide +kernel
theorem dX5_pass_1 : decode cX5_pass 1 = .ok (.iconst 1, 1) := by decide +kernel
theorem dX5_pass_2 : decode cX5_pass 2 = .ok (.sipush 1000, 3) := by decide +kernel
theorem dX5_pass_5 : decode cX5_pass 5 = .ok (.invokestatic 71, 3) := by decide +kernel
theorem dX5_pass_8 : decode cX5_pass 8 = .ok (.ifCond .ne 5, 3) := by decide +kernel
theorem dX5_pass_11 : decode cX5_pass 11 = .ok (.iconst (-1), 1) := by decide +kernel
theorem dX5_pass_12 : decode cX5_pass 12 = .ok (.ireturn, 1) := by decide +kernel
theorem dX5_pass_13 : decode cX5_pass 13 = .ok (.aload_n 0, 1) := by decide +kernel
theorem dX5_pass_14 : decode cX5_pass 14 = .ok (.getfield 12, 3) := by decide +kernel
theorem dX5_pass_17 : decode cX5_pass 17 = .ok (.getfield 149, 3) := by decide +kernel
theorem dX5_pass_20 : decode cX5_pass 20 = .ok (.iload_n 1, 1) := by decide +kernel
theorem dX5_pass_21 : decode cX5_pass 21 = .ok (.iadd, 1) := by decide +kernel
theorem dX5_pass_22 : decode cX5_pass 22 = .ok (.istore_n 2, 1) := by decide +kernel
theorem dX5_pass_23 : decode cX5_pass 23 = .ok (.iload_n 2, 1) := by decide +kernel
theorem dX5_pass_24 : decode cX5_pass 24 = .ok (.ldc 152, 2) := by decide +kernel
theorem dX5_pass_26 : decode cX5_pass 26 = .ok (.if_icmp .le 6, 3) := by decide +kernel
theorem dX5_pass_29 : decode cX5_pass 29 = .ok (.bipush (-3), 2) := by decide +kernel
theorem dX5_pass_31 : decode cX5_pass 31 = .ok (.ireturn, 1) := by decide +kernel
theorem dX5_pass_32 : decode cX5_pass 32 = .ok (.aload_n 0, 1) := by decide +kernel
theorem dX5_pass_33 : decode cX5_pass 33 = .ok (.getfield 40, 3) := by decide +kernel
theorem dX5_pass_36 : decode cX5_pass 36 = .ok (.aload_n 0, 1) := by decide +kernel
theorem dX5_pass_37 : decode cX5_pass 37 = .ok (.getfield 12, 3) := by decide +kernel
theorem dX5_pass_40 : decode cX5_pass 40 = .ok (.invokevirtual 153, 3) := by decide +kernel
theorem dX5_pass_43 : decode cX5_pass 43 = .ok (.aload_n 0, 1) := by decide +kernel
theorem dX5_pass_44 : decode cX5_pass 44 = .ok (.getfield 40, 3) := by decide +kernel
theorem dX5_pass_47 : decode cX5_pass 47 = .ok (.sipush 201, 3) := by decide +kernel
theorem dX5_pass_50 : decode cX5_pass 50 = .ok (.iload_n 2, 1) := by decide +kernel
theorem dX5_pass_51 : decode cX5_pass 51 = .ok (.iconst 0, 1) := by decide +kernel
theorem dX5_pass_52 : decode cX5_pass 52 = .ok (.invokevirtual 145, 3) := by decide +kernel
theorem dX5_pass_55 : decode cX5_pass 55 = .ok (.istore_n 3, 1) := by decide +kernel
theorem dX5_pass_56 : decode cX5_pass 56 = .ok (.iload_n 3, 1) := by decide +kernel
theorem dX5_pass_57 : decode cX5_pass 57 = .ok (.sipush 200, 3) := by decide +kernel
theorem dX5_pass_60 : decode cX5_pass 60 = .ok (.if_icmp .le 6, 3) := by decide +kernel
theorem dX5_pass_63 : decode cX5_pass 63 = .ok (.bipush (-3), 2) := by decide +kernel
theorem dX5_pass_65 : decode cX5_pass 65 = .ok (.ireturn, 1) := by decide +kernel
theorem dX5_pass_66 : decode cX5_pass 66 = .ok (.aload_n 0, 1) := by decide +kernel
theorem dX5_pass_67 : decode cX5_pass 67 = .ok (.getfield 19, 3) := by decide +kernel
theorem dX5_pass_70 : decode cX5_pass 70 = .ok (.aload_n 0, 1) := by decide +kernel
theorem dX5_pass_71 : decode cX5_pass 71 = .ok (.getfield 12, 3) := by decide +kernel
theorem dX5_pass_74 : decode cX5_pass 74 = .ok (.invokevirtual 51, 3) := by decide +kernel
theorem dX5_pass_77 : decode cX5_pass 77 = .ok (.aload_n 0, 1) := by decide +kernel
theorem dX5_pass_78 : decode cX5_pass 78 = .ok (.getfield 12, 3) := by decide +kernel
theorem dX5_pass_81 : decode cX5_pass 81 = .ok (.aload_n 0, 1) := by decide +kernel
theorem dX5_pass_82 : decode cX5_pass 82 = .ok (.getfield 40, 3) := by decide +kernel
theorem dX5_pass_85 : decode cX5_pass 85 = .ok (.invokevirtual 153, 3) := by decide +kernel
theorem dX5_pass_88 : decode cX5_pass 88 = .ok (.aload_n 0, 1) := by decide +kernel
theorem dX5_pass_89 : decode cX5_pass 89 = .ok (.getfield 12, 3) := by decide +kernel
theorem dX5_pass_92 : decode cX5_pass 92 = .ok (.iload_n 2, 1) := by decide +kernel
theorem dX5_pass_93 : decode cX5_pass 93 = .ok (.putfield 149, 3) := by decide +kernel
theorem dX5_pass_96 : decode cX5_pass 96 = .ok (.iload_n 3, 1) := by decide +kernel
theorem dX5_pass_97 : decode cX5_pass 97 = .ok (.ireturn, 1) := by decide +kernel
theorem dX5_count_0 : decode cX5_count 0 = .ok (.iload_n 1, 1) := by decide +kernel
theorem dX5_count_1 : decode cX5_count 1 = .ok (.tableswitch 135 0 9 #[55, 63, 71, 79, 87, 95, 103, 111, 119, 127], 55) := by decide +kernel
theorem dX5_count_56 : decode cX5_count 56 = .ok (.aload_n 0, 1) := by decide +kernel
theorem dX5_count_57 : decode cX5_count 57 = .ok (.getfield 12, 3) := by decide +kernel
theorem dX5_count_60 : decode cX5_count 60 = .ok (.getfield 47, 3) := by decide +kernel
theorem dX5_count_63 : decode cX5_count 63 = .ok (.ireturn, 1) := by decide +kernel
theorem dX5_count_64 : decode cX5_count 64 = .ok (.aload_n 0, 1) := by decide +kernel
theorem dX5_count_65 : decode cX5_count 65 = .ok (.getfield 12, 3) := by decide +kernel
theorem dX5_count_68 : decode cX5_count 68 = .ok (.getfield 149, 3) := by decide +kernel
theorem dX5_count_71 : decode cX5_count 71 = .ok (.ireturn, 1) := by decide +kernel
theorem dX5_count_72 : decode cX5_count 72 = .ok (.aload_n 0, 1) := by decide +kernel
theorem dX5_count_73 : decode cX5_count 73 = .ok (.getfield 12, 3) := by decide +kernel
theorem dX5_count_76 : decode cX5_count 76 = .ok (.invokevirtual 156, 3) := by decide +kernel
theorem dX5_count_79 : decode cX5_count 79 = .ok (.ireturn, 1) := by decide +kernel
theorem dX5_count_80 : decode cX5_count 80 = .ok (.aload_n 0, 1) := by decide +kernel
theorem dX5_count_81 : decode cX5_count 81 = .ok (.getfield 12, 3) := by decide +kernel
theorem dX5_count_84 : decode cX5_count 84 = .ok (.getfield 107, 3) := by decide +kernel
theorem dX5_count_87 : decode cX5_count 87 = .ok (.ireturn, 1) := by decide +kernel
theorem dX5_count_88 : decode cX5_count 88 = .ok (.aload_n 0, 1) := by decide +kernel
theorem dX5_count_89 : decode cX5_count 89 = .ok (.getfield 12, 3) := by decide +kernel
theorem dX5_count_92 : decode cX5_count 92 = .ok (.getfield 160, 3) := by decide +kernel
theorem dX5_count_95 : decode cX5_count 95 = .ok (.ireturn, 1) := by decide +kernel
theorem dX5_count_96 : decode cX5_count 96 = .ok (.aload_n 0, 1) := by decide +kernel
theorem dX5_count_97 : decode cX5_count 97 = .ok (.getfield 12, 3) := by decide +kernel
theorem dX5_count_100 : decode cX5_count 100 = .ok (.getfield 163, 3) := by decide +kernel
theorem dX5_count_103 : decode cX5_count 103 = .ok (.ireturn, 1) := by decide +kernel
theorem dX5_count_104 : decode cX5_count 104 = .ok (.aload_n 0, 1) := by decide +kernel
theorem dX5_count_105 : decode cX5_count 105 = .ok (.getfield 12, 3) := by decide +kernel
theorem dX5_count_108 : decode cX5_count 108 = .ok (.invokevirtual 166, 3) := by decide +kernel
theorem dX5_count_111 : decode cX5_count 111 = .ok (.ireturn, 1) := by decide +kernel
theorem dX5_count_112 : decode cX5_count 112 = .ok (.aload_n 0, 1) := by decide +kernel
theorem dX5_count_113 : decode cX5_count 113 = .ok (.getfield 12, 3) := by decide +kernel
theorem dX5_count_116 : decode cX5_count 116 = .ok (.getfield 169, 3) := by decide +kernel
theorem dX5_count_119 : decode cX5_count 119 = .ok (.ireturn, 1) := by decide +kernel
theorem dX5_count_120 : decode cX5_count 120 = .ok (.aload_n 0, 1) := by decide +kernel
theorem dX5_count_121 : decode cX5_count 121 = .ok (.getfield 26, 3) := by decide +kernel
theorem dX5_count_124 : decode cX5_count 124 = .ok (.getfield 82, 3) := by decide +kernel
theorem dX5_count_127 : decode cX5_count 127 = .ok (.ireturn, 1) := by decide +kernel
theorem dX5_count_128 : decode cX5_count 128 = .ok (.aload_n 0, 1) := by decide +kernel
theorem dX5_count_129 : decode cX5_count 129 = .ok (.getfield 19, 3) := by decide +kernel
theorem dX5_count_132 : decode cX5_count 132 = .ok (.getfield 172, 3) := by decide +kernel
theorem dX5_count_135 : decode cX5_count 135 = .ok (.ireturn, 1) := by decide +kernel
theorem dX5_count_136 : decode cX5_count 136 = .ok (.iconst (-1), 1) := by decide +kernel
theorem dX5_count_137 : decode cX5_count 137 = .ok (.ireturn, 1) := by decide +kernel
theorem dX5_relay_0 : decode cX5_relay 0 = .ok (.aload_n 0, 1) := by decide +kernel
theorem dX5_relay_1 : decode cX5_relay 1 = .ok (.getfield 12, 3) := by decide +kernel
theorem dX5_relay_4 : decode cX5_relay 4 = .ok (.iload_n 1, 1) := by decide +kernel
theorem dX5_relay_5 : decode cX5_relay 5 = .ok (.invokevirtual 59, 3) := by decide +kernel
theorem dX5_relay_8 : decode cX5_relay 8 = .ok (.ifCond .ne 5, 3) := by decide +kernel
theorem dX5_relay_11 : decode cX5_relay 11 = .ok (.iconst (-1), 1) := by decide +kernel
theorem dX5_relay_12 : decode cX5_relay 12 = .ok (.ireturn, 1) := by decide +kernel
theorem dX5_relay_13 : decode cX5_relay 13 = .ok (.iload_n 2, 1) := by decide +kernel
theorem dX5_relay_14 : decode cX5_relay 14 = .ok (.tableswitch 157 0 7 #[46, 58, 70, 82, 91, 100, 112, 133], 46) := by decide +kernel
theorem dX5_relay_60 : decode cX5_relay 60 = .ok (.aload_n 0, 1) := by decide +kernel
theorem dX5_relay_61 : decode cX5_relay 61 = .ok (.getfield 12, 3) := by decide +kernel
theorem dX5_relay_64 : decode cX5_relay 64 = .ok (.getfield 173, 3) := by decide +kernel
theorem dX5_relay_67 : decode cX5_relay 67 = .ok (.iload_n 1, 1) := by decide +kernel
theorem dX5_relay_68 : decode cX5_relay 68 = .ok (.invokestatic 176, 3) := by decide +kernel
theorem dX5_relay_71 : decode cX5_relay 71 = .ok (.ireturn, 1) := by decide +kernel
theorem dX5_relay_72 : decode cX5_relay 72 = .ok (.aload_n 0, 1) := by decide +kernel
theorem dX5_relay_73 : decode cX5_relay 73 = .ok (.getfield 12, 3) := by decide +kernel
theorem dX5_relay_76 : decode cX5_relay 76 = .ok (.getfield 180, 3) := by decide +kernel
theorem dX5_relay_79 : decode cX5_relay 79 = .ok (.iload_n 1, 1) := by decide +kernel
theorem dX5_relay_80 : decode cX5_relay 80 = .ok (.invokestatic 176, 3) := by decide +kernel
theorem dX5_relay_83 : decode cX5_relay 83 = .ok (.ireturn, 1) := by decide +kernel
theorem dX5_relay_84 : decode cX5_relay 84 = .ok (.aload_n 0, 1) := by decide +kernel
theorem dX5_relay_85 : decode cX5_relay 85 = .ok (.getfield 12, 3) := by decide +kernel
theorem dX5_relay_88 : decode cX5_relay 88 = .ok (.getfield 183, 3) := by decide +kernel
theorem dX5_relay_91 : decode cX5_relay 91 = .ok (.iload_n 1, 1) := by decide +kernel
theorem dX5_relay_92 : decode cX5_relay 92 = .ok (.invokestatic 176, 3) := by decide +kernel
theorem dX5_relay_95 : decode cX5_relay 95 = .ok (.ireturn, 1) := by decide +kernel
theorem dX5_relay_96 : decode cX5_relay 96 = .ok (.aload_n 0, 1) := by decide +kernel
theorem dX5_relay_97 : decode cX5_relay 97 = .ok (.getfield 12, 3) := by decide +kernel
theorem dX5_relay_100 : decode cX5_relay 100 = .ok (.iload_n 1, 1) := by decide +kernel
theorem dX5_relay_101 : decode cX5_relay 101 = .ok (.invokevirtual 67, 3) := by decide +kernel
theorem dX5_relay_104 : decode cX5_relay 104 = .ok (.ireturn, 1) := by decide +kernel
theorem dX5_relay_105 : decode cX5_relay 105 = .ok (.aload_n 0, 1) := by decide +kernel
theorem dX5_relay_106 : decode cX5_relay 106 = .ok (.getfield 12, 3) := by decide +kernel
theorem dX5_relay_109 : decode cX5_relay 109 = .ok (.iload_n 1, 1) := by decide +kernel
theorem dX5_relay_110 : decode cX5_relay 110 = .ok (.invokevirtual 117, 3) := by decide +kernel
theorem dX5_relay_113 : decode cX5_relay 113 = .ok (.ireturn, 1) := by decide +kernel
theorem dX5_relay_114 : decode cX5_relay 114 = .ok (.aload_n 0, 1) := by decide +kernel
theorem dX5_relay_115 : decode cX5_relay 115 = .ok (.getfield 12, 3) := by decide +kernel
theorem dX5_relay_118 : decode cX5_relay 118 = .ok (.getfield 124, 3) := by decide +kernel
theorem dX5_relay_121 : decode cX5_relay 121 = .ok (.iload_n 1, 1) := by decide +kernel
theorem dX5_relay_122 : decode cX5_relay 122 = .ok (.invokestatic 127, 3) := by decide +kernel
theorem dX5_relay_125 : decode cX5_relay 125 = .ok (.ireturn, 1) := by decide +kernel
theorem dX5_relay_126 : decode cX5_relay 126 = .ok (.aload_n 0, 1) := by decide +kernel
theorem dX5_relay_127 : decode cX5_relay 127 = .ok (.getfield 12, 3) := by decide +kernel
theorem dX5_relay_130 : decode cX5_relay 130 = .ok (.iload_n 1, 1) := by decide +kernel
theorem dX5_relay_131 : decode cX5_relay 131 = .ok (.bipush 8, 2) := by decide +kernel
theorem dX5_relay_133 : decode cX5_relay 133 = .ok (.iload_n 1, 1) := by decide +kernel
theorem dX5_relay_134 : decode cX5_relay 134 = .ok (.iadd, 1) := by decide +kernel
theorem dX5_relay_135 : decode cX5_relay 135 = .ok (.invokevirtual 186, 3) := by decide +kernel
theorem dX5_relay_138 : decode cX5_relay 138 = .ok (.ifCond .eq 7, 3) := by decide +kernel
theorem dX5_relay_141 : decode cX5_relay 141 = .ok (.iconst 1, 1) := by decide +kernel
theorem dX5_relay_142 : decode cX5_relay 142 = .ok (.goto 4, 3) := by decide +kernel
theorem dX5_relay_145 : decode cX5_relay 145 = .ok (.iconst 0, 1) := by decide +kernel
theorem dX5_relay_146 : decode cX5_relay 146 = .ok (.ireturn, 1) := by decide +kernel
theorem dX5_relay_147 : decode cX5_relay 147 = .ok (.aload_n 0, 1) := by decide +kernel
theorem dX5_relay_148 : decode cX5_relay 148 = .ok (.getfield 12, 3) := by decide +kernel
theorem dX5_relay_151 : decode cX5_relay 151 = .ok (.iload_n 1, 1) := by decide +kernel
theorem dX5_relay_152 : decode cX5_relay 152 = .ok (.aload_n 0, 1) := by decide +kernel
theorem dX5_relay_153 : decode cX5_relay 153 = .ok (.getfield 12, 3) := by decide +kernel
theorem dX5_relay_156 : decode cX5_relay 156 = .ok (.invokevirtual 189, 3) := by decide +kernel
theorem dX5_relay_159 : decode cX5_relay 159 = .ok (.invokevirtual 192, 3) := by decide +kernel
theorem dX5_relay_162 : decode cX5_relay 162 = .ok (.ifCond .eq 7, 3) := by decide +kernel
theorem dX5_relay_165 : decode cX5_relay 165 = .ok (.iconst 1, 1) := by decide +kernel
theorem dX5_relay_166 : decode cX5_relay 166 = .ok (.goto 4, 3) := by decide +kernel
theorem dX5_relay_169 : decode cX5_relay 169 = .ok (.iconst 0, 1) := by decide +kernel
theorem dX5_relay_170 : decode cX5_relay 170 = .ok (.ireturn, 1) := by decide +kernel
theorem dX5_relay_171 : decode cX5_relay 171 = .ok (.iconst (-1), 1) := by decide +kernel
theorem dX5_relay_172 : decode cX5_relay 172 = .ok (.ireturn, 1) := by decide +kernel
theorem dX5_condition_0 : decode cX5_condition 0 = .ok (.aload_n 0, 1) := by decide +kernel
theorem dX5_condition_1 : decode cX5_condition 1 = .ok (.getfield 12, 3) := by decide +kernel
theorem dX5_condition_4 : decode cX5_condition 4 = .ok (.iload_n 1, 1) := by decide +kernel
theorem dX5_condition_5 : decode cX5_condition 5 = .ok (.invokevirtual 59, 3) := by decide +kernel
theorem dX5_condition_8 : decode cX5_condition 8 = .ok (.ifCond .eq 21, 3) := by decide +kernel
theorem dX5_condition_11 : decode cX5_condition 11 = .ok (.iload_n 2, 1) := by decide +kernel
theorem dX5_condition_12 : decode cX5_condition 12 = .ok (.iconst 0, 1) := by decide +kernel
theorem dX5_condition_13 : decode cX5_condition 13 = .ok (.aload_n 0, 1) := by decide +kernel
theorem dX5_condition_14 : decode cX5_condition 14 = .ok (.getfield 12, 3) := by decide +kernel
theorem dX5_condition_17 : decode cX5_condition 17 = .ok (.iload_n 1, 1) := by decide +kernel
theorem dX5_condition_18 : decode cX5_condition 18 = .ok (.invokevirtual 67, 3) := by decide +kernel
theorem dX5_condition_21 : decode cX5_condition 21 = .ok (.iconst 1, 1) := by decide +kernel
theorem dX5_condition_22 : decode cX5_condition 22 = .ok (.isub, 1) := by decide +kernel
theorem dX5_condition_23 : decode cX5_condition 23 = .ok (.invokestatic 71, 3) := by decide +kernel
theorem dX5_condition_26 : decode cX5_condition 26 = .ok (.ifCond .ne 5, 3) := by decide +kernel
theorem dX5_condition_29 : decode cX5_condition 29 = .ok (.iconst (-1), 1) := by decide +kernel
theorem dX5_condition_30 : decode cX5_condition 30 = .ok (.ireturn, 1) := by decide +kernel
theorem dX5_condition_31 : decode cX5_condition 31 = .ok (.iload_n 3, 1) := by decide +kernel
theorem dX5_condition_32 : decode cX5_condition 32 = .ok (.iconst 0, 1) := by decide +kernel
theorem dX5_condition_33 : decode cX5_condition 33 = .ok (.bipush 15, 2) := by decide +kernel
theorem dX5_condition_35 : decode cX5_condition 35 = .ok (.invokestatic 71, 3) := by decide +kernel
theorem dX5_condition_38 : decode cX5_condition 38 = .ok (.ifCond .ne 5, 3) := by decide +kernel
theorem dX5_condition_41 : decode cX5_condition 41 = .ok (.iconst (-1), 1) := by decide +kernel
theorem dX5_condition_42 : decode cX5_condition 42 = .ok (.ireturn, 1) := by decide +kernel
theorem dX5_condition_43 : decode cX5_condition 43 = .ok (.aload_n 0, 1) := by decide +kernel
theorem dX5_condition_44 : decode cX5_condition 44 = .ok (.getfield 12, 3) := by decide +kernel
theorem dX5_condition_47 : decode cX5_condition 47 = .ok (.iload_n 1, 1) := by decide +kernel
theorem dX5_condition_48 : decode cX5_condition 48 = .ok (.iload_n 2, 1) := by decide +kernel
theorem dX5_condition_49 : decode cX5_condition 49 = .ok (.invokevirtual 195, 3) := by decide +kernel
theorem dX5_condition_52 : decode cX5_condition 52 = .ok (.iload_n 3, 1) := by decide +kernel
theorem dX5_condition_53 : decode cX5_condition 53 = .ok (.invokestatic 198, 3) := by decide +kernel
theorem dX5_condition_56 : decode cX5_condition 56 = .ok (.ireturn, 1) := by decide +kernel
theorem dX5_event_0 : decode cX5_event 0 = .ok (.iload_n 1, 1) := by decide +kernel
theorem dX5_event_1 : decode cX5_event 1 = .ok (.ifCond .lt 12, 3) := by decide +kernel
theorem dX5_event_4 : decode cX5_event 4 = .ok (.iload_n 2, 1) := by decide +kernel
theorem dX5_event_5 : decode cX5_event 5 = .ok (.iconst 0, 1) := by decide +kernel
theorem dX5_event_6 : decode cX5_event 6 = .ok (.iconst 2, 1) := by decide +kernel
theorem dX5_event_7 : decode cX5_event 7 = .ok (.invokestatic 71, 3) := by decide +kernel
theorem dX5_event_10 : decode cX5_event 10 = .ok (.ifCond .ne 5, 3) := by decide +kernel
theorem dX5_event_13 : decode cX5_event 13 = .ok (.iconst (-1), 1) := by decide +kernel
theorem dX5_event_14 : decode cX5_event 14 = .ok (.ireturn, 1) := by decide +kernel
theorem dX5_event_15 : decode cX5_event 15 = .ok (.aload_n 0, 1) := by decide +kernel
theorem dX5_event_16 : decode cX5_event 16 = .ok (.getfield 12, 3) := by decide +kernel
theorem dX5_event_19 : decode cX5_event 19 = .ok (.iload_n 1, 1) := by decide +kernel
theorem dX5_event_20 : decode cX5_event 20 = .ok (.invokevirtual 203, 3) := by decide +kernel
theorem dX5_event_23 : decode cX5_event 23 = .ok (.istore_n 3, 1) := by decide +kernel
theorem dX5_event_24 : decode cX5_event 24 = .ok (.iload_n 3, 1) := by decide +kernel
theorem dX5_event_25 : decode cX5_event 25 = .ok (.iconst (-1), 1) := by decide +kernel
theorem dX5_event_26 : decode cX5_event 26 = .ok (.if_icmp .ne 6, 3) := by decide +kernel
theorem dX5_event_29 : decode cX5_event 29 = .ok (.bipush (-9), 2) := by decide +kernel
theorem dX5_event_31 : decode cX5_event 31 = .ok (.ireturn, 1) := by decide +kernel
theorem dX5_event_32 : decode cX5_event 32 = .ok (.iload_n 2, 1) := by decide +kernel
theorem dX5_event_33 : decode cX5_event 33 = .ok (.lookupswitch 44 #[(0, 27), (1, 39)], 27) := by decide +kernel
theorem dX5_event_60 : decode cX5_event 60 = .ok (.aload_n 0, 1) := by decide +kernel
theorem dX5_event_61 : decode cX5_event 61 = .ok (.getfield 12, 3) := by decide +kernel
theorem dX5_event_64 : decode cX5_event 64 = .ok (.getfield 206, 3) := by decide +kernel
theorem dX5_event_67 : decode cX5_event 67 = .ok (.iload_n 3, 1) := by decide +kernel
theorem dX5_event_68 : decode cX5_event 68 = .ok (.invokestatic 176, 3) := by decide +kernel
theorem dX5_event_71 : decode cX5_event 71 = .ok (.ireturn, 1) := by decide +kernel
theorem dX5_event_72 : decode cX5_event 72 = .ok (.iload_n 3, 1) := by decide +kernel
theorem dX5_event_73 : decode cX5_event 73 = .ok (.invokestatic 141, 3) := by decide +kernel
theorem dX5_event_76 : decode cX5_event 76 = .ok (.ireturn, 1) := by decide +kernel
theorem dX5_event_77 : decode cX5_event 77 = .ok (.aload_n 0, 1) := by decide +kernel
theorem dX5_event_78 : decode cX5_event 78 = .ok (.getfield 12, 3) := by decide +kernel
theorem dX5_event_81 : decode cX5_event 81 = .ok (.iload_n 3, 1) := by decide +kernel
theorem dX5_event_82 : decode cX5_event 82 = .ok (.invokevirtual 134, 3) := by decide +kernel
theorem dX5_event_85 : decode cX5_event 85 = .ok (.ireturn, 1) := by decide +kernel
theorem dX5_outcome_0 : decode cX5_outcome 0 = .ok (.iload_n 1, 1) := by decide +kernel
theorem dX5_outcome_1 : decode cX5_outcome 1 = .ok (.iconst 0, 1) := by decide +kernel
theorem dX5_outcome_2 : decode cX5_outcome 2 = .ok (.iconst 1, 1) := by decide +kernel
theorem dX5_outcome_3 : decode cX5_outcome 3 = .ok (.invokestatic 71, 3) := by decide +kernel
theorem dX5_outcome_6 : decode cX5_outcome 6 = .ok (.ifCond .eq 14, 3) := by decide +kernel
theorem dX5_outcome_9 : decode cX5_outcome 9 = .ok (.iload_n 2, 1) := by decide +kernel
theorem dX5_outcome_10 : decode cX5_outcome 10 = .ok (.iconst 1, 1) := by decide +kernel
theorem dX5_outcome_11 : decode cX5_outcome 11 = .ok (.sipush 200, 3) := by decide +kernel
theorem dX5_outcome_14 : decode cX5_outcome 14 = .ok (.invokestatic 71, 3) := by decide +kernel
theorem dX5_outcome_17 : decode cX5_outcome 17 = .ok (.ifCond .ne 5, 3) := by decide +kernel
theorem dX5_outcome_20 : decode cX5_outcome 20 = .ok (.iconst (-1), 1) := by decide +kernel
theorem dX5_outcome_21 : decode cX5_outcome 21 = .ok (.ireturn, 1) := by decide +kernel
theorem dX5_outcome_22 : decode cX5_outcome 22 = .ok (.aload_n 0, 1) := by decide +kernel
theorem dX5_outcome_23 : decode cX5_outcome 23 = .ok (.aload_n 0, 1) := by decide +kernel
theorem dX5_outcome_24 : decode cX5_outcome 24 = .ok (.getfield 12, 3) := by decide +kernel
theorem dX5_outcome_27 : decode cX5_outcome 27 = .ok (.iload_n 2, 1) := by decide +kernel
theorem dX5_outcome_28 : decode cX5_outcome 28 = .ok (.iload_n 1, 1) := by decide +kernel
theorem dX5_outcome_29 : decode cX5_outcome 29 = .ok (.iconst 1, 1) := by decide +kernel
theorem dX5_outcome_30 : decode cX5_outcome 30 = .ok (.if_icmp .ne 7, 3) := by decide +kernel
theorem dX5_outcome_33 : decode cX5_outcome 33 = .ok (.iconst 1, 1) := by decide +kernel
theorem dX5_outcome_34 : decode cX5_outcome 34 = .ok (.goto 4, 3) := by decide +kernel
theorem dX5_outcome_37 : decode cX5_outcome 37 = .ok (.iconst 0, 1) := by decide +kernel
theorem dX5_outcome_38 : decode cX5_outcome 38 = .ok (.invokevirtual 209, 3) := by decide +kernel
theorem dX5_outcome_41 : decode cX5_outcome 41 = .ok (.ireturn, 1) := by decide +kernel
theorem dX5_isRace_0 : decode cX5_isRace 0 = .ok (.aload_n 0, 1) := by decide +kernel
theorem dX5_isRace_1 : decode cX5_isRace 1 = .ok (.aload_n 0, 1) := by decide +kernel
theorem dX5_isRace_2 : decode cX5_isRace 2 = .ok (.getfield 12, 3) := by decide +kernel
theorem dX5_isRace_5 : decode cX5_isRace 5 = .ok (.invokevirtual 213, 3) := by decide +kernel
theorem dX5_isRace_8 : decode cX5_isRace 8 = .ok (.ireturn, 1) := by decide +kernel
theorem dX5_undo_0 : decode cX5_undo 0 = .ok (.aload_n 0, 1) := by decide +kernel
theorem dX5_undo_1 : decode cX5_undo 1 = .ok (.getfield 19, 3) := by decide +kernel
theorem dX5_undo_4 : decode cX5_undo 4 = .ok (.aload_n 0, 1) := by decide +kernel
theorem dX5_undo_5 : decode cX5_undo 5 = .ok (.getfield 12, 3) := by decide +kernel
theorem dX5_undo_8 : decode cX5_undo 8 = .ok (.invokevirtual 224, 3) := by decide +kernel
theorem dX5_undo_11 : decode cX5_undo 11 = .ok (.ifCond .eq 13, 3) := by decide +kernel
theorem dX5_undo_14 : decode cX5_undo 14 = .ok (.aload_n 0, 1) := by decide +kernel
theorem dX5_undo_15 : decode cX5_undo 15 = .ok (.getfield 19, 3) := by decide +kernel
theorem dX5_undo_18 : decode cX5_undo 18 = .ok (.getfield 172, 3) := by decide +kernel
theorem dX5_undo_21 : decode cX5_undo 21 = .ok (.goto 5, 3) := by decide +kernel
theorem dX5_undo_24 : decode cX5_undo 24 = .ok (.bipush (-2), 2) := by decide +kernel
theorem dX5_undo_26 : decode cX5_undo 26 = .ok (.ireturn, 1) := by decide +kernel
theorem dX5_endingOf_0 : decode cX5_endingOf 0 = .ok (.aload_n 0, 1) := by decide +kernel
theorem dX5_endingOf_1 : decode cX5_endingOf 1 = .ok (.getfield 40, 3) := by decide +kernel
theorem dX5_endingOf_4 : decode cX5_endingOf 4 = .ok (.aload_n 1, 1) := by decide +kernel
theorem dX5_endingOf_5 : decode cX5_endingOf 5 = .ok (.invokevirtual 153, 3) := by decide +kernel
theorem dX5_endingOf_8 : decode cX5_endingOf 8 = .ok (.aload_n 0, 1) := by decide +kernel
theorem dX5_endingOf_9 : decode cX5_endingOf 9 = .ok (.getfield 40, 3) := by decide +kernel
theorem dX5_endingOf_12 : decode cX5_endingOf 12 = .ok (.iload_n 2, 1) := by decide +kernel
theorem dX5_endingOf_13 : decode cX5_endingOf 13 = .ok (.ldc 144, 2) := by decide +kernel
theorem dX5_endingOf_15 : decode cX5_endingOf 15 = .ok (.iload_n 3, 1) := by decide +kernel
theorem dX5_endingOf_16 : decode cX5_endingOf 16 = .ok (.invokevirtual 145, 3) := by decide +kernel
theorem dX5_endingOf_19 : decode cX5_endingOf 19 = .ok (.pop, 1) := by decide +kernel
theorem dX5_endingOf_20 : decode cX5_endingOf 20 = .ok (.aload_n 0, 1) := by decide +kernel
theorem dX5_endingOf_21 : decode cX5_endingOf 21 = .ok (.getfield 40, 3) := by decide +kernel
theorem dX5_endingOf_24 : decode cX5_endingOf 24 = .ok (.getfield 163, 3) := by decide +kernel
theorem dX5_endingOf_27 : decode cX5_endingOf 27 = .ok (.aload_n 0, 1) := by decide +kernel
theorem dX5_endingOf_28 : decode cX5_endingOf 28 = .ok (.getfield 40, 3) := by decide +kernel
theorem dX5_endingOf_31 : decode cX5_endingOf 31 = .ok (.invokevirtual 217, 3) := by decide +kernel
theorem dX5_endingOf_34 : decode cX5_endingOf 34 = .ok (.ifCond .eq 9, 3) := by decide +kernel
theorem dX5_endingOf_37 : decode cX5_endingOf 37 = .ok (.sipush 256, 3) := by decide +kernel
theorem dX5_endingOf_40 : decode cX5_endingOf 40 = .ok (.goto 4, 3) := by decide +kernel
theorem dX5_endingOf_43 : decode cX5_endingOf 43 = .ok (.iconst 0, 1) := by decide +kernel
theorem dX5_endingOf_44 : decode cX5_endingOf 44 = .ok (.iadd, 1) := by decide +kernel
theorem dX5_endingOf_45 : decode cX5_endingOf 45 = .ok (.ireturn, 1) := by decide +kernel
theorem dX5_raceIn_0 : decode cX5_raceIn 0 = .ok (.aload_n 0, 1) := by decide +kernel
theorem dX5_raceIn_1 : decode cX5_raceIn 1 = .ok (.aload_n 1, 1) := by decide +kernel
theorem dX5_raceIn_2 : decode cX5_raceIn 2 = .ok (.sipush 200, 3) := by decide +kernel
theorem dX5_raceIn_5 : decode cX5_raceIn 5 = .ok (.iconst 0, 1) := by decide +kernel
theorem dX5_raceIn_6 : decode cX5_raceIn 6 = .ok (.invokevirtual 209, 3) := by decide +kernel
theorem dX5_raceIn_9 : decode cX5_raceIn 9 = .ok (.istore_n 2, 1) := by decide +kernel
theorem dX5_raceIn_10 : decode cX5_raceIn 10 = .ok (.iload_n 2, 1) := by decide +kernel
theorem dX5_raceIn_11 : decode cX5_raceIn 11 = .ok (.aload_n 0, 1) := by decide +kernel
theorem dX5_raceIn_12 : decode cX5_raceIn 12 = .ok (.aload_n 1, 1) := by decide +kernel
theorem dX5_raceIn_13 : decode cX5_raceIn 13 = .ok (.sipush 200, 3) := by decide +kernel
theorem dX5_raceIn_16 : decode cX5_raceIn 16 = .ok (.iconst 1, 1) := by decide +kernel
theorem dX5_raceIn_17 : decode cX5_raceIn 17 = .ok (.invokevirtual 209, 3) := by decide +kernel
theorem dX5_raceIn_20 : decode cX5_raceIn 20 = .ok (.if_icmp .eq 7, 3) := by decide +kernel
theorem dX5_raceIn_23 : decode cX5_raceIn 23 = .ok (.iconst 1, 1) := by decide +kernel
theorem dX5_raceIn_24 : decode cX5_raceIn 24 = .ok (.goto 4, 3) := by decide +kernel
theorem dX5_raceIn_27 : decode cX5_raceIn 27 = .ok (.iconst 0, 1) := by decide +kernel
theorem dX5_raceIn_28 : decode cX5_raceIn 28 = .ok (.ireturn, 1) := by decide +kernel
theorem dX5_isKey_0 : decode cX5_isKey 0 = .ok (.iload_n 0, 1) := by decide +kernel
theorem dX5_isKey_1 : decode cX5_isKey 1 = .ok (.iconst 0, 1) := by decide +kernel
theorem dX5_isKey_2 : decode cX5_isKey 2 = .ok (.bipush 7, 2) := by decide +kernel
theorem dX5_isKey_4 : decode cX5_isKey 4 = .ok (.invokestatic 71, 3) := by decide +kernel
theorem dX5_isKey_7 : decode cX5_isKey 7 = .ok (.ireturn, 1) := by decide +kernel
theorem dX5_areDelays_0 : decode cX5_areDelays 0 = .ok (.iload_n 0, 1) := by decide +kernel
theorem dX5_areDelays_1 : decode cX5_areDelays 1 = .ok (.iconst 1, 1) := by decide +kernel
theorem dX5_areDelays_2 : decode cX5_areDelays 2 = .ok (.bipush 20, 2) := by decide +kernel
theorem dX5_areDelays_4 : decode cX5_areDelays 4 = .ok (.invokestatic 71, 3) := by decide +kernel
theorem dX5_areDelays_7 : decode cX5_areDelays 7 = .ok (.ifCond .eq 26, 3) := by decide +kernel
theorem dX5_areDelays_10 : decode cX5_areDelays 10 = .ok (.iload_n 1, 1) := by decide +kernel
theorem dX5_areDelays_11 : decode cX5_areDelays 11 = .ok (.iconst 1, 1) := by decide +kernel
theorem dX5_areDelays_12 : decode cX5_areDelays 12 = .ok (.bipush 20, 2) := by decide +kernel
theorem dX5_areDelays_14 : decode cX5_areDelays 14 = .ok (.invokestatic 71, 3) := by decide +kernel
theorem dX5_areDelays_17 : decode cX5_areDelays 17 = .ok (.ifCond .eq 16, 3) := by decide +kernel
theorem dX5_areDelays_20 : decode cX5_areDelays 20 = .ok (.iload_n 2, 1) := by decide +kernel
theorem dX5_areDelays_21 : decode cX5_areDelays 21 = .ok (.iconst 0, 1) := by decide +kernel
theorem dX5_areDelays_22 : decode cX5_areDelays 22 = .ok (.iconst 5, 1) := by decide +kernel
theorem dX5_areDelays_23 : decode cX5_areDelays 23 = .ok (.invokestatic 71, 3) := by decide +kernel
theorem dX5_areDelays_26 : decode cX5_areDelays 26 = .ok (.ifCond .eq 7, 3) := by decide +kernel
theorem dX5_areDelays_29 : decode cX5_areDelays 29 = .ok (.iconst 1, 1) := by decide +kernel
theorem dX5_areDelays_30 : decode cX5_areDelays 30 = .ok (.goto 4, 3) := by decide +kernel
theorem dX5_areDelays_33 : decode cX5_areDelays 33 = .ok (.iconst 0, 1) := by decide +kernel
theorem dX5_areDelays_34 : decode cX5_areDelays 34 = .ok (.ireturn, 1) := by decide +kernel
theorem dX5_isWithin_0 : decode cX5_isWithin 0 = .ok (.iload_n 1, 1) := by decide +kernel
theorem dX5_isWithin_1 : decode cX5_isWithin 1 = .ok (.iload_n 0, 1) := by decide +kernel
theorem dX5_isWithin_2 : decode cX5_isWithin 2 = .ok (.if_icmp .gt 12, 3) := by decide +kernel
theorem dX5_isWithin_5 : decode cX5_isWithin 5 = .ok (.iload_n 0, 1) := by decide +kernel
theorem dX5_isWithin_6 : decode cX5_isWithin 6 = .ok (.iload_n 2, 1) := by decide +kernel
theorem dX5_isWithin_7 : decode cX5_isWithin 7 = .ok (.if_icmp .gt 7, 3) := by decide +kernel
theorem dX5_isWithin_10 : decode cX5_isWithin 10 = .ok (.iconst 1, 1) := by decide +kernel
theorem dX5_isWithin_11 : decode cX5_isWithin 11 = .ok (.goto 4, 3) := by decide +kernel
theorem dX5_isWithin_14 : decode cX5_isWithin 14 = .ok (.iconst 0, 1) := by decide +kernel
theorem dX5_isWithin_15 : decode cX5_isWithin 15 = .ok (.ireturn, 1) := by decide +kernel
theorem dX5_bitOf_0 : decode cX5_bitOf 0 = .ok (.iload_n 0, 1) := by decide +kernel
theorem dX5_bitOf_1 : decode cX5_bitOf 1 = .ok (.iload_n 1, 1) := by decide +kernel
theorem dX5_bitOf_2 : decode cX5_bitOf 2 = .ok (.iushr, 1) := by decide +kernel
theorem dX5_bitOf_3 : decode cX5_bitOf 3 = .ok (.iconst 1, 1) := by decide +kernel
theorem dX5_bitOf_4 : decode cX5_bitOf 4 = .ok (.iand, 1) := by decide +kernel
theorem dX5_bitOf_5 : decode cX5_bitOf 5 = .ok (.ireturn, 1) := by decide +kernel
theorem dX5_isIn_0 : decode cX5_isIn 0 = .ok (.iload_n 0, 1) := by decide +kernel
theorem dX5_isIn_1 : decode cX5_isIn 1 = .ok (.iload_n 1, 1) := by decide +kernel
theorem dX5_isIn_2 : decode cX5_isIn 2 = .ok (.iushr, 1) := by decide +kernel
theorem dX5_isIn_3 : decode cX5_isIn 3 = .ok (.iconst 1, 1) := by decide +kernel
theorem dX5_isIn_4 : decode cX5_isIn 4 = .ok (.iand, 1) := by decide +kernel
theorem dX5_isIn_5 : decode cX5_isIn 5 = .ok (.iconst 1, 1) := by decide +kernel
theorem dX5_isIn_6 : decode cX5_isIn 6 = .ok (.if_icmp .ne 7, 3) := by decide +kernel
theorem dX5_isIn_9 : decode cX5_isIn 9 = .ok (.iconst 1, 1) := by decide +kernel
theorem dX5_isIn_10 : decode cX5_isIn 10 = .ok (.goto 4, 3) := by decide +kernel
theorem dX5_isIn_13 : decode cX5_isIn 13 = .ok (.iconst 0, 1) := by decide +kernel
theorem dX5_isIn_14 : decode cX5_isIn 14 = .ok (.ireturn, 1) := by decide +kernel
theorem dX5_at_0 : decode cX5_at 0 = .ok (.iconst 0, 1) := by decide +kernel
theorem dX5_at_1 : decode cX5_at 1 = .ok (.iload_n 1, 1) := by decide +kernel
theorem dX5_at_2 : decode cX5_at 2 = .ok (.if_icmp .gt 15, 3) := by decide +kernel
theorem dX5_at_5 : decode cX5_at 5 = .ok (.iload_n 1, 1) := by decide +kernel
theorem dX5_at_6 : decode cX5_at 6 = .ok (.aload_n 0, 1) := by decide +kernel
theorem dX5_at_7 : decode cX5_at 7 = .ok (.arraylength, 1) := by decide +kernel
theorem dX5_at_8 : decode cX5_at 8 = .ok (.if_icmp .ge 9, 3) := by decide +kernel
theorem dX5_at_11 : decode cX5_at 11 = .ok (.aload_n 0, 1) := by decide +kernel
theorem dX5_at_12 : decode cX5_at 12 = .ok (.iload_n 1, 1) := by decide +kernel
theorem dX5_at_13 : decode cX5_at 13 = .ok (.iaload, 1) := by decide +kernel
theorem dX5_at_14 : decode cX5_at 14 = .ok (.goto 4, 3) := by decide +kernel
theorem dX5_at_17 : decode cX5_at 17 = .ok (.iconst 0, 1) := by decide +kernel
theorem dX5_at_18 : decode cX5_at 18 = .ok (.ireturn, 1) := by decide +kernel
theorem dX5_put_0 : decode cX5_put 0 = .ok (.iconst 0, 1) := by decide +kernel
theorem dX5_put_1 : decode cX5_put 1 = .ok (.iload_n 1, 1) := by decide +kernel
theorem dX5_put_2 : decode cX5_put 2 = .ok (.if_icmp .gt 13, 3) := by decide +kernel
theorem dX5_put_5 : decode cX5_put 5 = .ok (.iload_n 1, 1) := by decide +kernel
theorem dX5_put_6 : decode cX5_put 6 = .ok (.aload_n 0, 1) := by decide +kernel
theorem dX5_put_7 : decode cX5_put 7 = .ok (.arraylength, 1) := by decide +kernel
theorem dX5_put_8 : decode cX5_put 8 = .ok (.if_icmp .ge 7, 3) := by decide +kernel
theorem dX5_put_11 : decode cX5_put 11 = .ok (.aload_n 0, 1) := by decide +kernel
theorem dX5_put_12 : decode cX5_put 12 = .ok (.iload_n 1, 1) := by decide +kernel
theorem dX5_put_13 : decode cX5_put 13 = .ok (.iload_n 2, 1) := by decide +kernel
theorem dX5_put_14 : decode cX5_put 14 = .ok (.iastore, 1) := by decide +kernel
theorem dX5_put_15 : decode cX5_put 15 = .ok (.return_, 1) := by decide +kernel
end
section
theorem dL_cell_0 : decode cL_cell 0 = .ok (.iload_n 1, 1) := by decide +kernel
theorem dL_cell_1 : decode cL_cell 1 = .ok (.aload_n 0, 1) := by decide +kernel
theorem dL_cell_2 : decode cL_cell 2 = .ok (.arraylength, 1) := by decide +kernel
theorem dL_cell_3 : decode cL_cell 3 = .ok (.if_icmp .ge 9, 3) := by decide +kernel
theorem dL_cell_6 : decode cL_cell 6 = .ok (.aload_n 0, 1) := by decide +kernel
theorem dL_cell_7 : decode cL_cell 7 = .ok (.iload_n 1, 1) := by decide +kernel
theorem dL_cell_8 : decode cL_cell 8 = .ok (.iaload, 1) := by decide +kernel
theorem dL_cell_9 : decode cL_cell 9 = .ok (.goto 15, 3) := by decide +kernel
theorem dL_cell_12 : decode cL_cell 12 = .ok (.sipush 7919, 3) := by decide +kernel
theorem dL_cell_15 : decode cL_cell 15 = .ok (.iload_n 1, 1) := by decide +kernel
theorem dL_cell_16 : decode cL_cell 16 = .ok (.iconst 3, 1) := by decide +kernel
theorem dL_cell_17 : decode cL_cell 17 = .ok (.iadd, 1) := by decide +kernel
theorem dL_cell_18 : decode cL_cell 18 = .ok (.imul, 1) := by decide +kernel
theorem dL_cell_19 : decode cL_cell 19 = .ok (.iload_n 1, 1) := by decide +kernel
theorem dL_cell_20 : decode cL_cell 20 = .ok (.bipush 11, 2) := by decide +kernel
theorem dL_cell_22 : decode cL_cell 22 = .ok (.iadd, 1) := by decide +kernel
theorem dL_cell_23 : decode cL_cell 23 = .ok (.imul, 1) := by decide +kernel
theorem dL_cell_24 : decode cL_cell 24 = .ok (.ireturn, 1) := by decide +kernel
theorem dL_low_0 : decode cL_low 0 = .ok (.iload_n 0, 1) := by decide +kernel
theorem dL_low_1 : decode cL_low 1 = .ok (.ldc 7, 2) := by decide +kernel
theorem dL_low_3 : decode cL_low 3 = .ok (.iand, 1) := by decide +kernel
theorem dL_low_4 : decode cL_low 4 = .ok (.iload_n 1, 1) := by decide +kernel
theorem dL_low_5 : decode cL_low 5 = .ok (.irem, 1) := by decide +kernel
theorem dL_low_6 : decode cL_low 6 = .ok (.ireturn, 1) := by decide +kernel
theorem dL_tale_0 : decode cL_tale 0 = .ok (.ldc2_w 8, 3) := by decide +kernel
theorem dL_tale_3 : decode cL_tale 3 = .ok (.lstore_n 1, 1) := by decide +kernel
theorem dL_tale_4 : decode cL_tale 4 = .ok (.iconst 0, 1) := by decide +kernel
theorem dL_tale_5 : decode cL_tale 5 = .ok (.istore_n 3, 1) := by decide +kernel
theorem dL_tale_6 : decode cL_tale 6 = .ok (.iload_n 3, 1) := by decide +kernel
theorem dL_tale_7 : decode cL_tale 7 = .ok (.bipush 9, 2) := by decide +kernel
theorem dL_tale_9 : decode cL_tale 9 = .ok (.if_icmp .ge 22, 3) := by decide +kernel
theorem dL_tale_12 : decode cL_tale 12 = .ok (.lload_n 1, 1) := by decide +kernel
theorem dL_tale_13 : decode cL_tale 13 = .ok (.ldc2_w 10, 3) := by decide +kernel
theorem dL_tale_16 : decode cL_tale 16 = .ok (.lmul, 1) := by decide +kernel
theorem dL_tale_17 : decode cL_tale 17 = .ok (.aload_n 0, 1) := by decide +kernel
theorem dL_tale_18 : decode cL_tale 18 = .ok (.iload_n 3, 1) := by decide +kernel
theorem dL_tale_19 : decode cL_tale 19 = .ok (.invokevirtual 12, 3) := by decide +kernel
theorem dL_tale_22 : decode cL_tale 22 = .ok (.i2l, 1) := by decide +kernel
theorem dL_tale_23 : decode cL_tale 23 = .ok (.ladd, 1) := by decide +kernel
theorem dL_tale_24 : decode cL_tale 24 = .ok (.lstore_n 1, 1) := by decide +kernel
theorem dL_tale_25 : decode cL_tale 25 = .ok (.iinc 3 1, 3) := by decide +kernel
theorem dL_tale_28 : decode cL_tale 28 = .ok (.goto (-22), 3) := by decide +kernel
theorem dL_tale_31 : decode cL_tale 31 = .ok (.iconst 0, 1) := by decide +kernel
theorem dL_tale_32 : decode cL_tale 32 = .ok (.istore_n 3, 1) := by decide +kernel
theorem dL_tale_33 : decode cL_tale 33 = .ok (.iload_n 3, 1) := by decide +kernel
theorem dL_tale_34 : decode cL_tale 34 = .ok (.aload_n 0, 1) := by decide +kernel
theorem dL_tale_35 : decode cL_tale 35 = .ok (.iconst 0, 1) := by decide +kernel
theorem dL_tale_36 : decode cL_tale 36 = .ok (.invokevirtual 12, 3) := by decide +kernel
theorem dL_tale_39 : decode cL_tale 39 = .ok (.if_icmp .ge 89, 3) := by decide +kernel
theorem dL_tale_42 : decode cL_tale 42 = .ok (.iconst 0, 1) := by decide +kernel
theorem dL_tale_43 : decode cL_tale 43 = .ok (.istore 4, 2) := by decide +kernel
theorem dL_tale_45 : decode cL_tale 45 = .ok (.iload 4, 2) := by decide +kernel
theorem dL_tale_47 : decode cL_tale 47 = .ok (.bipush 8, 2) := by decide +kernel
theorem dL_tale_49 : decode cL_tale 49 = .ok (.if_icmp .ge 24, 3) := by decide +kernel
theorem dL_tale_52 : decode cL_tale 52 = .ok (.lload_n 1, 1) := by decide +kernel
theorem dL_tale_53 : decode cL_tale 53 = .ok (.ldc2_w 18, 3) := by decide +kernel
theorem dL_tale_56 : decode cL_tale 56 = .ok (.lmul, 1) := by decide +kernel
theorem dL_tale_57 : decode cL_tale 57 = .ok (.aload_n 0, 1) := by decide +kernel
theorem dL_tale_58 : decode cL_tale 58 = .ok (.iload_n 3, 1) := by decide +kernel
theorem dL_tale_59 : decode cL_tale 59 = .ok (.iload 4, 2) := by decide +kernel
theorem dL_tale_61 : decode cL_tale 61 = .ok (.invokevirtual 20, 3) := by decide +kernel
theorem dL_tale_64 : decode cL_tale 64 = .ok (.i2l, 1) := by decide +kernel
theorem dL_tale_65 : decode cL_tale 65 = .ok (.ladd, 1) := by decide +kernel
theorem dL_tale_66 : decode cL_tale 66 = .ok (.lstore_n 1, 1) := by decide +kernel
theorem dL_tale_67 : decode cL_tale 67 = .ok (.iinc 4 1, 3) := by decide +kernel
theorem dL_tale_70 : decode cL_tale 70 = .ok (.goto (-25), 3) := by decide +kernel
theorem dL_tale_73 : decode cL_tale 73 = .ok (.iconst 0, 1) := by decide +kernel
theorem dL_tale_74 : decode cL_tale 74 = .ok (.istore 4, 2) := by decide +kernel
theorem dL_tale_76 : decode cL_tale 76 = .ok (.iload 4, 2) := by decide +kernel
theorem dL_tale_78 : decode cL_tale 78 = .ok (.bipush 6, 2) := by decide +kernel
theorem dL_tale_80 : decode cL_tale 80 = .ok (.if_icmp .ge 42, 3) := by decide +kernel
theorem dL_tale_83 : decode cL_tale 83 = .ok (.iconst 0, 1) := by decide +kernel
theorem dL_tale_84 : decode cL_tale 84 = .ok (.istore 5, 2) := by decide +kernel
theorem dL_tale_86 : decode cL_tale 86 = .ok (.iload 5, 2) := by decide +kernel
theorem dL_tale_88 : decode cL_tale 88 = .ok (.bipush 16, 2) := by decide +kernel
theorem dL_tale_90 : decode cL_tale 90 = .ok (.if_icmp .ge 26, 3) := by decide +kernel
theorem dL_tale_93 : decode cL_tale 93 = .ok (.lload_n 1, 1) := by decide +kernel
theorem dL_tale_94 : decode cL_tale 94 = .ok (.ldc2_w 24, 3) := by decide +kernel
theorem dL_tale_97 : decode cL_tale 97 = .ok (.lmul, 1) := by decide +kernel
theorem dL_tale_98 : decode cL_tale 98 = .ok (.aload_n 0, 1) := by decide +kernel
theorem dL_tale_99 : decode cL_tale 99 = .ok (.iload_n 3, 1) := by decide +kernel
theorem dL_tale_100 : decode cL_tale 100 = .ok (.iload 4, 2) := by decide +kernel
theorem dL_tale_102 : decode cL_tale 102 = .ok (.iload 5, 2) := by decide +kernel
theorem dL_tale_104 : decode cL_tale 104 = .ok (.invokevirtual 26, 3) := by decide +kernel
theorem dL_tale_107 : decode cL_tale 107 = .ok (.i2l, 1) := by decide +kernel
theorem dL_tale_108 : decode cL_tale 108 = .ok (.ladd, 1) := by decide +kernel
theorem dL_tale_109 : decode cL_tale 109 = .ok (.lstore_n 1, 1) := by decide +kernel
theorem dL_tale_110 : decode cL_tale 110 = .ok (.iinc 5 3, 3) := by decide +kernel
theorem dL_tale_113 : decode cL_tale 113 = .ok (.goto (-27), 3) := by decide +kernel
theorem dL_tale_116 : decode cL_tale 116 = .ok (.iinc 4 1, 3) := by decide +kernel
theorem dL_tale_119 : decode cL_tale 119 = .ok (.goto (-43), 3) := by decide +kernel
theorem dL_tale_122 : decode cL_tale 122 = .ok (.iinc 3 1, 3) := by decide +kernel
theorem dL_tale_125 : decode cL_tale 125 = .ok (.goto (-92), 3) := by decide +kernel
theorem dL_tale_128 : decode cL_tale 128 = .ok (.iconst 0, 1) := by decide +kernel
theorem dL_tale_129 : decode cL_tale 129 = .ok (.istore_n 3, 1) := by decide +kernel
theorem dL_tale_130 : decode cL_tale 130 = .ok (.iload_n 3, 1) := by decide +kernel
theorem dL_tale_131 : decode cL_tale 131 = .ok (.bipush 6, 2) := by decide +kernel
theorem dL_tale_133 : decode cL_tale 133 = .ok (.if_icmp .ge 47, 3) := by decide +kernel
theorem dL_tale_136 : decode cL_tale 136 = .ok (.lload_n 1, 1) := by decide +kernel
theorem dL_tale_137 : decode cL_tale 137 = .ok (.ldc2_w 30, 3) := by decide +kernel
theorem dL_tale_140 : decode cL_tale 140 = .ok (.lmul, 1) := by decide +kernel
theorem dL_tale_141 : decode cL_tale 141 = .ok (.aload_n 0, 1) := by decide +kernel
theorem dL_tale_142 : decode cL_tale 142 = .ok (.iload_n 3, 1) := by decide +kernel
theorem dL_tale_143 : decode cL_tale 143 = .ok (.iconst 0, 1) := by decide +kernel
theorem dL_tale_144 : decode cL_tale 144 = .ok (.invokevirtual 32, 3) := by decide +kernel
theorem dL_tale_147 : decode cL_tale 147 = .ok (.i2l, 1) := by decide +kernel
theorem dL_tale_148 : decode cL_tale 148 = .ok (.ladd, 1) := by decide +kernel
theorem dL_tale_149 : decode cL_tale 149 = .ok (.ldc2_w 35, 3) := by decide +kernel
theorem dL_tale_152 : decode cL_tale 152 = .ok (.aload_n 0, 1) := by decide +kernel
theorem dL_tale_153 : decode cL_tale 153 = .ok (.iload_n 3, 1) := by decide +kernel
theorem dL_tale_154 : decode cL_tale 154 = .ok (.iconst 1, 1) := by decide +kernel
theorem dL_tale_155 : decode cL_tale 155 = .ok (.invokevirtual 32, 3) := by decide +kernel
theorem dL_tale_158 : decode cL_tale 158 = .ok (.i2l, 1) := by decide +kernel
theorem dL_tale_159 : decode cL_tale 159 = .ok (.lmul, 1) := by decide +kernel
theorem dL_tale_160 : decode cL_tale 160 = .ok (.ladd, 1) := by decide +kernel
theorem dL_tale_161 : decode cL_tale 161 = .ok (.ldc2_w 37, 3) := by decide +kernel
theorem dL_tale_164 : decode cL_tale 164 = .ok (.aload_n 0, 1) := by decide +kernel
theorem dL_tale_165 : decode cL_tale 165 = .ok (.iload_n 3, 1) := by decide +kernel
theorem dL_tale_166 : decode cL_tale 166 = .ok (.iconst 2, 1) := by decide +kernel
theorem dL_tale_167 : decode cL_tale 167 = .ok (.invokevirtual 32, 3) := by decide +kernel
theorem dL_tale_170 : decode cL_tale 170 = .ok (.i2l, 1) := by decide +kernel
theorem dL_tale_171 : decode cL_tale 171 = .ok (.lmul, 1) := by decide +kernel
theorem dL_tale_172 : decode cL_tale 172 = .ok (.ladd, 1) := by decide +kernel
theorem dL_tale_173 : decode cL_tale 173 = .ok (.lstore_n 1, 1) := by decide +kernel
theorem dL_tale_174 : decode cL_tale 174 = .ok (.iinc 3 1, 3) := by decide +kernel
theorem dL_tale_177 : decode cL_tale 177 = .ok (.goto (-47), 3) := by decide +kernel
theorem dL_tale_180 : decode cL_tale 180 = .ok (.lload_n 1, 1) := by decide +kernel
theorem dL_tale_181 : decode cL_tale 181 = .ok (.lreturn, 1) := by decide +kernel
theorem dL_does_0 : decode cL_does 0 = .ok (.iload_n 1, 1) := by decide +kernel
theorem dL_does_1 : decode cL_does 1 = .ok (.iconst 4, 1) := by decide +kernel
theorem dL_does_2 : decode cL_does 2 = .ok (.ishr, 1) := by decide +kernel
theorem dL_does_3 : decode cL_does 3 = .ok (.iconst 5, 1) := by decide +kernel
theorem dL_does_4 : decode cL_does 4 = .ok (.invokestatic 39, 3) := by decide +kernel
theorem dL_does_7 : decode cL_does 7 = .ok (.istore_n 2, 1) := by decide +kernel
theorem dL_does_8 : decode cL_does 8 = .ok (.iload_n 1, 1) := by decide +kernel
theorem dL_does_9 : decode cL_does 9 = .ok (.bipush 15, 2) := by decide +kernel
theorem dL_does_11 : decode cL_does 11 = .ok (.iand, 1) := by decide +kernel
theorem dL_does_12 : decode cL_does 12 = .ok (.tableswitch 274 0 13 #[72, 72, 107, 144, 144, 144, 175, 189, 189, 189, 208, 222, 244, 259], 72) := by decide +kernel
theorem dL_does_84 : decode cL_does 84 = .ok (.aload_n 0, 1) := by decide +kernel
theorem dL_does_85 : decode cL_does 85 = .ok (.iconst 1, 1) := by decide +kernel
theorem dL_does_86 : decode cL_does 86 = .ok (.iload_n 1, 1) := by decide +kernel
theorem dL_does_87 : decode cL_does 87 = .ok (.iconst 4, 1) := by decide +kernel
theorem dL_does_88 : decode cL_does 88 = .ok (.ishr, 1) := by decide +kernel
theorem dL_does_89 : decode cL_does 89 = .ok (.bipush 20, 2) := by decide +kernel
theorem dL_does_91 : decode cL_does 91 = .ok (.invokestatic 39, 3) := by decide +kernel
theorem dL_does_94 : decode cL_does 94 = .ok (.iadd, 1) := by decide +kernel
theorem dL_does_95 : decode cL_does 95 = .ok (.iconst 1, 1) := by decide +kernel
theorem dL_does_96 : decode cL_does 96 = .ok (.iload_n 1, 1) := by decide +kernel
theorem dL_does_97 : decode cL_does 97 = .ok (.bipush 9, 2) := by decide +kernel
theorem dL_does_99 : decode cL_does 99 = .ok (.ishr, 1) := by decide +kernel
theorem dL_does_100 : decode cL_does 100 = .ok (.bipush 20, 2) := by decide +kernel
theorem dL_does_102 : decode cL_does 102 = .ok (.invokestatic 39, 3) := by decide +kernel
theorem dL_does_105 : decode cL_does 105 = .ok (.iadd, 1) := by decide +kernel
theorem dL_does_106 : decode cL_does 106 = .ok (.iload_n 1, 1) := by decide +kernel
theorem dL_does_107 : decode cL_does 107 = .ok (.bipush 14, 2) := by decide +kernel
theorem dL_does_109 : decode cL_does 109 = .ok (.ishr, 1) := by decide +kernel
theorem dL_does_110 : decode cL_does 110 = .ok (.bipush 6, 2) := by decide +kernel
theorem dL_does_112 : decode cL_does 112 = .ok (.invokestatic 39, 3) := by decide +kernel
theorem dL_does_115 : decode cL_does 115 = .ok (.invokevirtual 44, 3) := by decide +kernel
theorem dL_does_118 : decode cL_does 118 = .ok (.ireturn, 1) := by decide +kernel
theorem dL_does_119 : decode cL_does 119 = .ok (.aload_n 0, 1) := by decide +kernel
theorem dL_does_120 : decode cL_does 120 = .ok (.iload_n 2, 1) := by decide +kernel
theorem dL_does_121 : decode cL_does 121 = .ok (.iconst 1, 1) := by decide +kernel
theorem dL_does_122 : decode cL_does 122 = .ok (.iload_n 1, 1) := by decide +kernel
theorem dL_does_123 : decode cL_does 123 = .ok (.bipush 7, 2) := by decide +kernel
theorem dL_does_125 : decode cL_does 125 = .ok (.ishr, 1) := by decide +kernel
theorem dL_does_126 : decode cL_does 126 = .ok (.bipush 20, 2) := by decide +kernel
theorem dL_does_128 : decode cL_does 128 = .ok (.invokestatic 39, 3) := by decide +kernel
theorem dL_does_131 : decode cL_does 131 = .ok (.iadd, 1) := by decide +kernel
theorem dL_does_132 : decode cL_does 132 = .ok (.iconst 1, 1) := by decide +kernel
theorem dL_does_133 : decode cL_does 133 = .ok (.iload_n 1, 1) := by decide +kernel
theorem dL_does_134 : decode cL_does 134 = .ok (.bipush 12, 2) := by decide +kernel
theorem dL_does_136 : decode cL_does 136 = .ok (.ishr, 1) := by decide +kernel
theorem dL_does_137 : decode cL_does 137 = .ok (.bipush 20, 2) := by decide +kernel
theorem dL_does_139 : decode cL_does 139 = .ok (.invokestatic 39, 3) := by decide +kernel
theorem dL_does_142 : decode cL_does 142 = .ok (.iadd, 1) := by decide +kernel
theorem dL_does_143 : decode cL_does 143 = .ok (.iload_n 1, 1) := by decide +kernel
theorem dL_does_144 : decode cL_does 144 = .ok (.bipush 17, 2) := by decide +kernel
theorem dL_does_146 : decode cL_does 146 = .ok (.ishr, 1) := by decide +kernel
theorem dL_does_147 : decode cL_does 147 = .ok (.bipush 6, 2) := by decide +kernel
theorem dL_does_149 : decode cL_does 149 = .ok (.invokestatic 39, 3) := by decide +kernel
theorem dL_does_152 : decode cL_does 152 = .ok (.invokevirtual 47, 3) := by decide +kernel
theorem dL_does_155 : decode cL_does 155 = .ok (.ireturn, 1) := by decide +kernel
theorem dL_does_156 : decode cL_does 156 = .ok (.aload_n 0, 1) := by decide +kernel
theorem dL_does_157 : decode cL_does 157 = .ok (.iload_n 2, 1) := by decide +kernel
theorem dL_does_158 : decode cL_does 158 = .ok (.iload_n 1, 1) := by decide +kernel
theorem dL_does_159 : decode cL_does 159 = .ok (.bipush 7, 2) := by decide +kernel
theorem dL_does_161 : decode cL_does 161 = .ok (.ishr, 1) := by decide +kernel
theorem dL_does_162 : decode cL_does 162 = .ok (.iconst 3, 1) := by decide +kernel
theorem dL_does_163 : decode cL_does 163 = .ok (.invokestatic 39, 3) := by decide +kernel
theorem dL_does_166 : decode cL_does 166 = .ok (.iload_n 1, 1) := by decide +kernel
theorem dL_does_167 : decode cL_does 167 = .ok (.bipush 9, 2) := by decide +kernel
theorem dL_does_169 : decode cL_does 169 = .ok (.ishr, 1) := by decide +kernel
theorem dL_does_170 : decode cL_does 170 = .ok (.bipush 14, 2) := by decide +kernel
theorem dL_does_172 : decode cL_does 172 = .ok (.invokestatic 39, 3) := by decide +kernel
theorem dL_does_175 : decode cL_does 175 = .ok (.iload_n 1, 1) := by decide +kernel
theorem dL_does_176 : decode cL_does 176 = .ok (.bipush 13, 2) := by decide +kernel
theorem dL_does_178 : decode cL_does 178 = .ok (.ishr, 1) := by decide +kernel
theorem dL_does_179 : decode cL_does 179 = .ok (.iconst 3, 1) := by decide +kernel
theorem dL_does_180 : decode cL_does 180 = .ok (.invokestatic 39, 3) := by decide +kernel
theorem dL_does_183 : decode cL_does 183 = .ok (.invokevirtual 51, 3) := by decide +kernel
theorem dL_does_186 : decode cL_does 186 = .ok (.ireturn, 1) := by decide +kernel
theorem dL_does_187 : decode cL_does 187 = .ok (.aload_n 0, 1) := by decide +kernel
theorem dL_does_188 : decode cL_does 188 = .ok (.iload_n 2, 1) := by decide +kernel
theorem dL_does_189 : decode cL_does 189 = .ok (.iload_n 1, 1) := by decide +kernel
theorem dL_does_190 : decode cL_does 190 = .ok (.bipush 7, 2) := by decide +kernel
theorem dL_does_192 : decode cL_does 192 = .ok (.ishr, 1) := by decide +kernel
theorem dL_does_193 : decode cL_does 193 = .ok (.iconst 3, 1) := by decide +kernel
theorem dL_does_194 : decode cL_does 194 = .ok (.invokestatic 39, 3) := by decide +kernel
theorem dL_does_197 : decode cL_does 197 = .ok (.invokevirtual 54, 3) := by decide +kernel
theorem dL_does_200 : decode cL_does 200 = .ok (.ireturn, 1) := by decide +kernel
theorem dL_does_201 : decode cL_does 201 = .ok (.aload_n 0, 1) := by decide +kernel
theorem dL_does_202 : decode cL_does 202 = .ok (.iload_n 1, 1) := by decide +kernel
theorem dL_does_203 : decode cL_does 203 = .ok (.iconst 4, 1) := by decide +kernel
theorem dL_does_204 : decode cL_does 204 = .ok (.ishr, 1) := by decide +kernel
theorem dL_does_205 : decode cL_does 205 = .ok (.bipush 6, 2) := by decide +kernel
theorem dL_does_207 : decode cL_does 207 = .ok (.invokestatic 39, 3) := by decide +kernel
theorem dL_does_210 : decode cL_does 210 = .ok (.iload_n 1, 1) := by decide +kernel
theorem dL_does_211 : decode cL_does 211 = .ok (.bipush 7, 2) := by decide +kernel
theorem dL_does_213 : decode cL_does 213 = .ok (.ishr, 1) := by decide +kernel
theorem dL_does_214 : decode cL_does 214 = .ok (.iconst 1, 1) := by decide +kernel
theorem dL_does_215 : decode cL_does 215 = .ok (.iand, 1) := by decide +kernel
theorem dL_does_216 : decode cL_does 216 = .ok (.invokevirtual 57, 3) := by decide +kernel
theorem dL_does_219 : decode cL_does 219 = .ok (.ireturn, 1) := by decide +kernel
theorem dL_does_220 : decode cL_does 220 = .ok (.aload_n 0, 1) := by decide +kernel
theorem dL_does_221 : decode cL_does 221 = .ok (.iload_n 2, 1) := by decide +kernel
theorem dL_does_222 : decode cL_does 222 = .ok (.iload_n 1, 1) := by decide +kernel
theorem dL_does_223 : decode cL_does 223 = .ok (.bipush 7, 2) := by decide +kernel
theorem dL_does_225 : decode cL_does 225 = .ok (.ishr, 1) := by decide +kernel
theorem dL_does_226 : decode cL_does 226 = .ok (.iconst 3, 1) := by decide +kernel
theorem dL_does_227 : decode cL_does 227 = .ok (.invokestatic 39, 3) := by decide +kernel
theorem dL_does_230 : decode cL_does 230 = .ok (.invokevirtual 60, 3) := by decide +kernel
theorem dL_does_233 : decode cL_does 233 = .ok (.ireturn, 1) := by decide +kernel
theorem dL_does_234 : decode cL_does 234 = .ok (.aload_n 0, 1) := by decide +kernel
theorem dL_does_235 : decode cL_does 235 = .ok (.iload_n 2, 1) := by decide +kernel
theorem dL_does_236 : decode cL_does 236 = .ok (.iload_n 1, 1) := by decide +kernel
theorem dL_does_237 : decode cL_does 237 = .ok (.bipush 7, 2) := by decide +kernel
theorem dL_does_239 : decode cL_does 239 = .ok (.ishr, 1) := by decide +kernel
theorem dL_does_240 : decode cL_does 240 = .ok (.iconst 5, 1) := by decide +kernel
theorem dL_does_241 : decode cL_does 241 = .ok (.invokestatic 39, 3) := by decide +kernel
theorem dL_does_244 : decode cL_does 244 = .ok (.ifCond .ne 7, 3) := by decide +kernel
theorem dL_does_247 : decode cL_does 247 = .ok (.iconst 1, 1) := by decide +kernel
theorem dL_does_248 : decode cL_does 248 = .ok (.goto 4, 3) := by decide +kernel
theorem dL_does_251 : decode cL_does 251 = .ok (.iconst 0, 1) := by decide +kernel
theorem dL_does_252 : decode cL_does 252 = .ok (.invokevirtual 63, 3) := by decide +kernel
theorem dL_does_255 : decode cL_does 255 = .ok (.ireturn, 1) := by decide +kernel
theorem dL_does_256 : decode cL_does 256 = .ok (.aload_n 0, 1) := by decide +kernel
theorem dL_does_257 : decode cL_does 257 = .ok (.iconst 1, 1) := by decide +kernel
theorem dL_does_258 : decode cL_does 258 = .ok (.iload_n 1, 1) := by decide +kernel
theorem dL_does_259 : decode cL_does 259 = .ok (.iconst 4, 1) := by decide +kernel
theorem dL_does_260 : decode cL_does 260 = .ok (.ishr, 1) := by decide +kernel
theorem dL_does_261 : decode cL_does 261 = .ok (.bipush 30, 2) := by decide +kernel
theorem dL_does_263 : decode cL_does 263 = .ok (.invokestatic 39, 3) := by decide +kernel
theorem dL_does_266 : decode cL_does 266 = .ok (.iadd, 1) := by decide +kernel
theorem dL_does_267 : decode cL_does 267 = .ok (.invokevirtual 66, 3) := by decide +kernel
theorem dL_does_270 : decode cL_does 270 = .ok (.ireturn, 1) := by decide +kernel
theorem dL_does_271 : decode cL_does 271 = .ok (.aload_n 0, 1) := by decide +kernel
theorem dL_does_272 : decode cL_does 272 = .ok (.iconst 1, 1) := by decide +kernel
theorem dL_does_273 : decode cL_does 273 = .ok (.iload_n 1, 1) := by decide +kernel
theorem dL_does_274 : decode cL_does 274 = .ok (.iconst 4, 1) := by decide +kernel
theorem dL_does_275 : decode cL_does 275 = .ok (.ishr, 1) := by decide +kernel
theorem dL_does_276 : decode cL_does 276 = .ok (.bipush 40, 2) := by decide +kernel
theorem dL_does_278 : decode cL_does 278 = .ok (.invokestatic 39, 3) := by decide +kernel
theorem dL_does_281 : decode cL_does 281 = .ok (.iadd, 1) := by decide +kernel
theorem dL_does_282 : decode cL_does 282 = .ok (.invokevirtual 69, 3) := by decide +kernel
theorem dL_does_285 : decode cL_does 285 = .ok (.ireturn, 1) := by decide +kernel
theorem dL_does_286 : decode cL_does 286 = .ok (.aload_n 0, 1) := by decide +kernel
theorem dL_does_287 : decode cL_does 287 = .ok (.invokevirtual 72, 3) := by decide +kernel
theorem dL_does_290 : decode cL_does 290 = .ok (.ireturn, 1) := by decide +kernel
theorem dL_law_0 : decode cL_law 0 = .ok (.new 13, 3) := by decide +kernel
theorem dL_law_3 : decode cL_law 3 = .ok (.dup, 1) := by decide +kernel
theorem dL_law_4 : decode cL_law 4 = .ok (.invokespecial 76, 3) := by decide +kernel
theorem dL_law_7 : decode cL_law 7 = .ok (.astore_n 1, 1) := by decide +kernel
theorem dL_law_8 : decode cL_law 8 = .ok (.iconst 0, 1) := by decide +kernel
theorem dL_law_9 : decode cL_law 9 = .ok (.istore_n 2, 1) := by decide +kernel
theorem dL_law_10 : decode cL_law 10 = .ok (.iconst 0, 1) := by decide +kernel
theorem dL_law_11 : decode cL_law 11 = .ok (.istore_n 3, 1) := by decide +kernel
theorem dL_law_12 : decode cL_law 12 = .ok (.iload_n 3, 1) := by decide +kernel
theorem dL_law_13 : decode cL_law 13 = .ok (.bipush 44, 2) := by decide +kernel
theorem dL_law_15 : decode cL_law 15 = .ok (.if_icmp .ge 301, 3) := by decide +kernel
theorem dL_law_18 : decode cL_law 18 = .ok (.aload_n 0, 1) := by decide +kernel
theorem dL_law_19 : decode cL_law 19 = .ok (.iload_n 3, 1) := by decide +kernel
theorem dL_law_20 : decode cL_law 20 = .ok (.invokestatic 77, 3) := by decide +kernel
theorem dL_law_23 : decode cL_law 23 = .ok (.istore 4, 2) := by decide +kernel
theorem dL_law_25 : decode cL_law 25 = .ok (.aload_n 1, 1) := by decide +kernel
theorem dL_law_26 : decode cL_law 26 = .ok (.invokestatic 81, 3) := by decide +kernel
theorem dL_law_29 : decode cL_law 29 = .ok (.lstore 5, 2) := by decide +kernel
theorem dL_law_31 : decode cL_law 31 = .ok (.aload_n 1, 1) := by decide +kernel
theorem dL_law_32 : decode cL_law 32 = .ok (.iload 4, 2) := by decide +kernel
theorem dL_law_34 : decode cL_law 34 = .ok (.invokestatic 85, 3) := by decide +kernel
theorem dL_law_37 : decode cL_law 37 = .ok (.istore 7, 2) := by decide +kernel
theorem dL_law_39 : decode cL_law 39 = .ok (.iload 7, 2) := by decide +kernel
theorem dL_law_41 : decode cL_law 41 = .ok (.ifCond .ge 15, 3) := by decide +kernel
theorem dL_law_44 : decode cL_law 44 = .ok (.aload_n 1, 1) := by decide +kernel
theorem dL_law_45 : decode cL_law 45 = .ok (.invokestatic 81, 3) := by decide +kernel
theorem dL_law_48 : decode cL_law 48 = .ok (.lload 5, 2) := by decide +kernel
theorem dL_law_50 : decode cL_law 50 = .ok (.lcmp, 1) := by decide +kernel
theorem dL_law_51 : decode cL_law 51 = .ok (.ifCond .eq 5, 3) := by decide +kernel
theorem dL_law_54 : decode cL_law 54 = .ok (.iconst 0, 1) := by decide +kernel
theorem dL_law_55 : decode cL_law 55 = .ok (.ireturn, 1) := by decide +kernel
theorem dL_law_56 : decode cL_law 56 = .ok (.iload 7, 2) := by decide +kernel
theorem dL_law_58 : decode cL_law 58 = .ok (.ifCond .ge 7, 3) := by decide +kernel
theorem dL_law_61 : decode cL_law 61 = .ok (.iload_n 2, 1) := by decide +kernel
theorem dL_law_62 : decode cL_law 62 = .ok (.goto 17, 3) := by decide +kernel
theorem dL_law_65 : decode cL_law 65 = .ok (.iload_n 2, 1) := by decide +kernel
theorem dL_law_66 : decode cL_law 66 = .ok (.bipush 6, 2) := by decide +kernel
theorem dL_law_68 : decode cL_law 68 = .ok (.if_icmp .ge 9, 3) := by decide +kernel
theorem dL_law_71 : decode cL_law 71 = .ok (.iload_n 2, 1) := by decide +kernel
theorem dL_law_72 : decode cL_law 72 = .ok (.iconst 1, 1) := by decide +kernel
theorem dL_law_73 : decode cL_law 73 = .ok (.iadd, 1) := by decide +kernel
theorem dL_law_74 : decode cL_law 74 = .ok (.goto 5, 3) := by decide +kernel
theorem dL_law_77 : decode cL_law 77 = .ok (.bipush 6, 2) := by decide +kernel
theorem dL_law_79 : decode cL_law 79 = .ok (.istore_n 2, 1) := by decide +kernel
theorem dL_law_80 : decode cL_law 80 = .ok (.iload 7, 2) := by decide +kernel
theorem dL_law_82 : decode cL_law 82 = .ok (.ifCond .lt 38, 3) := by decide +kernel
theorem dL_law_85 : decode cL_law 85 = .ok (.iload 4, 2) := by decide +kernel
theorem dL_law_87 : decode cL_law 87 = .ok (.bipush 26, 2) := by decide +kernel
theorem dL_law_89 : decode cL_law 89 = .ok (.ishr, 1) := by decide +kernel
theorem dL_law_90 : decode cL_law 90 = .ok (.iconst 3, 1) := by decide +kernel
theorem dL_law_91 : decode cL_law 91 = .ok (.iand, 1) := by decide +kernel
theorem dL_law_92 : decode cL_law 92 = .ok (.ifCond .ne 28, 3) := by decide +kernel
theorem dL_law_95 : decode cL_law 95 = .ok (.aload_n 1, 1) := by decide +kernel
theorem dL_law_96 : decode cL_law 96 = .ok (.invokevirtual 89, 3) := by decide +kernel
theorem dL_law_99 : decode cL_law 99 = .ok (.iload_n 2, 1) := by decide +kernel
theorem dL_law_100 : decode cL_law 100 = .ok (.iconst 1, 1) := by decide +kernel
theorem dL_law_101 : decode cL_law 101 = .ok (.isub, 1) := by decide +kernel
theorem dL_law_102 : decode cL_law 102 = .ok (.if_icmp .ne 13, 3) := by decide +kernel
theorem dL_law_105 : decode cL_law 105 = .ok (.aload_n 1, 1) := by decide +kernel
theorem dL_law_106 : decode cL_law 106 = .ok (.invokestatic 81, 3) := by decide +kernel
theorem dL_law_109 : decode cL_law 109 = .ok (.lload 5, 2) := by decide +kernel
theorem dL_law_111 : decode cL_law 111 = .ok (.lcmp, 1) := by decide +kernel
theorem dL_law_112 : decode cL_law 112 = .ok (.ifCond .eq 5, 3) := by decide +kernel
theorem dL_law_115 : decode cL_law 115 = .ok (.iconst 0, 1) := by decide +kernel
theorem dL_law_116 : decode cL_law 116 = .ok (.ireturn, 1) := by decide +kernel
theorem dL_law_117 : decode cL_law 117 = .ok (.iinc 2 (-1), 3) := by decide +kernel
theorem dL_law_120 : decode cL_law 120 = .ok (.aload_n 1, 1) := by decide +kernel
theorem dL_law_121 : decode cL_law 121 = .ok (.bipush 9, 2) := by decide +kernel
theorem dL_law_123 : decode cL_law 123 = .ok (.invokevirtual 12, 3) := by decide +kernel
theorem dL_law_126 : decode cL_law 126 = .ok (.iload_n 2, 1) := by decide +kernel
theorem dL_law_127 : decode cL_law 127 = .ok (.if_icmp .ne 18, 3) := by decide +kernel
theorem dL_law_130 : decode cL_law 130 = .ok (.aload_n 1, 1) := by decide +kernel
theorem dL_law_131 : decode cL_law 131 = .ok (.iconst 2, 1) := by decide +kernel
theorem dL_law_132 : decode cL_law 132 = .ok (.invokevirtual 12, 3) := by decide +kernel
theorem dL_law_135 : decode cL_law 135 = .ok (.iconst 2, 1) := by decide +kernel
theorem dL_law_136 : decode cL_law 136 = .ok (.aload_n 1, 1) := by decide +kernel
theorem dL_law_137 : decode cL_law 137 = .ok (.iconst 0, 1) := by decide +kernel
theorem dL_law_138 : decode cL_law 138 = .ok (.invokevirtual 12, 3) := by decide +kernel
theorem dL_law_141 : decode cL_law 141 = .ok (.imul, 1) := by decide +kernel
theorem dL_law_142 : decode cL_law 142 = .ok (.if_icmp .le 5, 3) := by decide +kernel
theorem dL_law_145 : decode cL_law 145 = .ok (.iconst 0, 1) := by decide +kernel
theorem dL_law_146 : decode cL_law 146 = .ok (.ireturn, 1) := by decide +kernel
theorem dL_law_147 : decode cL_law 147 = .ok (.iconst 0, 1) := by decide +kernel
theorem dL_law_148 : decode cL_law 148 = .ok (.istore 8, 2) := by decide +kernel
theorem dL_law_150 : decode cL_law 150 = .ok (.iload 8, 2) := by decide +kernel
theorem dL_law_152 : decode cL_law 152 = .ok (.aload_n 1, 1) := by decide +kernel
theorem dL_law_153 : decode cL_law 153 = .ok (.iconst 0, 1) := by decide +kernel
theorem dL_law_154 : decode cL_law 154 = .ok (.invokevirtual 12, 3) := by decide +kernel
theorem dL_law_157 : decode cL_law 157 = .ok (.if_icmp .ge 32, 3) := by decide +kernel
theorem dL_law_160 : decode cL_law 160 = .ok (.aload_n 1, 1) := by decide +kernel
theorem dL_law_161 : decode cL_law 161 = .ok (.iconst 4, 1) := by decide +kernel
theorem dL_law_162 : decode cL_law 162 = .ok (.invokevirtual 12, 3) := by decide +kernel
theorem dL_law_165 : decode cL_law 165 = .ok (.iload 8, 2) := by decide +kernel
theorem dL_law_167 : decode cL_law 167 = .ok (.ishr, 1) := by decide +kernel
theorem dL_law_168 : decode cL_law 168 = .ok (.iconst 1, 1) := by decide +kernel
theorem dL_law_169 : decode cL_law 169 = .ok (.iand, 1) := by decide +kernel
theorem dL_law_170 : decode cL_law 170 = .ok (.aload_n 1, 1) := by decide +kernel
theorem dL_law_171 : decode cL_law 171 = .ok (.iload 8, 2) := by decide +kernel
theorem dL_law_173 : decode cL_law 173 = .ok (.bipush 7, 2) := by decide +kernel
theorem dL_law_175 : decode cL_law 175 = .ok (.invokevirtual 20, 3) := by decide +kernel
theorem dL_law_178 : decode cL_law 178 = .ok (.if_icmp .eq 5, 3) := by decide +kernel
theorem dL_law_181 : decode cL_law 181 = .ok (.iconst 0, 1) := by decide +kernel
theorem dL_law_182 : decode cL_law 182 = .ok (.ireturn, 1) := by decide +kernel
theorem dL_law_183 : decode cL_law 183 = .ok (.iinc 8 1, 3) := by decide +kernel
theorem dL_law_186 : decode cL_law 186 = .ok (.goto (-36), 3) := by decide +kernel
theorem dL_law_189 : decode cL_law 189 = .ok (.aload_n 1, 1) := by decide +kernel
theorem dL_law_190 : decode cL_law 190 = .ok (.iconst 1, 1) := by decide +kernel
theorem dL_law_191 : decode cL_law 191 = .ok (.invokevirtual 12, 3) := by decide +kernel
theorem dL_law_194 : decode cL_law 194 = .ok (.istore 8, 2) := by decide +kernel
theorem dL_law_196 : decode cL_law 196 = .ok (.iconst 0, 1) := by decide +kernel
theorem dL_law_197 : decode cL_law 197 = .ok (.istore 9, 2) := by decide +kernel
theorem dL_law_199 : decode cL_law 199 = .ok (.iload 9, 2) := by decide +kernel
theorem dL_law_201 : decode cL_law 201 = .ok (.aload_n 1, 1) := by decide +kernel
theorem dL_law_202 : decode cL_law 202 = .ok (.iconst 2, 1) := by decide +kernel
theorem dL_law_203 : decode cL_law 203 = .ok (.invokevirtual 12, 3) := by decide +kernel
theorem dL_law_206 : decode cL_law 206 = .ok (.if_icmp .ge 32, 3) := by decide +kernel
theorem dL_law_209 : decode cL_law 209 = .ok (.aload_n 1, 1) := by decide +kernel
theorem dL_law_210 : decode cL_law 210 = .ok (.iload 9, 2) := by decide +kernel
theorem dL_law_212 : decode cL_law 212 = .ok (.iconst 0, 1) := by decide +kernel
theorem dL_law_213 : decode cL_law 213 = .ok (.invokevirtual 32, 3) := by decide +kernel
theorem dL_law_216 : decode cL_law 216 = .ok (.iload 8, 2) := by decide +kernel
theorem dL_law_218 : decode cL_law 218 = .ok (.if_icmp .ge 5, 3) := by decide +kernel
theorem dL_law_221 : decode cL_law 221 = .ok (.iconst 0, 1) := by decide +kernel
theorem dL_law_222 : decode cL_law 222 = .ok (.ireturn, 1) := by decide +kernel
theorem dL_law_223 : decode cL_law 223 = .ok (.aload_n 1, 1) := by decide +kernel
theorem dL_law_224 : decode cL_law 224 = .ok (.iload 9, 2) := by decide +kernel
theorem dL_law_226 : decode cL_law 226 = .ok (.iconst 0, 1) := by decide +kernel
theorem dL_law_227 : decode cL_law 227 = .ok (.invokevirtual 32, 3) := by decide +kernel
theorem dL_law_230 : decode cL_law 230 = .ok (.istore 8, 2) := by decide +kernel
theorem dL_law_232 : decode cL_law 232 = .ok (.iinc 9 1, 3) := by decide +kernel
theorem dL_law_235 : decode cL_law 235 = .ok (.goto (-36), 3) := by decide +kernel
theorem dL_law_238 : decode cL_law 238 = .ok (.aload_n 1, 1) := by decide +kernel
theorem dL_law_239 : decode cL_law 239 = .ok (.aload_n 1, 1) := by decide +kernel
theorem dL_law_240 : decode cL_law 240 = .ok (.iconst 2, 1) := by decide +kernel
theorem dL_law_241 : decode cL_law 241 = .ok (.invokevirtual 12, 3) := by decide +kernel
theorem dL_law_244 : decode cL_law 244 = .ok (.iconst 0, 1) := by decide +kernel
theorem dL_law_245 : decode cL_law 245 = .ok (.invokevirtual 32, 3) := by decide +kernel
theorem dL_law_248 : decode cL_law 248 = .ok (.bipush (-9), 2) := by decide +kernel
theorem dL_law_250 : decode cL_law 250 = .ok (.if_icmp .ne 30, 3) := by decide +kernel
theorem dL_law_253 : decode cL_law 253 = .ok (.aload_n 1, 1) := by decide +kernel
theorem dL_law_254 : decode cL_law 254 = .ok (.invokevirtual 92, 3) := by decide +kernel
theorem dL_law_257 : decode cL_law 257 = .ok (.iconst 1, 1) := by decide +kernel
theorem dL_law_258 : decode cL_law 258 = .ok (.if_icmp .ne 24, 3) := by decide +kernel
theorem dL_law_261 : decode cL_law 261 = .ok (.aload_n 1, 1) := by decide +kernel
theorem dL_law_262 : decode cL_law 262 = .ok (.iconst 0, 1) := by decide +kernel
theorem dL_law_263 : decode cL_law 263 = .ok (.sipush 200, 3) := by decide +kernel
theorem dL_law_266 : decode cL_law 266 = .ok (.invokevirtual 95, 3) := by decide +kernel
theorem dL_law_269 : decode cL_law 269 = .ok (.aload_n 1, 1) := by decide +kernel
theorem dL_law_270 : decode cL_law 270 = .ok (.iconst 1, 1) := by decide +kernel
theorem dL_law_271 : decode cL_law 271 = .ok (.sipush 200, 3) := by decide +kernel
theorem dL_law_274 : decode cL_law 274 = .ok (.invokevirtual 95, 3) := by decide +kernel
theorem dL_law_277 : decode cL_law 277 = .ok (.if_icmp .ne 5, 3) := by decide +kernel
theorem dL_law_280 : decode cL_law 280 = .ok (.iconst 0, 1) := by decide +kernel
theorem dL_law_281 : decode cL_law 281 = .ok (.ireturn, 1) := by decide +kernel
theorem dL_law_282 : decode cL_law 282 = .ok (.aload_n 1, 1) := by decide +kernel
theorem dL_law_283 : decode cL_law 283 = .ok (.iconst 2, 1) := by decide +kernel
theorem dL_law_284 : decode cL_law 284 = .ok (.invokevirtual 12, 3) := by decide +kernel
theorem dL_law_287 : decode cL_law 287 = .ok (.ifCond .ne 23, 3) := by decide +kernel
theorem dL_law_290 : decode cL_law 290 = .ok (.aload_n 1, 1) := by decide +kernel
theorem dL_law_291 : decode cL_law 291 = .ok (.iconst 1, 1) := by decide +kernel
theorem dL_law_292 : decode cL_law 292 = .ok (.iconst 5, 1) := by decide +kernel
theorem dL_law_293 : decode cL_law 293 = .ok (.invokevirtual 95, 3) := by decide +kernel
theorem dL_law_296 : decode cL_law 296 = .ok (.sipush 256, 3) := by decide +kernel
theorem dL_law_299 : decode cL_law 299 = .ok (.aload_n 1, 1) := by decide +kernel
theorem dL_law_300 : decode cL_law 300 = .ok (.iconst 5, 1) := by decide +kernel
theorem dL_law_301 : decode cL_law 301 = .ok (.invokevirtual 12, 3) := by decide +kernel
theorem dL_law_304 : decode cL_law 304 = .ok (.iadd, 1) := by decide +kernel
theorem dL_law_305 : decode cL_law 305 = .ok (.if_icmp .eq 5, 3) := by decide +kernel
theorem dL_law_308 : decode cL_law 308 = .ok (.iconst 0, 1) := by decide +kernel
theorem dL_law_309 : decode cL_law 309 = .ok (.ireturn, 1) := by decide +kernel
theorem dL_law_310 : decode cL_law 310 = .ok (.iinc 3 1, 3) := by decide +kernel
theorem dL_law_313 : decode cL_law 313 = .ok (.goto (-301), 3) := by decide +kernel
theorem dL_law_316 : decode cL_law 316 = .ok (.aload_n 1, 1) := by decide +kernel
theorem dL_law_317 : decode cL_law 317 = .ok (.invokevirtual 89, 3) := by decide +kernel
theorem dL_law_320 : decode cL_law 320 = .ok (.iload_n 2, 1) := by decide +kernel
theorem dL_law_321 : decode cL_law 321 = .ok (.ifCond .ne 8, 3) := by decide +kernel
theorem dL_law_324 : decode cL_law 324 = .ok (.bipush (-2), 2) := by decide +kernel
theorem dL_law_326 : decode cL_law 326 = .ok (.goto 6, 3) := by decide +kernel
theorem dL_law_329 : decode cL_law 329 = .ok (.iload_n 2, 1) := by decide +kernel
theorem dL_law_330 : decode cL_law 330 = .ok (.iconst 1, 1) := by decide +kernel
theorem dL_law_331 : decode cL_law 331 = .ok (.isub, 1) := by decide +kernel
theorem dL_law_332 : decode cL_law 332 = .ok (.if_icmp .ne 7, 3) := by decide +kernel
theorem dL_law_335 : decode cL_law 335 = .ok (.iconst 1, 1) := by decide +kernel
theorem dL_law_336 : decode cL_law 336 = .ok (.goto 4, 3) := by decide +kernel
theorem dL_law_339 : decode cL_law 339 = .ok (.iconst 0, 1) := by decide +kernel
theorem dL_law_340 : decode cL_law 340 = .ok (.ireturn, 1) := by decide +kernel
end
section
/-! An abstract machine: values and cells without addresses, a world of n cells as a function. A walk of one method is a predicate Γ of the place, the locals, the stack, the room used, and the world: 'from here the method ends as it must'. Each row below turns Γ at an instruction into Γ at the next one. -/
abbrev AV : Type := Option ((Int32 ⊕ Int64) ⊕ Option Nat)
abbrev aI (x : Int32) : AV := some (.inl (.inl x))
/-- a long: one value on the stack; in the locals its second place holds nothing that is known -/
abbrev aL (x : Int64) : AV := some (.inl (.inr x))
abbrev aR (k : Nat) : AV := some (.inr (some k))
abbrev aN : AV := some (.inr none)
def rv (ad : Nat → Nat) : AV → Value
  | some (.inl (.inl x)) => .int x
  | some (.inl (.inr x)) => .long x
  | some (.inr (some k)) => .ref (ad k)
  | some (.inr none) => .null
  | none => .null
abbrev AC : Type := (Nat × Nat × (Nat → Int32)) ⊕ ((Nat × (Nat → Option Nat)) ⊕ (Nat × List AV))
abbrev cArr (t n : Nat) (f : Nat → Int32) : AC := .inl (t, n, f)
abbrev cRef (n : Nat) (f : Nat → Option Nat) : AC := .inr (.inl (n, f))
abbrev cObj (ci : Nat) (fs : List AV) : AC := .inr (.inr (ci, fs))
def rc (cT : Nat → ClassId) (ad : Nat → Nat) : AC → va_E
  | .inl (t, n, f) => .inl (cT t, n, .inl f)
  | .inr (.inl (n, f)) => .inl (cT 3, n, .inr (.inr (.inr (.inr (fun j => (f j).map ad)))))
  | .inr (.inr (ci, fs)) => .inr (ci, fs.map (rv ad))
/-- no long -/
def nl : AV → Bool
  | some (.inl (.inr _)) => false
  | _ => true
theorem rv_cat (ad : Nat → Nat) (v : AV) (h : nl v = true) : (rv ad v).category = 1 := by
  rcases v with _ | (x | x) | _ | k
  · rfl
  · rfl
  · cases h
  · rfl
  · rfl
theorem rv_cat2 (ad : Nat → Nat) (v : AV) : (rv ad v).category ≤ 2 := by
  rcases v with _ | (x | x) | _ | k <;> exact Nat.le_of_ble_eq_true rfl
theorem rv_sum (ad : Nat → Nat) : ∀ st : List AV, ((st.map (rv ad)).map fun v => v.category).sum ≤ 2 * st.length
  | [] => by simp
  | v :: st => by
    have h := rv_sum ad st
    have h2 := rv_cat2 ad v
    simp only [List.map_cons, List.sum_cons, List.length_cons] at h ⊢
    omega
def tysG (cT : Nat → ClassId) : List (ClassId × FieldType) := [(cT 0, .int), (cT 2, .char), (cT 2, .char), (cT 3, .object "RelayBank$Bank")]
def wsW (cT : Nat → ClassId) (ad : Nat → Nat) (n : Nat) (w : Nat → AC) : va_W := (List.range n).map fun k => (ad k, rc cT ad (w k))
def upw (w : Nat → AC) (k : Nat) (c : AC) : Nat → AC := fun j => if j = k then c else w j
theorem upw_self (w : Nat → AC) (k : Nat) (c : AC) : upw w k c k = c := by simp [upw]
theorem upw_ne (w : Nat → AC) (k : Nat) (c : AC) {j : Nat} (h : j ≠ k) : upw w k c j = w j := by simp [upw, h]
theorem wsW_get {cT : Nat → ClassId} {ad : Nat → Nat} {n k : Nat} {w : Nat → AC} (h : k < n) : (wsW cT ad n w)[k]? = some (ad k, rc cT ad (w k)) := by
  simp [wsW, h]
theorem wsW_set {cT : Nat → ClassId} {ad : Nat → Nat} {n k : Nat} {w : Nat → AC} (c : AC) (h : k < n) : (wsW cT ad n w).set k (ad k, rc cT ad c) = wsW cT ad n (upw w k c) := by
  apply List.ext_getElem?
  intro i
  rw [List.getElem?_set]
  by_cases hi : k = i
  · subst hi
    simp [wsW, upw, h]
  · by_cases hn : i < n
    · rw [if_neg hi, wsW_get hn, wsW_get hn, upw_ne _ _ _ (Ne.symm hi)]
    · simp [wsW, hi, hn]
theorem wsW_push {cT : Nat → ClassId} {ad ad' : Nat → Nat} {n q : Nat} {w : Nat → AC} (c : AC) (hq : ad' n = q) (ho : ∀ j, j < n → ad' j = ad j) (hc : ∀ k, k < n → rc cT ad' (w k) = rc cT ad (w k)) : wsW cT ad n w ++ [(q, rc cT ad' c)] = wsW cT ad' (n + 1) (upw w n c) := by
  apply List.ext_getElem?
  intro i
  have hl : (wsW cT ad n w).length = n := by simp [wsW]
  by_cases hn : i < n
  · rw [List.getElem?_append_left (by rw [hl]; exact hn), wsW_get hn, wsW_get (by omega), upw_ne _ _ _ (by omega), ho i hn, hc i hn]
  · rw [List.getElem?_append_right (by rw [hl]; omega), hl]
    by_cases he : i = n
    · subst he
      rw [wsW_get (by omega), upw_self, hq, Nat.sub_self]
      rfl
    · rw [List.getElem?_eq_none (by simp; omega), List.getElem?_eq_none (by simp [wsW]; omega)]
/-- the words that a method's own class may use of a nest mate's private members -/
def nestG : List (String × Nat × MethodName) := [(RX0, 65, yX5_isWithin), (RX0, 73, yX5_at), (RX0, 77, yX5_put), (RX0, 106, yX5_isIn), (RX5, 25, yX4_init), (RX5, 32, yX2_init)]
def nestF : List (String × Nat × String × String × String) := [(RX5, 173, RX0, "pickUps", "[I"), (RX5, 180, RX0, "releases", "[I"), (RX5, 183, RX0, "bounces", "[I"), (RX5, 206, RX0, "dues", "[I"), (RX5, 47, RX0, "relays", "I"), (RX5, 149, RX0, "time", "I"), (RX5, 107, RX0, "keys", "I"), (RX5, 160, RX0, "fed", "I"), (RX5, 163, RX0, "attracted", "I"), (RX5, 169, RX0, "bouncing", "I"), (RX5, 124, RX0, "stuck", "I"), (RX5, 172, RX3, "size", "I"), (RX5, 82, RX4, "length", "I")]
def KK (D : va_G) (cT : Nat → ClassId) (U : State) : Prop := va_K D vwCl (tysG cT) U ∧ va_AO "RelayBank$Bank" U ∧ (∀ q ∈ nestG, va_Nw (.methodLinkNest q.1 q.2.1 q.2.2 "RelayBank") U) ∧ ∀ q ∈ nestF, va_Nw (.fieldLinkNest q.1 q.2.1 q.2.2.1 q.2.2.2.1 q.2.2.2.2 "RelayBank") U
theorem KK.warm {D : va_G} {cT : Nat → ClassId} {s U : State} (hW : s.WarmedH U.vm) (h : KK D cT s) : KK D cT U := ⟨va_K.moved hW.alike h.1, va_AO.moved hW.alike h.2.1, fun q hq => va_Nw.warmM hW (h.2.2.1 q hq), fun q hq => va_Nw.warmF hW (h.2.2.2 q hq)⟩
theorem KK.same {D : va_G} {cT : Nat → ClassId} {u U : State} (e : u.vm = U.vm) (h : KK D cT u) : KK D cT U := by
  have ha : u.vm.Alike U.vm := by rw [e]; exact Vm.Alike.refl U.vm
  exact ⟨va_K.moved ha h.1, va_AO.moved ha h.2.1, fun q hq => va_Nw.same rfl e (h.2.2.1 q hq), fun q hq => va_Nw.same rfl e (h.2.2.2 q hq)⟩
/-- addresses: more cells may have come, the old ones stay -/
def Ex (n0 : Nat) (ad0 : Nat → Nat) (n : Nat) (ad : Nat → Nat) : Prop := (n = n0 → ad = ad0) ∧ n0 ≤ n ∧ ∀ j, j < n0 → ad j = ad0 j
theorem Ex.rf {n : Nat} {ad : Nat → Nat} : Ex n ad n ad := ⟨fun _ => rfl, Nat.le_refl _, fun _ _ => rfl⟩
theorem Ex.tr {n0 n1 n2 : Nat} {a0 a1 a2 : Nat → Nat} (h : Ex n0 a0 n1 a1) (g : Ex n1 a1 n2 a2) : Ex n0 a0 n2 a2 := by
  obtain ⟨h1, h2, h3⟩ := h
  obtain ⟨g1, g2, g3⟩ := g
  refine ⟨fun e => ?_, by omega, fun j hj => (g3 j (by omega)).trans (h3 j hj)⟩
  rw [g1 (by omega), h1 (by omega)]
def Rp (D : va_G) (cT : Nat → ClassId) (A : Nat → Prop) (s : State) (ad : Nat → Nat) (n : Nat) (w : Nat → AC) (H : Heap) (locs : List Loc) : Prop := va_P D vwCl (wsW cT ad n w) H ∧ va_D A (wsW cT ad n w) ∧ va_S A s.heap H locs
def lg (L : List AV) (i : Nat) : AV := L.getD i none
def Lc (ad : Nat → Nat) (mL : Nat) (L : List AV) (ls : Array Slot) : Prop := ls.size = mL ∧ lv_wf ls ∧ ∀ i x, lg L i = some x → ls[i]? = some (.val (rv ad (some x)))
def lprs (ad : Nat → Nat) (L : List AV) : List (Nat × Value) := (List.range L.length).filterMap fun i => (lg L i).map fun x => (i, rv ad (some x))
theorem lg_lt {L : List AV} {i : Nat} {x : (Int32 ⊕ Int64) ⊕ Option Nat} (h : lg L i = some x) : i < L.length := by
  rcases Nat.lt_or_ge i L.length with q | q
  · exact q
  · unfold lg at h
    rw [List.getD_eq_getElem?_getD, List.getElem?_eq_none q] at h
    cases h
theorem lprs_mem {ad : Nat → Nat} {L : List AV} {q : Nat × Value} : q ∈ lprs ad L ↔ ∃ x, lg L q.1 = some x ∧ q.2 = rv ad (some x) := by
  unfold lprs
  rw [List.mem_filterMap]
  constructor
  · rintro ⟨i, -, h⟩
    cases hx : lg L i with
    | none => rw [hx] at h; cases h
    | some x => rw [hx] at h; cases h; exact ⟨x, hx, rfl⟩
  · rintro ⟨x, h1, h2⟩
    refine ⟨q.1, List.mem_range.mpr (lg_lt h1), ?_⟩
    rw [h1]
    show some (q.1, rv ad (some x)) = some q
    rw [← h2]
theorem Lc.has {ad : Nat → Nat} {mL : Nat} {L : List AV} {ls : Array Slot} (h : Lc ad mL L ls) : lv_has ls mL (lprs ad L) := by
  refine ⟨h.1, h.2.1, fun q hq => ?_⟩
  obtain ⟨x, h1, h2⟩ := lprs_mem.mp hq
  rw [h.2.2 q.1 x h1, h2]
theorem lg_set (L : List AV) (k i : Nat) (v : AV) : lg (L.set k v) i = if i = k ∧ k < L.length then v else lg L i := by
  unfold lg
  rw [List.getD_eq_getElem?_getD, List.getElem?_set, List.getD_eq_getElem?_getD]
  by_cases h : k = i
  · subst h
    by_cases hl : k < L.length
    · simp [hl]
    · simp [hl]
  · rw [if_neg h, if_neg (fun q => h q.1.symm)]
/-- a place k of the locals that may be written: no long begins just before it -/
def lsf (L : List AV) : Nat → Bool
  | 0 => true
  | k + 1 => nl (lg L k)
theorem lsf_at {L : List AV} {k i : Nat} (h : lsf L k = true) (e : i + 1 = k) : nl (lg L i) = true := by
  subst e
  exact h
theorem Lc.set {ad : Nat → Nat} {mL : Nat} {L : List AV} {ls' : Array Slot} {k : Nat} {v : AV} (hs : lsf L k = true) (h' : lv_has ls' mL ((k, rv ad v) :: (lprs ad L).filter (fun q => !(q.1 == k) && !(q.1 + 1 == k && q.2.category == 2)))) : Lc ad mL (L.set k v) ls' := by
  refine ⟨h'.1, h'.2.1, fun i x hx => ?_⟩
  rw [lg_set] at hx
  by_cases hi : i = k ∧ k < L.length
  · rw [if_pos hi] at hx
    obtain ⟨rfl, -⟩ := hi
    have h2 := h'.2.2 (i, rv ad v) List.mem_cons_self
    rw [← hx]
    exact h2
  · rw [if_neg hi] at hx
    have hk : ¬ i = k := fun e => hi ⟨e, by have := lg_lt hx; omega⟩
    refine h'.2.2 (i, rv ad (some x)) (List.mem_cons_of_mem _ (List.mem_filter.mpr ⟨lprs_mem.mpr ⟨x, hx, rfl⟩, ?_⟩))
    by_cases e : i + 1 = k
    · have h3 := lsf_at hs e
      rw [hx] at h3
      simp [hk, rv_cat ad _ h3]
    · simp [hk, e]
theorem lg_set_ne (L : List AV) {k i : Nat} (v : AV) (h : i ≠ k) : lg (L.set k v) i = lg L i := by
  rw [lg_set, if_neg (fun q => h q.1)]
theorem Lc.setL {ad : Nat → Nat} {mL : Nat} {L : List AV} {ls' : Array Slot} {k : Nat} {v : Int64} (hs : lsf L k = true) (hk2 : k + 1 < L.length) (h' : lv_has ls' mL ((k, Value.long v) :: (lprs ad L).filter (fun q => !(q.1 == k) && (!(q.1 == k + 1) && !(q.1 + 1 == k && q.2.category == 2))))) : Lc ad mL ((L.set k (aL v)).set (k + 1) none) ls' := by
  refine ⟨h'.1, h'.2.1, fun i x hx => ?_⟩
  by_cases e1 : i = k + 1
  · subst e1
    rw [lg_set, if_pos ⟨rfl, by rw [List.length_set]; exact hk2⟩] at hx
    cases hx
  · rw [lg_set_ne _ _ e1] at hx
    by_cases e0 : i = k
    · subst e0
      rw [lg_set, if_pos ⟨rfl, by omega⟩] at hx
      have h2 := h'.2.2 (i, Value.long v) List.mem_cons_self
      rw [← hx]
      exact h2
    · rw [lg_set_ne _ _ e0] at hx
      refine h'.2.2 (i, rv ad (some x)) (List.mem_cons_of_mem _ (List.mem_filter.mpr ⟨lprs_mem.mpr ⟨x, hx, rfl⟩, ?_⟩))
      by_cases e : i + 1 = k
      · have h3 := lsf_at hs e
        rw [hx] at h3
        simp [e0, e1, rv_cat ad _ h3]
      · simp [e0, e1, e]
theorem all_cons {v : AV} {as : List AV} (h : (v :: as).all nl = true) : nl v = true ∧ as.all nl = true := by
  simpa using h
theorem lg_sl_len (ad : Nat → Nat) : ∀ as : List AV, as.all nl = true → (lg_sl (as.map (rv ad))).length = as.length
  | [], _ => rfl
  | v :: as, hn => by
    obtain ⟨hv, ha⟩ := all_cons hn
    have h := lg_sl_len ad as ha
    unfold lg_sl at h ⊢
    simp only [List.map_cons, List.flatMap_cons, List.length_append, h, rv_cat ad v hv]
    simp
    omega
theorem lv_args_mem (ad : Nat → Nat) : ∀ (as : List AV) (j i : Nat) (x : (Int32 ⊕ Int64) ⊕ Option Nat), as.all nl = true → lg as i = some x → (j + i, rv ad (some x)) ∈ lv_args j (as.map (rv ad))
  | [], j, i, x, _, h => absurd (lg_lt h) (by simp)
  | v :: as, j, 0, x, _, h => by
    have e : v = some x := h
    subst e
    exact List.mem_cons_self
  | v :: as, j, i + 1, x, hn, h => by
    obtain ⟨hv, ha⟩ := all_cons hn
    have h2 : lg as i = some x := by
      unfold lg at h ⊢
      rw [List.getD_eq_getElem?_getD] at h ⊢
      simpa using h
    have h3 := lv_args_mem ad as (j + 1) i x ha h2
    show _ ∈ (j, rv ad v) :: lv_args (if (rv ad v).category = 2 then j + 2 else j + 1) (as.map (rv ad))
    rw [if_neg (by rw [rv_cat ad v hv]; decide), show j + (i + 1) = j + 1 + i by omega]
    exact List.mem_cons_of_mem _ h3
theorem lg_app (as : List AV) (k i : Nat) (x : (Int32 ⊕ Int64) ⊕ Option Nat) (h : lg (as ++ List.replicate k none) i = some x) : lg as i = some x := by
  unfold lg at h ⊢
  rw [List.getD_eq_getElem?_getD] at h ⊢
  by_cases hl : i < as.length
  · rw [List.getElem?_append_left hl] at h
    exact h
  · rw [List.getElem?_append_right (by omega), List.getElem?_replicate] at h
    split at h <;> simp at h
theorem Lc.entry (ad : Nat → Nat) {mL : Nat} (as : List AV) (h : as.length ≤ mL) (hn : as.all nl = true) : Lc ad mL (as ++ List.replicate (mL - as.length) none) ((lg_sl (as.map (rv ad)) ++ List.replicate (mL - (lg_sl (as.map (rv ad))).length) Slot.unset).toArray) := by
  have h1 := lv_entry (as.map (rv ad)) (n := mL) (by rw [lg_sl_len _ _ hn]; exact h)
  refine ⟨h1.1, h1.2.1, fun i x hx => ?_⟩
  have h2 := lv_args_mem ad as 0 i x hn (lg_app as _ i x hx)
  rw [Nat.zero_add] at h2
  exact h1.2.2 _ h2
abbrev Gm : Type := Nat → List AV → List AV → Nat × Nat → Nat → (Nat → AC) → Prop
def rmd (d mc ms : Nat) : Room := { frames := d, cells := mc, slots := ms, locals := 37 * d }
/-- what a walk stands on: its method, its code, the machine, the tables' words, the room -/
def Ok (Γ : Gm) (l : Launch) (y : MethodName) (cc : ByteArray) (mL d mc ms : Nat) : Prop :=
  ∃ (p : Program) (e : Env) (s : State) (m : MethodId) (args : Array Value) (below : List Frame) (meth : Method) (c : Code) (D : va_G) (cT : Nat → ClassId) (A : Nat → Prop) (Q : State → Prop) (n0 : Nat) (ad0 : Nat → Nat) (R : Room),
    Γ = (fun pc L st cs n w => ∀ (ad : Nat → Nat) (H : Heap) (locs : List Loc) (ls : Array Slot), Ex n0 ad0 n ad → Rp D cT A s ad n w H locs → Lc ad mL L ls → W p l e R s m args below meth c H locs cs.1 cs.2 Q (F0 m pc ls (st.map (rv ad)))) ∧
    p.tables.exec = Jvm.exec ∧ c.code = cc ∧ c.maxLocals = mL ∧ s.vm.findClass y.cls = some m.cls ∧ meth.name = y.name ∧ (∀ w ∈ wsL_law, w.before args s = true) ∧ KK D cT s ∧ (∀ q : Nat, s.heap.size ≤ q → A q) ∧
    d ≤ R.frames ∧ 37 * d ≤ R.locals ∧ R.cells = mc ∧ R.slots = ms
def PcW (D : va_G) (cT : Nat → ClassId) (ad : Nat → Nat) (sz : Nat) (as : List AV) (n : Nat) (w : Nat → AC) : Array Value → State → Prop := va_Pc (as.map (rv ad)) (fun U => U.heap.size = sz ∧ va_P D vwCl (wsW cT ad n w) U.heap ∧ KK D cT U ∧ va_D (fun _ => True) (wsW cT ad n w))
def QcW (D : va_G) (cT : Nat → ClassId) (ad : Nat → Nat) (sz : Nat) (n : Nat) (w : Nat → AC) (Qa : Option AV → Nat → (Nat → AC) → Prop) : Array Value → State → Outcome → State → Prop := fun _ st oc t =>
  (∃ (r : Option AV) (ad' : Nat → Nat) (n' : Nat) (w' : Nat → AC), oc = .returned (r.map (rv ad')) ∧ Qa r n' w' ∧ Ex n ad n' ad' ∧ va_P D vwCl (wsW cT ad' n' w') t.heap ∧ va_D (va_A (wsW cT ad n w) sz) (wsW cT ad' n' w')) ∧ va_F (va_A (wsW cT ad n w) sz) st t
/-- a method's contract: from these arguments and this world it returns, and Qa holds of its answer and the world -/
def Sp (l : Launch) (y : MethodName) (cc : ByteArray) (mL : Nat) (ret : Option FieldType) (d mc ms : Nat) (as : List AV) (n : Nat) (w : Nat → AC) (Qa : Option AV → Nat → (Nat → AC) → Prop) : Prop :=
  ∀ (D : va_G) (cT : Nat → ClassId) (ad : Nat → Nat) (sz : Nat), Met l y (Cond.code y cc mL ret :: wsL_law) (rmd d mc ms) (PcW D cT ad sz as n w) (QcW D cT ad sz n w Qa) mc ms (va_A (wsW cT ad n w) sz)
/-- how a walk may end -/
def Rt (Γ : Gm) (cc : ByteArray) (ret : Option FieldType) (mc ms : Nat) (Qa : Option AV → Nat → (Nat → AC) → Prop) : Prop :=
  (∀ (pc : Nat) (L : List AV) (x : Int32) (cs : Nat × Nat) (n : Nat) (w : Nat → AC), decode cc pc = .ok (.ireturn, 1) → (∃ ty, ret = some ty ∧ narrow ty (.int x) = .int x) → cs.1 ≤ mc → cs.2 ≤ ms → Qa (some (aI x)) n w → Γ pc L [aI x] cs n w) ∧
  (∀ (pc : Nat) (L : List AV) (cs : Nat × Nat) (n : Nat) (w : Nat → AC), decode cc pc = .ok (.return_, 1) → ret = none → cs.1 ≤ mc → cs.2 ≤ ms → Qa none n w → Γ pc L [] cs n w) ∧
  (∀ (pc : Nat) (L : List AV) (v : Option Nat) (cs : Nat × Nat) (n : Nat) (w : Nat → AC), decode cc pc = .ok (.areturn, 1) → (∃ C, ret = some (.object C)) → cs.1 ≤ mc → cs.2 ≤ ms → Qa (some (some (.inr v))) n w → Γ pc L [some (.inr v)] cs n w) ∧
  (∀ (pc : Nat) (L : List AV) (x : Int64) (cs : Nat × Nat) (n : Nat) (w : Nat → AC), decode cc pc = .ok (.lreturn, 1) → ret = some .long → cs.1 ≤ mc → cs.2 ≤ ms → Qa (some (aL x)) n w → Γ pc L [aL x] cs n w)
theorem Sp.of {l : Launch} {y : MethodName} {cc : ByteArray} {mL : Nat} {ret : Option FieldType} {d mc ms : Nat} {as : List AV} {n : Nat} {w : Nat → AC} {Qa : Option AV → Nat → (Nat → AC) → Prop} (hy : plainFor y = true) (hlen : as.length ≤ mL)
    (body : ∀ Γ : Gm, Ok Γ l y cc mL d mc ms → Rt Γ cc ret mc ms Qa → Γ 0 (as ++ List.replicate (mL - as.length) none) [] (0, 0) n w) (hnl : as.all nl = true := by rfl) : Sp l y cc mL ret d mc ms as n w Qa := by
  intro D cT ad sz
  refine va_MetF (cc := cc) (maxL := mL) (ret := ret) hy rfl ?_
  intro p e s m args below meth c s₁ B hml hv
  obtain ⟨rfl, hsz, hP, hK, hD0⟩ := hv
  have hx := B.exec
  have hb := B.bytes
  have hr := B.returns
  have hts := atoms_spec (ws := Cond.code y cc mL ret :: wsL_law) B.pre
  have hown : s.vm.findClass y.cls = some m.cls := findClass_of_methodNamed B.named
  have hlocks := B.notSynchronized
  have hin : meth.name = y.name := (name_of_methodNamed B.named B.method).1
  subst hsz
  have hD := hD0.self (sz := s.heap.size)
  have hts' : ∀ w ∈ wsL_law, w.before (as.map (rv ad)).toArray s = true := fun w hw => hts w (List.mem_cons_of_mem _ hw)
  have key := body (fun pc L st cs n' w' => ∀ (ad' : Nat → Nat) (H : Heap) (locs : List Loc) (ls : Array Slot), Ex n ad n' ad' → Rp D cT (va_A (wsW cT ad n w) s.heap.size) s ad' n' w' H locs → Lc ad' mL L ls → W p l e (headSpec (Cond.code y cc mL ret :: wsL_law) (rmd d mc ms)).room s m (as.map (rv ad)).toArray below meth c H locs cs.1 cs.2 (MQ below (QcW D cT ad s.heap.size n w Qa) (as.map (rv ad)).toArray s mc ms (va_A (wsW cT ad n w) s.heap.size)) (F0 m pc ls (st.map (rv ad'))))
    ⟨p, e, s, m, _, below, meth, c, D, cT, _, _, n, ad, _, rfl, hx, hb, hml, hown, hin, hts', hK, fun q h => Or.inr h, Nat.le_refl _, Nat.le_refl _, rfl, rfl⟩ ⟨?_, ?_, ?_, ?_⟩
  · rw [lg_entry_eq]
    exact key ad s.heap [] _ Ex.rf ⟨hP, hD, va_S.rf⟩ (Lc.entry ad as hlen hnl)
  · intro pc L x cs n' w' hd ⟨ty, hty, hn⟩ hc1 hc2 hq ad' H locs ls hE hR hL
    obtain ⟨hP1, hD1, hS1⟩ := hR
    refine W.widen hc1 hc2 ?_
    exact W.zret (v := x) (ty := ty) hx hb (by rw [hr]; exact hty) hn (fun t ht hW => ⟨⟨some (aI x), ad', n', w', rfl, hq, hE, by rw [ht]; exact hP1, hD1⟩, hS1.F ht⟩) hS1.2.2 hd
  · intro pc L cs n' w' hd hret hc1 hc2 hq ad' H locs ls hE hR hL
    obtain ⟨hP1, hD1, hS1⟩ := hR
    refine W.widen hc1 hc2 ?_
    exact W.vret hx hb (by rw [hr]; exact hret) (fun t ht hW => ⟨⟨none, ad', n', w', rfl, hq, hE, by rw [ht]; exact hP1, hD1⟩, hS1.F ht⟩) hS1.2.2 hd
  · intro pc L v cs n' w' hd ⟨C, hret⟩ hc1 hc2 hq ad' H locs ls hE hR hL
    obtain ⟨hP1, hD1, hS1⟩ := hR
    refine W.widen hc1 hc2 ?_
    exact W.aret (v := rv ad' (some (.inr v))) (rt := .object C) hx hb (by rw [hr]; exact hret) (Or.inl ⟨C, rfl⟩) (by cases v with | none => exact Or.inl rfl | some k => exact Or.inr ⟨ad' k, rfl⟩) (fun t ht hW => ⟨⟨some (some (.inr v)), ad', n', w', rfl, hq, hE, by rw [ht]; exact hP1, hD1⟩, hS1.F ht⟩) hS1.2.2 hd
  · intro pc L x cs n' w' hd hret hc1 hc2 hq ad' H locs ls hE hR hL
    obtain ⟨hP1, hD1, hS1⟩ := hR
    refine W.widen hc1 hc2 ?_
    exact W.lret (v := x) hx hb (by rw [hr]; exact hret) (fun t ht hW => ⟨⟨some (aL x), ad', n', w', rfl, hq, hE, by rw [ht]; exact hP1, hD1⟩, hS1.F ht⟩) hS1.2.2 hd
end
section
theorem cpy_nat : Cond.native arraycopyName ∈ wsL_law := List.mem_of_getElem? (i := 203) (by decide +kernel)
theorem cpy_sta : Cond.static arraycopyName ∈ wsL_law := List.mem_of_getElem? (i := 204) (by decide +kernel)
theorem cpy_ini : Cond.initialized "java/lang/System" ∈ wsL_law := List.mem_of_getElem? (i := 205) (by decide +kernel)
section
variable {Γ : Gm} {l : Launch} {y : MethodName} {cc : ByteArray} {mL d mc ms : Nat} {pc n : Nat} {L st : List AV} {cs : Nat × Nat} {w : Nat → AC}
theorem qa_iconst (hΓ : Ok Γ l y cc mL d mc ms) {j : Int} {v : Int32} (hd : decode cc pc = .ok (.iconst j, 1)) (hv : Int32.ofInt j = v) (k : Γ (pc + 1) L (aI v :: st) cs n w) : Γ pc L (st) cs n w := by
  obtain ⟨p, e, s, m, args, below, meth, c, D, cT, A, Q, n0, ad0, R, rfl, hx, hb, hml, hown, hnm, hts, hK, hA, hRf, hRl, hRc, hRs⟩ := hΓ
  intro ad H locs ls hE hR hL
  exact lv_iconst hx hb hd hv (k ad H locs ls hE hR hL)
theorem qa_bipush (hΓ : Ok Γ l y cc mL d mc ms) {j : Int} {v : Int32} (hd : decode cc pc = .ok (.bipush j, 2)) (hv : (Int8.ofInt j).toInt32 = v) (k : Γ (pc + 2) L (aI v :: st) cs n w) : Γ pc L (st) cs n w := by
  obtain ⟨p, e, s, m, args, below, meth, c, D, cT, A, Q, n0, ad0, R, rfl, hx, hb, hml, hown, hnm, hts, hK, hA, hRf, hRl, hRc, hRs⟩ := hΓ
  intro ad H locs ls hE hR hL
  exact lv_bipush hx hb hd hv (k ad H locs ls hE hR hL)
theorem qa_sipush (hΓ : Ok Γ l y cc mL d mc ms) {j : Int} {v : Int32} (hd : decode cc pc = .ok (.sipush j, 3)) (hv : (Int16.ofInt j).toInt32 = v) (k : Γ (pc + 3) L (aI v :: st) cs n w) : Γ pc L (st) cs n w := by
  obtain ⟨p, e, s, m, args, below, meth, c, D, cT, A, Q, n0, ad0, R, rfl, hx, hb, hml, hown, hnm, hts, hK, hA, hRf, hRl, hRc, hRs⟩ := hΓ
  intro ad H locs ls hE hR hL
  exact lv_sipush hx hb hd hv (k ad H locs ls hE hR hL)
theorem qa_iadd (hΓ : Ok Γ l y cc mL d mc ms) {x z : Int32} (hd : decode cc pc = .ok (.iadd, 1)) (k : Γ (pc + 1) L (aI (x + z) :: st) cs n w) : Γ pc L (aI z :: aI x :: st) cs n w := by
  obtain ⟨p, e, s, m, args, below, meth, c, D, cT, A, Q, n0, ad0, R, rfl, hx, hb, hml, hown, hnm, hts, hK, hA, hRf, hRl, hRc, hRs⟩ := hΓ
  intro ad H locs ls hE hR hL
  exact lv_iadd hx hb hd (k ad H locs ls hE hR hL)
theorem qa_isub (hΓ : Ok Γ l y cc mL d mc ms) {x z : Int32} (hd : decode cc pc = .ok (.isub, 1)) (k : Γ (pc + 1) L (aI (x - z) :: st) cs n w) : Γ pc L (aI z :: aI x :: st) cs n w := by
  obtain ⟨p, e, s, m, args, below, meth, c, D, cT, A, Q, n0, ad0, R, rfl, hx, hb, hml, hown, hnm, hts, hK, hA, hRf, hRl, hRc, hRs⟩ := hΓ
  intro ad H locs ls hE hR hL
  exact lv_isub hx hb hd (k ad H locs ls hE hR hL)
theorem qa_imul (hΓ : Ok Γ l y cc mL d mc ms) {x z : Int32} (hd : decode cc pc = .ok (.imul, 1)) (k : Γ (pc + 1) L (aI (x * z) :: st) cs n w) : Γ pc L (aI z :: aI x :: st) cs n w := by
  obtain ⟨p, e, s, m, args, below, meth, c, D, cT, A, Q, n0, ad0, R, rfl, hx, hb, hml, hown, hnm, hts, hK, hA, hRf, hRl, hRc, hRs⟩ := hΓ
  intro ad H locs ls hE hR hL
  exact lv_imul hx hb hd (k ad H locs ls hE hR hL)
theorem qa_iand (hΓ : Ok Γ l y cc mL d mc ms) {x z : Int32} (hd : decode cc pc = .ok (.iand, 1)) (k : Γ (pc + 1) L (aI (x &&& z) :: st) cs n w) : Γ pc L (aI z :: aI x :: st) cs n w := by
  obtain ⟨p, e, s, m, args, below, meth, c, D, cT, A, Q, n0, ad0, R, rfl, hx, hb, hml, hown, hnm, hts, hK, hA, hRf, hRl, hRc, hRs⟩ := hΓ
  intro ad H locs ls hE hR hL
  exact lv_iand hx hb hd (k ad H locs ls hE hR hL)
theorem qa_ior (hΓ : Ok Γ l y cc mL d mc ms) {x z : Int32} (hd : decode cc pc = .ok (.ior, 1)) (k : Γ (pc + 1) L (aI (x ||| z) :: st) cs n w) : Γ pc L (aI z :: aI x :: st) cs n w := by
  obtain ⟨p, e, s, m, args, below, meth, c, D, cT, A, Q, n0, ad0, R, rfl, hx, hb, hml, hown, hnm, hts, hK, hA, hRf, hRl, hRc, hRs⟩ := hΓ
  intro ad H locs ls hE hR hL
  exact lv_ior hx hb hd (k ad H locs ls hE hR hL)
theorem qa_ixor (hΓ : Ok Γ l y cc mL d mc ms) {x z : Int32} (hd : decode cc pc = .ok (.ixor, 1)) (k : Γ (pc + 1) L (aI (x ^^^ z) :: st) cs n w) : Γ pc L (aI z :: aI x :: st) cs n w := by
  obtain ⟨p, e, s, m, args, below, meth, c, D, cT, A, Q, n0, ad0, R, rfl, hx, hb, hml, hown, hnm, hts, hK, hA, hRf, hRl, hRc, hRs⟩ := hΓ
  intro ad H locs ls hE hR hL
  exact lv_ixor hx hb hd (k ad H locs ls hE hR hL)
theorem qa_ishl (hΓ : Ok Γ l y cc mL d mc ms) {x z : Int32} (hd : decode cc pc = .ok (.ishl, 1)) (k : Γ (pc + 1) L (aI (x <<< (z &&& 31)) :: st) cs n w) : Γ pc L (aI z :: aI x :: st) cs n w := by
  obtain ⟨p, e, s, m, args, below, meth, c, D, cT, A, Q, n0, ad0, R, rfl, hx, hb, hml, hown, hnm, hts, hK, hA, hRf, hRl, hRc, hRs⟩ := hΓ
  intro ad H locs ls hE hR hL
  exact lv_ishl hx hb hd (k ad H locs ls hE hR hL)
theorem qa_ishr (hΓ : Ok Γ l y cc mL d mc ms) {x z : Int32} (hd : decode cc pc = .ok (.ishr, 1)) (k : Γ (pc + 1) L (aI (x >>> (z &&& 31)) :: st) cs n w) : Γ pc L (aI z :: aI x :: st) cs n w := by
  obtain ⟨p, e, s, m, args, below, meth, c, D, cT, A, Q, n0, ad0, R, rfl, hx, hb, hml, hown, hnm, hts, hK, hA, hRf, hRl, hRc, hRs⟩ := hΓ
  intro ad H locs ls hE hR hL
  exact lv_ishr hx hb hd (k ad H locs ls hE hR hL)
theorem qa_idiv (hΓ : Ok Γ l y cc mL d mc ms) {x z : Int32} (hd : decode cc pc = .ok (.idiv, 1)) (hne : ¬ z = 0) (k : Γ (pc + 1) L (aI (x / z) :: st) cs n w) : Γ pc L (aI z :: aI x :: st) cs n w := by
  obtain ⟨p, e, s, m, args, below, meth, c, D, cT, A, Q, n0, ad0, R, rfl, hx, hb, hml, hown, hnm, hts, hK, hA, hRf, hRl, hRc, hRs⟩ := hΓ
  intro ad H locs ls hE hR hL
  exact lv_idiv hx hb hd hne (k ad H locs ls hE hR hL)
theorem qa_irem (hΓ : Ok Γ l y cc mL d mc ms) {x z : Int32} (hd : decode cc pc = .ok (.irem, 1)) (hne : ¬ z = 0) (k : Γ (pc + 1) L (aI (x - x / z * z) :: st) cs n w) : Γ pc L (aI z :: aI x :: st) cs n w := by
  obtain ⟨p, e, s, m, args, below, meth, c, D, cT, A, Q, n0, ad0, R, rfl, hx, hb, hml, hown, hnm, hts, hK, hA, hRf, hRl, hRc, hRs⟩ := hΓ
  intro ad H locs ls hE hR hL
  exact lv_irem hx hb hd hne (k ad H locs ls hE hR hL)
theorem qa_iushr (hΓ : Ok Γ l y cc mL d mc ms) {x z v : Int32} (hd : decode cc pc = .ok (.iushr, 1)) (hv : (x.toUInt32 >>> (z.toUInt32 &&& Int32.toUInt32 31)).toInt32 = v) (k : Γ (pc + 1) L (aI v :: st) cs n w) : Γ pc L (aI z :: aI x :: st) cs n w := by
  obtain ⟨p, e, s, m, args, below, meth, c, D, cT, A, Q, n0, ad0, R, rfl, hx, hb, hml, hown, hnm, hts, hK, hA, hRf, hRl, hRc, hRs⟩ := hΓ
  intro ad H locs ls hE hR hL
  exact lv_iushr hx hb hd hv (k ad H locs ls hE hR hL)
theorem qa_i2b (hΓ : Ok Γ l y cc mL d mc ms) {x v : Int32} (hd : decode cc pc = .ok (.i2b, 1)) (hv : x.toInt8.toInt32 = v) (k : Γ (pc + 1) L (aI v :: st) cs n w) : Γ pc L (aI x :: st) cs n w := by
  obtain ⟨p, e, s, m, args, below, meth, c, D, cT, A, Q, n0, ad0, R, rfl, hx, hb, hml, hown, hnm, hts, hK, hA, hRf, hRl, hRc, hRs⟩ := hΓ
  intro ad H locs ls hE hR hL
  exact lv_i2b hx hb hd hv (k ad H locs ls hE hR hL)
theorem qa_i2c (hΓ : Ok Γ l y cc mL d mc ms) {x v : Int32} (hd : decode cc pc = .ok (.i2c, 1)) (hv : (x.toUInt32 % 65536).toInt32 = v) (k : Γ (pc + 1) L (aI v :: st) cs n w) : Γ pc L (aI x :: st) cs n w := by
  obtain ⟨p, e, s, m, args, below, meth, c, D, cT, A, Q, n0, ad0, R, rfl, hx, hb, hml, hown, hnm, hts, hK, hA, hRf, hRl, hRc, hRs⟩ := hΓ
  intro ad H locs ls hE hR hL
  exact lv_i2c hx hb hd hv (k ad H locs ls hE hR hL)
theorem qa_pop (hΓ : Ok Γ l y cc mL d mc ms) {v : AV} (hd : decode cc pc = .ok (.pop, 1)) (k : Γ (pc + 1) L (st) cs n w) (hv : nl v = true := by rfl) : Γ pc L (v :: st) cs n w := by
  obtain ⟨p, e, s, m, args, below, meth, c, D, cT, A, Q, n0, ad0, R, rfl, hx, hb, hml, hown, hnm, hts, hK, hA, hRf, hRl, hRc, hRs⟩ := hΓ
  intro ad H locs ls hE hR hL
  exact lv_pop hx hb hd (rv_cat ad v hv) (k ad H locs ls hE hR hL)
theorem qa_dup (hΓ : Ok Γ l y cc mL d mc ms) {v : AV} (hd : decode cc pc = .ok (.dup, 1)) (k : Γ (pc + 1) L (v :: v :: st) cs n w) (hv : nl v = true := by rfl) : Γ pc L (v :: st) cs n w := by
  obtain ⟨p, e, s, m, args, below, meth, c, D, cT, A, Q, n0, ad0, R, rfl, hx, hb, hml, hown, hnm, hts, hK, hA, hRf, hRl, hRc, hRs⟩ := hΓ
  intro ad H locs ls hE hR hL
  exact lv_dup hx hb hd (rv_cat ad v hv) (k ad H locs ls hE hR hL)
theorem qa_null (hΓ : Ok Γ l y cc mL d mc ms)  (hd : decode cc pc = .ok (.aconst_null, 1)) (k : Γ (pc + 1) L (aN :: st) cs n w) : Γ pc L (st) cs n w := by
  obtain ⟨p, e, s, m, args, below, meth, c, D, cT, A, Q, n0, ad0, R, rfl, hx, hb, hml, hown, hnm, hts, hK, hA, hRf, hRl, hRc, hRs⟩ := hΓ
  intro ad H locs ls hE hR hL
  exact lv_null hx hb hd (k ad H locs ls hE hR hL)
theorem qa_iload_n (hΓ : Ok Γ l y cc mL d mc ms) {j : Fin 4} {x : Int32} (hd : decode cc pc = .ok (.iload_n j, 1)) (hl : lg L j = aI x) (k : Γ (pc + 1) L (aI x :: st) cs n w) : Γ pc L st cs n w := by
  obtain ⟨p, e, s, m, args, below, meth, c, D, cT, A, Q, n0, ad0, R, rfl, hx, hb, hml, hown, hnm, hts, hK, hA, hRf, hRl, hRc, hRs⟩ := hΓ
  intro ad H locs ls hE hR hL
  exact lv_iload_n hx hb hd rfl (hL.2.2 _ _ hl) (k ad H locs ls hE hR hL)
theorem qa_iload (hΓ : Ok Γ l y cc mL d mc ms) {j : Nat} {x : Int32} (hd : decode cc pc = .ok (.iload j, 2)) (hl : lg L j = aI x) (k : Γ (pc + 2) L (aI x :: st) cs n w) : Γ pc L st cs n w := by
  obtain ⟨p, e, s, m, args, below, meth, c, D, cT, A, Q, n0, ad0, R, rfl, hx, hb, hml, hown, hnm, hts, hK, hA, hRf, hRl, hRc, hRs⟩ := hΓ
  intro ad H locs ls hE hR hL
  exact lv_iload hx hb hd (hL.2.2 _ _ hl) (k ad H locs ls hE hR hL)
theorem qa_aload_n (hΓ : Ok Γ l y cc mL d mc ms) {j : Fin 4} {x : Nat} (hd : decode cc pc = .ok (.aload_n j, 1)) (hl : lg L j = aR x) (k : Γ (pc + 1) L (aR x :: st) cs n w) : Γ pc L st cs n w := by
  obtain ⟨p, e, s, m, args, below, meth, c, D, cT, A, Q, n0, ad0, R, rfl, hx, hb, hml, hown, hnm, hts, hK, hA, hRf, hRl, hRc, hRs⟩ := hΓ
  intro ad H locs ls hE hR hL
  exact lv_aload_n hx hb hd rfl (hL.2.2 _ _ hl) (k ad H locs ls hE hR hL)
theorem qa_aload (hΓ : Ok Γ l y cc mL d mc ms) {j : Nat} {x : Nat} (hd : decode cc pc = .ok (.aload j, 2)) (hl : lg L j = aR x) (k : Γ (pc + 2) L (aR x :: st) cs n w) : Γ pc L st cs n w := by
  obtain ⟨p, e, s, m, args, below, meth, c, D, cT, A, Q, n0, ad0, R, rfl, hx, hb, hml, hown, hnm, hts, hK, hA, hRf, hRl, hRc, hRs⟩ := hΓ
  intro ad H locs ls hE hR hL
  exact lv_aload hx hb hd (hL.2.2 _ _ hl) (k ad H locs ls hE hR hL)
theorem qa_aload_nN (hΓ : Ok Γ l y cc mL d mc ms) {j : Fin 4} (hd : decode cc pc = .ok (.aload_n j, 1)) (hl : lg L j = aN) (k : Γ (pc + 1) L (aN :: st) cs n w) : Γ pc L st cs n w := by
  obtain ⟨p, e, s, m, args, below, meth, c, D, cT, A, Q, n0, ad0, R, rfl, hx, hb, hml, hown, hnm, hts, hK, hA, hRf, hRl, hRc, hRs⟩ := hΓ
  intro ad H locs ls hE hR hL
  exact lv_aload_nN hx hb hd rfl (hL.2.2 _ _ hl) (k ad H locs ls hE hR hL)
theorem qa_istore_n (hΓ : Ok Γ l y cc mL d mc ms) {j : Fin 4} {x : Int32} (hd : decode cc pc = .ok (.istore_n j, 1)) (hn : (j : Nat) < mL) (k : Γ (pc + 1) (L.set j (aI x)) st cs n w) (hs : lsf L j = true := by rfl) : Γ pc L (aI x :: st) cs n w := by
  obtain ⟨p, e, s, m, args, below, meth, c, D, cT, A, Q, n0, ad0, R, rfl, hx, hb, hml, hown, hnm, hts, hK, hA, hRf, hRl, hRc, hRs⟩ := hΓ
  intro ad H locs ls hE hR hL
  exact lv_istore_n hx hb hd rfl hL.has hn rfl (fun ls' h' => k ad H locs ls' hE hR (Lc.set hs (v := aI x) h'))
theorem qa_istore (hΓ : Ok Γ l y cc mL d mc ms) {j : Nat} {x : Int32} (hd : decode cc pc = .ok (.istore j, 2)) (hn : j < mL) (k : Γ (pc + 2) (L.set j (aI x)) st cs n w) (hs : lsf L j = true := by rfl) : Γ pc L (aI x :: st) cs n w := by
  obtain ⟨p, e, s, m, args, below, meth, c, D, cT, A, Q, n0, ad0, R, rfl, hx, hb, hml, hown, hnm, hts, hK, hA, hRf, hRl, hRc, hRs⟩ := hΓ
  intro ad H locs ls hE hR hL
  exact lv_istore hx hb hd hL.has hn rfl (fun ls' h' => k ad H locs ls' hE hR (Lc.set hs (v := aI x) h'))
theorem qa_astore_n (hΓ : Ok Γ l y cc mL d mc ms) {j : Fin 4} {x : Nat} (hd : decode cc pc = .ok (.astore_n j, 1)) (hn : (j : Nat) < mL) (k : Γ (pc + 1) (L.set j (aR x)) st cs n w) (hs : lsf L j = true := by rfl) : Γ pc L (aR x :: st) cs n w := by
  obtain ⟨p, e, s, m, args, below, meth, c, D, cT, A, Q, n0, ad0, R, rfl, hx, hb, hml, hown, hnm, hts, hK, hA, hRf, hRl, hRc, hRs⟩ := hΓ
  intro ad H locs ls hE hR hL
  exact lv_astore_n hx hb hd rfl hL.has hn rfl (fun ls' h' => k ad H locs ls' hE hR (Lc.set hs (v := aR x) h'))
theorem qa_astore_nN (hΓ : Ok Γ l y cc mL d mc ms) {j : Fin 4} (hd : decode cc pc = .ok (.astore_n j, 1)) (hn : (j : Nat) < mL) (k : Γ (pc + 1) (L.set j aN) st cs n w) (hs : lsf L j = true := by rfl) : Γ pc L (aN :: st) cs n w := by
  obtain ⟨p, e, s, m, args, below, meth, c, D, cT, A, Q, n0, ad0, R, rfl, hx, hb, hml, hown, hnm, hts, hK, hA, hRf, hRl, hRc, hRs⟩ := hΓ
  intro ad H locs ls hE hR hL
  exact lv_astore_nN hx hb hd rfl hL.has hn rfl (fun ls' h' => k ad H locs ls' hE hR (Lc.set hs (v := aN) h'))
theorem qa_iinc (hΓ : Ok Γ l y cc mL d mc ms) {j : Nat} {b : Int} {x v : Int32} (hd : decode cc pc = .ok (.iinc j b, 3)) (hl : lg L j = aI x) (hv : x + Int32.ofInt b = v) (hn : j < mL) (k : Γ (pc + 3) (L.set j (aI v)) st cs n w) (hs : lsf L j = true := by rfl) : Γ pc L st cs n w := by
  obtain ⟨p, e, s, m, args, below, meth, c, D, cT, A, Q, n0, ad0, R, rfl, hx, hb, hml, hown, hnm, hts, hK, hA, hRf, hRl, hRc, hRs⟩ := hΓ
  intro ad H locs ls hE hR hL
  have hi : (j, Value.int x) ∈ lprs ad L := lprs_mem.mpr ⟨.inl (.inl x), hl, rfl⟩
  obtain ⟨i, hi⟩ := List.getElem?_of_mem hi
  exact lv_iinc hx hb hd hL.has hi hv hn rfl (fun ls' h' => k ad H locs ls' hE hR (Lc.set hs (v := aI v) h'))
theorem qa_icmp_eq (hΓ : Ok Γ l y cc mL d mc ms) {x z : Int32} {off : Int} {tgt : Nat} (hd : decode cc pc = .ok (.if_icmp .eq off, 3)) (ht : (pc : Int) + off = (tgt : Int)) (kt : x = z → Γ tgt L st cs n w) (kf : ¬ x = z → Γ (pc + 3) L st cs n w) : Γ pc L (aI z :: aI x :: st) cs n w := by
  obtain ⟨p, e, s, m, args, below, meth, c, D, cT, A, Q, n0, ad0, R, rfl, hx, hb, hml, hown, hnm, hts, hK, hA, hRf, hRl, hRc, hRs⟩ := hΓ
  intro ad H locs ls hE hR hL
  exact lv_icmp_eq hx hb hd ht (fun h => kt h ad H locs ls hE hR hL) (fun h => kf h ad H locs ls hE hR hL)
theorem qa_icmp_ne (hΓ : Ok Γ l y cc mL d mc ms) {x z : Int32} {off : Int} {tgt : Nat} (hd : decode cc pc = .ok (.if_icmp .ne off, 3)) (ht : (pc : Int) + off = (tgt : Int)) (kt : ¬ x = z → Γ tgt L st cs n w) (kf : x = z → Γ (pc + 3) L st cs n w) : Γ pc L (aI z :: aI x :: st) cs n w := by
  obtain ⟨p, e, s, m, args, below, meth, c, D, cT, A, Q, n0, ad0, R, rfl, hx, hb, hml, hown, hnm, hts, hK, hA, hRf, hRl, hRc, hRs⟩ := hΓ
  intro ad H locs ls hE hR hL
  exact lv_icmp_ne hx hb hd ht (fun h => kt h ad H locs ls hE hR hL) (fun h => kf h ad H locs ls hE hR hL)
theorem qa_icmp_lt (hΓ : Ok Γ l y cc mL d mc ms) {x z : Int32} {off : Int} {tgt : Nat} (hd : decode cc pc = .ok (.if_icmp .lt off, 3)) (ht : (pc : Int) + off = (tgt : Int)) (kt : x < z → Γ tgt L st cs n w) (kf : ¬ x < z → Γ (pc + 3) L st cs n w) : Γ pc L (aI z :: aI x :: st) cs n w := by
  obtain ⟨p, e, s, m, args, below, meth, c, D, cT, A, Q, n0, ad0, R, rfl, hx, hb, hml, hown, hnm, hts, hK, hA, hRf, hRl, hRc, hRs⟩ := hΓ
  intro ad H locs ls hE hR hL
  exact lv_icmp_lt hx hb hd ht (fun h => kt h ad H locs ls hE hR hL) (fun h => kf h ad H locs ls hE hR hL)
theorem qa_icmp_ge (hΓ : Ok Γ l y cc mL d mc ms) {x z : Int32} {off : Int} {tgt : Nat} (hd : decode cc pc = .ok (.if_icmp .ge off, 3)) (ht : (pc : Int) + off = (tgt : Int)) (kt : z ≤ x → Γ tgt L st cs n w) (kf : ¬ z ≤ x → Γ (pc + 3) L st cs n w) : Γ pc L (aI z :: aI x :: st) cs n w := by
  obtain ⟨p, e, s, m, args, below, meth, c, D, cT, A, Q, n0, ad0, R, rfl, hx, hb, hml, hown, hnm, hts, hK, hA, hRf, hRl, hRc, hRs⟩ := hΓ
  intro ad H locs ls hE hR hL
  exact lv_icmp_ge hx hb hd ht (fun h => kt h ad H locs ls hE hR hL) (fun h => kf h ad H locs ls hE hR hL)
theorem qa_icmp_gt (hΓ : Ok Γ l y cc mL d mc ms) {x z : Int32} {off : Int} {tgt : Nat} (hd : decode cc pc = .ok (.if_icmp .gt off, 3)) (ht : (pc : Int) + off = (tgt : Int)) (kt : z < x → Γ tgt L st cs n w) (kf : ¬ z < x → Γ (pc + 3) L st cs n w) : Γ pc L (aI z :: aI x :: st) cs n w := by
  obtain ⟨p, e, s, m, args, below, meth, c, D, cT, A, Q, n0, ad0, R, rfl, hx, hb, hml, hown, hnm, hts, hK, hA, hRf, hRl, hRc, hRs⟩ := hΓ
  intro ad H locs ls hE hR hL
  exact lv_icmp_gt hx hb hd ht (fun h => kt h ad H locs ls hE hR hL) (fun h => kf h ad H locs ls hE hR hL)
theorem qa_icmp_le (hΓ : Ok Γ l y cc mL d mc ms) {x z : Int32} {off : Int} {tgt : Nat} (hd : decode cc pc = .ok (.if_icmp .le off, 3)) (ht : (pc : Int) + off = (tgt : Int)) (kt : x ≤ z → Γ tgt L st cs n w) (kf : ¬ x ≤ z → Γ (pc + 3) L st cs n w) : Γ pc L (aI z :: aI x :: st) cs n w := by
  obtain ⟨p, e, s, m, args, below, meth, c, D, cT, A, Q, n0, ad0, R, rfl, hx, hb, hml, hown, hnm, hts, hK, hA, hRf, hRl, hRc, hRs⟩ := hΓ
  intro ad H locs ls hE hR hL
  exact lv_icmp_le hx hb hd ht (fun h => kt h ad H locs ls hE hR hL) (fun h => kf h ad H locs ls hE hR hL)
theorem qa_if_eq (hΓ : Ok Γ l y cc mL d mc ms) {x : Int32} {off : Int} {tgt : Nat} (hd : decode cc pc = .ok (.ifCond .eq off, 3)) (ht : (pc : Int) + off = (tgt : Int)) (kt : x = 0 → Γ tgt L st cs n w) (kf : ¬ x = 0 → Γ (pc + 3) L st cs n w) : Γ pc L (aI x :: st) cs n w := by
  obtain ⟨p, e, s, m, args, below, meth, c, D, cT, A, Q, n0, ad0, R, rfl, hx, hb, hml, hown, hnm, hts, hK, hA, hRf, hRl, hRc, hRs⟩ := hΓ
  intro ad H locs ls hE hR hL
  exact lv_if_eq hx hb hd ht (fun h => kt h ad H locs ls hE hR hL) (fun h => kf h ad H locs ls hE hR hL)
theorem qa_if_ne (hΓ : Ok Γ l y cc mL d mc ms) {x : Int32} {off : Int} {tgt : Nat} (hd : decode cc pc = .ok (.ifCond .ne off, 3)) (ht : (pc : Int) + off = (tgt : Int)) (kt : ¬ x = 0 → Γ tgt L st cs n w) (kf : x = 0 → Γ (pc + 3) L st cs n w) : Γ pc L (aI x :: st) cs n w := by
  obtain ⟨p, e, s, m, args, below, meth, c, D, cT, A, Q, n0, ad0, R, rfl, hx, hb, hml, hown, hnm, hts, hK, hA, hRf, hRl, hRc, hRs⟩ := hΓ
  intro ad H locs ls hE hR hL
  exact lv_if_ne hx hb hd ht (fun h => kt h ad H locs ls hE hR hL) (fun h => kf h ad H locs ls hE hR hL)
theorem qa_if_lt (hΓ : Ok Γ l y cc mL d mc ms) {x : Int32} {off : Int} {tgt : Nat} (hd : decode cc pc = .ok (.ifCond .lt off, 3)) (ht : (pc : Int) + off = (tgt : Int)) (kt : x < 0 → Γ tgt L st cs n w) (kf : ¬ x < 0 → Γ (pc + 3) L st cs n w) : Γ pc L (aI x :: st) cs n w := by
  obtain ⟨p, e, s, m, args, below, meth, c, D, cT, A, Q, n0, ad0, R, rfl, hx, hb, hml, hown, hnm, hts, hK, hA, hRf, hRl, hRc, hRs⟩ := hΓ
  intro ad H locs ls hE hR hL
  exact lv_if_lt hx hb hd ht (fun h => kt h ad H locs ls hE hR hL) (fun h => kf h ad H locs ls hE hR hL)
theorem qa_if_ge (hΓ : Ok Γ l y cc mL d mc ms) {x : Int32} {off : Int} {tgt : Nat} (hd : decode cc pc = .ok (.ifCond .ge off, 3)) (ht : (pc : Int) + off = (tgt : Int)) (kt : 0 ≤ x → Γ tgt L st cs n w) (kf : ¬ 0 ≤ x → Γ (pc + 3) L st cs n w) : Γ pc L (aI x :: st) cs n w := by
  obtain ⟨p, e, s, m, args, below, meth, c, D, cT, A, Q, n0, ad0, R, rfl, hx, hb, hml, hown, hnm, hts, hK, hA, hRf, hRl, hRc, hRs⟩ := hΓ
  intro ad H locs ls hE hR hL
  exact lv_if_ge hx hb hd ht (fun h => kt h ad H locs ls hE hR hL) (fun h => kf h ad H locs ls hE hR hL)
theorem qa_if_gt (hΓ : Ok Γ l y cc mL d mc ms) {x : Int32} {off : Int} {tgt : Nat} (hd : decode cc pc = .ok (.ifCond .gt off, 3)) (ht : (pc : Int) + off = (tgt : Int)) (kt : 0 < x → Γ tgt L st cs n w) (kf : ¬ 0 < x → Γ (pc + 3) L st cs n w) : Γ pc L (aI x :: st) cs n w := by
  obtain ⟨p, e, s, m, args, below, meth, c, D, cT, A, Q, n0, ad0, R, rfl, hx, hb, hml, hown, hnm, hts, hK, hA, hRf, hRl, hRc, hRs⟩ := hΓ
  intro ad H locs ls hE hR hL
  exact lv_if_gt hx hb hd ht (fun h => kt h ad H locs ls hE hR hL) (fun h => kf h ad H locs ls hE hR hL)
theorem qa_if_le (hΓ : Ok Γ l y cc mL d mc ms) {x : Int32} {off : Int} {tgt : Nat} (hd : decode cc pc = .ok (.ifCond .le off, 3)) (ht : (pc : Int) + off = (tgt : Int)) (kt : x ≤ 0 → Γ tgt L st cs n w) (kf : ¬ x ≤ 0 → Γ (pc + 3) L st cs n w) : Γ pc L (aI x :: st) cs n w := by
  obtain ⟨p, e, s, m, args, below, meth, c, D, cT, A, Q, n0, ad0, R, rfl, hx, hb, hml, hown, hnm, hts, hK, hA, hRf, hRl, hRc, hRs⟩ := hΓ
  intro ad H locs ls hE hR hL
  exact lv_if_le hx hb hd ht (fun h => kt h ad H locs ls hE hR hL) (fun h => kf h ad H locs ls hE hR hL)
theorem qa_goto (hΓ : Ok Γ l y cc mL d mc ms) {off : Int} {tgt : Nat} (hd : decode cc pc = .ok (.goto off, 3)) (ht : (pc : Int) + off = (tgt : Int)) (k : Γ tgt L st cs n w) : Γ pc L st cs n w := by
  obtain ⟨p, e, s, m, args, below, meth, c, D, cT, A, Q, n0, ad0, R, rfl, hx, hb, hml, hown, hnm, hts, hK, hA, hRf, hRl, hRc, hRs⟩ := hΓ
  intro ad H locs ls hE hR hL
  exact lv_goto hx hb hd ht (k ad H locs ls hE hR hL)
theorem qa_dup2 (hΓ : Ok Γ l y cc mL d mc ms) {u v : AV} (hd : decode cc pc = .ok (.dup2, 1)) (k : Γ (pc + 1) L (u :: v :: u :: v :: st) cs n w) (hu : nl u = true := by rfl) (hv : nl v = true := by rfl) : Γ pc L (u :: v :: st) cs n w := by
  obtain ⟨p, e, s, m, args, below, meth, c, D, cT, A, Q, n0, ad0, R, rfl, hx, hb, hml, hown, hnm, hts, hK, hA, hRf, hRl, hRc, hRs⟩ := hΓ
  intro ad H locs ls hE hR hL
  exact lv_dup2_11 hx hb hd (rv_cat ad u hu) (rv_cat ad v hv) (k ad H locs ls hE hR hL)
theorem qa_ldc2 (hΓ : Ok Γ l y cc mL d mc ms) {idx : Nat} {v : Int64} (hd : decode cc pc = .ok (.ldc2_w idx, 3)) (hc : Cond.constantLong y.cls idx v ∈ wsL_law) (k : Γ (pc + 3) L (aL v :: st) cs n w) : Γ pc L st cs n w := by
  obtain ⟨p, e, s, m, args, below, meth, c, D, cT, A, Q, n0, ad0, R, rfl, hx, hb, hml, hown, hnm, hts, hK, hA, hRf, hRl, hRc, hRs⟩ := hΓ
  intro ad H locs ls hE hR hL
  exact lv_ldc2 hx hb hown (hts _ hc) hd (k ad H locs ls hE hR hL)
theorem qa_lload_n (hΓ : Ok Γ l y cc mL d mc ms) {j : Fin 4} {x : Int64} (hd : decode cc pc = .ok (.lload_n j, 1)) (hl : lg L j = aL x) (k : Γ (pc + 1) L (aL x :: st) cs n w) : Γ pc L st cs n w := by
  obtain ⟨p, e, s, m, args, below, meth, c, D, cT, A, Q, n0, ad0, R, rfl, hx, hb, hml, hown, hnm, hts, hK, hA, hRf, hRl, hRc, hRs⟩ := hΓ
  intro ad H locs ls hE hR hL
  exact lv_lload_n hx hb hd rfl (hL.2.2 _ _ hl) (k ad H locs ls hE hR hL)
theorem qa_lload (hΓ : Ok Γ l y cc mL d mc ms) {j : Nat} {x : Int64} (hd : decode cc pc = .ok (.lload j, 2)) (hl : lg L j = aL x) (k : Γ (pc + 2) L (aL x :: st) cs n w) : Γ pc L st cs n w := by
  obtain ⟨p, e, s, m, args, below, meth, c, D, cT, A, Q, n0, ad0, R, rfl, hx, hb, hml, hown, hnm, hts, hK, hA, hRf, hRl, hRc, hRs⟩ := hΓ
  intro ad H locs ls hE hR hL
  exact lv_lload hx hb hd (hL.2.2 _ _ hl) (k ad H locs ls hE hR hL)
theorem qa_lstore_n (hΓ : Ok Γ l y cc mL d mc ms) {j : Fin 4} {x : Int64} (hd : decode cc pc = .ok (.lstore_n j, 1)) (hn : (j : Nat) + 1 < mL) (hn2 : (j : Nat) + 1 < L.length) (k : Γ (pc + 1) ((L.set j (aL x)).set (j + 1) none) st cs n w) (hs : lsf L j = true := by rfl) : Γ pc L (aL x :: st) cs n w := by
  obtain ⟨p, e, s, m, args, below, meth, c, D, cT, A, Q, n0, ad0, R, rfl, hx, hb, hml, hown, hnm, hts, hK, hA, hRf, hRl, hRc, hRs⟩ := hΓ
  intro ad H locs ls hE hR hL
  exact lv_lstore_n hx hb hd rfl hL.has hn rfl (fun ls' h' => k ad H locs ls' hE hR (Lc.setL hs hn2 h'))
theorem qa_lstore (hΓ : Ok Γ l y cc mL d mc ms) {j : Nat} {x : Int64} (hd : decode cc pc = .ok (.lstore j, 2)) (hn : j + 1 < mL) (hn2 : j + 1 < L.length) (k : Γ (pc + 2) ((L.set j (aL x)).set (j + 1) none) st cs n w) (hs : lsf L j = true := by rfl) : Γ pc L (aL x :: st) cs n w := by
  obtain ⟨p, e, s, m, args, below, meth, c, D, cT, A, Q, n0, ad0, R, rfl, hx, hb, hml, hown, hnm, hts, hK, hA, hRf, hRl, hRc, hRs⟩ := hΓ
  intro ad H locs ls hE hR hL
  exact lv_lstore hx hb hd hL.has hn rfl (fun ls' h' => k ad H locs ls' hE hR (Lc.setL hs hn2 h'))
theorem qa_lmul (hΓ : Ok Γ l y cc mL d mc ms) {x z : Int64} (hd : decode cc pc = .ok (.lmul, 1)) (k : Γ (pc + 1) L (aL (x * z) :: st) cs n w) : Γ pc L (aL z :: aL x :: st) cs n w := by
  obtain ⟨p, e, s, m, args, below, meth, c, D, cT, A, Q, n0, ad0, R, rfl, hx, hb, hml, hown, hnm, hts, hK, hA, hRf, hRl, hRc, hRs⟩ := hΓ
  intro ad H locs ls hE hR hL
  exact lv_lmul hx hb hd (k ad H locs ls hE hR hL)
theorem qa_ladd (hΓ : Ok Γ l y cc mL d mc ms) {x z : Int64} (hd : decode cc pc = .ok (.ladd, 1)) (k : Γ (pc + 1) L (aL (x + z) :: st) cs n w) : Γ pc L (aL z :: aL x :: st) cs n w := by
  obtain ⟨p, e, s, m, args, below, meth, c, D, cT, A, Q, n0, ad0, R, rfl, hx, hb, hml, hown, hnm, hts, hK, hA, hRf, hRl, hRc, hRs⟩ := hΓ
  intro ad H locs ls hE hR hL
  exact lv_ladd hx hb hd (k ad H locs ls hE hR hL)
theorem qa_i2l (hΓ : Ok Γ l y cc mL d mc ms) {x : Int32} (hd : decode cc pc = .ok (.i2l, 1)) (k : Γ (pc + 1) L (aL x.toInt64 :: st) cs n w) : Γ pc L (aI x :: st) cs n w := by
  obtain ⟨p, e, s, m, args, below, meth, c, D, cT, A, Q, n0, ad0, R, rfl, hx, hb, hml, hown, hnm, hts, hK, hA, hRf, hRl, hRc, hRs⟩ := hΓ
  intro ad H locs ls hE hR hL
  exact lv_i2l hx hb hd rfl (k ad H locs ls hE hR hL)
theorem qa_lcmp (hΓ : Ok Γ l y cc mL d mc ms) {x z : Int64} (hd : decode cc pc = .ok (.lcmp, 1)) (k : Γ (pc + 1) L (aI (lg_cmp x z) :: st) cs n w) : Γ pc L (aL z :: aL x :: st) cs n w := by
  obtain ⟨p, e, s, m, args, below, meth, c, D, cT, A, Q, n0, ad0, R, rfl, hx, hb, hml, hown, hnm, hts, hK, hA, hRf, hRl, hRc, hRs⟩ := hΓ
  intro ad H locs ls hE hR hL
  exact W.lcmp hx hb hd (k ad H locs ls hE hR hL)
theorem qa_ifnull (hΓ : Ok Γ l y cc mL d mc ms) {j : Nat} {off : Int} (hd : decode cc pc = .ok (.ifnull off, 3)) (k : Γ (pc + 3) L st cs n w) : Γ pc L (aR j :: st) cs n w := by
  obtain ⟨p, e, s, m, args, below, meth, c, D, cT, A, Q, n0, ad0, R, rfl, hx, hb, hml, hown, hnm, hts, hK, hA, hRf, hRl, hRc, hRs⟩ := hΓ
  intro ad H locs ls hE hR hL
  exact lv_ifnull hx hb hd (k ad H locs ls hE hR hL)
theorem qa_ifnullN (hΓ : Ok Γ l y cc mL d mc ms) {off : Int} {tgt : Nat} (hd : decode cc pc = .ok (.ifnull off, 3)) (ht : (pc : Int) + off = (tgt : Int)) (k : Γ tgt L st cs n w) : Γ pc L (aN :: st) cs n w := by
  obtain ⟨p, e, s, m, args, below, meth, c, D, cT, A, Q, n0, ad0, R, rfl, hx, hb, hml, hown, hnm, hts, hK, hA, hRf, hRl, hRc, hRs⟩ := hΓ
  intro ad H locs ls hE hR hL
  exact lv_ifnullN hx hb hd ht (k ad H locs ls hE hR hL)
theorem qa_ifnonnull (hΓ : Ok Γ l y cc mL d mc ms) {j : Nat} {off : Int} {tgt : Nat} (hd : decode cc pc = .ok (.ifnonnull off, 3)) (ht : (pc : Int) + off = (tgt : Int)) (k : Γ tgt L st cs n w) : Γ pc L (aR j :: st) cs n w := by
  obtain ⟨p, e, s, m, args, below, meth, c, D, cT, A, Q, n0, ad0, R, rfl, hx, hb, hml, hown, hnm, hts, hK, hA, hRf, hRl, hRc, hRs⟩ := hΓ
  intro ad H locs ls hE hR hL
  exact lv_ifnonnull hx hb hd ht (k ad H locs ls hE hR hL)
theorem qa_ifnonnullN (hΓ : Ok Γ l y cc mL d mc ms) {off : Int} (hd : decode cc pc = .ok (.ifnonnull off, 3)) (k : Γ (pc + 3) L st cs n w) : Γ pc L (aN :: st) cs n w := by
  obtain ⟨p, e, s, m, args, below, meth, c, D, cT, A, Q, n0, ad0, R, rfl, hx, hb, hml, hown, hnm, hts, hK, hA, hRf, hRl, hRc, hRs⟩ := hΓ
  intro ad H locs ls hE hR hL
  exact lv_ifnonnullN hx hb hd (k ad H locs ls hE hR hL)
theorem qa_tabOut (hΓ : Ok Γ l y cc mL d mc ms) {dflt lo hi : Int} {offs : Array Int} {len : Nat} {x : Int32} {tgt : Nat} (hd : decode cc pc = .ok (.tableswitch dflt lo hi offs, len)) (h : x.toInt < lo ∨ hi < x.toInt) (ht : (pc : Int) + dflt = (tgt : Int)) (k : Γ tgt L st cs n w) : Γ pc L (aI x :: st) cs n w := by
  obtain ⟨p, e, s, m, args, below, meth, c, D, cT, A, Q, n0, ad0, R, rfl, hx, hb, hml, hown, hnm, hts, hK, hA, hRf, hRl, hRc, hRs⟩ := hΓ
  intro ad H locs ls hE hR hL
  exact lv_tableOut hx hb hd h ht (k ad H locs ls hE hR hL)
theorem qa_tabIn (hΓ : Ok Γ l y cc mL d mc ms) {dflt lo hi : Int} {offs : Array Int} {len : Nat} {x : Int32} {off : Int} {tgt : Nat} (hd : decode cc pc = .ok (.tableswitch dflt lo hi offs, len)) (h1 : ¬ x.toInt < lo) (h2 : ¬ hi < x.toInt) (ho : offs[(x.toInt - lo).toNat]? = some off) (ht : (pc : Int) + off = (tgt : Int)) (k : Γ tgt L st cs n w) : Γ pc L (aI x :: st) cs n w := by
  obtain ⟨p, e, s, m, args, below, meth, c, D, cT, A, Q, n0, ad0, R, rfl, hx, hb, hml, hown, hnm, hts, hK, hA, hRf, hRl, hRc, hRs⟩ := hΓ
  intro ad H locs ls hE hR hL
  exact lv_tableIn hx hb hd h1 h2 ho ht (k ad H locs ls hE hR hL)
theorem qa_lookup (hΓ : Ok Γ l y cc mL d mc ms) {dflt : Int} {ps : Array (Int × Int)} {len : Nat} {x : Int32} {off : Int} {tgt : Nat} (hd : decode cc pc = .ok (.lookupswitch dflt ps, len)) (hp : (ps.toList.zip (ps.toList.drop 1)).all (fun (a, next) => a.1 < next.1) = true) (ho : Op.lookupswitch.offset ps.toList dflt x.toInt = off) (ht : (pc : Int) + off = (tgt : Int)) (k : Γ tgt L st cs n w) : Γ pc L (aI x :: st) cs n w := by
  obtain ⟨p, e, s, m, args, below, meth, c, D, cT, A, Q, n0, ad0, R, rfl, hx, hb, hml, hown, hnm, hts, hK, hA, hRf, hRl, hRc, hRs⟩ := hΓ
  intro ad H locs ls hE hR hL
  exact lv_lookup hx hb hd hp ho ht (k ad H locs ls hE hR hL)
theorem qa_ldc (hΓ : Ok Γ l y cc mL d mc ms) {j : Nat} {v : Int32} (hd : decode cc pc = .ok (.ldc j, 2)) (hc : Cond.constant y.cls j v ∈ wsL_law) (k : Γ (pc + 2) L (aI v :: st) cs n w) : Γ pc L st cs n w := by
  obtain ⟨p, e, s, m, args, below, meth, c, D, cT, A, Q, n0, ad0, R, rfl, hx, hb, hml, hown, hnm, hts, hK, hA, hRf, hRl, hRc, hRs⟩ := hΓ
  intro ad H locs ls hE hR hL
  exact lv_ldc hx hb hown (hts _ hc) hd (k ad H locs ls hE hR hL)
end
/-- a field by its place in the pool: kind ci of vwCl, slot k, final or not, its type -/
def FLK (own : String) (idx ci k : Nat) (fin : Bool) (ty : FieldType) : Prop := ∃ (C : String) (T : u_T) (N : Nat) (ty0 : Nat → FieldType), vwCl[ci]? = some (C, T, N) ∧ (∀ w ∈ u_ws C T N, w ∈ wsL_law) ∧ k < N ∧ Cond.fieldLink own idx (T k).1 (T k).2.1 (T k).2.2.1 ∈ wsL_law ∧ (∀ j, j < N → parseFieldDescriptor (T j).2.2.1 = some (ty0 j)) ∧ (∀ a, a < N → ∀ b, b < N → a ≠ b → (T a).2.1 ≠ (T b).2.1) ∧ (T k).2.2.2 = fin ∧ parseFieldDescriptor (T k).2.2.1 = some ty ∧ (T k).1 = C
/-- the same of a private field of another class of the nest -/
def FLN (own : String) (idx ci k : Nat) (fin : Bool) (ty : FieldType) : Prop := ∃ (C : String) (T : u_T) (N : Nat) (ty0 : Nat → FieldType), vwCl[ci]? = some (C, T, N) ∧ (∀ w ∈ u_ws C T N, w ∈ wsL_law) ∧ k < N ∧ (own, idx, (T k).1, (T k).2.1, (T k).2.2.1) ∈ nestF ∧ (∀ j, j < N → parseFieldDescriptor (T j).2.2.1 = some (ty0 j)) ∧ (∀ a, a < N → ∀ b, b < N → a ≠ b → (T a).2.1 ≠ (T b).2.1) ∧ (T k).2.2.2 = fin ∧ parseFieldDescriptor (T k).2.2.1 = some ty ∧ (T k).1 = C
/-- the same array, as far as it goes -/
def cEq (c c' : AC) : Prop := c = c' ∨ ∃ t n f g, c = cArr t n f ∧ c' = cArr t n g ∧ ∀ j, j < n → f j = g j
theorem vp_cell_ext {cA : ClassId} {n : Nat} {f g : Nat → Int32} (h : ∀ j, j < n → f j = g j) : vp_cell cA (n, .inl f) = vp_cell cA (n, .inl g) := by
  rw [vp_cell_i, vp_cell_i]
  unfold arrV
  congr 1
  congr 1
  funext j
  show Value.int (f j.val) = Value.int (g j.val)
  rw [h j.val j.isLt]
theorem Rp.ext {D : va_G} {cT : Nat → ClassId} {A : Nat → Prop} {s : State} {ad : Nat → Nat} {n : Nat} {w w' : Nat → AC} {H : Heap} {locs : List Loc} (h : Rp D cT A s ad n w H locs) (he : ∀ k, k < n → cEq (w k) (w' k)) : Rp D cT A s ad n w' H locs := by
  obtain ⟨hP, hD, hS⟩ := h
  have key : ∀ (k : Nat) (q : Nat × va_E), (wsW cT ad n w')[k]? = some q → k < n ∧ q = (ad k, rc cT ad (w' k)) := by
    intro k q hq
    rcases Nat.lt_or_ge k n with hk | hk
    · rw [wsW_get hk] at hq
      exact ⟨hk, (Option.some.inj hq).symm⟩
    · rw [List.getElem?_eq_none (by simp [wsW]; omega)] at hq
      cases hq
  refine ⟨fun k q hq => ?_, ⟨fun i j p q hi hj hpq => ?_, fun k q hq => ?_⟩, hS⟩
  · obtain ⟨hk, rfl⟩ := key k q hq
    have h1 := hP k _ (wsW_get hk)
    rcases he k hk with e | ⟨t, m, f, g, e1, e2, e3⟩
    · rw [← e]
      exact h1
    · rw [e1] at h1
      rw [e2]
      show H[ad k]? = some (vp_cell (cT t) (m, .inl g))
      rw [← vp_cell_ext e3]
      exact h1
  · obtain ⟨hi', rfl⟩ := key i p hi
    obtain ⟨hj', rfl⟩ := key j q hj
    exact hD.1 i j _ _ (wsW_get hi') (wsW_get hj') hpq
  · obtain ⟨hk, rfl⟩ := key k q hq
    exact hD.2 k (ad k, rc cT ad (w k)) (wsW_get hk)
theorem Rp.set {D : va_G} {cT : Nat → ClassId} {A : Nat → Prop} {s : State} {ad : Nat → Nat} {n k : Nat} {w : Nat → AC} {c : AC} {H : Heap} {locs : List Loc} (hk : k < n) (h1 : va_P D vwCl ((wsW cT ad n w).set k (ad k, rc cT ad c)) H) (h2 : va_D A ((wsW cT ad n w).set k (ad k, rc cT ad c))) (h3 : va_S A s.heap H locs) : Rp D cT A s ad n (upw w k c) H locs := by
  rw [wsW_set c hk] at h1 h2
  exact ⟨h1, h2, h3⟩
theorem ty_int (cT : Nat → ClassId) : (tysG cT)[0]? = some (cT 0, .int) := rfl
theorem ty_char (cT : Nat → ClassId) : (tysG cT)[2]? = some (cT 2, .char) := rfl
theorem ty_ref (cT : Nat → ClassId) : (tysG cT)[3]? = some (cT 3, .object "RelayBank$Bank") := rfl
section
variable {Γ : Gm} {l : Launch} {y : MethodName} {cc : ByteArray} {mL d mc ms : Nat} {pc n : Nat} {L st : List AV} {cs : Nat × Nat} {w : Nat → AC}
theorem qa_ext (hΓ : Ok Γ l y cc mL d mc ms) {w' : Nat → AC} (he : ∀ k, k < n → cEq (w k) (w' k)) (k : Γ pc L st cs n w') : Γ pc L st cs n w := by
  obtain ⟨p, e, s, m, args, below, meth, c, D, cT, A, Q, n0, ad0, R, rfl, hx, hb, hml, hown, hnm, hts, hK, hA, hRf, hRl, hRc, hRs⟩ := hΓ
  intro ad H locs ls hE hR hL
  exact k ad H locs ls hE (hR.ext he) hL
theorem qa_get (hΓ : Ok Γ l y cc mL d mc ms) {idx ci k k0 : Nat} {fin : Bool} {ty : FieldType} {fs : List AV} {v : AV} (hd : decode cc pc = .ok (.getfield idx, 3)) (hf : FLK y.cls idx ci k fin ty) (hk : k0 < n) (hw : w k0 = cObj ci fs) (hv : fs[k]? = some v) (kk : Γ (pc + 3) L (v :: st) cs n w) : Γ pc L (aR k0 :: st) cs n w := by
  obtain ⟨p, e, s, m, args, below, meth, c, D, cT, A, Q, n0, ad0, R, rfl, hx, hb, hml, hown, hnm, hts, hK, hA, hRf, hRl, hRc, hRs⟩ := hΓ
  intro ad H locs ls hE hR hL
  obtain ⟨C, T, N, ty0, f1, f2, f3, f4, f5, f6, f7, f8, f9⟩ := hf
  have he := wsW_get (cT := cT) (ad := ad) (w := w) hk
  rw [hw] at he
  exact va_get (D := D) (ci := ci) (v := rv ad v) (C := C) (T := T) (N := N) hx hb hts f2 hown hK.1 hR.1 k0 he f1 k f3 (hts _ f4) (fun _ h9 => h9) (by rw [List.getElem?_map, hv]; rfl) hd (kk ad H locs ls hE hR hL)
theorem qa_puti (hΓ : Ok Γ l y cc mL d mc ms) {idx ci k k0 : Nat} {fs : List AV} {x : Int32} (hd : decode cc pc = .ok (.putfield idx, 3)) (hf : FLK y.cls idx ci k false .int) (hk : k0 < n) (hw : w k0 = cObj ci fs) (hl : k < fs.length) (kk : Γ (pc + 3) L st cs n (upw w k0 (cObj ci (fs.set k (aI x))))) : Γ pc L (aI x :: aR k0 :: st) cs n w := by
  obtain ⟨p, e, s, m, args, below, meth, c, D, cT, A, Q, n0, ad0, R, rfl, hx, hb, hml, hown, hnm, hts, hK, hA, hRf, hRl, hRc, hRs⟩ := hΓ
  intro ad H locs ls hE hR hL
  obtain ⟨C, T, N, ty0, f1, f2, f3, f4, f5, f6, f7, f8, f9⟩ := hf
  have he := wsW_get (cT := cT) (ad := ad) (w := w) hk
  rw [hw] at he
  refine va_put (D := D) (ci := ci) (v := .int x) (ty := .int) (C := C) (T := T) (N := N) hx hb hts f2 ty0 f5 f6 hown hK.1 hR.1 hR.2.1 hR.2.2 k0 he f1 k f3 (hts _ f4) (fun _ h9 => h9) f7 f8 rfl rfl (by rw [List.length_map]; exact hl) hd (fun H1 locs1 g1 g2 g3 => kk ad H1 locs1 ls hE (Rp.set hk ?_ ?_ g3) hL)
  · show va_P D vwCl ((wsW cT ad n w).set k0 (ad k0, .inr (ci, (fs.set k (aI x)).map (rv ad)))) H1
    rw [List.map_set]
    exact g1
  · show va_D A ((wsW cT ad n w).set k0 (ad k0, .inr (ci, (fs.set k (aI x)).map (rv ad))))
    rw [List.map_set]
    exact g2
theorem qa_getN (hΓ : Ok Γ l y cc mL d mc ms) {idx ci k k0 : Nat} {fin : Bool} {ty : FieldType} {fs : List AV} {v : AV} (hd : decode cc pc = .ok (.getfield idx, 3)) (hf : FLN y.cls idx ci k fin ty) (hk : k0 < n) (hw : w k0 = cObj ci fs) (hv : fs[k]? = some v) (kk : Γ (pc + 3) L (v :: st) cs n w) : Γ pc L (aR k0 :: st) cs n w := by
  obtain ⟨p, e, s, m, args, below, meth, c, D, cT, A, Q, n0, ad0, R, rfl, hx, hb, hml, hown, hnm, hts, hK, hA, hRf, hRl, hRc, hRs⟩ := hΓ
  intro ad H locs ls hE hR hL
  obtain ⟨C, T, N, ty0, f1, f2, f3, f4, f5, f6, f7, f8, f9⟩ := hf
  have he := wsW_get (cT := cT) (ad := ad) (w := w) hk
  rw [hw] at he
  exact va_getN (D := D) (ci := ci) (v := rv ad v) (C := C) (T := T) (N := N) hx hb hts f2 hown hK.1 hR.1 k0 he f1 k f3 (va_Nw.use rfl (hK.2.2.2 _ f4)) (fun _ h9 => h9) (by rw [List.getElem?_map, hv]; rfl) hd (kk ad H locs ls hE hR hL)
theorem qa_putN (hΓ : Ok Γ l y cc mL d mc ms) {idx ci k k0 : Nat} {fs : List AV} {x : Int32} (hd : decode cc pc = .ok (.putfield idx, 3)) (hf : FLN y.cls idx ci k false .int) (hk : k0 < n) (hw : w k0 = cObj ci fs) (hl : k < fs.length) (kk : Γ (pc + 3) L st cs n (upw w k0 (cObj ci (fs.set k (aI x))))) : Γ pc L (aI x :: aR k0 :: st) cs n w := by
  obtain ⟨p, e, s, m, args, below, meth, c, D, cT, A, Q, n0, ad0, R, rfl, hx, hb, hml, hown, hnm, hts, hK, hA, hRf, hRl, hRc, hRs⟩ := hΓ
  intro ad H locs ls hE hR hL
  obtain ⟨C, T, N, ty0, f1, f2, f3, f4, f5, f6, f7, f8, f9⟩ := hf
  have he := wsW_get (cT := cT) (ad := ad) (w := w) hk
  rw [hw] at he
  refine va_putN (D := D) (ci := ci) (v := .int x) (ty := .int) (C := C) (T := T) (N := N) hx hb hts f2 ty0 f5 f6 hown hK.1 hR.1 hR.2.1 hR.2.2 k0 he f1 k f3 (va_Nw.use rfl (hK.2.2.2 _ f4)) (fun _ h9 => h9) f7 f8 rfl rfl (by rw [List.length_map]; exact hl) hd (fun H1 locs1 g1 g2 g3 => kk ad H1 locs1 ls hE (Rp.set hk ?_ ?_ g3) hL)
  · show va_P D vwCl ((wsW cT ad n w).set k0 (ad k0, .inr (ci, (fs.set k (aI x)).map (rv ad)))) H1
    rw [List.map_set]
    exact g1
  · show va_D A ((wsW cT ad n w).set k0 (ad k0, .inr (ci, (fs.set k (aI x)).map (rv ad))))
    rw [List.map_set]
    exact g2
theorem qa_putF (hΓ : Ok Γ l y cc mL d mc ms) {idx ci k k0 : Nat} {ty : FieldType} {fs : List AV} {v : AV} (hd : decode cc pc = .ok (.putfield idx, 3)) (hf : FLK y.cls idx ci k true ty) (hi : y.name = "<init>") (hC : ∀ C T N, vwCl[ci]? = some (C, T, N) → C = y.cls) (hn : ∀ ad : Nat → Nat, narrow ty (rv ad v) = rv ad v ∧ fits ty (rv ad v) = true) (hk : k0 < n) (hw : w k0 = cObj ci fs) (hl : k < fs.length) (kk : Γ (pc + 3) L st cs n (upw w k0 (cObj ci (fs.set k v)))) : Γ pc L (v :: aR k0 :: st) cs n w := by
  obtain ⟨p, e, s, m, args, below, meth, c, D, cT, A, Q, n0, ad0, R, rfl, hx, hb, hml, hown, hnm, hts, hK, hA, hRf, hRl, hRc, hRs⟩ := hΓ
  intro ad H locs ls hE hR hL
  obtain ⟨C, T, N, ty0, f1, f2, f3, f4, f5, f6, f7, f8, f9⟩ := hf
  have he := wsW_get (cT := cT) (ad := ad) (w := w) hk
  rw [hw] at he
  refine va_putF (D := D) (ci := ci) (v := rv ad v) (ty := ty) (C := C) (T := T) (N := N) hx hb hts f2 ty0 f5 f6 hown hK.1 hR.1 hR.2.1 hR.2.2 k0 he f1 k f3 (hts _ f4) (fun _ h9 => h9) f7 (hnm.trans hi) (f9.trans (hC C T N f1)) f8 (hn ad).1 (hn ad).2 (by rw [List.length_map]; exact hl) hd (fun H1 locs1 g1 g2 g3 => kk ad H1 locs1 ls hE (Rp.set hk ?_ ?_ g3) hL)
  · show va_P D vwCl ((wsW cT ad n w).set k0 (ad k0, .inr (ci, (fs.set k v).map (rv ad)))) H1
    rw [List.map_set]
    exact g1
  · show va_D A ((wsW cT ad n w).set k0 (ad k0, .inr (ci, (fs.set k v).map (rv ad))))
    rw [List.map_set]
    exact g2
theorem qa_iald (hΓ : Ok Γ l y cc mL d mc ms) {k0 N : Nat} {f : Nat → Int32} {i : Int32} (hd : decode cc pc = .ok (.iaload, 1)) (hk : k0 < n) (hw : w k0 = cArr 0 N f) (hin : vp_in i N) (kk : Γ (pc + 1) L (aI (f i.toNatClampNeg) :: st) cs n w) : Γ pc L (aI i :: aR k0 :: st) cs n w := by
  obtain ⟨p, e, s, m, args, below, meth, c, D, cT, A, Q, n0, ad0, R, rfl, hx, hb, hml, hown, hnm, hts, hK, hA, hRf, hRl, hRc, hRs⟩ := hΓ
  intro ad H locs ls hE hR hL
  have he := wsW_get (cT := cT) (ad := ad) (w := w) hk
  rw [hw] at he
  exact va_iald hx hb hK.1 hR.1 k0 0 he (ty_int cT) hin hd (kk ad H locs ls hE hR hL)
theorem qa_iast (hΓ : Ok Γ l y cc mL d mc ms) {k0 N : Nat} {f : Nat → Int32} {i x : Int32} (hd : decode cc pc = .ok (.iastore, 1)) (hk : k0 < n) (hw : w k0 = cArr 0 N f) (hin : vp_in i N) (kk : Γ (pc + 1) L st cs n (upw w k0 (cArr 0 N (upd f i.toNatClampNeg (x))))) : Γ pc L (aI x :: aI i :: aR k0 :: st) cs n w := by
  obtain ⟨p, e, s, m, args, below, meth, c, D, cT, A, Q, n0, ad0, R, rfl, hx, hb, hml, hown, hnm, hts, hK, hA, hRf, hRl, hRc, hRs⟩ := hΓ
  intro ad H locs ls hE hR hL
  have he := wsW_get (cT := cT) (ad := ad) (w := w) hk
  rw [hw] at he
  exact va_iast hx hb hK.1 hR.1 hR.2.1 hR.2.2 k0 0 he (ty_int cT) hin hd (fun H1 locs1 g1 g2 g3 => kk ad H1 locs1 ls hE (Rp.set hk g1 g2 g3) hL)
theorem qa_cald (hΓ : Ok Γ l y cc mL d mc ms) {k0 N : Nat} {f : Nat → Int32} {i : Int32} (hd : decode cc pc = .ok (.caload, 1)) (hk : k0 < n) (hw : w k0 = cArr 2 N f) (hin : vp_in i N) (kk : Γ (pc + 1) L (aI (f i.toNatClampNeg) :: st) cs n w) : Γ pc L (aI i :: aR k0 :: st) cs n w := by
  obtain ⟨p, e, s, m, args, below, meth, c, D, cT, A, Q, n0, ad0, R, rfl, hx, hb, hml, hown, hnm, hts, hK, hA, hRf, hRl, hRc, hRs⟩ := hΓ
  intro ad H locs ls hE hR hL
  have he := wsW_get (cT := cT) (ad := ad) (w := w) hk
  rw [hw] at he
  exact va_cald hx hb hK.1 hR.1 k0 2 he (ty_char cT) hin hd (kk ad H locs ls hE hR hL)
theorem qa_cast (hΓ : Ok Γ l y cc mL d mc ms) {k0 N : Nat} {f : Nat → Int32} {i x : Int32} (hd : decode cc pc = .ok (.castore, 1)) (hk : k0 < n) (hw : w k0 = cArr 2 N f) (hin : vp_in i N) (kk : Γ (pc + 1) L st cs n (upw w k0 (cArr 2 N (upd f i.toNatClampNeg (vp_nar .char x))))) : Γ pc L (aI x :: aI i :: aR k0 :: st) cs n w := by
  obtain ⟨p, e, s, m, args, below, meth, c, D, cT, A, Q, n0, ad0, R, rfl, hx, hb, hml, hown, hnm, hts, hK, hA, hRf, hRl, hRc, hRs⟩ := hΓ
  intro ad H locs ls hE hR hL
  have he := wsW_get (cT := cT) (ad := ad) (w := w) hk
  rw [hw] at he
  exact va_cast hx hb hK.1 hR.1 hR.2.1 hR.2.2 k0 2 he (ty_char cT) hin hd (fun H1 locs1 g1 g2 g3 => kk ad H1 locs1 ls hE (Rp.set hk g1 g2 g3) hL)
theorem qa_alen (hΓ : Ok Γ l y cc mL d mc ms) {k0 t N : Nat} {f : Nat → Int32} {v : Int32} (hd : decode cc pc = .ok (.arraylength, 1)) (hk : k0 < n) (hw : w k0 = cArr t N f) (ht : t = 0 ∨ t = 2) (hv : nI N = v) (kk : Γ (pc + 1) L (aI v :: st) cs n w) : Γ pc L (aR k0 :: st) cs n w := by
  obtain ⟨p, e, s, m, args, below, meth, c, D, cT, A, Q, n0, ad0, R, rfl, hx, hb, hml, hown, hnm, hts, hK, hA, hRf, hRl, hRc, hRs⟩ := hΓ
  intro ad H locs ls hE hR hL
  have he := wsW_get (cT := cT) (ad := ad) (w := w) hk
  rw [hw] at he
  rcases ht with rfl | rfl
  · exact va_alen hx hb hK.1 hR.1 k0 0 he (ty_int cT) hv hd (kk ad H locs ls hE hR hL)
  · exact va_alen hx hb hK.1 hR.1 k0 2 he (ty_char cT) hv hd (kk ad H locs ls hE hR hL)
theorem qa_alenR (hΓ : Ok Γ l y cc mL d mc ms) {k0 N : Nat} {f : Nat → Option Nat} {v : Int32} (hd : decode cc pc = .ok (.arraylength, 1)) (hk : k0 < n) (hw : w k0 = cRef N f) (hv : nI N = v) (kk : Γ (pc + 1) L (aI v :: st) cs n w) : Γ pc L (aR k0 :: st) cs n w := by
  obtain ⟨p, e, s, m, args, below, meth, c, D, cT, A, Q, n0, ad0, R, rfl, hx, hb, hml, hown, hnm, hts, hK, hA, hRf, hRl, hRc, hRs⟩ := hΓ
  intro ad H locs ls hE hR hL
  have he := wsW_get (cT := cT) (ad := ad) (w := w) hk
  rw [hw] at he
  exact va_alen hx hb hK.1 hR.1 k0 3 he (ty_ref cT) hv hd (kk ad H locs ls hE hR hL)
theorem qa_aald (hΓ : Ok Γ l y cc mL d mc ms) {k0 N : Nat} {f : Nat → Option Nat} {i : Int32} (hd : decode cc pc = .ok (.aaload, 1)) (hk : k0 < n) (hw : w k0 = cRef N f) (hin : vp_in i N) (kk : Γ (pc + 1) L (some (.inr (f i.toNatClampNeg)) :: st) cs n w) : Γ pc L (aI i :: aR k0 :: st) cs n w := by
  obtain ⟨p, e, s, m, args, below, meth, c, D, cT, A, Q, n0, ad0, R, rfl, hx, hb, hml, hown, hnm, hts, hK, hA, hRf, hRl, hRc, hRs⟩ := hΓ
  intro ad H locs ls hE hR hL
  have he := wsW_get (cT := cT) (ad := ad) (w := w) hk
  rw [hw] at he
  have e : va_rf ((f i.toNatClampNeg).map ad) = rv ad (some (.inr (f i.toNatClampNeg))) := by
    cases f i.toNatClampNeg <;> rfl
  refine va_aldq hx hb hK.1 hR.1 k0 3 he (ty_ref cT) hin hd ?_
  rw [e]
  exact kk ad H locs ls hE hR hL
theorem qa_aast (hΓ : Ok Γ l y cc mL d mc ms) {k0 N j ci : Nat} {fs : List AV} {f : Nat → Option Nat} {i : Int32} (hd : decode cc pc = .ok (.aastore, 1)) (hk : k0 < n) (hw : w k0 = cRef N f) (hj : j < n) (hwj : w j = cObj 0 fs) (hin : vp_in i N) (kk : Γ (pc + 1) L st cs n (upw w k0 (cRef N (va_up f i.toNatClampNeg (some j))))) : Γ pc L (aR j :: aI i :: aR k0 :: st) cs n w := by
  obtain ⟨p, e, s, m, args, below, meth, c, D, cT, A, Q, n0, ad0, R, rfl, hx, hb, hml, hown, hnm, hts, hK, hA, hRf, hRl, hRc, hRs⟩ := hΓ
  intro ad H locs ls hE hR hL
  have he := wsW_get (cT := cT) (ad := ad) (w := w) hk
  rw [hw] at he
  have hej := wsW_get (cT := cT) (ad := ad) (w := w) hj
  rw [hwj] at hej
  refine va_astq (r := (RX0, TX0, 15)) hx hb hK.1 hR.1 hR.2.1 hR.2.2 k0 3 j 0 he (ty_ref cT) hej rfl hin hd (fun H1 locs1 g1 g2 g3 => kk ad H1 locs1 ls hE ?_ hL)
  have e : (fun k => (va_up f i.toNatClampNeg (some j) k).map ad) = va_up (fun k => (f k).map ad) i.toNatClampNeg (some (ad j)) := by
    funext k
    by_cases h : k = i.toNatClampNeg <;> simp [va_up, h]
  refine Rp.set hk ?_ ?_ g3
  · show va_P D vwCl ((wsW cT ad n w).set k0 (ad k0, .inl (cT 3, N, .inr (.inr (.inr (.inr (fun k => (va_up f i.toNatClampNeg (some j) k).map ad))))))) H1
    rw [e]
    exact g1
  · show va_D A ((wsW cT ad n w).set k0 (ad k0, .inl (cT 3, N, .inr (.inr (.inr (.inr (fun k => (va_up f i.toNatClampNeg (some j) k).map ad)))))))
    rw [e]
    exact g2
theorem qa_copy (hΓ : Ok Γ l y cc mL d mc ms) {idx k0 k1 N : Nat} {f g : Nat → Int32} {x z v : Int32} (hd : decode cc pc = .ok (.invokestatic idx, 3)) (hl : Cond.methodLink y.cls idx arraycopyName ∈ wsL_law) (h0 : k0 < n) (hw0 : w k0 = cArr 0 N f) (h1 : k1 < n) (hw1 : w k1 = cArr 0 N g) (hx0 : x = 0) (hz0 : z = 0) (hv : v = nI N) (hN : N < 2 ^ 31) (hdd : 1 ≤ d) (hst : st = []) (kk : Γ (pc + 3) L st cs n (upw w k1 (cArr 0 N f))) : Γ pc L (aI v :: aI z :: aR k1 :: aI x :: aR k0 :: st) cs n w := by
  obtain ⟨p, e, s, m, args, below, meth, c, D, cT, A, Q, n0, ad0, R, rfl, hx, hb, hml, hown, hnm, hts, hK, hA, hRf, hRl, hRc, hRs⟩ := hΓ
  intro ad H locs ls hE hR hL
  have e0 := wsW_get (cT := cT) (ad := ad) (w := w) h0
  rw [hw0] at e0
  have e1 := wsW_get (cT := cT) (ad := ad) (w := w) h1
  rw [hw1] at e1
  subst hx0 hz0 hv hst
  have hz : (0 : Int32).toNatClampNeg = 0 := rfl
  refine va_copyi hx hb (by rw [hml]; exact hL.1.symm) hown (hts _ hl) (hts _ cpy_nat) (hts _ cpy_sta) (hts _ cpy_ini) hK.1 hR.1 hR.2.1 hR.2.2 k0 k1 0 0 e0 e1 (ty_int cT) (ty_int cT) rfl (by decide) (by decide) (nI_pos hN) (by rw [hz, nI_clamp hN]; omega) (by rw [hz, nI_clamp hN]; omega) (fun _ _ => rfl) (by omega) (by show 0 + (7 + 11) ≤ _; omega) hd (fun H1 locs1 g1 g2 g3 => kk ad H1 locs1 ls hE ?_ hL)
  have h9 : Rp D cT A s ad n (upw w k1 (cArr 0 N (va_cpy f g 0 0 (nI N).toNatClampNeg))) H1 locs1 := Rp.set h1 g1 g2 g3
  refine h9.ext fun k hk => ?_
  by_cases e : k = k1
  · subst e
    rw [upw_self, upw_self]
    refine Or.inr ⟨0, N, _, f, rfl, rfl, fun j hj => ?_⟩
    rw [nI_clamp hN]
    simp [va_cpy, hj]
  · rw [upw_ne _ _ _ e, upw_ne _ _ _ e]
    exact Or.inl rfl
end
end
section
/-- a method that may be called: its words -/
def MW (z : MethodName) (cz : ByteArray) (mz : Nat) (rz : Option FieldType) (np : Nat) : Prop := Cond.initialized z.cls ∈ wsL_law ∧ Cond.code z cz mz rz ∈ wsL_law ∧ mz ≤ 18 ∧ (z.cls ≠ "java/lang/invoke/MethodHandle" ∧ z.cls ≠ "java/lang/invoke/VarHandle" ∧ (parseMethodDescriptor z.desc).map (fun d => d.parameters.length) = some np)
def VW (z : MethodName) (cz : ByteArray) (mz : Nat) (rz : Option FieldType) (np : Nat) : Prop := MW z cz mz rz np ∧ Cond.instanceMethod z ∈ wsL_law ∧ Cond.selects z.cls z z ∈ wsL_law
def SW (z : MethodName) (cz : ByteArray) (mz : Nat) (rz : Option FieldType) (np : Nat) : Prop := MW z cz mz rz np ∧ Cond.static z ∈ wsL_law
def IW (z : MethodName) (cz : ByteArray) (mz : Nat) (np : Nat) : Prop := MW z cz mz none np ∧ Cond.instanceMethod z ∈ wsL_law ∧ z.name = "<init>"
theorem MW.gi {z : MethodName} {cz : ByteArray} {mz : Nat} {rz : Option FieldType} {np : Nat} (h : MW z cz mz rz np) : GoodIn wsL_law (Cond.code z cz mz rz :: wsL_law) := by
  intro w hw
  rcases List.mem_cons.mp hw with rfl | hw
  · exact ⟨h.2.1, good_of_word (wsL_law_gd _ h.2.1)⟩
  · exact wsL_GI w hw
theorem PcW.blind {D : va_G} {cT : Nat → ClassId} {ad : Nat → Nat} {sz : Nat} {as : List AV} {n : Nat} {w : Nat → AC} : FrameBlind (PcW D cT ad sz as n w) := by
  intro a U g mk h
  obtain ⟨h1, h2, h3, h4, h5⟩ := h
  exact ⟨h1, h2, h3, KK.same (u := U) (U := U.calling g mk a) rfl h4, h5⟩
def okV (n : Nat) (v : AV) : Prop := ∀ k, v = aR k → k < n
theorem okV_I (n : Nat) (x : Int32) : okV n (aI x) := fun k h => by cases h
theorem okV_N (n : Nat) : okV n aN := fun k h => by cases h
theorem okV_0 (n : Nat) : okV n none := fun k h => by cases h
theorem okV_R {n k : Nat} (h : k < n) : okV n (aR k) := fun j e => by cases e; exact h
theorem rv_ok {n : Nat} {ad ad' : Nat → Nat} {v : AV} (h : okV n v) (ha : ∀ j, j < n → ad' j = ad j) : rv ad' v = rv ad v := by
  rcases v with _ | (x | x) | _ | k
  · rfl
  · rfl
  · rfl
  · rfl
  · show Value.ref (ad' k) = Value.ref (ad k)
    rw [ha k (h k rfl)]
theorem rvs_ok {n : Nat} {ad ad' : Nat → Nat} (ha : ∀ j, j < n → ad' j = ad j) : ∀ {st : List AV}, (∀ v ∈ st, okV n v) → st.map (rv ad') = st.map (rv ad)
  | [], _ => rfl
  | v :: st, h => by
    rw [List.map_cons, List.map_cons, rv_ok (h v List.mem_cons_self) ha, rvs_ok ha (fun u hu => h u (List.mem_cons_of_mem _ hu))]
theorem lg_mem {L : List AV} {i : Nat} {x : (Int32 ⊕ Int64) ⊕ Option Nat} (h : lg L i = some x) : some x ∈ L := by
  have hl := lg_lt h
  unfold lg at h
  rw [List.getD_eq_getElem?_getD, List.getElem?_eq_getElem hl] at h
  rw [← h]
  exact List.getElem_mem hl
theorem Lc.moved {n : Nat} {ad ad' : Nat → Nat} {mL : Nat} {L : List AV} {ls : Array Slot} (h : Lc ad mL L ls) (hok : ∀ v ∈ L, okV n v) (ha : ∀ j, j < n → ad' j = ad j) : Lc ad' mL L ls :=
  ⟨h.1, h.2.1, fun i x hx => by rw [rv_ok (hok _ (lg_mem hx)) ha]; exact h.2.2 i x hx⟩
def okC (n : Nat) : AC → Prop
  | .inl _ => True
  | .inr (.inl (_, f)) => ∀ j i, f j = some i → i < n
  | .inr (.inr (_, fs)) => ∀ v ∈ fs, okV n v
theorem rc_ok {n : Nat} {cT : Nat → ClassId} {ad ad' : Nat → Nat} {c : AC} (h : okC n c) (ha : ∀ j, j < n → ad' j = ad j) : rc cT ad' c = rc cT ad c := by
  rcases c with ⟨t, m, f⟩ | ⟨m, f⟩ | ⟨ci, fs⟩
  · rfl
  · show (Sum.inl (cT 3, m, Sum.inr (Sum.inr (Sum.inr (Sum.inr fun j => (f j).map ad')))) : va_E) = Sum.inl (cT 3, m, Sum.inr (Sum.inr (Sum.inr (Sum.inr fun j => (f j).map ad))))
    have e : (fun j => (f j).map ad') = fun j => (f j).map ad := by
      funext j
      cases hj : f j with
      | none => rfl
      | some i => show some (ad' i) = some (ad i); rw [ha i (h j i hj)]
    rw [e]
  · show (Sum.inr (ci, fs.map (rv ad')) : va_E) = Sum.inr (ci, fs.map (rv ad))
    rw [rvs_ok ha h]
def clW (n : Nat) (w : Nat → AC) : Prop := ∀ k, k < n → okC n (w k)
theorem okV.mono {n m : Nat} {v : AV} (h : okV n v) (hm : n ≤ m) : okV m v := fun k e => Nat.lt_of_lt_of_le (h k e) hm
theorem okC.mono {n m : Nat} {c : AC} (h : okC n c) (hm : n ≤ m) : okC m c := by
  rcases c with ⟨t, q, f⟩ | ⟨q, f⟩ | ⟨ci, fs⟩
  · exact trivial
  · exact fun j i e => Nat.lt_of_lt_of_le (h j i e) hm
  · exact fun v hv => (h v hv).mono hm
theorem clW.up {n : Nat} {w : Nat → AC} {k : Nat} {c : AC} (h : clW n w) (hc : okC n c) : clW n (upw w k c) := by
  intro j hj
  by_cases e : j = k
  · subst e
    rw [upw_self]
    exact hc
  · rw [upw_ne _ _ _ e]
    exact h j hj
theorem clW.push {n : Nat} {w : Nat → AC} {c : AC} (h : clW n w) (hc : okC (n + 1) c) : clW (n + 1) (upw w n c) := by
  intro j hj
  by_cases e : j = n
  · subst e
    rw [upw_self]
    exact hc
  · rw [upw_ne _ _ _ e]
    exact (h j (by omega)).mono (by omega)
section
variable {p : Program} {l : Launch} {e : Env} {R : Room} {s : State} {m : MethodId} {args : Array Value} {below : List Frame} {meth : Method} {c : Code} {H : Heap} {locs : List Loc} {cells slots : Nat} {Q : State → Prop} {pc : Nat} {ls : Array Slot} {rest st0 : List Value}
theorem va_callW {D : va_G} {cT : Nat → ClassId} {A : Nat → Prop} {ad : Nat → Nat} {n : Nat} {w : Nat → AC} {Qa : Option AV → Nat → (Nat → AC) → Prop} {a : Array Value} {mc ms : Nat} {free : Addr → Prop} (hr : va_Run p l e R s m args below meth c H locs cells slots mc ms (F0 m pc ls st0) rest (QcW D cT ad H.size n w Qa a) free) (hS : va_S A s.heap H locs) (hA : ∀ q, va_A (wsW cT ad n w) H.size q → A q) (hf : ∀ q, free q → A q)
    (kk : ∀ (r : Option AV) (ad' : Nat → Nat) (n' : Nat) (w' : Nat → AC) (H1 : Heap) (locs1 : List Loc), Qa r n' w' → Ex n ad n' ad' → Rp D cT A s ad' n' w' H1 locs1 → W p l e R s m args below meth c H1 locs1 (cells + mc) (slots + ms) Q (F0 m (pc + 3) ls ((r.map (rv ad')).toList ++ rest))) : W p l e R s m args below meth c H locs cells slots Q (F0 m pc ls st0) := by
  intro T hT X
  obtain ⟨v, st₀, t, T', L, h0, X', hL, e1, e2, ⟨⟨r, ad', n', w', hv, hq, hex, hP', hD'⟩, hz, hk⟩, st⟩ := hr T hT X
  cases hv
  rw [h0] at hz hk
  obtain ⟨t2, a1, b1⟩ := kk r ad' n' w' T'.heap (locs ++ L) hq hex ⟨by rw [e1]; exact hP', hD'.weaken (fun _ q _ h => hA q.1 h), Nat.le_trans hS.1 (by rw [e1]; exact hz), fun q h1 h2 => by rw [e1, hk q (Nat.lt_of_lt_of_le h1 hS.1) (fun z => h2 (hA q z))]; exact hS.2.1 q h1 h2, fun q hq => by
      rcases List.mem_append.mp hq with h | h
      · exact hS.2.2 q h
      · exact hf _ (hL q h)⟩ T' rfl X'
  exact ⟨t2, st t2 a1, b1⟩
theorem vaA_in {cT : Nat → ClassId} {A : Nat → Prop} {ad : Nat → Nat} {n : Nat} {w : Nat → AC} {H0 : Heap} (hD : va_D A (wsW cT ad n w)) (hS : va_S A H0 H locs) (hA : ∀ q : Nat, H0.size ≤ q → A q) : ∀ q, va_A (wsW cT ad n w) H.size q → A q := by
  intro q h
  rcases h with ⟨k, e, h⟩ | h
  · exact hD.2 k _ h
  · exact hA q (Nat.le_trans hS.1 h)
end
section
variable {Γ : Gm} {l : Launch} {y : MethodName} {cc : ByteArray} {mL d mc ms : Nat} {pc n : Nat} {L st : List AV} {cs : Nat × Nat} {w : Nat → AC}
variable {idx mz np d' mc' ms' k0 : Nat} {z : MethodName} {cz : ByteArray} {rz : Option FieldType} {as st0 : List AV} {Qa : Option AV → Nat → (Nat → AC) → Prop}
theorem qa_callV (hΓ : Ok Γ l y cc mL d mc ms) (hd : decode cc pc = .ok (.invokevirtual idx, 3)) (hlk : Cond.methodLink y.cls idx z ∈ wsL_law) (hz : VW z cz mz rz np) (hS : Sp l z cz mz rz d' 0 0 (aR k0 :: as) n w Qa) (hdd : d' + 1 ≤ d) (hnp : as.length = np) {ci : Nat} {fs : List AV} {T : u_T} {N : Nat} (hk : k0 < n) (hw : w k0 = cObj ci fs) (hc : vwCl[ci]? = some (z.cls, T, N)) (hst : st0 = as.reverse ++ aR k0 :: st) (hl8 : st.length ≤ 4) (hcs : cs.1 ≤ mc ∧ cs.2 ≤ ms) (hq : ∀ r n' w', Qa r n' w' → n' = n) (kk : ∀ r w', Qa r n w' → Γ (pc + 3) L (r.toList ++ st) cs n w') : Γ pc L st0 cs n w := by
  obtain ⟨p, e, s, m, args, below, meth, c, D, cT, A, Q, n0, ad0, R, rfl, hx, hb, hml, hown, hnm, hts, hK, hA, hRf, hRl, hRc, hRs⟩ := hΓ
  intro ad H locs ls hE hR hL
  have he := wsW_get (cT := cT) (ad := ad) (w := w) hk
  rw [hw] at he
  obtain ⟨⟨z1, z2, z3, z4⟩, z5, z6⟩ := id hz
  subst hst
  refine va_callW (A := A) (va_runV (As := as.map (rv ad)) (rest := st.map (rv ad)) ⟨hx, hb, hml, hown, hts⟩ (hS D cT ad H.size) ⟨callB_of np hts hz.1.gi rfl rfl rfl (hts _ z1) (hts _ hlk) z4 ⟨by show d' + 1 ≤ _; omega, by show 8 + (mz + 11) + 37 * d' ≤ _; omega⟩, hts _ z5, hts _ z6⟩ ⟨PcW.blind, va_recv hK.1 hR.1 (ci := ci) (q0 := k0) hc he, fun U hU hW => ⟨rfl, by rw [hU], by rw [hU]; exact hR.1, KK.warm hW hK, hR.2.1.weaken (fun _ _ _ _ => trivial)⟩⟩ rfl (by rw [List.length_map]; exact hnp) hL.1 (by show List.map (rv ad) _ = _; rw [List.map_append, List.map_reverse]; rfl) (lv_room (Nat.le_trans (rv_sum ad st) (by omega))) hd ⟨by rw [hRc]; exact hcs.1, by rw [hRs]; exact hcs.2⟩) hR.2.2 (vaA_in hR.2.1 hR.2.2 hA) (vaA_in hR.2.1 hR.2.2 hA) (fun r ad' n' w' H1 locs1 q1 q2 q3 => ?_)
  have e := hq r n' w' q1
  subst e
  have e2 := q2.1 rfl
  subst e2
  have h9 := kk r w' q1 ad' H1 locs1 ls (hE.tr q2) q3 hL
  cases r with
  | none => exact h9
  | some v => exact h9
theorem qa_callS (hΓ : Ok Γ l y cc mL d mc ms) (hd : decode cc pc = .ok (.invokestatic idx, 3)) (hlk : Cond.methodLink y.cls idx z ∈ wsL_law) (hz : SW z cz mz rz np) (hS : Sp l z cz mz rz d' 0 0 as n w Qa) (hdd : d' + 1 ≤ d) (hnp : as.length = np) (hst : st0 = as.reverse ++ st) (hl8 : st.length ≤ 4) (hcs : cs.1 ≤ mc ∧ cs.2 ≤ ms) (hq : ∀ r n' w', Qa r n' w' → n' = n) (kk : ∀ r w', Qa r n w' → Γ (pc + 3) L (r.toList ++ st) cs n w') : Γ pc L st0 cs n w := by
  obtain ⟨p, e, s, m, args, below, meth, c, D, cT, A, Q, n0, ad0, R, rfl, hx, hb, hml, hown, hnm, hts, hK, hA, hRf, hRl, hRc, hRs⟩ := hΓ
  intro ad H locs ls hE hR hL
  obtain ⟨⟨z1, z2, z3, z4⟩, z5⟩ := id hz
  subst hst
  refine va_callW (A := A) (va_runS (As := as.map (rv ad)) (rest := st.map (rv ad)) ⟨hx, hb, hml, hown, hts⟩ (hS D cT ad H.size) ⟨callB_of np hts hz.1.gi rfl rfl rfl (hts _ z1) (hts _ hlk) z4 ⟨by show d' + 1 ≤ _; omega, by show 8 + (mz + 11) + 37 * d' ≤ _; omega⟩, hts _ z5⟩ ⟨PcW.blind, fun U hU hW => ⟨rfl, by rw [hU], by rw [hU]; exact hR.1, KK.warm hW hK, hR.2.1.weaken (fun _ _ _ _ => trivial)⟩⟩ rfl (by rw [List.length_map]; exact hnp) hL.1 (by show List.map (rv ad) _ = _; rw [List.map_append, List.map_reverse]) (lv_room (Nat.le_trans (rv_sum ad st) (by omega))) hd ⟨by rw [hRc]; exact hcs.1, by rw [hRs]; exact hcs.2⟩) hR.2.2 (vaA_in hR.2.1 hR.2.2 hA) (vaA_in hR.2.1 hR.2.2 hA) (fun r ad' n' w' H1 locs1 q1 q2 q3 => ?_)
  have e := hq r n' w' q1
  subst e
  have e2 := q2.1 rfl
  subst e2
  have h9 := kk r w' q1 ad' H1 locs1 ls (hE.tr q2) q3 hL
  cases r with
  | none => exact h9
  | some v => exact h9
theorem qa_callN (hΓ : Ok Γ l y cc mL d mc ms) (hd : decode cc pc = .ok (.invokestatic idx, 3)) (hlk : (y.cls, idx, z) ∈ nestG) (hz : SW z cz mz rz np) (hS : Sp l z cz mz rz d' 0 0 as n w Qa) (hdd : d' + 1 ≤ d) (hnp : as.length = np) (hst : st0 = as.reverse ++ st) (hl8 : st.length ≤ 4) (hcs : cs.1 ≤ mc ∧ cs.2 ≤ ms) (hq : ∀ r n' w', Qa r n' w' → n' = n) (kk : ∀ r w', Qa r n w' → Γ (pc + 3) L (r.toList ++ st) cs n w') : Γ pc L st0 cs n w := by
  obtain ⟨p, e, s, m, args, below, meth, c, D, cT, A, Q, n0, ad0, R, rfl, hx, hb, hml, hown, hnm, hts, hK, hA, hRf, hRl, hRc, hRs⟩ := hΓ
  intro ad H locs ls hE hR hL
  obtain ⟨⟨z1, z2, z3, z4⟩, z5⟩ := id hz
  subst hst
  refine va_callW (A := A) (va_runSN (As := as.map (rv ad)) (rest := st.map (rv ad)) ⟨hx, hb, hml, hown, hts⟩ (hS D cT ad H.size) ⟨va_cnB np hts hz.1.gi rfl rfl rfl (hK.2.2.1 _ hlk) (hts _ z1) z4 ⟨by show d' + 1 ≤ _; omega, by show 8 + (mz + 11) + 37 * d' ≤ _; omega⟩, hts _ z5, trivial⟩ ⟨PcW.blind, fun U hU hW => ⟨rfl, by rw [hU], by rw [hU]; exact hR.1, KK.warm hW hK, hR.2.1.weaken (fun _ _ _ _ => trivial)⟩⟩ rfl (by rw [List.length_map]; exact hnp) hL.1 (by show List.map (rv ad) _ = _; rw [List.map_append, List.map_reverse]) (lv_room (Nat.le_trans (rv_sum ad st) (by omega))) hd ⟨by rw [hRc]; exact hcs.1, by rw [hRs]; exact hcs.2⟩) hR.2.2 (vaA_in hR.2.1 hR.2.2 hA) (vaA_in hR.2.1 hR.2.2 hA) (fun r ad' n' w' H1 locs1 q1 q2 q3 => ?_)
  have e := hq r n' w' q1
  subst e
  have e2 := q2.1 rfl
  subst e2
  have h9 := kk r w' q1 ad' H1 locs1 ls (hE.tr q2) q3 hL
  cases r with
  | none => exact h9
  | some v => exact h9
theorem qa_callI (hΓ : Ok Γ l y cc mL d mc ms) (hd : decode cc pc = .ok (.invokespecial idx, 3)) (hlk : Cond.methodLink y.cls idx z ∈ wsL_law) (hz : IW z cz mz np) (hS : Sp l z cz mz none d' mc' ms' (aR k0 :: as) n w Qa) (hdd : d' + 1 ≤ d) (hnp : as.length = np) (hst : st0 = as.reverse ++ aR k0 :: st) (hl8 : st.length ≤ 4) (hcs : cs.1 + mc' ≤ mc ∧ cs.2 + ms' ≤ ms) (hq : ∀ r n' w', Qa r n' w' → r = none) (hokL : ∀ v ∈ L, okV n v) (hokS : ∀ v ∈ st, okV n v) (kk : ∀ n' w', n ≤ n' → Qa none n' w' → Γ (pc + 3) L st (cs.1 + mc', cs.2 + ms') n' w') : Γ pc L st0 cs n w := by
  obtain ⟨p, e, s, m, args, below, meth, c, D, cT, A, Q, n0, ad0, R, rfl, hx, hb, hml, hown, hnm, hts, hK, hA, hRf, hRl, hRc, hRs⟩ := hΓ
  intro ad H locs ls hE hR hL
  obtain ⟨⟨z1, z2, z3, z4⟩, z5, z6⟩ := id hz
  subst hst
  refine va_callW (A := A) (va_runI (As := as.map (rv ad)) (b := ad k0) (rest := st.map (rv ad)) ⟨hx, hb, hml, hown, hts⟩ (hS D cT ad H.size) ⟨callB_of np hts hz.1.gi rfl rfl rfl (hts _ z1) (hts _ hlk) z4 ⟨by show d' + 1 ≤ _; omega, by show 8 + (mz + 11) + 37 * d' ≤ _; omega⟩, z6, hts _ z5⟩ ⟨PcW.blind, fun U hU hW => ⟨rfl, by rw [hU], by rw [hU]; exact hR.1, KK.warm hW hK, hR.2.1.weaken (fun _ _ _ _ => trivial)⟩⟩ rfl (by rw [List.length_map]; exact hnp) hL.1 (by show List.map (rv ad) _ = _; rw [List.map_append, List.map_reverse]; rfl) (lv_room (Nat.le_trans (rv_sum ad st) (by omega))) hd ⟨by rw [hRc]; exact hcs.1, by rw [hRs]; exact hcs.2⟩) hR.2.2 (vaA_in hR.2.1 hR.2.2 hA) (vaA_in hR.2.1 hR.2.2 hA) (fun r ad' n' w' H1 locs1 q1 q2 q3 => ?_)
  have e := hq r n' w' q1
  subst e
  have h9 := kk n' w' q2.2.1 q1 ad' H1 locs1 ls (hE.tr q2) q3 (hL.moved hokL q2.2.2)
  rw [rvs_ok q2.2.2 hokS] at h9
  exact h9
theorem qa_callIN (hΓ : Ok Γ l y cc mL d mc ms) (hd : decode cc pc = .ok (.invokespecial idx, 3)) (hlk : (y.cls, idx, z) ∈ nestG) (hz : IW z cz mz np) (hS : Sp l z cz mz none d' mc' ms' (aR k0 :: as) n w Qa) (hdd : d' + 1 ≤ d) (hnp : as.length = np) (hst : st0 = as.reverse ++ aR k0 :: st) (hl8 : st.length ≤ 4) (hcs : cs.1 + mc' ≤ mc ∧ cs.2 + ms' ≤ ms) (hq : ∀ r n' w', Qa r n' w' → r = none) (hokL : ∀ v ∈ L, okV n v) (hokS : ∀ v ∈ st, okV n v) (kk : ∀ n' w', n ≤ n' → Qa none n' w' → Γ (pc + 3) L st (cs.1 + mc', cs.2 + ms') n' w') : Γ pc L st0 cs n w := by
  obtain ⟨p, e, s, m, args, below, meth, c, D, cT, A, Q, n0, ad0, R, rfl, hx, hb, hml, hown, hnm, hts, hK, hA, hRf, hRl, hRc, hRs⟩ := hΓ
  intro ad H locs ls hE hR hL
  obtain ⟨⟨z1, z2, z3, z4⟩, z5, z6⟩ := id hz
  subst hst
  refine va_callW (A := A) (va_runIN (As := as.map (rv ad)) (b := ad k0) (rest := st.map (rv ad)) ⟨hx, hb, hml, hown, hts⟩ (hS D cT ad H.size) ⟨va_cnB np hts hz.1.gi rfl rfl rfl (hK.2.2.1 _ hlk) (hts _ z1) z4 ⟨by show d' + 1 ≤ _; omega, by show 8 + (mz + 11) + 37 * d' ≤ _; omega⟩, z6, hts _ z5⟩ ⟨PcW.blind, fun U hU hW => ⟨rfl, by rw [hU], by rw [hU]; exact hR.1, KK.warm hW hK, hR.2.1.weaken (fun _ _ _ _ => trivial)⟩⟩ rfl (by rw [List.length_map]; exact hnp) hL.1 (by show List.map (rv ad) _ = _; rw [List.map_append, List.map_reverse]; rfl) (lv_room (Nat.le_trans (rv_sum ad st) (by omega))) hd ⟨by rw [hRc]; exact hcs.1, by rw [hRs]; exact hcs.2⟩) hR.2.2 (vaA_in hR.2.1 hR.2.2 hA) (vaA_in hR.2.1 hR.2.2 hA) (fun r ad' n' w' H1 locs1 q1 q2 q3 => ?_)
  have e := hq r n' w' q1
  subst e
  have h9 := kk n' w' q2.2.1 q1 ad' H1 locs1 ls (hE.tr q2) q3 (hL.moved hokL q2.2.2)
  rw [rvs_ok q2.2.2 hokS] at h9
  exact h9
end
end
section
theorem arr_int : Cond.arrayClass .int ∈ wsL_law := List.mem_of_getElem? (i := 31) (by decide +kernel)
theorem arr_char : Cond.arrayClass .char ∈ wsL_law := List.mem_of_getElem? (i := 49) (by decide +kernel)
theorem obj_ins : Cond.instanceMethod Lib.objectInit ∈ wsL_law := List.mem_of_getElem? (i := 7) (by decide +kernel)
theorem obj_cod : Cond.code Lib.objectInit ⟨#[0xb1]⟩ 1 none ∈ wsL_law := List.mem_of_getElem? (i := 8) (by decide +kernel)
def adN (ad : Nat → Nat) (n q : Nat) : Nat → Nat := fun j => if j = n then q else ad j
theorem adN_lt {ad : Nat → Nat} {n q : Nat} : ∀ j, j < n → adN ad n q j = ad j := fun j hj => by
  unfold adN
  rw [if_neg (by omega)]
theorem Ex.push {n0 n q : Nat} {ad0 ad : Nat → Nat} (h : Ex n0 ad0 n ad) : Ex n0 ad0 (n + 1) (adN ad n q) := by
  obtain ⟨h1, h2, h3⟩ := h
  exact ⟨fun e => by omega, by omega, fun j hj => (adN_lt j (by omega)).trans (h3 j hj)⟩
theorem wsW_new {cT : Nat → ClassId} {ad : Nat → Nat} {n q : Nat} {w : Nat → AC} {c : AC} (hc : clW n w) (hi : ∀ a b : Nat → Nat, rc cT a c = rc cT b c) : wsW cT ad n w ++ [(q, rc cT ad c)] = wsW cT (adN ad n q) (n + 1) (upw w n c) := by
  rw [← wsW_push (ad := ad) (ad' := adN ad n q) (q := q) c (by simp [adN]) adN_lt (fun k hk => rc_ok (hc k hk) adN_lt), hi ad (adN ad n q)]
/-- a class that may be made: its words, and the fields of a new object -/
def CLK (own : String) (idx ci : Nat) (N : Nat) (fs : List AV) : Prop := ∃ (C : String) (T : u_T) (ty0 : Nat → FieldType), vwCl[ci]? = some (C, T, N) ∧ (∀ w ∈ u_ws C T N, w ∈ wsL_law) ∧ (∀ j, j < N → parseFieldDescriptor (T j).2.2.1 = some (ty0 j)) ∧ Cond.classLink own idx C ∈ wsL_law ∧ Cond.instantiable C N ∈ wsL_law ∧ Cond.initialized C ∈ wsL_law ∧ (∀ (ad : Nat → Nat) (j : Nat), j < N → defaultValue (ty0 j) = vp_V (fs.map (rv ad)) j) ∧ (∀ a b : Nat → Nat, fs.map (rv a) = fs.map (rv b))
theorem same_cls {D : va_G} {cT : Nat → ClassId} {s : State} (hK : KK D cT s) (t : Nat) {ty : FieldType} (ht : (tysG cT)[t]? = some (cT t, ty)) {cA : ClassId} (h2 : va_K D vwCl (tysG cT ++ [(cA, ty)]) s) : cA = cT t := by
  have h1 := (hK.1.2 t _ ht).2
  have h3 := (h2.2 4 (cA, ty) (by simp [tysG])).2
  have key : ∀ c, va_RA s c ty → s.vm.findClass ("[" ++ ty.toString) = some c := by
    intro c hc
    cases ty with
    | object C => obtain ⟨_, _, _, _, _, h⟩ := hc; exact h
    | _ => exact hc
  exact Option.some.inj ((key _ h3).symm.trans (key _ h1))
section
variable {Γ : Gm} {l : Launch} {y : MethodName} {cc : ByteArray} {mL d mc ms : Nat} {pc n : Nat} {L st : List AV} {cs : Nat × Nat} {w : Nat → AC}
theorem qa_new (hΓ : Ok Γ l y cc mL d mc ms) {idx ci N : Nat} {fs : List AV} (hd : decode cc pc = .ok (.new idx, 3)) (hc : CLK y.cls idx ci N fs) (hcs : cs.1 + 1 ≤ mc ∧ cs.2 + N ≤ ms) (hw : clW n w) (hokL : ∀ v ∈ L, okV n v) (hokS : ∀ v ∈ st, okV n v) (kk : Γ (pc + 3) L (aR n :: st) (cs.1 + 1, cs.2 + N) (n + 1) (upw w n (cObj ci fs))) : Γ pc L st cs n w := by
  obtain ⟨p, e, s, m, args, below, meth, c, D, cT, A, Q, n0, ad0, R, rfl, hx, hb, hml, hown, hnm, hts, hK, hA, hRf, hRl, hRc, hRs⟩ := hΓ
  intro ad H locs ls hE hR hL
  obtain ⟨C, T, ty0, f1, f2, f3, f4, f5, f6, f7, f8⟩ := hc
  refine va_new (fs := fs.map (rv ad)) (C := C) (T := T) (N := N) hx hb hts f2 ty0 f3 hown (hts _ f4) (hts _ f5) (hts _ f6) hK.1 hR.1 hR.2.1 hR.2.2 hA f1 (f7 ad) (by rw [hRc]; exact hcs.1) (by rw [hRs]; exact hcs.2) hd (fun q H1 g1 g2 g3 => ?_)
  have e := wsW_new (cT := cT) (ad := ad) (q := q) (c := cObj ci fs) hw (fun a b => by show (Sum.inr (ci, fs.map (rv a)) : va_E) = Sum.inr (ci, fs.map (rv b)); rw [f8 a b])
  have h9 := kk (adN ad n q) H1 locs ls hE.push ⟨e ▸ g1, e ▸ g2, g3⟩ (hL.moved hokL adN_lt)
  rw [List.map_cons, rvs_ok adN_lt hokS, show rv (adN ad n q) (aR n) = Value.ref q by simp [rv, adN]] at h9
  exact h9
theorem qa_newa_int (hΓ : Ok Γ l y cc mL d mc ms) {N : Nat} {v : Int32} (hd : decode cc pc = .ok (.newarray .int, 2)) (hv : v = nI N) (hN : N < 1000000) (hcs : cs.1 + 1 ≤ mc ∧ cs.2 + N ≤ ms) (hw : clW n w) (hokL : ∀ v ∈ L, okV n v) (hokS : ∀ v ∈ st, okV n v) (kk : Γ (pc + 2) L (aR n :: st) (cs.1 + 1, cs.2 + N) (n + 1) (upw w n (cArr 0 N (fun _ => 0)))) : Γ pc L (aI v :: st) cs n w := by
  obtain ⟨p, e, s, m, args, below, meth, c, D, cT, A, Q, n0, ad0, R, rfl, hx, hb, hml, hown, hnm, hts, hK, hA, hRf, hRl, hRc, hRs⟩ := hΓ
  intro ad H locs ls hE hR hL
  subst hv
  refine va_newa (atype := .int) (ty := .int) (a0 := (N, .inl (fun _ => 0))) hx hb (hts _ arr_int) rfl hK.1 hR.1 hR.2.1 hR.2.2 hA (fun _ => rfl) (nI_pos (by omega)) (nI_clamp (by omega)) (Nat.le_trans (Nat.mul_le_mul_left N (show componentBytes .int ≤ 8 by decide)) (by omega)) (by rw [hRc]; exact hcs.1) (by rw [hRs]; exact hcs.2) hd (fun q cA H1 g0 g1 g2 g3 => ?_)
  have ec := same_cls hK 0 (ty_int cT) g0
  subst ec
  have e := wsW_new (cT := cT) (ad := ad) (q := q) (c := cArr 0 N (fun _ => 0)) hw (fun _ _ => rfl)
  have h9 := kk (adN ad n q) H1 locs ls hE.push ⟨e ▸ g1, e ▸ g2, g3⟩ (hL.moved hokL adN_lt)
  rw [List.map_cons, rvs_ok adN_lt hokS, show rv (adN ad n q) (aR n) = Value.ref q by simp [rv, adN]] at h9
  exact h9
theorem qa_newa_char (hΓ : Ok Γ l y cc mL d mc ms) {N : Nat} {v : Int32} (hd : decode cc pc = .ok (.newarray .char, 2)) (hv : v = nI N) (hN : N < 1000000) (hcs : cs.1 + 1 ≤ mc ∧ cs.2 + N ≤ ms) (hw : clW n w) (hokL : ∀ v ∈ L, okV n v) (hokS : ∀ v ∈ st, okV n v) (kk : Γ (pc + 2) L (aR n :: st) (cs.1 + 1, cs.2 + N) (n + 1) (upw w n (cArr 2 N (fun _ => 0)))) : Γ pc L (aI v :: st) cs n w := by
  obtain ⟨p, e, s, m, args, below, meth, c, D, cT, A, Q, n0, ad0, R, rfl, hx, hb, hml, hown, hnm, hts, hK, hA, hRf, hRl, hRc, hRs⟩ := hΓ
  intro ad H locs ls hE hR hL
  subst hv
  refine va_newa (atype := .char) (ty := .char) (a0 := (N, .inl (fun _ => 0))) hx hb (hts _ arr_char) rfl hK.1 hR.1 hR.2.1 hR.2.2 hA (fun _ => rfl) (nI_pos (by omega)) (nI_clamp (by omega)) (Nat.le_trans (Nat.mul_le_mul_left N (show componentBytes .char ≤ 8 by decide)) (by omega)) (by rw [hRc]; exact hcs.1) (by rw [hRs]; exact hcs.2) hd (fun q cA H1 g0 g1 g2 g3 => ?_)
  have ec := same_cls hK 2 (ty_char cT) g0
  subst ec
  have e := wsW_new (cT := cT) (ad := ad) (q := q) (c := cArr 2 N (fun _ => 0)) hw (fun _ _ => rfl)
  have h9 := kk (adN ad n q) H1 locs ls hE.push ⟨e ▸ g1, e ▸ g2, g3⟩ (hL.moved hokL adN_lt)
  rw [List.map_cons, rvs_ok adN_lt hokS, show rv (adN ad n q) (aR n) = Value.ref q by simp [rv, adN]] at h9
  exact h9
theorem qa_newq (hΓ : Ok Γ l y cc mL d mc ms) {idx N : Nat} {v : Int32} (hd : decode cc pc = .ok (.anewarray idx, 3)) (hc : Cond.classLink y.cls idx "RelayBank$Bank" ∈ wsL_law) (hv : v = nI N) (hN : N < 1000000) (hcs : cs.1 + 1 ≤ mc ∧ cs.2 + N ≤ ms) (hw : clW n w) (hokL : ∀ v ∈ L, okV n v) (hokS : ∀ v ∈ st, okV n v) (kk : Γ (pc + 3) L (aR n :: st) (cs.1 + 1, cs.2 + N) (n + 1) (upw w n (cRef N (fun _ => none)))) : Γ pc L (aI v :: st) cs n w := by
  obtain ⟨p, e, s, m, args, below, meth, c, D, cT, A, Q, n0, ad0, R, rfl, hx, hb, hml, hown, hnm, hts, hK, hA, hRf, hRl, hRc, hRs⟩ := hΓ
  intro ad H locs ls hE hR hL
  subst hv
  refine va_newq (C := "RelayBank$Bank") hx hb hown (hts _ hc) hK.2.1 hK.1 hR.1 hR.2.1 hR.2.2 hA (nI_pos (by omega)) (nI_clamp (by omega)) (by omega) (by rw [hRc]; exact hcs.1) (by rw [hRs]; exact hcs.2) hd (fun q cA H1 g0 g1 g2 g3 => ?_)
  have ec := same_cls hK 3 (ty_ref cT) g0
  subst ec
  have e := wsW_new (cT := cT) (ad := ad) (q := q) (c := cRef N (fun _ => none)) hw (fun _ _ => rfl)
  have h9 := kk (adN ad n q) H1 locs ls hE.push ⟨e ▸ g1, e ▸ g2, g3⟩ (hL.moved hokL adN_lt)
  rw [List.map_cons, rvs_ok adN_lt hokS, show rv (adN ad n q) (aR n) = Value.ref q by simp [rv, adN]] at h9
  exact h9
theorem qa_objInit (hΓ : Ok Γ l y cc mL d mc ms) {idx k0 : Nat} (hd : decode cc pc = .ok (.invokespecial idx, 3)) (hlk : Cond.methodLink y.cls idx Lib.objectInit ∈ wsL_law) (hdd : 1 ≤ d) (hl8 : st.length ≤ 4) (kk : Γ (pc + 3) L st cs n w) : Γ pc L (aR k0 :: st) cs n w := by
  obtain ⟨p, e, s, m, args, below, meth, c, D, cT, A, Q, n0, ad0, R, rfl, hx, hb, hml, hown, hnm, hts, hK, hA, hRf, hRl, hRc, hRs⟩ := hΓ
  intro ad H locs ls hE hR hL
  refine W.objInit hx hb hown (hts _ hlk) (hts _ obj_ins) (hts _ obj_cod) rfl (by rw [hml]; exact hL.1) rfl hd (by omega) (by
    have h1 := rv_sum ad st
    have h2 := lv_room (m := m) (pc := pc) (ls := ls) (rest := st.map (rv ad)) (st := st.map (rv ad)) (by omega)
    show 2 * 0 + ((st.map (rv ad)).map fun v => v.category).sum + 12 ≤ R.locals
    omega) ?_
  exact kk ad H locs ls hE hR hL
end
end
section
theorem clk_L_13 : Cond.classLink RL 13 RX5 ∈ wsL_law := List.mem_of_getElem? (i := 0) (by decide +kernel)
theorem lk_L_76 : Cond.methodLink RL 76 yX5_init ∈ wsL_law := List.mem_of_getElem? (i := 3) (by decide +kernel)
theorem lk_X5_3 : Cond.methodLink RX5 3 objectInit ∈ wsL_law := List.mem_of_getElem? (i := 6) (by decide +kernel)
theorem clk_X5_9 : Cond.classLink RX5 9 RX0 ∈ wsL_law := List.mem_of_getElem? (i := 9) (by decide +kernel)
theorem fk_X5_12 : FLK RX5 12 4 0 true (.object "RelayBank$Bank") := ⟨RX5, TX5, 6, tyX5, rfl, inlX5, by decide, List.mem_of_getElem? (i := 12) (by decide +kernel), tyX5_ok, nmX5, rfl, tyX5_ok 0 (by decide), rfl⟩
theorem clk_X5_16 : Cond.classLink RX5 16 RX3 ∈ wsL_law := List.mem_of_getElem? (i := 13) (by decide +kernel)
theorem fk_X5_19 : FLK RX5 19 4 1 true (.object "RelayBank$Past") := ⟨RX5, TX5, 6, tyX5, rfl, inlX5, by decide, List.mem_of_getElem? (i := 16) (by decide +kernel), tyX5_ok, nmX5, rfl, tyX5_ok 1 (by decide), rfl⟩
theorem clk_X5_23 : Cond.classLink RX5 23 RX4 ∈ wsL_law := List.mem_of_getElem? (i := 17) (by decide +kernel)
theorem fk_X5_26 : FLK RX5 26 4 2 true (.object "RelayBank$Text") := ⟨RX5, TX5, 6, tyX5, rfl, inlX5, by decide, List.mem_of_getElem? (i := 20) (by decide +kernel), tyX5_ok, nmX5, rfl, tyX5_ok 2 (by decide), rfl⟩
theorem clk_X5_30 : Cond.classLink RX5 30 RX2 ∈ wsL_law := List.mem_of_getElem? (i := 21) (by decide +kernel)
theorem fk_X5_33 : FLK RX5 33 4 3 true (.object "RelayBank$CircuitReader") := ⟨RX5, TX5, 6, tyX5, rfl, inlX5, by decide, List.mem_of_getElem? (i := 24) (by decide +kernel), tyX5_ok, nmX5, rfl, tyX5_ok 3 (by decide), rfl⟩
theorem fk_X5_37 : FLK RX5 37 4 4 true (.object "RelayBank$Bank") := ⟨RX5, TX5, 6, tyX5, rfl, inlX5, by decide, List.mem_of_getElem? (i := 25) (by decide +kernel), tyX5_ok, nmX5, rfl, tyX5_ok 4 (by decide), rfl⟩
theorem fk_X5_40 : FLK RX5 40 4 5 true (.object "RelayBank$Bank") := ⟨RX5, TX5, 6, tyX5, rfl, inlX5, by decide, List.mem_of_getElem? (i := 26) (by decide +kernel), tyX5_ok, nmX5, rfl, tyX5_ok 5 (by decide), rfl⟩
theorem lk_X5_11 : Cond.methodLink RX5 11 yX0_init ∈ wsL_law := List.mem_of_getElem? (i := 27) (by decide +kernel)
theorem lk_X0_3 : Cond.methodLink RX0 3 objectInit ∈ wsL_law := List.mem_of_getElem? (i := 30) (by decide +kernel)
theorem fk_X0_9 : FLK RX0 9 0 0 true (.array .int) := ⟨RX0, TX0, 15, tyX0, rfl, inlX0, by decide, List.mem_of_getElem? (i := 32) (by decide +kernel), tyX0_ok, nmX0, rfl, tyX0_ok 0 (by decide), rfl⟩
theorem fk_X0_15 : FLK RX0 15 0 1 true (.array .int) := ⟨RX0, TX0, 15, tyX0, rfl, inlX0, by decide, List.mem_of_getElem? (i := 33) (by decide +kernel), tyX0_ok, nmX0, rfl, tyX0_ok 1 (by decide), rfl⟩
theorem fk_X0_18 : FLK RX0 18 0 2 true (.array .int) := ⟨RX0, TX0, 15, tyX0, rfl, inlX0, by decide, List.mem_of_getElem? (i := 34) (by decide +kernel), tyX0_ok, nmX0, rfl, tyX0_ok 2 (by decide), rfl⟩
theorem fk_X0_21 : FLK RX0 21 0 3 true (.array .int) := ⟨RX0, TX0, 15, tyX0, rfl, inlX0, by decide, List.mem_of_getElem? (i := 35) (by decide +kernel), tyX0_ok, nmX0, rfl, tyX0_ok 3 (by decide), rfl⟩
theorem fk_X0_24 : FLK RX0 24 0 4 true (.array .int) := ⟨RX0, TX0, 15, tyX0, rfl, inlX0, by decide, List.mem_of_getElem? (i := 36) (by decide +kernel), tyX0_ok, nmX0, rfl, tyX0_ok 4 (by decide), rfl⟩
theorem fk_X0_27 : FLK RX0 27 0 5 true (.array .int) := ⟨RX0, TX0, 15, tyX0, rfl, inlX0, by decide, List.mem_of_getElem? (i := 37) (by decide +kernel), tyX0_ok, nmX0, rfl, tyX0_ok 5 (by decide), rfl⟩
theorem ck_X0_30 : Cond.constant RX0 30 (2147483647) ∈ wsL_law := List.mem_of_getElem? (i := 38) (by decide +kernel)
theorem lk_X5_18 : Cond.methodLink RX5 18 yX3_init ∈ wsL_law := List.mem_of_getElem? (i := 39) (by decide +kernel)
theorem lk_X3_3 : Cond.methodLink RX3 3 objectInit ∈ wsL_law := List.mem_of_getElem? (i := 42) (by decide +kernel)
theorem clk_X3_9 : Cond.classLink RX3 9 RX0 ∈ wsL_law := List.mem_of_getElem? (i := 43) (by decide +kernel)
theorem fk_X3_11 : FLK RX3 11 2 0 true (.array (.object "RelayBank$Bank")) := ⟨RX3, TX3, 3, tyX3, rfl, inlX3, by decide, List.mem_of_getElem? (i := 44) (by decide +kernel), tyX3_ok, nmX3, rfl, tyX3_ok 0 (by decide), rfl⟩
theorem lk_X3_17 : Cond.methodLink RX3 17 yX0_init ∈ wsL_law := List.mem_of_getElem? (i := 45) (by decide +kernel)
theorem lk_X4_3 : Cond.methodLink RX4 3 objectInit ∈ wsL_law := List.mem_of_getElem? (i := 48) (by decide +kernel)
theorem fk_X4_9 : FLK RX4 9 3 0 true (.array .char) := ⟨RX4, TX4, 2, tyX4, rfl, inlX4, by decide, List.mem_of_getElem? (i := 50) (by decide +kernel), tyX4_ok, nmX4, rfl, tyX4_ok 0 (by decide), rfl⟩
theorem lk_X2_3 : Cond.methodLink RX2 3 objectInit ∈ wsL_law := List.mem_of_getElem? (i := 53) (by decide +kernel)
theorem fk_X2_9 : FLK RX2 9 1 0 true (.array .int) := ⟨RX2, TX2, 4, tyX2, rfl, inlX2, by decide, List.mem_of_getElem? (i := 54) (by decide +kernel), tyX2_ok, nmX2, rfl, tyX2_ok 0 (by decide), rfl⟩
theorem lk_L_77 : Cond.methodLink RL 77 yL_cell ∈ wsL_law := List.mem_of_getElem? (i := 55) (by decide +kernel)
theorem lk_L_81 : Cond.methodLink RL 81 yL_tale ∈ wsL_law := List.mem_of_getElem? (i := 59) (by decide +kernel)
theorem ckl_L_8 : Cond.constantLong RL 8 (3) ∈ wsL_law := List.mem_of_getElem? (i := 62) (by decide +kernel)
theorem ckl_L_10 : Cond.constantLong RL 10 (31) ∈ wsL_law := List.mem_of_getElem? (i := 63) (by decide +kernel)
theorem ckl_L_18 : Cond.constantLong RL 18 (37) ∈ wsL_law := List.mem_of_getElem? (i := 64) (by decide +kernel)
theorem ckl_L_24 : Cond.constantLong RL 24 (41) ∈ wsL_law := List.mem_of_getElem? (i := 65) (by decide +kernel)
theorem ckl_L_30 : Cond.constantLong RL 30 (43) ∈ wsL_law := List.mem_of_getElem? (i := 66) (by decide +kernel)
theorem ckl_L_35 : Cond.constantLong RL 35 (5) ∈ wsL_law := List.mem_of_getElem? (i := 67) (by decide +kernel)
theorem ckl_L_37 : Cond.constantLong RL 37 (7) ∈ wsL_law := List.mem_of_getElem? (i := 68) (by decide +kernel)
theorem lk_L_12 : Cond.methodLink RL 12 yX5_count ∈ wsL_law := List.mem_of_getElem? (i := 69) (by decide +kernel)
theorem lk_X5_156 : Cond.methodLink RX5 156 yX0_waiting ∈ wsL_law := List.mem_of_getElem? (i := 73) (by decide +kernel)
theorem lk_X5_166 : Cond.methodLink RX5 166 yX0_closedContacts ∈ wsL_law := List.mem_of_getElem? (i := 77) (by decide +kernel)
theorem fk_X0_50 : FLK RX0 50 0 10 false .int := ⟨RX0, TX0, 15, tyX0, rfl, inlX0, by decide, List.mem_of_getElem? (i := 81) (by decide +kernel), tyX0_ok, nmX0, rfl, tyX0_ok 10 (by decide), rfl⟩
theorem fk_X0_53 : FLK RX0 53 0 11 false .int := ⟨RX0, TX0, 15, tyX0, rfl, inlX0, by decide, List.mem_of_getElem? (i := 82) (by decide +kernel), tyX0_ok, nmX0, rfl, tyX0_ok 11 (by decide), rfl⟩
theorem fk_X0_59 : FLK RX0 59 0 13 false .int := ⟨RX0, TX0, 15, tyX0, rfl, inlX0, by decide, List.mem_of_getElem? (i := 83) (by decide +kernel), tyX0_ok, nmX0, rfl, tyX0_ok 13 (by decide), rfl⟩
theorem fk_X0_62 : FLK RX0 62 0 14 false .int := ⟨RX0, TX0, 15, tyX0, rfl, inlX0, by decide, List.mem_of_getElem? (i := 84) (by decide +kernel), tyX0_ok, nmX0, rfl, tyX0_ok 14 (by decide), rfl⟩
theorem lk_L_20 : Cond.methodLink RL 20 yX5_relay ∈ wsL_law := List.mem_of_getElem? (i := 85) (by decide +kernel)
theorem lk_X5_59 : Cond.methodLink RX5 59 yX0_has ∈ wsL_law := List.mem_of_getElem? (i := 89) (by decide +kernel)
theorem fk_X0_37 : FLK RX0 37 0 6 false .int := ⟨RX0, TX0, 15, tyX0, rfl, inlX0, by decide, List.mem_of_getElem? (i := 93) (by decide +kernel), tyX0_ok, nmX0, rfl, tyX0_ok 6 (by decide), rfl⟩
theorem lk_X5_176 : Cond.methodLink RX5 176 yX5_at ∈ wsL_law := List.mem_of_getElem? (i := 96) (by decide +kernel)
theorem lk_X5_67 : Cond.methodLink RX5 67 yX0_branchesOf ∈ wsL_law := List.mem_of_getElem? (i := 99) (by decide +kernel)
theorem lk_X5_117 : Cond.methodLink RX5 117 yX0_faultOf ∈ wsL_law := List.mem_of_getElem? (i := 103) (by decide +kernel)
theorem lk_X5_127 : Cond.methodLink RX5 127 yX5_bitOf ∈ wsL_law := List.mem_of_getElem? (i := 109) (by decide +kernel)
theorem lk_X5_186 : Cond.methodLink RX5 186 yX0_concerns ∈ wsL_law := List.mem_of_getElem? (i := 112) (by decide +kernel)
theorem lk_X0_81 : Cond.methodLink RX0 81 yX0_branchesOf ∈ wsL_law := List.mem_of_getElem? (i := 116) (by decide +kernel)
theorem lk_X0_85 : Cond.methodLink RX0 85 yX0_branchAt ∈ wsL_law := List.mem_of_getElem? (i := 117) (by decide +kernel)
theorem lk_X0_103 : Cond.methodLink RX0 103 yX1_howOf ∈ wsL_law := List.mem_of_getElem? (i := 121) (by decide +kernel)
theorem lk_X1_9 : Cond.methodLink RX1 9 yX1_bit ∈ wsL_law := List.mem_of_getElem? (i := 125) (by decide +kernel)
theorem lk_X5_189 : Cond.methodLink RX5 189 yX0_failing ∈ wsL_law := List.mem_of_getElem? (i := 128) (by decide +kernel)
theorem fk_X0_44 : FLK RX0 44 0 8 false .int := ⟨RX0, TX0, 15, tyX0, rfl, inlX0, by decide, List.mem_of_getElem? (i := 132) (by decide +kernel), tyX0_ok, nmX0, rfl, tyX0_ok 8 (by decide), rfl⟩
theorem ck_X0_113 : Cond.constant RX0 113 (65535) ∈ wsL_law := List.mem_of_getElem? (i := 133) (by decide +kernel)
theorem lk_X0_110 : Cond.methodLink RX0 110 yX0_closedContacts ∈ wsL_law := List.mem_of_getElem? (i := 134) (by decide +kernel)
theorem lk_X5_192 : Cond.methodLink RX5 192 yX0_conducts ∈ wsL_law := List.mem_of_getElem? (i := 135) (by decide +kernel)
theorem lk_L_26 : Cond.methodLink RL 26 yX5_condition ∈ wsL_law := List.mem_of_getElem? (i := 139) (by decide +kernel)
theorem lk_X5_71 : Cond.methodLink RX5 71 yX5_isWithin ∈ wsL_law := List.mem_of_getElem? (i := 143) (by decide +kernel)
theorem lk_X5_195 : Cond.methodLink RX5 195 yX0_branchAt ∈ wsL_law := List.mem_of_getElem? (i := 144) (by decide +kernel)
theorem lk_X5_198 : Cond.methodLink RX5 198 yX1_howOf ∈ wsL_law := List.mem_of_getElem? (i := 145) (by decide +kernel)
theorem lk_L_32 : Cond.methodLink RL 32 yX5_event ∈ wsL_law := List.mem_of_getElem? (i := 146) (by decide +kernel)
theorem lk_X5_203 : Cond.methodLink RX5 203 yX0_slotAt ∈ wsL_law := List.mem_of_getElem? (i := 150) (by decide +kernel)
theorem lk_X0_135 : Cond.methodLink RX0 135 yX0_eventsBefore ∈ wsL_law := List.mem_of_getElem? (i := 154) (by decide +kernel)
theorem lk_X5_141 : Cond.methodLink RX5 141 yX0_relayOf ∈ wsL_law := List.mem_of_getElem? (i := 158) (by decide +kernel)
theorem lk_X5_134 : Cond.methodLink RX5 134 yX0_kindOf ∈ wsL_law := List.mem_of_getElem? (i := 161) (by decide +kernel)
theorem fk_X0_47 : FLK RX0 47 0 9 false .int := ⟨RX0, TX0, 15, tyX0, rfl, inlX0, by decide, List.mem_of_getElem? (i := 165) (by decide +kernel), tyX0_ok, nmX0, rfl, tyX0_ok 9 (by decide), rfl⟩
theorem lk_X0_124 : Cond.methodLink RX0 124 yX0_isBounceEnd ∈ wsL_law := List.mem_of_getElem? (i := 166) (by decide +kernel)
theorem lk_X0_128 : Cond.methodLink RX0 128 yX0_relayOf ∈ wsL_law := List.mem_of_getElem? (i := 169) (by decide +kernel)
theorem lk_L_85 : Cond.methodLink RL 85 yL_does ∈ wsL_law := List.mem_of_getElem? (i := 170) (by decide +kernel)
theorem lk_L_39 : Cond.methodLink RL 39 yL_low ∈ wsL_law := List.mem_of_getElem? (i := 173) (by decide +kernel)
theorem ck_L_7 : Cond.constant RL 7 (2147483647) ∈ wsL_law := List.mem_of_getElem? (i := 176) (by decide +kernel)
theorem lk_L_44 : Cond.methodLink RL 44 yX5_addRelay ∈ wsL_law := List.mem_of_getElem? (i := 177) (by decide +kernel)
theorem lk_X5_43 : Cond.methodLink RX5 43 yX5_areDelays ∈ wsL_law := List.mem_of_getElem? (i := 181) (by decide +kernel)
theorem lk_X5_51 : Cond.methodLink RX5 51 yX3_save ∈ wsL_law := List.mem_of_getElem? (i := 184) (by decide +kernel)
theorem fk_X3_28 : FLK RX3 28 2 2 false .int := ⟨RX3, TX3, 3, tyX3, rfl, inlX3, by decide, List.mem_of_getElem? (i := 188) (by decide +kernel), tyX3_ok, nmX3, rfl, tyX3_ok 2 (by decide), rfl⟩
theorem fk_X3_18 : FLK RX3 18 2 1 false .int := ⟨RX3, TX3, 3, tyX3, rfl, inlX3, by decide, List.mem_of_getElem? (i := 189) (by decide +kernel), tyX3_ok, nmX3, rfl, tyX3_ok 1 (by decide), rfl⟩
theorem lk_X3_22 : Cond.methodLink RX3 22 yJ9_floorMod_7cf53 ∈ wsL_law := List.mem_of_getElem? (i := 190) (by decide +kernel)
theorem lk_X3_31 : Cond.methodLink RX3 31 yX3_bankAt ∈ wsL_law := List.mem_of_getElem? (i := 194) (by decide +kernel)
theorem lk_X3_35 : Cond.methodLink RX3 35 yX0_copy ∈ wsL_law := List.mem_of_getElem? (i := 198) (by decide +kernel)
theorem lk_X0_31 : Cond.methodLink RX0 31 arraycopyName ∈ wsL_law := List.mem_of_getElem? (i := 202) (by decide +kernel)
theorem fk_X0_41 : FLK RX0 41 0 7 false .int := ⟨RX0, TX0, 15, tyX0, rfl, inlX0, by decide, List.mem_of_getElem? (i := 206) (by decide +kernel), tyX0_ok, nmX0, rfl, tyX0_ok 7 (by decide), rfl⟩
theorem fk_X0_56 : FLK RX0 56 0 12 false .int := ⟨RX0, TX0, 15, tyX0, rfl, inlX0, by decide, List.mem_of_getElem? (i := 207) (by decide +kernel), tyX0_ok, nmX0, rfl, tyX0_ok 12 (by decide), rfl⟩
theorem lk_X5_55 : Cond.methodLink RX5 55 yX0_add ∈ wsL_law := List.mem_of_getElem? (i := 208) (by decide +kernel)
theorem lk_X0_69 : Cond.methodLink RX0 69 yX0_putDelays ∈ wsL_law := List.mem_of_getElem? (i := 212) (by decide +kernel)
theorem lk_L_47 : Cond.methodLink RL 47 yX5_setDelays ∈ wsL_law := List.mem_of_getElem? (i := 218) (by decide +kernel)
theorem lk_X5_63 : Cond.methodLink RX5 63 yX0_putDelays ∈ wsL_law := List.mem_of_getElem? (i := 222) (by decide +kernel)
theorem lk_L_51 : Cond.methodLink RL 51 yX5_setCondition ∈ wsL_law := List.mem_of_getElem? (i := 223) (by decide +kernel)
theorem lk_X5_74 : Cond.methodLink RX5 74 yX0_putCondition ∈ wsL_law := List.mem_of_getElem? (i := 227) (by decide +kernel)
theorem lk_X0_89 : Cond.methodLink RX0 89 yX1_with ∈ wsL_law := List.mem_of_getElem? (i := 231) (by decide +kernel)
theorem lk_X0_95 : Cond.methodLink RX0 95 yX0_putBranch ∈ wsL_law := List.mem_of_getElem? (i := 234) (by decide +kernel)
theorem lk_X0_99 : Cond.methodLink RX0 99 yX0_lookAtCoils ∈ wsL_law := List.mem_of_getElem? (i := 238) (by decide +kernel)
theorem lk_X0_114 : Cond.methodLink RX0 114 yX0_failing ∈ wsL_law := List.mem_of_getElem? (i := 242) (by decide +kernel)
theorem lk_X0_117 : Cond.methodLink RX0 117 yX0_conducts ∈ wsL_law := List.mem_of_getElem? (i := 243) (by decide +kernel)
theorem lk_X0_120 : Cond.methodLink RX0 120 yX0_turnCoil ∈ wsL_law := List.mem_of_getElem? (i := 244) (by decide +kernel)
theorem lk_L_54 : Cond.methodLink RL 54 yX5_removeBranch ∈ wsL_law := List.mem_of_getElem? (i := 248) (by decide +kernel)
theorem lk_X5_78 : Cond.methodLink RX5 78 yX0_dropBranch ∈ wsL_law := List.mem_of_getElem? (i := 252) (by decide +kernel)
theorem lk_L_57 : Cond.methodLink RL 57 yX5_press ∈ wsL_law := List.mem_of_getElem? (i := 256) (by decide +kernel)
theorem lk_X5_104 : Cond.methodLink RX5 104 yX5_isKey ∈ wsL_law := List.mem_of_getElem? (i := 260) (by decide +kernel)
theorem lk_X5_110 : Cond.methodLink RX5 110 yX5_isIn ∈ wsL_law := List.mem_of_getElem? (i := 263) (by decide +kernel)
theorem lk_X5_114 : Cond.methodLink RX5 114 yX0_turnKey ∈ wsL_law := List.mem_of_getElem? (i := 264) (by decide +kernel)
theorem lk_L_60 : Cond.methodLink RL 60 yX5_setFault ∈ wsL_law := List.mem_of_getElem? (i := 268) (by decide +kernel)
theorem lk_X5_120 : Cond.methodLink RX5 120 yX0_putFault ∈ wsL_law := List.mem_of_getElem? (i := 272) (by decide +kernel)
theorem lk_L_63 : Cond.methodLink RL 63 yX5_stick ∈ wsL_law := List.mem_of_getElem? (i := 276) (by decide +kernel)
theorem lk_L_66 : Cond.methodLink RL 66 yX5_settle ∈ wsL_law := List.mem_of_getElem? (i := 280) (by decide +kernel)
theorem ck_X5_144 : Cond.constant RX5 144 (2147483647) ∈ wsL_law := List.mem_of_getElem? (i := 284) (by decide +kernel)
theorem lk_X5_145 : Cond.methodLink RX5 145 yX0_run ∈ wsL_law := List.mem_of_getElem? (i := 285) (by decide +kernel)
theorem lk_X0_131 : Cond.methodLink RX0 131 yX0_nextSlot ∈ wsL_law := List.mem_of_getElem? (i := 289) (by decide +kernel)
theorem lk_X0_141 : Cond.methodLink RX0 141 yX0_happen ∈ wsL_law := List.mem_of_getElem? (i := 293) (by decide +kernel)
theorem lk_X0_138 : Cond.methodLink RX0 138 yX0_moveArmature ∈ wsL_law := List.mem_of_getElem? (i := 297) (by decide +kernel)
theorem lk_L_69 : Cond.methodLink RL 69 yX5_pass ∈ wsL_law := List.mem_of_getElem? (i := 301) (by decide +kernel)
theorem ck_X5_152 : Cond.constant RX5 152 (100000) ∈ wsL_law := List.mem_of_getElem? (i := 305) (by decide +kernel)
theorem lk_X5_153 : Cond.methodLink RX5 153 yX0_copy ∈ wsL_law := List.mem_of_getElem? (i := 306) (by decide +kernel)
theorem lk_L_72 : Cond.methodLink RL 72 yX5_step ∈ wsL_law := List.mem_of_getElem? (i := 307) (by decide +kernel)
theorem lk_X5_130 : Cond.methodLink RX5 130 yX0_nextSlot ∈ wsL_law := List.mem_of_getElem? (i := 311) (by decide +kernel)
theorem lk_X5_137 : Cond.methodLink RX5 137 yX0_happen ∈ wsL_law := List.mem_of_getElem? (i := 312) (by decide +kernel)
theorem lk_L_89 : Cond.methodLink RL 89 yX5_undo ∈ wsL_law := List.mem_of_getElem? (i := 313) (by decide +kernel)
theorem lk_X5_224 : Cond.methodLink RX5 224 yX3_restore ∈ wsL_law := List.mem_of_getElem? (i := 317) (by decide +kernel)
theorem lk_L_92 : Cond.methodLink RL 92 yX5_isRace ∈ wsL_law := List.mem_of_getElem? (i := 321) (by decide +kernel)
theorem lk_X5_213 : Cond.methodLink RX5 213 yX5_raceIn ∈ wsL_law := List.mem_of_getElem? (i := 325) (by decide +kernel)
theorem lk_X5_209 : Cond.methodLink RX5 209 yX5_endingOf ∈ wsL_law := List.mem_of_getElem? (i := 329) (by decide +kernel)
theorem lk_X5_217 : Cond.methodLink RX5 217 yX0_isQuiet ∈ wsL_law := List.mem_of_getElem? (i := 333) (by decide +kernel)
theorem lk_L_95 : Cond.methodLink RL 95 yX5_outcome ∈ wsL_law := List.mem_of_getElem? (i := 337) (by decide +kernel)
theorem nk_X0_65 : (RX0, 65, yX5_isWithin) ∈ nestG := List.mem_of_getElem? (i := 0) rfl
theorem nk_X0_73 : (RX0, 73, yX5_at) ∈ nestG := List.mem_of_getElem? (i := 1) rfl
theorem nk_X0_77 : (RX0, 77, yX5_put) ∈ nestG := List.mem_of_getElem? (i := 2) rfl
theorem nk_X0_106 : (RX0, 106, yX5_isIn) ∈ nestG := List.mem_of_getElem? (i := 3) rfl
theorem nk_X5_25 : (RX5, 25, yX4_init) ∈ nestG := List.mem_of_getElem? (i := 4) rfl
theorem nk_X5_32 : (RX5, 32, yX2_init) ∈ nestG := List.mem_of_getElem? (i := 5) rfl
theorem fn_X5_173 : FLN RX5 173 0 0 true (.array .int) := ⟨RX0, TX0, 15, tyX0, rfl, inlX0, by decide, List.mem_of_getElem? (i := 0) rfl, tyX0_ok, nmX0, rfl, tyX0_ok 0 (by decide), rfl⟩
theorem fn_X5_180 : FLN RX5 180 0 1 true (.array .int) := ⟨RX0, TX0, 15, tyX0, rfl, inlX0, by decide, List.mem_of_getElem? (i := 1) rfl, tyX0_ok, nmX0, rfl, tyX0_ok 1 (by decide), rfl⟩
theorem fn_X5_183 : FLN RX5 183 0 2 true (.array .int) := ⟨RX0, TX0, 15, tyX0, rfl, inlX0, by decide, List.mem_of_getElem? (i := 2) rfl, tyX0_ok, nmX0, rfl, tyX0_ok 2 (by decide), rfl⟩
theorem fn_X5_206 : FLN RX5 206 0 5 true (.array .int) := ⟨RX0, TX0, 15, tyX0, rfl, inlX0, by decide, List.mem_of_getElem? (i := 3) rfl, tyX0_ok, nmX0, rfl, tyX0_ok 5 (by decide), rfl⟩
theorem fn_X5_47 : FLN RX5 47 0 6 false .int := ⟨RX0, TX0, 15, tyX0, rfl, inlX0, by decide, List.mem_of_getElem? (i := 4) rfl, tyX0_ok, nmX0, rfl, tyX0_ok 6 (by decide), rfl⟩
theorem fn_X5_149 : FLN RX5 149 0 7 false .int := ⟨RX0, TX0, 15, tyX0, rfl, inlX0, by decide, List.mem_of_getElem? (i := 5) rfl, tyX0_ok, nmX0, rfl, tyX0_ok 7 (by decide), rfl⟩
theorem fn_X5_107 : FLN RX5 107 0 8 false .int := ⟨RX0, TX0, 15, tyX0, rfl, inlX0, by decide, List.mem_of_getElem? (i := 6) rfl, tyX0_ok, nmX0, rfl, tyX0_ok 8 (by decide), rfl⟩
theorem fn_X5_160 : FLN RX5 160 0 9 false .int := ⟨RX0, TX0, 15, tyX0, rfl, inlX0, by decide, List.mem_of_getElem? (i := 7) rfl, tyX0_ok, nmX0, rfl, tyX0_ok 9 (by decide), rfl⟩
theorem fn_X5_163 : FLN RX5 163 0 10 false .int := ⟨RX0, TX0, 15, tyX0, rfl, inlX0, by decide, List.mem_of_getElem? (i := 8) rfl, tyX0_ok, nmX0, rfl, tyX0_ok 10 (by decide), rfl⟩
theorem fn_X5_169 : FLN RX5 169 0 11 false .int := ⟨RX0, TX0, 15, tyX0, rfl, inlX0, by decide, List.mem_of_getElem? (i := 9) rfl, tyX0_ok, nmX0, rfl, tyX0_ok 11 (by decide), rfl⟩
theorem fn_X5_124 : FLN RX5 124 0 12 false .int := ⟨RX0, TX0, 15, tyX0, rfl, inlX0, by decide, List.mem_of_getElem? (i := 10) rfl, tyX0_ok, nmX0, rfl, tyX0_ok 12 (by decide), rfl⟩
theorem fn_X5_172 : FLN RX5 172 2 2 false .int := ⟨RX3, TX3, 3, tyX3, rfl, inlX3, by decide, List.mem_of_getElem? (i := 11) rfl, tyX3_ok, nmX3, rfl, tyX3_ok 2 (by decide), rfl⟩
theorem fn_X5_82 : FLN RX5 82 3 1 false .int := ⟨RX4, TX4, 2, tyX4, rfl, inlX4, by decide, List.mem_of_getElem? (i := 12) rfl, tyX4_ok, nmX4, rfl, tyX4_ok 1 (by decide), rfl⟩
theorem iw_X5_init : IW yX5_init cX5_init 1 0 := ⟨⟨List.mem_of_getElem? (i := 2) (by decide +kernel), List.mem_of_getElem? (i := 5) (by decide +kernel), by decide, by decide +kernel⟩, List.mem_of_getElem? (i := 4) (by decide +kernel), rfl⟩
theorem iw_X0_init : IW yX0_init cX0_init 2 0 := ⟨⟨List.mem_of_getElem? (i := 11) (by decide +kernel), List.mem_of_getElem? (i := 29) (by decide +kernel), by decide, by decide +kernel⟩, List.mem_of_getElem? (i := 28) (by decide +kernel), rfl⟩
theorem iw_X3_init : IW yX3_init cX3_init 2 0 := ⟨⟨List.mem_of_getElem? (i := 15) (by decide +kernel), List.mem_of_getElem? (i := 41) (by decide +kernel), by decide, by decide +kernel⟩, List.mem_of_getElem? (i := 40) (by decide +kernel), rfl⟩
theorem iw_X4_init : IW yX4_init cX4_init 1 0 := ⟨⟨List.mem_of_getElem? (i := 19) (by decide +kernel), List.mem_of_getElem? (i := 47) (by decide +kernel), by decide, by decide +kernel⟩, List.mem_of_getElem? (i := 46) (by decide +kernel), rfl⟩
theorem iw_X2_init : IW yX2_init cX2_init 1 0 := ⟨⟨List.mem_of_getElem? (i := 23) (by decide +kernel), List.mem_of_getElem? (i := 52) (by decide +kernel), by decide, by decide +kernel⟩, List.mem_of_getElem? (i := 51) (by decide +kernel), rfl⟩
theorem vw_L_cell : SW yL_cell cL_cell 2 (some .int) 2 := ⟨⟨List.mem_of_getElem? (i := 57) (by decide +kernel), List.mem_of_getElem? (i := 58) (by decide +kernel), by decide, by decide +kernel⟩, List.mem_of_getElem? (i := 56) (by decide +kernel)⟩
theorem vw_L_tale : SW yL_tale cL_tale 6 (some .long) 1 := ⟨⟨List.mem_of_getElem? (i := 57) (by decide +kernel), List.mem_of_getElem? (i := 61) (by decide +kernel), by decide, by decide +kernel⟩, List.mem_of_getElem? (i := 60) (by decide +kernel)⟩
theorem vw_X5_count : VW yX5_count cX5_count 2 (some .int) 1 := ⟨⟨List.mem_of_getElem? (i := 2) (by decide +kernel), List.mem_of_getElem? (i := 72) (by decide +kernel), by decide, by decide +kernel⟩, List.mem_of_getElem? (i := 70) (by decide +kernel), List.mem_of_getElem? (i := 71) (by decide +kernel)⟩
theorem vw_X0_waiting : VW yX0_waiting cX0_waiting 3 (some .int) 0 := ⟨⟨List.mem_of_getElem? (i := 11) (by decide +kernel), List.mem_of_getElem? (i := 76) (by decide +kernel), by decide, by decide +kernel⟩, List.mem_of_getElem? (i := 74) (by decide +kernel), List.mem_of_getElem? (i := 75) (by decide +kernel)⟩
theorem vw_X0_closedContacts : VW yX0_closedContacts cX0_closedContacts 1 (some .int) 0 := ⟨⟨List.mem_of_getElem? (i := 11) (by decide +kernel), List.mem_of_getElem? (i := 80) (by decide +kernel), by decide, by decide +kernel⟩, List.mem_of_getElem? (i := 78) (by decide +kernel), List.mem_of_getElem? (i := 79) (by decide +kernel)⟩
theorem vw_X5_relay : VW yX5_relay cX5_relay 3 (some .int) 2 := ⟨⟨List.mem_of_getElem? (i := 2) (by decide +kernel), List.mem_of_getElem? (i := 88) (by decide +kernel), by decide, by decide +kernel⟩, List.mem_of_getElem? (i := 86) (by decide +kernel), List.mem_of_getElem? (i := 87) (by decide +kernel)⟩
theorem vw_X0_has : VW yX0_has cX0_has 2 (some .boolean) 1 := ⟨⟨List.mem_of_getElem? (i := 11) (by decide +kernel), List.mem_of_getElem? (i := 92) (by decide +kernel), by decide, by decide +kernel⟩, List.mem_of_getElem? (i := 90) (by decide +kernel), List.mem_of_getElem? (i := 91) (by decide +kernel)⟩
theorem vw_X5_isWithin : SW yX5_isWithin cX5_isWithin 3 (some .boolean) 3 := ⟨⟨List.mem_of_getElem? (i := 2) (by decide +kernel), List.mem_of_getElem? (i := 95) (by decide +kernel), by decide, by decide +kernel⟩, List.mem_of_getElem? (i := 94) (by decide +kernel)⟩
theorem vw_X5_at : SW yX5_at cX5_at 2 (some .int) 2 := ⟨⟨List.mem_of_getElem? (i := 2) (by decide +kernel), List.mem_of_getElem? (i := 98) (by decide +kernel), by decide, by decide +kernel⟩, List.mem_of_getElem? (i := 97) (by decide +kernel)⟩
theorem vw_X0_branchesOf : VW yX0_branchesOf cX0_branchesOf 2 (some .int) 1 := ⟨⟨List.mem_of_getElem? (i := 11) (by decide +kernel), List.mem_of_getElem? (i := 102) (by decide +kernel), by decide, by decide +kernel⟩, List.mem_of_getElem? (i := 100) (by decide +kernel), List.mem_of_getElem? (i := 101) (by decide +kernel)⟩
theorem vw_X0_faultOf : VW yX0_faultOf cX0_faultOf 2 (some .int) 1 := ⟨⟨List.mem_of_getElem? (i := 11) (by decide +kernel), List.mem_of_getElem? (i := 106) (by decide +kernel), by decide, by decide +kernel⟩, List.mem_of_getElem? (i := 104) (by decide +kernel), List.mem_of_getElem? (i := 105) (by decide +kernel)⟩
theorem vw_X5_isIn : SW yX5_isIn cX5_isIn 2 (some .boolean) 2 := ⟨⟨List.mem_of_getElem? (i := 2) (by decide +kernel), List.mem_of_getElem? (i := 108) (by decide +kernel), by decide, by decide +kernel⟩, List.mem_of_getElem? (i := 107) (by decide +kernel)⟩
theorem vw_X5_bitOf : SW yX5_bitOf cX5_bitOf 2 (some .int) 2 := ⟨⟨List.mem_of_getElem? (i := 2) (by decide +kernel), List.mem_of_getElem? (i := 111) (by decide +kernel), by decide, by decide +kernel⟩, List.mem_of_getElem? (i := 110) (by decide +kernel)⟩
theorem vw_X0_concerns : VW yX0_concerns cX0_concerns 5 (some .boolean) 2 := ⟨⟨List.mem_of_getElem? (i := 11) (by decide +kernel), List.mem_of_getElem? (i := 115) (by decide +kernel), by decide, by decide +kernel⟩, List.mem_of_getElem? (i := 113) (by decide +kernel), List.mem_of_getElem? (i := 114) (by decide +kernel)⟩
theorem vw_X0_branchAt : VW yX0_branchAt cX0_branchAt 3 (some .int) 2 := ⟨⟨List.mem_of_getElem? (i := 11) (by decide +kernel), List.mem_of_getElem? (i := 120) (by decide +kernel), by decide, by decide +kernel⟩, List.mem_of_getElem? (i := 118) (by decide +kernel), List.mem_of_getElem? (i := 119) (by decide +kernel)⟩
theorem vw_X1_howOf : SW yX1_howOf cX1_howOf 2 (some .int) 2 := ⟨⟨List.mem_of_getElem? (i := 123) (by decide +kernel), List.mem_of_getElem? (i := 124) (by decide +kernel), by decide, by decide +kernel⟩, List.mem_of_getElem? (i := 122) (by decide +kernel)⟩
theorem vw_X1_bit : SW yX1_bit cX1_bit 2 (some .int) 2 := ⟨⟨List.mem_of_getElem? (i := 123) (by decide +kernel), List.mem_of_getElem? (i := 127) (by decide +kernel), by decide, by decide +kernel⟩, List.mem_of_getElem? (i := 126) (by decide +kernel)⟩
theorem vw_X0_failing : VW yX0_failing cX0_failing 2 (some .int) 0 := ⟨⟨List.mem_of_getElem? (i := 11) (by decide +kernel), List.mem_of_getElem? (i := 131) (by decide +kernel), by decide, by decide +kernel⟩, List.mem_of_getElem? (i := 129) (by decide +kernel), List.mem_of_getElem? (i := 130) (by decide +kernel)⟩
theorem vw_X0_conducts : VW yX0_conducts cX0_conducts 6 (some .boolean) 2 := ⟨⟨List.mem_of_getElem? (i := 11) (by decide +kernel), List.mem_of_getElem? (i := 138) (by decide +kernel), by decide, by decide +kernel⟩, List.mem_of_getElem? (i := 136) (by decide +kernel), List.mem_of_getElem? (i := 137) (by decide +kernel)⟩
theorem vw_X5_condition : VW yX5_condition cX5_condition 4 (some .int) 3 := ⟨⟨List.mem_of_getElem? (i := 2) (by decide +kernel), List.mem_of_getElem? (i := 142) (by decide +kernel), by decide, by decide +kernel⟩, List.mem_of_getElem? (i := 140) (by decide +kernel), List.mem_of_getElem? (i := 141) (by decide +kernel)⟩
theorem vw_X5_event : VW yX5_event cX5_event 4 (some .int) 2 := ⟨⟨List.mem_of_getElem? (i := 2) (by decide +kernel), List.mem_of_getElem? (i := 149) (by decide +kernel), by decide, by decide +kernel⟩, List.mem_of_getElem? (i := 147) (by decide +kernel), List.mem_of_getElem? (i := 148) (by decide +kernel)⟩
theorem vw_X0_slotAt : VW yX0_slotAt cX0_slotAt 3 (some .int) 1 := ⟨⟨List.mem_of_getElem? (i := 11) (by decide +kernel), List.mem_of_getElem? (i := 153) (by decide +kernel), by decide, by decide +kernel⟩, List.mem_of_getElem? (i := 151) (by decide +kernel), List.mem_of_getElem? (i := 152) (by decide +kernel)⟩
theorem vw_X0_eventsBefore : VW yX0_eventsBefore cX0_eventsBefore 5 (some .int) 1 := ⟨⟨List.mem_of_getElem? (i := 11) (by decide +kernel), List.mem_of_getElem? (i := 157) (by decide +kernel), by decide, by decide +kernel⟩, List.mem_of_getElem? (i := 155) (by decide +kernel), List.mem_of_getElem? (i := 156) (by decide +kernel)⟩
theorem vw_X0_relayOf : SW yX0_relayOf cX0_relayOf 1 (some .int) 1 := ⟨⟨List.mem_of_getElem? (i := 11) (by decide +kernel), List.mem_of_getElem? (i := 160) (by decide +kernel), by decide, by decide +kernel⟩, List.mem_of_getElem? (i := 159) (by decide +kernel)⟩
theorem vw_X0_kindOf : VW yX0_kindOf cX0_kindOf 2 (some .int) 1 := ⟨⟨List.mem_of_getElem? (i := 11) (by decide +kernel), List.mem_of_getElem? (i := 164) (by decide +kernel), by decide, by decide +kernel⟩, List.mem_of_getElem? (i := 162) (by decide +kernel), List.mem_of_getElem? (i := 163) (by decide +kernel)⟩
theorem vw_X0_isBounceEnd : SW yX0_isBounceEnd cX0_isBounceEnd 1 (some .boolean) 1 := ⟨⟨List.mem_of_getElem? (i := 11) (by decide +kernel), List.mem_of_getElem? (i := 168) (by decide +kernel), by decide, by decide +kernel⟩, List.mem_of_getElem? (i := 167) (by decide +kernel)⟩
theorem vw_L_does : SW yL_does cL_does 3 (some .int) 2 := ⟨⟨List.mem_of_getElem? (i := 57) (by decide +kernel), List.mem_of_getElem? (i := 172) (by decide +kernel), by decide, by decide +kernel⟩, List.mem_of_getElem? (i := 171) (by decide +kernel)⟩
theorem vw_L_low : SW yL_low cL_low 2 (some .int) 2 := ⟨⟨List.mem_of_getElem? (i := 57) (by decide +kernel), List.mem_of_getElem? (i := 175) (by decide +kernel), by decide, by decide +kernel⟩, List.mem_of_getElem? (i := 174) (by decide +kernel)⟩
theorem vw_X5_addRelay : VW yX5_addRelay cX5_addRelay 4 (some .int) 3 := ⟨⟨List.mem_of_getElem? (i := 2) (by decide +kernel), List.mem_of_getElem? (i := 180) (by decide +kernel), by decide, by decide +kernel⟩, List.mem_of_getElem? (i := 178) (by decide +kernel), List.mem_of_getElem? (i := 179) (by decide +kernel)⟩
theorem vw_X5_areDelays : SW yX5_areDelays cX5_areDelays 3 (some .boolean) 3 := ⟨⟨List.mem_of_getElem? (i := 2) (by decide +kernel), List.mem_of_getElem? (i := 183) (by decide +kernel), by decide, by decide +kernel⟩, List.mem_of_getElem? (i := 182) (by decide +kernel)⟩
theorem vw_X3_save : VW yX3_save cX3_save 3 none 1 := ⟨⟨List.mem_of_getElem? (i := 15) (by decide +kernel), List.mem_of_getElem? (i := 187) (by decide +kernel), by decide, by decide +kernel⟩, List.mem_of_getElem? (i := 185) (by decide +kernel), List.mem_of_getElem? (i := 186) (by decide +kernel)⟩
theorem vw_J9_floorMod_7cf53 : SW yJ9_floorMod_7cf53 cJ9_floorMod_7cf53 3 (some .int) 2 := ⟨⟨List.mem_of_getElem? (i := 192) (by decide +kernel), List.mem_of_getElem? (i := 193) (by decide +kernel), by decide, by decide +kernel⟩, List.mem_of_getElem? (i := 191) (by decide +kernel)⟩
theorem vw_X3_bankAt : VW yX3_bankAt cX3_bankAt 3 (some (.object "RelayBank$Bank")) 1 := ⟨⟨List.mem_of_getElem? (i := 15) (by decide +kernel), List.mem_of_getElem? (i := 197) (by decide +kernel), by decide, by decide +kernel⟩, List.mem_of_getElem? (i := 195) (by decide +kernel), List.mem_of_getElem? (i := 196) (by decide +kernel)⟩
theorem vw_X0_copy : VW yX0_copy cX0_copy 2 none 1 := ⟨⟨List.mem_of_getElem? (i := 11) (by decide +kernel), List.mem_of_getElem? (i := 201) (by decide +kernel), by decide, by decide +kernel⟩, List.mem_of_getElem? (i := 199) (by decide +kernel), List.mem_of_getElem? (i := 200) (by decide +kernel)⟩
theorem vw_X0_add : VW yX0_add cX0_add 5 (some .int) 3 := ⟨⟨List.mem_of_getElem? (i := 11) (by decide +kernel), List.mem_of_getElem? (i := 211) (by decide +kernel), by decide, by decide +kernel⟩, List.mem_of_getElem? (i := 209) (by decide +kernel), List.mem_of_getElem? (i := 210) (by decide +kernel)⟩
theorem vw_X0_putDelays : VW yX0_putDelays cX0_putDelays 6 (some .boolean) 4 := ⟨⟨List.mem_of_getElem? (i := 11) (by decide +kernel), List.mem_of_getElem? (i := 215) (by decide +kernel), by decide, by decide +kernel⟩, List.mem_of_getElem? (i := 213) (by decide +kernel), List.mem_of_getElem? (i := 214) (by decide +kernel)⟩
theorem vw_X5_put : SW yX5_put cX5_put 3 none 3 := ⟨⟨List.mem_of_getElem? (i := 2) (by decide +kernel), List.mem_of_getElem? (i := 217) (by decide +kernel), by decide, by decide +kernel⟩, List.mem_of_getElem? (i := 216) (by decide +kernel)⟩
theorem vw_X5_setDelays : VW yX5_setDelays cX5_setDelays 5 (some .int) 4 := ⟨⟨List.mem_of_getElem? (i := 2) (by decide +kernel), List.mem_of_getElem? (i := 221) (by decide +kernel), by decide, by decide +kernel⟩, List.mem_of_getElem? (i := 219) (by decide +kernel), List.mem_of_getElem? (i := 220) (by decide +kernel)⟩
theorem vw_X5_setCondition : VW yX5_setCondition cX5_setCondition 5 (some .int) 4 := ⟨⟨List.mem_of_getElem? (i := 2) (by decide +kernel), List.mem_of_getElem? (i := 226) (by decide +kernel), by decide, by decide +kernel⟩, List.mem_of_getElem? (i := 224) (by decide +kernel), List.mem_of_getElem? (i := 225) (by decide +kernel)⟩
theorem vw_X0_putCondition : VW yX0_putCondition cX0_putCondition 7 (some .int) 4 := ⟨⟨List.mem_of_getElem? (i := 11) (by decide +kernel), List.mem_of_getElem? (i := 230) (by decide +kernel), by decide, by decide +kernel⟩, List.mem_of_getElem? (i := 228) (by decide +kernel), List.mem_of_getElem? (i := 229) (by decide +kernel)⟩
theorem vw_X1_with : SW yX1_with cX1_with 4 (some .int) 3 := ⟨⟨List.mem_of_getElem? (i := 123) (by decide +kernel), List.mem_of_getElem? (i := 233) (by decide +kernel), by decide, by decide +kernel⟩, List.mem_of_getElem? (i := 232) (by decide +kernel)⟩
theorem vw_X0_putBranch : VW yX0_putBranch cX0_putBranch 4 none 3 := ⟨⟨List.mem_of_getElem? (i := 11) (by decide +kernel), List.mem_of_getElem? (i := 237) (by decide +kernel), by decide, by decide +kernel⟩, List.mem_of_getElem? (i := 235) (by decide +kernel), List.mem_of_getElem? (i := 236) (by decide +kernel)⟩
theorem vw_X0_lookAtCoils : VW yX0_lookAtCoils cX0_lookAtCoils 4 (some .int) 0 := ⟨⟨List.mem_of_getElem? (i := 11) (by decide +kernel), List.mem_of_getElem? (i := 241) (by decide +kernel), by decide, by decide +kernel⟩, List.mem_of_getElem? (i := 239) (by decide +kernel), List.mem_of_getElem? (i := 240) (by decide +kernel)⟩
theorem vw_X0_turnCoil : VW yX0_turnCoil cX0_turnCoil 3 none 1 := ⟨⟨List.mem_of_getElem? (i := 11) (by decide +kernel), List.mem_of_getElem? (i := 247) (by decide +kernel), by decide, by decide +kernel⟩, List.mem_of_getElem? (i := 245) (by decide +kernel), List.mem_of_getElem? (i := 246) (by decide +kernel)⟩
theorem vw_X5_removeBranch : VW yX5_removeBranch cX5_removeBranch 3 (some .int) 2 := ⟨⟨List.mem_of_getElem? (i := 2) (by decide +kernel), List.mem_of_getElem? (i := 251) (by decide +kernel), by decide, by decide +kernel⟩, List.mem_of_getElem? (i := 249) (by decide +kernel), List.mem_of_getElem? (i := 250) (by decide +kernel)⟩
theorem vw_X0_dropBranch : VW yX0_dropBranch cX0_dropBranch 5 (some .int) 2 := ⟨⟨List.mem_of_getElem? (i := 11) (by decide +kernel), List.mem_of_getElem? (i := 255) (by decide +kernel), by decide, by decide +kernel⟩, List.mem_of_getElem? (i := 253) (by decide +kernel), List.mem_of_getElem? (i := 254) (by decide +kernel)⟩
theorem vw_X5_press : VW yX5_press cX5_press 3 (some .int) 2 := ⟨⟨List.mem_of_getElem? (i := 2) (by decide +kernel), List.mem_of_getElem? (i := 259) (by decide +kernel), by decide, by decide +kernel⟩, List.mem_of_getElem? (i := 257) (by decide +kernel), List.mem_of_getElem? (i := 258) (by decide +kernel)⟩
theorem vw_X5_isKey : SW yX5_isKey cX5_isKey 1 (some .boolean) 1 := ⟨⟨List.mem_of_getElem? (i := 2) (by decide +kernel), List.mem_of_getElem? (i := 262) (by decide +kernel), by decide, by decide +kernel⟩, List.mem_of_getElem? (i := 261) (by decide +kernel)⟩
theorem vw_X0_turnKey : VW yX0_turnKey cX0_turnKey 2 (some .int) 1 := ⟨⟨List.mem_of_getElem? (i := 11) (by decide +kernel), List.mem_of_getElem? (i := 267) (by decide +kernel), by decide, by decide +kernel⟩, List.mem_of_getElem? (i := 265) (by decide +kernel), List.mem_of_getElem? (i := 266) (by decide +kernel)⟩
theorem vw_X5_setFault : VW yX5_setFault cX5_setFault 4 (some .int) 2 := ⟨⟨List.mem_of_getElem? (i := 2) (by decide +kernel), List.mem_of_getElem? (i := 271) (by decide +kernel), by decide, by decide +kernel⟩, List.mem_of_getElem? (i := 269) (by decide +kernel), List.mem_of_getElem? (i := 270) (by decide +kernel)⟩
theorem vw_X0_putFault : VW yX0_putFault cX0_putFault 4 none 2 := ⟨⟨List.mem_of_getElem? (i := 11) (by decide +kernel), List.mem_of_getElem? (i := 275) (by decide +kernel), by decide, by decide +kernel⟩, List.mem_of_getElem? (i := 273) (by decide +kernel), List.mem_of_getElem? (i := 274) (by decide +kernel)⟩
theorem vw_X5_stick : VW yX5_stick cX5_stick 4 (some .int) 2 := ⟨⟨List.mem_of_getElem? (i := 2) (by decide +kernel), List.mem_of_getElem? (i := 279) (by decide +kernel), by decide, by decide +kernel⟩, List.mem_of_getElem? (i := 277) (by decide +kernel), List.mem_of_getElem? (i := 278) (by decide +kernel)⟩
theorem vw_X5_settle : VW yX5_settle cX5_settle 2 (some .int) 1 := ⟨⟨List.mem_of_getElem? (i := 2) (by decide +kernel), List.mem_of_getElem? (i := 283) (by decide +kernel), by decide, by decide +kernel⟩, List.mem_of_getElem? (i := 281) (by decide +kernel), List.mem_of_getElem? (i := 282) (by decide +kernel)⟩
theorem vw_X0_run : VW yX0_run cX0_run 6 (some .int) 3 := ⟨⟨List.mem_of_getElem? (i := 11) (by decide +kernel), List.mem_of_getElem? (i := 288) (by decide +kernel), by decide, by decide +kernel⟩, List.mem_of_getElem? (i := 286) (by decide +kernel), List.mem_of_getElem? (i := 287) (by decide +kernel)⟩
theorem vw_X0_nextSlot : VW yX0_nextSlot cX0_nextSlot 8 (some .int) 1 := ⟨⟨List.mem_of_getElem? (i := 11) (by decide +kernel), List.mem_of_getElem? (i := 292) (by decide +kernel), by decide, by decide +kernel⟩, List.mem_of_getElem? (i := 290) (by decide +kernel), List.mem_of_getElem? (i := 291) (by decide +kernel)⟩
theorem vw_X0_happen : VW yX0_happen cX0_happen 3 none 1 := ⟨⟨List.mem_of_getElem? (i := 11) (by decide +kernel), List.mem_of_getElem? (i := 296) (by decide +kernel), by decide, by decide +kernel⟩, List.mem_of_getElem? (i := 294) (by decide +kernel), List.mem_of_getElem? (i := 295) (by decide +kernel)⟩
theorem vw_X0_moveArmature : VW yX0_moveArmature cX0_moveArmature 3 none 1 := ⟨⟨List.mem_of_getElem? (i := 11) (by decide +kernel), List.mem_of_getElem? (i := 300) (by decide +kernel), by decide, by decide +kernel⟩, List.mem_of_getElem? (i := 298) (by decide +kernel), List.mem_of_getElem? (i := 299) (by decide +kernel)⟩
theorem vw_X5_pass : VW yX5_pass cX5_pass 4 (some .int) 1 := ⟨⟨List.mem_of_getElem? (i := 2) (by decide +kernel), List.mem_of_getElem? (i := 304) (by decide +kernel), by decide, by decide +kernel⟩, List.mem_of_getElem? (i := 302) (by decide +kernel), List.mem_of_getElem? (i := 303) (by decide +kernel)⟩
theorem vw_X5_step : VW yX5_step cX5_step 3 (some .int) 0 := ⟨⟨List.mem_of_getElem? (i := 2) (by decide +kernel), List.mem_of_getElem? (i := 310) (by decide +kernel), by decide, by decide +kernel⟩, List.mem_of_getElem? (i := 308) (by decide +kernel), List.mem_of_getElem? (i := 309) (by decide +kernel)⟩
theorem vw_X5_undo : VW yX5_undo cX5_undo 1 (some .int) 0 := ⟨⟨List.mem_of_getElem? (i := 2) (by decide +kernel), List.mem_of_getElem? (i := 316) (by decide +kernel), by decide, by decide +kernel⟩, List.mem_of_getElem? (i := 314) (by decide +kernel), List.mem_of_getElem? (i := 315) (by decide +kernel)⟩
theorem vw_X3_restore : VW yX3_restore cX3_restore 3 (some .boolean) 1 := ⟨⟨List.mem_of_getElem? (i := 15) (by decide +kernel), List.mem_of_getElem? (i := 320) (by decide +kernel), by decide, by decide +kernel⟩, List.mem_of_getElem? (i := 318) (by decide +kernel), List.mem_of_getElem? (i := 319) (by decide +kernel)⟩
theorem vw_X5_isRace : VW yX5_isRace cX5_isRace 1 (some .int) 0 := ⟨⟨List.mem_of_getElem? (i := 2) (by decide +kernel), List.mem_of_getElem? (i := 324) (by decide +kernel), by decide, by decide +kernel⟩, List.mem_of_getElem? (i := 322) (by decide +kernel), List.mem_of_getElem? (i := 323) (by decide +kernel)⟩
theorem vw_X5_raceIn : VW yX5_raceIn cX5_raceIn 3 (some .int) 1 := ⟨⟨List.mem_of_getElem? (i := 2) (by decide +kernel), List.mem_of_getElem? (i := 328) (by decide +kernel), by decide, by decide +kernel⟩, List.mem_of_getElem? (i := 326) (by decide +kernel), List.mem_of_getElem? (i := 327) (by decide +kernel)⟩
theorem vw_X5_endingOf : VW yX5_endingOf cX5_endingOf 4 (some .int) 3 := ⟨⟨List.mem_of_getElem? (i := 2) (by decide +kernel), List.mem_of_getElem? (i := 332) (by decide +kernel), by decide, by decide +kernel⟩, List.mem_of_getElem? (i := 330) (by decide +kernel), List.mem_of_getElem? (i := 331) (by decide +kernel)⟩
theorem vw_X0_isQuiet : VW yX0_isQuiet cX0_isQuiet 1 (some .boolean) 0 := ⟨⟨List.mem_of_getElem? (i := 11) (by decide +kernel), List.mem_of_getElem? (i := 336) (by decide +kernel), by decide, by decide +kernel⟩, List.mem_of_getElem? (i := 334) (by decide +kernel), List.mem_of_getElem? (i := 335) (by decide +kernel)⟩
theorem vw_X5_outcome : VW yX5_outcome cX5_outcome 3 (some .int) 2 := ⟨⟨List.mem_of_getElem? (i := 2) (by decide +kernel), List.mem_of_getElem? (i := 340) (by decide +kernel), by decide, by decide +kernel⟩, List.mem_of_getElem? (i := 338) (by decide +kernel), List.mem_of_getElem? (i := 339) (by decide +kernel)⟩
end
section
theorem bp_m10 : (Int8.ofInt (-10)).toInt32 = (-10) := by decide +kernel
theorem bp_m9 : (Int8.ofInt (-9)).toInt32 = (-9) := by decide +kernel
theorem bp_m3 : (Int8.ofInt (-3)).toInt32 = (-3) := by decide +kernel
theorem bp_m2 : (Int8.ofInt (-2)).toInt32 = (-2) := by decide +kernel
theorem bp_6 : (Int8.ofInt (6)).toInt32 = nI 6 := by decide +kernel
theorem bp_7 : (Int8.ofInt (7)).toInt32 = nI 7 := by decide +kernel
theorem bp_8 : (Int8.ofInt (8)).toInt32 = nI 8 := by decide +kernel
theorem bp_9 : (Int8.ofInt (9)).toInt32 = nI 9 := by decide +kernel
theorem bp_10 : (Int8.ofInt (10)).toInt32 = nI 10 := by decide +kernel
theorem bp_11 : (Int8.ofInt (11)).toInt32 = nI 11 := by decide +kernel
theorem bp_12 : (Int8.ofInt (12)).toInt32 = nI 12 := by decide +kernel
theorem bp_13 : (Int8.ofInt (13)).toInt32 = nI 13 := by decide +kernel
theorem bp_15 : (Int8.ofInt (15)).toInt32 = nI 15 := by decide +kernel
theorem bp_16 : (Int8.ofInt (16)).toInt32 = nI 16 := by decide +kernel
theorem bp_20 : (Int8.ofInt (20)).toInt32 = nI 20 := by decide +kernel
theorem bp_25 : (Int8.ofInt (25)).toInt32 = nI 25 := by decide +kernel
theorem bp_31 : (Int8.ofInt (31)).toInt32 = nI 31 := by decide +kernel
theorem bp_32 : (Int8.ofInt (32)).toInt32 = nI 32 := by decide +kernel
theorem bp_43 : (Int8.ofInt (43)).toInt32 = nI 43 := by decide +kernel
theorem bp_47 : (Int8.ofInt (47)).toInt32 = nI 47 := by decide +kernel
theorem bp_48 : (Int8.ofInt (48)).toInt32 = nI 48 := by decide +kernel
theorem bp_49 : (Int8.ofInt (49)).toInt32 = nI 49 := by decide +kernel
theorem bp_60 : (Int8.ofInt (60)).toInt32 = nI 60 := by decide +kernel
theorem bp_65 : (Int8.ofInt (65)).toInt32 = nI 65 := by decide +kernel
theorem bp_72 : (Int8.ofInt (72)).toInt32 = nI 72 := by decide +kernel
theorem bp_97 : (Int8.ofInt (97)).toInt32 = nI 97 := by decide +kernel
theorem bp_104 : (Int8.ofInt (104)).toInt32 = nI 104 := by decide +kernel
theorem ic_m1 : Int32.ofInt (-1) = (-1) := by decide +kernel
theorem ic_0 : Int32.ofInt (0) = nI 0 := by decide +kernel
theorem ic_1 : Int32.ofInt (1) = nI 1 := by decide +kernel
theorem ic_2 : Int32.ofInt (2) = nI 2 := by decide +kernel
theorem ic_3 : Int32.ofInt (3) = nI 3 := by decide +kernel
theorem ic_4 : Int32.ofInt (4) = nI 4 := by decide +kernel
theorem ic_5 : Int32.ofInt (5) = nI 5 := by decide +kernel
theorem ii_1 : Int32.ofInt 1 = nI 1 := by decide +kernel
theorem ii_5 : Int32.ofInt 5 = nI 5 := by decide +kernel
theorem sp_200 : (Int16.ofInt (200)).toInt32 = nI 200 := by decide +kernel
theorem sp_201 : (Int16.ofInt (201)).toInt32 = nI 201 := by decide +kernel
theorem sp_203 : (Int16.ofInt (203)).toInt32 = nI 203 := by decide +kernel
theorem sp_255 : (Int16.ofInt (255)).toInt32 = nI 255 := by decide +kernel
theorem sp_256 : (Int16.ofInt (256)).toInt32 = nI 256 := by decide +kernel
theorem sp_1000 : (Int16.ofInt (1000)).toInt32 = nI 1000 := by decide +kernel
theorem sp_1015 : (Int16.ofInt (1015)).toInt32 = nI 1015 := by decide +kernel
theorem sp_1218 : (Int16.ofInt (1218)).toInt32 = nI 1218 := by decide +kernel
end
section
/-! Numbers as naturals: aZ a is the int nI a -/
abbrev aZ (a : Nat) : AV := aI (nI a)
abbrev zA (N : Nat) (f : Nat → Nat) : AC := cArr 0 N (fun j => nI (f j))
def upN (f : Nat → Nat) (k x : Nat) : Nat → Nat := fun j => if j = k then x else f j
theorem upN_self (f : Nat → Nat) (k x : Nat) : upN f k x k = x := by simp [upN]
theorem upN_ne (f : Nat → Nat) (k x : Nat) {j : Nat} (h : j ≠ k) : upN f k x j = f j := by simp [upN, h]
theorem upd_nI (f : Nat → Nat) (k x : Nat) : upd (fun j => nI (f j)) k (nI x) = fun j => nI (upN f k x j) := by
  funext j
  unfold upd upN
  split <;> rfl
theorem nI_tn (a : Nat) : (nI a).toBitVec.toNat = a % 4294967296 := by
  show (BitVec.ofNat 32 a).toNat = _
  rw [BitVec.toNat_ofNat]
theorem nI_ext {x y : Int32} (h : x.toBitVec.toNat = y.toBitVec.toNat) : x = y := Int32.toBitVec_inj.mp (BitVec.eq_of_toNat_eq h)
theorem nI_inj {a b : Nat} (ha : a < 4294967296) (hb : b < 4294967296) : nI a = nI b ↔ a = b := by
  constructor
  · intro h
    have h1 : (nI a).toBitVec.toNat = (nI b).toBitVec.toNat := by rw [h]
    rw [nI_tn, nI_tn, Nat.mod_eq_of_lt ha, Nat.mod_eq_of_lt hb] at h1
    exact h1
  · rintro rfl
    rfl
theorem nI_z {a : Nat} (ha : a < 4294967296) : nI a = 0 ↔ a = 0 := by
  rw [← nI_0]
  exact nI_inj ha (by decide)
theorem nI_mul (a b : Nat) : nI a * nI b = nI (a * b) := (Int32.ofNat_mul a b).symm
theorem nI_sub {a b : Nat} (h : b ≤ a) : nI a - nI b = nI (a - b) := by
  have e : nI a = nI (a - b) + nI b := by rw [nI_add, Nat.sub_add_cancel h]
  rw [e, Int32.add_sub_cancel]
theorem nI_and (a b : Nat) : nI a &&& nI b = nI (a &&& b) := by
  apply nI_ext
  rw [Int32.toBitVec_and, BitVec.toNat_and, nI_tn, nI_tn, nI_tn]
  apply Nat.eq_of_testBit_eq
  intro i
  rw [show 4294967296 = 2 ^ 32 from rfl, Nat.testBit_and, Nat.testBit_mod_two_pow, Nat.testBit_mod_two_pow, Nat.testBit_mod_two_pow, Nat.testBit_and]
  cases decide (i < 32) <;> simp
theorem nI_or (a b : Nat) : nI a ||| nI b = nI (a ||| b) := by
  apply nI_ext
  rw [Int32.toBitVec_or, BitVec.toNat_or, nI_tn, nI_tn, nI_tn]
  apply Nat.eq_of_testBit_eq
  intro i
  rw [show 4294967296 = 2 ^ 32 from rfl, Nat.testBit_or, Nat.testBit_mod_two_pow, Nat.testBit_mod_two_pow, Nat.testBit_mod_two_pow, Nat.testBit_or]
  cases decide (i < 32) <;> simp
theorem nI_xor (a b : Nat) : nI a ^^^ nI b = nI (a ^^^ b) := by
  apply nI_ext
  rw [Int32.toBitVec_xor, BitVec.toNat_xor, nI_tn, nI_tn, nI_tn]
  apply Nat.eq_of_testBit_eq
  intro i
  rw [show 4294967296 = 2 ^ 32 from rfl, Nat.testBit_xor, Nat.testBit_mod_two_pow, Nat.testBit_mod_two_pow, Nat.testBit_mod_two_pow, Nat.testBit_xor]
  cases decide (i < 32) <;> simp
theorem sh_l : ∀ k, k < 32 → ((nI k &&& 31).toBitVec.smod 32).toNat = k := by decide +kernel
theorem sh_u : ∀ k, k < 32 → ((nI k).toUInt32 &&& Int32.toUInt32 31).toNat % 32 = k := by decide +kernel
theorem nI_shl (a : Nat) {k : Nat} (hk : k < 32) : nI a <<< (nI k &&& 31) = nI (a <<< k) := by
  apply nI_ext
  rw [Int32.toBitVec_shiftLeft, BitVec.shiftLeft_eq', BitVec.toNat_shiftLeft, sh_l k hk, nI_tn, nI_tn]
  show _ % 2 ^ 32 = _ % 2 ^ 32
  rw [Nat.shiftLeft_eq, Nat.shiftLeft_eq, show 4294967296 = 2 ^ 32 from rfl, Nat.mod_mul_mod]
theorem nI_ushr {a k : Nat} (ha : a < 4294967296) (hk : k < 32) : ((nI a).toUInt32 >>> ((nI k).toUInt32 &&& Int32.toUInt32 31)).toInt32 = nI (a >>> k) := by
  apply nI_ext
  have h1 : ((nI a).toUInt32 >>> ((nI k).toUInt32 &&& Int32.toUInt32 31)).toNat = a >>> k := by
    rw [UInt32.toNat_shiftRight, sh_u k hk]
    show (nI a).toBitVec.toNat >>> k = _
    rw [nI_tn, Nat.mod_eq_of_lt ha]
  show ((nI a).toUInt32 >>> ((nI k).toUInt32 &&& Int32.toUInt32 31)).toNat = _
  rw [h1, nI_tn, Nat.mod_eq_of_lt]
  exact Nat.lt_of_le_of_lt (Nat.shiftRight_le a k) ha
theorem nI_sshr {a k : Nat} (ha : a < 2147483648) (hk : k < 32) : nI a >>> (nI k &&& 31) = nI (a >>> k) := by
  apply nI_ext
  rw [Int32.toBitVec_shiftRight, BitVec.sshiftRight_eq', BitVec.toNat_sshiftRight_of_msb_false, sh_l k hk, nI_tn, nI_tn, Nat.mod_eq_of_lt (by omega), Nat.mod_eq_of_lt]
  · exact Nat.lt_of_le_of_lt (Nat.shiftRight_le a k) (by omega)
  · rw [BitVec.msb_eq_false_iff_two_mul_lt, nI_tn, Nat.mod_eq_of_lt (by omega)]
    omega
theorem nI_div {a b : Nat} (ha : a < 2147483648) (hb : b < 2147483648) : nI a / nI b = nI (a / b) := by
  apply Int32.toInt_inj.mp
  have hq : a / b ≤ a := Nat.div_le_self a b
  rw [Int32.toInt_div_of_ne_left, nI_toInt ha, nI_toInt hb, nI_toInt (by omega)]
  · rw [Int.tdiv_eq_ediv_of_nonneg (by omega)]
    rfl
  · intro h
    have h2 : (nI a).toInt = Int32.minValue.toInt := by rw [h]
    rw [nI_toInt ha] at h2
    have h3 : Int32.minValue.toInt = -2147483648 := by decide
    omega
theorem nI_rem {a b : Nat} (ha : a < 2147483648) (hb : b < 2147483648) : nI a - nI a / nI b * nI b = nI (a % b) := by
  rw [nI_div ha hb, nI_mul, nI_sub (Nat.div_mul_le_self a b)]
  congr 1
  have := Nat.div_add_mod a b
  rw [Nat.mul_comm] at this
  omega
theorem nI_i2c {a : Nat} (h : a < 65536) : ((nI a).toUInt32 % 65536).toInt32 = nI a := by
  apply nI_ext
  show ((nI a).toUInt32 % 65536).toNat = _
  rw [UInt32.toNat_mod, show (65536 : UInt32).toNat = 65536 from rfl]
  show (nI a).toBitVec.toNat % 65536 = _
  rw [nI_tn, Nat.mod_eq_of_lt (a := a) (by omega), Nat.mod_eq_of_lt h]
theorem nar_b (p : Bool) : narrow .boolean (.int (nI p.toNat)) = .int (nI p.toNat) := by cases p <;> rfl
/-- what a method that makes nothing leaves -/
def Nz (n : Nat) (Q : Option AV → (Nat → AC) → Prop) : Option AV → Nat → (Nat → AC) → Prop := fun r n' w' => n' = n ∧ Q r w'
def Rs (r : Option AV) (w : Nat → AC) : Option AV → (Nat → AC) → Prop := fun r' w' => r' = r ∧ w' = w
abbrev Sq (l : Launch) (z : MethodName) (cz : ByteArray) (mz : Nat) (rz : Option FieldType) (d : Nat) (as : List AV) (n : Nat) (w : Nat → AC) (Q : Option AV → (Nat → AC) → Prop) : Prop := Sp l z cz mz rz d 0 0 as n w (Nz n Q)
/-- all cells outside k .. k + m stay -/
def Fr (k m : Nat) (w w' : Nat → AC) : Prop := ∀ j, (j < k ∨ k + m ≤ j) → w' j = w j
theorem Fr.rf {k m : Nat} {w : Nat → AC} : Fr k m w w := fun _ _ => rfl
theorem Fr.tr {k m : Nat} {w w1 w2 : Nat → AC} (h : Fr k m w w1) (g : Fr k m w1 w2) : Fr k m w w2 := fun j hj => (g j hj).trans (h j hj)
theorem Fr.up {k m i : Nat} {w : Nat → AC} {c : AC} (h : k ≤ i) (h2 : i < k + m) : Fr k m w (upw w i c) := fun j hj => upw_ne _ _ _ (by omega)
theorem Fr.wide {k m k' m' : Nat} {w w' : Nat → AC} (h : Fr k m w w') (h1 : k' ≤ k) (h2 : k + m ≤ k' + m') : Fr k' m' w w' := fun j hj => h j (by omega)
section
variable {Γ : Gm} {l : Launch} {y : MethodName} {cc : ByteArray} {mL d mc ms : Nat} {pc n : Nat} {L st : List AV} {cs : Nat × Nat} {w : Nat → AC}
theorem qz_iadd (hΓ : Ok Γ l y cc mL d mc ms) {a b : Nat} (hd : decode cc pc = .ok (.iadd, 1)) (k : Γ (pc + 1) L (aZ (a + b) :: st) cs n w) : Γ pc L (aZ b :: aZ a :: st) cs n w := qa_iadd hΓ hd (by rw [nI_add]; exact k)
theorem qz_imul (hΓ : Ok Γ l y cc mL d mc ms) {a b : Nat} (hd : decode cc pc = .ok (.imul, 1)) (k : Γ (pc + 1) L (aZ (a * b) :: st) cs n w) : Γ pc L (aZ b :: aZ a :: st) cs n w := qa_imul hΓ hd (by rw [nI_mul]; exact k)
theorem qz_isub (hΓ : Ok Γ l y cc mL d mc ms) {a b : Nat} (hd : decode cc pc = .ok (.isub, 1)) (h : b ≤ a) (k : Γ (pc + 1) L (aZ (a - b) :: st) cs n w) : Γ pc L (aZ b :: aZ a :: st) cs n w := qa_isub hΓ hd (by rw [nI_sub h]; exact k)
theorem qz_iand (hΓ : Ok Γ l y cc mL d mc ms) {a b : Nat} (hd : decode cc pc = .ok (.iand, 1)) (k : Γ (pc + 1) L (aZ (a &&& b) :: st) cs n w) : Γ pc L (aZ b :: aZ a :: st) cs n w := qa_iand hΓ hd (by rw [nI_and]; exact k)
theorem qz_ior (hΓ : Ok Γ l y cc mL d mc ms) {a b : Nat} (hd : decode cc pc = .ok (.ior, 1)) (k : Γ (pc + 1) L (aZ (a ||| b) :: st) cs n w) : Γ pc L (aZ b :: aZ a :: st) cs n w := qa_ior hΓ hd (by rw [nI_or]; exact k)
theorem qz_ixor (hΓ : Ok Γ l y cc mL d mc ms) {a b : Nat} (hd : decode cc pc = .ok (.ixor, 1)) (k : Γ (pc + 1) L (aZ (a ^^^ b) :: st) cs n w) : Γ pc L (aZ b :: aZ a :: st) cs n w := qa_ixor hΓ hd (by rw [nI_xor]; exact k)
theorem qz_ishl (hΓ : Ok Γ l y cc mL d mc ms) {a b : Nat} (hd : decode cc pc = .ok (.ishl, 1)) (h : b < 32) (k : Γ (pc + 1) L (aZ (a <<< b) :: st) cs n w) : Γ pc L (aZ b :: aZ a :: st) cs n w := qa_ishl hΓ hd (by rw [nI_shl a h]; exact k)
theorem qz_ishr (hΓ : Ok Γ l y cc mL d mc ms) {a b : Nat} (hd : decode cc pc = .ok (.ishr, 1)) (ha : a < 2147483648) (h : b < 32) (k : Γ (pc + 1) L (aZ (a >>> b) :: st) cs n w) : Γ pc L (aZ b :: aZ a :: st) cs n w := qa_ishr hΓ hd (by rw [nI_sshr ha h]; exact k)
theorem qz_iushr (hΓ : Ok Γ l y cc mL d mc ms) {a b : Nat} (hd : decode cc pc = .ok (.iushr, 1)) (ha : a < 4294967296) (h : b < 32) (k : Γ (pc + 1) L (aZ (a >>> b) :: st) cs n w) : Γ pc L (aZ b :: aZ a :: st) cs n w := qa_iushr hΓ hd (nI_ushr ha h) k
theorem qz_idiv (hΓ : Ok Γ l y cc mL d mc ms) {a b : Nat} (hd : decode cc pc = .ok (.idiv, 1)) (ha : a < 2147483648) (hb : b < 2147483648) (h0 : 0 < b) (k : Γ (pc + 1) L (aZ (a / b) :: st) cs n w) : Γ pc L (aZ b :: aZ a :: st) cs n w := qa_idiv hΓ hd (nI_ne0 h0 hb) (by rw [nI_div ha hb]; exact k)
theorem qz_irem (hΓ : Ok Γ l y cc mL d mc ms) {a b : Nat} (hd : decode cc pc = .ok (.irem, 1)) (ha : a < 2147483648) (hb : b < 2147483648) (h0 : 0 < b) (k : Γ (pc + 1) L (aZ (a % b) :: st) cs n w) : Γ pc L (aZ b :: aZ a :: st) cs n w := qa_irem hΓ hd (nI_ne0 h0 hb) (by rw [nI_rem ha hb]; exact k)
theorem qz_i2c (hΓ : Ok Γ l y cc mL d mc ms) {a : Nat} (hd : decode cc pc = .ok (.i2c, 1)) (ha : a < 65536) (k : Γ (pc + 1) L (aZ a :: st) cs n w) : Γ pc L (aZ a :: st) cs n w := qa_i2c hΓ hd (nI_i2c ha) k
theorem qz_iinc (hΓ : Ok Γ l y cc mL d mc ms) {j a k0 : Nat} {b : Int} (hd : decode cc pc = .ok (.iinc j b, 3)) (hb : Int32.ofInt b = nI k0) (hl : lg L j = aZ a) (hn : j < mL) (k : Γ (pc + 3) (L.set j (aZ (a + k0))) st cs n w) (hs : lsf L j = true := by rfl) : Γ pc L st cs n w := qa_iinc hΓ hd hl (by rw [hb, nI_add]) hn k hs
theorem qz_icmp_lt (hΓ : Ok Γ l y cc mL d mc ms) {a b : Nat} {off : Int} {tgt : Nat} (hd : decode cc pc = .ok (.if_icmp .lt off, 3)) (ht : (pc : Int) + off = (tgt : Int)) (ha : a < 2147483648) (hb : b < 2147483648) (kt : a < b → Γ tgt L st cs n w) (kf : b ≤ a → Γ (pc + 3) L st cs n w) : Γ pc L (aZ b :: aZ a :: st) cs n w := qa_icmp_lt hΓ hd ht (fun h => kt ((nI_ltI ha hb).mp h)) (fun h => kf (by have h2 := mt (nI_ltI ha hb).mpr h; omega))
theorem qz_icmp_ge (hΓ : Ok Γ l y cc mL d mc ms) {a b : Nat} {off : Int} {tgt : Nat} (hd : decode cc pc = .ok (.if_icmp .ge off, 3)) (ht : (pc : Int) + off = (tgt : Int)) (ha : a < 2147483648) (hb : b < 2147483648) (kt : b ≤ a → Γ tgt L st cs n w) (kf : a < b → Γ (pc + 3) L st cs n w) : Γ pc L (aZ b :: aZ a :: st) cs n w := qa_icmp_ge hΓ hd ht (fun h => kt ((nI_leI hb ha).mp h)) (fun h => kf (by have h2 := mt (nI_leI hb ha).mpr h; omega))
theorem qz_icmp_gt (hΓ : Ok Γ l y cc mL d mc ms) {a b : Nat} {off : Int} {tgt : Nat} (hd : decode cc pc = .ok (.if_icmp .gt off, 3)) (ht : (pc : Int) + off = (tgt : Int)) (ha : a < 2147483648) (hb : b < 2147483648) (kt : b < a → Γ tgt L st cs n w) (kf : a ≤ b → Γ (pc + 3) L st cs n w) : Γ pc L (aZ b :: aZ a :: st) cs n w := qa_icmp_gt hΓ hd ht (fun h => kt ((nI_ltI hb ha).mp h)) (fun h => kf (by have h2 := mt (nI_ltI hb ha).mpr h; omega))
theorem qz_icmp_le (hΓ : Ok Γ l y cc mL d mc ms) {a b : Nat} {off : Int} {tgt : Nat} (hd : decode cc pc = .ok (.if_icmp .le off, 3)) (ht : (pc : Int) + off = (tgt : Int)) (ha : a < 2147483648) (hb : b < 2147483648) (kt : a ≤ b → Γ tgt L st cs n w) (kf : b < a → Γ (pc + 3) L st cs n w) : Γ pc L (aZ b :: aZ a :: st) cs n w := qa_icmp_le hΓ hd ht (fun h => kt ((nI_leI ha hb).mp h)) (fun h => kf (by have h2 := mt (nI_leI ha hb).mpr h; omega))
theorem qz_icmp_eq (hΓ : Ok Γ l y cc mL d mc ms) {a b : Nat} {off : Int} {tgt : Nat} (hd : decode cc pc = .ok (.if_icmp .eq off, 3)) (ht : (pc : Int) + off = (tgt : Int)) (ha : a < 4294967296) (hb : b < 4294967296) (kt : a = b → Γ tgt L st cs n w) (kf : ¬ a = b → Γ (pc + 3) L st cs n w) : Γ pc L (aZ b :: aZ a :: st) cs n w := qa_icmp_eq hΓ hd ht (fun h => kt ((nI_inj ha hb).mp h)) (fun h => kf (fun e => h (by rw [e])))
theorem qz_if_eq (hΓ : Ok Γ l y cc mL d mc ms) {a : Nat} {off : Int} {tgt : Nat} (hd : decode cc pc = .ok (.ifCond .eq off, 3)) (ht : (pc : Int) + off = (tgt : Int)) (ha : a < 4294967296) (kt : a = 0 → Γ tgt L st cs n w) (kf : ¬ a = 0 → Γ (pc + 3) L st cs n w) : Γ pc L (aZ a :: st) cs n w := qa_if_eq hΓ hd ht (fun h => kt ((nI_z ha).mp h)) (fun h => kf (fun e => h (by rw [e]; rfl)))
theorem qz_icmp_ne (hΓ : Ok Γ l y cc mL d mc ms) {a b : Nat} {off : Int} {tgt : Nat} (hd : decode cc pc = .ok (.if_icmp .ne off, 3)) (ht : (pc : Int) + off = (tgt : Int)) (ha : a < 4294967296) (hb : b < 4294967296) (kt : ¬ a = b → Γ tgt L st cs n w) (kf : a = b → Γ (pc + 3) L st cs n w) : Γ pc L (aZ b :: aZ a :: st) cs n w := qa_icmp_ne hΓ hd ht (fun h => kt (fun e => h (by rw [e]))) (fun h => kf ((nI_inj ha hb).mp h))
theorem qz_if_ne (hΓ : Ok Γ l y cc mL d mc ms) {a : Nat} {off : Int} {tgt : Nat} (hd : decode cc pc = .ok (.ifCond .ne off, 3)) (ht : (pc : Int) + off = (tgt : Int)) (ha : a < 4294967296) (kt : ¬ a = 0 → Γ tgt L st cs n w) (kf : a = 0 → Γ (pc + 3) L st cs n w) : Γ pc L (aZ a :: st) cs n w := qa_if_ne hΓ hd ht (fun h => kt (fun e => h (by rw [e]; rfl))) (fun h => kf ((nI_z ha).mp h))
theorem qb_if_eq (hΓ : Ok Γ l y cc mL d mc ms) {p : Bool} {off : Int} {tgt : Nat} (hd : decode cc pc = .ok (.ifCond .eq off, 3)) (ht : (pc : Int) + off = (tgt : Int)) (kt : p = false → Γ tgt L st cs n w) (kf : p = true → Γ (pc + 3) L st cs n w) : Γ pc L (aZ p.toNat :: st) cs n w := qz_if_eq hΓ hd ht (by cases p <;> decide) (fun h => kt (by cases p <;> first | rfl | exact absurd rfl h | cases h)) (fun h => kf (by cases p <;> first | rfl | exact absurd rfl h | cases h))
theorem qb_if_ne (hΓ : Ok Γ l y cc mL d mc ms) {p : Bool} {off : Int} {tgt : Nat} (hd : decode cc pc = .ok (.ifCond .ne off, 3)) (ht : (pc : Int) + off = (tgt : Int)) (kt : p = true → Γ tgt L st cs n w) (kf : p = false → Γ (pc + 3) L st cs n w) : Γ pc L (aZ p.toNat :: st) cs n w := qz_if_ne hΓ hd ht (by cases p <;> decide) (fun h => kt (by cases p <;> first | rfl | exact absurd rfl h | cases h)) (fun h => kf (by cases p <;> first | rfl | exact absurd rfl h | cases h))
theorem qz_if_lt (hΓ : Ok Γ l y cc mL d mc ms) {a : Nat} {off : Int} {tgt : Nat} (hd : decode cc pc = .ok (.ifCond .lt off, 3)) (ht : (pc : Int) + off = (tgt : Int)) (ha : a < 2147483648) (kf : Γ (pc + 3) L st cs n w) : Γ pc L (aZ a :: st) cs n w := qa_if_lt hΓ hd ht (fun h => absurd h (nI_pos ha)) (fun _ => kf)
theorem qz_if_ge (hΓ : Ok Γ l y cc mL d mc ms) {a : Nat} {off : Int} {tgt : Nat} (hd : decode cc pc = .ok (.ifCond .ge off, 3)) (ht : (pc : Int) + off = (tgt : Int)) (ha : a < 2147483648) (kt : Γ tgt L st cs n w) : Γ pc L (aZ a :: st) cs n w := qa_if_ge hΓ hd ht (fun _ => kt) (fun h => absurd (nI_pos' ha) h)
theorem qz_if_le (hΓ : Ok Γ l y cc mL d mc ms) {a : Nat} {off : Int} {tgt : Nat} (hd : decode cc pc = .ok (.ifCond .le off, 3)) (ht : (pc : Int) + off = (tgt : Int)) (ha : a < 2147483648) (kt : a = 0 → Γ tgt L st cs n w) (kf : 0 < a → Γ (pc + 3) L st cs n w) : Γ pc L (aZ a :: st) cs n w := qa_if_le hΓ hd ht (fun h => kt (by rcases Nat.eq_zero_or_pos a with q | q; exact q; exact absurd h (nI_nle q ha))) (fun h => kf (by rcases Nat.eq_zero_or_pos a with q | q; subst q; exact absurd (Int32.le_refl _) h; exact q))
theorem qz_iald (hΓ : Ok Γ l y cc mL d mc ms) {k0 N j : Nat} {f : Nat → Nat} (hd : decode cc pc = .ok (.iaload, 1)) (hk : k0 < n) (hw : w k0 = zA N f) (hj : j < N) (hN : N < 2147483648) (kk : Γ (pc + 1) L (aZ (f j) :: st) cs n w) : Γ pc L (aZ j :: aR k0 :: st) cs n w := qa_iald hΓ hd hk hw (vp_in_nI hj hN) (by rw [nI_clamp (by omega)]; exact kk)
theorem qz_iast (hΓ : Ok Γ l y cc mL d mc ms) {k0 N j x : Nat} {f : Nat → Nat} (hd : decode cc pc = .ok (.iastore, 1)) (hk : k0 < n) (hw : w k0 = zA N f) (hj : j < N) (hN : N < 2147483648) (kk : Γ (pc + 1) L st cs n (upw w k0 (zA N (upN f j x)))) : Γ pc L (aZ x :: aZ j :: aR k0 :: st) cs n w := qa_iast hΓ hd hk hw (vp_in_nI hj hN) (by rw [nI_clamp (by omega), upd_nI]; exact kk)
theorem qr_i {Q : Option AV → (Nat → AC) → Prop} (hR : Rt Γ cc (some .int) 0 0 (Nz n Q)) (hd : decode cc pc = .ok (.ireturn, 1)) {x : Int32} (hq : Q (some (aI x)) w) : Γ pc L [aI x] (0, 0) n w := hR.1 pc L x (0, 0) n w hd ⟨.int, rfl, rfl⟩ (Nat.le_refl _) (Nat.le_refl _) ⟨rfl, hq⟩
theorem qr_b {Q : Option AV → (Nat → AC) → Prop} (hR : Rt Γ cc (some .boolean) 0 0 (Nz n Q)) (hd : decode cc pc = .ok (.ireturn, 1)) {p : Bool} (hq : Q (some (aZ p.toNat)) w) : Γ pc L [aZ p.toNat] (0, 0) n w := hR.1 pc L _ (0, 0) n w hd ⟨.boolean, rfl, nar_b p⟩ (Nat.le_refl _) (Nat.le_refl _) ⟨rfl, hq⟩
theorem qr_v {Q : Option AV → (Nat → AC) → Prop} (hR : Rt Γ cc none 0 0 (Nz n Q)) (hd : decode cc pc = .ok (.return_, 1)) (hq : Q none w) : Γ pc L [] (0, 0) n w := hR.2.1 pc L (0, 0) n w hd rfl (Nat.le_refl _) (Nat.le_refl _) ⟨rfl, hq⟩
theorem qr_a {C : String} {Q : Option AV → (Nat → AC) → Prop} (hR : Rt Γ cc (some (.object C)) 0 0 (Nz n Q)) (hd : decode cc pc = .ok (.areturn, 1)) {v : Option Nat} (hq : Q (some (some (.inr v))) w) : Γ pc L [some (.inr v)] (0, 0) n w := hR.2.2.1 pc L v (0, 0) n w hd ⟨C, rfl⟩ (Nat.le_refl _) (Nat.le_refl _) ⟨rfl, hq⟩
variable {idx mz np d' k0 : Nat} {z : MethodName} {cz : ByteArray} {rz : Option FieldType} {as st0 : List AV} {Q : Option AV → (Nat → AC) → Prop} {r : Option AV} {v : AV} {w' : Nat → AC}
theorem qc_V (hΓ : Ok Γ l y cc mL d 0 0) (hd : decode cc pc = .ok (.invokevirtual idx, 3)) (hlk : Cond.methodLink y.cls idx z ∈ wsL_law) (hz : VW z cz mz rz np) (hdd : d' + 1 ≤ d) (hS : Sq l z cz mz rz d' (aR k0 :: as) n w Q) (hnp : as.length = np) {ci : Nat} {fs : List AV} {T : u_T} {N : Nat} (hk : k0 < n) (hw : w k0 = cObj ci fs) (hc : vwCl[ci]? = some (z.cls, T, N)) (hst : st0 = as.reverse ++ aR k0 :: st) (hl8 : st.length ≤ 4) (kk : ∀ r w', Q r w' → Γ (pc + 3) L (r.toList ++ st) (0, 0) n w') : Γ pc L st0 (0, 0) n w := qa_callV hΓ hd hlk hz hS hdd hnp hk hw hc hst hl8 ⟨Nat.le_refl _, Nat.le_refl _⟩ (fun _ _ _ h => h.1) (fun r w' h => kk r w' h.2)
theorem qc_V1 (hΓ : Ok Γ l y cc mL d 0 0) (hd : decode cc pc = .ok (.invokevirtual idx, 3)) (hlk : Cond.methodLink y.cls idx z ∈ wsL_law) (hz : VW z cz mz rz np) (hdd : d' + 1 ≤ d) (hS : Sq l z cz mz rz d' (aR k0 :: as) n w (Rs (some v) w')) (hnp : as.length = np) {ci : Nat} {fs : List AV} {T : u_T} {N : Nat} (hk : k0 < n) (hw : w k0 = cObj ci fs) (hc : vwCl[ci]? = some (z.cls, T, N)) (hst : st0 = as.reverse ++ aR k0 :: st) (hl8 : st.length ≤ 4) (kk : Γ (pc + 3) L (v :: st) (0, 0) n w') : Γ pc L st0 (0, 0) n w := qc_V hΓ hd hlk hz hdd hS hnp hk hw hc hst hl8 (fun r u h => by obtain ⟨rfl, rfl⟩ := h; exact kk)
theorem qc_V0 (hΓ : Ok Γ l y cc mL d 0 0) (hd : decode cc pc = .ok (.invokevirtual idx, 3)) (hlk : Cond.methodLink y.cls idx z ∈ wsL_law) (hz : VW z cz mz rz np) (hdd : d' + 1 ≤ d) (hS : Sq l z cz mz rz d' (aR k0 :: as) n w (Rs none w')) (hnp : as.length = np) {ci : Nat} {fs : List AV} {T : u_T} {N : Nat} (hk : k0 < n) (hw : w k0 = cObj ci fs) (hc : vwCl[ci]? = some (z.cls, T, N)) (hst : st0 = as.reverse ++ aR k0 :: st) (hl8 : st.length ≤ 4) (kk : Γ (pc + 3) L st (0, 0) n w') : Γ pc L st0 (0, 0) n w := qc_V hΓ hd hlk hz hdd hS hnp hk hw hc hst hl8 (fun r u h => by obtain ⟨rfl, rfl⟩ := h; exact kk)
theorem qc_S (hΓ : Ok Γ l y cc mL d 0 0) (hd : decode cc pc = .ok (.invokestatic idx, 3)) (hlk : Cond.methodLink y.cls idx z ∈ wsL_law) (hz : SW z cz mz rz np) (hdd : d' + 1 ≤ d) (hS : Sq l z cz mz rz d' as n w Q) (hnp : as.length = np) (hst : st0 = as.reverse ++ st) (hl8 : st.length ≤ 4) (kk : ∀ r w', Q r w' → Γ (pc + 3) L (r.toList ++ st) (0, 0) n w') : Γ pc L st0 (0, 0) n w := qa_callS hΓ hd hlk hz hS hdd hnp hst hl8 ⟨Nat.le_refl _, Nat.le_refl _⟩ (fun _ _ _ h => h.1) (fun r w' h => kk r w' h.2)
theorem qc_S1 (hΓ : Ok Γ l y cc mL d 0 0) (hd : decode cc pc = .ok (.invokestatic idx, 3)) (hlk : Cond.methodLink y.cls idx z ∈ wsL_law) (hz : SW z cz mz rz np) (hdd : d' + 1 ≤ d) (hS : Sq l z cz mz rz d' as n w (Rs (some v) w')) (hnp : as.length = np) (hst : st0 = as.reverse ++ st) (hl8 : st.length ≤ 4) (kk : Γ (pc + 3) L (v :: st) (0, 0) n w') : Γ pc L st0 (0, 0) n w := qc_S hΓ hd hlk hz hdd hS hnp hst hl8 (fun r u h => by obtain ⟨rfl, rfl⟩ := h; exact kk)
theorem qc_S0 (hΓ : Ok Γ l y cc mL d 0 0) (hd : decode cc pc = .ok (.invokestatic idx, 3)) (hlk : Cond.methodLink y.cls idx z ∈ wsL_law) (hz : SW z cz mz rz np) (hdd : d' + 1 ≤ d) (hS : Sq l z cz mz rz d' as n w (Rs none w')) (hnp : as.length = np) (hst : st0 = as.reverse ++ st) (hl8 : st.length ≤ 4) (kk : Γ (pc + 3) L st (0, 0) n w') : Γ pc L st0 (0, 0) n w := qc_S hΓ hd hlk hz hdd hS hnp hst hl8 (fun r u h => by obtain ⟨rfl, rfl⟩ := h; exact kk)
theorem qc_N (hΓ : Ok Γ l y cc mL d 0 0) (hd : decode cc pc = .ok (.invokestatic idx, 3)) (hlk : (y.cls, idx, z) ∈ nestG) (hz : SW z cz mz rz np) (hdd : d' + 1 ≤ d) (hS : Sq l z cz mz rz d' as n w Q) (hnp : as.length = np) (hst : st0 = as.reverse ++ st) (hl8 : st.length ≤ 4) (kk : ∀ r w', Q r w' → Γ (pc + 3) L (r.toList ++ st) (0, 0) n w') : Γ pc L st0 (0, 0) n w := qa_callN hΓ hd hlk hz hS hdd hnp hst hl8 ⟨Nat.le_refl _, Nat.le_refl _⟩ (fun _ _ _ h => h.1) (fun r w' h => kk r w' h.2)
theorem qc_N1 (hΓ : Ok Γ l y cc mL d 0 0) (hd : decode cc pc = .ok (.invokestatic idx, 3)) (hlk : (y.cls, idx, z) ∈ nestG) (hz : SW z cz mz rz np) (hdd : d' + 1 ≤ d) (hS : Sq l z cz mz rz d' as n w (Rs (some v) w')) (hnp : as.length = np) (hst : st0 = as.reverse ++ st) (hl8 : st.length ≤ 4) (kk : Γ (pc + 3) L (v :: st) (0, 0) n w') : Γ pc L st0 (0, 0) n w := qc_N hΓ hd hlk hz hdd hS hnp hst hl8 (fun r u h => by obtain ⟨rfl, rfl⟩ := h; exact kk)
theorem qc_N0 (hΓ : Ok Γ l y cc mL d 0 0) (hd : decode cc pc = .ok (.invokestatic idx, 3)) (hlk : (y.cls, idx, z) ∈ nestG) (hz : SW z cz mz rz np) (hdd : d' + 1 ≤ d) (hS : Sq l z cz mz rz d' as n w (Rs none w')) (hnp : as.length = np) (hst : st0 = as.reverse ++ st) (hl8 : st.length ≤ 4) (kk : Γ (pc + 3) L st (0, 0) n w') : Γ pc L st0 (0, 0) n w := qc_N hΓ hd hlk hz hdd hS hnp hst hl8 (fun r u h => by obtain ⟨rfl, rfl⟩ := h; exact kk)
end
end
section
/-! The worlds' parts: a bank at k (its object and six rows), the model, and the rest -/
abbrev Bk : Type := Nat → Nat → Nat
def bset (b : Bk) (i j x : Nat) : Bk := fun i' => if i' = i then upN (b i) j x else b i'
theorem bset_ne (b : Bk) {i i' : Nat} (j x : Nat) (h : i' ≠ i) : bset b i j x i' = b i' := by simp [bset, h]
theorem bset_eq (b : Bk) (i j x : Nat) : bset b i j x i = upN (b i) j x := by simp [bset]
abbrev bkObj (k : Nat) (b : Bk) : AC := cObj 0 [aR (k + 1), aR (k + 2), aR (k + 3), aR (k + 4), aR (k + 5), aR (k + 6), aZ (b 6 0), aZ (b 6 1), aZ (b 6 2), aZ (b 6 3), aZ (b 6 4), aZ (b 6 5), aZ (b 6 6), aZ (b 6 7), aZ (b 6 8)]
def bkL (i : Nat) : Nat := if i < 4 then 8 else if i = 4 then 48 else 16
def BkAt (n : Nat) (w : Nat → AC) (k : Nat) (b : Bk) : Prop := k + 7 ≤ n ∧ w k = bkObj k b ∧ ∀ i, i < 6 → w (k + 1 + i) = zA (bkL i) (b i)
section
variable {n k : Nat} {w w' : Nat → AC} {b : Bk}
theorem BkAt.lt (h : BkAt n w k b) : k < n := by have := h.1; omega
theorem BkAt.o (h : BkAt n w k b) : w k = bkObj k b := h.2.1
theorem BkAt.lti (h : BkAt n w k b) {i : Nat} (hi : i < 7) : k + i < n := by have := h.1; omega
theorem BkAt.a0 (h : BkAt n w k b) : w (k + 1) = zA 8 (b 0) := h.2.2 0 (by decide)
theorem BkAt.a1 (h : BkAt n w k b) : w (k + 2) = zA 8 (b 1) := h.2.2 1 (by decide)
theorem BkAt.a2 (h : BkAt n w k b) : w (k + 3) = zA 8 (b 2) := h.2.2 2 (by decide)
theorem BkAt.a3 (h : BkAt n w k b) : w (k + 4) = zA 8 (b 3) := h.2.2 3 (by decide)
theorem BkAt.a4 (h : BkAt n w k b) : w (k + 5) = zA 48 (b 4) := h.2.2 4 (by decide)
theorem BkAt.a5 (h : BkAt n w k b) : w (k + 6) = zA 16 (b 5) := h.2.2 5 (by decide)
theorem BkAt.ofFr (h : BkAt n w k b) {j m : Nat} (hF : Fr j m w w') (hd : k + 7 ≤ j ∨ j + m ≤ k) : BkAt n w' k b := by
  refine ⟨h.1, (hF k (by omega)).trans h.2.1, fun i hi => (hF (k + 1 + i) (by omega)).trans (h.2.2 i hi)⟩
theorem BkAt.setA (h : BkAt n w k b) (i j x : Nat) (hi : i < 6) : BkAt n (upw w (k + 1 + i) (zA (bkL i) (upN (b i) j x))) k (bset b i j x) ∧ Fr k 7 w (upw w (k + 1 + i) (zA (bkL i) (upN (b i) j x))) := by
  refine ⟨⟨h.1, ?_, fun i' hi' => ?_⟩, Fr.up (by omega) (by omega)⟩
  · rw [upw_ne _ _ _ (by omega), h.2.1]
    have e : bset b i j x 6 = b 6 := bset_ne _ _ _ (by omega)
    unfold bkObj
    rw [e]
  · by_cases e : i' = i
    · subst e
      rw [upw_self, bset_eq]
    · rw [upw_ne _ _ _ (by omega), h.2.2 i' hi', bset_ne _ _ _ e]
theorem BkAt.setO (h : BkAt n w k b) (b' : Bk) (hb : ∀ i, i < 6 → b' i = b i) : BkAt n (upw w k (bkObj k b')) k b' ∧ Fr k 7 w (upw w k (bkObj k b')) := by
  refine ⟨⟨h.1, upw_self _ _ _, fun i hi => ?_⟩, Fr.up (by omega) (by omega)⟩
  rw [upw_ne _ _ _ (by omega), h.2.2 i hi, hb i hi]
theorem bset6 (b : Bk) (j x : Nat) : ∀ i, i < 6 → bset b 6 j x i = b i := fun i hi => bset_ne _ _ _ (by omega)
end
/-- writing a number of a bank -/
theorem bk_set (k : Nat) (b : Bk) (i x : Nat) (hi : i < 9) : cObj 0 (([aR (k + 1), aR (k + 2), aR (k + 3), aR (k + 4), aR (k + 5), aR (k + 6), aZ (b 6 0), aZ (b 6 1), aZ (b 6 2), aZ (b 6 3), aZ (b 6 4), aZ (b 6 5), aZ (b 6 6), aZ (b 6 7), aZ (b 6 8)] : List AV).set (i + 6) (aZ x)) = bkObj k (bset b 6 i x) := by
  unfold bkObj
  rw [bset_eq]
  rcases (show i = 0 ∨ i = 1 ∨ i = 2 ∨ i = 3 ∨ i = 4 ∨ i = 5 ∨ i = 6 ∨ i = 7 ∨ i = 8 by omega) with rfl | rfl | rfl | rfl | rfl | rfl | rfl | rfl | rfl <;> rfl
theorem qB_put {Γ : Gm} {l : Launch} {y : MethodName} {cc : ByteArray} {mL d mc ms pc n k idx x : Nat} {L st : List AV} {cs : Nat × Nat} {w : Nat → AC} {b : Bk} (hΓ : Ok Γ l y cc mL d mc ms) (i : Nat) (hd : decode cc pc = .ok (.putfield idx, 3)) (hf : FLK y.cls idx 0 (i + 6) false .int) (hi : i < 9) (hB : BkAt n w k b) (kk : ∀ w', BkAt n w' k (bset b 6 i x) → Fr k 7 w w' → Γ (pc + 3) L st cs n w') : Γ pc L (aZ x :: aR k :: st) cs n w := by
  refine qa_puti hΓ hd hf hB.lt hB.o (by simp; omega) ?_
  rw [bk_set k b i x hi]
  obtain ⟨h1, h2⟩ := hB.setO (bset b 6 i x) (bset6 b i x)
  exact kk _ h1 h2
section
variable {n k : Nat} {w w' : Nat → AC} {M : Bk}
theorem bset5 (b : Bk) (j x : Nat) : ∀ i, i < 5 → bset b 5 j x i = b i := fun i hi => bset_ne _ _ _ (by omega)
end
def rset (M : Bk) (a : Nat) (f : Nat → Nat) : Bk := fun a' => if a' = a then f else M a'
theorem rset_eq (M : Bk) (a : Nat) (f : Nat → Nat) : rset M a f a = f := by simp [rset]
theorem rset_ne (M : Bk) {a a' : Nat} (f : Nat → Nat) (h : a' ≠ a) : rset M a f a' = M a' := by simp [rset, h]
end
section
/-- contracts that leave a world: an answer, and what holds of the world -/
def Qn (P : (Nat → AC) → Prop) : Option AV → (Nat → AC) → Prop := fun r w' => r = none ∧ P w'
def Qv (v : AV) (P : (Nat → AC) → Prop) : Option AV → (Nat → AC) → Prop := fun r w' => r = some v ∧ P w'
def PB (n k : Nat) (b : Bk) (w : Nat → AC) : (Nat → AC) → Prop := fun w' => BkAt n w' k b ∧ Fr k 7 w w'
section
variable {Γ : Gm} {l : Launch} {y : MethodName} {cc : ByteArray} {mL d : Nat} {pc n : Nat} {L st : List AV} {w : Nat → AC}
variable {idx mz np d' k0 : Nat} {z : MethodName} {cz : ByteArray} {rz : Option FieldType} {as st0 : List AV} {Pw : (Nat → AC) → Prop} {v : AV}
theorem qc_V1q (hΓ : Ok Γ l y cc mL d 0 0) (hd : decode cc pc = .ok (.invokevirtual idx, 3)) (hlk : Cond.methodLink y.cls idx z ∈ wsL_law) (hz : VW z cz mz rz np) (hdd : d' + 1 ≤ d) (hS : Sq l z cz mz rz d' (aR k0 :: as) n w (Qv v Pw)) (hnp : as.length = np) {ci : Nat} {fs : List AV} {T : u_T} {N : Nat} (hk : k0 < n) (hw : w k0 = cObj ci fs) (hc : vwCl[ci]? = some (z.cls, T, N)) (hst : st0 = as.reverse ++ aR k0 :: st) (hl8 : st.length ≤ 4) (kk : ∀ w', Pw w' → Γ (pc + 3) L (v :: st) (0, 0) n w') : Γ pc L st0 (0, 0) n w := qc_V hΓ hd hlk hz hdd hS hnp hk hw hc hst hl8 (fun r u h => by obtain ⟨rfl, h⟩ := h; exact kk u h)
theorem qc_V0q (hΓ : Ok Γ l y cc mL d 0 0) (hd : decode cc pc = .ok (.invokevirtual idx, 3)) (hlk : Cond.methodLink y.cls idx z ∈ wsL_law) (hz : VW z cz mz rz np) (hdd : d' + 1 ≤ d) (hS : Sq l z cz mz rz d' (aR k0 :: as) n w (Qn Pw)) (hnp : as.length = np) {ci : Nat} {fs : List AV} {T : u_T} {N : Nat} (hk : k0 < n) (hw : w k0 = cObj ci fs) (hc : vwCl[ci]? = some (z.cls, T, N)) (hst : st0 = as.reverse ++ aR k0 :: st) (hl8 : st.length ≤ 4) (kk : ∀ w', Pw w' → Γ (pc + 3) L st (0, 0) n w') : Γ pc L st0 (0, 0) n w := qc_V hΓ hd hlk hz hdd hS hnp hk hw hc hst hl8 (fun r u h => by obtain ⟨rfl, h⟩ := h; exact kk u h)
theorem qc_S1q (hΓ : Ok Γ l y cc mL d 0 0) (hd : decode cc pc = .ok (.invokestatic idx, 3)) (hlk : Cond.methodLink y.cls idx z ∈ wsL_law) (hz : SW z cz mz rz np) (hdd : d' + 1 ≤ d) (hS : Sq l z cz mz rz d' as n w (Qv v Pw)) (hnp : as.length = np) (hst : st0 = as.reverse ++ st) (hl8 : st.length ≤ 4) (kk : ∀ w', Pw w' → Γ (pc + 3) L (v :: st) (0, 0) n w') : Γ pc L st0 (0, 0) n w := qc_S hΓ hd hlk hz hdd hS hnp hst hl8 (fun r u h => by obtain ⟨rfl, h⟩ := h; exact kk u h)
theorem qc_S0q (hΓ : Ok Γ l y cc mL d 0 0) (hd : decode cc pc = .ok (.invokestatic idx, 3)) (hlk : Cond.methodLink y.cls idx z ∈ wsL_law) (hz : SW z cz mz rz np) (hdd : d' + 1 ≤ d) (hS : Sq l z cz mz rz d' as n w (Qn Pw)) (hnp : as.length = np) (hst : st0 = as.reverse ++ st) (hl8 : st.length ≤ 4) (kk : ∀ w', Pw w' → Γ (pc + 3) L st (0, 0) n w') : Γ pc L st0 (0, 0) n w := qc_S hΓ hd hlk hz hdd hS hnp hst hl8 (fun r u h => by obtain ⟨rfl, h⟩ := h; exact kk u h)
theorem qc_N1q (hΓ : Ok Γ l y cc mL d 0 0) (hd : decode cc pc = .ok (.invokestatic idx, 3)) (hlk : (y.cls, idx, z) ∈ nestG) (hz : SW z cz mz rz np) (hdd : d' + 1 ≤ d) (hS : Sq l z cz mz rz d' as n w (Qv v Pw)) (hnp : as.length = np) (hst : st0 = as.reverse ++ st) (hl8 : st.length ≤ 4) (kk : ∀ w', Pw w' → Γ (pc + 3) L (v :: st) (0, 0) n w') : Γ pc L st0 (0, 0) n w := qc_N hΓ hd hlk hz hdd hS hnp hst hl8 (fun r u h => by obtain ⟨rfl, h⟩ := h; exact kk u h)
theorem qc_N0q (hΓ : Ok Γ l y cc mL d 0 0) (hd : decode cc pc = .ok (.invokestatic idx, 3)) (hlk : (y.cls, idx, z) ∈ nestG) (hz : SW z cz mz rz np) (hdd : d' + 1 ≤ d) (hS : Sq l z cz mz rz d' as n w (Qn Pw)) (hnp : as.length = np) (hst : st0 = as.reverse ++ st) (hl8 : st.length ≤ 4) (kk : ∀ w', Pw w' → Γ (pc + 3) L st (0, 0) n w') : Γ pc L st0 (0, 0) n w := qc_N hΓ hd hlk hz hdd hS hnp hst hl8 (fun r u h => by obtain ⟨rfl, h⟩ := h; exact kk u h)
end
end
section
/-! Leaves: the static methods of RelayBank, Branch, Bank; Math.floorMod; the model's in, of, puts -/
theorem bt1 (a j : Nat) : (a >>> j) &&& 1 = (a.testBit j).toNat := by
  rw [Nat.toNat_testBit, Nat.and_one_is_mod, Nat.shiftRight_eq_div_pow]
set_option maxRecDepth 100000 in
set_option maxHeartbeats 4000000 in
theorem c_X5_isWithin (l : Launch) (d : Nat) {n : Nat} {w : Nat → AC} (v a b : Int32) : Sq l yX5_isWithin cX5_isWithin 3 (some .boolean) d [aI v, aI a, aI b] n w (Rs (some (aZ (decide (a ≤ v ∧ v ≤ b)).toNat)) w) := by
  refine Sp.of (plainFor_of_name (by decide)) (Nat.le_of_ble_eq_true rfl) (fun Γ hΓ hR => ?_)
  show Γ 0 [aI v, aI a, aI b] [] (0, 0) n w
  refine qa_iload_n hΓ dX5_isWithin_0 rfl ?_
  refine qa_iload_n hΓ dX5_isWithin_1 rfl ?_
  refine qa_icmp_gt (tgt := 14) hΓ dX5_isWithin_2 (by decide) (fun h_2 => ?_) (fun h_2 => ?_)
  · refine qa_iconst (v := nI 0) hΓ dX5_isWithin_14 ic_0 ?_
    exact qr_b (p := false) hR dX5_isWithin_15 ⟨congrArg (fun p : Bool => some (aZ p.toNat)) ((decide_eq_false (fun q => by first | exact absurd h_2 (Int32.not_lt.mpr q.1) | exact absurd h_7 (Int32.not_lt.mpr q.2))).symm), rfl⟩
  · refine qa_iload_n hΓ dX5_isWithin_5 rfl ?_
    refine qa_iload_n hΓ dX5_isWithin_6 rfl ?_
    refine qa_icmp_gt (tgt := 14) hΓ dX5_isWithin_7 (by decide) (fun h_7 => ?_) (fun h_7 => ?_)
    · refine qa_iconst (v := nI 0) hΓ dX5_isWithin_14 ic_0 ?_
      exact qr_b (p := false) hR dX5_isWithin_15 ⟨congrArg (fun p : Bool => some (aZ p.toNat)) ((decide_eq_false (fun q => by first | exact absurd h_2 (Int32.not_lt.mpr q.1) | exact absurd h_7 (Int32.not_lt.mpr q.2))).symm), rfl⟩
    · refine qa_iconst (v := nI 1) hΓ dX5_isWithin_10 ic_1 ?_
      refine qa_goto (tgt := 15) hΓ dX5_isWithin_11 (by decide) ?_
      exact qr_b (p := true) hR dX5_isWithin_15 ⟨congrArg (fun p : Bool => some (aZ p.toNat)) ((decide_eq_true ⟨Int32.not_lt.mp h_2, Int32.not_lt.mp h_7⟩).symm), rfl⟩

set_option maxRecDepth 100000 in
set_option maxHeartbeats 4000000 in
theorem c_X5_bitOf (l : Launch) (d : Nat) {n : Nat} {w : Nat → AC} (a j : Nat) (ha : a < 4294967296) (hj : j < 32) : Sq l yX5_bitOf cX5_bitOf 2 (some .int) d [aZ a, aZ j] n w (Rs (some (aZ (a.testBit j).toNat)) w) := by
  refine Sp.of (plainFor_of_name (by decide)) (Nat.le_of_ble_eq_true rfl) (fun Γ hΓ hR => ?_)
  show Γ 0 [aZ a, aZ j] [] (0, 0) n w
  refine qa_iload_n hΓ dX5_bitOf_0 rfl ?_
  refine qa_iload_n hΓ dX5_bitOf_1 rfl ?_
  refine qz_iushr hΓ dX5_bitOf_2 (by omega) (by omega) ?_
  refine qa_iconst (v := nI 1) hΓ dX5_bitOf_3 ic_1 ?_
  refine qz_iand hΓ dX5_bitOf_4 ?_
  exact qr_i hR dX5_bitOf_5 ⟨by rw [bt1], rfl⟩

set_option maxRecDepth 100000 in
set_option maxHeartbeats 4000000 in
theorem c_X5_isIn (l : Launch) (d : Nat) {n : Nat} {w : Nat → AC} (a j : Nat) (ha : a < 4294967296) (hj : j < 32) : Sq l yX5_isIn cX5_isIn 2 (some .boolean) d [aZ a, aZ j] n w (Rs (some (aZ (a.testBit j).toNat)) w) := by
  refine Sp.of (plainFor_of_name (by decide)) (Nat.le_of_ble_eq_true rfl) (fun Γ hΓ hR => ?_)
  show Γ 0 [aZ a, aZ j] [] (0, 0) n w
  refine qa_iload_n hΓ dX5_isIn_0 rfl ?_
  refine qa_iload_n hΓ dX5_isIn_1 rfl ?_
  refine qz_iushr hΓ dX5_isIn_2 (by omega) (by omega) ?_
  refine qa_iconst (v := nI 1) hΓ dX5_isIn_3 ic_1 ?_
  refine qz_iand hΓ dX5_isIn_4 ?_
  refine qa_iconst (v := nI 1) hΓ dX5_isIn_5 ic_1 ?_
  refine qz_icmp_ne (tgt := 13) hΓ dX5_isIn_6 (by decide) (Nat.lt_of_le_of_lt (Nat.and_le_right) (by decide)) (by decide) (fun h_6 => ?_) (fun h_6 => ?_)
  · refine qa_iconst (v := nI 0) hΓ dX5_isIn_13 ic_0 ?_
    exact qr_b (p := false) hR dX5_isIn_14 ⟨congrArg (fun p : Bool => some (aZ p.toNat)) (by cases q : a.testBit j <;> rw [bt1, q] at h_6 <;> first | rfl | exact absurd rfl h_6 | cases h_6), rfl⟩
  · refine qa_iconst (v := nI 1) hΓ dX5_isIn_9 ic_1 ?_
    refine qa_goto (tgt := 14) hΓ dX5_isIn_10 (by decide) ?_
    exact qr_b (p := true) hR dX5_isIn_14 ⟨congrArg (fun p : Bool => some (aZ p.toNat)) (by cases q : a.testBit j <;> rw [bt1, q] at h_6 <;> first | rfl | exact absurd rfl h_6 | cases h_6), rfl⟩

set_option maxRecDepth 100000 in
set_option maxHeartbeats 4000000 in
theorem c_X5_at (l : Launch) (d : Nat) {n : Nat} {w : Nat → AC} {k0 N : Nat} {f : Nat → Nat} (hk : k0 < n) (hw : w k0 = zA N f) (j : Nat) (hj : j < N) (hN : N < 2147483648) : Sq l yX5_at cX5_at 2 (some .int) d [aR k0, aZ j] n w (Rs (some (aZ (f j))) w) := by
  refine Sp.of (plainFor_of_name (by decide)) (Nat.le_of_ble_eq_true rfl) (fun Γ hΓ hR => ?_)
  show Γ 0 [aR k0, aZ j] [] (0, 0) n w
  refine qa_iconst (v := nI 0) hΓ dX5_at_0 ic_0 ?_
  refine qa_iload_n hΓ dX5_at_1 rfl ?_
  refine qz_icmp_gt (tgt := 17) hΓ dX5_at_2 (by decide) (by decide) (by omega) (fun h_2 => absurd h_2 (by omega)) (fun h_2 => ?_)
  refine qa_iload_n hΓ dX5_at_5 rfl ?_
  refine qa_aload_n hΓ dX5_at_6 rfl ?_
  refine qa_alen hΓ dX5_at_7 hk hw (by decide) rfl ?_
  refine qz_icmp_ge (tgt := 17) hΓ dX5_at_8 (by decide) (by omega) (by omega) (fun h_8 => absurd h_8 (by omega)) (fun h_8 => ?_)
  refine qa_aload_n hΓ dX5_at_11 rfl ?_
  refine qa_iload_n hΓ dX5_at_12 rfl ?_
  refine qz_iald hΓ dX5_at_13 hk hw hj hN ?_
  refine qa_goto (tgt := 18) hΓ dX5_at_14 (by decide) ?_
  exact qr_i hR dX5_at_18 ⟨rfl, rfl⟩

set_option maxRecDepth 100000 in
set_option maxHeartbeats 4000000 in
theorem c_X5_put (l : Launch) (d : Nat) {n : Nat} {w : Nat → AC} {k0 N : Nat} {f : Nat → Nat} (hk : k0 < n) (hw : w k0 = zA N f) (j x : Nat) (hj : j < N) (hN : N < 2147483648) : Sq l yX5_put cX5_put 3 none d [aR k0, aZ j, aZ x] n w (Rs none (upw w k0 (zA N (upN f j x)))) := by
  refine Sp.of (plainFor_of_name (by decide)) (Nat.le_of_ble_eq_true rfl) (fun Γ hΓ hR => ?_)
  show Γ 0 [aR k0, aZ j, aZ x] [] (0, 0) n w
  refine qa_iconst (v := nI 0) hΓ dX5_put_0 ic_0 ?_
  refine qa_iload_n hΓ dX5_put_1 rfl ?_
  refine qz_icmp_gt (tgt := 15) hΓ dX5_put_2 (by decide) (by decide) (by omega) (fun h_2 => absurd h_2 (by omega)) (fun h_2 => ?_)
  refine qa_iload_n hΓ dX5_put_5 rfl ?_
  refine qa_aload_n hΓ dX5_put_6 rfl ?_
  refine qa_alen hΓ dX5_put_7 hk hw (by decide) rfl ?_
  refine qz_icmp_ge (tgt := 15) hΓ dX5_put_8 (by decide) (by omega) (by omega) (fun h_8 => absurd h_8 (by omega)) (fun h_8 => ?_)
  refine qa_aload_n hΓ dX5_put_11 rfl ?_
  refine qa_iload_n hΓ dX5_put_12 rfl ?_
  refine qa_iload_n hΓ dX5_put_13 rfl ?_
  refine qz_iast hΓ dX5_put_14 hk hw hj hN ?_
  exact qr_v hR dX5_put_15 (⟨rfl, rfl⟩)

set_option maxRecDepth 100000 in
set_option maxHeartbeats 4000000 in
theorem c_X5_isKey (l : Launch) (d : Nat) (hd : 1 ≤ d) {n : Nat} {w : Nat → AC} (v : Int32) : Sq l yX5_isKey cX5_isKey 1 (some .boolean) d [aI v] n w (Rs (some (aZ (decide (nI 0 ≤ v ∧ v ≤ nI 7)).toNat)) w) := by
  refine Sp.of (plainFor_of_name (by decide)) (Nat.le_of_ble_eq_true rfl) (fun Γ hΓ hR => ?_)
  show Γ 0 [aI v] [] (0, 0) n w
  refine qa_iload_n hΓ dX5_isKey_0 rfl ?_
  refine qa_iconst (v := nI 0) hΓ dX5_isKey_1 ic_0 ?_
  refine qa_bipush (v := nI 7) hΓ dX5_isKey_2 bp_7 ?_
  refine qc_S1 hΓ dX5_isKey_4 lk_X5_71 vw_X5_isWithin (by omega) (c_X5_isWithin l (d - 1) _ _ _) rfl rfl (Nat.le_of_ble_eq_true rfl) ?_
  exact qr_b hR dX5_isKey_7 ⟨rfl, rfl⟩

set_option maxRecDepth 100000 in
set_option maxHeartbeats 4000000 in
theorem c_X5_areDelays (l : Launch) (d : Nat) (hd : 1 ≤ d) {n : Nat} {w : Nat → AC} (u v x : Int32) : Sq l yX5_areDelays cX5_areDelays 3 (some .boolean) d [aI u, aI v, aI x] n w (Rs (some (aZ (decide ((nI 1 ≤ u ∧ u ≤ nI 20) ∧ (nI 1 ≤ v ∧ v ≤ nI 20) ∧ (nI 0 ≤ x ∧ x ≤ nI 5))).toNat)) w) := by
  refine Sp.of (plainFor_of_name (by decide)) (Nat.le_of_ble_eq_true rfl) (fun Γ hΓ hR => ?_)
  show Γ 0 [aI u, aI v, aI x] [] (0, 0) n w
  refine qa_iload_n hΓ dX5_areDelays_0 rfl ?_
  refine qa_iconst (v := nI 1) hΓ dX5_areDelays_1 ic_1 ?_
  refine qa_bipush (v := nI 20) hΓ dX5_areDelays_2 bp_20 ?_
  refine qc_S1 hΓ dX5_areDelays_4 lk_X5_71 vw_X5_isWithin (by omega) (c_X5_isWithin l (d - 1) _ _ _) rfl rfl (Nat.le_of_ble_eq_true rfl) ?_
  refine qb_if_eq (tgt := 33) hΓ dX5_areDelays_7 (by decide) (fun h_7 => ?_) (fun h_7 => ?_)
  · refine qa_iconst (v := nI 0) hΓ dX5_areDelays_33 ic_0 ?_
    exact qr_b (p := false) hR dX5_areDelays_34 ⟨congrArg (fun p : Bool => some (aZ p.toNat)) (decide_eq_false (fun q => by first | exact of_decide_eq_false h_7 q.1 | exact of_decide_eq_false h_17 q.2.1 | exact of_decide_eq_false h_26 q.2.2)).symm, rfl⟩
  · refine qa_iload_n hΓ dX5_areDelays_10 rfl ?_
    refine qa_iconst (v := nI 1) hΓ dX5_areDelays_11 ic_1 ?_
    refine qa_bipush (v := nI 20) hΓ dX5_areDelays_12 bp_20 ?_
    refine qc_S1 hΓ dX5_areDelays_14 lk_X5_71 vw_X5_isWithin (by omega) (c_X5_isWithin l (d - 1) _ _ _) rfl rfl (Nat.le_of_ble_eq_true rfl) ?_
    refine qb_if_eq (tgt := 33) hΓ dX5_areDelays_17 (by decide) (fun h_17 => ?_) (fun h_17 => ?_)
    · refine qa_iconst (v := nI 0) hΓ dX5_areDelays_33 ic_0 ?_
      exact qr_b (p := false) hR dX5_areDelays_34 ⟨congrArg (fun p : Bool => some (aZ p.toNat)) (decide_eq_false (fun q => by first | exact of_decide_eq_false h_7 q.1 | exact of_decide_eq_false h_17 q.2.1 | exact of_decide_eq_false h_26 q.2.2)).symm, rfl⟩
    · refine qa_iload_n hΓ dX5_areDelays_20 rfl ?_
      refine qa_iconst (v := nI 0) hΓ dX5_areDelays_21 ic_0 ?_
      refine qa_iconst (v := nI 5) hΓ dX5_areDelays_22 ic_5 ?_
      refine qc_S1 hΓ dX5_areDelays_23 lk_X5_71 vw_X5_isWithin (by omega) (c_X5_isWithin l (d - 1) _ _ _) rfl rfl (Nat.le_of_ble_eq_true rfl) ?_
      refine qb_if_eq (tgt := 33) hΓ dX5_areDelays_26 (by decide) (fun h_26 => ?_) (fun h_26 => ?_)
      · refine qa_iconst (v := nI 0) hΓ dX5_areDelays_33 ic_0 ?_
        exact qr_b (p := false) hR dX5_areDelays_34 ⟨congrArg (fun p : Bool => some (aZ p.toNat)) (decide_eq_false (fun q => by first | exact of_decide_eq_false h_7 q.1 | exact of_decide_eq_false h_17 q.2.1 | exact of_decide_eq_false h_26 q.2.2)).symm, rfl⟩
      · refine qa_iconst (v := nI 1) hΓ dX5_areDelays_29 ic_1 ?_
        refine qa_goto (tgt := 34) hΓ dX5_areDelays_30 (by decide) ?_
        exact qr_b (p := true) hR dX5_areDelays_34 ⟨congrArg (fun p : Bool => some (aZ p.toNat)) (decide_eq_true ⟨of_decide_eq_true h_7, of_decide_eq_true h_17, of_decide_eq_true h_26⟩).symm, rfl⟩

set_option maxRecDepth 100000 in
set_option maxHeartbeats 4000000 in
theorem c_X0_relayOf (l : Launch) (d : Nat) {n : Nat} {w : Nat → AC} (a : Nat) (ha : a < 2147483648) : Sq l yX0_relayOf cX0_relayOf 1 (some .int) d [aZ a] n w (Rs (some (aZ (a / 2))) w) := by
  refine Sp.of (plainFor_of_name (by decide)) (Nat.le_of_ble_eq_true rfl) (fun Γ hΓ hR => ?_)
  show Γ 0 [aZ a] [] (0, 0) n w
  refine qa_iload_n hΓ dX0_relayOf_0 rfl ?_
  refine qa_iconst (v := nI 1) hΓ dX0_relayOf_1 ic_1 ?_
  refine qz_ishr hΓ dX0_relayOf_2 (by omega) (by omega) ?_
  exact qr_i hR dX0_relayOf_3 ⟨by rw [Nat.shiftRight_eq_div_pow], rfl⟩

set_option maxRecDepth 100000 in
set_option maxHeartbeats 4000000 in
theorem c_X0_isBounceEnd (l : Launch) (d : Nat) {n : Nat} {w : Nat → AC} (a : Nat) : Sq l yX0_isBounceEnd cX0_isBounceEnd 1 (some .boolean) d [aZ a] n w (Rs (some (aZ (decide (a % 2 = 1)).toNat)) w) := by
  refine Sp.of (plainFor_of_name (by decide)) (Nat.le_of_ble_eq_true rfl) (fun Γ hΓ hR => ?_)
  show Γ 0 [aZ a] [] (0, 0) n w
  refine qa_iload_n hΓ dX0_isBounceEnd_0 rfl ?_
  refine qa_iconst (v := nI 1) hΓ dX0_isBounceEnd_1 ic_1 ?_
  refine qz_iand hΓ dX0_isBounceEnd_2 ?_
  refine qa_iconst (v := nI 1) hΓ dX0_isBounceEnd_3 ic_1 ?_
  refine qz_icmp_ne (tgt := 11) hΓ dX0_isBounceEnd_4 (by decide) (Nat.lt_of_le_of_lt (Nat.and_le_right) (by decide)) (by decide) (fun h_4 => ?_) (fun h_4 => ?_)
  · refine qa_iconst (v := nI 0) hΓ dX0_isBounceEnd_11 ic_0 ?_
    exact qr_b (p := false) hR dX0_isBounceEnd_12 ⟨congrArg (fun p : Bool => some (aZ p.toNat)) (by rw [Nat.and_one_is_mod] at h_4; simp; omega), rfl⟩
  · refine qa_iconst (v := nI 1) hΓ dX0_isBounceEnd_7 ic_1 ?_
    refine qa_goto (tgt := 12) hΓ dX0_isBounceEnd_8 (by decide) ?_
    exact qr_b (p := true) hR dX0_isBounceEnd_12 ⟨congrArg (fun p : Bool => some (aZ p.toNat)) (by rw [Nat.and_one_is_mod] at h_4; simp; omega), rfl⟩

set_option maxRecDepth 100000 in
set_option maxHeartbeats 4000000 in
theorem c_J9_floorMod_7cf53 (l : Launch) (d : Nat) {n : Nat} {w : Nat → AC} (a b : Nat) (ha : a < 2147483648) (hb : b < 2147483648) (h0 : 0 < b) : Sq l yJ9_floorMod_7cf53 cJ9_floorMod_7cf53 3 (some .int) d [aZ a, aZ b] n w (Rs (some (aZ (a % b))) w) := by
  refine Sp.of (by decide +kernel) (Nat.le_of_ble_eq_true rfl) (fun Γ hΓ hR => ?_)
  show Γ 0 [aZ a, aZ b, none] [] (0, 0) n w
  refine qa_iload_n hΓ dJ9_floorMod_7cf53_0 rfl ?_
  refine qa_iload_n hΓ dJ9_floorMod_7cf53_1 rfl ?_
  refine qz_irem hΓ dJ9_floorMod_7cf53_2 ha hb h0 ?_
  refine qa_istore_n hΓ dJ9_floorMod_7cf53_3 (by decide) ?_
  refine qa_iload_n hΓ dJ9_floorMod_7cf53_4 rfl ?_
  refine qa_iload_n hΓ dJ9_floorMod_7cf53_5 rfl ?_
  refine qz_ixor hΓ dJ9_floorMod_7cf53_6 ?_
  refine qz_if_ge (tgt := 18) hΓ dJ9_floorMod_7cf53_7 (by decide) (Nat.xor_lt_two_pow (n := 31) ha hb) ?_
  refine qa_iload_n hΓ dJ9_floorMod_7cf53_18 rfl ?_
  exact qr_i hR dJ9_floorMod_7cf53_19 ⟨rfl, rfl⟩
end
section
/-! What the model does, as functions of its row s: keys, relays, time, then 25 numbers a relay -/
def vv (s : Nat → Nat) (r x : Nat) : Nat := s (3 + 25 * r + x)
abbrev ix (r x : Nat) : Nat := 3 + 25 * r + x
theorem vv_up (s : Nat → Nat) (r x y r' x' : Nat) (hx : x < 25) (hx' : x' < 25) : vv (upN s (ix r x) y) r' x' = if r' = r ∧ x' = x then y else vv s r' x' := by
  unfold vv upN ix
  by_cases h : r' = r ∧ x' = x
  · obtain ⟨rfl, rfl⟩ := h
    simp
  · rw [if_neg h, if_neg (by omega)]
theorem vv_same (s : Nat → Nat) (r x y : Nat) : vv (upN s (ix r x) y) r x = y := by
  unfold vv
  exact upN_self _ _ _
theorem vv_oth (s : Nat → Nat) (r x y r' x' : Nat) (hx : x < 25) (hx' : x' < 25) (h : r' ≠ r ∨ x' ≠ x) : vv (upN s (ix r x) y) r' x' = vv s r' x' := by
  rw [vv_up _ _ _ _ _ _ hx hx', if_neg (by omega)]
theorem hd_up (s : Nat → Nat) (r x y : Nat) {j : Nat} (hj : j < 3) : upN s (ix r x) y j = s j := upN_ne _ _ _ (by unfold ix; omega)
theorem vv_hd (s : Nat → Nat) (j y r x : Nat) (hj : j < 3) : vv (upN s j y) r x = vv s r x := upN_ne _ _ _ (by omega)
def mk (p : Nat → Bool) : Nat → Nat
  | 0 => 0
  | n + 1 => mk p n ||| (if p n then 1 <<< n else 0)
theorem mk_bit (p : Nat → Bool) : ∀ n i, (mk p n).testBit i = (decide (i < n) && p i)
  | 0, i => by simp [mk]
  | n + 1, i => by
    show (mk p n ||| (if p n then 1 <<< n else 0)).testBit i = _
    rw [Nat.testBit_or, mk_bit p n i]
    by_cases h : i = n
    · subst h
      cases hp : p i <;> simp
    · have h1 : (if p n then 1 <<< n else 0).testBit i = false := by
        cases p n
        · simp
        · simp only [if_true, Nat.one_shiftLeft]
          rw [Nat.testBit_two_pow]
          simp
          omega
      rw [h1, Bool.or_false]
      have h2 : decide (i < n + 1) = decide (i < n) := by
        apply decide_eq_decide.mpr
        omega
      rw [h2]
theorem mk_lt (p : Nat → Bool) (n : Nat) : mk p n < 2 ^ n := by
  apply Nat.lt_pow_two_of_testBit
  intro i hi
  rw [mk_bit]
  simp
  omega
theorem mk_congr {p q : Nat → Bool} : ∀ {n : Nat}, (∀ i, i < n → p i = q i) → mk p n = mk q n
  | 0, _ => rfl
  | n + 1, h => by
    show mk p n ||| _ = mk q n ||| _
    rw [mk_congr (fun i hi => h i (by omega)), h n (by omega)]
theorem two8 {n : Nat} (h : n ≤ 8) : 2 ^ n ≤ 256 := Nat.pow_le_pow_right (by decide) h
theorem mk_256 (p : Nat → Bool) {n : Nat} (h : n ≤ 8) : mk p n < 256 := Nat.lt_of_lt_of_le (mk_lt p n) (two8 h)
def clB (s : Nat → Nat) (r : Nat) : Bool := decide (vv s r 6 = 2) || (decide (vv s r 6 = 0) && (decide (vv s r 3 = 1) && decide (vv s r 5 = 0)))
def onS (s : Nat → Nat) : Nat := s 0 ||| (mk (clB s) (s 1)) <<< 8
def brB (s : Nat → Nat) (r on b : Nat) : Bool := decide (vv s r (13 + 2 * b) &&& on = vv s r (13 + 2 * b)) && decide (vv s r (13 + 2 * b + 1) &&& on = 0)
def cdB (s : Nat → Nat) (r on : Nat) : Nat → Bool
  | 0 => false
  | b + 1 => cdB s r on b || brB s r on b
def cnd (s : Nat → Nat) (r on : Nat) : Bool := cdB s r on (vv s r 12)
def lkT (is : Nat) (t : Nat → Nat) (r : Nat) : Nat → Nat :=
  upN (upN (upN t (ix r 4) is) (ix r 8) (if vv t r 3 ≠ is then 2 - is else if vv t r 8 = 1 + is then 0 else vv t r 8)) (ix r 9) (if vv t r 3 ≠ is then t 2 + vv t r (if is = 1 then 0 else 1) else vv t r 9)
def lk (on : Nat) (t : Nat → Nat) : Nat → Nat × (Nat → Nat)
  | 0 => (0, t)
  | r + 1 => if (cnd (lk on t r).2 r on).toNat = vv (lk on t r).2 r 4 then lk on t r else ((lk on t r).1 + 1, lkT (cnd (lk on t r).2 r on).toNat (lk on t r).2 r)
def lks (s : Nat → Nat) : Nat × (Nat → Nat) := lk (onS s) s (s 1)
def tmO (s : Nat → Nat) (e : Nat) : Nat := if e % 4 = 2 then vv s (e / 4) 11 else vv s (e / 4) 9
def wtB (s : Nat → Nat) (e : Nat) : Bool := if e % 4 = 2 then decide (vv s (e / 4) 10 = 1) else decide (e % 4 < 2) && decide (vv s (e / 4) 8 = e % 4 + 1)
def ahB (s : Nat → Nat) (a b : Nat) (rev : Bool) : Bool := if tmO s a = tmO s b then (if a / 4 = b / 4 then decide (a < b) else if rev then decide (b < a) else decide (a < b)) else decide (tmO s a < tmO s b)
def ahO (s : Nat → Nat) (e : Nat) (rev : Bool) : Option Nat → Bool
  | none => true
  | some q => ahB s e q rev
def nxt (s : Nat → Nat) (rev : Bool) : Nat → Option Nat
  | 0 => none
  | e + 1 => if wtB s e && ahO s e rev (nxt s rev e) then some e else nxt s rev e
def nx (s : Nat → Nat) (rev : Bool) : Option Nat := nxt s rev (4 * s 1)
def nI9 : Option Nat → Int32
  | none => -9
  | some e => nI e
def hp1 (s : Nat → Nat) (e : Nat) : Nat → Nat :=
  if e % 4 = 2 then upN (upN (upN s 2 (tmO s e)) (ix (e / 4) 10) 0) (ix (e / 4) 5) 0
  else if vv s (e / 4) 7 = 0 then
    (if 0 < vv s (e / 4) 2 then upN (upN (upN (upN (upN (upN s 2 (tmO s e)) (ix (e / 4) 8) 0) (ix (e / 4) 3) (1 - e % 4)) (ix (e / 4) 5) 1) (ix (e / 4) 10) 1) (ix (e / 4) 11) (tmO s e + vv s (e / 4) 2)
    else upN (upN (upN s 2 (tmO s e)) (ix (e / 4) 8) 0) (ix (e / 4) 3) (1 - e % 4))
  else upN (upN s 2 (tmO s e)) (ix (e / 4) 8) 0
def hap (s : Nat → Nat) (e : Nat) : Nat → Nat := (lks (hp1 s e)).2
def stl (s : Nat → Nat) (rev : Bool) : Nat → Nat × (Nat → Nat)
  | 0 => (0, s)
  | m + 1 => match nx s rev with
    | none => (0, s)
    | some e => ((stl (hap s e) rev m).1 + 1, (stl (hap s e) rev m).2)
def stB (s : Nat → Nat) (x : Nat) (r : Nat) : Bool := decide (vv s r x ≠ 0)
def ndE (s : Nat → Nat) (rev : Bool) (m : Nat) : Nat := mk (stB (stl s rev m).2 3) ((stl s rev m).2 1) + (if nx (stl s rev m).2 rev = none then 256 else 0)
/-- how large the numbers may be, with the time at most B -/
def bdF (B : Nat) (x : Nat) : Nat := if x < 2 then 20 else if x = 2 then 5 else if x = 9 ∨ x = 11 then B + 20 else if x = 6 ∨ x = 8 then 2 else if x < 12 then 1 else if x = 12 then 6 else 65535
def Wt (s : Nat → Nat) (B : Nat) : Prop := s 0 < 256 ∧ s 1 ≤ 8 ∧ s 2 ≤ B ∧ ∀ r, r < s 1 → ∀ x, x < 25 → vv s r x ≤ bdF B x
theorem Wt.up {s : Nat → Nat} {B r x y : Nat} (h : Wt s B) (hx : x < 25) (hy : y ≤ bdF B x) : Wt (upN s (ix r x) y) B := by
  obtain ⟨h0, h1, h2, h3⟩ := h
  refine ⟨by rw [hd_up _ _ _ _ (by decide)]; exact h0, by rw [hd_up _ _ _ _ (by decide)]; exact h1, by rw [hd_up _ _ _ _ (by decide)]; exact h2, fun r' hr' x' hx' => ?_⟩
  rw [hd_up _ _ _ _ (by decide)] at hr'
  rw [vv_up _ _ _ _ _ _ hx hx']
  by_cases e : r' = r ∧ x' = x
  · rw [if_pos e, e.2]
    exact hy
  · rw [if_neg e]
    exact h3 r' hr' x' hx'
theorem bdF_mono {B C : Nat} (h : B ≤ C) (x : Nat) : bdF B x ≤ bdF C x := by
  unfold bdF
  repeat' split
  all_goals omega
theorem Wt.mono {s : Nat → Nat} {B C : Nat} (h : Wt s B) (hBC : B ≤ C) : Wt s C := ⟨h.1, h.2.1, Nat.le_trans h.2.2.1 hBC, fun r hr x hx => Nat.le_trans (h.2.2.2 r hr x hx) (bdF_mono hBC x)⟩
theorem Wt.time {s : Nat → Nat} {B t : Nat} (h : Wt s B) (ht : t ≤ B) : Wt (upN s 2 t) B := by
  refine ⟨by rw [upN_ne _ _ _ (by decide)]; exact h.1, by rw [upN_ne _ _ _ (by decide)]; exact h.2.1, by rw [upN_self]; exact ht, fun r hr x hx => ?_⟩
  rw [upN_ne _ _ _ (by decide)] at hr
  rw [vv_hd _ _ _ _ _ (by decide)]
  exact h.2.2.2 r hr x hx
theorem Wt.b {s : Nat → Nat} {B r x : Nat} (h : Wt s B) (hr : r < s 1) (hx : x < 25) : vv s r x ≤ B + 65555 := by
  refine Nat.le_trans (h.2.2.2 r hr x hx) ?_
  unfold bdF
  repeat' split
  all_goals omega
theorem on_lt {s : Nat → Nat} {B : Nat} (h : Wt s B) : onS s < 65536 := by
  unfold onS
  apply Nat.or_lt_two_pow (n := 16)
  · exact Nat.lt_of_lt_of_le h.1 (by decide)
  · rw [Nat.shiftLeft_eq]
    have := mk_256 (clB s) h.2.1
    omega
theorem lkT_hd (is : Nat) (t : Nat → Nat) (r : Nat) {j : Nat} (hj : j < 3) : lkT is t r j = t j := by
  unfold lkT
  rw [hd_up _ _ _ _ hj, hd_up _ _ _ _ hj, hd_up _ _ _ _ hj]
theorem lkT_oth (is : Nat) (t : Nat → Nat) (r : Nat) {r' x : Nat} (hx : x < 25) (h : r' ≠ r ∨ (x ≠ 4 ∧ x ≠ 8 ∧ x ≠ 9)) : vv (lkT is t r) r' x = vv t r' x := by
  unfold lkT
  rw [vv_oth _ _ _ _ _ _ (by decide) hx (by omega), vv_oth _ _ _ _ _ _ (by decide) hx (by omega), vv_oth _ _ _ _ _ _ (by decide) hx (by omega)]
theorem lk_hd (on : Nat) (t : Nat → Nat) {j : Nat} (hj : j < 3) : ∀ m, (lk on t m).2 j = t j
  | 0 => rfl
  | m + 1 => by
    unfold lk
    split
    · exact lk_hd on t hj m
    · show lkT _ _ _ j = _
      rw [lkT_hd _ _ _ hj]
      exact lk_hd on t hj m
theorem lk_ge (on : Nat) (t : Nat → Nat) {r x : Nat} (hx : x < 25) : ∀ m, m ≤ r → vv (lk on t m).2 r x = vv t r x
  | 0, _ => rfl
  | m + 1, h => by
    unfold lk
    split
    · exact lk_ge on t hx m (by omega)
    · show vv (lkT _ _ _) r x = _
      rw [lkT_oth _ _ _ hx (Or.inl (by omega))]
      exact lk_ge on t hx m (by omega)
theorem lk_oth (on : Nat) (t : Nat → Nat) {r x : Nat} (hx : x < 25) (h : x ≠ 4 ∧ x ≠ 8 ∧ x ≠ 9) : ∀ m, vv (lk on t m).2 r x = vv t r x
  | 0 => rfl
  | m + 1 => by
    unfold lk
    split
    · exact lk_oth on t hx h m
    · show vv (lkT _ _ _) r x = _
      rw [lkT_oth _ _ _ hx (Or.inr h)]
      exact lk_oth on t hx h m
theorem cdB_congr {s t : Nat → Nat} {r on : Nat} : ∀ m, m ≤ 6 → (∀ x, 13 ≤ x → x < 25 → vv s r x = vv t r x) → cdB s r on m = cdB t r on m
  | 0, _, _ => rfl
  | m + 1, hm, h => by
    show (cdB s r on m || brB s r on m) = (cdB t r on m || brB t r on m)
    rw [cdB_congr m (by omega) h]
    unfold brB
    rw [h (13 + 2 * m) (by omega) (by omega), h (13 + 2 * m + 1) (by omega) (by omega)]
theorem cnd_congr {s t : Nat → Nat} {r on : Nat} (h6 : vv s r 12 ≤ 6) (h : ∀ x, 12 ≤ x → x < 25 → vv s r x = vv t r x) : cnd s r on = cnd t r on := by
  unfold cnd
  rw [← h 12 (by decide) (by decide)]
  exact cdB_congr _ h6 (fun x h1 h2 => h x (by omega) h2)
theorem Bool.toNat_le1 (p : Bool) : p.toNat ≤ 1 := by cases p <;> decide
theorem Wt.lkT {t : Nat → Nat} {B r is : Nat} (h : Wt t B) (his : is ≤ 1) (hr : r < t 1) : Wt (lkT is t r) B := by
  have hb := h.2.2.2 r hr
  unfold Jvm.Pilot.@@N@@.lkT
  refine Wt.up (Wt.up (Wt.up h (by decide) (by simpa [bdF] using his)) (by decide) ?_) (by decide) ?_
  · have h8 := hb 8 (by decide)
    simp only [bdF] at h8 ⊢
    repeat' split
    all_goals (first | omega | simp_all)
  · have h9 := hb 9 (by decide)
    have h0 := hb 0 (by decide)
    have h1 := hb 1 (by decide)
    have h2 := h.2.2.1
    simp [bdF] at h9 h0 h1 ⊢
    repeat' split
    all_goals omega
theorem Wt.lk {s : Nat → Nat} {B : Nat} (on : Nat) (h : Wt s B) : ∀ m, m ≤ s 1 → Wt (lk on s m).2 B
  | 0, _ => h
  | m + 1, hm => by
    have ih := Wt.lk on h m (by omega)
    unfold Jvm.Pilot.@@N@@.lk
    split
    · exact ih
    · exact Wt.lkT ih (Bool.toNat_le1 _) (by rw [lk_hd _ _ (by decide)]; omega)
theorem Wt.lks {s : Nat → Nat} {B : Nat} (h : Wt s B) : Wt (lks s).2 B := Wt.lk _ h _ (Nat.le_refl _)
theorem Wt.tm {s : Nat → Nat} {B e : Nat} (h : Wt s B) (he : e < 4 * s 1) : tmO s e ≤ B + 20 := by
  have hb := h.2.2.2 (e / 4) (by omega)
  unfold tmO
  split
  · have := hb 11 (by decide); simpa [bdF] using this
  · have := hb 9 (by decide); simpa [bdF] using this
theorem Wt.hp1 {s : Nat → Nat} {B e : Nat} (h : Wt s B) (he : e < 4 * s 1) : Wt (hp1 s e) (B + 20) := by
  have hb := (h.mono (Nat.le_add_right B 20)).2.2.2 (e / 4) (by omega)
  have ht := Wt.tm h he
  have h0 : Wt (upN s 2 (tmO s e)) (B + 20) := (h.mono (Nat.le_add_right B 20)).time ht
  have h2 : vv s (e / 4) 2 ≤ 5 := by have := hb 2 (by decide); simpa [bdF] using this
  unfold Jvm.Pilot.@@N@@.hp1
  split
  · exact (h0.up (by decide) (by simp [bdF])).up (by decide) (by simp [bdF])
  · split
    · split
      · refine ((((h0.up (by decide) (by simp [bdF])).up (by decide) ?_).up (by decide) (by simp [bdF])).up (by decide) (by simp [bdF])).up (by decide) ?_
        · simp [bdF]
        · simp [bdF]; omega
      · refine (h0.up (by decide) (by simp [bdF])).up (by decide) ?_
        simp [bdF]
    · exact h0.up (by decide) (by simp [bdF])
theorem Wt.hap {s : Nat → Nat} {B e : Nat} (h : Wt s B) (he : e < 4 * s 1) : Wt (hap s e) (B + 20) := Wt.lks (Wt.hp1 h he)
theorem nxt_lt {s : Nat → Nat} {rev : Bool} : ∀ {m e : Nat}, nxt s rev m = some e → e < m
  | 0, e, h => by cases h
  | m + 1, e, h => by
    unfold nxt at h
    split at h
    · cases h; omega
    · have := nxt_lt h; omega
theorem nx_lt {s : Nat → Nat} {rev : Bool} {e : Nat} (h : nx s rev = some e) : e < 4 * s 1 := nxt_lt h
theorem nxt_wt {s : Nat → Nat} {rev : Bool} : ∀ {m e : Nat}, nxt s rev m = some e → wtB s e = true
  | 0, e, h => by cases h
  | m + 1, e, h => by
    unfold nxt at h
    split at h
    · rename_i q
      cases h
      exact (Bool.and_eq_true_iff.mp q).1
    · exact nxt_wt h
theorem Wt.stl {rev : Bool} : ∀ {m : Nat} {s : Nat → Nat} {B : Nat}, Wt s B → Wt (stl s rev m).2 (B + 20 * m)
  | 0, s, B, h => h
  | m + 1, s, B, h => by
    unfold Jvm.Pilot.@@N@@.stl
    split
    · exact h.mono (by omega)
    · rename_i e he
      have h1 := Wt.stl (rev := rev) (m := m) (Wt.hap h (nx_lt he))
      have e2 : B + 20 + 20 * m = B + 20 * (m + 1) := by omega
      rw [e2] at h1
      exact h1
end
section
/-! The model: sets, circuits, coils -/
/-- row 0 is s, the number of changes any, the rest as it was -/
def Mup (M : Bk) (s : Nat → Nat) (M' : Bk) : Prop := M' 0 = s ∧ (∀ a, 1 ≤ a → a ≤ 4 → M' a = M a) ∧ M' 5 0 = M 5 0 ∧ M' 5 1 = M 5 1 ∧ M' 5 3 = M 5 3
theorem Mup.rf (M : Bk) : Mup M (M 0) M := ⟨rfl, fun _ _ _ => rfl, rfl, rfl, rfl⟩
theorem Mup.tr {M M1 M2 : Bk} {s t : Nat → Nat} (h : Mup M s M1) (g : Mup M1 t M2) : Mup M t M2 := ⟨g.1, fun a h1 h2 => (g.2.1 a h1 h2).trans (h.2.1 a h1 h2), g.2.2.1.trans h.2.2.1, g.2.2.2.1.trans h.2.2.2.1, g.2.2.2.2.trans h.2.2.2.2⟩
theorem Mup.chg {M M1 : Bk} {s : Nat → Nat} (h : Mup M s M1) (y : Nat) : Mup M s (bset M1 5 2 y) := by
  refine ⟨by rw [bset_ne _ _ _ (by decide)]; exact h.1, fun a h1 h2 => by rw [bset_ne _ _ _ (by omega)]; exact h.2.1 a h1 h2, ?_, ?_, ?_⟩
  · rw [bset_eq, upN_ne _ _ _ (by decide)]; exact h.2.2.1
  · rw [bset_eq, upN_ne _ _ _ (by decide)]; exact h.2.2.2.1
  · rw [bset_eq, upN_ne _ _ _ (by decide)]; exact h.2.2.2.2
end
section
/-! The model: settling, its ends, races, the states kept for undo -/
theorem stl_none {s : Nat → Nat} {rev : Bool} (m : Nat) (h : nx s rev = none) : stl s rev m = (0, s) := by
  cases m with
  | zero => rfl
  | succ m => unfold stl; rw [h]
theorem stl_some {s : Nat → Nat} {rev : Bool} {e : Nat} (m : Nat) (h : nx s rev = some e) : stl s rev (m + 1) = ((stl (hap s e) rev m).1 + 1, (stl (hap s e) rev m).2) := by
  rw [stl, h]
theorem nx_kind {s : Nat → Nat} {rev : Bool} {e : Nat} (h : nx s rev = some e) : e % 4 < 3 := by
  have h1 := nxt_wt h
  unfold wtB at h1
  split at h1
  · omega
  · simp at h1
    omega
end
section
/-! The model: races, exchanges, the states kept for undo -/
theorem ndE_le {s : Nat → Nat} {B : Nat} (h : Wt s B) (rev : Bool) (m : Nat) : ndE s rev m ≤ 511 := by
  unfold ndE
  have h1 := mk_256 (stB (stl s rev m).2 3) (h.stl (rev := rev) (m := m)).2.1
  split <;> omega
end
section
/-! The model: rows exchanged, states kept for undo -/
def pst (M : Bk) (i : Nat) : Nat → Nat := fun j => if j < 203 then M 1 (203 * i + j) else 0
def p5 (M : Bk) : Nat := if M 5 0 = 6 then 5 else M 5 0
/-- a state is kept -/
def Ntd (M M' : Bk) : Prop := (∀ a, a ≠ 1 → a ≠ 5 → M' a = M a) ∧ (∀ j, j ≠ 0 → M' 5 j = M 5 j) ∧ M' 5 0 = p5 M + 1 ∧ (∀ i, i < p5 M → pst M' i = pst M (if M 5 0 = 6 then i + 1 else i)) ∧ pst M' (p5 M) = M 0
end
section
/-! The model: the calls on relays and circuits -/
/-- nothing that counts has changed -/
def Sm (M M' : Bk) : Prop := M' 0 = M 0 ∧ M' 1 = M 1 ∧ M' 5 0 = M 5 0 ∧ M' 4 = M 4 ∧ M' 5 1 = M 5 1
/-- the state is kept, and s is the new one -/
def Nt (M M' : Bk) : Prop := M' 5 0 = p5 M + 1 ∧ (∀ i, i < p5 M → pst M' i = pst M (if M 5 0 = 6 then i + 1 else i)) ∧ pst M' (p5 M) = M 0
def Op (M : Bk) (s : Nat → Nat) (M' : Bk) : Prop := Nt M M' ∧ M' 0 = s ∧ M' 4 = M 4 ∧ M' 5 1 = M 5 1
theorem Sm.rf (M : Bk) : Sm M M := ⟨rfl, rfl, rfl, rfl, rfl⟩
theorem Op.of {M M1 M' : Bk} {s : Nat → Nat} (hN : Ntd M M1) (hU : Mup M1 s M') : Op M s M' := by
  obtain ⟨n1, n2, n3, n4, n5⟩ := hN
  have e : ∀ i, pst M' i = pst M1 i := fun i => by unfold pst; rw [hU.2.1 1 (by decide) (by decide)]
  exact ⟨⟨hU.2.2.1.trans n3, fun i hi => (e i).trans (n4 i hi), (e _).trans n5⟩, hU.1, (hU.2.1 4 (by decide) (by decide)).trans (n1 4 (by decide) (by decide)), hU.2.2.2.1.trans (n2 1 (by decide))⟩
theorem Mup.sm {M M' : Bk} (h : Mup M (M 0) M') : Sm M M' := ⟨h.1, h.2.1 1 (by decide) (by decide), h.2.2.1, h.2.1 4 (by decide) (by decide), h.2.2.2.1⟩
def tn (x : Int32) : Nat := x.toNatClampNeg
theorem tn_nI {a : Nat} (h : a < 2147483648) : tn (nI a) = a := nI_clamp h
theorem rng {lo hi : Nat} {x : Int32} (hh : hi < 2147483648) (h : nI lo ≤ x ∧ x ≤ nI hi) (hlo : lo < 2147483648) : ∃ a, lo ≤ a ∧ a ≤ hi ∧ x = nI a := by
  obtain ⟨h1, h2⟩ := h
  have h0 : ¬ x < 0 := by
    rw [Int32.not_lt]
    exact Int32.le_trans (nI_pos' hlo) h1
  obtain ⟨j, hj, rfl⟩ := nI_of h0
  exact ⟨j, (nI_leI hlo hj).mp h1, (nI_leI hj hh).mp h2, rfl⟩
abbrev isR (n : Nat) (v : Int32) : Prop := nI 0 ≤ v ∧ v ≤ nI n - nI 1
theorem isR_of {n : Nat} {v : Int32} (hn : n < 2147483648) (h : isR n v) : ∃ r, r < n ∧ v = nI r := by
  rcases Nat.eq_zero_or_pos n with rfl | hp
  · exfalso
    have h1 := Int32.le_trans h.1 h.2
    exact absurd h1 (by decide)
  · have h2 := h.2
    rw [nI_sub hp] at h2
    obtain ⟨a, h3, h4, h5⟩ := rng (lo := 0) (hi := n - 1) (by omega) ⟨h.1, h2⟩ (by decide)
    exact ⟨a, by omega, h5⟩
abbrev okD (u v x : Int32) : Prop := (nI 1 ≤ u ∧ u ≤ nI 20) ∧ (nI 1 ≤ v ∧ v ≤ nI 20) ∧ (nI 0 ≤ x ∧ x ≤ nI 5)

theorem testBit_lt {a i m : Nat} (h : a < 2 ^ m) (hi : m ≤ i) : a.testBit i = false := Nat.testBit_lt_two_pow (Nat.lt_of_lt_of_le h (Nat.pow_le_pow_right (by decide) hi))
def how3 (s : Nat → Nat) (r b x : Nat) : Nat := if (vv s r (13 + 2 * b)).testBit x then 1 else if (vv s r (13 + 2 * b + 1)).testBit x then 2 else 0
abbrev isS (n : Nat) (v : Int32) : Prop := nI 0 ≤ v ∧ v ≤ nI (7 + n)
end
section
/-! The model: calls that change relays and circuits -/
def clr (a x : Nat) : Nat := a &&& (65535 ^^^ (1 <<< x))
theorem clr_bit {a x i : Nat} (ha : a < 65536) : (clr a x).testBit i = (a.testBit i && decide (i ≠ x)) := by
  unfold clr
  rw [Nat.testBit_and, Nat.testBit_xor, show 65535 = 2 ^ 16 - 1 from rfl, Nat.testBit_two_pow_sub_one, Nat.one_shiftLeft, Nat.testBit_two_pow]
  by_cases h : i < 16
  · by_cases e : x = i
    · subst e; simp [h]
    · have e' : ¬ i = x := fun q => e q.symm
      simp [h, e, e']
  · have h2 : a.testBit i = false := testBit_lt (m := 16) ha (by omega)
    simp [h2]
theorem clr_lt {a x : Nat} (ha : a < 65536) : clr a x < 65536 := Nat.lt_of_le_of_lt Nat.and_le_left ha
theorem or_lt16 {a x : Nat} (ha : a < 65536) (hx : x < 16) : a ||| 1 <<< x < 65536 := by
  apply Nat.or_lt_two_pow (n := 16) ha
  rw [Nat.one_shiftLeft]
  exact Nat.pow_lt_pow_right (by decide) hx
def cnS (s : Nat → Nat) (r b x how : Nat) : Nat → Nat := upN (upN s (ix r (13 + 2 * b)) (if how = 1 then clr (vv s r (13 + 2 * b)) x ||| 1 <<< x else clr (vv s r (13 + 2 * b)) x)) (ix r (13 + 2 * b + 1)) (if how = 2 then clr (vv s r (13 + 2 * b + 1)) x ||| 1 <<< x else clr (vv s r (13 + 2 * b + 1)) x)
def opS (s : Nat → Nat) (r : Nat) : Nat → Nat := upN (upN (upN s (ix r (13 + 2 * vv s r 12)) 0) (ix r (13 + 2 * vv s r 12 + 1)) 0) (ix r 12) (vv s r 12 + 1)
theorem Wt.m16 {s : Nat → Nat} {B r x : Nat} (h : Wt s B) (hr : r < s 1) (h1 : 13 ≤ x) (hx : x < 25) : vv s r x < 65536 := by
  have h2 := h.2.2.2 r hr x hx
  unfold bdF at h2
  repeat' split at h2
  all_goals omega
theorem Wt.cnS {s : Nat → Nat} {B r b x how : Nat} (h : Wt s B) (hr : r < s 1) (hb : b < 6) (hx : x < 16) : Wt (cnS s r b x how) B := by
  have h1 := h.m16 hr (x := 13 + 2 * b) (by omega) (by omega)
  have h2 := h.m16 hr (x := 13 + 2 * b + 1) (by omega) (by omega)
  have hbd : ∀ y, 13 ≤ y → bdF B y = 65535 := fun y hy => by
    unfold bdF
    repeat' split
    all_goals omega
  unfold Jvm.Pilot.@@N@@.cnS
  refine Wt.up (Wt.up h (by omega) ?_) (by omega) ?_
  · rw [hbd _ (by omega)]
    split
    · have := or_lt16 (clr_lt (x := x) h1) hx; omega
    · have := clr_lt (x := x) h1; omega
  · rw [hbd _ (by omega)]
    split
    · have := or_lt16 (clr_lt (x := x) h2) hx; omega
    · have := clr_lt (x := x) h2; omega
theorem Wt.opS {s : Nat → Nat} {B r : Nat} (h : Wt s B) (hb : vv s r 12 < 6) : Wt (opS s r) B := by
  unfold Jvm.Pilot.@@N@@.opS
  refine Wt.up (Wt.up (Wt.up h (by omega) (Nat.zero_le _)) (by omega) (Nat.zero_le _)) (by decide) ?_
  simp [bdF]
  omega
end
section
/-! The model: what each call answers and leaves (sp..), and that it does -/
def sdS (s : Nat → Nat) (r a b c : Nat) : Nat → Nat := upN (upN (upN s (ix r 0) a) (ix r 1) b) (ix r 2) c
def zrS (s : Nat → Nat) (r m : Nat) : Nat → Nat := fun j => if 3 + 25 * r ≤ j ∧ j < 3 + 25 * r + m then 0 else s j
def addS (s : Nat → Nat) (a b c : Nat) : Nat → Nat := sdS (zrS (upN s 1 (s 1 + 1)) (s 1) 25) (s 1) a b c
def spAdd (M : Bk) (u v x : Int32) (r : Int32) (M' : Bk) : Prop := if okD u v x then (if M 0 1 = 8 then r = -3 ∧ Sm M M' else r = nI (M 0 1) ∧ Op M (addS (M 0) (tn u) (tn v) (tn x)) M') else r = -1 ∧ Sm M M'
def sameD (s : Nat → Nat) (r a b c : Nat) : Prop := vv s r 0 = a ∧ vv s r 1 = b ∧ vv s r 2 = c
def spSD (M : Bk) (rl u v x : Int32) (r : Int32) (M' : Bk) : Prop := if isR (M 0 1) rl ∧ okD u v x then ((sameD (M 0) (tn rl) (tn u) (tn v) (tn x) → r = nI 0) ∧ (¬ sameD (M 0) (tn rl) (tn u) (tn v) (tn x) → r = nI 1)) ∧ Op M (sdS (M 0) (tn rl) (tn u) (tn v) (tn x)) M' else r = -1 ∧ Sm M M'
def scS (s : Nat → Nat) (r b : Nat) : Nat → Nat := if b = vv s r 12 then opS s r else s
def spSC (M : Bk) (rl br su hw : Int32) (r : Int32) (M' : Bk) : Prop := if isR (M 0 1) rl ∧ (nI 0 ≤ br ∧ br ≤ nI (vv (M 0) (tn rl) 12)) ∧ isS (M 0 1) su ∧ (nI 0 ≤ hw ∧ hw ≤ nI 2) then (if tn br = 6 then r = -3 ∧ Sm M M' else r = nI (how3 (scS (M 0) (tn rl) (tn br)) (tn rl) (tn br) (tn su)) ∧ Op M (lks (cnS (scS (M 0) (tn rl) (tn br)) (tn rl) (tn br) (tn su) (tn hw))).2 M') else r = -1 ∧ Sm M M'
def shS (s : Nat → Nat) (r lo hi : Nat) : Nat → Nat := fun j => if 3 + 25 * r + lo ≤ j ∧ j < 3 + 25 * r + hi then s (j + 2) else s j
def rmS (s : Nat → Nat) (r b : Nat) : Nat → Nat := shS (upN s (ix r 12) (vv s r 12 - 1)) r (13 + 2 * b) (13 + 2 * (vv s r 12 - 1))
def spRB (M : Bk) (rl br : Int32) (r : Int32) (M' : Bk) : Prop := if isR (M 0 1) rl ∧ (nI 0 ≤ br ∧ br ≤ nI (vv (M 0) (tn rl) 12) - nI 1) then r = nI (vv (M 0) (tn rl) 12 - 1) ∧ Op M (lks (rmS (M 0) (tn rl) (tn br))).2 M' else r = -1 ∧ Sm M M'
def prS (s : Nat → Nat) (key : Nat) : Nat → Nat := upN s 0 (s 0 ^^^ (1 <<< key))
def spPr (M : Bk) (ky on : Int32) (r : Int32) (M' : Bk) : Prop := if (nI 0 ≤ ky ∧ ky ≤ nI 7) ∧ (nI 0 ≤ on ∧ on ≤ nI 1) then (if ((M 0 0).testBit (tn ky)).toNat = tn on then r = -2 ∧ Sm M M' else r = nI (lks (prS (M 0) (tn ky))).1 ∧ Op M (lks (prS (M 0) (tn ky))).2 M') else r = -1 ∧ Sm M M'
def spPut (x hi : Nat) (M : Bk) (rl v : Int32) (r : Int32) (M' : Bk) : Prop := if isR (M 0 1) rl ∧ (nI 0 ≤ v ∧ v ≤ nI hi) then r = nI (vv (M 0) (tn rl) x) ∧ Op M (lks (upN (M 0) (ix (tn rl) x) (tn v))).2 M' else r = -1 ∧ Sm M M'
def spStep (M : Bk) (r : Int32) (M' : Bk) : Prop := match nx (M 0) false with
  | none => r = -2 ∧ Sm M M'
  | some e => r = nI (10 * (e / 4) + e % 4) ∧ Op M (hap (M 0) e) M'
def spSettle (M : Bk) (ev : Int32) (r : Int32) (M' : Bk) : Prop := if nI 1 ≤ ev ∧ ev ≤ nI 200 then r = nI (stl (M 0) false (tn ev)).1 ∧ Op M (stl (M 0) false (tn ev)).2 M' else r = -1 ∧ Sm M M'
theorem key_lt {a k : Nat} (ha : a < 256) (hk : k < 8) : a ^^^ (1 <<< k) < 256 := by
  apply Nat.xor_lt_two_pow (n := 8) ha
  rw [Nat.one_shiftLeft]
  exact Nat.pow_lt_pow_right (by decide) hk
theorem Wt.pr {s : Nat → Nat} {B k : Nat} (h : Wt s B) (hk : k < 8) : Wt (prS s k) B := by
  unfold prS
  refine ⟨by rw [upN_self]; exact key_lt h.1 hk, by rw [upN_ne _ _ _ (by decide)]; exact h.2.1, by rw [upN_ne _ _ _ (by decide)]; exact h.2.2.1, fun r hr x hx => ?_⟩
  rw [upN_ne _ _ _ (by decide)] at hr
  rw [vv_hd _ _ _ _ _ (by decide)]
  exact h.2.2.2 r hr x hx
theorem Wt.scS {s : Nat → Nat} {B r b : Nat} (h : Wt s B) (hb : b < 6) : Wt (scS s r b) B := by
  unfold Jvm.Pilot.@@N@@.scS
  split
  · exact h.opS (by omega)
  · exact h
theorem scS_hd (s : Nat → Nat) (r b : Nat) {j : Nat} (hj : j < 3) : scS s r b j = s j := by
  unfold scS opS
  split
  · rw [hd_up _ _ _ _ hj, hd_up _ _ _ _ hj, hd_up _ _ _ _ hj]
  · rfl
theorem Wt.rmS {s : Nat → Nat} {B r b : Nat} (h : Wt s B) (hm : vv s r 12 ≤ 6) : Wt (rmS s r b) B := by
  have h0 : Wt (upN s (ix r 12) (vv s r 12 - 1)) B := h.up (by decide) (by simp [bdF]; omega)
  have e : ∀ j, j < 3 → Jvm.Pilot.@@N@@.rmS s r b j = upN s (ix r 12) (vv s r 12 - 1) j := fun j hj => by
    unfold Jvm.Pilot.@@N@@.rmS shS
    rw [if_neg (by omega)]
  obtain ⟨g0, g1, g2, g3⟩ := h0
  refine ⟨by rw [e 0 (by decide)]; exact g0, by rw [e 1 (by decide)]; exact g1, by rw [e 2 (by decide)]; exact g2, fun r' hr' x hx => ?_⟩
  rw [e 1 (by decide)] at hr'
  unfold vv Jvm.Pilot.@@N@@.rmS shS
  split
  · rename_i q
    have e : r' = r := by omega
    subst e
    have := g3 r' hr' (x + 2) (by omega)
    unfold vv at this
    rw [show 3 + 25 * r' + (x + 2) = 3 + 25 * r' + x + 2 by omega] at this
    refine Nat.le_trans this ?_
    unfold bdF
    repeat' split
    all_goals omega
  · exact g3 r' hr' x hx
end
section
/-! The model: questions -/
def cn2 (s : Nat → Nat) : Nat → Nat
  | 0 => 0
  | r + 1 => cn2 s r + ((if 0 < vv s r 8 then 1 else 0) + vv s r 10)
def cnV (M : Bk) (k : Nat) : Nat := if k = 0 then M 0 1 else if k = 1 then M 0 2 else if k = 2 then cn2 (M 0) (M 0 1) else if k = 3 then M 0 0 else if k = 4 then mk (stB (M 0) 4) (M 0 1) else if k = 5 then mk (stB (M 0) 3) (M 0 1) else if k = 6 then mk (clB (M 0)) (M 0 1) else if k = 7 then mk (stB (M 0) 5) (M 0 1) else if k = 8 then M 5 1 else M 5 0
def spCount (M : Bk) (wh : Int32) (r : Int32) (M' : Bk) : Prop := (if nI 0 ≤ wh ∧ wh ≤ nI 9 then r = nI (cnV M (tn wh)) else r = -1) ∧ Sm M M'
def itB (s : Nat → Nat) (rl : Nat) : Nat → Nat
  | 0 => 0
  | b + 1 => if 0 < how3 s rl b (8 + rl) then 1 else itB s rl b
def reV (s : Nat → Nat) (rl k : Nat) : Nat := if k = 3 then vv s rl 12 else if k = 4 then vv s rl 6 else if k = 5 then vv s rl 7 else if k = 6 then itB s rl (vv s rl 12) else if k = 7 then (cnd s rl (onS s)).toNat else vv s rl k
def spRelay (M : Bk) (rl wh : Int32) (r : Int32) (M' : Bk) : Prop := (if isR (M 0 1) rl ∧ (nI 0 ≤ wh ∧ wh ≤ nI 7) then r = nI (reV (M 0) (tn rl) (tn wh)) else r = -1) ∧ Sm M M'
def spCond (M : Bk) (rl br su : Int32) (r : Int32) (M' : Bk) : Prop := (if isR (M 0 1) rl ∧ (nI 0 ≤ br ∧ br ≤ nI (vv (M 0) (tn rl) 12) - nI 1) ∧ (nI 0 ≤ su ∧ su ≤ nI 15) then r = nI (how3 (M 0) (tn rl) (tn br) (tn su)) else r = -1) ∧ Sm M M'
theorem toInt_out {lo hi : Nat} {x : Int32} (h : ¬ (nI lo ≤ x ∧ x ≤ nI hi)) (hl : lo < 2147483648) (hh : hi < 2147483648) : x.toInt < (lo : Int) ∨ (hi : Int) < x.toInt := by
  rw [Int32.le_iff_toInt_le, Int32.le_iff_toInt_le, nI_toInt hl, nI_toInt hh] at h
  omega
theorem how3_le (s : Nat → Nat) (r b x : Nat) : how3 s r b x ≤ 2 := by
  unfold how3
  split
  · omega
  · split <;> omega
end
section
/-! The model: questions that are tried out -/
def spOut (M : Bk) (rv ev : Int32) (r : Int32) (M' : Bk) : Prop := (if (nI 0 ≤ rv ∧ rv ≤ nI 1) ∧ (nI 1 ≤ ev ∧ ev ≤ nI 200) then r = nI (ndE (M 0) (decide (tn rv = 1)) (tn ev)) else r = -1) ∧ Sm M M'
def rcV (s : Nat → Nat) : Nat := if ndE s false 200 = ndE s true 200 then 0 else 1
def spRace (M : Bk) (r : Int32) (M' : Bk) : Prop := r = nI (rcV (M 0)) ∧ Sm M M'
end
section
/-! The model: events told, hazards, stable states, explanations, time that passes -/
def ahc (s : Nat → Nat) (e : Nat) : Nat → Nat
  | 0 => 0
  | m + 1 => ahc s e m + (if wtB s m && ahB s m e false then 1 else 0)
def evS (s : Nat → Nat) (i : Nat) : Nat → Option Nat
  | 0 => none
  | m + 1 => match evS s i m with
    | some e => some e
    | none => if wtB s m && decide (ahc s m (4 * s 1) = i) then some m else none
def evP (s : Nat → Nat) (e p : Nat) : Nat := if p = 0 then tmO s e else if p = 1 then e / 4 else e % 4
def evR (s : Nat → Nat) (i p : Nat) : Int32 := match evS s i (4 * s 1) with
  | none => -9
  | some e => nI (evP s e p)
def spEvent (M : Bk) (ix pt : Int32) (r : Int32) (M' : Bk) : Prop := (if 0 ≤ ix ∧ (nI 0 ≤ pt ∧ pt ≤ nI 2) then r = evR (M 0) (tn ix) (tn pt) else r = -1) ∧ Sm M M'
end
section
/-! The model: hazards, stable states, explanations, time that passes -/
def fdS (s : Nat → Nat) : Nat := mk (stB s 4) (s 1)
def andn (a b : Nat) : Nat := a &&& (65535 ^^^ b)
theorem andn_int {a b : Nat} (ha : a < 65536) : nI a &&& (nI b ^^^ (-1)) = nI (andn a b) := by
  unfold andn
  apply Int32.toBitVec_inj.mp
  rw [Int32.toBitVec_and, Int32.toBitVec_xor, show (-1 : Int32).toBitVec = BitVec.allOnes 32 from rfl, BitVec.xor_allOnes]
  apply BitVec.eq_of_getLsbD_eq
  intro i hi
  show (BitVec.ofNat 32 a &&& ~~~ (BitVec.ofNat 32 b)).getLsbD i = (BitVec.ofNat 32 (a &&& (65535 ^^^ b))).getLsbD i
  simp only [BitVec.getLsbD_and, BitVec.getLsbD_not, BitVec.getLsbD_ofNat, hi, decide_true, Bool.true_and, Nat.testBit_and, Nat.testBit_xor]
  rw [show 65535 = 2 ^ 16 - 1 from rfl, Nat.testBit_two_pow_sub_one]
  by_cases h : i < 16
  · simp [h]
  · have h2 : a.testBit i = false := testBit_lt (m := 16) ha (by omega)
    simp [h2]
end
section
/-! The model: stable states, explanations, time that passes -/
def stI (s : Nat → Nat) (set : Nat) : Nat → Bool
  | 0 => true
  | r + 1 => stI s set r && (decide (vv s r 7 = 0) || decide (vv s r 3 = (set.testBit r).toNat))
def stO (s : Nat → Nat) (set : Nat) (r : Nat) : Bool := decide (vv s r 6 = 2) || (decide (vv s r 6 = 0) && set.testBit r)
def stC (s : Nat → Nat) (set on : Nat) : Nat → Bool
  | 0 => true
  | r + 1 => stC s set on r && (decide (vv s r 7 = 1) || (cnd s r (s 0 ||| on <<< 8) == set.testBit r))
end
section
/-! The model: explanations, time that passes -/
def psL (then_ : Nat) (s : Nat → Nat) : Nat → Nat × (Nat → Nat)
  | 0 => (0, s)
  | m + 1 => match nx s false with
    | none => (0, s)
    | some e => if tmO s e ≤ then_ then ((psL then_ (hap s e) m).1 + 1, (psL then_ (hap s e) m).2) else (0, s)
def spPass (M : Bk) (tk : Int32) (r : Int32) (M' : Bk) : Prop := if nI 1 ≤ tk ∧ tk ≤ nI 1000 then (if 100000 < M 0 2 + tn tk then r = -3 ∧ Sm M M' else if 200 < (psL (M 0 2 + tn tk) (M 0) 201).1 then r = -3 ∧ Sm M M' else r = nI (psL (M 0 2 + tn tk) (M 0) 201).1 ∧ Op M (upN (psL (M 0 2 + tn tk) (M 0) 201).2 2 (M 0 2 + tn tk)) M') else r = -1 ∧ Sm M M'
theorem psL_le (then_ : Nat) : ∀ (m : Nat) (s : Nat → Nat), (psL then_ s m).1 ≤ m
  | 0, s => Nat.le_refl _
  | m + 1, s => by
    unfold psL
    split
    · exact Nat.zero_le _
    · rename_i e _
      split
      · have := psL_le then_ m (hap s e)
        show _ + 1 ≤ _
        omega
      · exact Nat.zero_le _
theorem Wt.psL {then_ : Nat} : ∀ {m : Nat} {s : Nat → Nat} {B : Nat}, Wt s B → Wt (psL then_ s m).2 (B + 20 * m)
  | 0, s, B, h => h
  | m + 1, s, B, h => by
    unfold Jvm.Pilot.@@N@@.psL
    split
    · exact h.mono (by omega)
    · rename_i e he
      split
      · have h1 := Wt.psL (then_ := then_) (m := m) (Wt.hap h (nx_lt he))
        rw [show B + 20 + 20 * m = B + 20 * (m + 1) by omega] at h1
        exact h1
      · exact h.mono (by omega)
end
section
/-! The model: its reader of circuits, against a scanner that takes a character at a time -/
abbrev Rst := Nat × Nat × (Nat → Nat)
def cmb (a b : Nat) : Nat := a + 65536 * b
theorem cmb_lo {a b : Nat} (h : a < 65536) : cmb a b % 65536 = a := by unfold cmb; omega
theorem cmb_hi {a b : Nat} (h : a < 65536) : cmb a b / 65536 = b := by unfold cmb; omega
def wi (g x how : Nat) : Nat := cmb (if how = 1 then clr (g % 65536) x ||| 1 <<< x else clr (g % 65536) x) (if how = 2 then clr (g / 65536) x ||| 1 <<< x else clr (g / 65536) x)
def howO (g x : Nat) : Nat := if (g % 65536).testBit x then 1 else if (g / 65536).testBit x then 2 else 0
def sbj (R c : Nat) : Option Nat := if 97 ≤ c ∧ c ≤ 104 then some (c - 97) else if 65 ≤ c ∧ c < 65 + R then some (c - 65 + 8) else none
def tkL (R k : Nat) (g : Nat → Nat) (c how : Nat) : Option Rst := match sbj R c with
  | none => none
  | some x => if howO (g (k - 1)) x = 3 - how then none else some (2, k, upN g (k - 1) (wi (g (k - 1)) x how))
def tkC (R k : Nat) (g : Nat → Nat) (c : Nat) : Option Rst := if c = 47 then some (3, k, g) else tkL R k g c 1
def tkB (R k : Nat) (g : Nat → Nat) (c : Nat) : Option Rst := if 6 ≤ k then none else if c = 49 then some (4, k + 1, upN g k 0) else tkC R (k + 1) (upN g k 0) c
def tk (R : Nat) (st : Rst) (c : Nat) : Option Rst :=
  if st.1 = 0 then (if c = 48 then some (5, st.2) else tkB R st.2.1 st.2.2 c)
  else if st.1 = 1 then tkB R st.2.1 st.2.2 c
  else if st.1 = 2 then (if c = 43 then some (1, st.2) else tkC R st.2.1 st.2.2 c)
  else if st.1 = 3 then tkL R st.2.1 st.2.2 c 2
  else if st.1 = 4 then (if c = 43 then some (1, st.2) else none)
  else none
/-- the row while relay r is read: k branches stand, and g tells them -/
def PRs (s0 : Nat → Nat) (r : Nat) (s : Nat → Nat) (k : Nat) (g : Nat → Nat) (B : Nat) : Prop := Wt s B ∧ (∀ j, j < 3 → s j = s0 j) ∧ (∀ r' x, x < 25 → (r' ≠ r ∨ x < 12) → vv s r' x = vv s0 r' x) ∧ vv s r 12 = k ∧ ∀ j, j < k → g j = cmb (vv s r (13 + 2 * j)) (vv s r (13 + 2 * j + 1))
theorem PRs.r1 {s0 s g : Nat → Nat} {r k B : Nat} (h : PRs s0 r s k g B) : s 1 = s0 1 := h.2.1 1 (by decide)
theorem PRs.k6 {s0 s g : Nat → Nat} {r k B : Nat} (h : PRs s0 r s k g B) (hr : r < s0 1) : k ≤ 6 := by
  have := h.1.2.2.2 r (by rw [h.r1]; exact hr) 12 (by decide)
  rw [h.2.2.2.1] at this
  simpa [bdF] using this
theorem PRs.zero {s0 : Nat → Nat} {r B : Nat} (g : Nat → Nat) (h : Wt s0 B) : PRs s0 r (upN s0 (ix r 12) 0) 0 g B := by
  refine ⟨h.up (by decide) (Nat.zero_le _), fun j hj => hd_up _ _ _ _ hj, fun r' x hx h2 => vv_oth _ _ _ _ _ _ (by decide) hx (by omega), vv_same _ _ _ _, fun j hj => absurd hj (Nat.not_lt_zero _)⟩
theorem PRs.opS {s0 s g : Nat → Nat} {r k B : Nat} (h : PRs s0 r s k g B) (hk : k < 6) : PRs s0 r (opS s r) (k + 1) (upN g k 0) B := by
  obtain ⟨h1, h2, h3, h4, h5⟩ := h
  refine ⟨h1.opS (by omega), fun j hj => ?_, fun r' x hx hc => ?_, ?_, fun j hj => ?_⟩
  · unfold Jvm.Pilot.@@N@@.opS
    rw [hd_up _ _ _ _ hj, hd_up _ _ _ _ hj, hd_up _ _ _ _ hj]
    exact h2 j hj
  · unfold Jvm.Pilot.@@N@@.opS
    rw [vv_oth _ _ _ _ _ _ (by decide) hx (by omega), vv_oth _ _ _ _ _ _ (by omega) hx (by omega), vv_oth _ _ _ _ _ _ (by omega) hx (by omega)]
    exact h3 r' x hx hc
  · unfold Jvm.Pilot.@@N@@.opS
    rw [vv_same, h4]
  · unfold Jvm.Pilot.@@N@@.opS
    rw [vv_oth _ _ _ _ _ (13 + 2 * j) (by decide) (by omega) (by omega), vv_oth _ _ _ _ _ (13 + 2 * j + 1) (by decide) (by omega) (by omega), h4]
    by_cases e : j = k
    · subst e
      rw [upN_self, vv_oth _ _ _ _ _ (13 + 2 * j) (by omega) (by omega) (by omega), vv_same, vv_same]
      rfl
    · rw [upN_ne _ _ _ e, vv_oth _ _ _ _ _ (13 + 2 * j) (by omega) (by omega) (by omega), vv_oth _ _ _ _ _ (13 + 2 * j) (by omega) (by omega) (by omega), vv_oth _ _ _ _ _ (13 + 2 * j + 1) (by omega) (by omega) (by omega), vv_oth _ _ _ _ _ (13 + 2 * j + 1) (by omega) (by omega) (by omega)]
      exact h5 j (by omega)
theorem PRs.cnS {s0 s g : Nat → Nat} {r k B x how : Nat} (h : PRs s0 r s k g B) (hr : r < s0 1) (hk : 1 ≤ k) (hx : x < 16) : PRs s0 r (cnS s r (k - 1) x how) k (upN g (k - 1) (wi (g (k - 1)) x how)) B := by
  have hk6 := h.k6 hr
  obtain ⟨h1, h2, h3, h4, h5⟩ := h
  have hr' : r < s 1 := by rw [h2 1 (by decide)]; exact hr
  have hp := h1.m16 hr' (x := 13 + 2 * (k - 1)) (by omega) (by omega)
  refine ⟨h1.cnS hr' (by omega) hx, fun j hj => ?_, fun r' y hy hc => ?_, ?_, fun j hj => ?_⟩
  · unfold Jvm.Pilot.@@N@@.cnS
    rw [hd_up _ _ _ _ hj, hd_up _ _ _ _ hj]
    exact h2 j hj
  · unfold Jvm.Pilot.@@N@@.cnS
    rw [vv_oth _ _ _ _ _ _ (by omega) hy (by omega), vv_oth _ _ _ _ _ _ (by omega) hy (by omega)]
    exact h3 r' y hy hc
  · unfold Jvm.Pilot.@@N@@.cnS
    rw [vv_oth _ _ _ _ _ _ (by omega) (by decide) (by omega), vv_oth _ _ _ _ _ _ (by omega) (by decide) (by omega), h4]
  · unfold Jvm.Pilot.@@N@@.cnS
    by_cases e : j = k - 1
    · subst e
      rw [upN_self, vv_oth _ _ _ _ _ (13 + 2 * (k - 1)) (by omega) (by omega) (by omega), vv_same, vv_same]
      unfold wi
      rw [h5 (k - 1) (by omega), cmb_lo hp, cmb_hi hp]
    · rw [upN_ne _ _ _ e, vv_oth _ _ _ _ _ (13 + 2 * j) (by omega) (by omega) (by omega), vv_oth _ _ _ _ _ (13 + 2 * j) (by omega) (by omega) (by omega), vv_oth _ _ _ _ _ (13 + 2 * j + 1) (by omega) (by omega) (by omega), vv_oth _ _ _ _ _ (13 + 2 * j + 1) (by omega) (by omega) (by omega)]
      exact h5 j hj
def Pup (M : Bk) (s : Nat → Nat) (a : Nat) (M' : Bk) : Prop := M' 0 = s ∧ (∀ i, 1 ≤ i → i ≤ 4 → M' i = M i) ∧ M' 5 0 = M 5 0 ∧ M' 5 1 = M 5 1 ∧ M' 5 3 = a
def Qb (P : Bool → (Nat → AC) → Prop) : Option AV → (Nat → AC) → Prop := fun r w' => ∃ b : Bool, r = some (aZ b.toNat) ∧ P b w'
section
variable {Γ : Gm} {l : Launch} {y : MethodName} {cc : ByteArray} {mL d : Nat} {pc n : Nat} {L st : List AV} {w : Nat → AC}
variable {idx mz np d' k0 : Nat} {z : MethodName} {cz : ByteArray} {rz : Option FieldType} {as st0 : List AV} {Pw : Bool → (Nat → AC) → Prop}
end
end
section
/-! The model: load -/
theorem Pup.rf (M : Bk) : Pup M (M 0) (M 5 3) M := ⟨rfl, fun _ _ _ => rfl, rfl, rfl, rfl⟩
end
section
/-! The class: sets as numbers, a bank against the model's row -/
theorem cmb_or {a b : Nat} (ha : a < 65536) : cmb a b = b <<< 16 ||| a := by
  rw [← Nat.shiftLeft_add_eq_or_of_lt (i := 16) ha, Nat.shiftLeft_eq]
  unfold cmb
  omega
theorem cmb_bit {a b : Nat} (ha : a < 65536) (i : Nat) : (cmb a b).testBit i = if i < 16 then a.testBit i else b.testBit (i - 16) := by
  rw [cmb_or ha, Nat.testBit_or, Nat.testBit_shiftLeft]
  by_cases h : i < 16
  · rw [if_pos h]
    simp
    intro q
    omega
  · rw [if_neg h, testBit_lt (m := 16) ha (by omega)]
    simp
    omega
theorem cmb_and {a b c e : Nat} (ha : a < 65536) (hc : c < 65536) : cmb a b &&& cmb c e = cmb (a &&& c) (b &&& e) := by
  apply Nat.eq_of_testBit_eq
  intro i
  rw [Nat.testBit_and, cmb_bit ha, cmb_bit hc, cmb_bit (Nat.lt_of_le_of_lt Nat.and_le_left ha)]
  split <;> rw [Nat.testBit_and]
theorem cmb_zero {a b : Nat} : cmb a b = 0 ↔ a = 0 ∧ b = 0 := by unfold cmb; omega
theorem cmb_lt {a b : Nat} (ha : a < 65536) (hb : b < 65536) : cmb a b < 4294967296 := by unfold cmb; omega
theorem nt_bit (b i : Nat) : (65535 ^^^ b).testBit i = if i < 16 then !b.testBit i else b.testBit i := by
  rw [Nat.testBit_xor, show 65535 = 2 ^ 16 - 1 from rfl, Nat.testBit_two_pow_sub_one]
  by_cases h : i < 16 <;> simp [h]
theorem andn_bit {a b : Nat} (ha : a < 65536) (i : Nat) : (andn a b).testBit i = (a.testBit i && !b.testBit i) := by
  unfold andn
  rw [Nat.testBit_and, nt_bit]
  split
  · rfl
  · rw [testBit_lt (m := 16) ha (by omega)]; rfl
theorem andn_lt {a b : Nat} (ha : a < 65536) : andn a b < 65536 := Nat.lt_of_le_of_lt Nat.and_le_left ha
theorem not_int {a : Nat} (ha : a < 65536) : (nI a ^^^ (-1)) &&& nI 65535 = nI (65535 ^^^ a) := by
  apply Int32.toBitVec_inj.mp
  rw [Int32.toBitVec_and, Int32.toBitVec_xor, show (-1 : Int32).toBitVec = BitVec.allOnes 32 from rfl, BitVec.xor_allOnes]
  apply BitVec.eq_of_getLsbD_eq
  intro i hi
  show (~~~ (BitVec.ofNat 32 a) &&& BitVec.ofNat 32 65535).getLsbD i = (BitVec.ofNat 32 (65535 ^^^ a)).getLsbD i
  simp only [BitVec.getLsbD_and, BitVec.getLsbD_not, BitVec.getLsbD_ofNat, hi, decide_true, Bool.true_and, nt_bit]
  rw [show 65535 = 2 ^ 16 - 1 from rfl, Nat.testBit_two_pow_sub_one]
  by_cases h : i < 16
  · simp [h]
  · simp [h, testBit_lt (m := 16) ha (show 16 ≤ i by omega)]
theorem sh1_bit (r i : Nat) : (1 <<< r).testBit i = decide (i = r) := by
  rw [Nat.one_shiftLeft, Nat.testBit_two_pow]
  exact decide_eq_decide.mpr eq_comm
theorem mk_xor {p q : Nat → Bool} {n r : Nat} (hr : r < n) (h : ∀ i, i < n → q i = if i = r then !p i else p i) : mk p n ^^^ 1 <<< r = mk q n := by
  apply Nat.eq_of_testBit_eq
  intro i
  rw [Nat.testBit_xor, mk_bit, mk_bit, sh1_bit]
  by_cases hi : i < n
  · rw [h i hi]
    by_cases e : i = r <;> simp [hi, e, hr]
  · have : i ≠ r := by omega
    simp [hi, this]
theorem mk_or {p q : Nat → Bool} {n r : Nat} (hr : r < n) (h : ∀ i, i < n → q i = if i = r then true else p i) : mk p n ||| 1 <<< r = mk q n := by
  apply Nat.eq_of_testBit_eq
  intro i
  rw [Nat.testBit_or, mk_bit, mk_bit, sh1_bit]
  by_cases hi : i < n
  · rw [h i hi]
    by_cases e : i = r <;> simp [hi, e, hr]
  · have : i ≠ r := by omega
    simp [hi, this]
theorem mk_16' (p : Nat → Bool) {n : Nat} (h : n ≤ 8) : mk p n < 65536 := Nat.lt_trans (mk_256 p h) (by decide)
theorem mk_clr {p q : Nat → Bool} {n r : Nat} (h8 : n ≤ 8) (h : ∀ i, i < n → q i = if i = r then false else p i) : andn (mk p n) (1 <<< r) = mk q n := by
  apply Nat.eq_of_testBit_eq
  intro i
  rw [andn_bit (mk_16' p h8), mk_bit, mk_bit, sh1_bit]
  by_cases hi : i < n
  · rw [h i hi]
    by_cases e : i = r <;> simp [hi, e]
  · simp [hi]
abbrev NV : Nat := 2147483647
def pM (s : Nat → Nat) (x v : Nat) (r : Nat) : Bool := decide (vv s r x = v)
def duA (s : Nat → Nat) (r : Nat) : Nat := if vv s r 8 = 0 then NV else vv s r 9
def duE (s : Nat → Nat) (r : Nat) : Nat := if vv s r 10 = 0 then NV else vv s r 11
/-- a bank of the class that stands for a row of the model -/
def RepC (s : Nat → Nat) (b : Bk) : Prop := (b 6 0 = s 1 ∧ b 6 1 = s 2 ∧ b 6 2 = s 0) ∧ (∀ r, r < s 1 → b 0 r = vv s r 0 ∧ b 1 r = vv s r 1 ∧ b 2 r = vv s r 2 ∧ b 3 r = vv s r 12 ∧ ∀ j, j < vv s r 12 → b 4 (r * 6 + j) = cmb (vv s r (13 + 2 * j)) (vv s r (13 + 2 * j + 1))) ∧ (b 6 3 = mk (pM s 4 1) (s 1) ∧ b 6 4 = mk (pM s 3 1) (s 1) ∧ b 6 5 = mk (pM s 5 1) (s 1) ∧ b 6 6 = mk (pM s 7 1) (s 1) ∧ b 6 7 = mk (pM s 6 1) (s 1) ∧ b 6 8 = mk (pM s 6 2) (s 1)) ∧ (∀ r, r < s 1 → b 5 (2 * r) = duA s r ∧ b 5 (2 * r + 1) = duE s r) ∧ (∀ r, s 1 ≤ r → r < 8 → b 3 r = 0 ∧ b 5 (2 * r) = NV ∧ b 5 (2 * r + 1) = NV)
/-- what holds of each row that is reached -/
def SeC (s : Nat → Nat) : Prop := ∀ r, r < s 1 → (vv s r 8 ≠ 0 → vv s r 8 = 2 - vv s r 4 ∧ vv s r 3 ≠ vv s r 4) ∧ vv s r 5 = vv s r 10
def CC (s : Nat → Nat) : Prop := ∀ r, r < s 1 → vv s r 4 = (cnd s r (onS s)).toNat
theorem Wt.c1 {s : Nat → Nat} {B r x : Nat} (h : Wt s B) (hr : r < s 1) (hx : x = 3 ∨ x = 4 ∨ x = 5 ∨ x = 7 ∨ x = 10) : vv s r x ≤ 1 := by
  have := h.2.2.2 r hr x (by omega)
  unfold bdF at this
  repeat' split at this
  all_goals omega
theorem Wt.c2 {s : Nat → Nat} {B r x : Nat} (h : Wt s B) (hr : r < s 1) (hx : x = 6 ∨ x = 8) : vv s r x ≤ 2 := by
  have := h.2.2.2 r hr x (by omega)
  unfold bdF at this
  repeat' split at this
  all_goals omega
theorem Wt.m6 {s : Nat → Nat} {B r : Nat} (h : Wt s B) (hr : r < s 1) : vv s r 12 ≤ 6 := by
  have := h.2.2.2 r hr 12 (by decide)
  simpa [bdF] using this
theorem closed_mk {s : Nat → Nat} {B : Nat} (h : Wt s B) : andn (andn (mk (pM s 3 1) (s 1)) (mk (pM s 5 1) (s 1))) (mk (pM s 6 1) (s 1)) ||| mk (pM s 6 2) (s 1) = mk (clB s) (s 1) := by
  apply Nat.eq_of_testBit_eq
  intro i
  have h8 := h.2.1
  rw [Nat.testBit_or, andn_bit (andn_lt (mk_16' _ h8)), andn_bit (mk_16' _ h8), mk_bit, mk_bit, mk_bit, mk_bit, mk_bit]
  by_cases hi : i < s 1
  · have h1 := h.c1 hi (x := 5) (by omega)
    have h2 := h.c2 hi (x := 6) (by omega)
    unfold pM clB
    simp only [hi, decide_true, Bool.true_and]
    rw [Bool.eq_iff_iff]
    simp only [Bool.or_eq_true, Bool.and_eq_true, Bool.not_eq_true', decide_eq_true_eq, decide_eq_false_iff_not]
    omega
  · simp [hi]
def Fn (on : Nat) : Nat := cmb (65535 ^^^ on) on
theorem nt_lt {on : Nat} (h : on < 65536) : 65535 ^^^ on < 65536 := Nat.xor_lt_two_pow (n := 16) (by decide) h
theorem Fn_lt {on : Nat} (h : on < 65536) : Fn on < 4294967296 := cmb_lt (nt_lt h) h
theorem nt_and {a on : Nat} (ha : a < 65536) : a &&& (65535 ^^^ on) = 0 ↔ a &&& on = a := by
  constructor
  · intro h
    apply Nat.eq_of_testBit_eq
    intro i
    have h1 : (a &&& (65535 ^^^ on)).testBit i = false := by rw [h]; exact Nat.zero_testBit i
    rw [Nat.testBit_and, nt_bit] at h1
    rw [Nat.testBit_and]
    by_cases hi : i < 16
    · rw [if_pos hi] at h1
      cases q : a.testBit i <;> cases q2 : on.testBit i <;> simp [q, q2] at h1 ⊢
    · rw [testBit_lt (m := 16) ha (by omega)]
      rfl
  · intro h
    apply Nat.eq_of_testBit_eq
    intro i
    rw [Nat.testBit_and, nt_bit, Nat.zero_testBit]
    have h1 : (a &&& on).testBit i = a.testBit i := by rw [h]
    rw [Nat.testBit_and] at h1
    by_cases hi : i < 16
    · rw [if_pos hi]
      cases q : a.testBit i <;> cases q2 : on.testBit i <;> simp [q, q2] at h1 ⊢
    · rw [testBit_lt (m := 16) ha (by omega)]
      rfl
theorem br_Fn {s : Nat → Nat} {B r on j : Nat} (h : Wt s B) (hr : r < s 1) (hj : j < 6) (ho : on < 65536) : (cmb (vv s r (13 + 2 * j)) (vv s r (13 + 2 * j + 1)) &&& Fn on = 0) ↔ brB s r on j = true := by
  have h1 := h.m16 hr (x := 13 + 2 * j) (by omega) (by omega)
  unfold Fn brB
  rw [cmb_and h1 (nt_lt ho), cmb_zero, nt_and h1]
  simp
theorem cdB_mono {s : Nat → Nat} {r on i : Nat} : ∀ {m}, i ≤ m → cdB s r on i = true → cdB s r on m = true
  | 0, h, q => by
    have : i = 0 := by omega
    subst this
    exact q
  | m + 1, h, q => by
    rcases Nat.lt_or_ge m i with u | u
    · have : i = m + 1 := by omega
      subst this
      exact q
    · show (cdB s r on m || brB s r on m) = true
      rw [cdB_mono u q]
      rfl
set_option maxRecDepth 100000 in
set_option maxHeartbeats 4000000 in
theorem c_X5_putB (l : Launch) (d : Nat) {n kb : Nat} {w : Nat → AC} {b : Bk} (hB : BkAt n w kb b) (i j x : Nat) (hi : i < 6) (hj : j < bkL i) : Sq l yX5_put cX5_put 3 none d [aR (kb + 1 + i), aZ j, aZ x] n w (Qn (PB n kb (bset b i j x) w)) := by
  refine Sp.of (plainFor_of_name (by decide)) (Nat.le_of_ble_eq_true rfl) (fun Γ hΓ hR => ?_)
  show Γ 0 [aR (kb + 1 + i), aZ j, aZ x] [] (0, 0) n w
  have hN : bkL i < 2147483648 := by
    unfold bkL
    repeat' split
    all_goals decide
  have hw := hB.2.2 i hi
  have hk : kb + 1 + i < n := by have := hB.1; omega
  refine qa_iconst (v := nI 0) hΓ dX5_put_0 ic_0 ?_
  refine qa_iload_n hΓ dX5_put_1 rfl ?_
  refine qz_icmp_gt (tgt := 15) hΓ dX5_put_2 (by decide) (by decide) (by omega) (fun h_2 => absurd h_2 (by omega)) (fun h_2 => ?_)
  refine qa_iload_n hΓ dX5_put_5 rfl ?_
  refine qa_aload_n hΓ dX5_put_6 rfl ?_
  refine qa_alen hΓ dX5_put_7 hk hw (by decide) rfl ?_
  refine qz_icmp_ge (tgt := 15) hΓ dX5_put_8 (by decide) (by omega) (by omega) (fun h_8 => absurd h_8 (by omega)) (fun h_8 => ?_)
  refine qa_aload_n hΓ dX5_put_11 rfl ?_
  refine qa_iload_n hΓ dX5_put_12 rfl ?_
  refine qa_iload_n hΓ dX5_put_13 rfl ?_
  refine qz_iast hΓ dX5_put_14 hk hw hj hN ?_
  exact qr_v hR dX5_put_15 ⟨rfl, hB.setA i j x hi⟩

set_option maxRecDepth 100000 in
set_option maxHeartbeats 4000000 in
theorem c_X0_closedContacts (l : Launch) (d : Nat) {n kb : Nat} {w : Nat → AC} {b : Bk} (hB : BkAt n w kb b) {s : Nat → Nat} (hR0 : RepC s b) {B : Nat} (hW : Wt s B) (hBd : B < 900000000) : Sq l yX0_closedContacts cX0_closedContacts 1 (some .int) d [aR kb] n w (Rs (some (aZ (mk (clB s) (s 1)))) w) := by
  refine Sp.of (plainFor_of_name (by decide)) (Nat.le_of_ble_eq_true rfl) (fun Γ hΓ hR => ?_)
  show Γ 0 [aR kb] [] (0, 0) n w
  obtain ⟨e3, e4, e5, e6, e7, e8⟩ := hR0.2.2.1
  have h8 := hW.2.1
  refine qa_aload_n hΓ dX0_closedContacts_0 rfl ?_
  refine qa_get hΓ dX0_closedContacts_1 fk_X0_50 hB.lt hB.o rfl ?_
  refine qa_aload_n hΓ dX0_closedContacts_4 rfl ?_
  refine qa_get hΓ dX0_closedContacts_5 fk_X0_53 hB.lt hB.o rfl ?_
  refine qa_iconst (v := -1) hΓ dX0_closedContacts_8 ic_m1 ?_
  refine qa_ixor hΓ dX0_closedContacts_9 ?_
  refine qa_iand hΓ dX0_closedContacts_10 ?_
  rw [andn_int (by rw [e4]; exact mk_16' _ h8)]
  refine qa_aload_n hΓ dX0_closedContacts_11 rfl ?_
  refine qa_get hΓ dX0_closedContacts_12 fk_X0_59 hB.lt hB.o rfl ?_
  refine qa_iconst (v := -1) hΓ dX0_closedContacts_15 ic_m1 ?_
  refine qa_ixor hΓ dX0_closedContacts_16 ?_
  refine qa_iand hΓ dX0_closedContacts_17 ?_
  rw [andn_int (andn_lt (by rw [e4]; exact mk_16' _ h8))]
  refine qa_aload_n hΓ dX0_closedContacts_18 rfl ?_
  refine qa_get hΓ dX0_closedContacts_19 fk_X0_62 hB.lt hB.o rfl ?_
  refine qz_ior hΓ dX0_closedContacts_22 ?_
  exact qr_i hR dX0_closedContacts_23 ⟨by rw [e4, e5, e7, e8, closed_mk hW], rfl⟩

set_option maxRecDepth 100000 in
set_option maxHeartbeats 4000000 in
theorem c_X0_failing (l : Launch) (d : Nat) (hd : 1 ≤ d) {n kb : Nat} {w : Nat → AC} {b : Bk} (hB : BkAt n w kb b) {s : Nat → Nat} (hR0 : RepC s b) {B : Nat} (hW : Wt s B) (hBd : B < 900000000) : Sq l yX0_failing cX0_failing 2 (some .int) d [aR kb] n w (Rs (some (aZ (Fn (onS s)))) w) := by
  refine Sp.of (plainFor_of_name (by decide)) (Nat.le_of_ble_eq_true rfl) (fun Γ hΓ hR => ?_)
  show Γ 0 [aR kb, none] [] (0, 0) n w
  refine qa_aload_n hΓ dX0_failing_0 rfl ?_
  refine qa_get hΓ dX0_failing_1 fk_X0_44 hB.lt hB.o rfl ?_
  refine qa_aload_n hΓ dX0_failing_4 rfl ?_
  refine qc_V1 hΓ dX0_failing_5 lk_X0_110 vw_X0_closedContacts (by omega) (c_X0_closedContacts l (d - 1) hB hR0 hW hBd) rfl hB.lt hB.o rfl rfl (Nat.le_of_ble_eq_true rfl) ?_
  refine qa_bipush (v := nI 8) hΓ dX0_failing_8 bp_8 ?_
  refine qz_ishl hΓ dX0_failing_10 (by omega) ?_
  refine qz_ior hΓ dX0_failing_11 ?_
  have hon := on_lt hW
  rw [hR0.1.2.2, show s 0 ||| mk (clB s) (s 1) <<< 8 = onS s from rfl]
  refine qa_istore_n hΓ dX0_failing_12 (by decide) ?_
  refine qa_iload_n hΓ dX0_failing_13 rfl ?_
  refine qa_bipush (v := nI 16) hΓ dX0_failing_14 bp_16 ?_
  refine qz_ishl hΓ dX0_failing_16 (by omega) ?_
  refine qa_iload_n hΓ dX0_failing_17 rfl ?_
  refine qa_iconst (v := -1) hΓ dX0_failing_18 ic_m1 ?_
  refine qa_ixor hΓ dX0_failing_19 ?_
  refine qa_ldc (v := nI 65535) hΓ dX0_failing_20 ck_X0_113 ?_
  refine qa_iand hΓ dX0_failing_22 ?_
  rw [not_int hon]
  refine qz_ior hΓ dX0_failing_23 ?_
  exact qr_i hR dX0_failing_24 ⟨by unfold Fn; rw [cmb_or (nt_lt hon)], rfl⟩

set_option maxRecDepth 100000 in
set_option maxHeartbeats 4000000 in
theorem c_X0_conducts (l : Launch) (d : Nat) (hd : 1 ≤ d) {n kb : Nat} {w : Nat → AC} {b : Bk} (hB : BkAt n w kb b) {s : Nat → Nat} (hR0 : RepC s b) {B : Nat} (hW : Wt s B) (hBd : B < 900000000) (r on : Nat) (hr : r < s 1) (ho : on < 65536) : Sq l yX0_conducts cX0_conducts 6 (some .boolean) d [aR kb, aZ r, aZ (Fn on)] n w (Rs (some (aZ (cnd s r on).toNat)) w) := by
  refine Sp.of (plainFor_of_name (by decide)) (Nat.le_of_ble_eq_true rfl) (fun Γ hΓ hR => ?_)
  show Γ 0 [aR kb, aZ r, aZ (Fn on), none, none, none] [] (0, 0) n w
  have h8 := hW.2.1
  have h6 := hW.m6 hr
  have loop : ∀ (m i : Nat), i ≤ vv s r 12 → vv s r 12 < i + m → cdB s r on i = false → Γ 18 [aR kb, aZ r, aZ (Fn on), aZ (r * 6), aZ (vv s r 12), aZ i] [] (0, 0) n w := by
    intro m
    induction m with
    | zero => intro i h1 h2; exact absurd h2 (by omega)
    | succ m ih =>
      intro i hi hm hz
      refine qa_iload hΓ dX0_conducts_18 rfl ?_
      refine qa_iload hΓ dX0_conducts_20 rfl ?_
      refine qz_icmp_ge (tgt := 49) hΓ dX0_conducts_22 (by decide) (by omega) (by omega) (fun h_22 => ?_) (fun h_22 => ?_)
      · refine qa_iconst (v := nI 0) hΓ dX0_conducts_49 ic_0 ?_
        exact qr_b (p := false) hR dX0_conducts_50 ⟨by rw [show cnd s r on = false from by unfold cnd; rw [show vv s r 12 = i by omega]; exact hz], rfl⟩
      · refine qa_aload_n hΓ dX0_conducts_25 rfl ?_
        refine qa_get hΓ dX0_conducts_26 fk_X0_24 hB.lt hB.o rfl ?_
        refine qa_iload_n hΓ dX0_conducts_29 rfl ?_
        refine qa_iload hΓ dX0_conducts_30 rfl ?_
        refine qz_iadd hΓ dX0_conducts_32 ?_
        refine qc_N1 hΓ dX0_conducts_33 nk_X0_73 vw_X5_at (by omega) (c_X5_at l (d - 1) (hB.lti (i := 5) (by decide)) hB.a4 _ (by omega) (by decide)) rfl rfl (Nat.le_of_ble_eq_true rfl) ?_
        rw [show b 4 (r * 6 + i) = cmb (vv s r (13 + 2 * i)) (vv s r (13 + 2 * i + 1)) from (hR0.2.1 r hr).2.2.2.2 i (by omega)]
        refine qa_iload_n hΓ dX0_conducts_36 rfl ?_
        refine qz_iand hΓ dX0_conducts_37 ?_
        have hlt : cmb (vv s r (13 + 2 * i)) (vv s r (13 + 2 * i + 1)) &&& Fn on < 4294967296 := Nat.lt_of_le_of_lt Nat.and_le_right (Fn_lt ho)
        refine qz_if_ne (tgt := 43) hΓ dX0_conducts_38 (by decide) (by omega) (fun h_38 => ?_) (fun h_38 => ?_)
        · refine qz_iinc hΓ dX0_conducts_43 ii_1 rfl (by decide) ?_
          refine qa_goto (tgt := 18) hΓ dX0_conducts_46 (by decide) ?_
          refine ih (i + 1) (by omega) (by omega) ?_
          show (cdB s r on i || brB s r on i) = false
          rw [hz, Bool.false_or, Bool.eq_false_iff]
          exact fun q => h_38 ((br_Fn hW hr (by omega) ho).mpr q)
        · refine qa_iconst (v := nI 1) hΓ dX0_conducts_41 ic_1 ?_
          exact qr_b (p := true) hR dX0_conducts_42 ⟨by rw [show cnd s r on = true from cdB_mono (i := i + 1) (by omega) (by show (cdB s r on i || brB s r on i) = true; rw [(br_Fn hW hr (by omega) ho).mp h_38, Bool.or_true])], rfl⟩
  refine qa_iload_n hΓ dX0_conducts_0 rfl ?_
  refine qa_bipush (v := nI 6) hΓ dX0_conducts_1 bp_6 ?_
  refine qz_imul hΓ dX0_conducts_3 ?_
  refine qa_istore_n hΓ dX0_conducts_4 (by decide) ?_
  refine qa_aload_n hΓ dX0_conducts_5 rfl ?_
  refine qa_get hΓ dX0_conducts_6 fk_X0_21 hB.lt hB.o rfl ?_
  refine qa_iload_n hΓ dX0_conducts_9 rfl ?_
  refine qc_N1 hΓ dX0_conducts_10 nk_X0_73 vw_X5_at (by omega) (c_X5_at l (d - 1) (hB.lti (i := 4) (by decide)) hB.a3 _ (by omega) (by decide)) rfl rfl (Nat.le_of_ble_eq_true rfl) ?_
  rw [show b 3 r = vv s r 12 from (hR0.2.1 r hr).2.2.2.1]
  refine qa_istore hΓ dX0_conducts_13 (by decide) ?_
  refine qa_iconst (v := nI 0) hΓ dX0_conducts_15 ic_0 ?_
  refine qa_istore hΓ dX0_conducts_16 (by decide) ?_
  exact loop (vv s r 12 + 1) 0 (Nat.zero_le _) (by omega) rfl
end
section
/-! The class: the coils -/
theorem BkAt.setE {n kb i j x : Nat} {w : Nat → AC} {b : Bk} (h : BkAt n w kb (bset b i j x)) : ∃ b', BkAt n w kb b' ∧ b' = bset b i j x := ⟨_, h, rfl⟩
theorem lkT_4 (is : Nat) (t : Nat → Nat) (r : Nat) : vv (lkT is t r) r 4 = is := by
  unfold lkT
  rw [vv_oth _ _ _ _ _ _ (by decide) (by decide) (by omega), vv_oth _ _ _ _ _ _ (by decide) (by decide) (by omega), vv_same]
theorem lkT_8 (is : Nat) (t : Nat → Nat) (r : Nat) : vv (lkT is t r) r 8 = if vv t r 3 ≠ is then 2 - is else if vv t r 8 = 1 + is then 0 else vv t r 8 := by
  unfold lkT
  rw [vv_oth _ _ _ _ _ _ (by decide) (by decide) (by omega), vv_same]
theorem lkT_9 (is : Nat) (t : Nat → Nat) (r : Nat) : vv (lkT is t r) r 9 = if vv t r 3 ≠ is then t 2 + vv t r (if is = 1 then 0 else 1) else vv t r 9 := by
  unfold lkT
  rw [vv_same]
def dueT (t : Nat → Nat) (is r : Nat) : Nat := if vv t r 3 ≠ is then t 2 + vv t r (if is = 1 then 0 else 1) else NV
theorem SeC.turn {t : Nat → Nat} {B r is : Nat} (hS : SeC t) (hW : Wt t B) (hr : r < t 1) (hi : is = 1 - vv t r 4) : SeC (lkT is t r) := by
  intro q hq
  rw [lkT_hd _ _ _ (by decide)] at hq
  obtain ⟨h1, h2⟩ := hS q hq
  refine ⟨fun h => ?_, ?_⟩
  · by_cases e : q = r
    · subst e
      rw [lkT_8] at h ⊢
      rw [lkT_4, lkT_oth _ _ _ (x := 3) (by decide) (by omega)]
      have h4 := hW.c1 hr (x := 4) (by omega)
      by_cases e3 : vv t q 3 ≠ is
      · rw [if_pos e3]
        exact ⟨rfl, e3⟩
      · rw [if_neg e3] at h
        exfalso
        by_cases e8 : vv t q 8 = 0
        · rw [e8] at h
          split at h <;> exact h rfl
        · have := (h1 e8).1
          rw [if_pos (by omega)] at h
          exact h rfl
    · rw [lkT_oth _ _ _ (by decide) (by omega)] at h
      rw [lkT_oth _ _ _ (by decide) (by omega), lkT_oth _ _ _ (by decide) (by omega), lkT_oth _ _ _ (by decide) (by omega)]
      exact h1 h
  · rw [lkT_oth _ _ _ (by decide) (by omega), lkT_oth _ _ _ (by decide) (by omega)]
    exact h2
theorem RepC.turn {t : Nat → Nat} {b : Bk} {B r is : Nat} (h : RepC t b) (hS : SeC t) (hW : Wt t B) (hr : r < t 1) (hi : is = 1 - vv t r 4) : RepC (lkT is t r) (bset (bset b 6 3 (b 6 3 ^^^ 1 <<< r)) 5 (2 * r) (dueT t is r)) := by
  obtain ⟨⟨h1, h2, h3⟩, h4, ⟨e3, e4, e5, e6, e7, e8⟩, hd, hz⟩ := h
  have hh : ∀ j, j < 3 → lkT is t r j = t j := fun j hj => lkT_hd _ _ _ hj
  have b6 : ∀ j, j ≠ 3 → bset (bset b 6 3 (b 6 3 ^^^ 1 <<< r)) 5 (2 * r) (dueT t is r) 6 j = b 6 j := fun j hj => by rw [bset_ne _ _ _ (by decide), bset_eq, upN_ne _ _ _ hj]
  have bi : ∀ i, i < 5 → bset (bset b 6 3 (b 6 3 ^^^ 1 <<< r)) 5 (2 * r) (dueT t is r) i = b i := fun i hi => by rw [bset_ne _ _ _ (by omega), bset_ne _ _ _ (by omega)]
  have b5 : ∀ j, bset (bset b 6 3 (b 6 3 ^^^ 1 <<< r)) 5 (2 * r) (dueT t is r) 5 j = if j = 2 * r then dueT t is r else b 5 j := fun j => by
    rw [bset_eq, bset_ne _ _ _ (by decide)]
    by_cases e : j = 2 * r
    · rw [if_pos e, e, upN_self]
    · rw [if_neg e, upN_ne _ _ _ e]
  have pe : ∀ x v, x < 25 → (x ≠ 4 ∧ x ≠ 8 ∧ x ≠ 9) → pM (lkT is t r) x v = pM t x v := fun x v hx hc => by
    funext q
    unfold pM
    rw [lkT_oth _ _ _ hx (Or.inr hc)]
  refine ⟨⟨?_, ?_, ?_⟩, fun q hq => ?_, ⟨?_, ?_, ?_, ?_, ?_, ?_⟩, fun q hq => ?_, fun q hq1 hq2 => ?_⟩
  · rw [b6 0 (by decide), hh 1 (by decide)]; exact h1
  · rw [b6 1 (by decide), hh 2 (by decide)]; exact h2
  · rw [b6 2 (by decide), hh 0 (by decide)]; exact h3
  · rw [hh 1 (by decide)] at hq
    obtain ⟨g1, g2, g3, g4, g5⟩ := h4 q hq
    refine ⟨?_, ?_, ?_, ?_, fun j hj => ?_⟩
    · rw [bi 0 (by decide), lkT_oth _ _ _ (by decide) (by omega)]; exact g1
    · rw [bi 1 (by decide), lkT_oth _ _ _ (by decide) (by omega)]; exact g2
    · rw [bi 2 (by decide), lkT_oth _ _ _ (by decide) (by omega)]; exact g3
    · rw [bi 3 (by decide), lkT_oth _ _ _ (by decide) (by omega)]; exact g4
    · rw [lkT_oth _ _ _ (by decide) (by omega)] at hj
      have h6 := hW.m6 hq
      rw [bi 4 (by decide), lkT_oth _ _ _ (by omega) (by omega), lkT_oth _ _ _ (by omega) (by omega)]
      exact g5 j hj
  · rw [bset_ne _ _ _ (by decide), bset_eq, upN_self, e3, hh 1 (by decide)]
    refine mk_xor hr (fun q hq => ?_)
    have h4q := hW.c1 hq (x := 4) (by omega)
    unfold pM
    by_cases e : q = r
    · subst e
      rw [if_pos rfl, lkT_4, hi]
      rcases (show vv t q 4 = 0 ∨ vv t q 4 = 1 by omega) with u | u <;> rw [u] <;> decide
    · rw [if_neg e, lkT_oth _ _ _ (by decide) (by omega)]
  · rw [b6 4 (by decide), hh 1 (by decide), pe 3 1 (by decide) (by decide)]; exact e4
  · rw [b6 5 (by decide), hh 1 (by decide), pe 5 1 (by decide) (by decide)]; exact e5
  · rw [b6 6 (by decide), hh 1 (by decide), pe 7 1 (by decide) (by decide)]; exact e6
  · rw [b6 7 (by decide), hh 1 (by decide), pe 6 1 (by decide) (by decide)]; exact e7
  · rw [b6 8 (by decide), hh 1 (by decide), pe 6 2 (by decide) (by decide)]; exact e8
  · rw [hh 1 (by decide)] at hq
    obtain ⟨d1, d2⟩ := hd q hq
    have h4q := hW.c1 hq (x := 4) (by omega)
    refine ⟨?_, ?_⟩
    · rw [b5]
      unfold duA
      by_cases e : q = r
      · subst e
        rw [if_pos rfl, lkT_8, lkT_9]
        unfold dueT
        by_cases e3 : vv t q 3 ≠ is
        · rw [if_pos e3, if_pos e3, if_pos e3]
          exact (if_neg (show ¬ 2 - is = 0 by omega)).symm
        · rw [if_neg e3, if_neg e3]
          rw [if_pos ?_]
          by_cases e8 : vv t q 8 = 0
          · rw [e8]
            split <;> rfl
          · have := ((hS q hq).1 e8).1
            rw [if_pos (by omega)]
      · rw [if_neg (by omega), lkT_oth _ _ _ (by decide) (by omega), lkT_oth _ _ _ (by decide) (by omega)]
        exact d1
    · rw [b5, if_neg (by omega)]
      unfold duE
      rw [lkT_oth _ _ _ (by decide) (by omega), lkT_oth _ _ _ (by decide) (by omega)]
      exact d2
  · rw [hh 1 (by decide)] at hq1
    rw [bi 3 (by decide), b5, b5, if_neg (by omega), if_neg (by omega)]
    exact hz q hq1 hq2
theorem PBr {n kb : Nat} {b : Bk} {w w' : Nat → AC} (h : PB n kb b w w') : BkAt n w' kb b ∧ Fr kb 7 w w' := h

set_option maxRecDepth 100000 in
set_option maxHeartbeats 4000000 in
theorem c_X0_turnCoil (l : Launch) (d : Nat) (hd : 1 ≤ d) {n kb : Nat} {w : Nat → AC} {b : Bk} (hB : BkAt n w kb b) {s : Nat → Nat} (hR0 : RepC s b) {B : Nat} (hW : Wt s B) (hBd : B < 900000000) (hS : SeC s) (r : Nat) (hr : r < s 1) : Sq l yX0_turnCoil cX0_turnCoil 3 none d [aR kb, aZ r] n w (Qn (fun w' => ∃ b', BkAt n w' kb b' ∧ Fr kb 7 w w' ∧ RepC (lkT (1 - vv s r 4) s r) b')) := by
  refine Sp.of (plainFor_of_name (by decide)) (Nat.le_of_ble_eq_true rfl) (fun Γ hΓ hR => ?_)
  show Γ 0 [aR kb, aZ r, none] [] (0, 0) n w
  have hb8 := hW.2.1
  have h84 : b 6 3 = mk (pM s 4 1) (s 1) := hR0.2.2.1.1
  have h83 : b 6 4 = mk (pM s 3 1) (s 1) := hR0.2.2.1.2.1
  have h4c := hW.c1 hr (x := 4) (by omega)
  have h3c := hW.c1 hr (x := 3) (by omega)
  have hF0 : Fr kb 7 w w := Fr.rf
  have hl1 : b 6 3 ^^^ 1 <<< r < 65536 := Nat.xor_lt_two_pow (n := 16) (by rw [h84]; exact mk_16' _ hb8) (by rw [Nat.one_shiftLeft]; exact Nat.pow_lt_pow_right (by decide) (by omega))
  have hl2 : b 6 4 < 65536 := by rw [h83]; exact mk_16' _ hb8
  have hl3 : b 6 3 ^^^ 1 <<< r ^^^ b 6 4 < 65536 := Nat.xor_lt_two_pow (n := 16) hl1 hl2
  have hfb : (b 6 3 ^^^ 1 <<< r).testBit r = decide (1 - vv s r 4 = 1) := by
    rw [Nat.testBit_xor, sh1_bit, h84, mk_bit]
    unfold pM
    rcases (show vv s r 4 = 0 ∨ vv s r 4 = 1 by omega) with u | u <;> simp [u, hr]
  have hxb : (b 6 3 ^^^ 1 <<< r ^^^ b 6 4).testBit r = decide (vv s r 3 ≠ 1 - vv s r 4) := by
    rw [Nat.testBit_xor, hfb, h83, mk_bit]
    unfold pM
    rcases (show vv s r 4 = 0 ∨ vv s r 4 = 1 by omega) with u | u <;> rcases (show vv s r 3 = 0 ∨ vv s r 3 = 1 by omega) with u3 | u3 <;> simp [u, u3, hr]
  refine qa_aload_n hΓ dX0_turnCoil_0 rfl ?_
  refine qa_dup hΓ dX0_turnCoil_1 ?_
  refine qa_get hΓ dX0_turnCoil_2 fk_X0_47 hB.lt hB.o rfl ?_
  refine qa_iconst (v := nI 1) hΓ dX0_turnCoil_5 ic_1 ?_
  refine qa_iload_n hΓ dX0_turnCoil_6 rfl ?_
  refine qz_ishl hΓ dX0_turnCoil_7 (by omega) ?_
  refine qz_ixor hΓ dX0_turnCoil_8 ?_
  refine qB_put hΓ 3 dX0_turnCoil_9 fk_X0_47 (by decide) hB (fun w hB hF => ?_)
  have hF0 := hF0.tr hF
  obtain ⟨b1, hB, hb1⟩ := BkAt.setE hB
  have h63 : b1 6 3 = b 6 3 ^^^ 1 <<< r := by rw [hb1, bset_eq, upN_self]
  have h64 : b1 6 4 = b 6 4 := by rw [hb1, bset_eq, upN_ne _ _ _ (by decide)]
  have h61 : b1 6 1 = b 6 1 := by rw [hb1, bset_eq, upN_ne _ _ _ (by decide)]
  have h0 : b1 0 = b 0 := by rw [hb1, bset_ne _ _ _ (by decide)]
  have h1 : b1 1 = b 1 := by rw [hb1, bset_ne _ _ _ (by decide)]
  refine qa_ldc (v := nI 2147483647) hΓ dX0_turnCoil_12 ck_X0_30 ?_
  refine qa_istore_n hΓ dX0_turnCoil_14 (by decide) ?_
  refine qa_aload_n hΓ dX0_turnCoil_15 rfl ?_
  refine qa_get hΓ dX0_turnCoil_16 fk_X0_47 hB.lt hB.o rfl ?_
  refine qa_aload_n hΓ dX0_turnCoil_19 rfl ?_
  refine qa_get hΓ dX0_turnCoil_20 fk_X0_50 hB.lt hB.o rfl ?_
  refine qz_ixor hΓ dX0_turnCoil_23 ?_
  refine qa_iload_n hΓ dX0_turnCoil_24 rfl ?_
  refine qc_N1 hΓ dX0_turnCoil_25 nk_X0_106 vw_X5_isIn (by omega) (c_X5_isIn l (d - 1) _ _ (by rw [h63, h64]; omega) (by omega)) rfl rfl (Nat.le_of_ble_eq_true rfl) ?_
  refine qb_if_eq (tgt := 63) hΓ dX0_turnCoil_28 (by decide) (fun h_28 => ?_) (fun h_28 => ?_)
  · refine qa_aload_n hΓ dX0_turnCoil_63 rfl ?_
    refine qa_get hΓ dX0_turnCoil_64 fk_X0_27 hB.lt hB.o rfl ?_
    refine qa_iconst (v := nI 2) hΓ dX0_turnCoil_67 ic_2 ?_
    refine qa_iload_n hΓ dX0_turnCoil_68 rfl ?_
    refine qz_imul hΓ dX0_turnCoil_69 ?_
    refine qa_iload_n hΓ dX0_turnCoil_70 rfl ?_
    refine qc_N0q hΓ dX0_turnCoil_71 nk_X0_77 vw_X5_put (by omega) (c_X5_putB l (d - 1) hB 5 (2 * r) _ (by decide) (by show _ < 16; omega)) rfl rfl (Nat.le_of_ble_eq_true rfl) (fun w hq => ?_)
    obtain ⟨hB, hF⟩ := hq
    have hF0 := hF0.tr hF
    have h9 := hR0.turn hS hW hr rfl
    have e : dueT s (1 - vv s r 4) r = NV := by
      unfold dueT
      rw [if_neg (fun q => by rw [h63, h64, hxb] at h_28; exact of_decide_eq_false h_28 q)]
    rw [e, ← hb1] at h9
    exact qr_v hR dX0_turnCoil_74 ⟨rfl, _, hB, hF0, h9⟩
  · refine qa_aload_n hΓ dX0_turnCoil_31 rfl ?_
    refine qa_get hΓ dX0_turnCoil_32 fk_X0_41 hB.lt hB.o rfl ?_
    refine qa_aload_n hΓ dX0_turnCoil_35 rfl ?_
    refine qa_get hΓ dX0_turnCoil_36 fk_X0_47 hB.lt hB.o rfl ?_
    refine qa_iload_n hΓ dX0_turnCoil_39 rfl ?_
    refine qc_N1 hΓ dX0_turnCoil_40 nk_X0_106 vw_X5_isIn (by omega) (c_X5_isIn l (d - 1) _ _ (by rw [h63]; omega) (by omega)) rfl rfl (Nat.le_of_ble_eq_true rfl) ?_
    refine qb_if_eq (tgt := 53) hΓ dX0_turnCoil_43 (by decide) (fun h_43 => ?_) (fun h_43 => ?_)
    · refine qa_aload_n hΓ dX0_turnCoil_53 rfl ?_
      refine qa_get hΓ dX0_turnCoil_54 fk_X0_15 hB.lt hB.o rfl ?_
      refine qa_iload_n hΓ dX0_turnCoil_57 rfl ?_
      refine qc_N1 hΓ dX0_turnCoil_58 nk_X0_73 vw_X5_at (by omega) (c_X5_at l (d - 1) (hB.lti (i := 2) (by decide)) hB.a1 _ (by omega) (by decide)) rfl rfl (Nat.le_of_ble_eq_true rfl) ?_
      refine qz_iadd hΓ dX0_turnCoil_61 ?_
      refine qa_istore_n hΓ dX0_turnCoil_62 (by decide) ?_
      refine qa_aload_n hΓ dX0_turnCoil_63 rfl ?_
      refine qa_get hΓ dX0_turnCoil_64 fk_X0_27 hB.lt hB.o rfl ?_
      refine qa_iconst (v := nI 2) hΓ dX0_turnCoil_67 ic_2 ?_
      refine qa_iload_n hΓ dX0_turnCoil_68 rfl ?_
      refine qz_imul hΓ dX0_turnCoil_69 ?_
      refine qa_iload_n hΓ dX0_turnCoil_70 rfl ?_
      refine qc_N0q hΓ dX0_turnCoil_71 nk_X0_77 vw_X5_put (by omega) (c_X5_putB l (d - 1) hB 5 (2 * r) _ (by decide) (by show _ < 16; omega)) rfl rfl (Nat.le_of_ble_eq_true rfl) (fun w hq => ?_)
      obtain ⟨hB, hF⟩ := hq
      have hF0 := hF0.tr hF
      have h9 := hR0.turn hS hW hr rfl
      have e : dueT s (1 - vv s r 4) r = b1 6 1 + b1 1 r := by
        unfold dueT
        rw [if_pos (by rw [h63, h64, hxb] at h_28; exact of_decide_eq_true h_28), if_neg (by rw [h63, hfb] at h_43; exact of_decide_eq_false h_43), h61, h1, hR0.1.2.1, (hR0.2.1 r hr).2.1]
      rw [e, ← hb1] at h9
      exact qr_v hR dX0_turnCoil_74 ⟨rfl, _, hB, hF0, h9⟩
    · refine qa_aload_n hΓ dX0_turnCoil_46 rfl ?_
      refine qa_get hΓ dX0_turnCoil_47 fk_X0_9 hB.lt hB.o rfl ?_
      refine qa_goto (tgt := 57) hΓ dX0_turnCoil_50 (by decide) ?_
      refine qa_iload_n hΓ dX0_turnCoil_57 rfl ?_
      refine qc_N1 hΓ dX0_turnCoil_58 nk_X0_73 vw_X5_at (by omega) (c_X5_at l (d - 1) (hB.lti (i := 1) (by decide)) hB.a0 _ (by omega) (by decide)) rfl rfl (Nat.le_of_ble_eq_true rfl) ?_
      refine qz_iadd hΓ dX0_turnCoil_61 ?_
      refine qa_istore_n hΓ dX0_turnCoil_62 (by decide) ?_
      refine qa_aload_n hΓ dX0_turnCoil_63 rfl ?_
      refine qa_get hΓ dX0_turnCoil_64 fk_X0_27 hB.lt hB.o rfl ?_
      refine qa_iconst (v := nI 2) hΓ dX0_turnCoil_67 ic_2 ?_
      refine qa_iload_n hΓ dX0_turnCoil_68 rfl ?_
      refine qz_imul hΓ dX0_turnCoil_69 ?_
      refine qa_iload_n hΓ dX0_turnCoil_70 rfl ?_
      refine qc_N0q hΓ dX0_turnCoil_71 nk_X0_77 vw_X5_put (by omega) (c_X5_putB l (d - 1) hB 5 (2 * r) _ (by decide) (by show _ < 16; omega)) rfl rfl (Nat.le_of_ble_eq_true rfl) (fun w hq => ?_)
      obtain ⟨hB, hF⟩ := hq
      have hF0 := hF0.tr hF
      have h9 := hR0.turn hS hW hr rfl
      have e : dueT s (1 - vv s r 4) r = b1 6 1 + b1 0 r := by
        unfold dueT
        rw [if_pos (by rw [h63, h64, hxb] at h_28; exact of_decide_eq_true h_28), if_pos (by rw [h63, hfb] at h_43; exact of_decide_eq_true h_43), h61, h0, hR0.1.2.1, (hR0.2.1 r hr).1]
      rw [e, ← hb1] at h9
      exact qr_v hR dX0_turnCoil_74 ⟨rfl, _, hB, hF0, h9⟩
end
section
/-! The class: looking at the coils -/
def PR (n kb : Nat) (s : Nat → Nat) (w : Nat → AC) : (Nat → AC) → Prop := fun w' => ∃ b', BkAt n w' kb b' ∧ Fr kb 7 w w' ∧ RepC s b' ∧ SeC s
theorem pbit {s : Nat → Nat} {b : Bk} {B r x j : Nat} (hW : Wt s B) (hr : r < s 1) (hx : x = 3 ∨ x = 4 ∨ x = 5 ∨ x = 7 ∨ x = 10) (h : b 6 j = mk (pM s x 1) (s 1)) : ((b 6 j).testBit r).toNat = vv s r x := by
  have h1 := hW.c1 hr hx
  rw [h, mk_bit]
  unfold pM
  rcases (show vv s r x = 0 ∨ vv s r x = 1 by omega) with u | u <;> simp [u, hr]
theorem pm_lt {s : Nat → Nat} {b : Bk} {B x v j : Nat} (hW : Wt s B) (h : b 6 j = mk (pM s x v) (s 1)) : b 6 j < 256 := by
  rw [h]
  exact mk_256 _ hW.2.1
theorem lk_4 (on : Nat) (s : Nat → Nat) {r : Nat} (h6 : vv s r 12 ≤ 6) : ∀ m, r < m → vv (lk on s m).2 r 4 = (cnd s r on).toNat
  | 0, h => absurd h (Nat.not_lt_zero _)
  | m + 1, h => by
    have hc : cnd (lk on s m).2 r on = cnd s r on := cnd_congr (by rw [lk_oth on s (by decide) (by decide) m]; exact h6) (fun x h1 h2 => lk_oth on s h2 (by omega) m)
    unfold lk
    by_cases e : r = m
    · subst e
      split
      · rename_i q
        rw [← hc]
        exact q.symm
      · show vv (lkT _ _ _) r 4 = _
        rw [lkT_4, hc]
    · split
      · exact lk_4 on s h6 m (by omega)
      · show vv (lkT _ _ _) r 4 = _
        rw [lkT_oth _ _ _ (by decide) (Or.inl e)]
        exact lk_4 on s h6 m (by omega)
theorem onS_lk (on : Nat) (s : Nat → Nat) (m : Nat) : onS (lk on s m).2 = onS s := by
  unfold onS
  rw [lk_hd on s (by decide) m, lk_hd on s (by decide) m]
  congr 2
  apply mk_congr
  intro i hi
  unfold clB
  rw [lk_oth on s (by decide) (by decide) m, lk_oth on s (by decide) (by decide) m, lk_oth on s (by decide) (by decide) m]
theorem CC_lks {s : Nat → Nat} {B : Nat} (h : Wt s B) : CC (lks s).2 := by
  intro r hr
  have e1 : (lks s).2 1 = s 1 := lk_hd _ _ (by decide) _
  rw [e1] at hr
  have h6 := h.m6 hr
  have e2 : onS (lks s).2 = onS s := onS_lk _ _ _
  rw [e2]
  rw [show cnd (lks s).2 r (onS s) = cnd s r (onS s) from cnd_congr (by unfold lks; rw [lk_oth _ s (by decide) (by decide) _]; exact h6) (fun x h1 h2 => lk_oth _ s h2 (by omega) _)]
  exact lk_4 (onS s) s h6 (s 1) hr
theorem lk_none (on : Nat) (s : Nat → Nat) : ∀ m, (∀ r, r < m → vv s r 4 = (cnd s r on).toNat) → lk on s m = (0, s)
  | 0, _ => rfl
  | m + 1, h => by
    unfold lk
    rw [lk_none on s m (fun r hr => h r (by omega)), if_pos (h m (by omega)).symm]
theorem CC.lks {s : Nat → Nat} (h : CC s) : lks s = (0, s) := lk_none _ _ _ h
set_option maxRecDepth 100000 in
set_option maxHeartbeats 4000000 in
theorem c_X0_lookAtCoils (l : Launch) (d : Nat) (hd : 2 ≤ d) {n kb : Nat} {w : Nat → AC} {b : Bk} (hB : BkAt n w kb b) {s : Nat → Nat} (hR0 : RepC s b) {B : Nat} (hW : Wt s B) (hBd : B < 900000000) (hS : SeC s) : Sq l yX0_lookAtCoils cX0_lookAtCoils 4 (some .int) d [aR kb] n w (Qv (aZ (lks s).1) (PR n kb (lks s).2 w)) := by
  refine Sp.of (plainFor_of_name (by decide)) (Nat.le_of_ble_eq_true rfl) (fun Γ hΓ hR => ?_)
  show Γ 0 [aR kb, none, none, none] [] (0, 0) n w
  obtain ⟨w0, hw0⟩ : ∃ X, X = w ∧ ∀ w2, Fr kb 7 X w2 → Fr kb 7 w w2 := ⟨w, rfl, fun _ h => h⟩
  obtain ⟨hww, hw0⟩ := hw0
  have hF0 : Fr kb 7 w0 w := hww ▸ Fr.rf
  have h8 := hW.2.1
  have hon := on_lt hW
  refine qa_aload_n hΓ dX0_lookAtCoils_0 rfl ?_
  refine qc_V1 hΓ dX0_lookAtCoils_1 lk_X0_114 vw_X0_failing (by omega) (c_X0_failing l (d - 1) (by omega) hB hR0 hW hBd) rfl hB.lt hB.o rfl rfl (Nat.le_of_ble_eq_true rfl) ?_
  refine qa_istore_n hΓ dX0_lookAtCoils_4 (by decide) ?_
  refine qa_iconst (v := nI 0) hΓ dX0_lookAtCoils_5 ic_0 ?_
  refine qa_istore_n hΓ dX0_lookAtCoils_6 (by decide) ?_
  refine qa_iconst (v := nI 0) hΓ dX0_lookAtCoils_7 ic_0 ?_
  refine qa_istore_n hΓ dX0_lookAtCoils_8 (by decide) ?_
  have loop : ∀ (m r : Nat) (w1 : Nat → AC) (b1 : Bk), r ≤ s 1 → s 1 < r + m → BkAt n w1 kb b1 → Fr kb 7 w0 w1 → RepC (lk (onS s) s r).2 b1 → SeC (lk (onS s) s r).2 → Γ 9 [aR kb, aZ (Fn (onS s)), aZ (lk (onS s) s r).1, aZ r] [] (0, 0) n w1 := by
    intro m
    induction m with
    | zero => intro r w b h1 h2; exact absurd h2 (by omega)
    | succ m ih =>
      intro r w b hr0 hm hB hF0 hR0 hS
      have hW1 := Wt.lk (onS s) hW r hr0
      have e1 : (lk (onS s) s r).2 1 = s 1 := lk_hd _ _ (by decide) _
      have e60 : b 6 0 = s 1 := hR0.1.1.trans e1
      refine qa_iload_n hΓ dX0_lookAtCoils_9 rfl ?_
      refine qa_aload_n hΓ dX0_lookAtCoils_10 rfl ?_
      refine qa_get hΓ dX0_lookAtCoils_11 fk_X0_37 hB.lt hB.o rfl ?_
      refine qz_icmp_ge (tgt := 48) hΓ dX0_lookAtCoils_14 (by decide) (by omega) (by omega) (fun h_14 => ?_) (fun h_14 => ?_)
      · refine qa_iload_n hΓ dX0_lookAtCoils_48 rfl ?_
        have er : r = s 1 := by omega
        subst er
        exact qr_i hR dX0_lookAtCoils_49 ⟨rfl, b, hB, hw0 _ hF0, hR0, hS⟩
      · refine qa_aload_n hΓ dX0_lookAtCoils_17 rfl ?_
        refine qa_iload_n hΓ dX0_lookAtCoils_18 rfl ?_
        refine qa_iload_n hΓ dX0_lookAtCoils_19 rfl ?_
        refine qc_V1 hΓ dX0_lookAtCoils_20 lk_X0_117 vw_X0_conducts (by omega) (c_X0_conducts l (d - 1) (by omega) hB hR0 hW1 hBd r (onS s) (by omega) hon) rfl hB.lt hB.o rfl rfl (Nat.le_of_ble_eq_true rfl) ?_
        have hc1 : (cnd (lk (onS s) s r).2 r (onS s)).toNat ≤ 1 := Bool.toNat_le _
        have hf1 := hW1.c1 (show r < (lk (onS s) s r).2 1 by omega) (x := 4) (by omega)
        have h63 := pm_lt hW1 hR0.2.2.1.1
        refine qa_aload_n hΓ dX0_lookAtCoils_23 rfl ?_
        refine qa_get hΓ dX0_lookAtCoils_24 fk_X0_47 hB.lt hB.o rfl ?_
        refine qa_iload_n hΓ dX0_lookAtCoils_27 rfl ?_
        refine qc_N1 hΓ dX0_lookAtCoils_28 nk_X0_106 vw_X5_isIn (by omega) (c_X5_isIn l (d - 1) _ _ (by omega) (by omega)) rfl rfl (Nat.le_of_ble_eq_true rfl) ?_
        rw [pbit hW1 (show r < (lk (onS s) s r).2 1 by omega) (by omega) hR0.2.2.1.1]
        refine qz_icmp_eq (tgt := 42) hΓ dX0_lookAtCoils_31 (by decide) (by omega) (by omega) (fun h_31 => ?_) (fun h_31 => ?_)
        · refine qz_iinc hΓ dX0_lookAtCoils_42 ii_1 rfl (by decide) ?_
          refine qa_goto (tgt := 9) hΓ dX0_lookAtCoils_45 (by decide) ?_
          have e9 : lk (onS s) s (r + 1) = lk (onS s) s r := by
            show (if _ then _ else _) = _
            rw [if_pos h_31]
          have h9 := ih (r + 1) w b (by omega) (by omega) hB hF0 (by rw [e9]; exact hR0) (by rw [e9]; exact hS)
          rw [e9] at h9
          exact h9
        · refine qa_aload_n hΓ dX0_lookAtCoils_34 rfl ?_
          refine qa_iload_n hΓ dX0_lookAtCoils_35 rfl ?_
          refine qc_V0q hΓ dX0_lookAtCoils_36 lk_X0_120 vw_X0_turnCoil (by omega) (c_X0_turnCoil l (d - 1) (by omega) hB hR0 hW1 hBd hS r (by omega)) rfl hB.lt hB.o rfl rfl (Nat.le_of_ble_eq_true rfl) (fun w hq => ?_)
          obtain ⟨b', hB, hF, hR2⟩ := hq
          have hF0 := hF0.tr hF
          refine qz_iinc hΓ dX0_lookAtCoils_39 ii_1 rfl (by decide) ?_
          refine qz_iinc hΓ dX0_lookAtCoils_42 ii_1 rfl (by decide) ?_
          refine qa_goto (tgt := 9) hΓ dX0_lookAtCoils_45 (by decide) ?_
          have ei : 1 - vv (lk (onS s) s r).2 r 4 = (cnd (lk (onS s) s r).2 r (onS s)).toNat := by omega
          have e9 : lk (onS s) s (r + 1) = ((lk (onS s) s r).1 + 1, lkT (1 - vv (lk (onS s) s r).2 r 4) (lk (onS s) s r).2 r) := by
            show (if _ then _ else _) = _
            rw [if_neg h_31, ei]
          have h9 := ih (r + 1) w b' (by omega) (by omega) hB hF0 (by rw [e9]; exact hR2) (by rw [e9]; exact hS.turn hW1 (by omega) rfl)
          rw [e9] at h9
          exact h9
  exact loop (s 1 + 1) 0 w b (Nat.zero_le _) (by omega) hB hF0 hR0 hS
end
section
/-! The class: branches, and what a bank tells -/
def bitV (x how : Nat) : Nat := if how = 1 then 1 <<< x else if how = 2 then 1 <<< (16 + x) else 0
theorem lo_bit (g i : Nat) : (g % 65536).testBit i = (decide (i < 16) && g.testBit i) := Nat.testBit_mod_two_pow g 16 i
theorem hi_bit (g i : Nat) : (g / 65536).testBit i = g.testBit (16 + i) := by
  rw [show g / 65536 = g / 2 ^ 16 from rfl, Nat.testBit_div_two_pow, Nat.add_comm]
theorem and1_bit (g x : Nat) : g &&& 1 <<< x = 0 ↔ g.testBit x = false := by
  constructor
  · intro h
    have h1 : (g &&& 1 <<< x).testBit x = false := by rw [h]; exact Nat.zero_testBit x
    rw [Nat.testBit_and, sh1_bit] at h1
    simpa using h1
  · intro h
    apply Nat.eq_of_testBit_eq
    intro i
    rw [Nat.testBit_and, sh1_bit, Nat.zero_testBit]
    by_cases e : i = x
    · subst e; rw [h]; rfl
    · simp [e]
theorem and1_t {g x : Nat} (h : ¬ (g &&& 1 <<< x = 0)) : g.testBit x = true := by
  cases q : g.testBit x with
  | true => rfl
  | false => exact absurd ((and1_bit g x).mpr q) h
theorem lo_t (g : Nat) {x : Nat} (hx : x < 16) : (g % 65536).testBit x = g.testBit x := by
  rw [lo_bit, decide_eq_true hx, Bool.true_and]
theorem wi_int {g x how : Nat} (hg : g < 4294967296) (hx : x < 16) : nI g &&& (nI (1 <<< x ||| 1 <<< (16 + x)) ^^^ (-1)) ||| nI (bitV x how) = nI (wi g x how) := by
  apply Int32.toBitVec_inj.mp
  rw [Int32.toBitVec_or, Int32.toBitVec_and, Int32.toBitVec_xor, show (-1 : Int32).toBitVec = BitVec.allOnes 32 from rfl, BitVec.xor_allOnes]
  apply BitVec.eq_of_getLsbD_eq
  intro i hi
  show ((BitVec.ofNat 32 g &&& ~~~ (BitVec.ofNat 32 (1 <<< x ||| 1 <<< (16 + x)))) ||| BitVec.ofNat 32 (bitV x how)).getLsbD i = (BitVec.ofNat 32 (wi g x how)).getLsbD i
  simp only [BitVec.getLsbD_or, BitVec.getLsbD_and, BitVec.getLsbD_not, BitVec.getLsbD_ofNat, hi, decide_true, Bool.true_and, Nat.testBit_or, sh1_bit]
  have hlo : g % 65536 < 65536 := Nat.mod_lt _ (by decide)
  have hhi : g / 65536 < 65536 := by omega
  have h1 : (if how = 1 then clr (g % 65536) x ||| 1 <<< x else clr (g % 65536) x) < 65536 := by
    split
    · exact or_lt16 (clr_lt hlo) hx
    · exact clr_lt hlo
  unfold wi
  rw [cmb_bit h1]
  by_cases h : i < 16
  · rw [if_pos h]
    by_cases e1 : how = 1
    · rw [if_pos e1]
      unfold bitV
      rw [if_pos e1, Nat.testBit_or, clr_bit hlo, lo_bit, sh1_bit]
      by_cases e : i = x
      · simp [e]
      · simp [e, h]; intros; omega
    · rw [if_neg e1]
      unfold bitV
      rw [if_neg e1, clr_bit hlo, lo_bit]
      by_cases e2 : how = 2
      · rw [if_pos e2, sh1_bit]
        have : i ≠ 16 + x := by omega
        by_cases e : i = x <;> simp [e, this, h]
        all_goals omega
      · rw [if_neg e2, Nat.zero_testBit]
        have : i ≠ 16 + x := by omega
        by_cases e : i = x <;> simp [e, this, h]
        all_goals omega
  · rw [if_neg h]
    have hne : i ≠ x := by omega
    have hi16 : 16 + (i - 16) = i := by omega
    by_cases e2 : how = 2
    · rw [if_pos e2]
      unfold bitV
      rw [if_neg (by omega), if_pos e2, Nat.testBit_or, clr_bit hhi, hi_bit, sh1_bit, sh1_bit, hi16]
      by_cases e : i = 16 + x
      · have : i - 16 = x := by omega
        simp [e]
      · have : i - 16 ≠ x := by omega
        simp [e, hne, this]
    · rw [if_neg e2]
      unfold bitV
      rw [clr_bit hhi, hi_bit, hi16]
      have hz : (if how = 1 then 1 <<< x else if how = 2 then 1 <<< (16 + x) else 0).testBit i = false := by
        by_cases e1 : how = 1
        · rw [if_pos e1, sh1_bit]; exact decide_eq_false hne
        · rw [if_neg e1, if_neg e2]; exact Nat.zero_testBit i
      rw [hz]
      by_cases e : i = 16 + x
      · have : i - 16 = x := by omega
        simp [e]
      · have : i - 16 ≠ x := by omega
        simp [e, hne, this]
set_option maxRecDepth 100000 in
set_option maxHeartbeats 4000000 in
theorem c_X1_bit (l : Launch) (d : Nat) {n : Nat} {w : Nat → AC} (x how : Nat) (hx : x < 16) (hh : how < 3) : Sq l yX1_bit cX1_bit 2 (some .int) d [aZ x, aZ how] n w (Rs (some (aZ (bitV x how))) w) := by
  refine Sp.of (plainFor_of_name (by decide)) (Nat.le_of_ble_eq_true rfl) (fun Γ hΓ hR => ?_)
  show Γ 0 [aZ x, aZ how] [] (0, 0) n w
  rcases (show how = 0 ∨ how = 1 ∨ how = 2 by omega) with rfl | rfl | rfl
  · refine qa_iload_n hΓ dX1_bit_0 rfl ?_
    refine qa_lookup (tgt := 39) (off := 38) hΓ dX1_bit_1 (by decide) (by decide) (by decide) ?_
    refine qa_iconst (v := nI 0) hΓ dX1_bit_39 ic_0 ?_
    exact qr_i hR dX1_bit_40 ⟨by unfold bitV; simp, rfl⟩
  · refine qa_iload_n hΓ dX1_bit_0 rfl ?_
    refine qa_lookup (tgt := 28) (off := 27) hΓ dX1_bit_1 (by decide) (by decide) (by decide) ?_
    refine qa_iconst (v := nI 1) hΓ dX1_bit_28 ic_1 ?_
    refine qa_iload_n hΓ dX1_bit_29 rfl ?_
    refine qz_ishl hΓ dX1_bit_30 (by omega) ?_
    exact qr_i hR dX1_bit_31 ⟨by unfold bitV; simp, rfl⟩
  · refine qa_iload_n hΓ dX1_bit_0 rfl ?_
    refine qa_lookup (tgt := 32) (off := 31) hΓ dX1_bit_1 (by decide) (by decide) (by decide) ?_
    refine qa_iconst (v := nI 1) hΓ dX1_bit_32 ic_1 ?_
    refine qa_bipush (v := nI 16) hΓ dX1_bit_33 bp_16 ?_
    refine qa_iload_n hΓ dX1_bit_35 rfl ?_
    refine qz_iadd hΓ dX1_bit_36 ?_
    refine qz_ishl hΓ dX1_bit_37 (by omega) ?_
    exact qr_i hR dX1_bit_38 ⟨by unfold bitV; simp, rfl⟩

set_option maxRecDepth 100000 in
set_option maxHeartbeats 4000000 in
theorem c_X1_howOf (l : Launch) (d : Nat) (hd : 1 ≤ d) {n : Nat} {w : Nat → AC} (g x : Nat) (hg : g < 4294967296) (hx : x < 16) : Sq l yX1_howOf cX1_howOf 2 (some .int) d [aZ g, aZ x] n w (Rs (some (aZ (howO g x))) w) := by
  refine Sp.of (plainFor_of_name (by decide)) (Nat.le_of_ble_eq_true rfl) (fun Γ hΓ hR => ?_)
  show Γ 0 [aZ g, aZ x] [] (0, 0) n w
  refine qa_iload_n hΓ dX1_howOf_0 rfl ?_
  refine qa_iload_n hΓ dX1_howOf_1 rfl ?_
  refine qa_iconst (v := nI 1) hΓ dX1_howOf_2 ic_1 ?_
  refine qc_S1 hΓ dX1_howOf_3 lk_X1_9 vw_X1_bit (by omega) (c_X1_bit l (d - 1) x 1 hx (by omega)) rfl rfl (Nat.le_of_ble_eq_true rfl) ?_
  rw [show bitV x 1 = 1 <<< x from rfl]
  refine qz_iand hΓ dX1_howOf_6 ?_
  have hlt : g &&& 1 <<< x < 4294967296 := Nat.lt_of_le_of_lt Nat.and_le_left hg
  refine qz_if_eq (tgt := 12) hΓ dX1_howOf_7 (by decide) (by omega) (fun h_7 => ?_) (fun h_7 => ?_)
  · refine qa_iload_n hΓ dX1_howOf_12 rfl ?_
    refine qa_iload_n hΓ dX1_howOf_13 rfl ?_
    refine qa_iconst (v := nI 2) hΓ dX1_howOf_14 ic_2 ?_
    refine qc_S1 hΓ dX1_howOf_15 lk_X1_9 vw_X1_bit (by omega) (c_X1_bit l (d - 1) x 2 hx (by omega)) rfl rfl (Nat.le_of_ble_eq_true rfl) ?_
    rw [show bitV x 2 = 1 <<< (16 + x) from rfl]
    refine qz_iand hΓ dX1_howOf_18 ?_
    have hlt2 : g &&& 1 <<< (16 + x) < 4294967296 := Nat.lt_of_le_of_lt Nat.and_le_left hg
    refine qz_if_eq (tgt := 26) hΓ dX1_howOf_19 (by decide) (by omega) (fun h_19 => ?_) (fun h_19 => ?_)
    · refine qa_iconst (v := nI 0) hΓ dX1_howOf_26 ic_0 ?_
      exact qr_i hR dX1_howOf_27 ⟨by unfold howO; rw [if_neg (by rw [lo_t g hx, (and1_bit g x).mp h_7]; exact Bool.false_ne_true), if_neg (by rw [hi_bit, (and1_bit g (16 + x)).mp h_19]; exact Bool.false_ne_true)], rfl⟩
    · refine qa_iconst (v := nI 2) hΓ dX1_howOf_22 ic_2 ?_
      refine qa_goto (tgt := 27) hΓ dX1_howOf_23 (by decide) ?_
      exact qr_i hR dX1_howOf_27 ⟨by unfold howO; rw [if_neg (by rw [lo_t g hx, (and1_bit g x).mp h_7]; exact Bool.false_ne_true), if_pos ((hi_bit g x).trans (and1_t h_19))], rfl⟩
  · refine qa_iconst (v := nI 1) hΓ dX1_howOf_10 ic_1 ?_
    exact qr_i hR dX1_howOf_11 ⟨by unfold howO; rw [if_pos ((lo_t g hx).trans (and1_t h_7))], rfl⟩

set_option maxRecDepth 100000 in
set_option maxHeartbeats 4000000 in
theorem c_X1_with (l : Launch) (d : Nat) (hd : 1 ≤ d) {n : Nat} {w : Nat → AC} (g x how : Nat) (hg : g < 4294967296) (hx : x < 16) (hh : how < 3) : Sq l yX1_with cX1_with 4 (some .int) d [aZ g, aZ x, aZ how] n w (Rs (some (aZ (wi g x how))) w) := by
  refine Sp.of (plainFor_of_name (by decide)) (Nat.le_of_ble_eq_true rfl) (fun Γ hΓ hR => ?_)
  show Γ 0 [aZ g, aZ x, aZ how, none] [] (0, 0) n w
  refine qa_iload_n hΓ dX1_with_0 rfl ?_
  refine qa_iload_n hΓ dX1_with_1 rfl ?_
  refine qa_iconst (v := nI 1) hΓ dX1_with_2 ic_1 ?_
  refine qc_S1 hΓ dX1_with_3 lk_X1_9 vw_X1_bit (by omega) (c_X1_bit l (d - 1) x 1 hx (by omega)) rfl rfl (Nat.le_of_ble_eq_true rfl) ?_
  rw [show bitV x 1 = 1 <<< x from rfl]
  refine qa_iload_n hΓ dX1_with_6 rfl ?_
  refine qa_iconst (v := nI 2) hΓ dX1_with_7 ic_2 ?_
  refine qc_S1 hΓ dX1_with_8 lk_X1_9 vw_X1_bit (by omega) (c_X1_bit l (d - 1) x 2 hx (by omega)) rfl rfl (Nat.le_of_ble_eq_true rfl) ?_
  rw [show bitV x 2 = 1 <<< (16 + x) from rfl]
  refine qz_ior hΓ dX1_with_11 ?_
  refine qa_iconst (v := -1) hΓ dX1_with_12 ic_m1 ?_
  refine qa_ixor hΓ dX1_with_13 ?_
  refine qa_iand hΓ dX1_with_14 ?_
  refine qa_istore_n hΓ dX1_with_15 (by decide) ?_
  refine qa_iload_n hΓ dX1_with_16 rfl ?_
  refine qa_iload_n hΓ dX1_with_17 rfl ?_
  refine qa_iload_n hΓ dX1_with_18 rfl ?_
  refine qc_S1 hΓ dX1_with_19 lk_X1_9 vw_X1_bit (by omega) (c_X1_bit l (d - 1) x how hx (by omega)) rfl rfl (Nat.le_of_ble_eq_true rfl) ?_
  refine qa_ior hΓ dX1_with_22 ?_
  exact qr_i hR dX1_with_23 ⟨by rw [wi_int hg hx], rfl⟩

set_option maxRecDepth 100000 in
set_option maxHeartbeats 4000000 in
theorem c_X0_has (l : Launch) (d : Nat) (hd : 1 ≤ d) {n kb : Nat} {w : Nat → AC} {b : Bk} (hB : BkAt n w kb b) (v : Int32) : Sq l yX0_has cX0_has 2 (some .boolean) d [aR kb, aI v] n w (Rs (some (aZ (decide (isR (b 6 0) v)).toNat)) w) := by
  refine Sp.of (plainFor_of_name (by decide)) (Nat.le_of_ble_eq_true rfl) (fun Γ hΓ hR => ?_)
  show Γ 0 [aR kb, aI v] [] (0, 0) n w
  refine qa_iload_n hΓ dX0_has_0 rfl ?_
  refine qa_iconst (v := nI 0) hΓ dX0_has_1 ic_0 ?_
  refine qa_aload_n hΓ dX0_has_2 rfl ?_
  refine qa_get hΓ dX0_has_3 fk_X0_37 hB.lt hB.o rfl ?_
  refine qa_iconst (v := nI 1) hΓ dX0_has_6 ic_1 ?_
  refine qa_isub hΓ dX0_has_7 ?_
  refine qc_N1 hΓ dX0_has_8 nk_X0_65 vw_X5_isWithin (by omega) (c_X5_isWithin l (d - 1) _ _ _) rfl rfl (Nat.le_of_ble_eq_true rfl) ?_
  exact qr_b hR dX0_has_11 ⟨rfl, rfl⟩

set_option maxRecDepth 100000 in
set_option maxHeartbeats 4000000 in
theorem c_X0_branchesOf (l : Launch) (d : Nat) (hd : 1 ≤ d) {n kb : Nat} {w : Nat → AC} {b : Bk} (hB : BkAt n w kb b) (r : Nat) (hr : r < 8) : Sq l yX0_branchesOf cX0_branchesOf 2 (some .int) d [aR kb, aZ r] n w (Rs (some (aZ (b 3 r))) w) := by
  refine Sp.of (plainFor_of_name (by decide)) (Nat.le_of_ble_eq_true rfl) (fun Γ hΓ hR => ?_)
  show Γ 0 [aR kb, aZ r] [] (0, 0) n w
  refine qa_aload_n hΓ dX0_branchesOf_0 rfl ?_
  refine qa_get hΓ dX0_branchesOf_1 fk_X0_21 hB.lt hB.o rfl ?_
  refine qa_iload_n hΓ dX0_branchesOf_4 rfl ?_
  refine qc_N1 hΓ dX0_branchesOf_5 nk_X0_73 vw_X5_at (by omega) (c_X5_at l (d - 1) (hB.lti (i := 4) (by decide)) hB.a3 _ (by omega) (by decide)) rfl rfl (Nat.le_of_ble_eq_true rfl) ?_
  exact qr_i hR dX0_branchesOf_8 ⟨rfl, rfl⟩

set_option maxRecDepth 100000 in
set_option maxHeartbeats 4000000 in
theorem c_X0_branchAt (l : Launch) (d : Nat) (hd : 1 ≤ d) {n kb : Nat} {w : Nat → AC} {b : Bk} (hB : BkAt n w kb b) (r j : Nat) (hr : r < 8) (hj : j < 6) : Sq l yX0_branchAt cX0_branchAt 3 (some .int) d [aR kb, aZ r, aZ j] n w (Rs (some (aZ (b 4 (r * 6 + j)))) w) := by
  refine Sp.of (plainFor_of_name (by decide)) (Nat.le_of_ble_eq_true rfl) (fun Γ hΓ hR => ?_)
  show Γ 0 [aR kb, aZ r, aZ j] [] (0, 0) n w
  refine qa_aload_n hΓ dX0_branchAt_0 rfl ?_
  refine qa_get hΓ dX0_branchAt_1 fk_X0_24 hB.lt hB.o rfl ?_
  refine qa_iload_n hΓ dX0_branchAt_4 rfl ?_
  refine qa_bipush (v := nI 6) hΓ dX0_branchAt_5 bp_6 ?_
  refine qz_imul hΓ dX0_branchAt_7 ?_
  refine qa_iload_n hΓ dX0_branchAt_8 rfl ?_
  refine qz_iadd hΓ dX0_branchAt_9 ?_
  refine qc_N1 hΓ dX0_branchAt_10 nk_X0_73 vw_X5_at (by omega) (c_X5_at l (d - 1) (hB.lti (i := 5) (by decide)) hB.a4 _ (by omega) (by decide)) rfl rfl (Nat.le_of_ble_eq_true rfl) ?_
  exact qr_i hR dX0_branchAt_13 ⟨rfl, rfl⟩

set_option maxRecDepth 100000 in
set_option maxHeartbeats 4000000 in
theorem c_X0_putBranch (l : Launch) (d : Nat) (hd : 1 ≤ d) {n kb : Nat} {w : Nat → AC} {b : Bk} (hB : BkAt n w kb b) (r j x : Nat) (hr : r < 8) (hj : j < 6) : Sq l yX0_putBranch cX0_putBranch 4 none d [aR kb, aZ r, aZ j, aZ x] n w (Qn (PB n kb (bset b 4 (r * 6 + j) x) w)) := by
  refine Sp.of (plainFor_of_name (by decide)) (Nat.le_of_ble_eq_true rfl) (fun Γ hΓ hR => ?_)
  show Γ 0 [aR kb, aZ r, aZ j, aZ x] [] (0, 0) n w
  refine qa_aload_n hΓ dX0_putBranch_0 rfl ?_
  refine qa_get hΓ dX0_putBranch_1 fk_X0_24 hB.lt hB.o rfl ?_
  refine qa_iload_n hΓ dX0_putBranch_4 rfl ?_
  refine qa_bipush (v := nI 6) hΓ dX0_putBranch_5 bp_6 ?_
  refine qz_imul hΓ dX0_putBranch_7 ?_
  refine qa_iload_n hΓ dX0_putBranch_8 rfl ?_
  refine qz_iadd hΓ dX0_putBranch_9 ?_
  refine qa_iload_n hΓ dX0_putBranch_10 rfl ?_
  refine qc_N0q hΓ dX0_putBranch_11 nk_X0_77 vw_X5_put (by omega) (c_X5_putB l (d - 1) hB 4 (r * 6 + j) x (by decide) (by show _ < 48; omega)) rfl rfl (Nat.le_of_ble_eq_true rfl) (fun w hq => ?_)
  obtain ⟨hB, hF⟩ := hq
  exact qr_v hR dX0_putBranch_14 ⟨rfl, hB, hF⟩

set_option maxRecDepth 100000 in
set_option maxHeartbeats 4000000 in
theorem c_X0_faultOf (l : Launch) (d : Nat) (hd : 1 ≤ d) {n kb : Nat} {w : Nat → AC} {b : Bk} (hB : BkAt n w kb b) {s : Nat → Nat} (hR0 : RepC s b) {B : Nat} (hW : Wt s B) (hBd : B < 900000000) (r : Nat) (hr : r < s 1) : Sq l yX0_faultOf cX0_faultOf 2 (some .int) d [aR kb, aZ r] n w (Rs (some (aZ (vv s r 6))) w) := by
  refine Sp.of (plainFor_of_name (by decide)) (Nat.le_of_ble_eq_true rfl) (fun Γ hΓ hR => ?_)
  show Γ 0 [aR kb, aZ r] [] (0, 0) n w
  obtain ⟨e3, e4, e5, e6, e7, e8⟩ := hR0.2.2.1
  have h8 := hW.2.1
  have h6 := hW.c2 hr (x := 6) (by omega)
  have b7 : (b 6 7).testBit r = decide (vv s r 6 = 1) := by rw [e7, mk_bit]; unfold pM; simp [hr]
  have b8 : (b 6 8).testBit r = decide (vv s r 6 = 2) := by rw [e8, mk_bit]; unfold pM; simp [hr]
  refine qa_aload_n hΓ dX0_faultOf_0 rfl ?_
  refine qa_get hΓ dX0_faultOf_1 fk_X0_59 hB.lt hB.o rfl ?_
  refine qa_iload_n hΓ dX0_faultOf_4 rfl ?_
  refine qc_N1 hΓ dX0_faultOf_5 nk_X0_106 vw_X5_isIn (by omega) (c_X5_isIn l (d - 1) _ _ (by have := pm_lt hW e7; omega) (by omega)) rfl rfl (Nat.le_of_ble_eq_true rfl) ?_
  refine qb_if_eq (tgt := 15) hΓ dX0_faultOf_8 (by decide) (fun h_8 => ?_) (fun h_8 => ?_)
  · refine qa_aload_n hΓ dX0_faultOf_15 rfl ?_
    refine qa_get hΓ dX0_faultOf_16 fk_X0_62 hB.lt hB.o rfl ?_
    refine qa_iload_n hΓ dX0_faultOf_19 rfl ?_
    refine qc_N1 hΓ dX0_faultOf_20 nk_X0_106 vw_X5_isIn (by omega) (c_X5_isIn l (d - 1) _ _ (by have := pm_lt hW e8; omega) (by omega)) rfl rfl (Nat.le_of_ble_eq_true rfl) ?_
    refine qb_if_eq (tgt := 30) hΓ dX0_faultOf_23 (by decide) (fun h_23 => ?_) (fun h_23 => ?_)
    · refine qa_iconst (v := nI 0) hΓ dX0_faultOf_30 ic_0 ?_
      exact qr_i hR dX0_faultOf_31 ⟨by rw [show vv s r 6 = 0 from by have := of_decide_eq_false (b7.symm.trans h_8); have := of_decide_eq_false (b8.symm.trans h_23); omega], rfl⟩
    · refine qa_iconst (v := nI 2) hΓ dX0_faultOf_26 ic_2 ?_
      refine qa_goto (tgt := 31) hΓ dX0_faultOf_27 (by decide) ?_
      exact qr_i hR dX0_faultOf_31 ⟨by rw [show vv s r 6 = 2 from of_decide_eq_true (b8.symm.trans h_23)], rfl⟩
  · refine qa_iconst (v := nI 1) hΓ dX0_faultOf_11 ic_1 ?_
    refine qa_goto (tgt := 31) hΓ dX0_faultOf_12 (by decide) ?_
    exact qr_i hR dX0_faultOf_31 ⟨by rw [show vv s r 6 = 1 from of_decide_eq_true (b7.symm.trans h_8)], rfl⟩

set_option maxRecDepth 100000 in
set_option maxHeartbeats 4000000 in
theorem c_X0_kindOf (l : Launch) (d : Nat) (hd : 1 ≤ d) {n kb : Nat} {w : Nat → AC} {b : Bk} (hB : BkAt n w kb b) {s : Nat → Nat} (hR0 : RepC s b) {B : Nat} (hW : Wt s B) (hBd : B < 900000000) (q : Nat) (hr : q / 2 < s 1) : Sq l yX0_kindOf cX0_kindOf 2 (some .int) d [aR kb, aZ q] n w (Rs (some (aZ (if q % 2 = 1 then 2 else 1 - vv s (q / 2) 4))) w) := by
  refine Sp.of (plainFor_of_name (by decide)) (Nat.le_of_ble_eq_true rfl) (fun Γ hΓ hR => ?_)
  show Γ 0 [aR kb, aZ q] [] (0, 0) n w
  obtain ⟨e3, e4, e5, e6, e7, e8⟩ := hR0.2.2.1
  have h8 := hW.2.1
  have hf := pbit hW hr (x := 4) (by omega) e3
  refine qa_iload_n hΓ dX0_kindOf_0 rfl ?_
  refine qc_S1 hΓ dX0_kindOf_1 lk_X0_124 vw_X0_isBounceEnd (by omega) (c_X0_isBounceEnd l (d - 1) _) rfl rfl (Nat.le_of_ble_eq_true rfl) ?_
  refine qb_if_eq (tgt := 9) hΓ dX0_kindOf_4 (by decide) (fun h_4 => ?_) (fun h_4 => ?_)
  · refine qa_aload_n hΓ dX0_kindOf_9 rfl ?_
    refine qa_get hΓ dX0_kindOf_10 fk_X0_47 hB.lt hB.o rfl ?_
    refine qa_iload_n hΓ dX0_kindOf_13 rfl ?_
    refine qc_S1 hΓ dX0_kindOf_14 lk_X0_128 vw_X0_relayOf (by omega) (c_X0_relayOf l (d - 1) q (by omega)) rfl rfl (Nat.le_of_ble_eq_true rfl) ?_
    refine qc_N1 hΓ dX0_kindOf_17 nk_X0_106 vw_X5_isIn (by omega) (c_X5_isIn l (d - 1) _ _ (by have := pm_lt hW e3; omega) (by omega)) rfl rfl (Nat.le_of_ble_eq_true rfl) ?_
    refine qb_if_eq (tgt := 27) hΓ dX0_kindOf_20 (by decide) (fun h_20 => ?_) (fun h_20 => ?_)
    · refine qa_iconst (v := nI 1) hΓ dX0_kindOf_27 ic_1 ?_
      exact qr_i hR dX0_kindOf_28 ⟨by rw [if_neg (of_decide_eq_false h_4), show vv s (q / 2) 4 = 0 from by rw [h_20] at hf; exact hf.symm], rfl⟩
    · refine qa_iconst (v := nI 0) hΓ dX0_kindOf_23 ic_0 ?_
      refine qa_goto (tgt := 28) hΓ dX0_kindOf_24 (by decide) ?_
      exact qr_i hR dX0_kindOf_28 ⟨by rw [if_neg (of_decide_eq_false h_4), show vv s (q / 2) 4 = 1 from by rw [h_20] at hf; exact hf.symm], rfl⟩
  · refine qa_iconst (v := nI 2) hΓ dX0_kindOf_7 ic_2 ?_
    exact qr_i hR dX0_kindOf_8 ⟨by rw [if_pos (of_decide_eq_true h_4)], rfl⟩
end
section
/-! The class: the event that is next -/
def rk (rev : Bool) (e : Nat) : Nat := if rev then (7 - e / 4) * 4 + e % 4 else e
def Ky (s : Nat → Nat) (rev : Bool) (e : Nat) : Nat := tmO s e * 32 + rk rev e
theorem rk_lt {rev : Bool} {e : Nat} (h : e < 32) : rk rev e < 32 := by
  unfold rk
  split <;> omega
theorem ahB_Ky {s : Nat → Nat} {rev : Bool} {a b : Nat} (ha : a < 32) (hb : b < 32) : ahB s a b rev = decide (Ky s rev a < Ky s rev b) := by
  have h1 := rk_lt (rev := rev) ha
  have h2 := rk_lt (rev := rev) hb
  unfold ahB Ky
  by_cases e : tmO s a = tmO s b
  · rw [if_pos e, e]
    unfold rk at h1 h2 ⊢
    cases rev with
    | true =>
      simp only [if_true] at h1 h2 ⊢
      by_cases e4 : a / 4 = b / 4
      · rw [if_pos e4]; exact decide_eq_decide.mpr (by omega)
      · rw [if_neg e4]; exact decide_eq_decide.mpr (by omega)
    | false =>
      simp only [Bool.false_eq_true, if_false] at h1 h2 ⊢
      by_cases e4 : a / 4 = b / 4
      · rw [if_pos e4]; exact decide_eq_decide.mpr (by omega)
      · rw [if_neg e4]; exact decide_eq_decide.mpr (by omega)
  · rw [if_neg e]
    exact decide_eq_decide.mpr (by omega)
theorem Ky_inj {s : Nat → Nat} {rev : Bool} {a b : Nat} (ha : a < 32) (hb : b < 32) (h : Ky s rev a = Ky s rev b) : a = b := by
  have h1 := rk_lt (rev := rev) ha
  have h2 := rk_lt (rev := rev) hb
  unfold Ky at h
  have h3 : rk rev a = rk rev b := by omega
  unfold rk at h3
  cases rev with
  | true => simp only [if_true] at h3; omega
  | false => simpa using h3
def IVQ (s : Nat → Nat) (rev : Bool) (Q : Nat → Prop) (o : Option Nat) (least : Nat) : Prop := (o = none ∧ least = NV ∧ ∀ e, Q e → wtB s e = false) ∨ ∃ e, o = some e ∧ Q e ∧ wtB s e = true ∧ least = tmO s e ∧ least < NV ∧ ∀ e', Q e' → wtB s e' = true → Ky s rev e ≤ Ky s rev e'
theorem IVQ.le {s : Nat → Nat} {rev : Bool} {Q : Nat → Prop} {o : Option Nat} {least : Nat} (h : IVQ s rev Q o least) : least ≤ NV := by
  rcases h with ⟨_, h, _⟩ | ⟨_, _, _, _, _, h, _⟩ <;> omega
theorem IVQ.step {s : Nat → Nat} {rev : Bool} {Q X : Nat → Prop} {o : Option Nat} {least D en : Nat} (h : IVQ s rev Q o least) (hD : (D = NV ∧ ∀ e, X e → wtB s e = false) ∨ (wtB s en = true ∧ X en ∧ D = tmO s en ∧ D < NV ∧ ∀ e, X e → wtB s e = true → e = en)) (hr : ∀ e, Q e → rk rev e < rk rev en) (h32 : rk rev en < 32) : (D < least → IVQ s rev (fun e => Q e ∨ X e) (some en) D) ∧ (¬ D < least → IVQ s rev (fun e => Q e ∨ X e) o least) := by
  have hle := h.le
  constructor
  · intro hlt
    rcases hD with ⟨rfl, _⟩ | ⟨w1, w2, w3, w4, w5⟩
    · exact absurd hlt (by omega)
    · refine Or.inr ⟨en, rfl, Or.inr w2, w1, w3, w4, fun e' hq hw => ?_⟩
      rcases hq with hq | hq
      · rcases h with ⟨_, _, q⟩ | ⟨e, _, q2, q3, q4, _, q5⟩
        · rw [q e' hq] at hw
          cases hw
        · refine Nat.le_trans ?_ (q5 e' hq hw)
          unfold Ky
          omega
      · rw [w5 e' hq hw]
        exact Nat.le_refl _
  · intro hge
    rcases h with ⟨q1, q2, q3⟩ | ⟨e, q1, q2, q3, q4, q6, q5⟩
    · rcases hD with ⟨_, w⟩ | ⟨_, _, _, w4, _⟩
      · refine Or.inl ⟨q1, q2, fun e hq => ?_⟩
        rcases hq with hq | hq
        · exact q3 e hq
        · exact w e hq
      · exact absurd w4 (by omega)
    · refine Or.inr ⟨e, q1, Or.inl q2, q3, q4, q6, fun e' hq hw => ?_⟩
      rcases hq with hq | hq
      · exact q5 e' hq hw
      · rcases hD with ⟨_, w⟩ | ⟨_, _, w3, _, w5⟩
        · rw [w e' hq] at hw
          cases hw
        · rw [w5 e' hq hw]
          have := hr e q2
          unfold Ky
          omega
theorem IVQ.congr {s : Nat → Nat} {rev : Bool} {Q Q' : Nat → Prop} {o : Option Nat} {least : Nat} (h : IVQ s rev Q o least) (e : ∀ x, Q x ↔ Q' x) : IVQ s rev Q' o least := by
  rw [show Q' = Q from funext (fun x => propext (e x).symm)]
  exact h
theorem nxt_best {s : Nat → Nat} {rev : Bool} : ∀ m, m ≤ 32 → (nxt s rev m = none ∧ ∀ e, e < m → wtB s e = false) ∨ ∃ e, nxt s rev m = some e ∧ e < m ∧ wtB s e = true ∧ ∀ e', e' < m → wtB s e' = true → Ky s rev e ≤ Ky s rev e'
  | 0, _ => Or.inl ⟨rfl, fun e h => absurd h (Nat.not_lt_zero _)⟩
  | m + 1, hm => by
    unfold nxt
    rcases nxt_best (s := s) (rev := rev) m (by omega) with ⟨h1, h2⟩ | ⟨e, h1, h2, h3, h4⟩
    · rw [h1]
      cases hw : wtB s m with
      | false =>
        refine Or.inl ⟨rfl, fun e he => ?_⟩
        rcases (show e < m ∨ e = m by omega) with u | rfl
        · exact h2 e u
        · exact hw
      | true =>
        refine Or.inr ⟨m, rfl, by omega, hw, fun e' he hw' => ?_⟩
        rcases (show e' < m ∨ e' = m by omega) with u | rfl
        · rw [h2 e' u] at hw'
          cases hw'
        · exact Nat.le_refl _
    · rw [h1]
      have ha : ahO s m rev (some e) = decide (Ky s rev m < Ky s rev e) := ahB_Ky (by omega) (by omega)
      rw [ha]
      by_cases hc : wtB s m = true ∧ Ky s rev m < Ky s rev e
      · rw [hc.1, decide_eq_true hc.2]
        refine Or.inr ⟨m, rfl, by omega, hc.1, fun e' he hw' => ?_⟩
        rcases (show e' < m ∨ e' = m by omega) with u | rfl
        · have := h4 e' u hw'
          omega
        · exact Nat.le_refl _
      · have hf : (wtB s m && decide (Ky s rev m < Ky s rev e)) = false := by
          rw [Bool.eq_false_iff]
          intro q
          rw [Bool.and_eq_true, decide_eq_true_eq] at q
          exact hc q
        rw [hf]
        refine Or.inr ⟨e, rfl, by omega, h3, fun e' he hw' => ?_⟩
        rcases (show e' < m ∨ e' = m by omega) with u | rfl
        · exact h4 e' u hw'
        · exact Nat.le_of_not_lt (fun q => hc ⟨hw', q⟩)
theorem IVQ.nx {s : Nat → Nat} {rev : Bool} {o : Option Nat} {least : Nat} (h8 : s 1 ≤ 8) (h : IVQ s rev (fun e => e < 4 * s 1) o least) : o = nx s rev := by
  unfold Jvm.Pilot.@@N@@.nx
  rcases nxt_best (s := s) (rev := rev) (4 * s 1) (by omega) with ⟨h1, h2⟩ | ⟨e, h1, h2, h3, h4⟩
  · rcases h with ⟨q, _, _⟩ | ⟨e', _, q2, q3, _⟩
    · rw [q, h1]
    · rw [h2 e' q2] at q3
      cases q3
  · rcases h with ⟨_, _, q⟩ | ⟨e', q1, q2, q3, _, _, q5⟩
    · rw [q e h2] at h3
      cases h3
    · rw [q1, h1, Ky_inj (s := s) (rev := rev) (by omega) (by omega) (Nat.le_antisymm (q5 e h2 h3) (h4 e' q2 q3))]
def slE (e : Nat) : Nat := 2 * (e / 4) + (if e % 4 = 2 then 1 else 0)
def nIs : Option Nat → Int32
  | none => -1
  | some e => nI (slE e)
/-- what the two slots of a relay say of its events -/
theorem slA {s : Nat → Nat} {B r : Nat} (hW : Wt s B) (hB : B < 900000000) (hr : r < s 1) : (duA s r = NV ∧ ∀ e, (e / 4 = r ∧ e % 4 ≠ 2) → wtB s e = false) ∨ (wtB s (4 * r + (vv s r 8 - 1)) = true ∧ ((4 * r + (vv s r 8 - 1)) / 4 = r ∧ (4 * r + (vv s r 8 - 1)) % 4 ≠ 2) ∧ duA s r = tmO s (4 * r + (vv s r 8 - 1)) ∧ duA s r < NV ∧ ∀ e, (e / 4 = r ∧ e % 4 ≠ 2) → wtB s e = true → e = 4 * r + (vv s r 8 - 1)) := by
  have h2 := hW.c2 hr (x := 8) (by omega)
  have h9 := hW.b hr (x := 9) (by decide)
  have hNV : NV = 2147483647 := rfl
  by_cases h0 : vv s r 8 = 0
  · refine Or.inl ⟨by unfold duA; rw [if_pos h0], fun e he => ?_⟩
    unfold wtB
    rw [if_neg he.2, he.1, h0]
    simp
  · have e4 : (4 * r + (vv s r 8 - 1)) / 4 = r := by omega
    have em : (4 * r + (vv s r 8 - 1)) % 4 = vv s r 8 - 1 := by omega
    refine Or.inr ⟨?_, ⟨e4, by omega⟩, ?_, ?_, fun e he hw => ?_⟩
    · unfold wtB
      rw [em, if_neg (by omega), e4]
      rw [decide_eq_true (by omega), decide_eq_true (by omega)]
      rfl
    · unfold duA tmO
      rw [if_neg h0, em, if_neg (by omega), e4]
    · unfold duA
      rw [if_neg h0]
      omega
    · unfold wtB at hw
      rw [if_neg he.2, he.1, Bool.and_eq_true, decide_eq_true_eq, decide_eq_true_eq] at hw
      omega
theorem slB {s : Nat → Nat} {B r : Nat} (hW : Wt s B) (hB : B < 900000000) (hr : r < s 1) : (duE s r = NV ∧ ∀ e, (e / 4 = r ∧ e % 4 = 2) → wtB s e = false) ∨ (wtB s (4 * r + 2) = true ∧ ((4 * r + 2) / 4 = r ∧ (4 * r + 2) % 4 = 2) ∧ duE s r = tmO s (4 * r + 2) ∧ duE s r < NV ∧ ∀ e, (e / 4 = r ∧ e % 4 = 2) → wtB s e = true → e = 4 * r + 2) := by
  have h2 := hW.c1 hr (x := 10) (by omega)
  have h9 := hW.b hr (x := 11) (by decide)
  have hNV : NV = 2147483647 := rfl
  have e4 : (4 * r + 2) / 4 = r := by omega
  have em : (4 * r + 2) % 4 = 2 := by omega
  by_cases h0 : vv s r 10 = 0
  · refine Or.inl ⟨by unfold duE; rw [if_pos h0], fun e he => ?_⟩
    unfold wtB
    rw [if_pos he.2, he.1, h0]
    rfl
  · refine Or.inr ⟨?_, ⟨e4, em⟩, ?_, ?_, fun e he hw => by omega⟩
    · unfold wtB
      rw [if_pos em, e4]
      exact decide_eq_true (by omega)
    · unfold duE tmO
      rw [if_neg h0, if_pos em, e4]
    · unfold duE
      rw [if_neg h0]
      omega
def Qp (n : Nat) (rev : Bool) (p e : Nat) : Prop := e < 4 * n ∧ (if rev then n - p ≤ e / 4 else e / 4 < p)

theorem IVQ.step2 {s : Nat → Nat} {rev : Bool} {Q X : Nat → Prop} {o : Option Nat} {least D en : Nat} (h : IVQ s rev Q o least) (hD : (D = NV ∧ ∀ e, X e → wtB s e = false) ∨ (wtB s en = true ∧ X en ∧ D = tmO s en ∧ D < NV ∧ ∀ e, X e → wtB s e = true → e = en)) (hr : ∀ e, Q e → wtB s e = true → rk rev e < rk rev en) (h32 : rk rev en < 32) : (D < least → IVQ s rev (fun e => Q e ∨ X e) (some en) D) ∧ (¬ D < least → IVQ s rev (fun e => Q e ∨ X e) o least) := by
  have hle := h.le
  constructor
  · intro hlt
    rcases hD with ⟨rfl, _⟩ | ⟨w1, w2, w3, w4, w5⟩
    · exact absurd hlt (by omega)
    · refine Or.inr ⟨en, rfl, Or.inr w2, w1, w3, w4, fun e' hq hw => ?_⟩
      rcases hq with hq | hq
      · rcases h with ⟨_, _, q⟩ | ⟨e, _, q2, q3, q4, _, q5⟩
        · rw [q e' hq] at hw
          cases hw
        · refine Nat.le_trans ?_ (q5 e' hq hw)
          unfold Ky
          omega
      · rw [w5 e' hq hw]
        exact Nat.le_refl _
  · intro hge
    rcases h with ⟨q1, q2, q3⟩ | ⟨e, q1, q2, q3, q4, q6, q5⟩
    · rcases hD with ⟨_, w⟩ | ⟨_, _, _, w4, _⟩
      · refine Or.inl ⟨q1, q2, fun e hq => ?_⟩
        rcases hq with hq | hq
        · exact q3 e hq
        · exact w e hq
      · exact absurd w4 (by omega)
    · refine Or.inr ⟨e, q1, Or.inl q2, q3, q4, q6, fun e' hq hw => ?_⟩
      rcases hq with hq | hq
      · exact q5 e' hq hw
      · rcases hD with ⟨_, w⟩ | ⟨_, _, w3, _, w5⟩
        · rw [w e' hq] at hw
          cases hw
        · rw [w5 e' hq hw]
          have := hr e q2 q3
          unfold Ky
          omega
set_option maxRecDepth 100000 in
set_option maxHeartbeats 4000000 in
theorem c_X0_nextSlot (l : Launch) (d : Nat) (hd : 1 ≤ d) {n kb : Nat} {w : Nat → AC} {b : Bk} (hB : BkAt n w kb b) {s : Nat → Nat} (hR0 : RepC s b) {B : Nat} (hW : Wt s B) (hBd : B < 900000000) (rev : Bool) : Sq l yX0_nextSlot cX0_nextSlot 8 (some .int) d [aR kb, aZ rev.toNat] n w (Rs (some (aI (nIs (nx s rev)))) w) := by
  refine Sp.of (plainFor_of_name (by decide)) (Nat.le_of_ble_eq_true rfl) (fun Γ hΓ hR => ?_)
  show Γ 0 [aR kb, aZ rev.toNat, none, none, none, none, none, none] [] (0, 0) n w
  have h8 := hW.2.1
  have e60 : b 6 0 = s 1 := hR0.1.1
  refine qa_iconst (v := -1) hΓ dX0_nextSlot_0 ic_m1 ?_
  refine qa_istore_n hΓ dX0_nextSlot_1 (by decide) ?_
  refine qa_ldc (v := nI 2147483647) hΓ dX0_nextSlot_2 ck_X0_30 ?_
  refine qa_istore_n hΓ dX0_nextSlot_4 (by decide) ?_
  refine qa_iconst (v := nI 0) hΓ dX0_nextSlot_5 ic_0 ?_
  refine qa_istore hΓ dX0_nextSlot_6 (by decide) ?_
  have loop : ∀ (m p : Nat) (ov : Option Nat) (vn : Int32) (least : Nat) (v5 v6 v7 : AV), vn = nIs ov → p ≤ s 1 → s 1 < p + m → IVQ s rev (Qp (s 1) rev p) ov least → Γ 8 [aR kb, aZ rev.toNat, aI vn, aZ least, aZ p, v5, v6, v7] [] (0, 0) n w := by
    intro m
    induction m with
    | zero => intro p ov vn least v5 v6 v7 h0 h1 h2; exact absurd h2 (by omega)
    | succ m ih =>
      intro p ov vn least v5 v6 v7 hvn hp hm hI
      have hle := hI.le
      have hNV : NV = 2147483647 := rfl
      refine qa_iload hΓ dX0_nextSlot_8 rfl ?_
      refine qa_aload_n hΓ dX0_nextSlot_10 rfl ?_
      refine qa_get hΓ dX0_nextSlot_11 fk_X0_37 hB.lt hB.o rfl ?_
      rw [e60]
      refine qz_icmp_ge (tgt := 95) hΓ dX0_nextSlot_14 (by decide) (by omega) (by omega) (fun h_14 => ?_) (fun h_14 => ?_)
      · refine qa_iload_n hΓ dX0_nextSlot_95 rfl ?_
        exact qr_i hR dX0_nextSlot_96 ⟨by rw [hvn, hI.congr (Q' := fun e => e < 4 * s 1) (fun e => by unfold Qp; rw [show p = s 1 by omega]; cases rev <;> simp <;> omega) |>.nx h8], rfl⟩
      · refine qa_iconst (v := nI 2) hΓ dX0_nextSlot_17 ic_2 ?_
        refine qa_iload_n hΓ dX0_nextSlot_18 rfl ?_
        refine qb_if_eq (tgt := 34) hΓ dX0_nextSlot_19 (by decide) (fun h_19 => ?_) (fun h_19 => ?_)
        · refine qa_iload hΓ dX0_nextSlot_34 rfl ?_
          refine qz_imul hΓ dX0_nextSlot_36 ?_
          obtain ⟨r, hrr⟩ : ∃ r, r = p := ⟨_, rfl⟩
          rw [show 2 * p = 2 * r from by rw [hrr]]
          have hr : r < s 1 := by omega
          have hQr : ∀ e, Qp (s 1) rev p e → rk rev e < 4 * (if rev then 7 - r else r) := fun e he => by
            obtain ⟨q1, q2⟩ := he
            unfold rk
            rw [h_19] at q2 ⊢
            simp only [if_true, Bool.false_eq_true, if_false] at q2 ⊢
            omega
          have hrk : ∀ j, j < 4 → rk rev (4 * r + j) = 4 * (if rev then 7 - r else r) + j := fun j hj => by
            unfold rk
            rw [h_19]
            simp only [if_true, Bool.false_eq_true, if_false] <;> omega
          have hr4 : (if rev then 7 - r else r) < 8 := by split <;> omega
          have hQn : ∀ e, ((Qp (s 1) rev p e ∨ (e / 4 = r ∧ e % 4 ≠ 2)) ∨ (e / 4 = r ∧ e % 4 = 2)) ↔ Qp (s 1) rev (p + 1) e := fun e => by
            unfold Qp
            rw [h_19]
            simp only [if_true, Bool.false_eq_true, if_false]
            omega
          have w2 := hW.c2 hr (x := 8) (by omega)
          have hA := hI.step (slA hW hBd hr) (fun e he => by have := hQr e he; rw [hrk _ (by omega)]; omega) (rk_lt (by omega))
          have hdA : duA s r ≤ NV := by rcases slA hW hBd hr with ⟨q, _⟩ | ⟨_, _, _, q, _⟩ <;> omega
          have hdE : duE s r ≤ NV := by rcases slB hW hBd hr with ⟨q, _⟩ | ⟨_, _, _, q, _⟩ <;> omega
          have hQ2 : ∀ e, (Qp (s 1) rev p e ∨ (e / 4 = r ∧ e % 4 ≠ 2)) → wtB s e = true → rk rev e < rk rev (4 * r + 2) := fun e he hw => by
            rw [hrk 2 (by decide)]
            rcases he with he | he
            · have := hQr e he; omega
            · rcases slA hW hBd hr with ⟨_, q⟩ | ⟨_, _, _, _, q⟩
              · rw [q e he] at hw; cases hw
              · rw [q e he hw, hrk _ (by omega)]; omega
          refine qa_istore hΓ dX0_nextSlot_37 (by decide) ?_
          refine qa_aload_n hΓ dX0_nextSlot_39 rfl ?_
          refine qa_get hΓ dX0_nextSlot_40 fk_X0_27 hB.lt hB.o rfl ?_
          refine qa_iload hΓ dX0_nextSlot_43 rfl ?_
          refine qc_N1 hΓ dX0_nextSlot_45 nk_X0_73 vw_X5_at (by omega) (c_X5_at l (d - 1) (hB.lti (i := 6) (by decide)) hB.a5 _ (by omega) (by decide)) rfl rfl (Nat.le_of_ble_eq_true rfl) ?_
          rw [(hR0.2.2.2.1 r hr).1]
          refine qa_istore hΓ dX0_nextSlot_48 (by decide) ?_
          refine qa_aload_n hΓ dX0_nextSlot_50 rfl ?_
          refine qa_get hΓ dX0_nextSlot_51 fk_X0_27 hB.lt hB.o rfl ?_
          refine qa_iload hΓ dX0_nextSlot_54 rfl ?_
          refine qa_iconst (v := nI 1) hΓ dX0_nextSlot_56 ic_1 ?_
          refine qz_iadd hΓ dX0_nextSlot_57 ?_
          refine qc_N1 hΓ dX0_nextSlot_58 nk_X0_73 vw_X5_at (by omega) (c_X5_at l (d - 1) (hB.lti (i := 6) (by decide)) hB.a5 _ (by omega) (by decide)) rfl rfl (Nat.le_of_ble_eq_true rfl) ?_
          rw [(hR0.2.2.2.1 r hr).2]
          refine qa_istore hΓ dX0_nextSlot_61 (by decide) ?_
          refine qa_iload hΓ dX0_nextSlot_63 rfl ?_
          refine qa_iload_n hΓ dX0_nextSlot_65 rfl ?_
          refine qz_icmp_ge (tgt := 75) hΓ dX0_nextSlot_66 (by decide) (by omega) (by omega) (fun h_66 => ?_) (fun h_66 => ?_)
          · have hA1 := hA.2 (by omega)
            have hE := hA1.step2 (slB hW hBd hr) hQ2 (rk_lt (by omega))
            have hle2 := hA1.le
            refine qa_iload hΓ dX0_nextSlot_75 rfl ?_
            refine qa_iload_n hΓ dX0_nextSlot_77 rfl ?_
            refine qz_icmp_ge (tgt := 89) hΓ dX0_nextSlot_78 (by decide) (by omega) (by omega) (fun h_78 => ?_) (fun h_78 => ?_)
            · have hE1 := hE.2 (by omega)
              refine qz_iinc hΓ dX0_nextSlot_89 ii_1 rfl (by decide) ?_
              refine qa_goto (tgt := 8) hΓ dX0_nextSlot_92 (by decide) ?_
              refine ih (p + 1) (ov) _ _ _ _ _ hvn (by omega) (by omega) (hE1.congr hQn)
            · have hE1 := hE.1 (by omega)
              refine qa_iload hΓ dX0_nextSlot_81 rfl ?_
              refine qa_iconst (v := nI 1) hΓ dX0_nextSlot_83 ic_1 ?_
              refine qz_iadd hΓ dX0_nextSlot_84 ?_
              refine qa_istore_n hΓ dX0_nextSlot_85 (by decide) ?_
              refine qa_iload hΓ dX0_nextSlot_86 rfl ?_
              refine qa_istore_n hΓ dX0_nextSlot_88 (by decide) ?_
              refine qz_iinc hΓ dX0_nextSlot_89 ii_1 rfl (by decide) ?_
              refine qa_goto (tgt := 8) hΓ dX0_nextSlot_92 (by decide) ?_
              refine ih (p + 1) (some (4 * r + 2)) _ _ _ _ _ (by show _ = nI (slE _); unfold slE; rw [if_pos (by omega)]; congr 1; omega) (by omega) (by omega) (hE1.congr hQn)
          · have hA1 := hA.1 (by omega)
            have hE := hA1.step2 (slB hW hBd hr) hQ2 (rk_lt (by omega))
            have hle2 := hA1.le
            refine qa_iload hΓ dX0_nextSlot_69 rfl ?_
            refine qa_istore_n hΓ dX0_nextSlot_71 (by decide) ?_
            refine qa_iload hΓ dX0_nextSlot_72 rfl ?_
            refine qa_istore_n hΓ dX0_nextSlot_74 (by decide) ?_
            refine qa_iload hΓ dX0_nextSlot_75 rfl ?_
            refine qa_iload_n hΓ dX0_nextSlot_77 rfl ?_
            refine qz_icmp_ge (tgt := 89) hΓ dX0_nextSlot_78 (by decide) (by omega) (by omega) (fun h_78 => ?_) (fun h_78 => ?_)
            · have hE1 := hE.2 (by omega)
              refine qz_iinc hΓ dX0_nextSlot_89 ii_1 rfl (by decide) ?_
              refine qa_goto (tgt := 8) hΓ dX0_nextSlot_92 (by decide) ?_
              refine ih (p + 1) (some (4 * r + (vv s r 8 - 1))) _ _ _ _ _ (by show _ = nI (slE _); unfold slE; rw [if_neg (by omega)]; congr 1; omega) (by omega) (by omega) (hE1.congr hQn)
            · have hE1 := hE.1 (by omega)
              refine qa_iload hΓ dX0_nextSlot_81 rfl ?_
              refine qa_iconst (v := nI 1) hΓ dX0_nextSlot_83 ic_1 ?_
              refine qz_iadd hΓ dX0_nextSlot_84 ?_
              refine qa_istore_n hΓ dX0_nextSlot_85 (by decide) ?_
              refine qa_iload hΓ dX0_nextSlot_86 rfl ?_
              refine qa_istore_n hΓ dX0_nextSlot_88 (by decide) ?_
              refine qz_iinc hΓ dX0_nextSlot_89 ii_1 rfl (by decide) ?_
              refine qa_goto (tgt := 8) hΓ dX0_nextSlot_92 (by decide) ?_
              refine ih (p + 1) (some (4 * r + 2)) _ _ _ _ _ (by show _ = nI (slE _); unfold slE; rw [if_pos (by omega)]; congr 1; omega) (by omega) (by omega) (hE1.congr hQn)
        · refine qa_aload_n hΓ dX0_nextSlot_22 rfl ?_
          refine qa_get hΓ dX0_nextSlot_23 fk_X0_37 hB.lt hB.o rfl ?_
          rw [e60]
          refine qa_iconst (v := nI 1) hΓ dX0_nextSlot_26 ic_1 ?_
          refine qz_isub hΓ dX0_nextSlot_27 (by omega) ?_
          refine qa_iload hΓ dX0_nextSlot_28 rfl ?_
          refine qz_isub hΓ dX0_nextSlot_30 (by omega) ?_
          refine qa_goto (tgt := 36) hΓ dX0_nextSlot_31 (by decide) ?_
          refine qz_imul hΓ dX0_nextSlot_36 ?_
          obtain ⟨r, hrr⟩ : ∃ r, r = s 1 - 1 - p := ⟨_, rfl⟩
          rw [← hrr]
          have hr : r < s 1 := by omega
          have hQr : ∀ e, Qp (s 1) rev p e → rk rev e < 4 * (if rev then 7 - r else r) := fun e he => by
            obtain ⟨q1, q2⟩ := he
            unfold rk
            rw [h_19] at q2 ⊢
            simp only [if_true, Bool.false_eq_true, if_false] at q2 ⊢
            omega
          have hrk : ∀ j, j < 4 → rk rev (4 * r + j) = 4 * (if rev then 7 - r else r) + j := fun j hj => by
            unfold rk
            rw [h_19]
            simp only [if_true, Bool.false_eq_true, if_false] <;> omega
          have hr4 : (if rev then 7 - r else r) < 8 := by split <;> omega
          have hQn : ∀ e, ((Qp (s 1) rev p e ∨ (e / 4 = r ∧ e % 4 ≠ 2)) ∨ (e / 4 = r ∧ e % 4 = 2)) ↔ Qp (s 1) rev (p + 1) e := fun e => by
            unfold Qp
            rw [h_19]
            simp only [if_true, Bool.false_eq_true, if_false]
            omega
          have w2 := hW.c2 hr (x := 8) (by omega)
          have hA := hI.step (slA hW hBd hr) (fun e he => by have := hQr e he; rw [hrk _ (by omega)]; omega) (rk_lt (by omega))
          have hdA : duA s r ≤ NV := by rcases slA hW hBd hr with ⟨q, _⟩ | ⟨_, _, _, q, _⟩ <;> omega
          have hdE : duE s r ≤ NV := by rcases slB hW hBd hr with ⟨q, _⟩ | ⟨_, _, _, q, _⟩ <;> omega
          have hQ2 : ∀ e, (Qp (s 1) rev p e ∨ (e / 4 = r ∧ e % 4 ≠ 2)) → wtB s e = true → rk rev e < rk rev (4 * r + 2) := fun e he hw => by
            rw [hrk 2 (by decide)]
            rcases he with he | he
            · have := hQr e he; omega
            · rcases slA hW hBd hr with ⟨_, q⟩ | ⟨_, _, _, _, q⟩
              · rw [q e he] at hw; cases hw
              · rw [q e he hw, hrk _ (by omega)]; omega
          refine qa_istore hΓ dX0_nextSlot_37 (by decide) ?_
          refine qa_aload_n hΓ dX0_nextSlot_39 rfl ?_
          refine qa_get hΓ dX0_nextSlot_40 fk_X0_27 hB.lt hB.o rfl ?_
          refine qa_iload hΓ dX0_nextSlot_43 rfl ?_
          refine qc_N1 hΓ dX0_nextSlot_45 nk_X0_73 vw_X5_at (by omega) (c_X5_at l (d - 1) (hB.lti (i := 6) (by decide)) hB.a5 _ (by omega) (by decide)) rfl rfl (Nat.le_of_ble_eq_true rfl) ?_
          rw [(hR0.2.2.2.1 r hr).1]
          refine qa_istore hΓ dX0_nextSlot_48 (by decide) ?_
          refine qa_aload_n hΓ dX0_nextSlot_50 rfl ?_
          refine qa_get hΓ dX0_nextSlot_51 fk_X0_27 hB.lt hB.o rfl ?_
          refine qa_iload hΓ dX0_nextSlot_54 rfl ?_
          refine qa_iconst (v := nI 1) hΓ dX0_nextSlot_56 ic_1 ?_
          refine qz_iadd hΓ dX0_nextSlot_57 ?_
          refine qc_N1 hΓ dX0_nextSlot_58 nk_X0_73 vw_X5_at (by omega) (c_X5_at l (d - 1) (hB.lti (i := 6) (by decide)) hB.a5 _ (by omega) (by decide)) rfl rfl (Nat.le_of_ble_eq_true rfl) ?_
          rw [(hR0.2.2.2.1 r hr).2]
          refine qa_istore hΓ dX0_nextSlot_61 (by decide) ?_
          refine qa_iload hΓ dX0_nextSlot_63 rfl ?_
          refine qa_iload_n hΓ dX0_nextSlot_65 rfl ?_
          refine qz_icmp_ge (tgt := 75) hΓ dX0_nextSlot_66 (by decide) (by omega) (by omega) (fun h_66 => ?_) (fun h_66 => ?_)
          · have hA1 := hA.2 (by omega)
            have hE := hA1.step2 (slB hW hBd hr) hQ2 (rk_lt (by omega))
            have hle2 := hA1.le
            refine qa_iload hΓ dX0_nextSlot_75 rfl ?_
            refine qa_iload_n hΓ dX0_nextSlot_77 rfl ?_
            refine qz_icmp_ge (tgt := 89) hΓ dX0_nextSlot_78 (by decide) (by omega) (by omega) (fun h_78 => ?_) (fun h_78 => ?_)
            · have hE1 := hE.2 (by omega)
              refine qz_iinc hΓ dX0_nextSlot_89 ii_1 rfl (by decide) ?_
              refine qa_goto (tgt := 8) hΓ dX0_nextSlot_92 (by decide) ?_
              refine ih (p + 1) (ov) _ _ _ _ _ hvn (by omega) (by omega) (hE1.congr hQn)
            · have hE1 := hE.1 (by omega)
              refine qa_iload hΓ dX0_nextSlot_81 rfl ?_
              refine qa_iconst (v := nI 1) hΓ dX0_nextSlot_83 ic_1 ?_
              refine qz_iadd hΓ dX0_nextSlot_84 ?_
              refine qa_istore_n hΓ dX0_nextSlot_85 (by decide) ?_
              refine qa_iload hΓ dX0_nextSlot_86 rfl ?_
              refine qa_istore_n hΓ dX0_nextSlot_88 (by decide) ?_
              refine qz_iinc hΓ dX0_nextSlot_89 ii_1 rfl (by decide) ?_
              refine qa_goto (tgt := 8) hΓ dX0_nextSlot_92 (by decide) ?_
              refine ih (p + 1) (some (4 * r + 2)) _ _ _ _ _ (by show _ = nI (slE _); unfold slE; rw [if_pos (by omega)]; congr 1; omega) (by omega) (by omega) (hE1.congr hQn)
          · have hA1 := hA.1 (by omega)
            have hE := hA1.step2 (slB hW hBd hr) hQ2 (rk_lt (by omega))
            have hle2 := hA1.le
            refine qa_iload hΓ dX0_nextSlot_69 rfl ?_
            refine qa_istore_n hΓ dX0_nextSlot_71 (by decide) ?_
            refine qa_iload hΓ dX0_nextSlot_72 rfl ?_
            refine qa_istore_n hΓ dX0_nextSlot_74 (by decide) ?_
            refine qa_iload hΓ dX0_nextSlot_75 rfl ?_
            refine qa_iload_n hΓ dX0_nextSlot_77 rfl ?_
            refine qz_icmp_ge (tgt := 89) hΓ dX0_nextSlot_78 (by decide) (by omega) (by omega) (fun h_78 => ?_) (fun h_78 => ?_)
            · have hE1 := hE.2 (by omega)
              refine qz_iinc hΓ dX0_nextSlot_89 ii_1 rfl (by decide) ?_
              refine qa_goto (tgt := 8) hΓ dX0_nextSlot_92 (by decide) ?_
              refine ih (p + 1) (some (4 * r + (vv s r 8 - 1))) _ _ _ _ _ (by show _ = nI (slE _); unfold slE; rw [if_neg (by omega)]; congr 1; omega) (by omega) (by omega) (hE1.congr hQn)
            · have hE1 := hE.1 (by omega)
              refine qa_iload hΓ dX0_nextSlot_81 rfl ?_
              refine qa_iconst (v := nI 1) hΓ dX0_nextSlot_83 ic_1 ?_
              refine qz_iadd hΓ dX0_nextSlot_84 ?_
              refine qa_istore_n hΓ dX0_nextSlot_85 (by decide) ?_
              refine qa_iload hΓ dX0_nextSlot_86 rfl ?_
              refine qa_istore_n hΓ dX0_nextSlot_88 (by decide) ?_
              refine qz_iinc hΓ dX0_nextSlot_89 ii_1 rfl (by decide) ?_
              refine qa_goto (tgt := 8) hΓ dX0_nextSlot_92 (by decide) ?_
              refine ih (p + 1) (some (4 * r + 2)) _ _ _ _ _ (by show _ = nI (slE _); unfold slE; rw [if_pos (by omega)]; congr 1; omega) (by omega) (by omega) (hE1.congr hQn)
  refine loop (s 1 + 1) 0 none (-1) NV none none none rfl (Nat.zero_le _) (by omega) (Or.inl ⟨rfl, rfl, fun e he => ?_⟩)
  unfold Qp at he
  cases rev with
  | true => simp only [if_true] at he; omega
  | false => simp only [Bool.false_eq_true, if_false] at he; omega
end
section
/-! The class: events that happen -/
theorem RepC.upd {s s' : Nat → Nat} {b b' : Bk} (h : RepC s b) (h0 : s' 0 = s 0) (h1 : s' 1 = s 1) (hc : ∀ q x, x < 25 → (x = 0 ∨ x = 1 ∨ x = 2 ∨ x = 4 ∨ x = 6 ∨ x = 7 ∨ 12 ≤ x) → vv s' q x = vv s q x) (h6 : ∀ q, q < s 1 → vv s q 12 ≤ 6) (ht : b' 6 1 = s' 2) (hb6 : ∀ j, j = 0 ∨ j = 2 ∨ j = 3 ∨ j = 6 ∨ j = 7 ∨ j = 8 → b' 6 j = b 6 j) (hi : ∀ i, i < 5 → b' i = b i) (hA : b' 6 4 = mk (pM s' 3 1) (s 1)) (hBo : b' 6 5 = mk (pM s' 5 1) (s 1)) (hd : ∀ q, q < s 1 → b' 5 (2 * q) = duA s' q ∧ b' 5 (2 * q + 1) = duE s' q) (hz : ∀ q, s 1 ≤ q → b' 5 (2 * q) = b 5 (2 * q) ∧ b' 5 (2 * q + 1) = b 5 (2 * q + 1)) : RepC s' b' := by
  obtain ⟨⟨g1, g2, g3⟩, g4, ⟨e3, e4, e5, e6, e7, e8⟩, gd, gz⟩ := h
  have pe : ∀ x v, x = 4 ∨ x = 6 ∨ x = 7 → pM s' x v = pM s x v := fun x v hx => by
    funext q
    unfold pM
    rw [hc q x (by omega) (by omega)]
  refine ⟨⟨?_, ht, ?_⟩, fun q hq => ?_, ⟨?_, ?_, ?_, ?_, ?_, ?_⟩, fun q hq => ?_, fun q hq1 hq2 => ?_⟩
  · rw [hb6 0 (by omega), h1]; exact g1
  · rw [hb6 2 (by omega), h0]; exact g3
  · rw [h1] at hq
    obtain ⟨k1, k2, k3, k4, k5⟩ := g4 q hq
    have := h6 q hq
    refine ⟨?_, ?_, ?_, ?_, fun j hj => ?_⟩
    · rw [hi 0 (by omega), hc q 0 (by omega) (by omega)]; exact k1
    · rw [hi 1 (by omega), hc q 1 (by omega) (by omega)]; exact k2
    · rw [hi 2 (by omega), hc q 2 (by omega) (by omega)]; exact k3
    · rw [hi 3 (by omega), hc q 12 (by omega) (by omega)]; exact k4
    · rw [hc q 12 (by omega) (by omega)] at hj
      rw [hi 4 (by omega), hc q _ (by omega) (by omega), hc q _ (by omega) (by omega)]
      exact k5 j hj
  · rw [hb6 3 (by omega), h1, pe 4 1 (by omega)]; exact e3
  · rw [h1]; exact hA
  · rw [h1]; exact hBo
  · rw [hb6 6 (by omega), h1, pe 7 1 (by omega)]; exact e6
  · rw [hb6 7 (by omega), h1, pe 6 1 (by omega)]; exact e7
  · rw [hb6 8 (by omega), h1, pe 6 2 (by omega)]; exact e8
  · rw [h1] at hq
    exact hd q hq
  · rw [h1] at hq1
    obtain ⟨z1, z2⟩ := hz q hq1
    rw [hi 3 (by omega), z1, z2]
    exact gz q hq1 hq2
def tkB1 (b : Bk) (t q : Nat) : Bk := bset (bset b 6 1 t) 5 q NV
def mvB (b : Bk) (r : Nat) : Bk := if 0 < b 2 r then bset (bset (bset b 6 4 (b 6 4 ^^^ 1 <<< r)) 6 5 (b 6 5 ||| 1 <<< r)) 5 (2 * r + 1) (b 6 1 + b 2 r) else bset b 6 4 (b 6 4 ^^^ 1 <<< r)
theorem tkB1_6 (b : Bk) (t q j : Nat) : tkB1 b t q 6 j = if j = 1 then t else b 6 j := by
  unfold tkB1
  rw [bset_ne _ _ _ (by decide), bset_eq]
  by_cases h : j = 1
  · rw [if_pos h, h, upN_self]
  · rw [if_neg h, upN_ne _ _ _ h]
theorem tkB1_5 (b : Bk) (t q j : Nat) : tkB1 b t q 5 j = if j = q then NV else b 5 j := by
  unfold tkB1
  rw [bset_eq, bset_ne _ _ _ (by decide)]
  by_cases h : j = q
  · rw [if_pos h, h, upN_self]
  · rw [if_neg h, upN_ne _ _ _ h]
theorem tkB1_i (b : Bk) (t q : Nat) {i : Nat} (h : i < 5) : tkB1 b t q i = b i := by
  unfold tkB1
  rw [bset_ne _ _ _ (by omega), bset_ne _ _ _ (by omega)]
theorem slE_2 {e : Nat} : slE e / 2 = e / 4 := by unfold slE; split <;> omega
theorem slE_m {e : Nat} : slE e % 2 = 1 ↔ e % 4 = 2 := by unfold slE; split <;> omega
theorem du_e {s : Nat → Nat} {b : Bk} {e : Nat} (h : RepC s b) (he : e < 4 * s 1) (he3 : e % 4 < 3) (hw : wtB s e = true) : b 5 (slE e) = tmO s e := by
  obtain ⟨d1, d2⟩ := h.2.2.2.1 (e / 4) (by omega)
  unfold slE tmO
  unfold wtB at hw
  by_cases h2 : e % 4 = 2
  · rw [if_pos h2] at hw ⊢
    rw [if_pos h2, d2]
    unfold duE
    rw [if_neg (by rw [of_decide_eq_true hw]; decide)]
  · rw [if_neg h2] at hw ⊢
    rw [if_neg h2, Nat.add_zero, d1]
    unfold duA
    rw [Bool.and_eq_true, decide_eq_true_eq, decide_eq_true_eq] at hw
    rw [if_neg (by omega)]
theorem hp1_2 {s : Nat → Nat} {e : Nat} (h2 : e % 4 = 2) (q x : Nat) (hx : x < 25) : vv (hp1 s e) q x = if q = e / 4 ∧ x = 5 then 0 else if q = e / 4 ∧ x = 10 then 0 else vv s q x := by
  unfold hp1
  rw [if_pos h2, vv_up _ _ _ _ _ _ (by decide) hx, vv_up _ _ _ _ _ _ (by decide) hx, vv_hd _ _ _ _ _ (by decide)]
theorem hp1_s {s : Nat → Nat} {e : Nat} (h2 : ¬ e % 4 = 2) (h7 : ¬ vv s (e / 4) 7 = 0) (q x : Nat) (hx : x < 25) : vv (hp1 s e) q x = if q = e / 4 ∧ x = 8 then 0 else vv s q x := by
  unfold hp1
  rw [if_neg h2, if_neg h7, vv_up _ _ _ _ _ _ (by decide) hx, vv_hd _ _ _ _ _ (by decide)]
theorem hp1_m {s : Nat → Nat} {e : Nat} (h2 : ¬ e % 4 = 2) (h7 : vv s (e / 4) 7 = 0) (q x : Nat) (hx : x < 25) : vv (hp1 s e) q x = if 0 < vv s (e / 4) 2 then (if q = e / 4 ∧ x = 11 then tmO s e + vv s (e / 4) 2 else if q = e / 4 ∧ x = 10 then 1 else if q = e / 4 ∧ x = 5 then 1 else if q = e / 4 ∧ x = 3 then 1 - e % 4 else if q = e / 4 ∧ x = 8 then 0 else vv s q x) else (if q = e / 4 ∧ x = 3 then 1 - e % 4 else if q = e / 4 ∧ x = 8 then 0 else vv s q x) := by
  unfold hp1
  rw [if_neg h2, if_pos h7]
  split
  · rw [vv_up _ _ _ _ _ _ (by decide) hx, vv_up _ _ _ _ _ _ (by decide) hx, vv_up _ _ _ _ _ _ (by decide) hx, vv_up _ _ _ _ _ _ (by decide) hx, vv_up _ _ _ _ _ _ (by decide) hx, vv_hd _ _ _ _ _ (by decide)]
  · rw [vv_up _ _ _ _ _ _ (by decide) hx, vv_up _ _ _ _ _ _ (by decide) hx, vv_hd _ _ _ _ _ (by decide)]
theorem hp1_hd (s : Nat → Nat) (e : Nat) {j : Nat} (hj : j < 3) : hp1 s e j = if j = 2 then tmO s e else s j := by
  unfold hp1
  repeat' split
  all_goals simp only [hd_up _ _ _ _ hj]
  all_goals first | (rename_i h; rw [h, upN_self]) | (rename_i h; rw [upN_ne _ _ _ h])
theorem RepC.hpA {s : Nat → Nat} {b : Bk} {B e : Nat} (h : RepC s b) (hW : Wt s B) (he : e < 4 * s 1) (h2 : e % 4 = 2) : RepC (hp1 s e) (bset (tkB1 b (tmO s e) (slE e)) 6 5 (andn (b 6 5) (1 <<< (e / 4)))) := by
  have hv := hp1_2 (s := s) h2
  have hr : e / 4 < s 1 := by omega
  have hsl : slE e = 2 * (e / 4) + 1 := by unfold slE; rw [if_pos h2]
  have b6 : ∀ j, j ≠ 5 → bset (tkB1 b (tmO s e) (slE e)) 6 5 (andn (b 6 5) (1 <<< (e / 4))) 6 j = if j = 1 then tmO s e else b 6 j := fun j hj => by rw [bset_eq, upN_ne _ _ _ hj, tkB1_6]
  have b5 : ∀ j, bset (tkB1 b (tmO s e) (slE e)) 6 5 (andn (b 6 5) (1 <<< (e / 4))) 5 j = if j = 2 * (e / 4) + 1 then NV else b 5 j := fun j => by rw [bset_ne _ _ _ (by decide), tkB1_5, hsl]
  refine h.upd (by rw [hp1_hd _ _ (by decide), if_neg (by decide)]) (by rw [hp1_hd _ _ (by decide), if_neg (by decide)]) (fun q x hx hx2 => by rw [hv q x hx, if_neg (by omega), if_neg (by omega)]) (fun q hq => hW.m6 hq) (by rw [b6 1 (by decide), if_pos rfl, hp1_hd _ _ (by decide), if_pos rfl]) (fun j hj => by rw [b6 j (by omega), if_neg (by omega)]) (fun i hi => by rw [bset_ne _ _ _ (by omega), tkB1_i _ _ _ hi]) ?_ ?_ (fun q hq => ?_) (fun q hq => ⟨by rw [b5, if_neg (by omega)], by rw [b5, if_neg (by omega)]⟩)
  · rw [b6 4 (by decide), if_neg (by decide), h.2.2.1.2.1]
    refine mk_congr (fun i hi => ?_)
    unfold pM
    rw [hv i 3 (by decide), if_neg (by omega), if_neg (by omega)]
  · rw [bset_eq, upN_self, h.2.2.1.2.2.1]
    refine mk_clr hW.2.1 (fun i hi => ?_)
    unfold pM
    rw [hv i 5 (by decide)]
    by_cases e1 : i = e / 4
    · rw [if_pos e1, if_pos ⟨e1, rfl⟩]; rfl
    · rw [if_neg e1, if_neg (by omega), if_neg (by omega)]
  · obtain ⟨d1, d2⟩ := h.2.2.2.1 q hq
    have a8 : vv (hp1 s e) q 8 = vv s q 8 := by rw [hv q 8 (by decide), if_neg (by omega), if_neg (by omega)]
    have a9 : vv (hp1 s e) q 9 = vv s q 9 := by rw [hv q 9 (by decide), if_neg (by omega), if_neg (by omega)]
    have a11 : vv (hp1 s e) q 11 = vv s q 11 := by rw [hv q 11 (by decide), if_neg (by omega), if_neg (by omega)]
    unfold duA at d1
    unfold duE at d2
    unfold duA duE
    rw [a8, a9, a11]
    refine ⟨by rw [b5, if_neg (by omega)]; exact d1, ?_⟩
    by_cases e1 : q = e / 4
    · have a10 : vv (hp1 s e) q 10 = 0 := by rw [hv q 10 (by decide), if_neg (by omega), if_pos ⟨e1, rfl⟩]
      rw [b5, if_pos (by omega), a10, if_pos rfl]
    · have a10 : vv (hp1 s e) q 10 = vv s q 10 := by rw [hv q 10 (by decide), if_neg (by omega), if_neg (by omega)]
      rw [b5, if_neg (by omega), a10]
      exact d2
theorem RepC.hpB {s : Nat → Nat} {b : Bk} {B e : Nat} (h : RepC s b) (hW : Wt s B) (he : e < 4 * s 1) (h2 : ¬ e % 4 = 2) (h7 : ¬ vv s (e / 4) 7 = 0) : RepC (hp1 s e) (tkB1 b (tmO s e) (slE e)) := by
  have hv := hp1_s (s := s) h2 h7
  have hr : e / 4 < s 1 := by omega
  have hsl : slE e = 2 * (e / 4) := by unfold slE; rw [if_neg h2]; rfl
  refine h.upd (by rw [hp1_hd _ _ (by decide), if_neg (by decide)]) (by rw [hp1_hd _ _ (by decide), if_neg (by decide)]) (fun q x hx hx2 => by rw [hv q x hx, if_neg (by omega)]) (fun q hq => hW.m6 hq) (by rw [tkB1_6, if_pos rfl, hp1_hd _ _ (by decide), if_pos rfl]) (fun j hj => by rw [tkB1_6, if_neg (by omega)]) (fun i hi => tkB1_i _ _ _ hi) ?_ ?_ (fun q hq => ?_) (fun q hq => ⟨by rw [tkB1_5, if_neg (by omega)], by rw [tkB1_5, if_neg (by omega)]⟩)
  · rw [tkB1_6, if_neg (by decide), h.2.2.1.2.1]
    refine mk_congr (fun i hi => ?_)
    unfold pM
    rw [hv i 3 (by decide), if_neg (by omega)]
  · rw [tkB1_6, if_neg (by decide), h.2.2.1.2.2.1]
    refine mk_congr (fun i hi => ?_)
    unfold pM
    rw [hv i 5 (by decide), if_neg (by omega)]
  · obtain ⟨d1, d2⟩ := h.2.2.2.1 q hq
    have a9 : vv (hp1 s e) q 9 = vv s q 9 := by rw [hv q 9 (by decide), if_neg (by omega)]
    have a10 : vv (hp1 s e) q 10 = vv s q 10 := by rw [hv q 10 (by decide), if_neg (by omega)]
    have a11 : vv (hp1 s e) q 11 = vv s q 11 := by rw [hv q 11 (by decide), if_neg (by omega)]
    unfold duA at d1
    unfold duE at d2
    unfold duA duE
    rw [a9, a10, a11]
    refine ⟨?_, by rw [tkB1_5, if_neg (by omega)]; exact d2⟩
    by_cases e1 : q = e / 4
    · have a8 : vv (hp1 s e) q 8 = 0 := by rw [hv q 8 (by decide), if_pos ⟨e1, rfl⟩]
      rw [tkB1_5, if_pos (by omega), a8, if_pos rfl]
    · have a8 : vv (hp1 s e) q 8 = vv s q 8 := by rw [hv q 8 (by decide), if_neg (by omega)]
      rw [tkB1_5, if_neg (by omega), a8]
      exact d1
theorem wt_k {s : Nat → Nat} {B e : Nat} (hS : SeC s) (hW : Wt s B) (he : e < 4 * s 1) (h2 : ¬ e % 4 = 2) (hw : wtB s e = true) : vv s (e / 4) 8 = e % 4 + 1 ∧ e % 4 < 2 ∧ 1 - e % 4 = 1 - vv s (e / 4) 3 ∧ 1 - vv s (e / 4) 4 = e % 4 := by
  have hr : e / 4 < s 1 := by omega
  unfold wtB at hw
  rw [if_neg h2, Bool.and_eq_true, decide_eq_true_eq, decide_eq_true_eq] at hw
  obtain ⟨h3, h4⟩ := (hS _ hr).1 (by omega)
  have c3 := hW.c1 hr (x := 3) (by omega)
  have c4 := hW.c1 hr (x := 4) (by omega)
  exact ⟨hw.2, hw.1, by omega, by omega⟩
theorem mvB_i (b : Bk) (r : Nat) {i : Nat} (h : i < 5) : mvB b r i = b i := by
  unfold mvB
  split
  · rw [bset_ne _ _ _ (by omega), bset_ne _ _ _ (by omega), bset_ne _ _ _ (by omega)]
  · rw [bset_ne _ _ _ (by omega)]
theorem mvB_6 (b : Bk) (r j : Nat) : mvB b r 6 j = if j = 4 then b 6 4 ^^^ 1 <<< r else if j = 5 then (if 0 < b 2 r then b 6 5 ||| 1 <<< r else b 6 5) else b 6 j := by
  unfold mvB
  by_cases h : 0 < b 2 r
  · rw [if_pos h, if_pos h, bset_ne _ _ _ (by decide), bset_eq, bset_eq]
    by_cases h5 : j = 5
    · rw [if_neg (by omega), if_pos h5, h5, upN_self]
    · rw [upN_ne _ _ _ h5]
      by_cases h4 : j = 4
      · rw [if_pos h4, h4, upN_self]
      · rw [if_neg h4, if_neg h5, upN_ne _ _ _ h4]
  · rw [if_neg h, if_neg h, bset_eq]
    by_cases h4 : j = 4
    · rw [if_pos h4, h4, upN_self]
    · rw [if_neg h4, upN_ne _ _ _ h4]
      split
      · rename_i h5; rw [h5]
      · rfl
theorem mvB_5 (b : Bk) (r j : Nat) : mvB b r 5 j = if 0 < b 2 r ∧ j = 2 * r + 1 then b 6 1 + b 2 r else b 5 j := by
  unfold mvB
  by_cases h : 0 < b 2 r
  · rw [if_pos h, bset_eq, bset_ne _ _ _ (by decide), bset_ne _ _ _ (by decide)]
    by_cases h5 : j = 2 * r + 1
    · rw [if_pos ⟨h, h5⟩, h5, upN_self]
    · rw [if_neg (fun q => h5 q.2), upN_ne _ _ _ h5]
  · rw [if_neg h, if_neg (fun q => h q.1), bset_ne _ _ _ (by decide)]
theorem RepC.hpC {s : Nat → Nat} {b : Bk} {B e : Nat} (h : RepC s b) (hS : SeC s) (hW : Wt s B) (he : e < 4 * s 1) (h2 : ¬ e % 4 = 2) (hw : wtB s e = true) (h7 : vv s (e / 4) 7 = 0) : RepC (hp1 s e) (mvB (tkB1 b (tmO s e) (slE e)) (e / 4)) := by
  have hv := hp1_m (s := s) h2 h7
  have hr : e / 4 < s 1 := by omega
  have hsl : slE e = 2 * (e / 4) := by unfold slE; rw [if_neg h2]; rfl
  obtain ⟨k1, k2, k3, k4⟩ := wt_k hS hW he h2 hw
  have c2 : tkB1 b (tmO s e) (slE e) 2 (e / 4) = vv s (e / 4) 2 := by rw [tkB1_i _ _ _ (by decide)]; exact (h.2.1 _ hr).2.2.1
  have ho : ∀ q x, x < 25 → (q ≠ e / 4 ∨ (x ≠ 11 ∧ x ≠ 10 ∧ x ≠ 5 ∧ x ≠ 3 ∧ x ≠ 8)) → vv (hp1 s e) q x = vv s q x := fun q x hx hc => by
    rw [hv q x hx]
    split
    · rw [if_neg (by omega), if_neg (by omega), if_neg (by omega), if_neg (by omega), if_neg (by omega)]
    · rw [if_neg (by omega), if_neg (by omega)]
  have h3' : vv (hp1 s e) (e / 4) 3 = 1 - vv s (e / 4) 3 := by
    rw [hv _ 3 (by decide)]
    split
    · rw [if_neg (by omega), if_neg (by omega), if_neg (by omega), if_pos ⟨rfl, rfl⟩, k3]
    · rw [if_pos ⟨rfl, rfl⟩, k3]
  have h8' : vv (hp1 s e) (e / 4) 8 = 0 := by
    rw [hv _ 8 (by decide)]
    split
    · rw [if_neg (by omega), if_neg (by omega), if_neg (by omega), if_neg (by omega), if_pos ⟨rfl, rfl⟩]
    · rw [if_neg (by omega), if_pos ⟨rfl, rfl⟩]
  have h5' : vv (hp1 s e) (e / 4) 5 = if 0 < vv s (e / 4) 2 then 1 else vv s (e / 4) 5 := by
    rw [hv _ 5 (by decide)]
    split
    · rw [if_neg (by omega), if_neg (by omega), if_pos ⟨rfl, rfl⟩]
    · rw [if_neg (by omega), if_neg (by omega)]
  have h10' : vv (hp1 s e) (e / 4) 10 = if 0 < vv s (e / 4) 2 then 1 else vv s (e / 4) 10 := by
    rw [hv _ 10 (by decide)]
    split
    · rw [if_neg (by omega), if_pos ⟨rfl, rfl⟩]
    · rw [if_neg (by omega), if_neg (by omega)]
  have h11' : vv (hp1 s e) (e / 4) 11 = if 0 < vv s (e / 4) 2 then tmO s e + vv s (e / 4) 2 else vv s (e / 4) 11 := by
    rw [hv _ 11 (by decide)]
    split
    · rw [if_pos ⟨rfl, rfl⟩]
    · rw [if_neg (by omega), if_neg (by omega)]
  have c3 := hW.c1 hr (x := 3) (by omega)
  refine h.upd (by rw [hp1_hd _ _ (by decide), if_neg (by decide)]) (by rw [hp1_hd _ _ (by decide), if_neg (by decide)]) (fun q x hx hx2 => ho q x hx (by omega)) (fun q hq => hW.m6 hq) (by rw [mvB_6, if_neg (by decide), if_neg (by decide), tkB1_6, if_pos rfl, hp1_hd _ _ (by decide), if_pos rfl]) (fun j hj => by rw [mvB_6, if_neg (by omega), if_neg (by omega), tkB1_6, if_neg (by omega)]) (fun i hi => (mvB_i _ _ hi).trans (tkB1_i _ _ _ hi)) ?_ ?_ (fun q hq => ?_) (fun q hq => ⟨by rw [mvB_5, if_neg (by omega), tkB1_5, if_neg (by omega)], by rw [mvB_5, if_neg (by omega), tkB1_5, if_neg (by omega)]⟩)
  · rw [mvB_6, if_pos rfl, tkB1_6, if_neg (by decide), h.2.2.1.2.1]
    refine mk_xor hr (fun i hi => ?_)
    unfold pM
    by_cases e1 : i = e / 4
    · rw [if_pos e1, e1, h3']
      rcases (show vv s (e / 4) 3 = 0 ∨ vv s (e / 4) 3 = 1 by omega) with u | u <;> rw [u] <;> decide
    · rw [if_neg e1, ho i 3 (by decide) (Or.inl e1)]
  · rw [mvB_6, if_neg (by decide), if_pos rfl, c2, tkB1_6, show (if 5 = 1 then tmO s e else b 6 5) = b 6 5 from if_neg (by decide), h.2.2.1.2.2.1]
    by_cases hp : 0 < vv s (e / 4) 2
    · rw [if_pos hp]
      refine mk_or hr (fun i hi => ?_)
      unfold pM
      by_cases e1 : i = e / 4
      · rw [if_pos e1, e1, h5', if_pos hp]; rfl
      · rw [if_neg e1, ho i 5 (by decide) (Or.inl e1)]
    · rw [if_neg hp]
      refine mk_congr (fun i hi => ?_)
      unfold pM
      by_cases e1 : i = e / 4
      · rw [e1, h5', if_neg hp]
      · rw [ho i 5 (by decide) (Or.inl e1)]
  · obtain ⟨d1, d2⟩ := h.2.2.2.1 q hq
    unfold duA at d1
    unfold duE at d2
    unfold duA duE
    by_cases e1 : q = e / 4
    · subst e1
      rw [h8', h10', h11', mvB_5, mvB_5, if_neg (by omega), tkB1_5, if_pos (by omega), if_pos rfl, c2]
      refine ⟨rfl, ?_⟩
      by_cases hp : 0 < vv s (e / 4) 2
      · rw [if_pos ⟨hp, rfl⟩, if_pos hp, if_pos hp, if_neg (by decide), tkB1_6, if_pos rfl]
      · rw [if_neg (fun q => hp q.1), if_neg hp, if_neg hp, tkB1_5, if_neg (by omega)]
        exact d2
    · rw [ho q 8 (by decide) (Or.inl e1), ho q 9 (by decide) (Or.inl e1), ho q 10 (by decide) (Or.inl e1), ho q 11 (by decide) (Or.inl e1), mvB_5, mvB_5, if_neg (by omega), tkB1_5, if_neg (by omega)]
      refine ⟨d1, ?_⟩
      rw [if_neg (by omega), tkB1_5, if_neg (by omega)]
      exact d2
theorem SeC.hp1 {s : Nat → Nat} {B e : Nat} (hS : SeC s) (hW : Wt s B) : SeC (hp1 s e) := by
  intro q hq
  rw [hp1_hd _ _ (by decide), if_neg (by decide)] at hq
  obtain ⟨h1, h2⟩ := hS q hq
  by_cases k2 : e % 4 = 2
  · rw [hp1_2 k2 q 8 (by decide), hp1_2 k2 q 4 (by decide), hp1_2 k2 q 3 (by decide), hp1_2 k2 q 5 (by decide), hp1_2 k2 q 10 (by decide)]
    simp only [Nat.reduceEqDiff, and_false, if_false]
    refine ⟨h1, ?_⟩
    by_cases e1 : q = e / 4
    · simp [e1]
    · simp [e1, h2]
  · by_cases k7 : vv s (e / 4) 7 = 0
    · have hv := hp1_m (s := s) k2 k7
      rw [hv q 8 (by decide), hv q 4 (by decide), hv q 3 (by decide), hv q 5 (by decide), hv q 10 (by decide)]
      by_cases e1 : q = e / 4
      · by_cases hp : 0 < vv s (e / 4) 2
        · simp [e1, hp]
        · simp [e1, hp]
          rw [← e1]; exact h2
      · by_cases hp : 0 < vv s (e / 4) 2
        · simp [e1, hp]
          exact ⟨fun q1 => h1 q1, h2⟩
        · simp [e1, hp]
          exact ⟨fun q1 => h1 q1, h2⟩
    · have hv := hp1_s (s := s) k2 k7
      rw [hv q 8 (by decide), hv q 4 (by decide), hv q 3 (by decide), hv q 5 (by decide), hv q 10 (by decide)]
      by_cases e1 : q = e / 4
      · simp [e1]
        rw [← e1]; exact h2
      · simp [e1]
        exact ⟨fun q1 => h1 q1, h2⟩
set_option maxRecDepth 100000 in
set_option maxHeartbeats 4000000 in
theorem c_X0_moveArmature (l : Launch) (d : Nat) (hd : 1 ≤ d) {n kb : Nat} {w : Nat → AC} {b : Bk} (hB : BkAt n w kb b) (r : Nat) (hr : r < 8) (h2 : b 2 r < 2147483648) : Sq l yX0_moveArmature cX0_moveArmature 3 none d [aR kb, aZ r] n w (Qn (PB n kb (mvB b r) w)) := by
  refine Sp.of (plainFor_of_name (by decide)) (Nat.le_of_ble_eq_true rfl) (fun Γ hΓ hR => ?_)
  show Γ 0 [aR kb, aZ r, none] [] (0, 0) n w
  have hF0 : Fr kb 7 w w := Fr.rf
  refine qa_aload_n hΓ dX0_moveArmature_0 rfl ?_
  refine qa_dup hΓ dX0_moveArmature_1 ?_
  refine qa_get hΓ dX0_moveArmature_2 fk_X0_50 hB.lt hB.o rfl ?_
  refine qa_iconst (v := nI 1) hΓ dX0_moveArmature_5 ic_1 ?_
  refine qa_iload_n hΓ dX0_moveArmature_6 rfl ?_
  refine qz_ishl hΓ dX0_moveArmature_7 (by omega) ?_
  refine qz_ixor hΓ dX0_moveArmature_8 ?_
  refine qB_put hΓ 4 dX0_moveArmature_9 fk_X0_50 (by decide) hB (fun w hB hF => ?_)
  have hF0 := hF0.tr hF
  refine qa_aload_n hΓ dX0_moveArmature_12 rfl ?_
  refine qa_get hΓ dX0_moveArmature_13 fk_X0_18 hB.lt hB.o rfl ?_
  refine qa_iload_n hΓ dX0_moveArmature_16 rfl ?_
  refine qc_N1 hΓ dX0_moveArmature_17 nk_X0_73 vw_X5_at (by omega) (c_X5_at l (d - 1) (hB.lti (i := 3) (by decide)) hB.a2 _ (by omega) (by decide)) rfl rfl (Nat.le_of_ble_eq_true rfl) ?_
  rw [show (bset b 6 4 (b 6 4 ^^^ 1 <<< r)) 2 r = b 2 r from by rw [bset_ne _ _ _ (by decide)]]
  refine qa_istore_n hΓ dX0_moveArmature_20 (by decide) ?_
  refine qa_iload_n hΓ dX0_moveArmature_21 rfl ?_
  refine qz_if_le (tgt := 55) hΓ dX0_moveArmature_22 (by decide) (by omega) (fun h_22 => ?_) (fun h_22 => ?_)
  · exact qr_v hR dX0_moveArmature_55 ⟨rfl, by rw [show mvB b r = bset b 6 4 (b 6 4 ^^^ 1 <<< r) from by unfold mvB; rw [if_neg (by omega)]]; exact hB, hF0⟩
  · refine qa_aload_n hΓ dX0_moveArmature_25 rfl ?_
    refine qa_dup hΓ dX0_moveArmature_26 ?_
    refine qa_get hΓ dX0_moveArmature_27 fk_X0_53 hB.lt hB.o rfl ?_
    rw [show (bset b 6 4 (b 6 4 ^^^ 1 <<< r)) 6 5 = b 6 5 from by rw [bset_eq, upN_ne _ _ _ (by decide)]]
    refine qa_iconst (v := nI 1) hΓ dX0_moveArmature_30 ic_1 ?_
    refine qa_iload_n hΓ dX0_moveArmature_31 rfl ?_
    refine qz_ishl hΓ dX0_moveArmature_32 (by omega) ?_
    refine qz_ior hΓ dX0_moveArmature_33 ?_
    refine qB_put hΓ 5 dX0_moveArmature_34 fk_X0_53 (by decide) hB (fun w hB hF => ?_)
    have hF0 := hF0.tr hF
    refine qa_aload_n hΓ dX0_moveArmature_37 rfl ?_
    refine qa_get hΓ dX0_moveArmature_38 fk_X0_27 hB.lt hB.o rfl ?_
    refine qa_iconst (v := nI 2) hΓ dX0_moveArmature_41 ic_2 ?_
    refine qa_iload_n hΓ dX0_moveArmature_42 rfl ?_
    refine qz_imul hΓ dX0_moveArmature_43 ?_
    refine qa_iconst (v := nI 1) hΓ dX0_moveArmature_44 ic_1 ?_
    refine qz_iadd hΓ dX0_moveArmature_45 ?_
    refine qa_aload_n hΓ dX0_moveArmature_46 rfl ?_
    refine qa_get hΓ dX0_moveArmature_47 fk_X0_41 hB.lt hB.o rfl ?_
    rw [show (bset (bset b 6 4 (b 6 4 ^^^ 1 <<< r)) 6 5 (b 6 5 ||| 1 <<< r)) 6 1 = b 6 1 from by rw [bset_eq, upN_ne _ _ _ (by decide), bset_eq, upN_ne _ _ _ (by decide)]]
    refine qa_iload_n hΓ dX0_moveArmature_50 rfl ?_
    refine qz_iadd hΓ dX0_moveArmature_51 ?_
    refine qc_N0q hΓ dX0_moveArmature_52 nk_X0_77 vw_X5_put (by omega) (c_X5_putB l (d - 1) hB 5 (2 * r + 1) _ (by decide) (by show _ < 16; omega)) rfl rfl (Nat.le_of_ble_eq_true rfl) (fun w hq => ?_)
    obtain ⟨hB, hF⟩ := hq
    have hF0 := hF0.tr hF
    exact qr_v hR dX0_moveArmature_55 ⟨rfl, by rw [show mvB b r = bset (bset (bset b 6 4 (b 6 4 ^^^ 1 <<< r)) 6 5 (b 6 5 ||| 1 <<< r)) 5 (2 * r + 1) (b 6 1 + b 2 r) from by unfold mvB; rw [if_pos (by omega)]]; exact hB, hF0⟩

set_option maxRecDepth 100000 in
set_option maxHeartbeats 4000000 in
theorem c_X0_happen (l : Launch) (d : Nat) (hd : 3 ≤ d) {n kb : Nat} {w : Nat → AC} {b : Bk} (hB : BkAt n w kb b) {s : Nat → Nat} (hR0 : RepC s b) {B : Nat} (hW : Wt s B) (hBd : B < 900000000) (hB2 : B + 20 < 900000000) (hS : SeC s) (e : Nat) (he : e < 4 * s 1) (he3 : e % 4 < 3) (hwt : wtB s e = true) : Sq l yX0_happen cX0_happen 3 none d [aR kb, aZ (slE e)] n w (Qn (PR n kb (hap s e) w)) := by
  refine Sp.of (plainFor_of_name (by decide)) (Nat.le_of_ble_eq_true rfl) (fun Γ hΓ hR => ?_)
  show Γ 0 [aR kb, aZ (slE e), none] [] (0, 0) n w
  obtain ⟨w0, hw0⟩ : ∃ X, X = w ∧ ∀ w2, Fr kb 7 X w2 → Fr kb 7 w w2 := ⟨w, rfl, fun _ h => h⟩
  obtain ⟨hww, hw0⟩ := hw0
  have hF0 : Fr kb 7 w0 w := hww ▸ Fr.rf
  have h8 := hW.2.1
  have hr : e / 4 < s 1 := by omega
  have hsl : slE e < 16 := by unfold slE; split <;> omega
  have hst := pbit hW hr (x := 7) (by omega) hR0.2.2.1.2.2.2.1
  refine qa_iload_n hΓ dX0_happen_0 rfl ?_
  refine qc_S1 hΓ dX0_happen_1 lk_X0_128 vw_X0_relayOf (by omega) (c_X0_relayOf l (d - 1) (slE e) (by omega)) rfl rfl (Nat.le_of_ble_eq_true rfl) ?_
  rw [slE_2]
  refine qa_istore_n hΓ dX0_happen_4 (by decide) ?_
  refine qa_aload_n hΓ dX0_happen_5 rfl ?_
  refine qa_aload_n hΓ dX0_happen_6 rfl ?_
  refine qa_get hΓ dX0_happen_7 fk_X0_27 hB.lt hB.o rfl ?_
  refine qa_iload_n hΓ dX0_happen_10 rfl ?_
  refine qc_N1 hΓ dX0_happen_11 nk_X0_73 vw_X5_at (by omega) (c_X5_at l (d - 1) (hB.lti (i := 6) (by decide)) hB.a5 _ (by omega) (by decide)) rfl rfl (Nat.le_of_ble_eq_true rfl) ?_
  rw [du_e hR0 he he3 hwt]
  refine qB_put hΓ 1 dX0_happen_14 fk_X0_41 (by decide) hB (fun w hB hF => ?_)
  have hF0 := hF0.tr hF
  refine qa_aload_n hΓ dX0_happen_17 rfl ?_
  refine qa_get hΓ dX0_happen_18 fk_X0_27 hB.lt hB.o rfl ?_
  refine qa_iload_n hΓ dX0_happen_21 rfl ?_
  refine qa_ldc (v := nI 2147483647) hΓ dX0_happen_22 ck_X0_30 ?_
  refine qc_N0q hΓ dX0_happen_24 nk_X0_77 vw_X5_put (by omega) (c_X5_putB l (d - 1) hB 5 (slE e) NV (by decide) (by show _ < 16; omega)) rfl rfl (Nat.le_of_ble_eq_true rfl) (fun w hq => ?_)
  obtain ⟨hB, hF⟩ := hq
  have hF0 := hF0.tr hF
  obtain ⟨b1, hB, hb1⟩ : ∃ X, BkAt n w kb X ∧ X = (tkB1 b (tmO s e) (slE e)) := ⟨_, hB, rfl⟩
  rw [hb1] at hB
  refine qa_iload_n hΓ dX0_happen_27 rfl ?_
  refine qc_S1 hΓ dX0_happen_28 lk_X0_124 vw_X0_isBounceEnd (by omega) (c_X0_isBounceEnd l (d - 1) _) rfl rfl (Nat.le_of_ble_eq_true rfl) ?_
  refine qb_if_eq (tgt := 51) hΓ dX0_happen_31 (by decide) (fun h_31 => ?_) (fun h_31 => ?_)
  · have h2 : ¬ e % 4 = 2 := fun q => of_decide_eq_false h_31 (slE_m.mpr q)
    refine qa_aload_n hΓ dX0_happen_51 rfl ?_
    refine qa_get hΓ dX0_happen_52 fk_X0_56 hB.lt hB.o rfl ?_
    rw [show (tkB1 b (tmO s e) (slE e)) 6 6 = b 6 6 from by rw [tkB1_6, if_neg (by decide)]]
    refine qa_iload_n hΓ dX0_happen_55 rfl ?_
    refine qc_N1 hΓ dX0_happen_56 nk_X0_106 vw_X5_isIn (by omega) (c_X5_isIn l (d - 1) _ _ (by have := pm_lt hW hR0.2.2.1.2.2.2.1; omega) (by omega)) rfl rfl (Nat.le_of_ble_eq_true rfl) ?_
    refine qb_if_ne (tgt := 67) hΓ dX0_happen_59 (by decide) (fun h_59 => ?_) (fun h_59 => ?_)
    · have h7 : ¬ vv s (e / 4) 7 = 0 := fun q => by rw [h_59] at hst; simp at hst; omega
      refine qa_aload_n hΓ dX0_happen_67 rfl ?_
      refine qc_V1q hΓ dX0_happen_68 lk_X0_99 vw_X0_lookAtCoils (by omega) (c_X0_lookAtCoils l (d - 1) (by omega) hB (hR0.hpB hW he h2 h7) (hW.hp1 he) hB2 (hS.hp1 hW)) rfl hB.lt hB.o rfl rfl (Nat.le_of_ble_eq_true rfl) (fun w hq => ?_)
      obtain ⟨b', hB, hF, hR2, hS2⟩ := hq
      have hF0 := hF0.tr hF
      refine qa_pop hΓ dX0_happen_71 ?_
      exact qr_v hR dX0_happen_72 ⟨rfl, _, hB, hw0 _ hF0, hR2, hS2⟩
    · have h7 : vv s (e / 4) 7 = 0 := by rw [h_59] at hst; exact hst.symm
      refine qa_aload_n hΓ dX0_happen_62 rfl ?_
      refine qa_iload_n hΓ dX0_happen_63 rfl ?_
      refine qc_V0q hΓ dX0_happen_64 lk_X0_138 vw_X0_moveArmature (by omega) (c_X0_moveArmature l (d - 1) (by omega) hB (e / 4) (by omega) (by rw [tkB1_i _ _ _ (by decide), (hR0.2.1 _ hr).2.2.1]; have := hW.b hr (x := 2) (by decide); omega)) rfl hB.lt hB.o rfl rfl (Nat.le_of_ble_eq_true rfl) (fun w hq => ?_)
      obtain ⟨hB, hF⟩ := hq
      have hF0 := hF0.tr hF
      refine qa_aload_n hΓ dX0_happen_67 rfl ?_
      refine qc_V1q hΓ dX0_happen_68 lk_X0_99 vw_X0_lookAtCoils (by omega) (c_X0_lookAtCoils l (d - 1) (by omega) hB (hR0.hpC hS hW he h2 hwt h7) (hW.hp1 he) hB2 (hS.hp1 hW)) rfl hB.lt hB.o rfl rfl (Nat.le_of_ble_eq_true rfl) (fun w hq => ?_)
      obtain ⟨b', hB, hF, hR2, hS2⟩ := hq
      have hF0 := hF0.tr hF
      refine qa_pop hΓ dX0_happen_71 ?_
      exact qr_v hR dX0_happen_72 ⟨rfl, _, hB, hw0 _ hF0, hR2, hS2⟩
  · have h2 : e % 4 = 2 := slE_m.mp (of_decide_eq_true h_31)
    refine qa_aload_n hΓ dX0_happen_34 rfl ?_
    refine qa_dup hΓ dX0_happen_35 ?_
    refine qa_get hΓ dX0_happen_36 fk_X0_53 hB.lt hB.o rfl ?_
    rw [show (tkB1 b (tmO s e) (slE e)) 6 5 = b 6 5 from by rw [tkB1_6, if_neg (by decide)]]
    refine qa_iconst (v := nI 1) hΓ dX0_happen_39 ic_1 ?_
    refine qa_iload_n hΓ dX0_happen_40 rfl ?_
    refine qz_ishl hΓ dX0_happen_41 (by omega) ?_
    refine qa_iconst (v := -1) hΓ dX0_happen_42 ic_m1 ?_
    refine qa_ixor hΓ dX0_happen_43 ?_
    refine qa_iand hΓ dX0_happen_44 ?_
    rw [andn_int (by have := pm_lt hW hR0.2.2.1.2.2.1; omega)]
    refine qB_put hΓ 5 dX0_happen_45 fk_X0_53 (by decide) hB (fun w hB hF => ?_)
    have hF0 := hF0.tr hF
    refine qa_goto (tgt := 67) hΓ dX0_happen_48 (by decide) ?_
    refine qa_aload_n hΓ dX0_happen_67 rfl ?_
    refine qc_V1q hΓ dX0_happen_68 lk_X0_99 vw_X0_lookAtCoils (by omega) (c_X0_lookAtCoils l (d - 1) (by omega) hB (hR0.hpA hW he h2) (hW.hp1 he) hB2 (hS.hp1 hW)) rfl hB.lt hB.o rfl rfl (Nat.le_of_ble_eq_true rfl) (fun w hq => ?_)
    obtain ⟨b', hB, hF, hR2, hS2⟩ := hq
    have hF0 := hF0.tr hF
    refine qa_pop hΓ dX0_happen_71 ?_
    exact qr_v hR dX0_happen_72 ⟨rfl, _, hB, hw0 _ hF0, hR2, hS2⟩
end
section
/-! The class: runs of events -/
def rnL (rev : Bool) (en : Nat) (s : Nat → Nat) : Nat → Nat × (Nat → Nat)
  | 0 => (0, s)
  | m + 1 => match nx s rev with
    | none => (0, s)
    | some e => if tmO s e ≤ en then ((rnL rev en (hap s e) m).1 + 1, (rnL rev en (hap s e) m).2) else (0, s)
theorem rnL_ps (en : Nat) : ∀ (m : Nat) (s : Nat → Nat), rnL false en s m = psL en s m
  | 0, s => rfl
  | m + 1, s => by
    unfold rnL psL
    cases nx s false with
    | none => rfl
    | some e => simp only [rnL_ps en m (hap s e)]
theorem rnL_st (rev : Bool) : ∀ (m : Nat) (s : Nat → Nat) (B : Nat), Wt s B → B + 20 * m < NV → rnL rev NV s m = stl s rev m
  | 0, s, B, _, _ => rfl
  | m + 1, s, B, hW, hB => by
    unfold rnL stl
    cases he : nx s rev with
    | none => rfl
    | some e =>
      have h1 := hW.tm (nx_lt he)
      simp only
      rw [if_pos (by omega), rnL_st rev m (hap s e) (B + 20) (hW.hap (nx_lt he)) (by omega)]
theorem nx_wt {s : Nat → Nat} {rev : Bool} {e : Nat} (h : nx s rev = some e) : wtB s e = true := nxt_wt h
theorem nI_n1 {q : Nat} (h : q < 2147483648) : ¬ nI q = -1 := fun e => absurd (e ▸ nI_pos' h : (0 : Int32) ≤ -1) (by decide)
set_option maxRecDepth 100000 in
set_option maxHeartbeats 4000000 in
theorem c_X0_isQuiet (l : Launch) (d : Nat) (hd : 2 ≤ d) {n kb : Nat} {w : Nat → AC} {b : Bk} (hB : BkAt n w kb b) {s : Nat → Nat} (hR0 : RepC s b) {B : Nat} (hW : Wt s B) (hBd : B < 900000000) : Sq l yX0_isQuiet cX0_isQuiet 1 (some .boolean) d [aR kb] n w (Rs (some (aZ (decide (nx s false = none)).toNat)) w) := by
  refine Sp.of (plainFor_of_name (by decide)) (Nat.le_of_ble_eq_true rfl) (fun Γ hΓ hR => ?_)
  show Γ 0 [aR kb] [] (0, 0) n w
  have h8 := hW.2.1
  refine qa_aload_n hΓ dX0_isQuiet_0 rfl ?_
  refine qa_iconst (v := nI 0) hΓ dX0_isQuiet_1 ic_0 ?_
  show Γ _ _ (aZ false.toNat :: _) _ _ _
  refine qc_V1 hΓ dX0_isQuiet_2 lk_X0_131 vw_X0_nextSlot (by omega) (c_X0_nextSlot l (d - 1) (by omega) hB hR0 hW hBd false) rfl hB.lt hB.o rfl rfl (Nat.le_of_ble_eq_true rfl) ?_
  refine qa_iconst (v := -1) hΓ dX0_isQuiet_5 ic_m1 ?_
  refine qa_icmp_ne (tgt := 13) hΓ dX0_isQuiet_6 (by decide) (fun h_6 => ?_) (fun h_6 => ?_)
  · refine qa_iconst (v := nI 0) hΓ dX0_isQuiet_13 ic_0 ?_
    exact qr_b (p := false) hR dX0_isQuiet_14 ⟨by rw [decide_eq_false (fun q => h_6 (by rw [q]; rfl))], rfl⟩
  · refine qa_iconst (v := nI 1) hΓ dX0_isQuiet_9 ic_1 ?_
    refine qa_goto (tgt := 14) hΓ dX0_isQuiet_10 (by decide) ?_
    have e : nx s false = none := by
      cases q : nx s false with
      | none => rfl
      | some e =>
        rw [q] at h_6
        exact absurd h_6 (nI_n1 (by have := nx_lt q; unfold slE; split <;> omega))
    exact qr_b (p := true) hR dX0_isQuiet_14 ⟨by rw [decide_eq_true e], rfl⟩

set_option maxRecDepth 100000 in
set_option maxHeartbeats 4000000 in
theorem c_X0_run (l : Launch) (d : Nat) (hd : 4 ≤ d) {n kb : Nat} {w : Nat → AC} {b : Bk} (hB : BkAt n w kb b) {s : Nat → Nat} (hR0 : RepC s b) {B : Nat} (hW : Wt s B) (hBd : B < 900000000) (hS : SeC s) (m en : Nat) (rev : Bool) (hm : B + 20 * m + 20 < 900000000) (hen : en < 2147483648) : Sq l yX0_run cX0_run 6 (some .int) d [aR kb, aZ m, aZ en, aZ rev.toNat] n w (Qv (aZ (rnL rev en s m).1) (PR n kb (rnL rev en s m).2 w)) := by
  refine Sp.of (plainFor_of_name (by decide)) (Nat.le_of_ble_eq_true rfl) (fun Γ hΓ hR => ?_)
  show Γ 0 [aR kb, aZ m, aZ en, aZ rev.toNat, none, none] [] (0, 0) n w
  obtain ⟨w0, hw0⟩ : ∃ X, X = w ∧ ∀ w2, Fr kb 7 X w2 → Fr kb 7 w w2 := ⟨w, rfl, fun _ h => h⟩
  obtain ⟨hww, hw0⟩ := hw0
  have hF0 : Fr kb 7 w0 w := hww ▸ Fr.rf
  have h8 := hW.2.1
  refine qa_iconst (v := nI 0) hΓ dX0_run_0 ic_0 ?_
  refine qa_istore hΓ dX0_run_1 (by decide) ?_
  have loop : ∀ (j i : Nat) (w1 : Nat → AC) (b1 : Bk) (t : Nat → Nat) (v : AV), i + j = m → BkAt n w1 kb b1 → Fr kb 7 w0 w1 → RepC t b1 → SeC t → Wt t (B + 20 * i) → rnL rev en s m = ((rnL rev en t j).1 + i, (rnL rev en t j).2) → Γ 3 [aR kb, aZ m, aZ en, aZ rev.toNat, aZ i, v] [] (0, 0) n w1 := by
    intro j
    induction j with
    | zero =>
      intro i w b t v hij hB hF0 hR0 hS hWt hz
      refine qa_iload hΓ dX0_run_3 rfl ?_
      refine qa_iload_n hΓ dX0_run_5 rfl ?_
      refine qz_icmp_ge (tgt := 50) hΓ dX0_run_6 (by decide) (by omega) (by omega) (fun _ => ?_) (fun h => absurd h (by omega))
      refine qa_iload_n hΓ dX0_run_50 rfl ?_
      have e1 : (rnL rev en s m).1 = m := by rw [hz]; show 0 + i = m; omega
      have e2 : (rnL rev en s m).2 = t := by rw [hz]; rfl
      exact qr_i hR dX0_run_51 ⟨by rw [e1], b, hB, hw0 _ hF0, by rw [e2]; exact ⟨hR0, hS⟩⟩
    | succ j ih =>
      intro i w b t v hij hB hF0 hR0 hS hWt hz
      have h8 : t 1 ≤ 8 := hWt.2.1
      cases ho : nx t rev with
      | none =>
        refine qa_iload hΓ dX0_run_3 rfl ?_
        refine qa_iload_n hΓ dX0_run_5 rfl ?_
        refine qz_icmp_ge (tgt := 50) hΓ dX0_run_6 (by decide) (by omega) (by omega) (fun h => absurd h (by omega)) (fun _ => ?_)
        refine qa_aload_n hΓ dX0_run_9 rfl ?_
        refine qa_iload_n hΓ dX0_run_10 rfl ?_
        refine qc_V1 hΓ dX0_run_11 lk_X0_131 vw_X0_nextSlot (by omega) (c_X0_nextSlot l (d - 1) (by omega) hB hR0 hWt (by omega) rev) rfl hB.lt hB.o rfl rfl (Nat.le_of_ble_eq_true rfl) ?_
        rw [ho]
        refine qa_istore hΓ dX0_run_14 (by decide) ?_
        refine qa_iload hΓ dX0_run_16 rfl ?_
        refine qa_iconst (v := -1) hΓ dX0_run_18 ic_m1 ?_
        refine qa_icmp_eq (tgt := 35) hΓ dX0_run_19 (by decide) (fun _ => ?_) (fun h => absurd rfl h)
        refine qa_iload hΓ dX0_run_35 rfl ?_
        have e0 : rnL rev en t (j + 1) = (0, t) := by unfold rnL; rw [ho]
        have e1 : (rnL rev en s m).1 = i := by rw [hz, e0]; show 0 + i = i; omega
        have e2 : (rnL rev en s m).2 = t := by rw [hz, e0]
        exact qr_i hR dX0_run_37 ⟨by rw [e1], b, hB, hw0 _ hF0, by rw [e2]; exact ⟨hR0, hS⟩⟩
      | some e =>
        have he := nx_lt ho
        have hsl : slE e < 16 := by unfold slE; split <;> omega
        have htm := hWt.tm he
        refine qa_iload hΓ dX0_run_3 rfl ?_
        refine qa_iload_n hΓ dX0_run_5 rfl ?_
        refine qz_icmp_ge (tgt := 50) hΓ dX0_run_6 (by decide) (by omega) (by omega) (fun h => absurd h (by omega)) (fun _ => ?_)
        refine qa_aload_n hΓ dX0_run_9 rfl ?_
        refine qa_iload_n hΓ dX0_run_10 rfl ?_
        refine qc_V1 hΓ dX0_run_11 lk_X0_131 vw_X0_nextSlot (by omega) (c_X0_nextSlot l (d - 1) (by omega) hB hR0 hWt (by omega) rev) rfl hB.lt hB.o rfl rfl (Nat.le_of_ble_eq_true rfl) ?_
        rw [ho]
        refine qa_istore hΓ dX0_run_14 (by decide) ?_
        refine qa_iload hΓ dX0_run_16 rfl ?_
        refine qa_iconst (v := -1) hΓ dX0_run_18 ic_m1 ?_
        refine qa_icmp_eq (tgt := 35) hΓ dX0_run_19 (by decide) (fun h => absurd h (nI_n1 (by omega))) (fun _ => ?_)
        refine qa_aload_n hΓ dX0_run_22 rfl ?_
        refine qa_get hΓ dX0_run_23 fk_X0_27 hB.lt hB.o rfl ?_
        refine qa_iload hΓ dX0_run_26 rfl ?_
        refine qc_N1 hΓ dX0_run_28 nk_X0_73 vw_X5_at (by omega) (c_X5_at l (d - 1) (hB.lti (i := 6) (by decide)) hB.a5 _ (by omega) (by decide)) rfl rfl (Nat.le_of_ble_eq_true rfl) ?_
        rw [du_e hR0 he (nx_kind ho) (nx_wt ho)]
        refine qa_iload_n hΓ dX0_run_31 rfl ?_
        refine qz_icmp_le (tgt := 38) hΓ dX0_run_32 (by decide) (by omega) (by omega) (fun h_32 => ?_) (fun h_32 => ?_)
        · refine qa_aload_n hΓ dX0_run_38 rfl ?_
          refine qa_iload hΓ dX0_run_39 rfl ?_
          refine qc_V0q hΓ dX0_run_41 lk_X0_141 vw_X0_happen (by omega) (c_X0_happen l (d - 1) (by omega) hB hR0 hWt (by omega) (by omega) hS e he (nx_kind ho) (nx_wt ho)) rfl hB.lt hB.o rfl rfl (Nat.le_of_ble_eq_true rfl) (fun w hq => ?_)
          obtain ⟨b', hB, hF, hR2, hS2⟩ := hq
          have hF0 := hF0.tr hF
          refine qz_iinc hΓ dX0_run_44 ii_1 rfl (by decide) ?_
          refine qa_goto (tgt := 3) hΓ dX0_run_47 (by decide) ?_
          refine ih (i + 1) w b' (hap t e) _ (by omega) hB hF0 hR2 hS2 (by have := hWt.hap he; rw [show B + 20 * (i + 1) = B + 20 * i + 20 by omega]; exact this) ?_
          rw [hz]
          have e0 : rnL rev en t (j + 1) = ((rnL rev en (hap t e) j).1 + 1, (rnL rev en (hap t e) j).2) := by
            show (match nx t rev with | none => _ | some e => _) = _
            rw [ho]
            show (if _ then _ else _) = _
            rw [if_pos h_32]
          rw [e0]
          show ((rnL rev en (hap t e) j).1 + 1 + i, _) = _
          rw [show (rnL rev en (hap t e) j).1 + 1 + i = (rnL rev en (hap t e) j).1 + (i + 1) by omega]
        · refine qa_iload hΓ dX0_run_35 rfl ?_
          have e0 : rnL rev en t (j + 1) = (0, t) := by unfold rnL; rw [ho]; show (if _ then _ else _) = _; rw [if_neg (by omega)]
          have e1 : (rnL rev en s m).1 = i := by rw [hz, e0]; show 0 + i = i; omega
          have e2 : (rnL rev en s m).2 = t := by rw [hz, e0]
          exact qr_i hR dX0_run_37 ⟨by rw [e1], b, hB, hw0 _ hF0, by rw [e2]; exact ⟨hR0, hS⟩⟩
  exact loop m 0 w b s none (by omega) hB hF0 hR0 hS hW rfl
end
section
/-! The class: copies of banks, and the rest of a bank -/
theorem BkAt.setR {n k : Nat} {w : Nat → AC} {b : Bk} (h : BkAt n w k b) (i : Nat) (f : Nat → Nat) (hi : i < 6) {k1 N : Nat} (hk : k1 = k + 1 + i) (hN : N = bkL i) : BkAt n (upw w k1 (zA N f)) k (rset b i f) ∧ Fr k 7 w (upw w k1 (zA N f)) := by
  subst hk hN
  refine ⟨⟨h.1, ?_, fun i' hi' => ?_⟩, Fr.up (by omega) (by omega)⟩
  · rw [upw_ne _ _ _ (by omega), h.2.1]
    have e : rset b i f 6 = b 6 := rset_ne _ _ (by omega)
    unfold bkObj
    rw [e]
  · by_cases e : i' = i
    · subst e
      rw [upw_self, rset_eq]
    · rw [upw_ne _ _ _ (by omega), h.2.2 i' hi', rset_ne _ _ e]
theorem RepC.of {s : Nat → Nat} {b c : Bk} (h : RepC s c) (h1 : ∀ i, i < 6 → b i = c i) (h2 : ∀ j, j < 9 → b 6 j = c 6 j) : RepC s b := by
  unfold RepC
  rw [h1 0 (by decide), h1 1 (by decide), h1 2 (by decide), h1 3 (by decide), h1 4 (by decide), h1 5 (by decide), h2 0 (by decide), h2 1 (by decide), h2 2 (by decide), h2 3 (by decide), h2 4 (by decide), h2 5 (by decide), h2 6 (by decide), h2 7 (by decide), h2 8 (by decide)]
  exact h
set_option maxRecDepth 100000 in
set_option maxHeartbeats 4000000 in
theorem c_X0_copy (l : Launch) (d : Nat) (hd : 1 ≤ d) {n kb : Nat} {w : Nat → AC} {b : Bk} (hB : BkAt n w kb b) {ko : Nat} {c : Bk} (hO : BkAt n w ko c) (hdj : ko + 7 ≤ kb ∨ kb + 7 ≤ ko) : Sq l yX0_copy cX0_copy 2 none d [aR kb, aR ko] n w (Qn (fun w' => ∃ b', BkAt n w' kb b' ∧ Fr kb 7 w w' ∧ (∀ i, i < 6 → b' i = c i) ∧ ∀ j, j < 9 → b' 6 j = c 6 j)) := by
  refine Sp.of (plainFor_of_name (by decide)) (Nat.le_of_ble_eq_true rfl) (fun Γ hΓ hR => ?_)
  show Γ 0 [aR kb, aR ko] [] (0, 0) n w
  have hF0 : Fr kb 7 w w := Fr.rf
  refine qa_aload_n hΓ dX0_copy_0 rfl ?_
  refine qa_get hΓ dX0_copy_1 fk_X0_9 hO.lt hO.o rfl ?_
  refine qa_iconst (v := nI 0) hΓ dX0_copy_4 ic_0 ?_
  refine qa_aload_n hΓ dX0_copy_5 rfl ?_
  refine qa_get hΓ dX0_copy_6 fk_X0_9 hB.lt hB.o rfl ?_
  refine qa_iconst (v := nI 0) hΓ dX0_copy_9 ic_0 ?_
  refine qa_bipush (v := nI 8) hΓ dX0_copy_10 bp_8 ?_
  refine qa_copy hΓ dX0_copy_12 lk_X0_31 (hO.lti (i := 1) (by decide)) hO.a0 (hB.lti (i := 1) (by decide)) hB.a0 rfl rfl rfl (by decide) hd rfl ?_
  obtain ⟨hB9, hF⟩ := hB.setR 0 (c 0) (by decide) (k1 := kb + 1) (N := 8) rfl rfl
  obtain ⟨w, hw9⟩ : ∃ X, X = upw w (kb + 1) (zA 8 (c 0)) := ⟨_, rfl⟩
  rw [← hw9] at hB9 hF
  refine (show Γ 15 [aR kb, aR ko] [] (0, 0) n w → _ from fun h => by rw [hw9] at h; exact h) ?_
  have hF0 := hF0.tr hF
  have hO := hO.ofFr hF hdj
  have hB := hB9
  refine qa_aload_n hΓ dX0_copy_15 rfl ?_
  refine qa_get hΓ dX0_copy_16 fk_X0_15 hO.lt hO.o rfl ?_
  refine qa_iconst (v := nI 0) hΓ dX0_copy_19 ic_0 ?_
  refine qa_aload_n hΓ dX0_copy_20 rfl ?_
  refine qa_get hΓ dX0_copy_21 fk_X0_15 hB.lt hB.o rfl ?_
  refine qa_iconst (v := nI 0) hΓ dX0_copy_24 ic_0 ?_
  refine qa_bipush (v := nI 8) hΓ dX0_copy_25 bp_8 ?_
  refine qa_copy hΓ dX0_copy_27 lk_X0_31 (hO.lti (i := 2) (by decide)) hO.a1 (hB.lti (i := 2) (by decide)) hB.a1 rfl rfl rfl (by decide) hd rfl ?_
  obtain ⟨hB9, hF⟩ := hB.setR 1 (c 1) (by decide) (k1 := kb + 2) (N := 8) rfl rfl
  obtain ⟨w, hw9⟩ : ∃ X, X = upw w (kb + 2) (zA 8 (c 1)) := ⟨_, rfl⟩
  rw [← hw9] at hB9 hF
  refine (show Γ 30 [aR kb, aR ko] [] (0, 0) n w → _ from fun h => by rw [hw9] at h; exact h) ?_
  have hF0 := hF0.tr hF
  have hO := hO.ofFr hF hdj
  have hB := hB9
  refine qa_aload_n hΓ dX0_copy_30 rfl ?_
  refine qa_get hΓ dX0_copy_31 fk_X0_18 hO.lt hO.o rfl ?_
  refine qa_iconst (v := nI 0) hΓ dX0_copy_34 ic_0 ?_
  refine qa_aload_n hΓ dX0_copy_35 rfl ?_
  refine qa_get hΓ dX0_copy_36 fk_X0_18 hB.lt hB.o rfl ?_
  refine qa_iconst (v := nI 0) hΓ dX0_copy_39 ic_0 ?_
  refine qa_bipush (v := nI 8) hΓ dX0_copy_40 bp_8 ?_
  refine qa_copy hΓ dX0_copy_42 lk_X0_31 (hO.lti (i := 3) (by decide)) hO.a2 (hB.lti (i := 3) (by decide)) hB.a2 rfl rfl rfl (by decide) hd rfl ?_
  obtain ⟨hB9, hF⟩ := hB.setR 2 (c 2) (by decide) (k1 := kb + 3) (N := 8) rfl rfl
  obtain ⟨w, hw9⟩ : ∃ X, X = upw w (kb + 3) (zA 8 (c 2)) := ⟨_, rfl⟩
  rw [← hw9] at hB9 hF
  refine (show Γ 45 [aR kb, aR ko] [] (0, 0) n w → _ from fun h => by rw [hw9] at h; exact h) ?_
  have hF0 := hF0.tr hF
  have hO := hO.ofFr hF hdj
  have hB := hB9
  refine qa_aload_n hΓ dX0_copy_45 rfl ?_
  refine qa_get hΓ dX0_copy_46 fk_X0_21 hO.lt hO.o rfl ?_
  refine qa_iconst (v := nI 0) hΓ dX0_copy_49 ic_0 ?_
  refine qa_aload_n hΓ dX0_copy_50 rfl ?_
  refine qa_get hΓ dX0_copy_51 fk_X0_21 hB.lt hB.o rfl ?_
  refine qa_iconst (v := nI 0) hΓ dX0_copy_54 ic_0 ?_
  refine qa_bipush (v := nI 8) hΓ dX0_copy_55 bp_8 ?_
  refine qa_copy hΓ dX0_copy_57 lk_X0_31 (hO.lti (i := 4) (by decide)) hO.a3 (hB.lti (i := 4) (by decide)) hB.a3 rfl rfl rfl (by decide) hd rfl ?_
  obtain ⟨hB9, hF⟩ := hB.setR 3 (c 3) (by decide) (k1 := kb + 4) (N := 8) rfl rfl
  obtain ⟨w, hw9⟩ : ∃ X, X = upw w (kb + 4) (zA 8 (c 3)) := ⟨_, rfl⟩
  rw [← hw9] at hB9 hF
  refine (show Γ 60 [aR kb, aR ko] [] (0, 0) n w → _ from fun h => by rw [hw9] at h; exact h) ?_
  have hF0 := hF0.tr hF
  have hO := hO.ofFr hF hdj
  have hB := hB9
  refine qa_aload_n hΓ dX0_copy_60 rfl ?_
  refine qa_get hΓ dX0_copy_61 fk_X0_24 hO.lt hO.o rfl ?_
  refine qa_iconst (v := nI 0) hΓ dX0_copy_64 ic_0 ?_
  refine qa_aload_n hΓ dX0_copy_65 rfl ?_
  refine qa_get hΓ dX0_copy_66 fk_X0_24 hB.lt hB.o rfl ?_
  refine qa_iconst (v := nI 0) hΓ dX0_copy_69 ic_0 ?_
  refine qa_bipush (v := nI 48) hΓ dX0_copy_70 bp_48 ?_
  refine qa_copy hΓ dX0_copy_72 lk_X0_31 (hO.lti (i := 5) (by decide)) hO.a4 (hB.lti (i := 5) (by decide)) hB.a4 rfl rfl rfl (by decide) hd rfl ?_
  obtain ⟨hB9, hF⟩ := hB.setR 4 (c 4) (by decide) (k1 := kb + 5) (N := 48) rfl rfl
  obtain ⟨w, hw9⟩ : ∃ X, X = upw w (kb + 5) (zA 48 (c 4)) := ⟨_, rfl⟩
  rw [← hw9] at hB9 hF
  refine (show Γ 75 [aR kb, aR ko] [] (0, 0) n w → _ from fun h => by rw [hw9] at h; exact h) ?_
  have hF0 := hF0.tr hF
  have hO := hO.ofFr hF hdj
  have hB := hB9
  refine qa_aload_n hΓ dX0_copy_75 rfl ?_
  refine qa_get hΓ dX0_copy_76 fk_X0_27 hO.lt hO.o rfl ?_
  refine qa_iconst (v := nI 0) hΓ dX0_copy_79 ic_0 ?_
  refine qa_aload_n hΓ dX0_copy_80 rfl ?_
  refine qa_get hΓ dX0_copy_81 fk_X0_27 hB.lt hB.o rfl ?_
  refine qa_iconst (v := nI 0) hΓ dX0_copy_84 ic_0 ?_
  refine qa_bipush (v := nI 16) hΓ dX0_copy_85 bp_16 ?_
  refine qa_copy hΓ dX0_copy_87 lk_X0_31 (hO.lti (i := 6) (by decide)) hO.a5 (hB.lti (i := 6) (by decide)) hB.a5 rfl rfl rfl (by decide) hd rfl ?_
  obtain ⟨hB9, hF⟩ := hB.setR 5 (c 5) (by decide) (k1 := kb + 6) (N := 16) rfl rfl
  obtain ⟨w, hw9⟩ : ∃ X, X = upw w (kb + 6) (zA 16 (c 5)) := ⟨_, rfl⟩
  rw [← hw9] at hB9 hF
  refine (show Γ 90 [aR kb, aR ko] [] (0, 0) n w → _ from fun h => by rw [hw9] at h; exact h) ?_
  have hF0 := hF0.tr hF
  have hO := hO.ofFr hF hdj
  have hB := hB9
  refine qa_aload_n hΓ dX0_copy_90 rfl ?_
  refine qa_aload_n hΓ dX0_copy_91 rfl ?_
  refine qa_get hΓ dX0_copy_92 fk_X0_37 hO.lt hO.o rfl ?_
  refine qB_put hΓ 0 dX0_copy_95 fk_X0_37 (by decide) hB (fun w hB hF => ?_)
  have hF0 := hF0.tr hF
  have hO := hO.ofFr hF hdj
  refine qa_aload_n hΓ dX0_copy_98 rfl ?_
  refine qa_aload_n hΓ dX0_copy_99 rfl ?_
  refine qa_get hΓ dX0_copy_100 fk_X0_41 hO.lt hO.o rfl ?_
  refine qB_put hΓ 1 dX0_copy_103 fk_X0_41 (by decide) hB (fun w hB hF => ?_)
  have hF0 := hF0.tr hF
  have hO := hO.ofFr hF hdj
  refine qa_aload_n hΓ dX0_copy_106 rfl ?_
  refine qa_aload_n hΓ dX0_copy_107 rfl ?_
  refine qa_get hΓ dX0_copy_108 fk_X0_44 hO.lt hO.o rfl ?_
  refine qB_put hΓ 2 dX0_copy_111 fk_X0_44 (by decide) hB (fun w hB hF => ?_)
  have hF0 := hF0.tr hF
  have hO := hO.ofFr hF hdj
  refine qa_aload_n hΓ dX0_copy_114 rfl ?_
  refine qa_aload_n hΓ dX0_copy_115 rfl ?_
  refine qa_get hΓ dX0_copy_116 fk_X0_47 hO.lt hO.o rfl ?_
  refine qB_put hΓ 3 dX0_copy_119 fk_X0_47 (by decide) hB (fun w hB hF => ?_)
  have hF0 := hF0.tr hF
  have hO := hO.ofFr hF hdj
  refine qa_aload_n hΓ dX0_copy_122 rfl ?_
  refine qa_aload_n hΓ dX0_copy_123 rfl ?_
  refine qa_get hΓ dX0_copy_124 fk_X0_50 hO.lt hO.o rfl ?_
  refine qB_put hΓ 4 dX0_copy_127 fk_X0_50 (by decide) hB (fun w hB hF => ?_)
  have hF0 := hF0.tr hF
  have hO := hO.ofFr hF hdj
  refine qa_aload_n hΓ dX0_copy_130 rfl ?_
  refine qa_aload_n hΓ dX0_copy_131 rfl ?_
  refine qa_get hΓ dX0_copy_132 fk_X0_53 hO.lt hO.o rfl ?_
  refine qB_put hΓ 5 dX0_copy_135 fk_X0_53 (by decide) hB (fun w hB hF => ?_)
  have hF0 := hF0.tr hF
  have hO := hO.ofFr hF hdj
  refine qa_aload_n hΓ dX0_copy_138 rfl ?_
  refine qa_aload_n hΓ dX0_copy_139 rfl ?_
  refine qa_get hΓ dX0_copy_140 fk_X0_56 hO.lt hO.o rfl ?_
  refine qB_put hΓ 6 dX0_copy_143 fk_X0_56 (by decide) hB (fun w hB hF => ?_)
  have hF0 := hF0.tr hF
  have hO := hO.ofFr hF hdj
  refine qa_aload_n hΓ dX0_copy_146 rfl ?_
  refine qa_aload_n hΓ dX0_copy_147 rfl ?_
  refine qa_get hΓ dX0_copy_148 fk_X0_59 hO.lt hO.o rfl ?_
  refine qB_put hΓ 7 dX0_copy_151 fk_X0_59 (by decide) hB (fun w hB hF => ?_)
  have hF0 := hF0.tr hF
  have hO := hO.ofFr hF hdj
  refine qa_aload_n hΓ dX0_copy_154 rfl ?_
  refine qa_aload_n hΓ dX0_copy_155 rfl ?_
  refine qa_get hΓ dX0_copy_156 fk_X0_62 hO.lt hO.o rfl ?_
  refine qB_put hΓ 8 dX0_copy_159 fk_X0_62 (by decide) hB (fun w hB hF => ?_)
  have hF0 := hF0.tr hF
  have hO := hO.ofFr hF hdj
  refine qr_v hR dX0_copy_162 ⟨rfl, _, hB, hF0, fun i hi => ?_, fun j hj => ?_⟩
  · rw [bset_ne _ _ _ (by omega), bset_ne _ _ _ (by omega), bset_ne _ _ _ (by omega), bset_ne _ _ _ (by omega), bset_ne _ _ _ (by omega), bset_ne _ _ _ (by omega), bset_ne _ _ _ (by omega), bset_ne _ _ _ (by omega), bset_ne _ _ _ (by omega)]
    rcases (show i = 0 ∨ i = 1 ∨ i = 2 ∨ i = 3 ∨ i = 4 ∨ i = 5 by omega) with rfl | rfl | rfl | rfl | rfl | rfl
    · rw [rset_ne _ _ (by decide), rset_ne _ _ (by decide), rset_ne _ _ (by decide), rset_ne _ _ (by decide), rset_ne _ _ (by decide), rset_eq]
    · rw [rset_ne _ _ (by decide), rset_ne _ _ (by decide), rset_ne _ _ (by decide), rset_ne _ _ (by decide), rset_eq]
    · rw [rset_ne _ _ (by decide), rset_ne _ _ (by decide), rset_ne _ _ (by decide), rset_eq]
    · rw [rset_ne _ _ (by decide), rset_ne _ _ (by decide), rset_eq]
    · rw [rset_ne _ _ (by decide), rset_eq]
    · rw [rset_eq]
  · simp only [bset_eq]
    rcases (show j = 0 ∨ j = 1 ∨ j = 2 ∨ j = 3 ∨ j = 4 ∨ j = 5 ∨ j = 6 ∨ j = 7 ∨ j = 8 by omega) with rfl | rfl | rfl | rfl | rfl | rfl | rfl | rfl | rfl
    · rw [upN_ne _ _ _ (by decide), upN_ne _ _ _ (by decide), upN_ne _ _ _ (by decide), upN_ne _ _ _ (by decide), upN_ne _ _ _ (by decide), upN_ne _ _ _ (by decide), upN_ne _ _ _ (by decide), upN_ne _ _ _ (by decide), upN_self]
    · rw [upN_ne _ _ _ (by decide), upN_ne _ _ _ (by decide), upN_ne _ _ _ (by decide), upN_ne _ _ _ (by decide), upN_ne _ _ _ (by decide), upN_ne _ _ _ (by decide), upN_ne _ _ _ (by decide), upN_self]
    · rw [upN_ne _ _ _ (by decide), upN_ne _ _ _ (by decide), upN_ne _ _ _ (by decide), upN_ne _ _ _ (by decide), upN_ne _ _ _ (by decide), upN_ne _ _ _ (by decide), upN_self]
    · rw [upN_ne _ _ _ (by decide), upN_ne _ _ _ (by decide), upN_ne _ _ _ (by decide), upN_ne _ _ _ (by decide), upN_ne _ _ _ (by decide), upN_self]
    · rw [upN_ne _ _ _ (by decide), upN_ne _ _ _ (by decide), upN_ne _ _ _ (by decide), upN_ne _ _ _ (by decide), upN_self]
    · rw [upN_ne _ _ _ (by decide), upN_ne _ _ _ (by decide), upN_ne _ _ _ (by decide), upN_self]
    · rw [upN_ne _ _ _ (by decide), upN_ne _ _ _ (by decide), upN_self]
    · rw [upN_ne _ _ _ (by decide), upN_self]
    · rw [upN_self]
end
section
/-! The class: keys, faults, delays, a new relay -/
theorem RepC.gen {s s' : Nat → Nat} {b b' : Bk} (h : RepC s b) (h6 : ∀ q, q < s 1 → vv s q 12 ≤ 6) (h1 : s' 1 = s 1) (a0 : b' 6 0 = b 6 0) (a1 : b' 6 1 = s' 2) (a2 : b' 6 2 = s' 0) (ri : ∀ q, q < s 1 → b' 0 q = vv s' q 0 ∧ b' 1 q = vv s' q 1 ∧ b' 2 q = vv s' q 2) (hb : ∀ i, i = 3 ∨ i = 4 ∨ i = 5 → b' i = b i) (hc : ∀ q x, x < 25 → (x = 3 ∨ x = 4 ∨ x = 5 ∨ 8 ≤ x) → vv s' q x = vv s q x) (m3 : ∀ j, j = 3 ∨ j = 4 ∨ j = 5 → b' 6 j = b 6 j) (m6 : b' 6 6 = mk (pM s' 7 1) (s 1)) (m7 : b' 6 7 = mk (pM s' 6 1) (s 1)) (m8 : b' 6 8 = mk (pM s' 6 2) (s 1)) : RepC s' b' := by
  obtain ⟨⟨g1, g2, g3⟩, g4, ⟨e3, e4, e5, e6, e7, e8⟩, gd, gz⟩ := h
  have pe : ∀ x v, x = 3 ∨ x = 4 ∨ x = 5 → pM s' x v = pM s x v := fun x v hx => by
    funext q
    unfold pM
    rw [hc q x (by omega) (by omega)]
  refine ⟨⟨a0.trans (g1.trans h1.symm), a1, a2⟩, fun q hq => ?_, ⟨?_, ?_, ?_, ?_, ?_, ?_⟩, fun q hq => ?_, fun q hq1 hq2 => ?_⟩
  · rw [h1] at hq
    obtain ⟨k1, k2, k3, k4, k5⟩ := g4 q hq
    obtain ⟨r1, r2, r3⟩ := ri q hq
    have := h6 q hq
    refine ⟨r1, r2, r3, ?_, fun j hj => ?_⟩
    · rw [hb 3 (by omega), hc q 12 (by omega) (by omega)]; exact k4
    · rw [hc q 12 (by omega) (by omega)] at hj
      rw [hb 4 (by omega), hc q _ (by omega) (by omega), hc q _ (by omega) (by omega)]
      exact k5 j hj
  · rw [m3 3 (by omega), h1, pe 4 1 (by omega)]; exact e3
  · rw [m3 4 (by omega), h1, pe 3 1 (by omega)]; exact e4
  · rw [m3 5 (by omega), h1, pe 5 1 (by omega)]; exact e5
  · rw [h1]; exact m6
  · rw [h1]; exact m7
  · rw [h1]; exact m8
  · rw [h1] at hq
    obtain ⟨d1, d2⟩ := gd q hq
    rw [hb 5 (by omega), d1, d2]
    unfold duA duE
    rw [hc q 8 (by omega) (by omega), hc q 9 (by omega) (by omega), hc q 10 (by omega) (by omega), hc q 11 (by omega) (by omega)]
    exact ⟨rfl, rfl⟩
  · rw [h1] at hq1
    rw [hb 3 (by omega), hb 5 (by omega)]
    exact gz q hq1 hq2
theorem SeC.gen {s s' : Nat → Nat} (h : SeC s) (h1 : s' 1 = s 1) (hc : ∀ q x, x < 25 → (x = 3 ∨ x = 4 ∨ x = 5 ∨ 8 ≤ x) → vv s' q x = vv s q x) : SeC s' := by
  intro q hq
  rw [h1] at hq
  rw [hc q 8 (by omega) (by omega), hc q 4 (by omega) (by omega), hc q 3 (by omega) (by omega), hc q 5 (by omega) (by omega), hc q 10 (by omega) (by omega)]
  exact h q hq
theorem mkE {s s' : Nat → Nat} {x v : Nat} (h : ∀ q, vv s' q x = vv s q x) : mk (pM s' x v) (s 1) = mk (pM s x v) (s 1) := mk_congr (fun q _ => by unfold pM; rw [h q])
theorem RepC.key {s : Nat → Nat} {b : Bk} {B v : Nat} (h : RepC s b) (hW : Wt s B) : RepC (upN s 0 v) (bset b 6 2 v) := by
  have hv : ∀ q x, vv (upN s 0 v) q x = vv s q x := fun q x => vv_hd s 0 v q x (by decide)
  have b6 : ∀ j, j ≠ 2 → bset b 6 2 v 6 j = b 6 j := fun j hj => by rw [bset_eq, upN_ne _ _ _ hj]
  have bi : ∀ i, i < 6 → bset b 6 2 v i = b i := fun i hi => bset_ne _ _ _ (by omega)
  refine h.gen (fun q hq => hW.m6 hq) (upN_ne _ _ _ (by decide)) (b6 0 (by decide)) ?_ (by rw [bset_eq, upN_self, upN_self]) (fun q hq => ?_) (fun i hi => bi i (by omega)) (fun q x _ _ => hv q x) (fun j hj => b6 j (by omega)) ?_ ?_ ?_
  · rw [b6 1 (by decide), upN_ne _ _ _ (by decide)]; exact h.1.2.1
  · obtain ⟨k1, k2, k3, _⟩ := h.2.1 q hq
    rw [bi 0 (by decide), bi 1 (by decide), bi 2 (by decide), hv, hv, hv]
    exact ⟨k1, k2, k3⟩
  · rw [b6 6 (by decide), mkE (fun q => hv q 7)]; exact h.2.2.1.2.2.2.1
  · rw [b6 7 (by decide), mkE (fun q => hv q 6)]; exact h.2.2.1.2.2.2.2.1
  · rw [b6 8 (by decide), mkE (fun q => hv q 6)]; exact h.2.2.1.2.2.2.2.2
theorem RepC.time {s : Nat → Nat} {b : Bk} {B v : Nat} (h : RepC s b) (hW : Wt s B) : RepC (upN s 2 v) (bset b 6 1 v) := by
  have hv : ∀ q x, vv (upN s 2 v) q x = vv s q x := fun q x => vv_hd s 2 v q x (by decide)
  have b6 : ∀ j, j ≠ 1 → bset b 6 1 v 6 j = b 6 j := fun j hj => by rw [bset_eq, upN_ne _ _ _ hj]
  have bi : ∀ i, i < 6 → bset b 6 1 v i = b i := fun i hi => bset_ne _ _ _ (by omega)
  refine h.gen (fun q hq => hW.m6 hq) (upN_ne _ _ _ (by decide)) (b6 0 (by decide)) (by rw [bset_eq, upN_self, upN_self]) ?_ (fun q hq => ?_) (fun i hi => bi i (by omega)) (fun q x _ _ => hv q x) (fun j hj => b6 j (by omega)) ?_ ?_ ?_
  · rw [b6 2 (by decide), upN_ne _ _ _ (by decide)]; exact h.1.2.2
  · obtain ⟨k1, k2, k3, _⟩ := h.2.1 q hq
    rw [bi 0 (by decide), bi 1 (by decide), bi 2 (by decide), hv, hv, hv]
    exact ⟨k1, k2, k3⟩
  · rw [b6 6 (by decide), mkE (fun q => hv q 7)]; exact h.2.2.1.2.2.2.1
  · rw [b6 7 (by decide), mkE (fun q => hv q 6)]; exact h.2.2.1.2.2.2.2.1
  · rw [b6 8 (by decide), mkE (fun q => hv q 6)]; exact h.2.2.1.2.2.2.2.2
theorem RepC.stk {s : Nat → Nat} {b : Bk} {B r v x : Nat} (h : RepC s b) (hW : Wt s B) (hx : x = mk (pM (upN s (ix r 7) v) 7 1) (s 1)) : RepC (upN s (ix r 7) v) (bset b 6 6 x) := by
  have hv : ∀ q y, y < 25 → y ≠ 7 → vv (upN s (ix r 7) v) q y = vv s q y := fun q y hy hc => vv_oth _ _ _ _ _ _ (by decide) hy (Or.inr hc)
  have b6 : ∀ j, j ≠ 6 → bset b 6 6 x 6 j = b 6 j := fun j hj => by rw [bset_eq, upN_ne _ _ _ hj]
  have bi : ∀ i, i < 6 → bset b 6 6 x i = b i := fun i hi => bset_ne _ _ _ (by omega)
  refine h.gen (fun q hq => hW.m6 hq) (hd_up _ _ _ _ (by decide)) (b6 0 (by decide)) ?_ ?_ (fun q hq => ?_) (fun i hi => bi i (by omega)) (fun q y hy hc => hv q y hy (by omega)) (fun j hj => b6 j (by omega)) (by rw [bset_eq, upN_self]; exact hx) ?_ ?_
  · rw [b6 1 (by decide), hd_up _ _ _ _ (by decide)]; exact h.1.2.1
  · rw [b6 2 (by decide), hd_up _ _ _ _ (by decide)]; exact h.1.2.2
  · obtain ⟨k1, k2, k3, _⟩ := h.2.1 q hq
    rw [bi 0 (by decide), bi 1 (by decide), bi 2 (by decide), hv q 0 (by decide) (by decide), hv q 1 (by decide) (by decide), hv q 2 (by decide) (by decide)]
    exact ⟨k1, k2, k3⟩
  · rw [b6 7 (by decide), mkE (fun q => hv q 6 (by decide) (by decide))]; exact h.2.2.1.2.2.2.2.1
  · rw [b6 8 (by decide), mkE (fun q => hv q 6 (by decide) (by decide))]; exact h.2.2.1.2.2.2.2.2
theorem RepC.flt {s : Nat → Nat} {b : Bk} {B r v x y : Nat} (h : RepC s b) (hW : Wt s B) (hx : x = mk (pM (upN s (ix r 6) v) 6 1) (s 1)) (hy : y = mk (pM (upN s (ix r 6) v) 6 2) (s 1)) : RepC (upN s (ix r 6) v) (bset (bset b 6 7 x) 6 8 y) := by
  have hv : ∀ q y, y < 25 → y ≠ 6 → vv (upN s (ix r 6) v) q y = vv s q y := fun q y hy hc => vv_oth _ _ _ _ _ _ (by decide) hy (Or.inr hc)
  have b6 : ∀ j, j ≠ 7 → j ≠ 8 → bset (bset b 6 7 x) 6 8 y 6 j = b 6 j := fun j hj hj2 => by rw [bset_eq, upN_ne _ _ _ hj2, bset_eq, upN_ne _ _ _ hj]
  have bi : ∀ i, i < 6 → bset (bset b 6 7 x) 6 8 y i = b i := fun i hi => by rw [bset_ne _ _ _ (by omega), bset_ne _ _ _ (by omega)]
  refine h.gen (fun q hq => hW.m6 hq) (hd_up _ _ _ _ (by decide)) (b6 0 (by decide) (by decide)) ?_ ?_ (fun q hq => ?_) (fun i hi => bi i (by omega)) (fun q y hy hc => hv q y hy (by omega)) (fun j hj => b6 j (by omega) (by omega)) ?_ (by rw [bset_eq, upN_ne _ _ _ (by decide), bset_eq, upN_self]; exact hx) (by rw [bset_eq, upN_self]; exact hy)
  · rw [b6 1 (by decide) (by decide), hd_up _ _ _ _ (by decide)]; exact h.1.2.1
  · rw [b6 2 (by decide) (by decide), hd_up _ _ _ _ (by decide)]; exact h.1.2.2
  · obtain ⟨k1, k2, k3, _⟩ := h.2.1 q hq
    rw [bi 0 (by decide), bi 1 (by decide), bi 2 (by decide), hv q 0 (by decide) (by decide), hv q 1 (by decide) (by decide), hv q 2 (by decide) (by decide)]
    exact ⟨k1, k2, k3⟩
  · rw [b6 6 (by decide) (by decide), mkE (fun q => hv q 7 (by decide) (by decide))]; exact h.2.2.1.2.2.2.1
theorem SeC.col {s : Nat → Nat} {r x v : Nat} (h : SeC s) (hx : x < 25) (hc : x = 0 ∨ x = 1 ∨ x = 2 ∨ x = 6 ∨ x = 7) : SeC (upN s (ix r x) v) := h.gen (hd_up _ _ _ _ (by decide)) (fun q y hy h2 => vv_oth _ _ _ _ _ _ hx hy (Or.inr (by omega)))
theorem SeC.head {s : Nat → Nat} {j v : Nat} (h : SeC s) (hj : j = 0 ∨ j = 2) : SeC (upN s j v) := h.gen (upN_ne _ _ _ (by omega)) (fun q y hy h2 => vv_hd _ _ _ _ _ (by omega))
theorem Wt.key {s : Nat → Nat} {B v : Nat} (h : Wt s B) (hv : v < 256) : Wt (upN s 0 v) B := by
  refine ⟨by rw [upN_self]; exact hv, by rw [upN_ne _ _ _ (by decide)]; exact h.2.1, by rw [upN_ne _ _ _ (by decide)]; exact h.2.2.1, fun r hr x hx => ?_⟩
  rw [upN_ne _ _ _ (by decide)] at hr
  rw [vv_hd _ _ _ _ _ (by decide)]
  exact h.2.2.2 r hr x hx
set_option maxRecDepth 100000 in
set_option maxHeartbeats 4000000 in
theorem c_X0_turnKey (l : Launch) (d : Nat) (hd : 3 ≤ d) {n kb : Nat} {w : Nat → AC} {b : Bk} (hB : BkAt n w kb b) {s : Nat → Nat} (hR0 : RepC s b) {B : Nat} (hW : Wt s B) (hBd : B < 900000000) (hS : SeC s) (key : Nat) (hk : key < 8) : Sq l yX0_turnKey cX0_turnKey 2 (some .int) d [aR kb, aZ key] n w (Qv (aZ (lks (prS s key)).1) (PR n kb (lks (prS s key)).2 w)) := by
  refine Sp.of (plainFor_of_name (by decide)) (Nat.le_of_ble_eq_true rfl) (fun Γ hΓ hR => ?_)
  show Γ 0 [aR kb, aZ key] [] (0, 0) n w
  have hF0 : Fr kb 7 w w := Fr.rf
  have h8 := hW.2.1
  have hk2 : s 0 ^^^ 1 <<< key < 256 := Nat.xor_lt_two_pow (n := 8) hW.1 (by rw [Nat.one_shiftLeft]; exact Nat.pow_lt_pow_right (by decide) hk)
  refine qa_aload_n hΓ dX0_turnKey_0 rfl ?_
  refine qa_dup hΓ dX0_turnKey_1 ?_
  refine qa_get hΓ dX0_turnKey_2 fk_X0_44 hB.lt hB.o rfl ?_
  rw [hR0.1.2.2]
  refine qa_iconst (v := nI 1) hΓ dX0_turnKey_5 ic_1 ?_
  refine qa_iload_n hΓ dX0_turnKey_6 rfl ?_
  refine qz_ishl hΓ dX0_turnKey_7 (by omega) ?_
  refine qz_ixor hΓ dX0_turnKey_8 ?_
  refine qB_put hΓ 2 dX0_turnKey_9 fk_X0_44 (by decide) hB (fun w hB hF => ?_)
  have hF0 := hF0.tr hF
  refine qa_aload_n hΓ dX0_turnKey_12 rfl ?_
  refine qc_V1q hΓ dX0_turnKey_13 lk_X0_99 vw_X0_lookAtCoils (by omega) (c_X0_lookAtCoils l (d - 1) (by omega) hB (hR0.key hW) (hW.key hk2) hBd (hS.head (Or.inl rfl))) rfl hB.lt hB.o rfl rfl (Nat.le_of_ble_eq_true rfl) (fun w hq => ?_)
  obtain ⟨b', hB, hF, hR2, hS2⟩ := hq
  have hF0 := hF0.tr hF
  exact qr_i hR dX0_turnKey_16 ⟨rfl, _, hB, hF0, hR2, hS2⟩

set_option maxRecDepth 100000 in
set_option maxHeartbeats 4000000 in
theorem c_X0_putFault (l : Launch) (d : Nat) (hd : 3 ≤ d) {n kb : Nat} {w : Nat → AC} {b : Bk} (hB : BkAt n w kb b) {s : Nat → Nat} (hR0 : RepC s b) {B : Nat} (hW : Wt s B) (hBd : B < 900000000) (hS : SeC s) (r f : Nat) (hr : r < s 1) (hf : f ≤ 2) : Sq l yX0_putFault cX0_putFault 4 none d [aR kb, aZ r, aZ f] n w (Qn (PR n kb (lks (upN s (ix r 6) f)).2 w)) := by
  refine Sp.of (plainFor_of_name (by decide)) (Nat.le_of_ble_eq_true rfl) (fun Γ hΓ hR => ?_)
  show Γ 0 [aR kb, aZ r, aZ f, none] [] (0, 0) n w
  have hF0 : Fr kb 7 w w := Fr.rf
  have h8 := hW.2.1
  obtain ⟨e3, e4, e5, e6, e7, e8⟩ := hR0.2.2.1
  have hp : ∀ q, vv (upN s (ix r 6) f) q 6 = if q = r then f else vv s q 6 := fun q => by
    rw [vv_up _ _ _ _ _ _ (by decide) (by decide)]
    by_cases e : q = r
    · rw [if_pos e, if_pos ⟨e, rfl⟩]
    · rw [if_neg e, if_neg (fun q1 => e q1.1)]
  have ho : ∀ v, f = v → mk (pM s 6 v) (s 1) ||| 1 <<< r = mk (pM (upN s (ix r 6) f) 6 v) (s 1) := fun v hv => mk_or hr (fun i hi => by
    unfold pM
    rw [hp i]
    by_cases e : i = r
    · rw [if_pos e, if_pos e, hv]; exact decide_eq_true rfl
    · rw [if_neg e, if_neg e])
  have hcl : ∀ v, f ≠ v → _root_.Jvm.Pilot.@@N@@.andn (mk (pM s 6 v) (s 1)) (1 <<< r) = mk (pM (upN s (ix r 6) f) 6 v) (s 1) := fun v hv => mk_clr h8 (fun i hi => by
    unfold pM
    rw [hp i]
    by_cases e : i = r
    · rw [if_pos e, if_pos e]; exact decide_eq_false hv
    · rw [if_neg e, if_neg e])
  refine qa_iconst (v := nI 1) hΓ dX0_putFault_0 ic_1 ?_
  refine qa_iload_n hΓ dX0_putFault_1 rfl ?_
  refine qz_ishl hΓ dX0_putFault_2 (by omega) ?_
  refine qa_istore_n hΓ dX0_putFault_3 (by decide) ?_
  refine qa_aload_n hΓ dX0_putFault_4 rfl ?_
  refine qa_iload_n hΓ dX0_putFault_5 rfl ?_
  refine qa_iconst (v := nI 1) hΓ dX0_putFault_6 ic_1 ?_
  refine qz_icmp_ne (tgt := 19) hΓ dX0_putFault_7 (by decide) (by omega) (by omega) (fun h_7 => ?_) (fun h_7 => ?_)
  · refine qa_aload_n hΓ dX0_putFault_19 rfl ?_
    refine qa_get hΓ dX0_putFault_20 fk_X0_59 hB.lt hB.o rfl ?_
    refine qa_iload_n hΓ dX0_putFault_23 rfl ?_
    refine qa_iconst (v := -1) hΓ dX0_putFault_24 ic_m1 ?_
    refine qa_ixor hΓ dX0_putFault_25 ?_
    refine qa_iand hΓ dX0_putFault_26 ?_
    rw [andn_int (by have := pm_lt hW e7; omega)]
    refine qB_put hΓ 7 dX0_putFault_27 fk_X0_59 (by decide) hB (fun w hB hF => ?_)
    have hF0 := hF0.tr hF
    refine qa_aload_n hΓ dX0_putFault_30 rfl ?_
    refine qa_iload_n hΓ dX0_putFault_31 rfl ?_
    refine qa_iconst (v := nI 2) hΓ dX0_putFault_32 ic_2 ?_
    refine qz_icmp_ne (tgt := 45) hΓ dX0_putFault_33 (by decide) (by omega) (by omega) (fun h_33 => ?_) (fun h_33 => ?_)
    · refine qa_aload_n hΓ dX0_putFault_45 rfl ?_
      refine qa_get hΓ dX0_putFault_46 fk_X0_62 hB.lt hB.o rfl ?_
      rw [show ∀ x, bset b 6 7 x 6 8 = b 6 8 from fun x => by rw [bset_eq, upN_ne _ _ _ (by decide)]]
      refine qa_iload_n hΓ dX0_putFault_49 rfl ?_
      refine qa_iconst (v := -1) hΓ dX0_putFault_50 ic_m1 ?_
      refine qa_ixor hΓ dX0_putFault_51 ?_
      refine qa_iand hΓ dX0_putFault_52 ?_
      rw [andn_int (by have := pm_lt hW e8; omega)]
      refine qB_put hΓ 8 dX0_putFault_53 fk_X0_62 (by decide) hB (fun w hB hF => ?_)
      have hF0 := hF0.tr hF
      refine qa_aload_n hΓ dX0_putFault_56 rfl ?_
      refine qc_V1q hΓ dX0_putFault_57 lk_X0_99 vw_X0_lookAtCoils (by omega) (c_X0_lookAtCoils l (d - 1) (by omega) hB (hR0.flt (r := r) (v := f) hW (by rw [e7]; exact hcl 1 h_7) (by rw [e8]; exact hcl 2 h_33)) (hW.up (by decide) (by simp [bdF]; omega)) hBd (hS.col (by decide) (by omega))) rfl hB.lt hB.o rfl rfl (Nat.le_of_ble_eq_true rfl) (fun w hq => ?_)
      obtain ⟨b', hB, hF, hR2, hS2⟩ := hq
      have hF0 := hF0.tr hF
      refine qa_pop hΓ dX0_putFault_60 ?_
      exact qr_v hR dX0_putFault_61 ⟨rfl, _, hB, hF0, hR2, hS2⟩
    · refine qa_aload_n hΓ dX0_putFault_36 rfl ?_
      refine qa_get hΓ dX0_putFault_37 fk_X0_62 hB.lt hB.o rfl ?_
      rw [show ∀ x, bset b 6 7 x 6 8 = b 6 8 from fun x => by rw [bset_eq, upN_ne _ _ _ (by decide)]]
      refine qa_iload_n hΓ dX0_putFault_40 rfl ?_
      refine qz_ior hΓ dX0_putFault_41 ?_
      refine qa_goto (tgt := 53) hΓ dX0_putFault_42 (by decide) ?_
      refine qB_put hΓ 8 dX0_putFault_53 fk_X0_62 (by decide) hB (fun w hB hF => ?_)
      have hF0 := hF0.tr hF
      refine qa_aload_n hΓ dX0_putFault_56 rfl ?_
      refine qc_V1q hΓ dX0_putFault_57 lk_X0_99 vw_X0_lookAtCoils (by omega) (c_X0_lookAtCoils l (d - 1) (by omega) hB (hR0.flt (r := r) (v := f) hW (by rw [e7]; exact hcl 1 h_7) (by rw [e8]; exact ho 2 h_33)) (hW.up (by decide) (by simp [bdF]; omega)) hBd (hS.col (by decide) (by omega))) rfl hB.lt hB.o rfl rfl (Nat.le_of_ble_eq_true rfl) (fun w hq => ?_)
      obtain ⟨b', hB, hF, hR2, hS2⟩ := hq
      have hF0 := hF0.tr hF
      refine qa_pop hΓ dX0_putFault_60 ?_
      exact qr_v hR dX0_putFault_61 ⟨rfl, _, hB, hF0, hR2, hS2⟩
  · refine qa_aload_n hΓ dX0_putFault_10 rfl ?_
    refine qa_get hΓ dX0_putFault_11 fk_X0_59 hB.lt hB.o rfl ?_
    refine qa_iload_n hΓ dX0_putFault_14 rfl ?_
    refine qz_ior hΓ dX0_putFault_15 ?_
    refine qa_goto (tgt := 27) hΓ dX0_putFault_16 (by decide) ?_
    refine qB_put hΓ 7 dX0_putFault_27 fk_X0_59 (by decide) hB (fun w hB hF => ?_)
    have hF0 := hF0.tr hF
    refine qa_aload_n hΓ dX0_putFault_30 rfl ?_
    refine qa_iload_n hΓ dX0_putFault_31 rfl ?_
    refine qa_iconst (v := nI 2) hΓ dX0_putFault_32 ic_2 ?_
    refine qz_icmp_ne (tgt := 45) hΓ dX0_putFault_33 (by decide) (by omega) (by omega) (fun h_33 => ?_) (fun h_33 => ?_)
    · refine qa_aload_n hΓ dX0_putFault_45 rfl ?_
      refine qa_get hΓ dX0_putFault_46 fk_X0_62 hB.lt hB.o rfl ?_
      rw [show ∀ x, bset b 6 7 x 6 8 = b 6 8 from fun x => by rw [bset_eq, upN_ne _ _ _ (by decide)]]
      refine qa_iload_n hΓ dX0_putFault_49 rfl ?_
      refine qa_iconst (v := -1) hΓ dX0_putFault_50 ic_m1 ?_
      refine qa_ixor hΓ dX0_putFault_51 ?_
      refine qa_iand hΓ dX0_putFault_52 ?_
      rw [andn_int (by have := pm_lt hW e8; omega)]
      refine qB_put hΓ 8 dX0_putFault_53 fk_X0_62 (by decide) hB (fun w hB hF => ?_)
      have hF0 := hF0.tr hF
      refine qa_aload_n hΓ dX0_putFault_56 rfl ?_
      refine qc_V1q hΓ dX0_putFault_57 lk_X0_99 vw_X0_lookAtCoils (by omega) (c_X0_lookAtCoils l (d - 1) (by omega) hB (hR0.flt (r := r) (v := f) hW (by rw [e7]; exact ho 1 h_7) (by rw [e8]; exact hcl 2 h_33)) (hW.up (by decide) (by simp [bdF]; omega)) hBd (hS.col (by decide) (by omega))) rfl hB.lt hB.o rfl rfl (Nat.le_of_ble_eq_true rfl) (fun w hq => ?_)
      obtain ⟨b', hB, hF, hR2, hS2⟩ := hq
      have hF0 := hF0.tr hF
      refine qa_pop hΓ dX0_putFault_60 ?_
      exact qr_v hR dX0_putFault_61 ⟨rfl, _, hB, hF0, hR2, hS2⟩
    · refine qa_aload_n hΓ dX0_putFault_36 rfl ?_
      refine qa_get hΓ dX0_putFault_37 fk_X0_62 hB.lt hB.o rfl ?_
      rw [show ∀ x, bset b 6 7 x 6 8 = b 6 8 from fun x => by rw [bset_eq, upN_ne _ _ _ (by decide)]]
      refine qa_iload_n hΓ dX0_putFault_40 rfl ?_
      refine qz_ior hΓ dX0_putFault_41 ?_
      refine qa_goto (tgt := 53) hΓ dX0_putFault_42 (by decide) ?_
      refine qB_put hΓ 8 dX0_putFault_53 fk_X0_62 (by decide) hB (fun w hB hF => ?_)
      have hF0 := hF0.tr hF
      refine qa_aload_n hΓ dX0_putFault_56 rfl ?_
      refine qc_V1q hΓ dX0_putFault_57 lk_X0_99 vw_X0_lookAtCoils (by omega) (c_X0_lookAtCoils l (d - 1) (by omega) hB (hR0.flt (r := r) (v := f) hW (by rw [e7]; exact ho 1 h_7) (by rw [e8]; exact ho 2 h_33)) (hW.up (by decide) (by simp [bdF]; omega)) hBd (hS.col (by decide) (by omega))) rfl hB.lt hB.o rfl rfl (Nat.le_of_ble_eq_true rfl) (fun w hq => ?_)
      obtain ⟨b', hB, hF, hR2, hS2⟩ := hq
      have hF0 := hF0.tr hF
      refine qa_pop hΓ dX0_putFault_60 ?_
      exact qr_v hR dX0_putFault_61 ⟨rfl, _, hB, hF0, hR2, hS2⟩
end
section
/-! The class: delays and new relays -/
theorem addS_hd (s : Nat → Nat) (a b c : Nat) {j : Nat} (hj : j < 3) : addS s a b c j = if j = 1 then s 1 + 1 else s j := by
  unfold addS sdS
  rw [hd_up _ _ _ _ hj, hd_up _ _ _ _ hj, hd_up _ _ _ _ hj]
  unfold zrS
  rw [if_neg (by omega)]
  by_cases h : j = 1
  · rw [if_pos h, h, upN_self]
  · rw [if_neg h, upN_ne _ _ _ h]
theorem addS_v (s : Nat → Nat) (a b c q x : Nat) (hx : x < 25) : vv (addS s a b c) q x = if q = s 1 then (if x = 0 then a else if x = 1 then b else if x = 2 then c else 0) else vv s q x := by
  unfold addS sdS
  rw [vv_up _ _ _ _ _ _ (by decide) hx, vv_up _ _ _ _ _ _ (by decide) hx, vv_up _ _ _ _ _ _ (by decide) hx]
  by_cases h : q = s 1
  · rw [if_pos h]
    by_cases h2 : x = 2
    · rw [if_pos ⟨h, h2⟩, if_neg (by omega), if_neg (by omega), if_pos h2]
    · rw [if_neg (fun u => h2 u.2)]
      by_cases h1 : x = 1
      · rw [if_pos ⟨h, h1⟩, if_neg (by omega), if_pos h1]
      · rw [if_neg (fun u => h1 u.2)]
        by_cases h0 : x = 0
        · rw [if_pos ⟨h, h0⟩, if_pos h0]
        · rw [if_neg (fun u => h0 u.2), if_neg h0, if_neg h1, if_neg h2]
          unfold vv zrS
          rw [if_pos (by omega)]
  · rw [if_neg (fun u => h u.1), if_neg (fun u => h u.1), if_neg (fun u => h u.1), if_neg h]
    unfold vv zrS
    rw [if_neg (by omega), upN_ne _ _ _ (by omega)]
theorem mk_grow {p q : Nat → Bool} {n : Nat} (h : ∀ i, i < n → q i = p i) (hn : q n = false) : mk q (n + 1) = mk p n := by
  show mk q n ||| (if q n then 1 <<< n else 0) = _
  rw [hn]
  simp only [Bool.false_eq_true, if_false, Nat.or_zero]
  exact mk_congr h
theorem RepC.add {s : Nat → Nat} {b b' : Bk} {B x y z : Nat} (h : RepC s b) (hW : Wt s B) (h7 : s 1 < 8) (hb' : b' = bset (bset (bset (bset b 6 0 (s 1 + 1)) 0 (s 1) x) 1 (s 1) y) 2 (s 1) z) : RepC (addS s x y z) b' := by
  have h6 : ∀ q, q < s 1 → vv s q 12 ≤ 6 := fun q hq => hW.m6 hq
  have hd1 : addS s x y z 1 = s 1 + 1 := addS_hd s x y z (by decide)
  have hv := addS_v s x y z
  have b6 : ∀ j, j ≠ 0 → b' 6 j = b 6 j := fun j hj => by rw [hb', bset_ne _ _ _ (by decide), bset_ne _ _ _ (by decide), bset_ne _ _ _ (by decide), bset_eq, upN_ne _ _ _ hj]
  have bi : ∀ i, i = 3 ∨ i = 4 ∨ i = 5 → b' i = b i := fun i hi => by rw [hb', bset_ne _ _ _ (by omega), bset_ne _ _ _ (by omega), bset_ne _ _ _ (by omega), bset_ne _ _ _ (by omega)]
  have b0 : ∀ q, b' 0 q = if q = s 1 then x else b 0 q := fun q => by
    rw [hb', bset_ne _ _ _ (by decide), bset_ne _ _ _ (by decide), bset_eq, bset_ne _ _ _ (by decide)]
    by_cases e : q = s 1
    · rw [if_pos e, e, upN_self]
    · rw [if_neg e, upN_ne _ _ _ e]
  have b1 : ∀ q, b' 1 q = if q = s 1 then y else b 1 q := fun q => by
    rw [hb', bset_ne _ _ _ (by decide), bset_eq, bset_ne _ _ _ (by decide), bset_ne _ _ _ (by decide)]
    by_cases e : q = s 1
    · rw [if_pos e, e, upN_self]
    · rw [if_neg e, upN_ne _ _ _ e]
  have b2 : ∀ q, b' 2 q = if q = s 1 then z else b 2 q := fun q => by
    rw [hb', bset_eq, bset_ne _ _ _ (by decide), bset_ne _ _ _ (by decide), bset_ne _ _ _ (by decide)]
    by_cases e : q = s 1
    · rw [if_pos e, e, upN_self]
    · rw [if_neg e, upN_ne _ _ _ e]
  obtain ⟨⟨g1, g2, g3⟩, g4, ⟨e3, e4, e5, e6, e7, e8⟩, gd, gz⟩ := h
  have old : ∀ q u, q < s 1 → u < 25 → vv (addS s x y z) q u = vv s q u := fun q u hq hu => by rw [hv q u hu, if_neg (by omega)]
  have new : ∀ u, u < 25 → 3 ≤ u → vv (addS s x y z) (s 1) u = 0 := fun u hu h3 => by rw [hv _ u hu, if_pos rfl, if_neg (by omega), if_neg (by omega), if_neg (by omega)]
  have mkg : ∀ u v, u < 25 → 3 ≤ u → 1 ≤ v → mk (pM (addS s x y z) u v) (s 1 + 1) = mk (pM s u v) (s 1) := fun u v hu h3 h1 => mk_grow (fun i hi => by unfold pM; rw [old i u hi hu]) (by unfold pM; rw [new u hu h3]; exact decide_eq_false (by omega))
  refine ⟨⟨?_, ?_, ?_⟩, fun q hq => ?_, ⟨?_, ?_, ?_, ?_, ?_, ?_⟩, fun q hq => ?_, fun q hq1 hq2 => ?_⟩
  · rw [hd1, hb', bset_ne _ _ _ (by decide), bset_ne _ _ _ (by decide), bset_ne _ _ _ (by decide), bset_eq, upN_self]
  · rw [b6 1 (by decide), addS_hd _ _ _ _ (by decide)]; exact g2
  · rw [b6 2 (by decide), addS_hd _ _ _ _ (by decide)]; exact g3
  · rw [hd1] at hq
    rw [b0, b1, b2, bi 3 (by omega), bi 4 (by omega), hv q 0 (by decide), hv q 1 (by decide), hv q 2 (by decide), hv q 12 (by decide)]
    by_cases e : q = s 1
    · rw [if_pos e, if_pos e, if_pos e, if_pos e, if_pos e, if_pos e, if_pos e]
      refine ⟨rfl, rfl, rfl, by rw [e]; exact (gz _ (Nat.le_refl _) h7).1, fun j hj => absurd hj (Nat.not_lt_zero _)⟩
    · rw [if_neg e, if_neg e, if_neg e, if_neg e, if_neg e, if_neg e, if_neg e]
      obtain ⟨k1, k2, k3, k4, k5⟩ := g4 q (by omega)
      have := h6 q (by omega)
      refine ⟨k1, k2, k3, k4, fun j hj => ?_⟩
      rw [old q _ (by omega) (by omega), old q _ (by omega) (by omega)]
      exact k5 j hj
  · rw [b6 3 (by decide), hd1, mkg 4 1 (by decide) (by decide) (by decide)]; exact e3
  · rw [b6 4 (by decide), hd1, mkg 3 1 (by decide) (by decide) (by decide)]; exact e4
  · rw [b6 5 (by decide), hd1, mkg 5 1 (by decide) (by decide) (by decide)]; exact e5
  · rw [b6 6 (by decide), hd1, mkg 7 1 (by decide) (by decide) (by decide)]; exact e6
  · rw [b6 7 (by decide), hd1, mkg 6 1 (by decide) (by decide) (by decide)]; exact e7
  · rw [b6 8 (by decide), hd1, mkg 6 2 (by decide) (by decide) (by decide)]; exact e8
  · rw [hd1] at hq
    rw [bi 5 (by omega)]
    unfold duA duE
    by_cases e : q = s 1
    · subst e
      rw [new 8 (by decide) (by decide), new 10 (by decide) (by decide), if_pos rfl, if_pos rfl]
      exact (gz _ (Nat.le_refl _) h7).2
    · rw [old q 8 (by omega) (by decide), old q 9 (by omega) (by decide), old q 10 (by omega) (by decide), old q 11 (by omega) (by decide)]
      exact gd q (by omega)
  · rw [hd1] at hq1
    rw [bi 3 (by omega), bi 5 (by omega)]
    exact gz q (by omega) hq2
theorem SeC.add {s : Nat → Nat} {x y z : Nat} (h : SeC s) : SeC (addS s x y z) := by
  intro q hq
  have hv := addS_v s x y z
  rw [addS_hd s x y z (by decide), if_pos rfl] at hq
  rw [hv q 8 (by decide), hv q 4 (by decide), hv q 3 (by decide), hv q 5 (by decide), hv q 10 (by decide)]
  by_cases e : q = s 1
  · simp [e]
  · rw [if_neg e, if_neg e, if_neg e, if_neg e, if_neg e]
    exact h q (by omega)
theorem RepC.sd {s : Nat → Nat} {b : Bk} {B r x y z : Nat} (h : RepC s b) (hW : Wt s B) : RepC (sdS s r x y z) (bset (bset (bset b 0 r x) 1 r y) 2 r z) := by
  have hv : ∀ q u, u < 25 → vv (sdS s r x y z) q u = if q = r ∧ u = 2 then z else if q = r ∧ u = 1 then y else if q = r ∧ u = 0 then x else vv s q u := fun q u hu => by
    unfold sdS
    rw [vv_up _ _ _ _ _ _ (by decide) hu, vv_up _ _ _ _ _ _ (by decide) hu, vv_up _ _ _ _ _ _ (by decide) hu]
  have hh : ∀ j, j < 3 → sdS s r x y z j = s j := fun j hj => by
    unfold sdS
    rw [hd_up _ _ _ _ hj, hd_up _ _ _ _ hj, hd_up _ _ _ _ hj]
  have ho : ∀ q u, u < 25 → 3 ≤ u → vv (sdS s r x y z) q u = vv s q u := fun q u hu h3 => by rw [hv q u hu, if_neg (by omega), if_neg (by omega), if_neg (by omega)]
  have bi : ∀ i, 3 ≤ i → bset (bset (bset b 0 r x) 1 r y) 2 r z i = b i := fun i hi => by rw [bset_ne _ _ _ (by omega), bset_ne _ _ _ (by omega), bset_ne _ _ _ (by omega)]
  refine h.gen (fun q hq => hW.m6 hq) (hh 1 (by decide)) (by rw [bi 6 (by decide)]) (by rw [bi 6 (by decide), hh 2 (by decide)]; exact h.1.2.1) (by rw [bi 6 (by decide), hh 0 (by decide)]; exact h.1.2.2) (fun q hq => ?_) (fun i hi => bi i (by omega)) (fun q u hu hc => ho q u hu (by omega)) (fun j hj => by rw [bi 6 (by decide)]) ?_ ?_ ?_
  · obtain ⟨k1, k2, k3, _⟩ := h.2.1 q hq
    rw [hv q 0 (by decide), hv q 1 (by decide), hv q 2 (by decide)]
    by_cases e : q = r
    · subst e
      simp [bset_eq, bset, upN_self]
    · simp [e, bset, upN_ne, k1, k2, k3]
  · rw [bi 6 (by decide), mkE (fun q => ho q 7 (by decide) (by decide))]; exact h.2.2.1.2.2.2.1
  · rw [bi 6 (by decide), mkE (fun q => ho q 6 (by decide) (by decide))]; exact h.2.2.1.2.2.2.2.1
  · rw [bi 6 (by decide), mkE (fun q => ho q 6 (by decide) (by decide))]; exact h.2.2.1.2.2.2.2.2
theorem SeC.sd {s : Nat → Nat} {r x y z : Nat} (h : SeC s) : SeC (sdS s r x y z) := ((h.col (by decide) (by decide)).col (by decide) (by decide)).col (by decide) (by decide)
set_option maxRecDepth 100000 in
set_option maxHeartbeats 4000000 in
theorem c_X0_putDelays (l : Launch) (d : Nat) (hd : 1 ≤ d) {n kb : Nat} {w : Nat → AC} {b : Bk} (hB : BkAt n w kb b) (r p q1 q2 : Nat) (hr : r < 8) : Sq l yX0_putDelays cX0_putDelays 6 (some .boolean) d [aR kb, aZ r, aZ p, aZ q1, aZ q2] n w (Qv (aZ (!decide (nI (b 0 r) = nI p ∧ nI (b 1 r) = nI q1 ∧ nI (b 2 r) = nI q2)).toNat) (PB n kb (bset (bset (bset b 0 r p) 1 r q1) 2 r q2) w)) := by
  refine Sp.of (plainFor_of_name (by decide)) (Nat.le_of_ble_eq_true rfl) (fun Γ hΓ hR => ?_)
  show Γ 0 [aR kb, aZ r, aZ p, aZ q1, aZ q2, none] [] (0, 0) n w
  have hF0 : Fr kb 7 w w := Fr.rf
  refine qa_aload_n hΓ dX0_putDelays_0 rfl ?_
  refine qa_get hΓ dX0_putDelays_1 fk_X0_9 hB.lt hB.o rfl ?_
  refine qa_iload_n hΓ dX0_putDelays_4 rfl ?_
  refine qc_N1 hΓ dX0_putDelays_5 nk_X0_73 vw_X5_at (by omega) (c_X5_at l (d - 1) (hB.lti (i := 1) (by decide)) hB.a0 _ (by omega) (by decide)) rfl rfl (Nat.le_of_ble_eq_true rfl) ?_
  refine qa_iload_n hΓ dX0_putDelays_8 rfl ?_
  refine qa_icmp_ne (tgt := 41) hΓ dX0_putDelays_9 (by decide) (fun h_9 => ?_) (fun h_9 => ?_)
  · refine qa_iconst (v := nI 0) hΓ dX0_putDelays_41 ic_0 ?_
    refine qa_istore hΓ dX0_putDelays_42 (by decide) ?_
    refine qa_aload_n hΓ dX0_putDelays_44 rfl ?_
    refine qa_get hΓ dX0_putDelays_45 fk_X0_9 hB.lt hB.o rfl ?_
    refine qa_iload_n hΓ dX0_putDelays_48 rfl ?_
    refine qa_iload_n hΓ dX0_putDelays_49 rfl ?_
    refine qc_N0q hΓ dX0_putDelays_50 nk_X0_77 vw_X5_put (by omega) (c_X5_putB l (d - 1) hB 0 r p (by decide) (by show _ < 8; omega)) rfl rfl (Nat.le_of_ble_eq_true rfl) (fun w hq => ?_)
    obtain ⟨hB, hF⟩ := hq
    have hF0 := hF0.tr hF
    refine qa_aload_n hΓ dX0_putDelays_53 rfl ?_
    refine qa_get hΓ dX0_putDelays_54 fk_X0_15 hB.lt hB.o rfl ?_
    refine qa_iload_n hΓ dX0_putDelays_57 rfl ?_
    refine qa_iload_n hΓ dX0_putDelays_58 rfl ?_
    refine qc_N0q hΓ dX0_putDelays_59 nk_X0_77 vw_X5_put (by omega) (c_X5_putB l (d - 1) hB 1 r q1 (by decide) (by show _ < 8; omega)) rfl rfl (Nat.le_of_ble_eq_true rfl) (fun w hq => ?_)
    obtain ⟨hB, hF⟩ := hq
    have hF0 := hF0.tr hF
    refine qa_aload_n hΓ dX0_putDelays_62 rfl ?_
    refine qa_get hΓ dX0_putDelays_63 fk_X0_18 hB.lt hB.o rfl ?_
    refine qa_iload_n hΓ dX0_putDelays_66 rfl ?_
    refine qa_iload hΓ dX0_putDelays_67 rfl ?_
    refine qc_N0q hΓ dX0_putDelays_69 nk_X0_77 vw_X5_put (by omega) (c_X5_putB l (d - 1) hB 2 r q2 (by decide) (by show _ < 8; omega)) rfl rfl (Nat.le_of_ble_eq_true rfl) (fun w hq => ?_)
    obtain ⟨hB, hF⟩ := hq
    have hF0 := hF0.tr hF
    refine qa_iload hΓ dX0_putDelays_72 rfl ?_
    refine qz_if_ne (tgt := 81) hΓ dX0_putDelays_74 (by decide) (by decide) (fun h => absurd h (by decide)) (fun _ => ?_)
    refine qa_iconst (v := nI 1) hΓ dX0_putDelays_77 ic_1 ?_
    refine qa_goto (tgt := 82) hΓ dX0_putDelays_78 (by decide) ?_
    exact qr_b (p := true) hR dX0_putDelays_82 ⟨by rw [decide_eq_false (fun q => h_9 (q.1))]; rfl, hB, hF0⟩
  · refine qa_aload_n hΓ dX0_putDelays_12 rfl ?_
    refine qa_get hΓ dX0_putDelays_13 fk_X0_15 hB.lt hB.o rfl ?_
    refine qa_iload_n hΓ dX0_putDelays_16 rfl ?_
    refine qc_N1 hΓ dX0_putDelays_17 nk_X0_73 vw_X5_at (by omega) (c_X5_at l (d - 1) (hB.lti (i := 2) (by decide)) hB.a1 _ (by omega) (by decide)) rfl rfl (Nat.le_of_ble_eq_true rfl) ?_
    refine qa_iload_n hΓ dX0_putDelays_20 rfl ?_
    refine qa_icmp_ne (tgt := 41) hΓ dX0_putDelays_21 (by decide) (fun h_21 => ?_) (fun h_21 => ?_)
    · refine qa_iconst (v := nI 0) hΓ dX0_putDelays_41 ic_0 ?_
      refine qa_istore hΓ dX0_putDelays_42 (by decide) ?_
      refine qa_aload_n hΓ dX0_putDelays_44 rfl ?_
      refine qa_get hΓ dX0_putDelays_45 fk_X0_9 hB.lt hB.o rfl ?_
      refine qa_iload_n hΓ dX0_putDelays_48 rfl ?_
      refine qa_iload_n hΓ dX0_putDelays_49 rfl ?_
      refine qc_N0q hΓ dX0_putDelays_50 nk_X0_77 vw_X5_put (by omega) (c_X5_putB l (d - 1) hB 0 r p (by decide) (by show _ < 8; omega)) rfl rfl (Nat.le_of_ble_eq_true rfl) (fun w hq => ?_)
      obtain ⟨hB, hF⟩ := hq
      have hF0 := hF0.tr hF
      refine qa_aload_n hΓ dX0_putDelays_53 rfl ?_
      refine qa_get hΓ dX0_putDelays_54 fk_X0_15 hB.lt hB.o rfl ?_
      refine qa_iload_n hΓ dX0_putDelays_57 rfl ?_
      refine qa_iload_n hΓ dX0_putDelays_58 rfl ?_
      refine qc_N0q hΓ dX0_putDelays_59 nk_X0_77 vw_X5_put (by omega) (c_X5_putB l (d - 1) hB 1 r q1 (by decide) (by show _ < 8; omega)) rfl rfl (Nat.le_of_ble_eq_true rfl) (fun w hq => ?_)
      obtain ⟨hB, hF⟩ := hq
      have hF0 := hF0.tr hF
      refine qa_aload_n hΓ dX0_putDelays_62 rfl ?_
      refine qa_get hΓ dX0_putDelays_63 fk_X0_18 hB.lt hB.o rfl ?_
      refine qa_iload_n hΓ dX0_putDelays_66 rfl ?_
      refine qa_iload hΓ dX0_putDelays_67 rfl ?_
      refine qc_N0q hΓ dX0_putDelays_69 nk_X0_77 vw_X5_put (by omega) (c_X5_putB l (d - 1) hB 2 r q2 (by decide) (by show _ < 8; omega)) rfl rfl (Nat.le_of_ble_eq_true rfl) (fun w hq => ?_)
      obtain ⟨hB, hF⟩ := hq
      have hF0 := hF0.tr hF
      refine qa_iload hΓ dX0_putDelays_72 rfl ?_
      refine qz_if_ne (tgt := 81) hΓ dX0_putDelays_74 (by decide) (by decide) (fun h => absurd h (by decide)) (fun _ => ?_)
      refine qa_iconst (v := nI 1) hΓ dX0_putDelays_77 ic_1 ?_
      refine qa_goto (tgt := 82) hΓ dX0_putDelays_78 (by decide) ?_
      exact qr_b (p := true) hR dX0_putDelays_82 ⟨by rw [decide_eq_false (fun q => h_21 (q.2.1))]; rfl, hB, hF0⟩
    · refine qa_aload_n hΓ dX0_putDelays_24 rfl ?_
      refine qa_get hΓ dX0_putDelays_25 fk_X0_18 hB.lt hB.o rfl ?_
      refine qa_iload_n hΓ dX0_putDelays_28 rfl ?_
      refine qc_N1 hΓ dX0_putDelays_29 nk_X0_73 vw_X5_at (by omega) (c_X5_at l (d - 1) (hB.lti (i := 3) (by decide)) hB.a2 _ (by omega) (by decide)) rfl rfl (Nat.le_of_ble_eq_true rfl) ?_
      refine qa_iload hΓ dX0_putDelays_32 rfl ?_
      refine qa_icmp_ne (tgt := 41) hΓ dX0_putDelays_34 (by decide) (fun h_34 => ?_) (fun h_34 => ?_)
      · refine qa_iconst (v := nI 0) hΓ dX0_putDelays_41 ic_0 ?_
        refine qa_istore hΓ dX0_putDelays_42 (by decide) ?_
        refine qa_aload_n hΓ dX0_putDelays_44 rfl ?_
        refine qa_get hΓ dX0_putDelays_45 fk_X0_9 hB.lt hB.o rfl ?_
        refine qa_iload_n hΓ dX0_putDelays_48 rfl ?_
        refine qa_iload_n hΓ dX0_putDelays_49 rfl ?_
        refine qc_N0q hΓ dX0_putDelays_50 nk_X0_77 vw_X5_put (by omega) (c_X5_putB l (d - 1) hB 0 r p (by decide) (by show _ < 8; omega)) rfl rfl (Nat.le_of_ble_eq_true rfl) (fun w hq => ?_)
        obtain ⟨hB, hF⟩ := hq
        have hF0 := hF0.tr hF
        refine qa_aload_n hΓ dX0_putDelays_53 rfl ?_
        refine qa_get hΓ dX0_putDelays_54 fk_X0_15 hB.lt hB.o rfl ?_
        refine qa_iload_n hΓ dX0_putDelays_57 rfl ?_
        refine qa_iload_n hΓ dX0_putDelays_58 rfl ?_
        refine qc_N0q hΓ dX0_putDelays_59 nk_X0_77 vw_X5_put (by omega) (c_X5_putB l (d - 1) hB 1 r q1 (by decide) (by show _ < 8; omega)) rfl rfl (Nat.le_of_ble_eq_true rfl) (fun w hq => ?_)
        obtain ⟨hB, hF⟩ := hq
        have hF0 := hF0.tr hF
        refine qa_aload_n hΓ dX0_putDelays_62 rfl ?_
        refine qa_get hΓ dX0_putDelays_63 fk_X0_18 hB.lt hB.o rfl ?_
        refine qa_iload_n hΓ dX0_putDelays_66 rfl ?_
        refine qa_iload hΓ dX0_putDelays_67 rfl ?_
        refine qc_N0q hΓ dX0_putDelays_69 nk_X0_77 vw_X5_put (by omega) (c_X5_putB l (d - 1) hB 2 r q2 (by decide) (by show _ < 8; omega)) rfl rfl (Nat.le_of_ble_eq_true rfl) (fun w hq => ?_)
        obtain ⟨hB, hF⟩ := hq
        have hF0 := hF0.tr hF
        refine qa_iload hΓ dX0_putDelays_72 rfl ?_
        refine qz_if_ne (tgt := 81) hΓ dX0_putDelays_74 (by decide) (by decide) (fun h => absurd h (by decide)) (fun _ => ?_)
        refine qa_iconst (v := nI 1) hΓ dX0_putDelays_77 ic_1 ?_
        refine qa_goto (tgt := 82) hΓ dX0_putDelays_78 (by decide) ?_
        exact qr_b (p := true) hR dX0_putDelays_82 ⟨by rw [decide_eq_false (fun q => h_34 (q.2.2))]; rfl, hB, hF0⟩
      · refine qa_iconst (v := nI 1) hΓ dX0_putDelays_37 ic_1 ?_
        refine qa_goto (tgt := 42) hΓ dX0_putDelays_38 (by decide) ?_
        refine qa_istore hΓ dX0_putDelays_42 (by decide) ?_
        refine qa_aload_n hΓ dX0_putDelays_44 rfl ?_
        refine qa_get hΓ dX0_putDelays_45 fk_X0_9 hB.lt hB.o rfl ?_
        refine qa_iload_n hΓ dX0_putDelays_48 rfl ?_
        refine qa_iload_n hΓ dX0_putDelays_49 rfl ?_
        refine qc_N0q hΓ dX0_putDelays_50 nk_X0_77 vw_X5_put (by omega) (c_X5_putB l (d - 1) hB 0 r p (by decide) (by show _ < 8; omega)) rfl rfl (Nat.le_of_ble_eq_true rfl) (fun w hq => ?_)
        obtain ⟨hB, hF⟩ := hq
        have hF0 := hF0.tr hF
        refine qa_aload_n hΓ dX0_putDelays_53 rfl ?_
        refine qa_get hΓ dX0_putDelays_54 fk_X0_15 hB.lt hB.o rfl ?_
        refine qa_iload_n hΓ dX0_putDelays_57 rfl ?_
        refine qa_iload_n hΓ dX0_putDelays_58 rfl ?_
        refine qc_N0q hΓ dX0_putDelays_59 nk_X0_77 vw_X5_put (by omega) (c_X5_putB l (d - 1) hB 1 r q1 (by decide) (by show _ < 8; omega)) rfl rfl (Nat.le_of_ble_eq_true rfl) (fun w hq => ?_)
        obtain ⟨hB, hF⟩ := hq
        have hF0 := hF0.tr hF
        refine qa_aload_n hΓ dX0_putDelays_62 rfl ?_
        refine qa_get hΓ dX0_putDelays_63 fk_X0_18 hB.lt hB.o rfl ?_
        refine qa_iload_n hΓ dX0_putDelays_66 rfl ?_
        refine qa_iload hΓ dX0_putDelays_67 rfl ?_
        refine qc_N0q hΓ dX0_putDelays_69 nk_X0_77 vw_X5_put (by omega) (c_X5_putB l (d - 1) hB 2 r q2 (by decide) (by show _ < 8; omega)) rfl rfl (Nat.le_of_ble_eq_true rfl) (fun w hq => ?_)
        obtain ⟨hB, hF⟩ := hq
        have hF0 := hF0.tr hF
        refine qa_iload hΓ dX0_putDelays_72 rfl ?_
        refine qz_if_ne (tgt := 81) hΓ dX0_putDelays_74 (by decide) (by decide) (fun _ => ?_) (fun h => absurd h (by decide))
        refine qa_iconst (v := nI 0) hΓ dX0_putDelays_81 ic_0 ?_
        exact qr_b (p := false) hR dX0_putDelays_82 ⟨by rw [decide_eq_true ⟨h_9, h_21, h_34⟩]; rfl, hB, hF0⟩

set_option maxRecDepth 100000 in
set_option maxHeartbeats 4000000 in
theorem c_X0_add (l : Launch) (d : Nat) (hd : 2 ≤ d) {n kb : Nat} {w : Nat → AC} {b : Bk} (hB : BkAt n w kb b) {s : Nat → Nat} (hR0 : RepC s b) {B : Nat} (hW : Wt s B) (hBd : B < 900000000) (hS : SeC s) (x y z : Nat) (h7 : s 1 < 8) : Sq l yX0_add cX0_add 5 (some .int) d [aR kb, aZ x, aZ y, aZ z] n w (Qv (aZ (s 1)) (PR n kb (addS s x y z) w)) := by
  refine Sp.of (plainFor_of_name (by decide)) (Nat.le_of_ble_eq_true rfl) (fun Γ hΓ hR => ?_)
  show Γ 0 [aR kb, aZ x, aZ y, aZ z, none] [] (0, 0) n w
  have hF0 : Fr kb 7 w w := Fr.rf
  refine qa_aload_n hΓ dX0_add_0 rfl ?_
  refine qa_get hΓ dX0_add_1 fk_X0_37 hB.lt hB.o rfl ?_
  rw [hR0.1.1]
  refine qa_istore hΓ dX0_add_4 (by decide) ?_
  refine qa_aload_n hΓ dX0_add_6 rfl ?_
  refine qa_dup hΓ dX0_add_7 ?_
  refine qa_get hΓ dX0_add_8 fk_X0_37 hB.lt hB.o rfl ?_
  rw [hR0.1.1]
  refine qa_iconst (v := nI 1) hΓ dX0_add_11 ic_1 ?_
  refine qz_iadd hΓ dX0_add_12 ?_
  refine qB_put hΓ 0 dX0_add_13 fk_X0_37 (by decide) hB (fun w hB hF => ?_)
  have hF0 := hF0.tr hF
  refine qa_aload_n hΓ dX0_add_16 rfl ?_
  refine qa_iload hΓ dX0_add_17 rfl ?_
  refine qa_iload_n hΓ dX0_add_19 rfl ?_
  refine qa_iload_n hΓ dX0_add_20 rfl ?_
  refine qa_iload_n hΓ dX0_add_21 rfl ?_
  refine qc_V1q hΓ dX0_add_22 lk_X0_69 vw_X0_putDelays (by omega) (c_X0_putDelays l (d - 1) (by omega) hB (s 1) x y z h7) rfl hB.lt hB.o rfl rfl (Nat.le_of_ble_eq_true rfl) (fun w hq => ?_)
  obtain ⟨hB, hF⟩ := hq
  have hF0 := hF0.tr hF
  refine qa_pop hΓ dX0_add_25 ?_
  refine qa_iload hΓ dX0_add_26 rfl ?_
  exact qr_i hR dX0_add_28 ⟨rfl, _, hB, hF0, hR0.add hW h7 rfl, hS.add⟩
end
section
/-! The class: circuits -/
theorem SeC.lo {s s' : Nat → Nat} (h : SeC s) (h1 : s' 1 = s 1) (hc : ∀ q x, x < 12 → vv s' q x = vv s q x) : SeC s' := by
  intro q hq
  rw [h1] at hq
  rw [hc q 8 (by omega), hc q 4 (by omega), hc q 3 (by omega), hc q 5 (by omega), hc q 10 (by omega)]
  exact h q hq
theorem RepC.brs {s s' : Nat → Nat} {b b' : Bk} {r : Nat} (h : RepC s b) (hr : r < s 1) (h6 : ∀ q, q < s 1 → vv s q 12 ≤ 6) (hh : ∀ j, j < 3 → s' j = s j) (hc : ∀ q x, x < 25 → (q ≠ r ∨ x < 12) → vv s' q x = vv s q x) (hi : ∀ i, i ≠ 3 → i ≠ 4 → b' i = b i) (h3 : ∀ q, b' 3 q = if q = r then vv s' r 12 else b 3 q) (h4o : ∀ q j, q ≠ r → j < 6 → b' 4 (q * 6 + j) = b 4 (q * 6 + j)) (h4 : ∀ j, j < vv s' r 12 → b' 4 (r * 6 + j) = cmb (vv s' r (13 + 2 * j)) (vv s' r (13 + 2 * j + 1))) : RepC s' b' := by
  obtain ⟨⟨g1, g2, g3⟩, g4, ⟨e3, e4, e5, e6, e7, e8⟩, gd, gz⟩ := h
  have h1 := hh 1 (by decide)
  have pe : ∀ x v, x < 12 → pM s' x v = pM s x v := fun x v hx => by
    funext q
    unfold pM
    rw [hc q x (by omega) (Or.inr hx)]
  refine ⟨⟨?_, ?_, ?_⟩, fun q hq => ?_, ⟨?_, ?_, ?_, ?_, ?_, ?_⟩, fun q hq => ?_, fun q hq1 hq2 => ?_⟩
  · rw [hi 6 (by decide) (by decide), h1]; exact g1
  · rw [hi 6 (by decide) (by decide), hh 2 (by decide)]; exact g2
  · rw [hi 6 (by decide) (by decide), hh 0 (by decide)]; exact g3
  · rw [h1] at hq
    obtain ⟨k1, k2, k3, k4, k5⟩ := g4 q hq
    have := h6 q hq
    rw [hi 0 (by decide) (by decide), hi 1 (by decide) (by decide), hi 2 (by decide) (by decide), h3, hc q 0 (by decide) (Or.inr (by decide)), hc q 1 (by decide) (Or.inr (by decide)), hc q 2 (by decide) (Or.inr (by decide))]
    by_cases e : q = r
    · subst e
      rw [if_pos rfl]
      exact ⟨k1, k2, k3, rfl, h4⟩
    · rw [if_neg e, hc q 12 (by decide) (Or.inl e)]
      refine ⟨k1, k2, k3, k4, fun j hj => ?_⟩
      rw [h4o q j e (by omega), hc q _ (by omega) (Or.inl e), hc q _ (by omega) (Or.inl e)]
      exact k5 j hj
  · rw [hi 6 (by decide) (by decide), h1, pe 4 1 (by decide)]; exact e3
  · rw [hi 6 (by decide) (by decide), h1, pe 3 1 (by decide)]; exact e4
  · rw [hi 6 (by decide) (by decide), h1, pe 5 1 (by decide)]; exact e5
  · rw [hi 6 (by decide) (by decide), h1, pe 7 1 (by decide)]; exact e6
  · rw [hi 6 (by decide) (by decide), h1, pe 6 1 (by decide)]; exact e7
  · rw [hi 6 (by decide) (by decide), h1, pe 6 2 (by decide)]; exact e8
  · rw [h1] at hq
    rw [hi 5 (by decide) (by decide)]
    unfold duA duE
    rw [hc q 8 (by decide) (Or.inr (by decide)), hc q 9 (by decide) (Or.inr (by decide)), hc q 10 (by decide) (Or.inr (by decide)), hc q 11 (by decide) (Or.inr (by decide))]
    exact gd q hq
  · rw [h1] at hq1
    rw [h3, if_neg (by omega), hi 5 (by decide) (by decide)]
    exact gz q hq1 hq2
theorem set3 (b : Bk) (r v q : Nat) : bset b 3 r v 3 q = if q = r then v else b 3 q := by
  rw [bset_eq]
  by_cases e : q = r
  · rw [if_pos e, e, upN_self]
  · rw [if_neg e, upN_ne _ _ _ e]
theorem set4 (b : Bk) (a v q : Nat) : bset b 4 a v 4 q = if q = a then v else b 4 q := by
  rw [bset_eq]
  by_cases e : q = a
  · rw [if_pos e, e, upN_self]
  · rw [if_neg e, upN_ne _ _ _ e]
theorem how_cmb {s : Nat → Nat} {B r j x : Nat} (hW : Wt s B) (hr : r < s 1) (hj : j < 6) : howO (cmb (vv s r (13 + 2 * j)) (vv s r (13 + 2 * j + 1))) x = how3 s r j x := by
  have hp := hW.m16 hr (x := 13 + 2 * j) (by omega) (by omega)
  unfold how3 howO
  rw [cmb_lo hp, cmb_hi hp]
theorem cmb_32 {s : Nat → Nat} {B r j : Nat} (hW : Wt s B) (hr : r < s 1) (hj : j < 6) : cmb (vv s r (13 + 2 * j)) (vv s r (13 + 2 * j + 1)) < 4294967296 := cmb_lt (hW.m16 hr (by omega) (by omega)) (hW.m16 hr (by omega) (by omega))
set_option maxRecDepth 100000 in
set_option maxHeartbeats 4000000 in
theorem c_X0_concerns (l : Launch) (d : Nat) (hd : 2 ≤ d) {n kb : Nat} {w : Nat → AC} {b : Bk} (hB : BkAt n w kb b) {s : Nat → Nat} (hR0 : RepC s b) {B : Nat} (hW : Wt s B) (hBd : B < 900000000) (r x : Nat) (hr : r < s 1) (hx : x < 16) : Sq l yX0_concerns cX0_concerns 5 (some .boolean) d [aR kb, aZ r, aZ x] n w (Rs (some (aZ (decide (∃ j, j < vv s r 12 ∧ ¬ how3 s r j x = 0)).toNat)) w) := by
  refine Sp.of (plainFor_of_name (by decide)) (Nat.le_of_ble_eq_true rfl) (fun Γ hΓ hR => ?_)
  show Γ 0 [aR kb, aZ r, aZ x, none, none] [] (0, 0) n w
  have h8 := hW.2.1
  have h6 := hW.m6 hr
  have loop : ∀ (m i : Nat), i ≤ vv s r 12 → vv s r 12 < i + m → (∀ j, j < i → how3 s r j x = 0) → Γ 9 [aR kb, aZ r, aZ x, aZ (vv s r 12), aZ i] [] (0, 0) n w := by
    intro m
    induction m with
    | zero => intro i h1 h2; exact absurd h2 (by omega)
    | succ m ih =>
      intro i hi hm hz
      refine qa_iload hΓ dX0_concerns_9 rfl ?_
      refine qa_iload_n hΓ dX0_concerns_11 rfl ?_
      refine qz_icmp_ge (tgt := 37) hΓ dX0_concerns_12 (by decide) (by omega) (by omega) (fun h_12 => ?_) (fun h_12 => ?_)
      · refine qa_iconst (v := nI 0) hΓ dX0_concerns_37 ic_0 ?_
        exact qr_b (p := false) hR dX0_concerns_38 ⟨by rw [decide_eq_false (fun q => by obtain ⟨j, hj, hn⟩ := q; exact hn (hz j (by omega)))], rfl⟩
      · refine qa_aload_n hΓ dX0_concerns_15 rfl ?_
        refine qa_iload_n hΓ dX0_concerns_16 rfl ?_
        refine qa_iload hΓ dX0_concerns_17 rfl ?_
        refine qc_V1 hΓ dX0_concerns_19 lk_X0_85 vw_X0_branchAt (by omega) (c_X0_branchAt l (d - 1) (by omega) hB r i (by omega) (by omega)) rfl hB.lt hB.o rfl rfl (Nat.le_of_ble_eq_true rfl) ?_
        rw [(hR0.2.1 r hr).2.2.2.2 i (by omega)]
        refine qa_iload_n hΓ dX0_concerns_22 rfl ?_
        refine qc_S1 hΓ dX0_concerns_23 lk_X0_103 vw_X1_howOf (by omega) (c_X1_howOf l (d - 1) (by omega) _ x (cmb_32 hW hr (by omega)) hx) rfl rfl (Nat.le_of_ble_eq_true rfl) ?_
        rw [how_cmb hW hr (by omega)]
        have hh2 := how3_le s r i x
        refine qz_if_eq (tgt := 31) hΓ dX0_concerns_26 (by decide) (by omega) (fun h_26 => ?_) (fun h_26 => ?_)
        · refine qz_iinc hΓ dX0_concerns_31 ii_1 rfl (by decide) ?_
          refine qa_goto (tgt := 9) hΓ dX0_concerns_34 (by decide) ?_
          refine ih (i + 1) (by omega) (by omega) (fun j hj => ?_)
          by_cases e : j = i
          · rw [e]; exact h_26
          · exact hz j (by omega)
        · refine qa_iconst (v := nI 1) hΓ dX0_concerns_29 ic_1 ?_
          exact qr_b (p := true) hR dX0_concerns_30 ⟨by rw [decide_eq_true ⟨i, by omega, h_26⟩], rfl⟩
  refine qa_aload_n hΓ dX0_concerns_0 rfl ?_
  refine qa_iload_n hΓ dX0_concerns_1 rfl ?_
  refine qc_V1 hΓ dX0_concerns_2 lk_X0_81 vw_X0_branchesOf (by omega) (c_X0_branchesOf l (d - 1) (by omega) hB r (by omega)) rfl hB.lt hB.o rfl rfl (Nat.le_of_ble_eq_true rfl) ?_
  rw [(hR0.2.1 r hr).2.2.2.1]
  refine qa_istore_n hΓ dX0_concerns_5 (by decide) ?_
  refine qa_iconst (v := nI 0) hΓ dX0_concerns_6 ic_0 ?_
  refine qa_istore hΓ dX0_concerns_7 (by decide) ?_
  exact loop (vv s r 12 + 1) 0 (Nat.zero_le _) (by omega) (fun j hj => absurd hj (Nat.not_lt_zero _))
end
section
/-! The class: conditions set, branches removed -/
theorem bset_bset (b : Bk) (i j x y : Nat) : bset (bset b i j x) i j y = bset b i j y := by
  funext a q
  by_cases e : a = i
  · subst e
    rw [bset_eq, bset_eq, bset_eq]
    by_cases e2 : q = j
    · rw [e2, upN_self, upN_self]
    · rw [upN_ne _ _ _ e2, upN_ne _ _ _ e2, upN_ne _ _ _ e2]
  · rw [bset_ne _ _ _ e, bset_ne _ _ _ e, bset_ne _ _ _ e]
theorem cnS_v (s : Nat → Nat) (r j x how q y : Nat) (hj : j < 6) (hy : y < 25) : vv (cnS s r j x how) q y = if q = r ∧ y = 13 + 2 * j + 1 then (if how = 2 then clr (vv s r (13 + 2 * j + 1)) x ||| 1 <<< x else clr (vv s r (13 + 2 * j + 1)) x) else if q = r ∧ y = 13 + 2 * j then (if how = 1 then clr (vv s r (13 + 2 * j)) x ||| 1 <<< x else clr (vv s r (13 + 2 * j)) x) else vv s q y := by
  unfold cnS
  rw [vv_up _ _ _ _ _ _ (by omega) hy, vv_up _ _ _ _ _ _ (by omega) hy]
theorem cnS_hd (s : Nat → Nat) (r j x how : Nat) {i : Nat} (hi : i < 3) : cnS s r j x how i = s i := by
  unfold cnS
  rw [hd_up _ _ _ _ hi, hd_up _ _ _ _ hi]
theorem opS_v (s : Nat → Nat) (r q y : Nat) (hk : vv s r 12 < 6) (hy : y < 25) : vv (opS s r) q y = if q = r ∧ y = 12 then vv s r 12 + 1 else if q = r ∧ y = 13 + 2 * vv s r 12 + 1 then 0 else if q = r ∧ y = 13 + 2 * vv s r 12 then 0 else vv s q y := by
  unfold opS
  rw [vv_up _ _ _ _ _ _ (by decide) hy, vv_up _ _ _ _ _ _ (by omega) hy, vv_up _ _ _ _ _ _ (by omega) hy]
theorem opS_hd (s : Nat → Nat) (r : Nat) {i : Nat} (hi : i < 3) : opS s r i = s i := by
  unfold opS
  rw [hd_up _ _ _ _ hi, hd_up _ _ _ _ hi, hd_up _ _ _ _ hi]
theorem RepC.cn {s : Nat → Nat} {b : Bk} {B r j x how : Nat} (h : RepC s b) (hW : Wt s B) (hr : r < s 1) (hj : j < vv s r 12) : RepC (cnS s r j x how) (bset b 4 (r * 6 + j) (wi (b 4 (r * 6 + j)) x how)) := by
  have h6 := hW.m6 hr
  have hv := fun q y hy => cnS_v s r j x how q y (by omega) hy
  have hp := hW.m16 hr (x := 13 + 2 * j) (by omega) (by omega)
  have e12 : vv (cnS s r j x how) r 12 = vv s r 12 := by rw [hv r 12 (by decide), if_neg (by omega), if_neg (by omega)]
  refine h.brs hr (fun q hq => hW.m6 hq) (fun i hi => cnS_hd s r j x how hi) (fun q y hy hc => by rw [hv q y hy, if_neg (by omega), if_neg (by omega)]) (fun i h3 h4 => bset_ne _ _ _ h4) (fun q => ?_) (fun q i hq hi => by rw [set4, if_neg (by omega)]) (fun i hi => ?_)
  · rw [bset_ne _ _ _ (by decide), e12]
    by_cases e : q = r
    · rw [if_pos e, e]; exact (h.2.1 r hr).2.2.2.1
    · rw [if_neg e]
  · rw [e12] at hi
    rw [set4]
    by_cases e : i = j
    · subst e
      have a1 : vv (cnS s r i x how) r (13 + 2 * i) = if how = 1 then clr (vv s r (13 + 2 * i)) x ||| 1 <<< x else clr (vv s r (13 + 2 * i)) x := by rw [hv r _ (by omega), if_neg (by omega), if_pos ⟨rfl, rfl⟩]
      have a2 : vv (cnS s r i x how) r (13 + 2 * i + 1) = if how = 2 then clr (vv s r (13 + 2 * i + 1)) x ||| 1 <<< x else clr (vv s r (13 + 2 * i + 1)) x := by rw [hv r _ (by omega), if_pos ⟨rfl, rfl⟩]
      rw [if_pos rfl, a1, a2, (h.2.1 r hr).2.2.2.2 i hi]
      unfold wi
      rw [cmb_lo hp, cmb_hi hp]
    · have a1 : vv (cnS s r j x how) r (13 + 2 * i) = vv s r (13 + 2 * i) := by rw [hv r _ (by omega), if_neg (by omega), if_neg (by omega)]
      have a2 : vv (cnS s r j x how) r (13 + 2 * i + 1) = vv s r (13 + 2 * i + 1) := by rw [hv r _ (by omega), if_neg (by omega), if_neg (by omega)]
      rw [if_neg (by omega), a1, a2]
      exact (h.2.1 r hr).2.2.2.2 i hi
theorem RepC.op {s : Nat → Nat} {b : Bk} {B r : Nat} (h : RepC s b) (hW : Wt s B) (hr : r < s 1) (hk : vv s r 12 < 6) : RepC (opS s r) (bset (bset b 3 r (vv s r 12 + 1)) 4 (r * 6 + vv s r 12) 0) := by
  have hv := fun q y hy => opS_v s r q y hk hy
  have e12 : vv (opS s r) r 12 = vv s r 12 + 1 := by rw [hv r 12 (by decide), if_pos ⟨rfl, rfl⟩]
  refine h.brs hr (fun q hq => hW.m6 hq) (fun i hi => opS_hd s r hi) (fun q y hy hc => by rw [hv q y hy, if_neg (by omega), if_neg (by omega), if_neg (by omega)]) (fun i h3 h4 => by rw [bset_ne _ _ _ h4, bset_ne _ _ _ h3]) (fun q => by rw [bset_ne _ _ _ (by decide), set3, e12]) (fun q i hq hi => by rw [set4, if_neg (by omega), bset_ne _ _ _ (by decide)]) (fun i hi => ?_)
  rw [e12] at hi
  rw [set4]
  by_cases e : i = vv s r 12
  · have a1 : vv (opS s r) r (13 + 2 * i) = 0 := by rw [hv r _ (by omega), if_neg (by omega), if_neg (by omega), if_pos (by omega)]
    have a2 : vv (opS s r) r (13 + 2 * i + 1) = 0 := by rw [hv r _ (by omega), if_neg (by omega), if_pos (by omega)]
    rw [if_pos (by omega), a1, a2]
    rfl
  · have a1 : vv (opS s r) r (13 + 2 * i) = vv s r (13 + 2 * i) := by rw [hv r _ (by omega), if_neg (by omega), if_neg (by omega), if_neg (by omega)]
    have a2 : vv (opS s r) r (13 + 2 * i + 1) = vv s r (13 + 2 * i + 1) := by rw [hv r _ (by omega), if_neg (by omega), if_neg (by omega), if_neg (by omega)]
    rw [if_neg (by omega), a1, a2, bset_ne _ _ _ (by decide)]
    exact (h.2.1 r hr).2.2.2.2 i (by omega)
theorem SeC.cn {s : Nat → Nat} {r j x how : Nat} (h : SeC s) (hj : j < 6) : SeC (cnS s r j x how) := h.lo (cnS_hd s r j x how (by decide)) (fun q y hy => by rw [cnS_v s r j x how q y hj (by omega), if_neg (by omega), if_neg (by omega)])
theorem SeC.op {s : Nat → Nat} {r : Nat} (h : SeC s) (hk : vv s r 12 < 6) : SeC (opS s r) := h.lo (opS_hd s r (by decide)) (fun q y hy => by rw [opS_v s r q y hk (by omega), if_neg (by omega), if_neg (by omega), if_neg (by omega)])
def rmV (s : Nat → Nat) (r br q y : Nat) : Nat := if q = r ∧ 13 + 2 * br ≤ y ∧ y < 13 + 2 * (vv s r 12 - 1) then vv s r (y + 2) else if q = r ∧ y = 12 then vv s r 12 - 1 else vv s q y
theorem rmS_v (s : Nat → Nat) (r br q y : Nat) (hk : vv s r 12 ≤ 6) (hy : y < 25) : vv (rmS s r br) q y = rmV s r br q y := by
  unfold rmS rmV
  by_cases h : q = r ∧ 13 + 2 * br ≤ y ∧ y < 13 + 2 * (vv s r 12 - 1)
  · rw [if_pos h]
    unfold vv at h ⊢
    unfold shS
    rw [if_pos (by omega), upN_ne _ _ _ (by unfold ix; omega), h.1, show 3 + 25 * r + y + 2 = 3 + 25 * r + (y + 2) by omega]
  · rw [if_neg h]
    have e : vv (shS (upN s (ix r 12) (vv s r 12 - 1)) r (13 + 2 * br) (13 + 2 * (vv s r 12 - 1))) q y = vv (upN s (ix r 12) (vv s r 12 - 1)) q y := by
      show shS _ _ _ _ (3 + 25 * q + y) = _
      unfold shS
      rw [if_neg (by omega)]
      rfl
    rw [e, vv_up _ _ _ _ _ _ (by decide) hy]
theorem rmS_hd (s : Nat → Nat) (r br : Nat) {i : Nat} (hi : i < 3) : rmS s r br i = s i := by
  unfold rmS shS
  rw [if_neg (by omega), hd_up _ _ _ _ hi]
set_option maxRecDepth 100000 in
set_option maxHeartbeats 4000000 in
theorem c_X0_putCondition (l : Launch) (d : Nat) (hd : 3 ≤ d) {n kb : Nat} {w : Nat → AC} {b : Bk} (hB : BkAt n w kb b) {s : Nat → Nat} (hR0 : RepC s b) {B : Nat} (hW : Wt s B) (hBd : B < 900000000) (hS : SeC s) (r j x how : Nat) (hr : r < s 1) (hjk : j ≤ vv s r 12) (hj6 : j < 6) (hx : x < 16) (hh : how < 3) : Sq l yX0_putCondition cX0_putCondition 7 (some .int) d [aR kb, aZ r, aZ j, aZ x, aZ how] n w (Qv (aZ (how3 (scS s r j) r j x)) (PR n kb (lks (cnS (scS s r j) r j x how)).2 w)) := by
  refine Sp.of (plainFor_of_name (by decide)) (Nat.le_of_ble_eq_true rfl) (fun Γ hΓ hR => ?_)
  show Γ 0 [aR kb, aZ r, aZ j, aZ x, aZ how, none, none] [] (0, 0) n w
  have h6 := hW.m6 hr
  have hF0 : Fr kb 7 w w := Fr.rf
  have h8 := hW.2.1
  have e3 : b 3 r = vv s r 12 := (hR0.2.1 r hr).2.2.2.1
  refine qa_iload_n hΓ dX0_putCondition_0 rfl ?_
  refine qa_aload_n hΓ dX0_putCondition_1 rfl ?_
  refine qa_iload_n hΓ dX0_putCondition_2 rfl ?_
  refine qc_V1 hΓ dX0_putCondition_3 lk_X0_81 vw_X0_branchesOf (by omega) (c_X0_branchesOf l (d - 1) (by omega) hB r (by omega)) rfl hB.lt hB.o rfl rfl (Nat.le_of_ble_eq_true rfl) ?_
  rw [e3]
  refine qz_icmp_ne (tgt := 13) hΓ dX0_putCondition_6 (by decide) (by omega) (by omega) (fun h_6 => ?_) (fun h_6 => ?_)
  · have hgv : b 4 (r * 6 + j) = cmb (vv s r (13 + 2 * j)) (vv s r (13 + 2 * j + 1)) := (hR0.2.1 r hr).2.2.2.2 j (by omega)
    have hgl : b 4 (r * 6 + j) < 4294967296 := by rw [hgv]; exact cmb_32 hW hr hj6
    refine qa_iconst (v := nI 0) hΓ dX0_putCondition_13 ic_0 ?_
    refine qa_istore hΓ dX0_putCondition_14 (by decide) ?_
    refine qa_iload hΓ dX0_putCondition_16 rfl ?_
    refine qz_if_eq (tgt := 25) hΓ dX0_putCondition_18 (by decide) (by decide) (fun _ => ?_) (fun h => absurd h (by decide))
    refine qa_aload_n hΓ dX0_putCondition_25 rfl ?_
    refine qa_iload_n hΓ dX0_putCondition_26 rfl ?_
    refine qa_iload_n hΓ dX0_putCondition_27 rfl ?_
    refine qc_V1 hΓ dX0_putCondition_28 lk_X0_85 vw_X0_branchAt (by omega) (c_X0_branchAt l (d - 1) (by omega) hB r j (by omega) hj6) rfl hB.lt hB.o rfl rfl (Nat.le_of_ble_eq_true rfl) ?_
    refine qa_istore hΓ dX0_putCondition_31 (by decide) ?_
    refine qa_iload hΓ dX0_putCondition_33 rfl ?_
    refine qz_if_eq (tgt := 49) hΓ dX0_putCondition_35 (by decide) (by decide) (fun _ => ?_) (fun h => absurd h (by decide))
    refine qa_aload_n hΓ dX0_putCondition_49 rfl ?_
    refine qa_iload_n hΓ dX0_putCondition_50 rfl ?_
    refine qa_iload_n hΓ dX0_putCondition_51 rfl ?_
    refine qa_iload hΓ dX0_putCondition_52 rfl ?_
    refine qa_iload_n hΓ dX0_putCondition_54 rfl ?_
    refine qa_iload hΓ dX0_putCondition_55 rfl ?_
    refine qc_S1 hΓ dX0_putCondition_57 lk_X0_89 vw_X1_with (by omega) (c_X1_with l (d - 1) (by omega) (b 4 (r * 6 + j)) x how hgl hx hh) rfl rfl (Nat.le_of_ble_eq_true rfl) ?_
    refine qc_V0q hΓ dX0_putCondition_60 lk_X0_95 vw_X0_putBranch (by omega) (c_X0_putBranch l (d - 1) (by omega) hB r j _ (by omega) hj6) rfl hB.lt hB.o rfl rfl (Nat.le_of_ble_eq_true rfl) (fun w hq => ?_)
    obtain ⟨hB, hF⟩ := hq
    have hF0 := hF0.tr hF
    refine qa_aload_n hΓ dX0_putCondition_63 rfl ?_
    refine qc_V1q hΓ dX0_putCondition_64 lk_X0_99 vw_X0_lookAtCoils (by omega) (c_X0_lookAtCoils l (d - 1) (by omega) hB (by have h9 := hR0.cn (x := x) (how := how) hW hr (show j < vv s r 12 by omega); exact h9) (hW.cnS hr hj6 hx) hBd (hS.cn hj6)) rfl hB.lt hB.o rfl rfl (Nat.le_of_ble_eq_true rfl) (fun w hq => ?_)
    obtain ⟨b', hB, hF, hR2, hS2⟩ := hq
    have hF0 := hF0.tr hF
    refine qa_pop hΓ dX0_putCondition_67 ?_
    refine qa_iload hΓ dX0_putCondition_68 rfl ?_
    refine qa_iload_n hΓ dX0_putCondition_70 rfl ?_
    refine qc_S1 hΓ dX0_putCondition_71 lk_X0_103 vw_X1_howOf (by omega) (c_X1_howOf l (d - 1) (by omega) (b 4 (r * 6 + j)) x hgl hx) rfl rfl (Nat.le_of_ble_eq_true rfl) ?_
    have e1 : scS s r j = s := by unfold scS; rw [if_neg h_6]
    have e2 : how3 (scS s r j) r j x = howO (b 4 (r * 6 + j)) x := by
      rw [e1, hgv, how_cmb hW hr hj6]
    exact qr_i hR dX0_putCondition_74 ⟨by rw [e2], _, hB, hF0, by rw [e1]; exact ⟨hR2, hS2⟩⟩
  · refine qa_iconst (v := nI 1) hΓ dX0_putCondition_9 ic_1 ?_
    refine qa_goto (tgt := 14) hΓ dX0_putCondition_10 (by decide) ?_
    refine qa_istore hΓ dX0_putCondition_14 (by decide) ?_
    refine qa_iload hΓ dX0_putCondition_16 rfl ?_
    refine qz_if_eq (tgt := 25) hΓ dX0_putCondition_18 (by decide) (by decide) (fun h => absurd h (by decide)) (fun _ => ?_)
    refine qa_iconst (v := nI 0) hΓ dX0_putCondition_21 ic_0 ?_
    refine qa_goto (tgt := 31) hΓ dX0_putCondition_22 (by decide) ?_
    refine qa_istore hΓ dX0_putCondition_31 (by decide) ?_
    refine qa_iload hΓ dX0_putCondition_33 rfl ?_
    refine qz_if_eq (tgt := 49) hΓ dX0_putCondition_35 (by decide) (by decide) (fun h => absurd h (by decide)) (fun _ => ?_)
    refine qa_aload_n hΓ dX0_putCondition_38 rfl ?_
    refine qa_get hΓ dX0_putCondition_39 fk_X0_21 hB.lt hB.o rfl ?_
    refine qa_iload_n hΓ dX0_putCondition_42 rfl ?_
    refine qa_iload_n hΓ dX0_putCondition_43 rfl ?_
    refine qa_iconst (v := nI 1) hΓ dX0_putCondition_44 ic_1 ?_
    refine qz_iadd hΓ dX0_putCondition_45 ?_
    refine qc_N0q hΓ dX0_putCondition_46 nk_X0_77 vw_X5_put (by omega) (c_X5_putB l (d - 1) hB 3 r (j + 1) (by decide) (by show _ < 8; omega)) rfl rfl (Nat.le_of_ble_eq_true rfl) (fun w hq => ?_)
    obtain ⟨hB, hF⟩ := hq
    have hF0 := hF0.tr hF
    refine qa_aload_n hΓ dX0_putCondition_49 rfl ?_
    refine qa_iload_n hΓ dX0_putCondition_50 rfl ?_
    refine qa_iload_n hΓ dX0_putCondition_51 rfl ?_
    refine qa_iload hΓ dX0_putCondition_52 rfl ?_
    refine qa_iload_n hΓ dX0_putCondition_54 rfl ?_
    refine qa_iload hΓ dX0_putCondition_55 rfl ?_
    refine qc_S1 hΓ dX0_putCondition_57 lk_X0_89 vw_X1_with (by omega) (c_X1_with l (d - 1) (by omega) 0 x how (by decide) hx hh) rfl rfl (Nat.le_of_ble_eq_true rfl) ?_
    refine qc_V0q hΓ dX0_putCondition_60 lk_X0_95 vw_X0_putBranch (by omega) (c_X0_putBranch l (d - 1) (by omega) hB r j _ (by omega) hj6) rfl hB.lt hB.o rfl rfl (Nat.le_of_ble_eq_true rfl) (fun w hq => ?_)
    obtain ⟨hB, hF⟩ := hq
    have hF0 := hF0.tr hF
    refine qa_aload_n hΓ dX0_putCondition_63 rfl ?_
    refine qc_V1q hΓ dX0_putCondition_64 lk_X0_99 vw_X0_lookAtCoils (by omega) (c_X0_lookAtCoils l (d - 1) (by omega) hB (by have h9 := (hR0.op hW hr (by omega)).cn (j := j) (x := x) (how := how) (hW.opS (by omega)) (by rw [opS_hd s r (by decide)]; exact hr) (by rw [opS_v s r r 12 (by omega) (by decide), if_pos ⟨rfl, rfl⟩]; omega); rw [← h_6, bset_bset, set4, if_pos rfl] at h9; exact h9) ((hW.opS (by omega)).cnS (by rw [opS_hd s r (by decide)]; exact hr) hj6 hx) hBd ((hS.op (by omega)).cn hj6)) rfl hB.lt hB.o rfl rfl (Nat.le_of_ble_eq_true rfl) (fun w hq => ?_)
    obtain ⟨b', hB, hF, hR2, hS2⟩ := hq
    have hF0 := hF0.tr hF
    refine qa_pop hΓ dX0_putCondition_67 ?_
    refine qa_iload hΓ dX0_putCondition_68 rfl ?_
    refine qa_iload_n hΓ dX0_putCondition_70 rfl ?_
    refine qc_S1 hΓ dX0_putCondition_71 lk_X0_103 vw_X1_howOf (by omega) (c_X1_howOf l (d - 1) (by omega) 0 x (by decide) hx) rfl rfl (Nat.le_of_ble_eq_true rfl) ?_
    have e1 : scS s r j = opS s r := by unfold scS; rw [if_pos h_6]
    have e2 : how3 (scS s r j) r j x = howO 0 x := by
      have a1 : vv (opS s r) r (13 + 2 * j) = 0 := by rw [opS_v s r r _ (by omega) (by omega), if_neg (by omega), if_neg (by omega), if_pos (by omega)]
      have a2 : vv (opS s r) r (13 + 2 * j + 1) = 0 := by rw [opS_v s r r _ (by omega) (by omega), if_neg (by omega), if_pos (by omega)]
      rw [e1]
      unfold how3 howO
      rw [a1, a2]
    exact qr_i hR dX0_putCondition_74 ⟨by rw [e2], _, hB, hF0, by rw [e1]; exact ⟨hR2, hS2⟩⟩

set_option maxRecDepth 100000 in
set_option maxHeartbeats 4000000 in
theorem c_X0_dropBranch (l : Launch) (d : Nat) (hd : 3 ≤ d) {n kb : Nat} {w : Nat → AC} {b : Bk} (hB : BkAt n w kb b) {s : Nat → Nat} (hR0 : RepC s b) {B : Nat} (hW : Wt s B) (hBd : B < 900000000) (hS : SeC s) (r br : Nat) (hr : r < s 1) (hbr : br < vv s r 12) (hWd : Wt (rmS s r br) B) : Sq l yX0_dropBranch cX0_dropBranch 5 (some .int) d [aR kb, aZ r, aZ br] n w (Qv (aZ (vv s r 12 - 1)) (PR n kb (lks (rmS s r br)).2 w)) := by
  refine Sp.of (plainFor_of_name (by decide)) (Nat.le_of_ble_eq_true rfl) (fun Γ hΓ hR => ?_)
  show Γ 0 [aR kb, aZ r, aZ br, none, none] [] (0, 0) n w
  obtain ⟨w0, hw0⟩ : ∃ X, X = w ∧ ∀ w2, Fr kb 7 X w2 → Fr kb 7 w w2 := ⟨w, rfl, fun _ h => h⟩
  obtain ⟨hww, hw0⟩ := hw0
  have hF0 : Fr kb 7 w0 w := hww ▸ Fr.rf
  have h8 := hW.2.1
  have h6 := hW.m6 hr
  have e3 : b 3 r = vv s r 12 := (hR0.2.1 r hr).2.2.2.1
  refine qa_aload_n hΓ dX0_dropBranch_0 rfl ?_
  refine qa_iload_n hΓ dX0_dropBranch_1 rfl ?_
  refine qc_V1 hΓ dX0_dropBranch_2 lk_X0_81 vw_X0_branchesOf (by omega) (c_X0_branchesOf l (d - 1) (by omega) hB r (by omega)) rfl hB.lt hB.o rfl rfl (Nat.le_of_ble_eq_true rfl) ?_
  rw [e3]
  refine qa_iconst (v := nI 1) hΓ dX0_dropBranch_5 ic_1 ?_
  refine qz_isub hΓ dX0_dropBranch_6 (by omega) ?_
  refine qa_istore_n hΓ dX0_dropBranch_7 (by decide) ?_
  refine qa_iload_n hΓ dX0_dropBranch_8 rfl ?_
  refine qa_istore hΓ dX0_dropBranch_9 (by decide) ?_
  have loop : ∀ (m i : Nat) (w1 : Nat → AC) (b1 : Bk), br ≤ i → i ≤ vv s r 12 - 1 → vv s r 12 - 1 < i + m → BkAt n w1 kb b1 → Fr kb 7 w0 w1 → (∀ a, a ≠ 4 → b1 a = b a) → (∀ q j, q ≠ r → j < 6 → b1 4 (q * 6 + j) = b 4 (q * 6 + j)) → (∀ j, j < 6 → b1 4 (r * 6 + j) = if br ≤ j ∧ j < i then b 4 (r * 6 + (j + 1)) else b 4 (r * 6 + j)) → Γ 11 [aR kb, aZ r, aZ br, aZ (vv s r 12 - 1), aZ i] [] (0, 0) n w1 := by
    intro m
    induction m with
    | zero => intro i w1 b1 h0 h1 h2; exact absurd h2 (by omega)
    | succ m ih =>
      intro i w b1 hbi hi hm hB hF0 ha ho hg
      refine qa_iload hΓ dX0_dropBranch_11 rfl ?_
      refine qa_iload_n hΓ dX0_dropBranch_13 rfl ?_
      refine qz_icmp_ge (tgt := 39) hΓ dX0_dropBranch_14 (by decide) (by omega) (by omega) (fun h_14 => ?_) (fun h_14 => ?_)
      · refine qa_aload_n hΓ dX0_dropBranch_39 rfl ?_
        refine qa_get hΓ dX0_dropBranch_40 fk_X0_21 hB.lt hB.o rfl ?_
        refine qa_iload_n hΓ dX0_dropBranch_43 rfl ?_
        refine qa_iload_n hΓ dX0_dropBranch_44 rfl ?_
        refine qc_N0q hΓ dX0_dropBranch_45 nk_X0_77 vw_X5_put (by omega) (c_X5_putB l (d - 1) hB 3 r (vv s r 12 - 1) (by decide) (by show _ < 8; omega)) rfl rfl (Nat.le_of_ble_eq_true rfl) (fun w hq => ?_)
        obtain ⟨hB, hF⟩ := hq
        have hF0 := hF0.tr hF
        have hRd : RepC (rmS s r br) (bset b1 3 r (vv s r 12 - 1)) := by
          have e12 : vv (rmS s r br) r 12 = vv s r 12 - 1 := by rw [rmS_v s r br r 12 h6 (by decide)]; unfold rmV; rw [if_neg (by omega), if_pos ⟨rfl, rfl⟩]
          refine hR0.brs (r := r) (s' := rmS s r br) hr (fun q hq => hW.m6 hq) (fun a h => rmS_hd s r br h) (fun q y hy hc => ?_) (fun a h3 h4 => by rw [bset_ne _ _ _ h3]; exact ha a h4) (fun q => by rw [set3, e12, ha 3 (by decide)]) (fun q j hq hj => by rw [bset_ne _ _ _ (by decide)]; exact ho q j hq hj) (fun j hj => ?_)
          · rw [rmS_v s r br q y h6 hy]; unfold rmV; rw [if_neg (by omega), if_neg (by omega)]
          · rw [e12] at hj
            rw [bset_ne _ _ _ (by decide), hg j (by omega), rmS_v s r br r _ h6 (by omega), rmS_v s r br r _ h6 (by omega)]
            unfold rmV
            by_cases e : br ≤ j
            · rw [if_pos ⟨e, by omega⟩, if_pos ⟨rfl, by omega, by omega⟩, if_pos ⟨rfl, by omega, by omega⟩]
              exact (hR0.2.1 r hr).2.2.2.2 (j + 1) (by omega)
            · rw [if_neg (fun u => e u.1), if_neg (by omega), if_neg (by omega), if_neg (by omega), if_neg (by omega)]
              exact (hR0.2.1 r hr).2.2.2.2 j (by omega)
        have hSd : SeC (rmS s r br) := hS.lo (rmS_hd s r br (by decide)) (fun q y hy => by rw [rmS_v s r br q y h6 (by omega)]; unfold rmV; rw [if_neg (by omega), if_neg (by omega)])
        refine qa_aload_n hΓ dX0_dropBranch_48 rfl ?_
        refine qc_V1q hΓ dX0_dropBranch_49 lk_X0_99 vw_X0_lookAtCoils (by omega) (c_X0_lookAtCoils l (d - 1) (by omega) hB hRd hWd hBd hSd) rfl hB.lt hB.o rfl rfl (Nat.le_of_ble_eq_true rfl) (fun w hq => ?_)
        obtain ⟨b', hB, hF, hR2, hS2⟩ := hq
        have hF0 := hF0.tr hF
        refine qa_pop hΓ dX0_dropBranch_52 ?_
        refine qa_iload_n hΓ dX0_dropBranch_53 rfl ?_
        exact qr_i hR dX0_dropBranch_54 ⟨rfl, _, hB, hw0 _ hF0, hR2, hS2⟩
      · refine qa_aload_n hΓ dX0_dropBranch_17 rfl ?_
        refine qa_iload_n hΓ dX0_dropBranch_18 rfl ?_
        refine qa_iload hΓ dX0_dropBranch_19 rfl ?_
        refine qa_aload_n hΓ dX0_dropBranch_21 rfl ?_
        refine qa_iload_n hΓ dX0_dropBranch_22 rfl ?_
        refine qa_iload hΓ dX0_dropBranch_23 rfl ?_
        refine qa_iconst (v := nI 1) hΓ dX0_dropBranch_25 ic_1 ?_
        refine qz_iadd hΓ dX0_dropBranch_26 ?_
        refine qc_V1 hΓ dX0_dropBranch_27 lk_X0_85 vw_X0_branchAt (by omega) (c_X0_branchAt l (d - 1) (by omega) hB r (i + 1) (by omega) (by omega)) rfl hB.lt hB.o rfl rfl (Nat.le_of_ble_eq_true rfl) ?_
        refine qc_V0q hΓ dX0_dropBranch_30 lk_X0_95 vw_X0_putBranch (by omega) (c_X0_putBranch l (d - 1) (by omega) hB r i _ (by omega) (by omega)) rfl hB.lt hB.o rfl rfl (Nat.le_of_ble_eq_true rfl) (fun w hq => ?_)
        obtain ⟨hB, hF⟩ := hq
        have hF0 := hF0.tr hF
        refine qz_iinc hΓ dX0_dropBranch_33 ii_1 rfl (by decide) ?_
        refine qa_goto (tgt := 11) hΓ dX0_dropBranch_36 (by decide) ?_
        refine ih (i + 1) w _ (by omega) (by omega) (by omega) hB hF0 (fun a h => by rw [bset_ne _ _ _ h]; exact ha a h) (fun q j hq hj => by rw [set4, if_neg (by omega)]; exact ho q j hq hj) (fun j hj => ?_)
        rw [set4]
        by_cases e : j = i
        · rw [if_pos (by omega), if_pos (by omega), hg (i + 1) (by omega), if_neg (by omega), e]
        · rw [if_neg (by omega), hg j hj]
          by_cases e2 : br ≤ j ∧ j < i
          · rw [if_pos e2, if_pos (by omega)]
          · rw [if_neg e2, if_neg (by omega)]
  exact loop (vv s r 12) br w b (Nat.le_refl _) (by omega) (by omega) hB hF0 (fun _ _ => rfl) (fun _ _ _ _ => rfl) (fun j hj => by rw [if_neg (by omega)])
end
section
/-! The class: stable states, events that wait -/
def stA (s : Nat → Nat) : Nat → Bool
  | 0 => true
  | r + 1 => stA s r && (decide (vv s r 7 = 1) || (cnd s r (onS s) == decide (vv s r 3 = 1)))
theorem stA_f {s : Nat → Nat} {r : Nat} (h : stA s r = false) : ∀ {m}, r ≤ m → stA s m = false
  | 0, q => by
    have : r = 0 := by omega
    subst this
    exact h
  | m + 1, q => by
    rcases Nat.lt_or_ge m r with u | u
    · have : r = m + 1 := by omega
      subst this
      exact h
    · show (stA s m && _) = false
      rw [stA_f h u]
      rfl
theorem pbitD {s : Nat → Nat} {b : Bk} {r x j : Nat} (hr : r < s 1) (h : b 6 j = mk (pM s x 1) (s 1)) : (b 6 j).testBit r = decide (vv s r x = 1) := by
  rw [h, mk_bit]
  unfold pM
  rw [decide_eq_true hr, Bool.true_and]
theorem bool_nat (p q : Bool) : p.toNat = q.toNat ↔ p = q := by cases p <;> cases q <;> decide
def duC (b : Bk) : Nat → Nat
  | 0 => 0
  | i + 1 => duC b i + (if b 5 i = NV then 0 else 1)
theorem duC_le (b : Bk) : ∀ i, duC b i ≤ i
  | 0 => Nat.le_refl _
  | i + 1 => by
    have := duC_le b i
    unfold duC
    split <;> omega
theorem duC_hi {s : Nat → Nat} {b : Bk} (h : RepC s b) : ∀ k, s 1 + k ≤ 8 → duC b (2 * (s 1 + k)) = duC b (2 * s 1)
  | 0, _ => rfl
  | k + 1, hk => by
    obtain ⟨_, h1, h2⟩ := h.2.2.2.2 (s 1 + k) (by omega) (by omega)
    rw [show 2 * (s 1 + (k + 1)) = 2 * (s 1 + k) + 1 + 1 by omega]
    show duC b (2 * (s 1 + k)) + (if b 5 (2 * (s 1 + k)) = NV then 0 else 1) + (if b 5 (2 * (s 1 + k) + 1) = NV then 0 else 1) = _
    rw [h1, h2, if_pos rfl]
    exact duC_hi h k (by omega)
theorem duC_lo {s : Nat → Nat} {b : Bk} {B : Nat} (h : RepC s b) (hW : Wt s B) (hB : B < 900000000) : ∀ r, r ≤ s 1 → duC b (2 * r) = cn2 s r
  | 0, _ => rfl
  | r + 1, hr => by
    have hNV : NV = 2147483647 := rfl
    obtain ⟨h1, h2⟩ := h.2.2.2.1 r (by omega)
    have k9 := hW.b (r := r) (by omega) (x := 9) (by decide)
    have k11 := hW.b (r := r) (by omega) (x := 11) (by decide)
    have k10 := hW.c1 (r := r) (by omega) (x := 10) (by omega)
    rw [show 2 * (r + 1) = 2 * r + 1 + 1 by omega]
    unfold duC
    unfold duC
    unfold cn2
    rw [duC_lo h hW hB r (by omega), h1, h2]
    have e1 : (if duA s r = NV then 0 else 1) = if 0 < vv s r 8 then 1 else 0 := by
      unfold duA
      by_cases e : vv s r 8 = 0
      · rw [if_pos e, if_pos rfl, if_neg (by omega)]
      · rw [if_neg e, if_neg (by omega), if_pos (by omega)]
    have e2 : (if duE s r = NV then 0 else 1) = vv s r 10 := by
      unfold duE
      by_cases e : vv s r 10 = 0
      · rw [if_pos e, if_pos rfl, e]
      · rw [if_neg e, if_neg (by omega)]; omega
    rw [e1, e2]
    omega
theorem duC_all {s : Nat → Nat} {b : Bk} {B : Nat} (h : RepC s b) (hW : Wt s B) (hB : B < 900000000) : duC b 16 = cn2 s (s 1) := by
  have h8 := hW.2.1
  rw [← duC_lo h hW hB (s 1) (Nat.le_refl _), ← duC_hi h (8 - s 1) (by omega), show 2 * (s 1 + (8 - s 1)) = 16 by omega]
theorem du_lt {s : Nat → Nat} {b : Bk} {B : Nat} (h : RepC s b) (hW : Wt s B) (hB : B < 900000000) (i : Nat) (hi : i < 16) : b 5 i ≤ 2147483647 := by
  have hNV : NV = 2147483647 := rfl
  rcases Nat.lt_or_ge (i / 2) (s 1) with q | q
  · obtain ⟨h1, h2⟩ := h.2.2.2.1 (i / 2) q
    have k9 := hW.b q (x := 9) (by decide)
    have k11 := hW.b q (x := 11) (by decide)
    unfold duA at h1
    unfold duE at h2
    rcases (show i = 2 * (i / 2) ∨ i = 2 * (i / 2) + 1 by omega) with e | e
    · rw [e, h1]
      split <;> omega
    · rw [e, h2]
      split <;> omega
  · obtain ⟨_, h1, h2⟩ := h.2.2.2.2 (i / 2) q (by omega)
    rcases (show i = 2 * (i / 2) ∨ i = 2 * (i / 2) + 1 by omega) with e | e
    · rw [e, h1]; omega
    · rw [e, h2]; omega
set_option maxRecDepth 100000 in
set_option maxHeartbeats 4000000 in
theorem c_X0_waiting (l : Launch) (d : Nat) {n kb : Nat} {w : Nat → AC} {b : Bk} (hB : BkAt n w kb b) {s : Nat → Nat} (hR0 : RepC s b) {B : Nat} (hW : Wt s B) (hBd : B < 900000000) : Sq l yX0_waiting cX0_waiting 3 (some .int) d [aR kb] n w (Rs (some (aZ (cn2 s (s 1)))) w) := by
  refine Sp.of (plainFor_of_name (by decide)) (Nat.le_of_ble_eq_true rfl) (fun Γ hΓ hR => ?_)
  show Γ 0 [aR kb, none, none] [] (0, 0) n w
  have hdu := du_lt hR0 hW hBd
  have loop : ∀ (m i : Nat), i ≤ 16 → 16 < i + m → Γ 4 [aR kb, aZ (duC b i), aZ i] [] (0, 0) n w := by
    intro m
    induction m with
    | zero => intro i h1 h2; exact absurd h2 (by omega)
    | succ m ih =>
      intro i hi hm
      have hl := duC_le b i
      refine qa_iload_n hΓ dX0_waiting_4 rfl ?_
      refine qa_aload_n hΓ dX0_waiting_5 rfl ?_
      refine qa_get hΓ dX0_waiting_6 fk_X0_27 hB.lt hB.o rfl ?_
      refine qa_alen hΓ dX0_waiting_9 (hB.lti (i := 6) (by decide)) hB.a5 (by decide) rfl ?_
      refine qz_icmp_ge (tgt := 33) hΓ dX0_waiting_10 (by decide) (by omega) (by omega) (fun h_10 => ?_) (fun h_10 => ?_)
      · refine qa_iload_n hΓ dX0_waiting_33 rfl ?_
        exact qr_i hR dX0_waiting_34 ⟨by rw [show i = 16 by omega, duC_all hR0 hW hBd], rfl⟩
      · refine qa_aload_n hΓ dX0_waiting_13 rfl ?_
        refine qa_get hΓ dX0_waiting_14 fk_X0_27 hB.lt hB.o rfl ?_
        refine qa_iload_n hΓ dX0_waiting_17 rfl ?_
        refine qz_iald hΓ dX0_waiting_18 (hB.lti (i := 6) (by decide)) hB.a5 (by omega) (by decide) ?_
        refine qa_ldc (v := nI 2147483647) hΓ dX0_waiting_19 ck_X0_30 ?_
        have hb5 := hdu i (by omega)
        refine qz_icmp_eq (tgt := 27) hΓ dX0_waiting_21 (by decide) (by omega) (by omega) (fun h_21 => ?_) (fun h_21 => ?_)
        · refine qz_iinc hΓ dX0_waiting_27 ii_1 rfl (by decide) ?_
          refine qa_goto (tgt := 4) hΓ dX0_waiting_30 (by decide) ?_
          have e9 : duC b (i + 1) = duC b i + (if b 5 i = NV then 0 else 1) := rfl
          rw [if_pos h_21] at e9
          have h9 := ih (i + 1) (by omega) (by omega)
          rw [e9] at h9
          exact h9
        · refine qz_iinc hΓ dX0_waiting_24 ii_1 rfl (by decide) ?_
          refine qz_iinc hΓ dX0_waiting_27 ii_1 rfl (by decide) ?_
          refine qa_goto (tgt := 4) hΓ dX0_waiting_30 (by decide) ?_
          have e9 : duC b (i + 1) = duC b i + (if b 5 i = NV then 0 else 1) := rfl
          rw [if_neg h_21] at e9
          have h9 := ih (i + 1) (by omega) (by omega)
          rw [e9] at h9
          exact h9
  refine qa_iconst (v := nI 0) hΓ dX0_waiting_0 ic_0 ?_
  refine qa_istore_n hΓ dX0_waiting_1 (by decide) ?_
  refine qa_iconst (v := nI 0) hΓ dX0_waiting_2 ic_0 ?_
  refine qa_istore_n hΓ dX0_waiting_3 (by decide) ?_
  exact loop 17 0 (Nat.zero_le _) (by omega)
end
section
/-! The class: events told -/
def ebT (b : Bk) (q i : Nat) : Nat := if b 5 i < b 5 q ∨ (b 5 i = b 5 q ∧ i < q) then 1 else 0
def ebC (b : Bk) (q : Nat) : Nat → Nat
  | 0 => 0
  | i + 1 => ebC b q i + ebT b q i
theorem ebT_le (b : Bk) (q i : Nat) : ebT b q i ≤ 1 := by
  unfold ebT
  split <;> omega
theorem ebC_le (b : Bk) (q : Nat) : ∀ i, ebC b q i ≤ i
  | 0 => Nat.le_refl _
  | i + 1 => by
    have := ebC_le b q i
    have := ebT_le b q i
    unfold ebC
    omega
def saC (b : Bk) (v : Int32) : Nat → Option Nat
  | 0 => none
  | i + 1 => match saC b v i with
    | some q => some q
    | none => if ¬ b 5 i = NV ∧ nI (ebC b i 16) = v then some i else none
def nIo : Option Nat → Int32
  | none => -1
  | some q => nI q
theorem saC_some {b : Bk} {v : Int32} {q : Nat} : ∀ {m m'}, m ≤ m' → saC b v m = some q → saC b v m' = some q
  | m, 0, h, he => by
    have : m = 0 := by omega
    subst this
    exact he
  | m, m' + 1, h, he => by
    rcases Nat.lt_or_ge m (m' + 1) with u | u
    · have h1 := saC_some (m := m) (m' := m') (by omega) he
      show (match saC b v m' with | some q => some q | none => _) = _
      rw [h1]
    · have : m = m' + 1 := by omega
      subst this
      exact he
def ahT (s : Nat → Nat) (e m : Nat) : Nat := if wtB s m && ahB s m e false then 1 else 0
theorem ahT_eq {s : Nat → Nat} {e m : Nat} (h : wtB s m = true) : ahT s e m = if tmO s m < tmO s e ∨ (tmO s m = tmO s e ∧ m < e) then 1 else 0 := by
  unfold ahT ahB
  rw [h, Bool.true_and]
  by_cases h1 : tmO s m = tmO s e
  · rw [if_pos h1]
    by_cases h4 : m / 4 = e / 4
    · rw [if_pos h4]
      by_cases h5 : m < e
      · rw [decide_eq_true h5, if_pos rfl, if_pos (Or.inr ⟨h1, h5⟩)]
      · rw [decide_eq_false h5, if_neg (by decide), if_neg (by omega)]
    · rw [if_neg h4]
      simp only [Bool.false_eq_true, if_false]
      by_cases h5 : m < e
      · rw [decide_eq_true h5, if_pos rfl, if_pos (Or.inr ⟨h1, h5⟩)]
      · rw [decide_eq_false h5, if_neg (by decide), if_neg (by omega)]
  · rw [if_neg h1]
    by_cases h5 : tmO s m < tmO s e
    · rw [decide_eq_true h5, if_pos rfl, if_pos (Or.inl h5)]
    · rw [decide_eq_false h5, if_neg (by decide), if_neg (by omega)]
theorem ahT_z {s : Nat → Nat} {e m : Nat} (h : wtB s m = false) : ahT s e m = 0 := by
  unfold ahT
  rw [h]
  rfl
/-- the armature's slot counts as its two events do, the other slot as the third -/
theorem ebA {s : Nat → Nat} {b : Bk} {B r e : Nat} (h : RepC s b) (hW : Wt s B) (hB : B < 900000000) (hr : r < s 1) (he : e < 4 * s 1) (he3 : e % 4 < 3) (hw : wtB s e = true) : ebT b (slE e) (2 * r) = ahT s e (4 * r) + ahT s e (4 * r + 1) ∧ ebT b (slE e) (2 * r + 1) = ahT s e (4 * r + 2) ∧ ahT s e (4 * r + 3) = 0 := by
  have hNV : NV = 2147483647 := rfl
  obtain ⟨d1, d2⟩ := h.2.2.2.1 r hr
  have dt := du_e h he he3 hw
  have ht := hW.tm he
  have hsl : slE e = 2 * (e / 4) + (if e % 4 = 2 then 1 else 0) := rfl
  have c8 := hW.c2 hr (x := 8) (by omega)
  have huniq : e / 4 = r → e % 4 ≠ 2 → e = 4 * r + (vv s r 8 - 1) := fun h1 h2 => by
    rcases slA hW hB hr with ⟨_, q⟩ | ⟨_, _, _, _, q⟩
    · rw [q e ⟨h1, h2⟩] at hw; cases hw
    · exact q e ⟨h1, h2⟩ hw
  refine ⟨?_, ?_, ahT_z ?_⟩
  · rcases slA hW hB hr with ⟨q1, q2⟩ | ⟨w1, w2, w3, w4, w5⟩
    · rw [ahT_z (q2 _ (by omega)), ahT_z (q2 _ (by omega))]
      unfold ebT
      rw [d1, dt, q1, if_neg (by omega)]
    · have hx : ahT s e (4 * r) + ahT s e (4 * r + 1) = ahT s e (4 * r + (vv s r 8 - 1)) := by
        rcases (show vv s r 8 - 1 = 0 ∨ vv s r 8 - 1 = 1 by omega) with u | u
        · rw [u, ahT_z (m := 4 * r + 1) ?_]
          · rfl
          · cases q : wtB s (4 * r + 1) with
            | false => rfl
            | true => have := w5 (4 * r + 1) (by omega) q; omega
        · rw [u, ahT_z (m := 4 * r) ?_, Nat.zero_add]
          cases q : wtB s (4 * r) with
          | false => rfl
          | true => have := w5 (4 * r) (by omega) q; omega
      rw [hx, ahT_eq w1]
      unfold ebT
      rw [d1, dt, w3]
      by_cases c : tmO s (4 * r + (vv s r 8 - 1)) < tmO s e ∨ (tmO s (4 * r + (vv s r 8 - 1)) = tmO s e ∧ 4 * r + (vv s r 8 - 1) < e)
      · rw [if_pos c, if_pos]
        rcases c with c | c
        · exact Or.inl c
        · refine Or.inr ⟨c.1, ?_⟩
          rw [hsl]
          by_cases h2 : e % 4 = 2
          · rw [if_pos h2]; omega
          · rw [if_neg h2]
            by_cases h4 : e / 4 = r
            · have := huniq h4 h2; omega
            · omega
      · rw [if_neg c, if_neg]
        intro u
        rcases u with u | u
        · exact c (Or.inl u)
        · refine c (Or.inr ⟨u.1, ?_⟩)
          rw [hsl] at u
          by_cases h2 : e % 4 = 2
          · rw [if_pos h2] at u; omega
          · rw [if_neg h2] at u; omega
  · rcases slB hW hB hr with ⟨q1, q2⟩ | ⟨w1, w2, w3, w4, w5⟩
    · rw [ahT_z (q2 _ (by omega))]
      unfold ebT
      rw [d2, dt, q1, if_neg (by omega)]
    · rw [ahT_eq w1]
      unfold ebT
      rw [d2, dt, w3]
      by_cases c : tmO s (4 * r + 2) < tmO s e ∨ (tmO s (4 * r + 2) = tmO s e ∧ 4 * r + 2 < e)
      · rw [if_pos c, if_pos]
        rcases c with c | c
        · exact Or.inl c
        · refine Or.inr ⟨c.1, ?_⟩
          rw [hsl]
          by_cases h2 : e % 4 = 2
          · rw [if_pos h2]; omega
          · rw [if_neg h2]; omega
      · rw [if_neg c, if_neg]
        intro u
        rcases u with u | u
        · exact c (Or.inl u)
        · refine c (Or.inr ⟨u.1, ?_⟩)
          rw [hsl] at u
          by_cases h2 : e % 4 = 2
          · rw [if_pos h2] at u; omega
          · rw [if_neg h2] at u; omega
  · unfold wtB
    rw [if_neg (by omega), decide_eq_false (by omega)]
    rfl
theorem ebC_lo {s : Nat → Nat} {b : Bk} {B e : Nat} (h : RepC s b) (hW : Wt s B) (hB : B < 900000000) (he : e < 4 * s 1) (he3 : e % 4 < 3) (hw : wtB s e = true) : ∀ r, r ≤ s 1 → ebC b (slE e) (2 * r) = ahc s e (4 * r)
  | 0, _ => rfl
  | r + 1, hr => by
    obtain ⟨h1, h2, h3⟩ := ebA h hW hB (show r < s 1 by omega) he he3 hw
    rw [show 2 * (r + 1) = 2 * r + 1 + 1 by omega, show 4 * (r + 1) = 4 * r + 1 + 1 + 1 + 1 by omega]
    show ebC b (slE e) (2 * r) + ebT b (slE e) (2 * r) + ebT b (slE e) (2 * r + 1) = ahc s e (4 * r) + ahT s e (4 * r) + ahT s e (4 * r + 1) + ahT s e (4 * r + 2) + ahT s e (4 * r + 3)
    rw [ebC_lo h hW hB he he3 hw r (by omega), h1, h2, h3]
    omega
theorem ebC_hi {s : Nat → Nat} {b : Bk} {q : Nat} (h : RepC s b) (hq : b 5 q < NV) : ∀ k, s 1 + k ≤ 8 → ebC b q (2 * (s 1 + k)) = ebC b q (2 * s 1)
  | 0, _ => rfl
  | k + 1, hk => by
    obtain ⟨_, h1, h2⟩ := h.2.2.2.2 (s 1 + k) (by omega) (by omega)
    rw [show 2 * (s 1 + (k + 1)) = 2 * (s 1 + k) + 1 + 1 by omega]
    show ebC b q (2 * (s 1 + k)) + ebT b q (2 * (s 1 + k)) + ebT b q (2 * (s 1 + k) + 1) = _
    have e1 : ebT b q (2 * (s 1 + k)) = 0 := by unfold ebT; rw [h1, if_neg (by omega)]
    have e2 : ebT b q (2 * (s 1 + k) + 1) = 0 := by unfold ebT; rw [h2, if_neg (by omega)]
    rw [e1, e2]
    exact ebC_hi h hq k (by omega)
theorem ebC_all {s : Nat → Nat} {b : Bk} {B e : Nat} (h : RepC s b) (hW : Wt s B) (hB : B < 900000000) (he : e < 4 * s 1) (he3 : e % 4 < 3) (hw : wtB s e = true) : ebC b (slE e) 16 = ahc s e (4 * s 1) := by
  have h8 := hW.2.1
  have ht := hW.tm he
  have hNV : NV = 2147483647 := rfl
  rw [← ebC_lo h hW hB he he3 hw (s 1) (Nat.le_refl _), ← ebC_hi h (q := slE e) (by rw [du_e h he he3 hw]; omega) (8 - s 1) (by omega), show 2 * (s 1 + (8 - s 1)) = 16 by omega]
set_option maxRecDepth 100000 in
set_option maxHeartbeats 4000000 in
theorem c_X0_eventsBefore (l : Launch) (d : Nat) (hd : 1 ≤ d) {n kb : Nat} {w : Nat → AC} {b : Bk} (hB : BkAt n w kb b) {s : Nat → Nat} (hR0 : RepC s b) {B : Nat} (hW : Wt s B) (hBd : B < 900000000) (q : Nat) (hq : q < 16) : Sq l yX0_eventsBefore cX0_eventsBefore 5 (some .int) d [aR kb, aZ q] n w (Rs (some (aZ (ebC b q 16))) w) := by
  refine Sp.of (plainFor_of_name (by decide)) (Nat.le_of_ble_eq_true rfl) (fun Γ hΓ hR => ?_)
  show Γ 0 [aR kb, aZ q, none, none, none] [] (0, 0) n w
  have hdu := du_lt hR0 hW hBd
  have hbq := hdu q hq
  have loop : ∀ (m i : Nat), i ≤ 16 → 16 < i + m → Γ 14 [aR kb, aZ q, aZ (b 5 q), aZ (ebC b q i), aZ i] [] (0, 0) n w := by
    intro m
    induction m with
    | zero => intro i h1 h2; exact absurd h2 (by omega)
    | succ m ih =>
      intro i hi hm
      have hl := ebC_le b q i
      refine qa_iload hΓ dX0_eventsBefore_14 rfl ?_
      refine qa_aload_n hΓ dX0_eventsBefore_16 rfl ?_
      refine qa_get hΓ dX0_eventsBefore_17 fk_X0_27 hB.lt hB.o rfl ?_
      refine qa_alen hΓ dX0_eventsBefore_20 (hB.lti (i := 6) (by decide)) hB.a5 (by decide) rfl ?_
      refine qz_icmp_ge (tgt := 61) hΓ dX0_eventsBefore_21 (by decide) (by omega) (by omega) (fun h_21 => ?_) (fun h_21 => ?_)
      · refine qa_iload_n hΓ dX0_eventsBefore_61 rfl ?_
        exact qr_i hR dX0_eventsBefore_62 ⟨by rw [show i = 16 by omega], rfl⟩
      · refine qa_aload_n hΓ dX0_eventsBefore_24 rfl ?_
        refine qa_get hΓ dX0_eventsBefore_25 fk_X0_27 hB.lt hB.o rfl ?_
        refine qa_iload hΓ dX0_eventsBefore_28 rfl ?_
        refine qz_iald hΓ dX0_eventsBefore_30 (hB.lti (i := 6) (by decide)) hB.a5 (by omega) (by decide) ?_
        have hb5 := hdu i (by omega)
        refine qa_iload_n hΓ dX0_eventsBefore_31 rfl ?_
        refine qz_icmp_lt (tgt := 52) hΓ dX0_eventsBefore_32 (by decide) (by omega) (by omega) (fun h_32 => ?_) (fun h_32 => ?_)
        · refine qz_iinc hΓ dX0_eventsBefore_52 ii_1 rfl (by decide) ?_
          refine qz_iinc hΓ dX0_eventsBefore_55 ii_1 rfl (by decide) ?_
          refine qa_goto (tgt := 14) hΓ dX0_eventsBefore_58 (by decide) ?_
          have e9 : ebC b q (i + 1) = ebC b q i + (if b 5 i < b 5 q ∨ (b 5 i = b 5 q ∧ i < q) then 1 else 0) := rfl
          rw [if_pos (Or.inl h_32)] at e9
          have h9 := ih (i + 1) (by omega) (by omega)
          rw [e9] at h9
          exact h9
        · refine qa_aload_n hΓ dX0_eventsBefore_35 rfl ?_
          refine qa_get hΓ dX0_eventsBefore_36 fk_X0_27 hB.lt hB.o rfl ?_
          refine qa_iload hΓ dX0_eventsBefore_39 rfl ?_
          refine qz_iald hΓ dX0_eventsBefore_41 (hB.lti (i := 6) (by decide)) hB.a5 (by omega) (by decide) ?_
          refine qa_iload_n hΓ dX0_eventsBefore_42 rfl ?_
          refine qz_icmp_ne (tgt := 55) hΓ dX0_eventsBefore_43 (by decide) (by omega) (by omega) (fun h_43 => ?_) (fun h_43 => ?_)
          · refine qz_iinc hΓ dX0_eventsBefore_55 ii_1 rfl (by decide) ?_
            refine qa_goto (tgt := 14) hΓ dX0_eventsBefore_58 (by decide) ?_
            have e9 : ebC b q (i + 1) = ebC b q i + (if b 5 i < b 5 q ∨ (b 5 i = b 5 q ∧ i < q) then 1 else 0) := rfl
            rw [if_neg (by omega)] at e9
            have h9 := ih (i + 1) (by omega) (by omega)
            rw [e9] at h9
            exact h9
          · refine qa_iload hΓ dX0_eventsBefore_46 rfl ?_
            refine qa_iload_n hΓ dX0_eventsBefore_48 rfl ?_
            refine qz_icmp_ge (tgt := 55) hΓ dX0_eventsBefore_49 (by decide) (by omega) (by omega) (fun h_49 => ?_) (fun h_49 => ?_)
            · refine qz_iinc hΓ dX0_eventsBefore_55 ii_1 rfl (by decide) ?_
              refine qa_goto (tgt := 14) hΓ dX0_eventsBefore_58 (by decide) ?_
              have e9 : ebC b q (i + 1) = ebC b q i + (if b 5 i < b 5 q ∨ (b 5 i = b 5 q ∧ i < q) then 1 else 0) := rfl
              rw [if_neg (by omega)] at e9
              have h9 := ih (i + 1) (by omega) (by omega)
              rw [e9] at h9
              exact h9
            · refine qz_iinc hΓ dX0_eventsBefore_52 ii_1 rfl (by decide) ?_
              refine qz_iinc hΓ dX0_eventsBefore_55 ii_1 rfl (by decide) ?_
              refine qa_goto (tgt := 14) hΓ dX0_eventsBefore_58 (by decide) ?_
              have e9 : ebC b q (i + 1) = ebC b q i + (if b 5 i < b 5 q ∨ (b 5 i = b 5 q ∧ i < q) then 1 else 0) := rfl
              rw [if_pos (Or.inr ⟨h_43, h_49⟩)] at e9
              have h9 := ih (i + 1) (by omega) (by omega)
              rw [e9] at h9
              exact h9
  refine qa_aload_n hΓ dX0_eventsBefore_0 rfl ?_
  refine qa_get hΓ dX0_eventsBefore_1 fk_X0_27 hB.lt hB.o rfl ?_
  refine qa_iload_n hΓ dX0_eventsBefore_4 rfl ?_
  refine qc_N1 hΓ dX0_eventsBefore_5 nk_X0_73 vw_X5_at (by omega) (c_X5_at l (d - 1) (hB.lti (i := 6) (by decide)) hB.a5 _ (by omega) (by decide)) rfl rfl (Nat.le_of_ble_eq_true rfl) ?_
  refine qa_istore_n hΓ dX0_eventsBefore_8 (by decide) ?_
  refine qa_iconst (v := nI 0) hΓ dX0_eventsBefore_9 ic_0 ?_
  refine qa_istore_n hΓ dX0_eventsBefore_10 (by decide) ?_
  refine qa_iconst (v := nI 0) hΓ dX0_eventsBefore_11 ic_0 ?_
  refine qa_istore hΓ dX0_eventsBefore_12 (by decide) ?_
  exact loop 17 0 (Nat.zero_le _) (by omega)

set_option maxRecDepth 100000 in
set_option maxHeartbeats 4000000 in
theorem c_X0_slotAt (l : Launch) (d : Nat) (hd : 2 ≤ d) {n kb : Nat} {w : Nat → AC} {b : Bk} (hB : BkAt n w kb b) {s : Nat → Nat} (hR0 : RepC s b) {B : Nat} (hW : Wt s B) (hBd : B < 900000000) (v : Int32) : Sq l yX0_slotAt cX0_slotAt 3 (some .int) d [aR kb, aI v] n w (Rs (some (aI (nIo (saC b v 16)))) w) := by
  refine Sp.of (plainFor_of_name (by decide)) (Nat.le_of_ble_eq_true rfl) (fun Γ hΓ hR => ?_)
  show Γ 0 [aR kb, aI v, none] [] (0, 0) n w
  have hdu := du_lt hR0 hW hBd
  have loop : ∀ (m i : Nat), i ≤ 16 → 16 < i + m → saC b v i = none → Γ 2 [aR kb, aI v, aZ i] [] (0, 0) n w := by
    intro m
    induction m with
    | zero => intro i h1 h2; exact absurd h2 (by omega)
    | succ m ih =>
      intro i hi hm ho
      have e9 : saC b v (i + 1) = if ¬ b 5 i = NV ∧ nI (ebC b i 16) = v then some i else none := by
        show (match saC b v i with | some q => some q | none => _) = _
        rw [ho]
      refine qa_iload_n hΓ dX0_slotAt_2 rfl ?_
      refine qa_aload_n hΓ dX0_slotAt_3 rfl ?_
      refine qa_get hΓ dX0_slotAt_4 fk_X0_27 hB.lt hB.o rfl ?_
      refine qa_alen hΓ dX0_slotAt_7 (hB.lti (i := 6) (by decide)) hB.a5 (by decide) rfl ?_
      refine qz_icmp_ge (tgt := 39) hΓ dX0_slotAt_8 (by decide) (by omega) (by omega) (fun h_8 => ?_) (fun h_8 => ?_)
      · refine qa_iconst (v := -1) hΓ dX0_slotAt_39 ic_m1 ?_
        exact qr_i hR dX0_slotAt_40 ⟨by rw [← show i = 16 by omega, ho]; rfl, rfl⟩
      · refine qa_aload_n hΓ dX0_slotAt_11 rfl ?_
        refine qa_get hΓ dX0_slotAt_12 fk_X0_27 hB.lt hB.o rfl ?_
        refine qa_iload_n hΓ dX0_slotAt_15 rfl ?_
        refine qz_iald hΓ dX0_slotAt_16 (hB.lti (i := 6) (by decide)) hB.a5 (by omega) (by decide) ?_
        have hb5 := hdu i (by omega)
        refine qa_ldc (v := nI 2147483647) hΓ dX0_slotAt_17 ck_X0_30 ?_
        refine qz_icmp_eq (tgt := 33) hΓ dX0_slotAt_19 (by decide) (by omega) (by omega) (fun h_19 => ?_) (fun h_19 => ?_)
        · refine qz_iinc hΓ dX0_slotAt_33 ii_1 rfl (by decide) ?_
          refine qa_goto (tgt := 2) hΓ dX0_slotAt_36 (by decide) ?_
          exact ih (i + 1) (by omega) (by omega) (by rw [e9, if_neg (fun u => u.1 h_19)])
        · refine qa_aload_n hΓ dX0_slotAt_22 rfl ?_
          refine qa_iload_n hΓ dX0_slotAt_23 rfl ?_
          refine qc_V1 hΓ dX0_slotAt_24 lk_X0_135 vw_X0_eventsBefore (by omega) (c_X0_eventsBefore l (d - 1) (by omega) hB hR0 hW hBd i (by omega)) rfl hB.lt hB.o rfl rfl (Nat.le_of_ble_eq_true rfl) ?_
          refine qa_iload_n hΓ dX0_slotAt_27 rfl ?_
          refine qa_icmp_ne (tgt := 33) hΓ dX0_slotAt_28 (by decide) (fun h_28 => ?_) (fun h_28 => ?_)
          · refine qz_iinc hΓ dX0_slotAt_33 ii_1 rfl (by decide) ?_
            refine qa_goto (tgt := 2) hΓ dX0_slotAt_36 (by decide) ?_
            exact ih (i + 1) (by omega) (by omega) (by rw [e9, if_neg (fun u => h_28 u.2)])
          · refine qa_iload_n hΓ dX0_slotAt_31 rfl ?_
            exact qr_i hR dX0_slotAt_32 ⟨by rw [saC_some (show i + 1 ≤ 16 by omega) (e9.trans (if_pos ⟨h_19, h_28⟩))]; rfl, rfl⟩
  refine qa_iconst (v := nI 0) hΓ dX0_slotAt_0 ic_0 ?_
  refine qa_istore_n hΓ dX0_slotAt_1 (by decide) ?_
  exact loop 17 0 (Nat.zero_le _) (by omega) rfl

def evT (s : Nat → Nat) (i m : Nat) : Bool := wtB s m && decide (ahc s m (4 * s 1) = i)
theorem evS_st (s : Nat → Nat) (i m : Nat) : evS s i (m + 1) = match evS s i m with
    | some e => some e
    | none => if evT s i m then some m else none := rfl
theorem evT_f {s : Nat → Nat} {i m : Nat} (h : wtB s m = false) : evT s i m = false := by unfold evT; rw [h]; rfl
theorem evT_t {s : Nat → Nat} {b : Bk} {B i m : Nat} (h : RepC s b) (hW : Wt s B) (hB : B < 900000000) (hi : i < 2147483648) (he : m < 4 * s 1) (he3 : m % 4 < 3) (hw : wtB s m = true) : (¬ b 5 (slE m) = NV ∧ nI (ebC b (slE m) 16) = nI i) ↔ evT s i m = true := by
  have hNV : NV = 2147483647 := rfl
  have ht := hW.tm he
  have hc := ebC_le b (slE m) 16
  unfold evT
  rw [hw, Bool.true_and, decide_eq_true_eq, ← ebC_all h hW hB he he3 hw, nI_inj (by omega) (by omega), du_e h he he3 hw]
  exact ⟨fun q => q.2, fun q => ⟨by omega, q⟩⟩
theorem sa_ev {s : Nat → Nat} {b : Bk} {B i : Nat} (h : RepC s b) (hW : Wt s B) (hB : B < 900000000) (hi : i < 2147483648) : ∀ r, r ≤ s 1 → saC b (nI i) (2 * r) = (evS s i (4 * r)).map slE
  | 0, _ => rfl
  | r + 1, hr => by
    have hNV : NV = 2147483647 := rfl
    obtain ⟨d1, d2⟩ := h.2.2.2.1 r (by omega)
    have ih := sa_ev h hW hB hi r (by omega)
    rw [show 2 * (r + 1) = 2 * r + 1 + 1 by omega, show 4 * (r + 1) = 4 * r + 1 + 1 + 1 + 1 by omega]
    rw [evS_st, evS_st, evS_st, evS_st]
    show (match (match saC b (nI i) (2 * r) with | some q => some q | none => if ¬ b 5 (2 * r) = NV ∧ nI (ebC b (2 * r) 16) = nI i then some (2 * r) else none) with | some q => some q | none => if ¬ b 5 (2 * r + 1) = NV ∧ nI (ebC b (2 * r + 1) 16) = nI i then some (2 * r + 1) else none) = _
    rw [ih]
    have f3 : evT s i (4 * r + 1 + 1 + 1) = false := evT_f (by unfold wtB; rw [if_neg (by omega), decide_eq_false (by omega)]; rfl)
    cases hE : evS s i (4 * r) with
    | some e => rfl
    | none =>
      simp only [Option.map_none]
      rw [f3]
      have hs2 : slE (4 * r + 1 + 1) = 2 * r + 1 := by unfold slE; rw [if_pos (by omega)]; omega
      have c8 := hW.c2 (r := r) (by omega) (x := 8) (by omega)
      -- the second slot
      have h2 : (if ¬ b 5 (2 * r + 1) = NV ∧ nI (ebC b (2 * r + 1) 16) = nI i then some (2 * r + 1) else none) = (if evT s i (4 * r + 1 + 1) then some (4 * r + 1 + 1) else none).map slE := by
        rcases slB hW hB (show r < s 1 by omega) with ⟨q1, q2⟩ | ⟨w1, _⟩
        · rw [evT_f (q2 _ (by omega)), if_neg (fun u => u.1 (d2.trans q1))]
          rfl
        · have ht := evT_t h hW hB hi (show 4 * r + 1 + 1 < 4 * s 1 by omega) (by omega) w1
          rw [hs2] at ht
          by_cases c : evT s i (4 * r + 1 + 1) = true
          · rw [if_pos (ht.mpr c), c, if_pos rfl]
            show some _ = some _
            rw [hs2]
          · rw [if_neg (fun u => c (ht.mp u)), if_neg c]
            rfl
      rw [h2]
      rcases slA hW hB (show r < s 1 by omega) with ⟨q1, q2⟩ | ⟨w1, w2, w3, w4, w5⟩
      · rw [evT_f (q2 (4 * r) (by omega)), evT_f (q2 (4 * r + 1) (by omega)), if_neg (fun u => u.1 (d1.trans q1))]
        cases evT s i (4 * r + 1 + 1) <;> rfl
      · have hs1 : slE (4 * r + (vv s r 8 - 1)) = 2 * r := by unfold slE; rw [if_neg (by omega)]; omega
        have ht := evT_t h hW hB hi (show 4 * r + (vv s r 8 - 1) < 4 * s 1 by omega) (by omega) w1
        rw [hs1] at ht
        rcases (show vv s r 8 - 1 = 0 ∨ vv s r 8 - 1 = 1 by omega) with u | u
        · rw [u] at hs1 ht w5
          have f1 : evT s i (4 * r + 1) = false := evT_f (by
            cases q : wtB s (4 * r + 1) with
            | false => rfl
            | true => have := w5 (4 * r + 1) (by omega) q; omega)
          rw [f1]
          by_cases c : evT s i (4 * r) = true
          · rw [if_pos (ht.mpr c), c]
            show some _ = some _
            rw [show slE (4 * r) = 2 * r from hs1]
          · rw [if_neg (fun q => c (ht.mp q)), Bool.not_eq_true] at *
            rw [c]
            cases evT s i (4 * r + 1 + 1) <;> rfl
        · rw [u] at hs1 ht w5
          have f1 : evT s i (4 * r) = false := evT_f (by
            cases q : wtB s (4 * r) with
            | false => rfl
            | true => have := w5 (4 * r) (by omega) q; omega)
          rw [f1]
          by_cases c : evT s i (4 * r + 1) = true
          · rw [if_pos (ht.mpr c), c]
            show some _ = some _
            rw [hs1]
          · rw [if_neg (fun q => c (ht.mp q))]
            rw [Bool.not_eq_true] at c
            rw [c]
            cases evT s i (4 * r + 1 + 1) <;> rfl
theorem sa_hi {s : Nat → Nat} {b : Bk} {v : Int32} (h : RepC s b) : ∀ k, s 1 + k ≤ 8 → saC b v (2 * (s 1 + k)) = saC b v (2 * s 1)
  | 0, _ => rfl
  | k + 1, hk => by
    obtain ⟨_, h1, h2⟩ := h.2.2.2.2 (s 1 + k) (by omega) (by omega)
    rw [show 2 * (s 1 + (k + 1)) = 2 * (s 1 + k) + 1 + 1 by omega]
    show (match (match saC b v (2 * (s 1 + k)) with | some q => some q | none => if ¬ b 5 (2 * (s 1 + k)) = NV ∧ nI (ebC b (2 * (s 1 + k)) 16) = v then some (2 * (s 1 + k)) else none) with | some q => some q | none => if ¬ b 5 (2 * (s 1 + k) + 1) = NV ∧ nI (ebC b (2 * (s 1 + k) + 1) 16) = v then some (2 * (s 1 + k) + 1) else none) = _
    rw [sa_hi h k (by omega), if_neg (fun u => u.1 h1), if_neg (fun u => u.1 h2)]
    cases saC b v (2 * s 1) <;> rfl
theorem sa_all {s : Nat → Nat} {b : Bk} {B i : Nat} (h : RepC s b) (hW : Wt s B) (hB : B < 900000000) (hi : i < 2147483648) : saC b (nI i) 16 = (evS s i (4 * s 1)).map slE := by
  have h8 := hW.2.1
  rw [← sa_ev h hW hB hi (s 1) (Nat.le_refl _), ← sa_hi h (8 - s 1) (by omega), show 2 * (s 1 + (8 - s 1)) = 16 by omega]
end
section
/-! The class: the reader of circuits -/
def RdAt (n : Nat) (w : Nat → AC) (k : Nat) (g : Nat → Nat) (z R p : Nat) : Prop := k + 2 ≤ n ∧ w k = cObj 1 [aR (k + 1), aZ z, aZ R, aZ p] ∧ w (k + 1) = zA 6 g
theorem RdAt.lt {n k : Nat} {w : Nat → AC} {g : Nat → Nat} {z R p : Nat} (h : RdAt n w k g z R p) : k < n := by have := h.1; omega
theorem RdAt.o {n k : Nat} {w : Nat → AC} {g : Nat → Nat} {z R p : Nat} (h : RdAt n w k g z R p) : w k = cObj 1 [aR (k + 1), aZ z, aZ R, aZ p] := h.2.1
theorem RdAt.lti1 {n k : Nat} {w : Nat → AC} {g : Nat → Nat} {z R p : Nat} (h : RdAt n w k g z R p) : k + 1 < n := by have := h.1; omega
theorem RdAt.a0 {n k : Nat} {w : Nat → AC} {g : Nat → Nat} {z R p : Nat} (h : RdAt n w k g z R p) : w (k + 1) = zA 6 g := h.2.2
section
variable {Γ : Gm} {l : Launch} {y : MethodName} {cc : ByteArray} {mL d mc ms pc n k idx x : Nat} {L st : List AV} {cs : Nat × Nat} {w : Nat → AC} {g : Nat → Nat} {z R p : Nat}
theorem qR_put1 (hΓ : Ok Γ l y cc mL d mc ms) (hd : decode cc pc = .ok (.putfield idx, 3)) (hf : FLK y.cls idx 1 1 false .int) (hQ : RdAt n w k g z R p) (kk : ∀ w', RdAt n w' k g x R p → Fr k 2 w w' → Γ (pc + 3) L st cs n w') : Γ pc L (aZ x :: aR k :: st) cs n w :=
  qa_puti hΓ hd hf hQ.lt hQ.o (by simp) (kk _ ⟨hQ.1, upw_self _ _ _, (upw_ne _ _ _ (by omega)).trans hQ.2.2⟩ (Fr.up (by omega) (by omega)))
theorem qR_put2 (hΓ : Ok Γ l y cc mL d mc ms) (hd : decode cc pc = .ok (.putfield idx, 3)) (hf : FLK y.cls idx 1 2 false .int) (hQ : RdAt n w k g z R p) (kk : ∀ w', RdAt n w' k g z x p → Fr k 2 w w' → Γ (pc + 3) L st cs n w') : Γ pc L (aZ x :: aR k :: st) cs n w :=
  qa_puti hΓ hd hf hQ.lt hQ.o (by simp) (kk _ ⟨hQ.1, upw_self _ _ _, (upw_ne _ _ _ (by omega)).trans hQ.2.2⟩ (Fr.up (by omega) (by omega)))
theorem qR_put3 (hΓ : Ok Γ l y cc mL d mc ms) (hd : decode cc pc = .ok (.putfield idx, 3)) (hf : FLK y.cls idx 1 3 false .int) (hQ : RdAt n w k g z R p) (kk : ∀ w', RdAt n w' k g z R x → Fr k 2 w w' → Γ (pc + 3) L st cs n w') : Γ pc L (aZ x :: aR k :: st) cs n w :=
  qa_puti hΓ hd hf hQ.lt hQ.o (by simp) (kk _ ⟨hQ.1, upw_self _ _ _, (upw_ne _ _ _ (by omega)).trans hQ.2.2⟩ (Fr.up (by omega) (by omega)))
end
def PQ (n k : Nat) (g : Nat → Nat) (z R p : Nat) (w : Nat → AC) : (Nat → AC) → Prop := fun w' => RdAt n w' k g z R p ∧ Fr k 2 w w'
def nIb : Option Nat → Int32
  | none => -1
  | some x => nI x
def RT (n k R : Nat) (o : Option Rst) (w : Nat → AC) (b : Bool) (w' : Nat → AC) : Prop := ∃ g' z' p', RdAt n w' k g' z' R p' ∧ Fr k 2 w w' ∧ z' ≤ 6 ∧ (∀ j, j < 6 → g' j < 4294967296) ∧ b = o.isSome ∧ ∀ st, o = some st → st = (p', z', g')
theorem wi_lt {g x how : Nat} (hg : g < 4294967296) (hx : x < 16) : wi g x how < 4294967296 := by
  have hlo : g % 65536 < 65536 := Nat.mod_lt _ (by decide)
  have hhi : g / 65536 < 65536 := by omega
  unfold wi
  refine cmb_lt ?_ ?_
  · split
    · exact or_lt16 (clr_lt hlo) hx
    · exact clr_lt hlo
  · split
    · exact or_lt16 (clr_lt hhi) hx
    · exact clr_lt hhi
set_option maxRecDepth 100000 in
set_option maxHeartbeats 4000000 in
theorem c_X5_putQ (l : Launch) (d : Nat) {n k : Nat} {w : Nat → AC} {g : Nat → Nat} {z R p : Nat} (hQ : RdAt n w k g z R p) (j x : Nat) (hj : j < 6) : Sq l yX5_put cX5_put 3 none d [aR (k + 1), aZ j, aZ x] n w (Qn (PQ n k (upN g j x) z R p w)) := by
  refine Sp.of (plainFor_of_name (by decide)) (Nat.le_of_ble_eq_true rfl) (fun Γ hΓ hR => ?_)
  show Γ 0 [aR (k + 1), aZ j, aZ x] [] (0, 0) n w
  refine qa_iconst (v := nI 0) hΓ dX5_put_0 ic_0 ?_
  refine qa_iload_n hΓ dX5_put_1 rfl ?_
  refine qz_icmp_gt (tgt := 15) hΓ dX5_put_2 (by decide) (by decide) (by omega) (fun h_2 => absurd h_2 (by omega)) (fun h_2 => ?_)
  refine qa_iload_n hΓ dX5_put_5 rfl ?_
  refine qa_aload_n hΓ dX5_put_6 rfl ?_
  refine qa_alen hΓ dX5_put_7 hQ.lti1 hQ.a0 (by decide) rfl ?_
  refine qz_icmp_ge (tgt := 15) hΓ dX5_put_8 (by decide) (by omega) (by omega) (fun h_8 => absurd h_8 (by omega)) (fun h_8 => ?_)
  refine qa_aload_n hΓ dX5_put_11 rfl ?_
  refine qa_iload_n hΓ dX5_put_12 rfl ?_
  refine qa_iload_n hΓ dX5_put_13 rfl ?_
  refine qz_iast hΓ dX5_put_14 hQ.lti1 hQ.a0 hj (by decide) ?_
  exact qr_v hR dX5_put_15 ⟨rfl, ⟨hQ.1, (upw_ne _ _ _ (by omega)).trans hQ.2.1, upw_self _ _ _⟩, Fr.up (by omega) (by omega)⟩
end
section
/-! The class: texts -/
theorem nar_c {a : Nat} (h : a < 65536) : narrow .char (.int (nI a)) = .int (nI a) := by
  have e := nI_i2c h
  simp only [narrow, UInt32.toUInt32_toUInt16, e]
theorem qr_c {Γ : Gm} {cc : ByteArray} {pc n : Nat} {L : List AV} {w : Nat → AC} {Q : Option AV → (Nat → AC) → Prop} (hR : Rt Γ cc (some .char) 0 0 (Nz n Q)) (hd : decode cc pc = .ok (.ireturn, 1)) {a : Nat} (ha : a < 65536) (hq : Q (some (aZ a)) w) : Γ pc L [aZ a] (0, 0) n w := hR.1 pc L _ (0, 0) n w hd ⟨.char, rfl, nar_c ha⟩ (Nat.le_refl _) (Nat.le_refl _) ⟨rfl, hq⟩
def XtAt (n : Nat) (w : Nat → AC) (k : Nat) (T : Nat → Nat) (N : Nat) : Prop := k + 2 ≤ n ∧ w k = cObj 3 [aR (k + 1), aZ N] ∧ w (k + 1) = cArr 2 60 (fun j => nI (T j))
theorem XtAt.lt {n k : Nat} {w : Nat → AC} {T : Nat → Nat} {N : Nat} (h : XtAt n w k T N) : k < n := by have := h.1; omega
theorem XtAt.o {n k : Nat} {w : Nat → AC} {T : Nat → Nat} {N : Nat} (h : XtAt n w k T N) : w k = cObj 3 [aR (k + 1), aZ N] := h.2.1
theorem XtAt.lti1 {n k : Nat} {w : Nat → AC} {T : Nat → Nat} {N : Nat} (h : XtAt n w k T N) : k + 1 < n := by have := h.1; omega
theorem XtAt.a0 {n k : Nat} {w : Nat → AC} {T : Nat → Nat} {N : Nat} (h : XtAt n w k T N) : w (k + 1) = cArr 2 60 (fun j => nI (T j)) := h.2.2
theorem XtAt.ofFr {n k j m : Nat} {w w' : Nat → AC} {T : Nat → Nat} {N : Nat} (h : XtAt n w k T N) (hF : Fr j m w w') (hd : k + 2 ≤ j ∨ j + m ≤ k) : XtAt n w' k T N := ⟨h.1, (hF k (by omega)).trans h.2.1, (hF (k + 1) (by omega)).trans h.2.2⟩
theorem RdAt.ofFr {n k j m : Nat} {w w' : Nat → AC} {g : Nat → Nat} {z R p : Nat} (h : RdAt n w k g z R p) (hF : Fr j m w w') (hd : k + 2 ≤ j ∨ j + m ≤ k) : RdAt n w' k g z R p := ⟨h.1, (hF k (by omega)).trans h.2.1, (hF (k + 1) (by omega)).trans h.2.2⟩
def PX (n k : Nat) (T : Nat → Nat) (N : Nat) (w : Nat → AC) : (Nat → AC) → Prop := fun w' => XtAt n w' k T N ∧ Fr k 2 w w'
theorem XtAt.setL {n k x : Nat} {w : Nat → AC} {T : Nat → Nat} {N : Nat} (h : XtAt n w k T N) : XtAt n (upw w k (cObj 3 [aR (k + 1), aZ x])) k T x ∧ Fr k 2 w (upw w k (cObj 3 [aR (k + 1), aZ x])) := ⟨⟨h.1, upw_self _ _ _, (upw_ne _ _ _ (by omega)).trans h.2.2⟩, Fr.up (by omega) (by omega)⟩
theorem updc (T : Nat → Nat) (i c : Nat) : upd (fun j => nI (T j)) i (nI c) = fun j => nI (upN T i c j) := by
  funext j
  by_cases e : j = i
  · subst e; rw [upN_self]; simp [upd]
  · rw [upN_ne _ _ _ e]; simp [upd, e]
theorem nar_v {a : Nat} (h : a < 65536) : vp_nar .char (nI a) = nI a := by
  unfold vp_nar
  rw [nar_c h]
end
section
/-! The class: a whole text read -/
theorem tkL_ok {R k c how : Nat} {g : Nat → Nat} {st : Rst} (hk : 1 ≤ k) (h : tkL R k g c how = some st) : st.1 ≤ 5 ∧ (st.1 = 2 ∨ st.1 = 3 → 1 ≤ st.2.1) := by
  unfold tkL at h
  split at h
  · cases h
  · split at h
    · cases h
    · cases h; exact ⟨by simp, fun _ => hk⟩
theorem tkC_ok {R k c : Nat} {g : Nat → Nat} {st : Rst} (hk : 1 ≤ k) (h : tkC R k g c = some st) : st.1 ≤ 5 ∧ (st.1 = 2 ∨ st.1 = 3 → 1 ≤ st.2.1) := by
  unfold tkC at h
  split at h
  · cases h; exact ⟨by simp, fun _ => hk⟩
  · exact tkL_ok hk h
theorem tkB_ok {R k c : Nat} {g : Nat → Nat} {st : Rst} (h : tkB R k g c = some st) : st.1 ≤ 5 ∧ (st.1 = 2 ∨ st.1 = 3 → 1 ≤ st.2.1) := by
  unfold tkB at h
  split at h
  · cases h
  · split at h
    · cases h; exact ⟨by simp, fun _ => Nat.succ_le_succ (Nat.zero_le _)⟩
    · exact tkC_ok (Nat.succ_le_succ (Nat.zero_le _)) h
theorem tk_ok {R p k c : Nat} {g : Nat → Nat} {st : Rst} (hz : p = 2 ∨ p = 3 → 1 ≤ k) (h : tk R (p, k, g) c = some st) : st.1 ≤ 5 ∧ (st.1 = 2 ∨ st.1 = 3 → 1 ≤ st.2.1) := by
  unfold tk at h
  simp only at h
  split at h
  · split at h
    · cases h; exact ⟨by simp, fun q => absurd q (by simp)⟩
    · exact tkB_ok h
  · split at h
    · exact tkB_ok h
    · split at h
      · split at h
        · cases h; exact ⟨by simp, fun q => absurd q (by simp)⟩
        · exact tkC_ok (hz (Or.inl (by assumption))) h
      · split at h
        · exact tkL_ok (hz (Or.inr (by assumption))) h
        · split at h
          · split at h
            · cases h; exact ⟨by simp, fun q => absurd q (by simp)⟩
            · cases h
          · cases h
/-- what read leaves: an error's place, or -1 and the circuit -/
def RR (n k R : Nat) (zz : Nat ⊕ Rst) (w : Nat → AC) (r : Option AV) (w' : Nat → AC) : Prop := ∃ g' z' p', RdAt n w' k g' z' R p' ∧ Fr k 2 w w' ∧ z' ≤ 6 ∧ (∀ j, j < 6 → g' j < 4294967296) ∧ ((∃ e, zz = .inl e ∧ e < 2147483648 ∧ r = some (aZ e)) ∨ (zz = .inr (p', z', g') ∧ r = some (aI (-1))))
end
section
/-! The class: the states that are saved -/
def PaAt (n : Nat) (w : Nat → AC) (ol sz : Nat) (p : Nat → Bk) : Prop := w 8 = cObj 2 [aR 9, aZ ol, aZ sz] ∧ (∃ f, w 9 = cRef 6 f ∧ ∀ i, i < 6 → f i = some (10 + 7 * i)) ∧ (∀ i, i < 6 → BkAt n w (10 + 7 * i) (p i)) ∧ ol < 6 ∧ sz ≤ 6
section
variable {n : Nat} {w w' : Nat → AC} {ol sz : Nat} {p : Nat → Bk}
theorem PaAt.o (h : PaAt n w ol sz p) : w 8 = cObj 2 [aR 9, aZ ol, aZ sz] := h.1
theorem PaAt.lt9 (h : PaAt n w ol sz p) : 9 < n := by have := (h.2.2.1 5 (by decide)).1; omega
theorem PaAt.lt (h : PaAt n w ol sz p) : 8 < n := by have := h.lt9; omega
theorem PaAt.ofFr (h : PaAt n w ol sz p) {j m : Nat} (hF : Fr j m w w') (hd : 52 ≤ j ∨ j + m ≤ 8) : PaAt n w' ol sz p :=
  ⟨(hF 8 (by omega)).trans h.1, ⟨h.2.1.choose, (hF 9 (by omega)).trans h.2.1.choose_spec.1, h.2.1.choose_spec.2⟩, fun i hi => (h.2.2.1 i hi).ofFr hF (by omega), h.2.2.2⟩
theorem PaAt.setO (h : PaAt n w ol sz p) (ol' sz' : Nat) (h1 : ol' < 6) (h2 : sz' ≤ 6) : PaAt n (upw w 8 (cObj 2 [aR 9, aZ ol', aZ sz'])) ol' sz' p ∧ Fr 8 44 w (upw w 8 (cObj 2 [aR 9, aZ ol', aZ sz'])) := by
  have hF : Fr 8 1 w (upw w 8 (cObj 2 [aR 9, aZ ol', aZ sz'])) := Fr.up (by omega) (by omega)
  exact ⟨⟨upw_self _ _ _, ⟨h.2.1.choose, (hF 9 (by omega)).trans h.2.1.choose_spec.1, h.2.1.choose_spec.2⟩, fun i hi => (h.2.2.1 i hi).ofFr hF (by omega), h1, h2⟩, hF.wide (by omega) (by omega)⟩
theorem PaAt.setB (h : PaAt n w ol sz p) {q : Nat} {b : Bk} (hq : q < 6) (hB : BkAt n w' (10 + 7 * q) b) (hF : Fr (10 + 7 * q) 7 w w') : PaAt n w' ol sz (fun i => if i = q then b else p i) ∧ Fr 8 44 w w' := by
  refine ⟨⟨(hF 8 (by omega)).trans h.1, ⟨h.2.1.choose, (hF 9 (by omega)).trans h.2.1.choose_spec.1, h.2.1.choose_spec.2⟩, fun i hi => ?_, h.2.2.2⟩, hF.wide (by omega) (by omega)⟩
  by_cases e : i = q
  · subst e
    show BkAt n w' _ (if i = i then b else p i)
    rw [if_pos rfl]
    exact hB
  · show BkAt n w' _ (if i = q then b else p i)
    rw [if_neg e]
    exact (h.2.2.1 i hi).ofFr hF (by omega)
end
/-- bank b holds what bank c holds -/
def SamB (b c : Bk) : Prop := (∀ i, i < 6 → b i = c i) ∧ ∀ j, j < 9 → b 6 j = c 6 j
def z5 (sz : Nat) : Nat := if sz = 6 then 5 else sz
def SvP (n : Nat) (ol sz : Nat) (p : Nat → Bk) (c : Bk) (w w' : Nat → AC) : Prop := ∃ ol' p', PaAt n w' ol' (z5 sz + 1) p' ∧ Fr 8 44 w w' ∧ (∀ i, i < z5 sz → p' ((ol' + i) % 6) = p ((ol + (if sz = 6 then i + 1 else i)) % 6)) ∧ SamB (p' ((ol' + z5 sz) % 6)) c
set_option maxRecDepth 100000 in
set_option maxHeartbeats 4000000 in
theorem c_X3_bankAt (l : Launch) (d : Nat) (hd : 1 ≤ d) {n : Nat} {w : Nat → AC} {ol sz : Nat} {p : Nat → Bk} (hP : PaAt n w ol sz p) (a : Nat) (ha : a < 1000) : Sq l yX3_bankAt cX3_bankAt 3 (some (.object "RelayBank$Bank")) d [aR 8, aZ a] n w (Rs (some (aR (10 + 7 * ((ol + a) % 6)))) w) := by
  refine Sp.of (plainFor_of_name (by decide)) (Nat.le_of_ble_eq_true rfl) (fun Γ hΓ hR => ?_)
  show Γ 0 [aR 8, aZ a, none] [] (0, 0) n w
  obtain ⟨f, hf9, hf6⟩ := hP.2.1
  have ho6 := hP.2.2.2.1
  refine qa_aload_n hΓ dX3_bankAt_0 rfl ?_
  refine qa_get hΓ dX3_bankAt_1 fk_X3_18 hP.lt hP.o rfl ?_
  refine qa_iload_n hΓ dX3_bankAt_4 rfl ?_
  refine qz_iadd hΓ dX3_bankAt_5 ?_
  refine qa_bipush (v := nI 6) hΓ dX3_bankAt_6 bp_6 ?_
  refine qc_S1 hΓ dX3_bankAt_8 lk_X3_22 vw_J9_floorMod_7cf53 (by omega) (c_J9_floorMod_7cf53 l (d - 1) _ _ (by omega) (by decide) (by decide)) rfl rfl (Nat.le_of_ble_eq_true rfl) ?_
  have hq6 : (ol + a) % 6 < 6 := Nat.mod_lt _ (by decide)
  refine qa_istore_n hΓ dX3_bankAt_11 (by decide) ?_
  refine qa_iload_n hΓ dX3_bankAt_12 rfl ?_
  refine qa_aload_n hΓ dX3_bankAt_13 rfl ?_
  refine qa_get hΓ dX3_bankAt_14 fk_X3_11 hP.lt hP.o rfl ?_
  refine qa_alenR hΓ dX3_bankAt_17 hP.lt9 hf9 rfl ?_
  refine qz_icmp_ge (tgt := 30) hΓ dX3_bankAt_18 (by decide) (by omega) (by decide) (fun h => absurd h (by omega)) (fun _ => ?_)
  refine qa_aload_n hΓ dX3_bankAt_21 rfl ?_
  refine qa_get hΓ dX3_bankAt_22 fk_X3_11 hP.lt hP.o rfl ?_
  refine qa_iload_n hΓ dX3_bankAt_25 rfl ?_
  refine qa_aald hΓ dX3_bankAt_26 hP.lt9 hf9 (vp_in_nI (by omega) (by decide)) ?_
  rw [nI_clamp (by omega), hf6 _ (by omega)]
  refine qa_goto (tgt := 31) hΓ dX3_bankAt_27 (by decide) ?_
  exact qr_a hR dX3_bankAt_31 ⟨rfl, rfl⟩

set_option maxRecDepth 100000 in
set_option maxHeartbeats 4000000 in
theorem c_X3_save (l : Launch) (d : Nat) (hd : 2 ≤ d) {n : Nat} {w : Nat → AC} {ol sz : Nat} {p : Nat → Bk} (hP : PaAt n w ol sz p) {c : Bk} (hO : BkAt n w 1 c) : Sq l yX3_save cX3_save 3 none d [aR 8, aR 1] n w (Qn (SvP n ol sz p c w)) := by
  refine Sp.of (plainFor_of_name (by decide)) (Nat.le_of_ble_eq_true rfl) (fun Γ hΓ hR => ?_)
  show Γ 0 [aR 8, aR 1, none] [] (0, 0) n w
  have tail : ∀ (w1 : Nat → AC) (ol1 z : Nat), PaAt n w1 ol1 z p → Fr 8 44 w w1 → z = z5 sz → z < 6 → (∀ i, i < z → (ol1 + i) % 6 = (ol + (if sz = 6 then i + 1 else i)) % 6) → Γ 34 [aR 8, aR 1, none] [] (0, 0) n w1 := by
    obtain ⟨w0, hw0⟩ : ∃ X, X = w := ⟨_, rfl⟩
    rw [← hw0] at hR ⊢
    have hO0 : BkAt n w0 1 c := hw0 ▸ hO
    clear hP hw0 hO w
    intro w ol1 z hP hF0 hz hz6 hi
    have hO : BkAt n w 1 c := hO0.ofFr hF0 (by omega)
    have ho6 := hP.2.2.2.1
    refine qa_aload_n hΓ dX3_save_34 rfl ?_
    refine qa_aload_n hΓ dX3_save_35 rfl ?_
    refine qa_get hΓ dX3_save_36 fk_X3_28 hP.lt hP.o rfl ?_
    refine qc_V1 hΓ dX3_save_39 lk_X3_31 vw_X3_bankAt (by omega) (c_X3_bankAt l (d - 1) (by omega) hP _ (by omega)) rfl hP.lt hP.o rfl rfl (Nat.le_of_ble_eq_true rfl) ?_
    obtain ⟨q, hqe⟩ : ∃ X, X = (ol1 + z) % 6 := ⟨_, rfl⟩
    have hq6 : q < 6 := by omega
    rw [← hqe]
    refine qa_astore_n hΓ dX3_save_42 (by decide) ?_
    refine qa_aload_n hΓ dX3_save_43 rfl ?_
    refine qa_ifnull hΓ dX3_save_44 ?_
    refine qa_aload_n hΓ dX3_save_47 rfl ?_
    refine qa_aload_n hΓ dX3_save_48 rfl ?_
    refine qc_V0q hΓ dX3_save_49 lk_X3_35 vw_X0_copy (by omega) (c_X0_copy l (d - 1) (by omega) (hP.2.2.1 q hq6) hO (by omega)) rfl (hP.2.2.1 q hq6).lt (hP.2.2.1 q hq6).o rfl rfl (Nat.le_of_ble_eq_true rfl) (fun w hq => ?_)
    obtain ⟨b', hB', hF, hs1, hs2⟩ := hq
    obtain ⟨hP, hF⟩ := hP.setB hq6 hB' hF
    have hF0 := hF0.tr hF
    refine qa_aload_n hΓ dX3_save_52 rfl ?_
    refine qa_dup hΓ dX3_save_53 ?_
    refine qa_get hΓ dX3_save_54 fk_X3_28 hP.lt hP.o rfl ?_
    refine qa_iconst (v := nI 1) hΓ dX3_save_57 ic_1 ?_
    refine qz_iadd hΓ dX3_save_58 ?_
    refine qa_puti hΓ dX3_save_59 fk_X3_28 hP.lt hP.o (by simp) ?_
    obtain ⟨hP1, hF⟩ := hP.setO ol1 (z + 1) hP.2.2.2.1 (by omega)
    have hF0 := hF0.tr hF
    obtain ⟨w9, hw9⟩ : ∃ X, X = upw w 8 (cObj 2 [aR 9, aZ ol1, aZ (z + 1)]) := ⟨_, rfl⟩
    refine (show Γ 62 _ _ (0, 0) n w9 → _ from fun h => by rw [hw9] at h; exact h) ?_
    rw [← hw9] at hP1 hF hF0
    have hP := hP1
    obtain ⟨w, hwe⟩ : ∃ X, X = w9 := ⟨_, rfl⟩
    rw [← hwe] at hP hF hF0 ⊢
    refine qr_v hR dX3_save_62 ⟨rfl, ol1, _, hz ▸ hP, hF0, fun i h => ?_, ?_⟩
    · have h1 := hi i (by omega)
      rw [← h1]
      exact if_neg (by omega)
    · rw [← hz, ← hqe]
      rw [if_pos rfl]
      exact ⟨hs1, hs2⟩
  have hF0 : Fr 8 44 w w := Fr.rf
  have ho6 := hP.2.2.2.1
  have hs6 := hP.2.2.2.2
  refine qa_aload_n hΓ dX3_save_0 rfl ?_
  refine qa_get hΓ dX3_save_1 fk_X3_28 hP.lt hP.o rfl ?_
  refine qa_bipush (v := nI 6) hΓ dX3_save_4 bp_6 ?_
  refine qz_icmp_ne (tgt := 34) hΓ dX3_save_6 (by decide) (by omega) (by omega) (fun h_6 => ?_) (fun h_6 => ?_)
  · exact tail w ol sz hP hF0 (by unfold z5; rw [if_neg h_6]) (by omega) (fun i hi => by rw [if_neg h_6])
  · refine qa_aload_n hΓ dX3_save_9 rfl ?_
    refine qa_aload_n hΓ dX3_save_10 rfl ?_
    refine qa_get hΓ dX3_save_11 fk_X3_18 hP.lt hP.o rfl ?_
    refine qa_iconst (v := nI 1) hΓ dX3_save_14 ic_1 ?_
    refine qz_iadd hΓ dX3_save_15 ?_
    refine qa_bipush (v := nI 6) hΓ dX3_save_16 bp_6 ?_
    refine qc_S1 hΓ dX3_save_18 lk_X3_22 vw_J9_floorMod_7cf53 (by omega) (c_J9_floorMod_7cf53 l (d - 1) _ _ (by omega) (by decide) (by decide)) rfl rfl (Nat.le_of_ble_eq_true rfl) ?_
    refine qa_puti hΓ dX3_save_21 fk_X3_18 hP.lt hP.o (by simp) ?_
    obtain ⟨hP1, hF⟩ := hP.setO ((ol + 1) % 6) sz (Nat.mod_lt _ (by decide)) hP.2.2.2.2
    have hF0 := hF0.tr hF
    obtain ⟨w9, hw9⟩ : ∃ X, X = upw w 8 (cObj 2 [aR 9, aZ ((ol + 1) % 6), aZ sz]) := ⟨_, rfl⟩
    refine (show Γ 24 _ _ (0, 0) n w9 → _ from fun h => by rw [hw9] at h; exact h) ?_
    rw [← hw9] at hP1 hF hF0
    have hP := hP1
    obtain ⟨w, hwe⟩ : ∃ X, X = w9 := ⟨_, rfl⟩
    rw [← hwe] at hP hF hF0 ⊢
    refine qa_aload_n hΓ dX3_save_24 rfl ?_
    refine qa_dup hΓ dX3_save_25 ?_
    refine qa_get hΓ dX3_save_26 fk_X3_28 hP.lt hP.o rfl ?_
    refine qa_iconst (v := nI 1) hΓ dX3_save_29 ic_1 ?_
    refine qz_isub hΓ dX3_save_30 (by omega) ?_
    refine qa_puti hΓ dX3_save_31 fk_X3_28 hP.lt hP.o (by simp) ?_
    obtain ⟨hP1, hF⟩ := hP.setO ((ol + 1) % 6) (sz - 1) hP.2.2.2.1 (by omega)
    have hF0 := hF0.tr hF
    obtain ⟨w9, hw9⟩ : ∃ X, X = upw w 8 (cObj 2 [aR 9, aZ ((ol + 1) % 6), aZ (sz - 1)]) := ⟨_, rfl⟩
    refine (show Γ 34 _ _ (0, 0) n w9 → _ from fun h => by rw [hw9] at h; exact h) ?_
    rw [← hw9] at hP1 hF hF0
    have hP := hP1
    obtain ⟨w, hwe⟩ : ∃ X, X = w9 := ⟨_, rfl⟩
    rw [← hwe] at hP hF hF0 ⊢
    exact tail w _ _ hP hF0 (by unfold z5; rw [if_pos h_6]; omega) (by omega) (fun i hi => by rw [if_pos h_6]; omega)

def RsP (n : Nat) (ol sz : Nat) (p : Nat → Bk) (w : Nat → AC) (r : Bool) (w' : Nat → AC) : Prop := r = decide (0 < sz) ∧ (sz = 0 → w' = w) ∧ (0 < sz → ∃ b', PaAt n w' ol (sz - 1) p ∧ BkAt n w' 1 b' ∧ SamB b' (p ((ol + (sz - 1)) % 6)) ∧ Fr 1 51 w w')
set_option maxRecDepth 100000 in
set_option maxHeartbeats 4000000 in
theorem c_X3_restore (l : Launch) (d : Nat) (hd : 2 ≤ d) {n : Nat} {w : Nat → AC} {ol sz : Nat} {p : Nat → Bk} (hP : PaAt n w ol sz p) {b : Bk} (hB : BkAt n w 1 b) : Sq l yX3_restore cX3_restore 3 (some .boolean) d [aR 8, aR 1] n w (Qb (RsP n ol sz p w)) := by
  refine Sp.of (plainFor_of_name (by decide)) (Nat.le_of_ble_eq_true rfl) (fun Γ hΓ hR => ?_)
  show Γ 0 [aR 8, aR 1, none] [] (0, 0) n w
  obtain ⟨w0, hwe0⟩ : ∃ X, w = X := ⟨_, rfl⟩
  rw [hwe0] at hR
  have ho6 := hP.2.2.2.1
  have hs6 := hP.2.2.2.2
  refine qa_aload_n hΓ dX3_restore_0 rfl ?_
  refine qa_get hΓ dX3_restore_1 fk_X3_28 hP.lt hP.o rfl ?_
  refine qz_if_le (tgt := 20) hΓ dX3_restore_4 (by decide) (by omega) (fun h_4 => ?_) (fun h_4 => ?_)
  · refine qa_null hΓ dX3_restore_20 ?_
    refine qa_astore_nN hΓ dX3_restore_21 (by decide) ?_
    refine qa_aload_nN hΓ dX3_restore_22 rfl ?_
    refine qa_ifnonnullN hΓ dX3_restore_23 ?_
    refine qa_iconst (v := nI 0) hΓ dX3_restore_26 ic_0 ?_
    exact qr_b (p := false) hR dX3_restore_27 ⟨false, rfl, ⟨by rw [decide_eq_false]; omega, fun _ => hwe0, fun h => absurd h (by omega)⟩⟩
  · refine qa_aload_n hΓ dX3_restore_7 rfl ?_
    refine qa_aload_n hΓ dX3_restore_8 rfl ?_
    refine qa_get hΓ dX3_restore_9 fk_X3_28 hP.lt hP.o rfl ?_
    refine qa_iconst (v := nI 1) hΓ dX3_restore_12 ic_1 ?_
    refine qz_isub hΓ dX3_restore_13 (by omega) ?_
    refine qc_V1 hΓ dX3_restore_14 lk_X3_31 vw_X3_bankAt (by omega) (c_X3_bankAt l (d - 1) (by omega) hP _ (by omega)) rfl hP.lt hP.o rfl rfl (Nat.le_of_ble_eq_true rfl) ?_
    obtain ⟨q, hqe⟩ : ∃ X, X = (ol + (sz - 1)) % 6 := ⟨_, rfl⟩
    have hq6 : q < 6 := by omega
    rw [← hqe]
    refine qa_goto (tgt := 21) hΓ dX3_restore_17 (by decide) ?_
    refine qa_astore_n hΓ dX3_restore_21 (by decide) ?_
    refine qa_aload_n hΓ dX3_restore_22 rfl ?_
    refine qa_ifnonnull (tgt := 28) hΓ dX3_restore_23 (by decide) ?_
    refine qa_aload_n hΓ dX3_restore_28 rfl ?_
    refine qa_aload_n hΓ dX3_restore_29 rfl ?_
    refine qc_V0q hΓ dX3_restore_30 lk_X3_35 vw_X0_copy (by omega) (c_X0_copy l (d - 1) (by omega) hB (hP.2.2.1 q hq6) (by omega)) rfl hB.lt hB.o rfl rfl (Nat.le_of_ble_eq_true rfl) (fun w hq => ?_)
    obtain ⟨b', hB, hF, hs1, hs2⟩ := hq
    have hF0 : Fr 1 51 w0 w := (hwe0 ▸ hF).wide (by omega) (by omega)
    have hP := hP.ofFr hF (by omega)
    have hF0' := hF0
    refine qa_aload_n hΓ dX3_restore_33 rfl ?_
    refine qa_dup hΓ dX3_restore_34 ?_
    refine qa_get hΓ dX3_restore_35 fk_X3_28 hP.lt hP.o rfl ?_
    refine qa_iconst (v := nI 1) hΓ dX3_restore_38 ic_1 ?_
    refine qz_isub hΓ dX3_restore_39 (by omega) ?_
    refine qa_puti hΓ dX3_restore_40 fk_X3_28 hP.lt hP.o (by simp) ?_
    obtain ⟨hP1, hF⟩ := hP.setO ol (sz - 1) hP.2.2.2.1 (by omega)
    have hF0 := hF0.tr (hF.wide (by omega) (by omega))
    obtain ⟨w9, hw9⟩ : ∃ X, X = upw w 8 (cObj 2 [aR 9, aZ ol, aZ (sz - 1)]) := ⟨_, rfl⟩
    refine (show Γ 43 _ _ (0, 0) n w9 → _ from fun h => by rw [hw9] at h; exact h) ?_
    rw [← hw9] at hP1 hF hF0
    have hP := hP1
    obtain ⟨w, hwe⟩ : ∃ X, X = w9 := ⟨_, rfl⟩
    rw [← hwe] at hP hF hF0 ⊢
    refine qa_iconst (v := nI 1) hΓ dX3_restore_43 ic_1 ?_
    exact qr_b (p := true) hR dX3_restore_44 ⟨true, rfl, ⟨by rw [decide_eq_true]; omega, fun h => absurd h (by omega), fun _ => ⟨b', hP, hB.ofFr hF (by omega), hqe ▸ ⟨hs1, hs2⟩, hF0⟩⟩⟩
end
section
/-! The class: the whole world of its cells, and how it stands for the model -/
abbrev rbObj : AC := cObj 4 [aR 1, aR 8, aR 52, aR 54, aR 56, aR 63]
def WX (n : Nat) (w : Nat → AC) (b : Bk) (ol sz : Nat) (p : Nat → Bk) (T : Nat → Nat) (N : Nat) (g : Nat → Nat) (z R q : Nat) (c1 c2 : Bk) : Prop := w 0 = rbObj ∧ BkAt n w 1 b ∧ PaAt n w ol sz p ∧ XtAt n w 52 T N ∧ RdAt n w 54 g z R q ∧ BkAt n w 56 c1 ∧ BkAt n w 63 c2 ∧ ∀ j, j < 6 → g j < 4294967296
section
variable {n : Nat} {w w' : Nat → AC} {b b' : Bk} {ol sz : Nat} {p p' : Nat → Bk} {T : Nat → Nat} {N : Nat} {g : Nat → Nat} {z R q : Nat} {c1 c2 : Bk} (h : WX n w b ol sz p T N g z R q c1 c2)
theorem WX.o (h : WX n w b ol sz p T N g z R q c1 c2) : w 0 = rbObj := h.1
theorem WX.lt (h : WX n w b ol sz p T N g z R q c1 c2) : 0 < n := by have := h.2.1.1; omega
theorem WX.now (h : WX n w b ol sz p T N g z R q c1 c2) : BkAt n w 1 b := h.2.1
theorem WX.past (h : WX n w b ol sz p T N g z R q c1 c2) : PaAt n w ol sz p := h.2.2.1
theorem WX.text (h : WX n w b ol sz p T N g z R q c1 c2) : XtAt n w 52 T N := h.2.2.2.1
theorem WX.rdr (h : WX n w b ol sz p T N g z R q c1 c2) : RdAt n w 54 g z R q := h.2.2.2.2.1
theorem WX.chg (h : WX n w b ol sz p T N g z R q c1 c2) : BkAt n w 56 c1 := h.2.2.2.2.2.1
theorem WX.tri (h : WX n w b ol sz p T N g z R q c1 c2) : BkAt n w 63 c2 := h.2.2.2.2.2.2.1
theorem WX.gl (h : WX n w b ol sz p T N g z R q c1 c2) : ∀ j, j < 6 → g j < 4294967296 := h.2.2.2.2.2.2.2
theorem WX.putB (h : WX n w b ol sz p T N g z R q c1 c2) (hB : BkAt n w' 1 b') (hF : Fr 1 7 w w') : WX n w' b' ol sz p T N g z R q c1 c2 := ⟨(hF 0 (by omega)).trans h.o, hB, h.past.ofFr hF (by omega), h.text.ofFr hF (by omega), h.rdr.ofFr hF (by omega), h.chg.ofFr hF (by omega), h.tri.ofFr hF (by omega), h.gl⟩
theorem WX.putP {ol' sz' : Nat} (h : WX n w b ol sz p T N g z R q c1 c2) (hP : PaAt n w' ol' sz' p') (hF : Fr 8 44 w w') : WX n w' b ol' sz' p' T N g z R q c1 c2 := ⟨(hF 0 (by omega)).trans h.o, h.now.ofFr hF (by omega), hP, h.text.ofFr hF (by omega), h.rdr.ofFr hF (by omega), h.chg.ofFr hF (by omega), h.tri.ofFr hF (by omega), h.gl⟩
theorem WX.putBP {ol' sz' : Nat} (h : WX n w b ol sz p T N g z R q c1 c2) (hB : BkAt n w' 1 b') (hP : PaAt n w' ol' sz' p') (hF : Fr 1 51 w w') : WX n w' b' ol' sz' p' T N g z R q c1 c2 := ⟨(hF 0 (by omega)).trans h.o, hB, hP, h.text.ofFr hF (by omega), h.rdr.ofFr hF (by omega), h.chg.ofFr hF (by omega), h.tri.ofFr hF (by omega), h.gl⟩
theorem WX.putX {T' : Nat → Nat} {N' : Nat} (h : WX n w b ol sz p T N g z R q c1 c2) (hB : XtAt n w' 52 T' N') (hF : Fr 52 2 w w') : WX n w' b ol sz p T' N' g z R q c1 c2 := ⟨(hF 0 (by omega)).trans h.o, h.now.ofFr hF (by omega), h.past.ofFr hF (by omega), hB, h.rdr.ofFr hF (by omega), h.chg.ofFr hF (by omega), h.tri.ofFr hF (by omega), h.gl⟩
theorem WX.putR {g' : Nat → Nat} {z' R' q' : Nat} (h : WX n w b ol sz p T N g z R q c1 c2) (hB : RdAt n w' 54 g' z' R' q') (hg : ∀ j, j < 6 → g' j < 4294967296) (hF : Fr 54 2 w w') : WX n w' b ol sz p T N g' z' R' q' c1 c2 := ⟨(hF 0 (by omega)).trans h.o, h.now.ofFr hF (by omega), h.past.ofFr hF (by omega), h.text.ofFr hF (by omega), hB, h.chg.ofFr hF (by omega), h.tri.ofFr hF (by omega), hg⟩
theorem WX.putC (h : WX n w b ol sz p T N g z R q c1 c2) (hB : BkAt n w' 56 b') (hF : Fr 56 7 w w') : WX n w' b ol sz p T N g z R q b' c2 := ⟨(hF 0 (by omega)).trans h.o, h.now.ofFr hF (by omega), h.past.ofFr hF (by omega), h.text.ofFr hF (by omega), h.rdr.ofFr hF (by omega), hB, h.tri.ofFr hF (by omega), h.gl⟩
theorem WX.putT (h : WX n w b ol sz p T N g z R q c1 c2) (hB : BkAt n w' 63 b') (hF : Fr 63 7 w w') : WX n w' b ol sz p T N g z R q c1 b' := ⟨(hF 0 (by omega)).trans h.o, h.now.ofFr hF (by omega), h.past.ofFr hF (by omega), h.text.ofFr hF (by omega), h.rdr.ofFr hF (by omega), h.chg.ofFr hF (by omega), hB, h.gl⟩
theorem WX.ofFr (h : WX n w b ol sz p T N g z R q c1 c2) {j m : Nat} (hF : Fr j m w w') (hj : 70 ≤ j) : WX n w' b ol sz p T N g z R q c1 c2 := ⟨(hF 0 (by omega)).trans h.o, h.now.ofFr hF (by omega), h.past.ofFr hF (by omega), h.text.ofFr hF (by omega), h.rdr.ofFr hF (by omega), h.chg.ofFr hF (by omega), h.tri.ofFr hF (by omega), h.gl⟩
end
/-- a bank that stands for a row -/
def Gd (s : Nat → Nat) (b : Bk) (B : Nat) : Prop := RepC s b ∧ SeC s ∧ CC s ∧ Wt s B
theorem Gd.mono {s : Nat → Nat} {b : Bk} {B C : Nat} (h : Gd s b B) (hBC : B ≤ C) : Gd s b C := ⟨h.1, h.2.1, h.2.2.1, h.2.2.2.mono hBC⟩
def SX (M : Bk) (B : Nat) (b : Bk) (ol : Nat) (p : Nat → Bk) : Prop := RepC (M 0) b ∧ SeC (M 0) ∧ CC (M 0) ∧ Wt (M 0) B ∧ M 5 0 ≤ 6 ∧ (∀ i, i < M 5 0 → Gd (pst M i) (p ((ol + i) % 6)) B) ∧ M 5 1 ≤ 60 ∧ ∀ j, M 4 j < 256
def CW (M : Bk) (B n : Nat) (w : Nat → AC) : Prop := ∃ b ol p g z R q c1 c2, WX n w b ol (M 5 0) p (M 4) (M 5 1) g z R q c1 c2 ∧ SX M B b ol p
def QC (sp : Int32 → Bk → Prop) (B n : Nat) (w : Nat → AC) : Option AV → (Nat → AC) → Prop := fun r w' => ∃ rr, r = some (aI rr) ∧ Fr 0 70 w w' ∧ ∀ r2 M', sp r2 M' → r2 = rr ∧ CW M' B n w'
section
variable {n : Nat} {w : Nat → AC} {M M' : Bk} {B : Nat} {b b' : Bk} {ol ol' : Nat} {p p' : Nat → Bk} {N : Nat} {g : Nat → Nat} {z R q : Nat} {c1 c2 : Bk}
theorem CW.sm (hX : SX M B b ol p) (hZ : WX n w b ol (M 5 0) p (M 4) (M 5 1) g z R q c1 c2) (h : Sm M M') : CW M' (B + 4100) n w := by
  obtain ⟨h0, h1, h2, h3, h4⟩ := h
  obtain ⟨k1, k2, k3, k4, k5, k6, k7, k8⟩ := hX
  refine ⟨b, ol, p, g, z, R, q, c1, c2, by rw [h2, h3, h4]; exact hZ, ?_⟩
  unfold SX
  rw [h0, h2, h3, h4]
  refine ⟨k1, k2, k3, k4.mono (by omega), k5, fun i hi => ?_, k7, k8⟩
  have e : pst M' i = pst M i := by unfold pst; rw [h1]
  rw [e]
  exact (k6 i hi).mono (by omega)
theorem CW.tx {T : Nat → Nat} (hX : SX M B b ol p) (hZ : WX n w b ol (M 5 0) p T N g z R q c1 c2) (hT : ∀ j, T j < 256) (hN : N ≤ 60) (h0 : M' 0 = M 0) (h1 : M' 1 = M 1) (h2 : M' 5 0 = M 5 0) (h3 : M' 4 = T) (h4 : M' 5 1 = N) : CW M' (B + 4100) n w := by
  obtain ⟨k1, k2, k3, k4, k5, k6, k7, k8⟩ := hX
  refine ⟨b, ol, p, g, z, R, q, c1, c2, by rw [h2, h3, h4]; exact hZ, ?_⟩
  unfold SX
  rw [h0, h2, h3, h4]
  refine ⟨k1, k2, k3, k4.mono (by omega), k5, fun i hi => ?_, hN, hT⟩
  have e : pst M' i = pst M i := by unfold pst; rw [h1]
  rw [e]
  exact (k6 i hi).mono (by omega)
theorem CW.nt {s : Nat → Nat} (hX : SX M B b ol p) (hZ : WX n w b' ol' (z5 (M 5 0) + 1) p' (M 4) N g z R q c1 c2) (hs1 : ∀ i, i < z5 (M 5 0) → p' ((ol' + i) % 6) = p ((ol + (if M 5 0 = 6 then i + 1 else i)) % 6)) (hs2 : SamB (p' ((ol' + z5 (M 5 0)) % 6)) b) (hR : RepC s b') (hS : SeC s) (hC : CC s) (hW : Wt s (B + 4100)) (hN : N ≤ 60) (hn : Nt M M') (h0 : M' 0 = s) (h4 : M' 4 = M 4) (h5 : M' 5 1 = N) : CW M' (B + 4100) n w := by
  obtain ⟨k1, k2, k3, k4, k5, k6, k7, k8⟩ := hX
  obtain ⟨n1, n2, n3⟩ := hn
  have e5 : p5 M = z5 (M 5 0) := rfl
  rw [e5] at n1 n2 n3
  refine ⟨b', ol', p', g, z, R, q, c1, c2, by rw [n1, h4, h5]; exact hZ, ?_⟩
  unfold SX
  rw [h0, n1, h4, h5]
  have hz : z5 (M 5 0) ≤ 5 ∧ (M 5 0 = 6 → z5 (M 5 0) = 5) ∧ (M 5 0 ≠ 6 → z5 (M 5 0) = M 5 0) := by unfold z5; split <;> omega
  refine ⟨hR, hS, hC, hW, by omega, fun i hi => ?_, hN, k8⟩
  by_cases e : i < z5 (M 5 0)
  · rw [n2 i e, hs1 i e]
    by_cases e6 : M 5 0 = 6
    · rw [if_pos e6]
      exact (k6 _ (by have := hz.2.1 e6; omega)).mono (by omega)
    · rw [if_neg e6]
      exact (k6 _ (by have := hz.2.2 e6; omega)).mono (by omega)
  · have ei : i = z5 (M 5 0) := by omega
    subst ei
    rw [n3]
    exact ⟨k1.of hs2.1 hs2.2, k2, k3, k4.mono (by omega)⟩
theorem CW.op {s : Nat → Nat} (hX : SX M B b ol p) (hZ : WX n w b' ol' (z5 (M 5 0) + 1) p' (M 4) (M 5 1) g z R q c1 c2) (hs1 : ∀ i, i < z5 (M 5 0) → p' ((ol' + i) % 6) = p ((ol + (if M 5 0 = 6 then i + 1 else i)) % 6)) (hs2 : SamB (p' ((ol' + z5 (M 5 0)) % 6)) b) (hR : RepC s b') (hS : SeC s) (hC : CC s) (hW : Wt s (B + 4100)) (h : Op M s M') : CW M' (B + 4100) n w := CW.nt hX hZ hs1 hs2 hR hS hC hW hX.2.2.2.2.2.2.1 h.1 h.2.1 h.2.2.1 h.2.2.2
end
/-- the coils have been looked at -/
theorem onS_gen {s s' : Nat → Nat} (h0 : s' 0 = s 0) (h1 : s' 1 = s 1) (hc : ∀ q x, x < 25 → (x = 3 ∨ x = 5 ∨ x = 6) → vv s' q x = vv s q x) : onS s' = onS s := by
  unfold onS
  rw [h0, h1, mk_congr (q := clB s) (fun i _ => by unfold clB; rw [hc i 6 (by decide) (by decide), hc i 3 (by decide) (by decide), hc i 5 (by decide) (by decide)])]
theorem CC.gen {s s' : Nat → Nat} (h : CC s) (h6 : ∀ q, q < s 1 → vv s q 12 ≤ 6) (h0 : s' 0 = s 0) (h1 : s' 1 = s 1) (hc : ∀ q x, x < 25 → (x = 3 ∨ x = 4 ∨ x = 5 ∨ x = 6 ∨ 12 ≤ x) → vv s' q x = vv s q x) : CC s' := by
  intro q hq
  rw [h1] at hq
  rw [hc q 4 (by decide) (by decide), onS_gen h0 h1 (fun q x hx h => hc q x hx (by omega)), h q hq, cnd_congr (s := s) (t := s') (h6 q hq) (fun x h1 h2 => (hc q x h2 (by omega)).symm)]
theorem CC.col {s : Nat → Nat} {B r x v : Nat} (h : CC s) (hW : Wt s B) (hx : x < 25) (hc : x = 0 ∨ x = 1 ∨ x = 2 ∨ x = 7) : CC (upN s (ix r x) v) := h.gen (fun q hq => hW.m6 hq) (hd_up _ _ _ _ (by decide)) (hd_up _ _ _ _ (by decide)) (fun q y hy h2 => vv_oth _ _ _ _ _ _ hx hy (Or.inr (by omega)))
theorem CC.time {s : Nat → Nat} {B v : Nat} (h : CC s) (hW : Wt s B) : CC (upN s 2 v) := h.gen (fun q hq => hW.m6 hq) (upN_ne _ _ _ (by decide)) (upN_ne _ _ _ (by decide)) (fun q y hy h2 => vv_hd _ _ _ _ _ (by decide))
theorem Wt.sd {s : Nat → Nat} {B r a b c : Nat} (h : Wt s B) (ha : a ≤ 20) (hb : b ≤ 20) (hc : c ≤ 5) : Wt (sdS s r a b c) B := ((h.up (by decide) (by simpa [bdF] using ha)).up (by decide) (by simpa [bdF] using hb)).up (by decide) (by simpa [bdF] using hc)
theorem CC.sd {s : Nat → Nat} {B r a b c : Nat} (h : CC s) (hW : Wt s B) (ha : a ≤ 20) (hb : b ≤ 20) : CC (sdS s r a b c) := ((h.col hW (by decide) (by decide)).col (hW.up (by decide) (by simpa [bdF] using ha)) (by decide) (by decide)).col ((hW.up (by decide) (by simpa [bdF] using ha)).up (by decide) (by simpa [bdF] using hb)) (by decide) (by decide)
theorem Wt.add {s : Nat → Nat} {B a b c : Nat} (h : Wt s B) (h7 : s 1 < 8) (ha : a ≤ 20) (hb : b ≤ 20) (hc : c ≤ 5) : Wt (addS s a b c) B := by
  refine ⟨by rw [addS_hd _ _ _ _ (by decide), if_neg (by decide)]; exact h.1, by rw [addS_hd _ _ _ _ (by decide), if_pos rfl]; omega, by rw [addS_hd _ _ _ _ (by decide), if_neg (by decide)]; exact h.2.2.1, fun r hr x hx => ?_⟩
  rw [addS_hd _ _ _ _ (by decide), if_pos rfl] at hr
  rw [addS_v _ _ _ _ _ _ hx]
  by_cases e : r = s 1
  · rw [if_pos e]
    unfold bdF
    repeat' split
    all_goals omega
  · rw [if_neg e]
    exact h.2.2.2 r (by omega) x hx
theorem CC.add {s : Nat → Nat} {B a b c : Nat} (h : CC s) (hW : Wt s B) : CC (addS s a b c) := by
  have hv : ∀ q x, q < s 1 → x < 25 → vv (addS s a b c) q x = vv s q x := fun q x hq hx => by rw [addS_v _ _ _ _ _ _ hx, if_neg (by omega)]
  have e1 : addS s a b c 1 = s 1 + 1 := by rw [addS_hd _ _ _ _ (by decide), if_pos rfl]
  have e0 : addS s a b c 0 = s 0 := by rw [addS_hd _ _ _ _ (by decide), if_neg (by decide)]
  have hn : ∀ x, x < 25 → 3 ≤ x → vv (addS s a b c) (s 1) x = 0 := fun x hx h3 => by rw [addS_v _ _ _ _ _ _ hx, if_pos rfl, if_neg (by omega), if_neg (by omega), if_neg (by omega)]
  have hon : onS (addS s a b c) = onS s := by
    unfold onS
    rw [e0, e1]
    have e2 : mk (clB (addS s a b c)) (s 1 + 1) = mk (clB s) (s 1) := by
      show mk (clB (addS s a b c)) (s 1) ||| (if clB (addS s a b c) (s 1) then 1 <<< s 1 else 0) = _
      have e3 : clB (addS s a b c) (s 1) = false := by
        unfold clB
        rw [hn 6 (by decide) (by decide), hn 3 (by decide) (by decide)]
        rfl
      rw [e3, mk_congr (q := clB s) (fun i hi => by unfold clB; rw [hv i 6 hi (by decide), hv i 3 hi (by decide), hv i 5 hi (by decide)])]
      simp
    rw [e2]
  intro q hq
  rw [e1] at hq
  rw [hon]
  by_cases e : q = s 1
  · subst e
    rw [hn 4 (by decide) (by decide)]
    unfold cnd
    rw [hn 12 (by decide) (by decide)]
    rfl
  · rw [hv q 4 (by omega) (by decide), h q (by omega), cnd_congr (s := s) (t := addS s a b c) (hW.m6 (by omega)) (fun x h1 h2 => (hv q x (by omega) h2).symm)]
theorem CC.hap {s : Nat → Nat} {B e : Nat} (hW : Wt s B) (he : e < 4 * s 1) : CC (hap s e) := CC_lks (Wt.hp1 hW he)
theorem CC.stl {rev : Bool} : ∀ {m : Nat} {s : Nat → Nat} {B : Nat}, CC s → Wt s B → CC (stl s rev m).2
  | 0, s, B, h, _ => h
  | m + 1, s, B, h, hW => by
    cases ho : nx s rev with
    | none => rw [stl_none _ ho]; exact h
    | some e =>
      rw [stl_some _ ho]
      exact CC.stl (CC.hap hW (nx_lt ho)) (hW.hap (nx_lt ho))
theorem CC.psL {en : Nat} : ∀ {m : Nat} {s : Nat → Nat} {B : Nat}, CC s → Wt s B → CC (psL en s m).2
  | 0, s, B, h, _ => h
  | m + 1, s, B, h, hW => by
    unfold Jvm.Pilot.@@N@@.psL
    split
    · exact h
    · rename_i e ho
      split
      · exact CC.psL (CC.hap hW (nx_lt ho)) (hW.hap (nx_lt ho))
      · exact h
theorem CC.stk {s : Nat → Nat} {B r v : Nat} (h : CC s) (hW : Wt s B) : CC (upN s (ix r 7) v) := h.col hW (by decide) (by decide)
theorem qB_putN {Γ : Gm} {l : Launch} {y : MethodName} {cc : ByteArray} {mL d mc ms pc n k idx x : Nat} {L st : List AV} {cs : Nat × Nat} {w : Nat → AC} {b : Bk} (hΓ : Ok Γ l y cc mL d mc ms) (i : Nat) (hd : decode cc pc = .ok (.putfield idx, 3)) (hf : FLN y.cls idx 0 (i + 6) false .int) (hi : i < 9) (hB : BkAt n w k b) (kk : ∀ w', BkAt n w' k (bset b 6 i x) → Fr k 7 w w' → Γ (pc + 3) L st cs n w') : Γ pc L (aZ x :: aR k :: st) cs n w := by
  refine qa_putN hΓ hd hf hB.lt hB.o (by simp; omega) ?_
  rw [bk_set k b i x hi]
  obtain ⟨h1, h2⟩ := hB.setO (bset b 6 i x) (bset6 b i x)
  exact kk _ h1 h2
theorem qX_putN {Γ : Gm} {l : Launch} {y : MethodName} {cc : ByteArray} {mL d mc ms pc n k idx x N : Nat} {L st : List AV} {cs : Nat × Nat} {w : Nat → AC} {T : Nat → Nat} (hΓ : Ok Γ l y cc mL d mc ms) (hd : decode cc pc = .ok (.putfield idx, 3)) (hf : FLN y.cls idx 3 1 false .int) (hX : XtAt n w k T N) (kk : ∀ w', XtAt n w' k T x → Fr k 2 w w' → Γ (pc + 3) L st cs n w') : Γ pc L (aZ x :: aR k :: st) cs n w := by
  refine qa_putN hΓ hd hf hX.lt hX.o (by simp) ?_
  obtain ⟨h1, h2⟩ := hX.setL (x := x)
  exact kk _ h1 h2
end
section
/-! The class: the calls that change the bank -/
theorem kd_e {s : Nat → Nat} {B e : Nat} (hS : SeC s) (hW : Wt s B) (he : e < 4 * s 1) (he3 : e % 4 < 3) (hw : wtB s e = true) : (if slE e % 2 = 1 then 2 else 1 - vv s (slE e / 2) 4) = e % 4 := by
  have h4 := hW.c1 (r := e / 4) (by omega) (x := 4) (by omega)
  have h8 := (hS (e / 4) (by omega)).1
  unfold wtB at hw
  by_cases h : e % 4 = 2
  · have : slE e = 2 * (e / 4) + 1 := by unfold slE; rw [if_pos h]
    rw [this, if_pos (by omega), h]
  · have e1 : slE e = 2 * (e / 4) := by unfold slE; rw [if_neg h]; rfl
    rw [if_neg h, Bool.and_eq_true, decide_eq_true_eq, decide_eq_true_eq] at hw
    rw [e1, if_neg (by omega), show 2 * (e / 4) / 2 = e / 4 by omega]
    have := (h8 (by omega)).1
    omega
theorem sl_div {e : Nat} : slE e / 2 = e / 4 := by unfold slE; split <;> omega
theorem sl_lt {e n : Nat} (h : e < 4 * n) : slE e < 2 * n := by unfold slE; split <;> omega
set_option maxRecDepth 100000 in
set_option maxHeartbeats 4000000 in
theorem c_X5_addRelay (l : Launch) (d : Nat) (hd : 3 ≤ d) {n : Nat} {w : Nat → AC} {M : Bk} {B : Nat} {b : Bk} {ol : Nat} {p : Nat → Bk} {g : Nat → Nat} {z R q : Nat} {c1 c2 : Bk} (hZ : WX n w b ol (M 5 0) p (M 4) (M 5 1) g z R q c1 c2) (hX : SX M B b ol p) (hBd : B < 800000000) (u v x : Int32) : Sq l yX5_addRelay cX5_addRelay 4 (some .int) d [aR 0, aI u, aI v, aI x] n w (QC (spAdd M u v x) (B + 4100) n w) := by
  refine Sp.of (plainFor_of_name (by decide)) (Nat.le_of_ble_eq_true rfl) (fun Γ hΓ hR => ?_)
  show Γ 0 [aR 0, aI u, aI v, aI x] [] (0, 0) n w
  have hF0 : Fr 0 70 w w := Fr.rf
  obtain ⟨hR0, hS, hC, hW, hp6, hG, hT60, hT256⟩ := id hX
  have h8 := hW.2.1
  refine qa_iload_n hΓ dX5_addRelay_0 rfl ?_
  refine qa_iload_n hΓ dX5_addRelay_1 rfl ?_
  refine qa_iload_n hΓ dX5_addRelay_2 rfl ?_
  refine qc_S1 hΓ dX5_addRelay_3 lk_X5_43 vw_X5_areDelays (by omega) (c_X5_areDelays l (d - 1) (by omega) _ _ _) rfl rfl (Nat.le_of_ble_eq_true rfl) ?_
  refine qb_if_ne (tgt := 11) hΓ dX5_addRelay_6 (by decide) (fun h_6 => ?_) (fun h_6 => ?_)
  · have hC0 := of_decide_eq_true h_6
    obtain ⟨a1, ha1, ha2, rfl⟩ := rng (by decide) hC0.1 (by decide)
    obtain ⟨a2, hb1, hb2, rfl⟩ := rng (by decide) hC0.2.1 (by decide)
    obtain ⟨a3, hc1, hc2, rfl⟩ := rng (by decide) hC0.2.2 (by decide)
    refine qa_aload_n hΓ dX5_addRelay_11 rfl ?_
    refine qa_get hΓ dX5_addRelay_12 fk_X5_12 hZ.lt hZ.o rfl ?_
    refine qa_getN hΓ dX5_addRelay_15 fn_X5_47 hZ.now.lt hZ.now.o rfl ?_
    rw [hR0.1.1]
    refine qa_bipush (v := nI 8) hΓ dX5_addRelay_18 bp_8 ?_
    refine qz_icmp_lt (tgt := 26) hΓ dX5_addRelay_20 (by decide) (by omega) (by omega) (fun h_20 => ?_) (fun h_20 => ?_)
    · refine qa_aload_n hΓ dX5_addRelay_26 rfl ?_
      refine qa_get hΓ dX5_addRelay_27 fk_X5_19 hZ.lt hZ.o rfl ?_
      refine qa_aload_n hΓ dX5_addRelay_30 rfl ?_
      refine qa_get hΓ dX5_addRelay_31 fk_X5_12 hZ.lt hZ.o rfl ?_
      refine qc_V0q hΓ dX5_addRelay_34 lk_X5_51 vw_X3_save (by omega) (c_X3_save l (d - 1) (by omega) hZ.past hZ.now) rfl hZ.past.lt hZ.past.o rfl rfl (Nat.le_of_ble_eq_true rfl) (fun w hq => ?_)
      obtain ⟨ol', p', hP', hF, hs1, hs2⟩ := hq
      have hZ := hZ.putP hP' hF
      have hF0 := hF0.tr (hF.wide (by omega) (by omega))
      refine qa_aload_n hΓ dX5_addRelay_37 rfl ?_
      refine qa_get hΓ dX5_addRelay_38 fk_X5_12 hZ.lt hZ.o rfl ?_
      refine qa_iload_n hΓ dX5_addRelay_41 rfl ?_
      refine qa_iload_n hΓ dX5_addRelay_42 rfl ?_
      refine qa_iload_n hΓ dX5_addRelay_43 rfl ?_
      refine qc_V1q hΓ dX5_addRelay_44 lk_X5_55 vw_X0_add (by omega) (c_X0_add l (d - 1) (by omega) hZ.now hR0 hW (by omega) hS a1 a2 a3 (by omega)) rfl hZ.now.lt hZ.now.o rfl rfl (Nat.le_of_ble_eq_true rfl) (fun w hq => ?_)
      obtain ⟨b', hB', hF, hR1, hS1⟩ := hq
      have hZ := hZ.putB hB' hF
      have hF0 := hF0.tr (hF.wide (by omega) (by omega))
      exact qr_i hR dX5_addRelay_47 ⟨_, rfl, hF0, fun r2 M' h => by
        unfold spAdd at h
        rw [if_pos hC0, if_neg (by omega), tn_nI (by omega), tn_nI (by omega), tn_nI (by omega)] at h
        exact ⟨h.1, CW.op hX hZ hs1 hs2 hR1 hS1 (hC.add hW) ((hW.mono (by omega)).add (by omega) (by omega) (by omega) (by omega)) h.2⟩⟩
    · refine qa_bipush (v := (-3)) hΓ dX5_addRelay_23 bp_m3 ?_
      exact qr_i hR dX5_addRelay_25 ⟨_, rfl, hF0, fun r2 M' h => by
        unfold spAdd at h
        rw [if_pos hC0, if_pos (by omega)] at h
        exact ⟨h.1, CW.sm hX hZ h.2⟩⟩
  · refine qa_iconst (v := (-1)) hΓ dX5_addRelay_9 ic_m1 ?_
    exact qr_i hR dX5_addRelay_10 ⟨_, rfl, hF0, fun r2 M' h => by unfold spAdd at h; rw [if_neg (fun q => by first | exact of_decide_eq_false h_6 q)] at h; exact ⟨h.1, CW.sm hX hZ h.2⟩⟩

set_option maxRecDepth 100000 in
set_option maxHeartbeats 4000000 in
theorem c_X5_setDelays (l : Launch) (d : Nat) (hd : 3 ≤ d) {n : Nat} {w : Nat → AC} {M : Bk} {B : Nat} {b : Bk} {ol : Nat} {p : Nat → Bk} {g : Nat → Nat} {z R q : Nat} {c1 c2 : Bk} (hZ : WX n w b ol (M 5 0) p (M 4) (M 5 1) g z R q c1 c2) (hX : SX M B b ol p) (hBd : B < 800000000) (rl u v x : Int32) : Sq l yX5_setDelays cX5_setDelays 5 (some .int) d [aR 0, aI rl, aI u, aI v, aI x] n w (QC (spSD M rl u v x) (B + 4100) n w) := by
  refine Sp.of (plainFor_of_name (by decide)) (Nat.le_of_ble_eq_true rfl) (fun Γ hΓ hR => ?_)
  show Γ 0 [aR 0, aI rl, aI u, aI v, aI x] [] (0, 0) n w
  have hF0 : Fr 0 70 w w := Fr.rf
  obtain ⟨hR0, hS, hC, hW, hp6, hG, hT60, hT256⟩ := id hX
  have h8 := hW.2.1
  refine qa_aload_n hΓ dX5_setDelays_0 rfl ?_
  refine qa_get hΓ dX5_setDelays_1 fk_X5_12 hZ.lt hZ.o rfl ?_
  refine qa_iload_n hΓ dX5_setDelays_4 rfl ?_
  refine qc_V1 hΓ dX5_setDelays_5 lk_X5_59 vw_X0_has (by omega) (c_X0_has l (d - 1) (by omega) hZ.now _) rfl hZ.now.lt hZ.now.o rfl rfl (Nat.le_of_ble_eq_true rfl) ?_
  rw [hR0.1.1]
  refine qb_if_eq (tgt := 21) hΓ dX5_setDelays_8 (by decide) (fun h_8 => ?_) (fun h_8 => ?_)
  · refine qa_iconst (v := (-1)) hΓ dX5_setDelays_21 ic_m1 ?_
    exact qr_i hR dX5_setDelays_22 ⟨_, rfl, hF0, fun r2 M' h => by unfold spSD at h; rw [if_neg (fun q => by first | exact of_decide_eq_false h_8 q.1 | exact of_decide_eq_false h_18 q.2)] at h; exact ⟨h.1, CW.sm hX hZ h.2⟩⟩
  · obtain ⟨r, hr, rfl⟩ := isR_of (by omega) (of_decide_eq_true h_8)
    have tr : tn (nI r) = r := tn_nI (by omega)
    refine qa_iload_n hΓ dX5_setDelays_11 rfl ?_
    refine qa_iload_n hΓ dX5_setDelays_12 rfl ?_
    refine qa_iload hΓ dX5_setDelays_13 rfl ?_
    refine qc_S1 hΓ dX5_setDelays_15 lk_X5_43 vw_X5_areDelays (by omega) (c_X5_areDelays l (d - 1) (by omega) _ _ _) rfl rfl (Nat.le_of_ble_eq_true rfl) ?_
    refine qb_if_ne (tgt := 23) hΓ dX5_setDelays_18 (by decide) (fun h_18 => ?_) (fun h_18 => ?_)
    · have hC0 := of_decide_eq_true h_18
      obtain ⟨a1, ha1, ha2, rfl⟩ := rng (by decide) hC0.1 (by decide)
      obtain ⟨a2, hb1, hb2, rfl⟩ := rng (by decide) hC0.2.1 (by decide)
      obtain ⟨a3, hc1, hc2, rfl⟩ := rng (by decide) hC0.2.2 (by decide)
      obtain ⟨e0, e1, e2, _⟩ := hR0.2.1 r hr
      have q0 := hW.b hr (x := 0) (by decide)
      have q1 := hW.b hr (x := 1) (by decide)
      have q2 := hW.b hr (x := 2) (by decide)
      refine qa_aload_n hΓ dX5_setDelays_23 rfl ?_
      refine qa_get hΓ dX5_setDelays_24 fk_X5_19 hZ.lt hZ.o rfl ?_
      refine qa_aload_n hΓ dX5_setDelays_27 rfl ?_
      refine qa_get hΓ dX5_setDelays_28 fk_X5_12 hZ.lt hZ.o rfl ?_
      refine qc_V0q hΓ dX5_setDelays_31 lk_X5_51 vw_X3_save (by omega) (c_X3_save l (d - 1) (by omega) hZ.past hZ.now) rfl hZ.past.lt hZ.past.o rfl rfl (Nat.le_of_ble_eq_true rfl) (fun w hq => ?_)
      obtain ⟨ol', p', hP', hF, hs1, hs2⟩ := hq
      have hZ := hZ.putP hP' hF
      have hF0 := hF0.tr (hF.wide (by omega) (by omega))
      refine qa_aload_n hΓ dX5_setDelays_34 rfl ?_
      refine qa_get hΓ dX5_setDelays_35 fk_X5_12 hZ.lt hZ.o rfl ?_
      refine qa_iload_n hΓ dX5_setDelays_38 rfl ?_
      refine qa_iload_n hΓ dX5_setDelays_39 rfl ?_
      refine qa_iload_n hΓ dX5_setDelays_40 rfl ?_
      refine qa_iload hΓ dX5_setDelays_41 rfl ?_
      refine qc_V1q hΓ dX5_setDelays_43 lk_X5_63 vw_X0_putDelays (by omega) (c_X0_putDelays l (d - 1) (by omega) hZ.now r a1 a2 a3 (by omega)) rfl hZ.now.lt hZ.now.o rfl rfl (Nat.le_of_ble_eq_true rfl) (fun w hq => ?_)
      obtain ⟨hB', hF⟩ := hq
      have hZ := hZ.putB hB' hF
      have hF0 := hF0.tr (hF.wide (by omega) (by omega))
      refine qb_if_eq (tgt := 53) hΓ dX5_setDelays_46 (by decide) (fun h_46 => ?_) (fun h_46 => ?_)
      · refine qa_iconst (v := nI 0) hΓ dX5_setDelays_53 ic_0 ?_
        have hsd : sameD (M 0) r a1 a2 a3 ↔ (nI (b 0 r) = nI a1 ∧ nI (b 1 r) = nI a2 ∧ nI (b 2 r) = nI a3) := by
          rw [e0, e1, e2, nI_inj (by omega) (by omega), nI_inj (by omega) (by omega), nI_inj (by omega) (by omega)]
          exact Iff.rfl
        exact qr_i hR dX5_setDelays_54 ⟨_, rfl, hF0, fun r2 M' h => by
          unfold spSD at h
          rw [if_pos ⟨of_decide_eq_true h_8, hC0⟩, tr, tn_nI (by omega), tn_nI (by omega), tn_nI (by omega)] at h
          refine ⟨?_, CW.op hX hZ hs1 hs2 (hR0.sd hW) hS.sd (hC.sd hW (by omega) (by omega)) ((hW.mono (by omega)).sd (by omega) (by omega) (by omega)) h.2⟩
          exact h.1.1 (hsd.mpr (of_decide_eq_true (by simpa using h_46)))⟩
      · refine qa_iconst (v := nI 1) hΓ dX5_setDelays_49 ic_1 ?_
        refine qa_goto (tgt := 54) hΓ dX5_setDelays_50 (by decide) ?_
        have hsd : sameD (M 0) r a1 a2 a3 ↔ (nI (b 0 r) = nI a1 ∧ nI (b 1 r) = nI a2 ∧ nI (b 2 r) = nI a3) := by
          rw [e0, e1, e2, nI_inj (by omega) (by omega), nI_inj (by omega) (by omega), nI_inj (by omega) (by omega)]
          exact Iff.rfl
        exact qr_i hR dX5_setDelays_54 ⟨_, rfl, hF0, fun r2 M' h => by
          unfold spSD at h
          rw [if_pos ⟨of_decide_eq_true h_8, hC0⟩, tr, tn_nI (by omega), tn_nI (by omega), tn_nI (by omega)] at h
          refine ⟨?_, CW.op hX hZ hs1 hs2 (hR0.sd hW) hS.sd (hC.sd hW (by omega) (by omega)) ((hW.mono (by omega)).sd (by omega) (by omega) (by omega)) h.2⟩
          exact h.1.2 (fun q => by have q9 := hsd.mp q; simp [q9.1, q9.2.1, q9.2.2] at h_46)⟩
    · refine qa_iconst (v := (-1)) hΓ dX5_setDelays_21 ic_m1 ?_
      exact qr_i hR dX5_setDelays_22 ⟨_, rfl, hF0, fun r2 M' h => by unfold spSD at h; rw [if_neg (fun q => by first | exact of_decide_eq_false h_8 q.1 | exact of_decide_eq_false h_18 q.2)] at h; exact ⟨h.1, CW.sm hX hZ h.2⟩⟩

set_option maxRecDepth 100000 in
set_option maxHeartbeats 4000000 in
theorem c_X5_setCondition (l : Launch) (d : Nat) (hd : 4 ≤ d) {n : Nat} {w : Nat → AC} {M : Bk} {B : Nat} {b : Bk} {ol : Nat} {p : Nat → Bk} {g : Nat → Nat} {z R q : Nat} {c1 c2 : Bk} (hZ : WX n w b ol (M 5 0) p (M 4) (M 5 1) g z R q c1 c2) (hX : SX M B b ol p) (hBd : B < 800000000) (rl br su hw : Int32) : Sq l yX5_setCondition cX5_setCondition 5 (some .int) d [aR 0, aI rl, aI br, aI su, aI hw] n w (QC (spSC M rl br su hw) (B + 4100) n w) := by
  refine Sp.of (plainFor_of_name (by decide)) (Nat.le_of_ble_eq_true rfl) (fun Γ hΓ hR => ?_)
  show Γ 0 [aR 0, aI rl, aI br, aI su, aI hw] [] (0, 0) n w
  have hF0 : Fr 0 70 w w := Fr.rf
  obtain ⟨hR0, hS, hC, hW, hp6, hG, hT60, hT256⟩ := id hX
  have h8 := hW.2.1
  refine qa_aload_n hΓ dX5_setCondition_0 rfl ?_
  refine qa_get hΓ dX5_setCondition_1 fk_X5_12 hZ.lt hZ.o rfl ?_
  refine qa_iload_n hΓ dX5_setCondition_4 rfl ?_
  refine qc_V1 hΓ dX5_setCondition_5 lk_X5_59 vw_X0_has (by omega) (c_X0_has l (d - 1) (by omega) hZ.now _) rfl hZ.now.lt hZ.now.o rfl rfl (Nat.le_of_ble_eq_true rfl) ?_
  rw [hR0.1.1]
  refine qb_if_eq (tgt := 27) hΓ dX5_setCondition_8 (by decide) (fun h_8 => ?_) (fun h_8 => ?_)
  · refine qa_iconst (v := (-1)) hΓ dX5_setCondition_27 ic_m1 ?_
    exact qr_i hR dX5_setCondition_28 ⟨_, rfl, hF0, fun r2 M' h => by unfold spSC at h; rw [if_neg (fun q => by first | exact of_decide_eq_false h_8 q.1 | exact of_decide_eq_false h_24 q.2.1 | exact of_decide_eq_false h_46 q.2.2.1 | exact of_decide_eq_false h_56 q.2.2.2)] at h; exact ⟨h.1, CW.sm hX hZ h.2⟩⟩
  · obtain ⟨r, hr, rfl⟩ := isR_of (by omega) (of_decide_eq_true h_8)
    have tr : tn (nI r) = r := tn_nI (by omega)
    refine qa_iload_n hΓ dX5_setCondition_11 rfl ?_
    refine qa_iconst (v := nI 0) hΓ dX5_setCondition_12 ic_0 ?_
    refine qa_aload_n hΓ dX5_setCondition_13 rfl ?_
    refine qa_get hΓ dX5_setCondition_14 fk_X5_12 hZ.lt hZ.o rfl ?_
    refine qa_iload_n hΓ dX5_setCondition_17 rfl ?_
    refine qc_V1 hΓ dX5_setCondition_18 lk_X5_67 vw_X0_branchesOf (by omega) (c_X0_branchesOf l (d - 1) (by omega) hZ.now r (by omega)) rfl hZ.now.lt hZ.now.o rfl rfl (Nat.le_of_ble_eq_true rfl) ?_
    rw [(hR0.2.1 r hr).2.2.2.1]
    refine qc_S1 hΓ dX5_setCondition_21 lk_X5_71 vw_X5_isWithin (by omega) (c_X5_isWithin l (d - 1) _ _ _) rfl rfl (Nat.le_of_ble_eq_true rfl) ?_
    refine qb_if_ne (tgt := 29) hΓ dX5_setCondition_24 (by decide) (fun h_24 => ?_) (fun h_24 => ?_)
    · refine qa_iload_n hΓ dX5_setCondition_29 rfl ?_
      refine qa_iconst (v := nI 0) hΓ dX5_setCondition_30 ic_0 ?_
      refine qa_bipush (v := nI 8) hΓ dX5_setCondition_31 bp_8 ?_
      refine qa_aload_n hΓ dX5_setCondition_33 rfl ?_
      refine qa_get hΓ dX5_setCondition_34 fk_X5_12 hZ.lt hZ.o rfl ?_
      refine qa_getN hΓ dX5_setCondition_37 fn_X5_47 hZ.now.lt hZ.now.o rfl ?_
      rw [hR0.1.1]
      refine qz_iadd hΓ dX5_setCondition_40 ?_
      refine qa_iconst (v := nI 1) hΓ dX5_setCondition_41 ic_1 ?_
      refine qz_isub hΓ dX5_setCondition_42 (by omega) ?_
      rw [show 8 + M 0 1 - 1 = 7 + M 0 1 by omega]
      refine qc_S1 hΓ dX5_setCondition_43 lk_X5_71 vw_X5_isWithin (by omega) (c_X5_isWithin l (d - 1) _ _ _) rfl rfl (Nat.le_of_ble_eq_true rfl) ?_
      refine qb_if_eq (tgt := 59) hΓ dX5_setCondition_46 (by decide) (fun h_46 => ?_) (fun h_46 => ?_)
      · refine qa_iconst (v := (-1)) hΓ dX5_setCondition_59 ic_m1 ?_
        exact qr_i hR dX5_setCondition_60 ⟨_, rfl, hF0, fun r2 M' h => by unfold spSC at h; rw [tr] at h; rw [if_neg (fun q => by first | exact of_decide_eq_false h_8 q.1 | exact of_decide_eq_false h_24 q.2.1 | exact of_decide_eq_false h_46 q.2.2.1 | exact of_decide_eq_false h_56 q.2.2.2)] at h; exact ⟨h.1, CW.sm hX hZ h.2⟩⟩
      · refine qa_iload hΓ dX5_setCondition_49 rfl ?_
        refine qa_iconst (v := nI 0) hΓ dX5_setCondition_51 ic_0 ?_
        refine qa_iconst (v := nI 2) hΓ dX5_setCondition_52 ic_2 ?_
        refine qc_S1 hΓ dX5_setCondition_53 lk_X5_71 vw_X5_isWithin (by omega) (c_X5_isWithin l (d - 1) _ _ _) rfl rfl (Nat.le_of_ble_eq_true rfl) ?_
        refine qb_if_ne (tgt := 61) hΓ dX5_setCondition_56 (by decide) (fun h_56 => ?_) (fun h_56 => ?_)
        · obtain ⟨j, hj1, hj2, rfl⟩ := rng (by have := hW.m6 hr; omega) (of_decide_eq_true h_24) (by decide)
          obtain ⟨x, hx1, hx2, rfl⟩ := rng (by omega) (of_decide_eq_true h_46) (by decide)
          obtain ⟨w2, hw1, hw2, rfl⟩ := rng (by decide) (of_decide_eq_true h_56) (by decide)
          have hm6 := hW.m6 hr
          refine qa_iload_n hΓ dX5_setCondition_61 rfl ?_
          refine qa_bipush (v := nI 6) hΓ dX5_setCondition_62 bp_6 ?_
          refine qz_icmp_lt (tgt := 70) hΓ dX5_setCondition_64 (by decide) (by omega) (by omega) (fun h_64 => ?_) (fun h_64 => ?_)
          · have hWc : Wt (cnS (scS (M 0) r j) r j x w2) B := (hW.scS (by omega)).cnS (by rw [scS_hd _ _ _ (by decide)]; exact hr) (by omega) (by omega)
            refine qa_aload_n hΓ dX5_setCondition_70 rfl ?_
            refine qa_get hΓ dX5_setCondition_71 fk_X5_19 hZ.lt hZ.o rfl ?_
            refine qa_aload_n hΓ dX5_setCondition_74 rfl ?_
            refine qa_get hΓ dX5_setCondition_75 fk_X5_12 hZ.lt hZ.o rfl ?_
            refine qc_V0q hΓ dX5_setCondition_78 lk_X5_51 vw_X3_save (by omega) (c_X3_save l (d - 1) (by omega) hZ.past hZ.now) rfl hZ.past.lt hZ.past.o rfl rfl (Nat.le_of_ble_eq_true rfl) (fun w hq => ?_)
            obtain ⟨ol', p', hP', hF, hs1, hs2⟩ := hq
            have hZ := hZ.putP hP' hF
            have hF0 := hF0.tr (hF.wide (by omega) (by omega))
            refine qa_aload_n hΓ dX5_setCondition_81 rfl ?_
            refine qa_get hΓ dX5_setCondition_82 fk_X5_12 hZ.lt hZ.o rfl ?_
            refine qa_iload_n hΓ dX5_setCondition_85 rfl ?_
            refine qa_iload_n hΓ dX5_setCondition_86 rfl ?_
            refine qa_iload_n hΓ dX5_setCondition_87 rfl ?_
            refine qa_iload hΓ dX5_setCondition_88 rfl ?_
            refine qc_V1q hΓ dX5_setCondition_90 lk_X5_74 vw_X0_putCondition (by omega) (c_X0_putCondition l (d - 1) (by omega) hZ.now hR0 hW (by omega) hS r j x w2 hr hj2 (by omega) (by omega) (by omega)) rfl hZ.now.lt hZ.now.o rfl rfl (Nat.le_of_ble_eq_true rfl) (fun w hq => ?_)
            obtain ⟨b', hB', hF, hR1, hS1⟩ := hq
            have hZ := hZ.putB hB' hF
            have hF0 := hF0.tr (hF.wide (by omega) (by omega))
            exact qr_i hR dX5_setCondition_93 ⟨_, rfl, hF0, fun r2 M' h => by
              unfold spSC at h
              rw [tr, tn_nI (show j < 2147483648 by omega), if_pos ⟨of_decide_eq_true h_8, of_decide_eq_true h_24, of_decide_eq_true h_46, of_decide_eq_true h_56⟩, if_neg (by omega), tn_nI (show x < 2147483648 by omega), tn_nI (show w2 < 2147483648 by omega)] at h
              exact ⟨h.1, CW.op hX hZ hs1 hs2 hR1 hS1 (CC_lks hWc) (hWc.mono (by omega)).lks h.2⟩⟩
          · refine qa_bipush (v := (-3)) hΓ dX5_setCondition_67 bp_m3 ?_
            exact qr_i hR dX5_setCondition_69 ⟨_, rfl, hF0, fun r2 M' h => by
              unfold spSC at h
              rw [tr, tn_nI (by omega), if_pos ⟨of_decide_eq_true h_8, of_decide_eq_true h_24, of_decide_eq_true h_46, of_decide_eq_true h_56⟩, if_pos (by omega)] at h
              exact ⟨h.1, CW.sm hX hZ h.2⟩⟩
        · refine qa_iconst (v := (-1)) hΓ dX5_setCondition_59 ic_m1 ?_
          exact qr_i hR dX5_setCondition_60 ⟨_, rfl, hF0, fun r2 M' h => by unfold spSC at h; rw [tr] at h; rw [if_neg (fun q => by first | exact of_decide_eq_false h_8 q.1 | exact of_decide_eq_false h_24 q.2.1 | exact of_decide_eq_false h_46 q.2.2.1 | exact of_decide_eq_false h_56 q.2.2.2)] at h; exact ⟨h.1, CW.sm hX hZ h.2⟩⟩
    · refine qa_iconst (v := (-1)) hΓ dX5_setCondition_27 ic_m1 ?_
      exact qr_i hR dX5_setCondition_28 ⟨_, rfl, hF0, fun r2 M' h => by unfold spSC at h; rw [tr] at h; rw [if_neg (fun q => by first | exact of_decide_eq_false h_8 q.1 | exact of_decide_eq_false h_24 q.2.1 | exact of_decide_eq_false h_46 q.2.2.1 | exact of_decide_eq_false h_56 q.2.2.2)] at h; exact ⟨h.1, CW.sm hX hZ h.2⟩⟩

set_option maxRecDepth 100000 in
set_option maxHeartbeats 4000000 in
theorem c_X5_removeBranch (l : Launch) (d : Nat) (hd : 4 ≤ d) {n : Nat} {w : Nat → AC} {M : Bk} {B : Nat} {b : Bk} {ol : Nat} {p : Nat → Bk} {g : Nat → Nat} {z R q : Nat} {c1 c2 : Bk} (hZ : WX n w b ol (M 5 0) p (M 4) (M 5 1) g z R q c1 c2) (hX : SX M B b ol p) (hBd : B < 800000000) (rl br : Int32) : Sq l yX5_removeBranch cX5_removeBranch 3 (some .int) d [aR 0, aI rl, aI br] n w (QC (spRB M rl br) (B + 4100) n w) := by
  refine Sp.of (plainFor_of_name (by decide)) (Nat.le_of_ble_eq_true rfl) (fun Γ hΓ hR => ?_)
  show Γ 0 [aR 0, aI rl, aI br] [] (0, 0) n w
  have hF0 : Fr 0 70 w w := Fr.rf
  obtain ⟨hR0, hS, hC, hW, hp6, hG, hT60, hT256⟩ := id hX
  have h8 := hW.2.1
  refine qa_aload_n hΓ dX5_removeBranch_0 rfl ?_
  refine qa_get hΓ dX5_removeBranch_1 fk_X5_12 hZ.lt hZ.o rfl ?_
  refine qa_iload_n hΓ dX5_removeBranch_4 rfl ?_
  refine qc_V1 hΓ dX5_removeBranch_5 lk_X5_59 vw_X0_has (by omega) (c_X0_has l (d - 1) (by omega) hZ.now _) rfl hZ.now.lt hZ.now.o rfl rfl (Nat.le_of_ble_eq_true rfl) ?_
  rw [hR0.1.1]
  refine qb_if_eq (tgt := 29) hΓ dX5_removeBranch_8 (by decide) (fun h_8 => ?_) (fun h_8 => ?_)
  · refine qa_iconst (v := (-1)) hΓ dX5_removeBranch_29 ic_m1 ?_
    exact qr_i hR dX5_removeBranch_30 ⟨_, rfl, hF0, fun r2 M' h => by unfold spRB at h; rw [if_neg (fun q => by first | exact of_decide_eq_false h_8 q.1 | exact of_decide_eq_false h_26 q.2)] at h; exact ⟨h.1, CW.sm hX hZ h.2⟩⟩
  · obtain ⟨r, hr, rfl⟩ := isR_of (by omega) (of_decide_eq_true h_8)
    have tr : tn (nI r) = r := tn_nI (by omega)
    refine qa_iload_n hΓ dX5_removeBranch_11 rfl ?_
    refine qa_iconst (v := nI 0) hΓ dX5_removeBranch_12 ic_0 ?_
    refine qa_aload_n hΓ dX5_removeBranch_13 rfl ?_
    refine qa_get hΓ dX5_removeBranch_14 fk_X5_12 hZ.lt hZ.o rfl ?_
    refine qa_iload_n hΓ dX5_removeBranch_17 rfl ?_
    refine qc_V1 hΓ dX5_removeBranch_18 lk_X5_67 vw_X0_branchesOf (by omega) (c_X0_branchesOf l (d - 1) (by omega) hZ.now r (by omega)) rfl hZ.now.lt hZ.now.o rfl rfl (Nat.le_of_ble_eq_true rfl) ?_
    rw [(hR0.2.1 r hr).2.2.2.1]
    refine qa_iconst (v := nI 1) hΓ dX5_removeBranch_21 ic_1 ?_
    refine qa_isub hΓ dX5_removeBranch_22 ?_
    refine qc_S1 hΓ dX5_removeBranch_23 lk_X5_71 vw_X5_isWithin (by omega) (c_X5_isWithin l (d - 1) _ _ _) rfl rfl (Nat.le_of_ble_eq_true rfl) ?_
    refine qb_if_ne (tgt := 31) hΓ dX5_removeBranch_26 (by decide) (fun h_26 => ?_) (fun h_26 => ?_)
    · have hm6 := hW.m6 hr
      obtain ⟨j, hj, rfl⟩ := isR_of (by omega) (of_decide_eq_true h_26)
      have hWr := hW.rmS (r := r) (b := j) hm6
      refine qa_aload_n hΓ dX5_removeBranch_31 rfl ?_
      refine qa_get hΓ dX5_removeBranch_32 fk_X5_19 hZ.lt hZ.o rfl ?_
      refine qa_aload_n hΓ dX5_removeBranch_35 rfl ?_
      refine qa_get hΓ dX5_removeBranch_36 fk_X5_12 hZ.lt hZ.o rfl ?_
      refine qc_V0q hΓ dX5_removeBranch_39 lk_X5_51 vw_X3_save (by omega) (c_X3_save l (d - 1) (by omega) hZ.past hZ.now) rfl hZ.past.lt hZ.past.o rfl rfl (Nat.le_of_ble_eq_true rfl) (fun w hq => ?_)
      obtain ⟨ol', p', hP', hF, hs1, hs2⟩ := hq
      have hZ := hZ.putP hP' hF
      have hF0 := hF0.tr (hF.wide (by omega) (by omega))
      refine qa_aload_n hΓ dX5_removeBranch_42 rfl ?_
      refine qa_get hΓ dX5_removeBranch_43 fk_X5_12 hZ.lt hZ.o rfl ?_
      refine qa_iload_n hΓ dX5_removeBranch_46 rfl ?_
      refine qa_iload_n hΓ dX5_removeBranch_47 rfl ?_
      refine qc_V1q hΓ dX5_removeBranch_48 lk_X5_78 vw_X0_dropBranch (by omega) (c_X0_dropBranch l (d - 1) (by omega) hZ.now hR0 hW (by omega) hS r j hr hj hWr) rfl hZ.now.lt hZ.now.o rfl rfl (Nat.le_of_ble_eq_true rfl) (fun w hq => ?_)
      obtain ⟨b', hB', hF, hR1, hS1⟩ := hq
      have hZ := hZ.putB hB' hF
      have hF0 := hF0.tr (hF.wide (by omega) (by omega))
      exact qr_i hR dX5_removeBranch_51 ⟨_, rfl, hF0, fun r2 M' h => by
        unfold spRB at h
        rw [tr, if_pos ⟨of_decide_eq_true h_8, of_decide_eq_true h_26⟩, tn_nI (show j < 2147483648 by omega)] at h
        exact ⟨h.1, CW.op hX hZ hs1 hs2 hR1 hS1 (CC_lks hWr) (hWr.mono (by omega)).lks h.2⟩⟩
    · refine qa_iconst (v := (-1)) hΓ dX5_removeBranch_29 ic_m1 ?_
      exact qr_i hR dX5_removeBranch_30 ⟨_, rfl, hF0, fun r2 M' h => by unfold spRB at h; rw [tr] at h; rw [if_neg (fun q => by first | exact of_decide_eq_false h_8 q.1 | exact of_decide_eq_false h_26 q.2)] at h; exact ⟨h.1, CW.sm hX hZ h.2⟩⟩

set_option maxRecDepth 100000 in
set_option maxHeartbeats 4000000 in
theorem c_X5_press (l : Launch) (d : Nat) (hd : 4 ≤ d) {n : Nat} {w : Nat → AC} {M : Bk} {B : Nat} {b : Bk} {ol : Nat} {p : Nat → Bk} {g : Nat → Nat} {z R q : Nat} {c1 c2 : Bk} (hZ : WX n w b ol (M 5 0) p (M 4) (M 5 1) g z R q c1 c2) (hX : SX M B b ol p) (hBd : B < 800000000) (ky on : Int32) : Sq l yX5_press cX5_press 3 (some .int) d [aR 0, aI ky, aI on] n w (QC (spPr M ky on) (B + 4100) n w) := by
  refine Sp.of (plainFor_of_name (by decide)) (Nat.le_of_ble_eq_true rfl) (fun Γ hΓ hR => ?_)
  show Γ 0 [aR 0, aI ky, aI on] [] (0, 0) n w
  have hF0 : Fr 0 70 w w := Fr.rf
  obtain ⟨hR0, hS, hC, hW, hp6, hG, hT60, hT256⟩ := id hX
  have h8 := hW.2.1
  refine qa_iload_n hΓ dX5_press_0 rfl ?_
  refine qc_S1 hΓ dX5_press_1 lk_X5_104 vw_X5_isKey (by omega) (c_X5_isKey l (d - 1) (by omega) _) rfl rfl (Nat.le_of_ble_eq_true rfl) ?_
  refine qb_if_eq (tgt := 16) hΓ dX5_press_4 (by decide) (fun h_4 => ?_) (fun h_4 => ?_)
  · refine qa_iconst (v := (-1)) hΓ dX5_press_16 ic_m1 ?_
    exact qr_i hR dX5_press_17 ⟨_, rfl, hF0, fun r2 M' h => by unfold spPr at h; rw [if_neg (fun q => by first | exact of_decide_eq_false h_4 q.1 | exact of_decide_eq_false h_13 q.2)] at h; exact ⟨h.1, CW.sm hX hZ h.2⟩⟩
  · refine qa_iload_n hΓ dX5_press_7 rfl ?_
    refine qa_iconst (v := nI 0) hΓ dX5_press_8 ic_0 ?_
    refine qa_iconst (v := nI 1) hΓ dX5_press_9 ic_1 ?_
    refine qc_S1 hΓ dX5_press_10 lk_X5_71 vw_X5_isWithin (by omega) (c_X5_isWithin l (d - 1) _ _ _) rfl rfl (Nat.le_of_ble_eq_true rfl) ?_
    refine qb_if_ne (tgt := 18) hΓ dX5_press_13 (by decide) (fun h_13 => ?_) (fun h_13 => ?_)
    · obtain ⟨ky, hk1, hk2, rfl⟩ := rng (by decide) (of_decide_eq_true h_4) (by decide)
      obtain ⟨on, ho1, ho2, rfl⟩ := rng (by decide) (of_decide_eq_true h_13) (by decide)
      have h256 := hW.1
      have hW1 : Wt (prS (M 0) ky) B := hW.pr (by omega)
      have hbt := Bool.toNat_le1 ((M 0 0).testBit ky)
      refine qa_aload_n hΓ dX5_press_18 rfl ?_
      refine qa_get hΓ dX5_press_19 fk_X5_12 hZ.lt hZ.o rfl ?_
      refine qa_getN hΓ dX5_press_22 fn_X5_107 hZ.now.lt hZ.now.o rfl ?_
      rw [hR0.1.2.2]
      refine qa_iload_n hΓ dX5_press_25 rfl ?_
      refine qc_S1 hΓ dX5_press_26 lk_X5_110 vw_X5_isIn (by omega) (c_X5_isIn l (d - 1) _ _ (by omega) (by omega)) rfl rfl (Nat.le_of_ble_eq_true rfl) ?_
      refine qa_iload_n hΓ dX5_press_29 rfl ?_
      refine qa_iconst (v := nI 1) hΓ dX5_press_30 ic_1 ?_
      refine qz_icmp_ne (tgt := 38) hΓ dX5_press_31 (by decide) (by omega) (by omega) (fun h_31 => ?_) (fun h_31 => ?_)
      · refine qa_iconst (v := nI 0) hΓ dX5_press_38 ic_0 ?_
        refine qz_icmp_ne (tgt := 45) hΓ dX5_press_39 (by decide) (by omega) (by decide) (fun h_39 => ?_) (fun h_39 => ?_)
        · refine qa_aload_n hΓ dX5_press_45 rfl ?_
          refine qa_get hΓ dX5_press_46 fk_X5_19 hZ.lt hZ.o rfl ?_
          refine qa_aload_n hΓ dX5_press_49 rfl ?_
          refine qa_get hΓ dX5_press_50 fk_X5_12 hZ.lt hZ.o rfl ?_
          refine qc_V0q hΓ dX5_press_53 lk_X5_51 vw_X3_save (by omega) (c_X3_save l (d - 1) (by omega) hZ.past hZ.now) rfl hZ.past.lt hZ.past.o rfl rfl (Nat.le_of_ble_eq_true rfl) (fun w hq => ?_)
          obtain ⟨ol', p', hP', hF, hs1, hs2⟩ := hq
          have hZ := hZ.putP hP' hF
          have hF0 := hF0.tr (hF.wide (by omega) (by omega))
          refine qa_aload_n hΓ dX5_press_56 rfl ?_
          refine qa_get hΓ dX5_press_57 fk_X5_12 hZ.lt hZ.o rfl ?_
          refine qa_iload_n hΓ dX5_press_60 rfl ?_
          refine qc_V1q hΓ dX5_press_61 lk_X5_114 vw_X0_turnKey (by omega) (c_X0_turnKey l (d - 1) (by omega) hZ.now hR0 hW (by omega) hS ky (by omega)) rfl hZ.now.lt hZ.now.o rfl rfl (Nat.le_of_ble_eq_true rfl) (fun w hq => ?_)
          obtain ⟨b', hB', hF, hR1, hS1⟩ := hq
          have hZ := hZ.putB hB' hF
          have hF0 := hF0.tr (hF.wide (by omega) (by omega))
          exact qr_i hR dX5_press_64 ⟨_, rfl, hF0, fun r2 M' h => by
            unfold spPr at h
            rw [if_pos ⟨of_decide_eq_true h_4, of_decide_eq_true h_13⟩, tn_nI (show ky < 2147483648 by omega), tn_nI (show on < 2147483648 by omega), if_neg (by omega)] at h
            exact ⟨h.1, CW.op hX hZ hs1 hs2 hR1 hS1 (CC_lks hW1) (hW1.mono (by omega)).lks h.2⟩⟩
        · refine qa_bipush (v := (-2)) hΓ dX5_press_42 bp_m2 ?_
          exact qr_i hR dX5_press_44 ⟨_, rfl, hF0, fun r2 M' h => by
            unfold spPr at h
            rw [if_pos ⟨of_decide_eq_true h_4, of_decide_eq_true h_13⟩, tn_nI (by omega), tn_nI (by omega), if_pos (by omega)] at h
            exact ⟨h.1, CW.sm hX hZ h.2⟩⟩
      · refine qa_iconst (v := nI 1) hΓ dX5_press_34 ic_1 ?_
        refine qa_goto (tgt := 39) hΓ dX5_press_35 (by decide) ?_
        refine qz_icmp_ne (tgt := 45) hΓ dX5_press_39 (by decide) (by omega) (by decide) (fun h_39 => ?_) (fun h_39 => ?_)
        · refine qa_aload_n hΓ dX5_press_45 rfl ?_
          refine qa_get hΓ dX5_press_46 fk_X5_19 hZ.lt hZ.o rfl ?_
          refine qa_aload_n hΓ dX5_press_49 rfl ?_
          refine qa_get hΓ dX5_press_50 fk_X5_12 hZ.lt hZ.o rfl ?_
          refine qc_V0q hΓ dX5_press_53 lk_X5_51 vw_X3_save (by omega) (c_X3_save l (d - 1) (by omega) hZ.past hZ.now) rfl hZ.past.lt hZ.past.o rfl rfl (Nat.le_of_ble_eq_true rfl) (fun w hq => ?_)
          obtain ⟨ol', p', hP', hF, hs1, hs2⟩ := hq
          have hZ := hZ.putP hP' hF
          have hF0 := hF0.tr (hF.wide (by omega) (by omega))
          refine qa_aload_n hΓ dX5_press_56 rfl ?_
          refine qa_get hΓ dX5_press_57 fk_X5_12 hZ.lt hZ.o rfl ?_
          refine qa_iload_n hΓ dX5_press_60 rfl ?_
          refine qc_V1q hΓ dX5_press_61 lk_X5_114 vw_X0_turnKey (by omega) (c_X0_turnKey l (d - 1) (by omega) hZ.now hR0 hW (by omega) hS ky (by omega)) rfl hZ.now.lt hZ.now.o rfl rfl (Nat.le_of_ble_eq_true rfl) (fun w hq => ?_)
          obtain ⟨b', hB', hF, hR1, hS1⟩ := hq
          have hZ := hZ.putB hB' hF
          have hF0 := hF0.tr (hF.wide (by omega) (by omega))
          exact qr_i hR dX5_press_64 ⟨_, rfl, hF0, fun r2 M' h => by
            unfold spPr at h
            rw [if_pos ⟨of_decide_eq_true h_4, of_decide_eq_true h_13⟩, tn_nI (show ky < 2147483648 by omega), tn_nI (show on < 2147483648 by omega), if_neg (by omega)] at h
            exact ⟨h.1, CW.op hX hZ hs1 hs2 hR1 hS1 (CC_lks hW1) (hW1.mono (by omega)).lks h.2⟩⟩
        · refine qa_bipush (v := (-2)) hΓ dX5_press_42 bp_m2 ?_
          exact qr_i hR dX5_press_44 ⟨_, rfl, hF0, fun r2 M' h => by
            unfold spPr at h
            rw [if_pos ⟨of_decide_eq_true h_4, of_decide_eq_true h_13⟩, tn_nI (by omega), tn_nI (by omega), if_pos (by omega)] at h
            exact ⟨h.1, CW.sm hX hZ h.2⟩⟩
    · refine qa_iconst (v := (-1)) hΓ dX5_press_16 ic_m1 ?_
      exact qr_i hR dX5_press_17 ⟨_, rfl, hF0, fun r2 M' h => by unfold spPr at h; rw [if_neg (fun q => by first | exact of_decide_eq_false h_4 q.1 | exact of_decide_eq_false h_13 q.2)] at h; exact ⟨h.1, CW.sm hX hZ h.2⟩⟩

set_option maxRecDepth 100000 in
set_option maxHeartbeats 4000000 in
theorem c_X5_setFault (l : Launch) (d : Nat) (hd : 4 ≤ d) {n : Nat} {w : Nat → AC} {M : Bk} {B : Nat} {b : Bk} {ol : Nat} {p : Nat → Bk} {g : Nat → Nat} {z R q : Nat} {c1 c2 : Bk} (hZ : WX n w b ol (M 5 0) p (M 4) (M 5 1) g z R q c1 c2) (hX : SX M B b ol p) (hBd : B < 800000000) (rl v : Int32) : Sq l yX5_setFault cX5_setFault 4 (some .int) d [aR 0, aI rl, aI v] n w (QC (spPut 6 2 M rl v) (B + 4100) n w) := by
  refine Sp.of (plainFor_of_name (by decide)) (Nat.le_of_ble_eq_true rfl) (fun Γ hΓ hR => ?_)
  show Γ 0 [aR 0, aI rl, aI v, none] [] (0, 0) n w
  have hF0 : Fr 0 70 w w := Fr.rf
  obtain ⟨hR0, hS, hC, hW, hp6, hG, hT60, hT256⟩ := id hX
  have h8 := hW.2.1
  refine qa_aload_n hΓ dX5_setFault_0 rfl ?_
  refine qa_get hΓ dX5_setFault_1 fk_X5_12 hZ.lt hZ.o rfl ?_
  refine qa_iload_n hΓ dX5_setFault_4 rfl ?_
  refine qc_V1 hΓ dX5_setFault_5 lk_X5_59 vw_X0_has (by omega) (c_X0_has l (d - 1) (by omega) hZ.now _) rfl hZ.now.lt hZ.now.o rfl rfl (Nat.le_of_ble_eq_true rfl) ?_
  rw [hR0.1.1]
  refine qb_if_eq (tgt := 20) hΓ dX5_setFault_8 (by decide) (fun h_8 => ?_) (fun h_8 => ?_)
  · refine qa_iconst (v := (-1)) hΓ dX5_setFault_20 ic_m1 ?_
    exact qr_i hR dX5_setFault_21 ⟨_, rfl, hF0, fun r2 M' h => by unfold spPut at h; rw [if_neg (fun q => by first | exact of_decide_eq_false h_8 q.1 | exact of_decide_eq_false h_17 q.2)] at h; exact ⟨h.1, CW.sm hX hZ h.2⟩⟩
  · obtain ⟨r, hr, rfl⟩ := isR_of (by omega) (of_decide_eq_true h_8)
    have tr : tn (nI r) = r := tn_nI (by omega)
    refine qa_iload_n hΓ dX5_setFault_11 rfl ?_
    refine qa_iconst (v := nI 0) hΓ dX5_setFault_12 ic_0 ?_
    refine qa_iconst (v := nI 2) hΓ dX5_setFault_13 ic_2 ?_
    refine qc_S1 hΓ dX5_setFault_14 lk_X5_71 vw_X5_isWithin (by omega) (c_X5_isWithin l (d - 1) _ _ _) rfl rfl (Nat.le_of_ble_eq_true rfl) ?_
    refine qb_if_ne (tgt := 22) hΓ dX5_setFault_17 (by decide) (fun h_17 => ?_) (fun h_17 => ?_)
    · obtain ⟨f, hf1, hf2, rfl⟩ := rng (by decide) (of_decide_eq_true h_17) (by decide)
      have hW1 : Wt (upN (M 0) (ix r 6) f) B := hW.up (by decide) (by simpa [bdF] using hf2)
      refine qa_aload_n hΓ dX5_setFault_22 rfl ?_
      refine qa_get hΓ dX5_setFault_23 fk_X5_19 hZ.lt hZ.o rfl ?_
      refine qa_aload_n hΓ dX5_setFault_26 rfl ?_
      refine qa_get hΓ dX5_setFault_27 fk_X5_12 hZ.lt hZ.o rfl ?_
      refine qc_V0q hΓ dX5_setFault_30 lk_X5_51 vw_X3_save (by omega) (c_X3_save l (d - 1) (by omega) hZ.past hZ.now) rfl hZ.past.lt hZ.past.o rfl rfl (Nat.le_of_ble_eq_true rfl) (fun w hq => ?_)
      obtain ⟨ol', p', hP', hF, hs1, hs2⟩ := hq
      have hZ := hZ.putP hP' hF
      have hF0 := hF0.tr (hF.wide (by omega) (by omega))
      refine qa_aload_n hΓ dX5_setFault_33 rfl ?_
      refine qa_get hΓ dX5_setFault_34 fk_X5_12 hZ.lt hZ.o rfl ?_
      refine qa_iload_n hΓ dX5_setFault_37 rfl ?_
      refine qc_V1 hΓ dX5_setFault_38 lk_X5_117 vw_X0_faultOf (by omega) (c_X0_faultOf l (d - 1) (by omega) hZ.now hR0 hW (by omega) r hr) rfl hZ.now.lt hZ.now.o rfl rfl (Nat.le_of_ble_eq_true rfl) ?_
      refine qa_istore_n hΓ dX5_setFault_41 (by decide) ?_
      refine qa_aload_n hΓ dX5_setFault_42 rfl ?_
      refine qa_get hΓ dX5_setFault_43 fk_X5_12 hZ.lt hZ.o rfl ?_
      refine qa_iload_n hΓ dX5_setFault_46 rfl ?_
      refine qa_iload_n hΓ dX5_setFault_47 rfl ?_
      refine qc_V0q hΓ dX5_setFault_48 lk_X5_120 vw_X0_putFault (by omega) (c_X0_putFault l (d - 1) (by omega) hZ.now hR0 hW (by omega) hS r f hr hf2) rfl hZ.now.lt hZ.now.o rfl rfl (Nat.le_of_ble_eq_true rfl) (fun w hq => ?_)
      obtain ⟨b', hB', hF, hR1, hS1⟩ := hq
      have hZ := hZ.putB hB' hF
      have hF0 := hF0.tr (hF.wide (by omega) (by omega))
      refine qa_iload_n hΓ dX5_setFault_51 rfl ?_
      exact qr_i hR dX5_setFault_52 ⟨_, rfl, hF0, fun r2 M' h => by
        unfold spPut at h
        rw [if_pos ⟨of_decide_eq_true h_8, of_decide_eq_true h_17⟩, tr, tn_nI (show f < 2147483648 by omega)] at h
        exact ⟨h.1, CW.op hX hZ hs1 hs2 hR1 hS1 (CC_lks hW1) (hW1.mono (by omega)).lks h.2⟩⟩
    · refine qa_iconst (v := (-1)) hΓ dX5_setFault_20 ic_m1 ?_
      exact qr_i hR dX5_setFault_21 ⟨_, rfl, hF0, fun r2 M' h => by unfold spPut at h; rw [if_neg (fun q => by first | exact of_decide_eq_false h_8 q.1 | exact of_decide_eq_false h_17 q.2)] at h; exact ⟨h.1, CW.sm hX hZ h.2⟩⟩

set_option maxRecDepth 100000 in
set_option maxHeartbeats 4000000 in
theorem c_X5_step (l : Launch) (d : Nat) (hd : 4 ≤ d) {n : Nat} {w : Nat → AC} {M : Bk} {B : Nat} {b : Bk} {ol : Nat} {p : Nat → Bk} {g : Nat → Nat} {z R q : Nat} {c1 c2 : Bk} (hZ : WX n w b ol (M 5 0) p (M 4) (M 5 1) g z R q c1 c2) (hX : SX M B b ol p) (hBd : B < 800000000) : Sq l yX5_step cX5_step 3 (some .int) d [aR 0] n w (QC (spStep M) (B + 4100) n w) := by
  refine Sp.of (plainFor_of_name (by decide)) (Nat.le_of_ble_eq_true rfl) (fun Γ hΓ hR => ?_)
  show Γ 0 [aR 0, none, none] [] (0, 0) n w
  have hF0 : Fr 0 70 w w := Fr.rf
  obtain ⟨hR0, hS, hC, hW, hp6, hG, hT60, hT256⟩ := id hX
  have h8 := hW.2.1
  refine qa_aload_n hΓ dX5_step_0 rfl ?_
  refine qa_get hΓ dX5_step_1 fk_X5_12 hZ.lt hZ.o rfl ?_
  refine qa_iconst (v := nI 0) hΓ dX5_step_4 ic_0 ?_
  show Γ _ _ (aZ false.toNat :: _) _ _ _
  refine qc_V1 hΓ dX5_step_5 lk_X5_130 vw_X0_nextSlot (by omega) (c_X0_nextSlot l (d - 1) (by omega) hZ.now hR0 hW (by omega) false) rfl hZ.now.lt hZ.now.o rfl rfl (Nat.le_of_ble_eq_true rfl) ?_
  refine qa_istore_n hΓ dX5_step_8 (by decide) ?_
  refine qa_iload_n hΓ dX5_step_9 rfl ?_
  refine qa_iconst (v := -1) hΓ dX5_step_10 ic_m1 ?_
  cases ho : nx (M 0) false with
  | none =>
    refine qa_icmp_ne (tgt := 17) hΓ dX5_step_11 (by decide) (fun h => absurd rfl h) (fun _ => ?_)
    refine qa_bipush (v := (-2)) hΓ dX5_step_14 bp_m2 ?_
    exact qr_i hR dX5_step_16 ⟨_, rfl, hF0, fun r2 M' h => by
      unfold spStep at h
      rw [ho] at h
      exact ⟨h.1, CW.sm hX hZ h.2⟩⟩
  | some e =>
    have he9 := nx_lt ho
    have hsl := sl_lt he9
    refine qa_icmp_ne (tgt := 17) hΓ dX5_step_11 (by decide) (fun _ => ?_) (fun h => absurd h (nI_n1 (by omega)))
    show Γ 17 [aR 0, aZ (slE e), none] [] (0, 0) n w
    refine qa_aload_n hΓ dX5_step_17 rfl ?_
    refine qa_get hΓ dX5_step_18 fk_X5_19 hZ.lt hZ.o rfl ?_
    refine qa_aload_n hΓ dX5_step_21 rfl ?_
    refine qa_get hΓ dX5_step_22 fk_X5_12 hZ.lt hZ.o rfl ?_
    refine qc_V0q hΓ dX5_step_25 lk_X5_51 vw_X3_save (by omega) (c_X3_save l (d - 1) (by omega) hZ.past hZ.now) rfl hZ.past.lt hZ.past.o rfl rfl (Nat.le_of_ble_eq_true rfl) (fun w hq => ?_)
    obtain ⟨ol', p', hP', hF, hs1, hs2⟩ := hq
    have hZ := hZ.putP hP' hF
    have hF0 := hF0.tr (hF.wide (by omega) (by omega))
    refine qa_aload_n hΓ dX5_step_28 rfl ?_
    refine qa_get hΓ dX5_step_29 fk_X5_12 hZ.lt hZ.o rfl ?_
    refine qa_iload_n hΓ dX5_step_32 rfl ?_
    refine qc_V1 hΓ dX5_step_33 lk_X5_134 vw_X0_kindOf (by omega) (c_X0_kindOf l (d - 1) (by omega) hZ.now hR0 hW (by omega) (slE e) (by rw [sl_div]; omega)) rfl hZ.now.lt hZ.now.o rfl rfl (Nat.le_of_ble_eq_true rfl) ?_
    rw [kd_e hS hW he9 (nx_kind ho) (nx_wt ho)]
    refine qa_istore_n hΓ dX5_step_36 (by decide) ?_
    refine qa_aload_n hΓ dX5_step_37 rfl ?_
    refine qa_get hΓ dX5_step_38 fk_X5_12 hZ.lt hZ.o rfl ?_
    refine qa_iload_n hΓ dX5_step_41 rfl ?_
    refine qc_V0q hΓ dX5_step_42 lk_X5_137 vw_X0_happen (by omega) (c_X0_happen l (d - 1) (by omega) hZ.now hR0 hW (by omega) (by omega) hS e he9 (nx_kind ho) (nx_wt ho)) rfl hZ.now.lt hZ.now.o rfl rfl (Nat.le_of_ble_eq_true rfl) (fun w hq => ?_)
    obtain ⟨b', hB', hF, hR1, hS1⟩ := hq
    have hZ := hZ.putB hB' hF
    have hF0 := hF0.tr (hF.wide (by omega) (by omega))
    refine qa_bipush (v := nI 10) hΓ dX5_step_45 bp_10 ?_
    refine qa_iload_n hΓ dX5_step_47 rfl ?_
    refine qc_S1 hΓ dX5_step_48 lk_X5_141 vw_X0_relayOf (by omega) (c_X0_relayOf l (d - 1) _ (by omega)) rfl rfl (Nat.le_of_ble_eq_true rfl) ?_
    rw [sl_div]
    refine qz_imul hΓ dX5_step_51 ?_
    refine qa_iload_n hΓ dX5_step_52 rfl ?_
    refine qz_iadd hΓ dX5_step_53 ?_
    exact qr_i hR dX5_step_54 ⟨_, rfl, hF0, fun r2 M' h => by
      unfold spStep at h
      rw [ho] at h
      exact ⟨h.1, CW.op hX hZ hs1 hs2 hR1 hS1 (CC.hap hW he9) ((hW.hap he9).mono (by omega)) h.2⟩⟩

set_option maxRecDepth 100000 in
set_option maxHeartbeats 4000000 in
theorem c_X5_settle (l : Launch) (d : Nat) (hd : 5 ≤ d) {n : Nat} {w : Nat → AC} {M : Bk} {B : Nat} {b : Bk} {ol : Nat} {p : Nat → Bk} {g : Nat → Nat} {z R q : Nat} {c1 c2 : Bk} (hZ : WX n w b ol (M 5 0) p (M 4) (M 5 1) g z R q c1 c2) (hX : SX M B b ol p) (hBd : B < 800000000) (ev : Int32) : Sq l yX5_settle cX5_settle 2 (some .int) d [aR 0, aI ev] n w (QC (spSettle M ev) (B + 4100) n w) := by
  refine Sp.of (plainFor_of_name (by decide)) (Nat.le_of_ble_eq_true rfl) (fun Γ hΓ hR => ?_)
  show Γ 0 [aR 0, aI ev] [] (0, 0) n w
  have hF0 : Fr 0 70 w w := Fr.rf
  obtain ⟨hR0, hS, hC, hW, hp6, hG, hT60, hT256⟩ := id hX
  have h8 := hW.2.1
  refine qa_iload_n hΓ dX5_settle_0 rfl ?_
  refine qa_iconst (v := nI 1) hΓ dX5_settle_1 ic_1 ?_
  refine qa_sipush (v := nI 200) hΓ dX5_settle_2 sp_200 ?_
  refine qc_S1 hΓ dX5_settle_5 lk_X5_71 vw_X5_isWithin (by omega) (c_X5_isWithin l (d - 1) _ _ _) rfl rfl (Nat.le_of_ble_eq_true rfl) ?_
  refine qb_if_ne (tgt := 13) hΓ dX5_settle_8 (by decide) (fun h_8 => ?_) (fun h_8 => ?_)
  · obtain ⟨ev, he1, he2, rfl⟩ := rng (by decide) (of_decide_eq_true h_8) (by decide)
    refine qa_aload_n hΓ dX5_settle_13 rfl ?_
    refine qa_get hΓ dX5_settle_14 fk_X5_19 hZ.lt hZ.o rfl ?_
    refine qa_aload_n hΓ dX5_settle_17 rfl ?_
    refine qa_get hΓ dX5_settle_18 fk_X5_12 hZ.lt hZ.o rfl ?_
    refine qc_V0q hΓ dX5_settle_21 lk_X5_51 vw_X3_save (by omega) (c_X3_save l (d - 1) (by omega) hZ.past hZ.now) rfl hZ.past.lt hZ.past.o rfl rfl (Nat.le_of_ble_eq_true rfl) (fun w hq => ?_)
    obtain ⟨ol', p', hP', hF, hs1, hs2⟩ := hq
    have hZ := hZ.putP hP' hF
    have hF0 := hF0.tr (hF.wide (by omega) (by omega))
    refine qa_aload_n hΓ dX5_settle_24 rfl ?_
    refine qa_get hΓ dX5_settle_25 fk_X5_12 hZ.lt hZ.o rfl ?_
    refine qa_iload_n hΓ dX5_settle_28 rfl ?_
    refine qa_ldc (v := nI NV) hΓ dX5_settle_29 ck_X5_144 ?_
    refine qa_iconst (v := nI 0) hΓ dX5_settle_31 ic_0 ?_
    show Γ _ _ (aZ false.toNat :: _) _ _ _
    refine qc_V1q hΓ dX5_settle_32 lk_X5_145 vw_X0_run (by omega) (c_X0_run l (d - 1) (by omega) hZ.now hR0 hW (by omega) hS ev NV false (by omega) (by decide)) rfl hZ.now.lt hZ.now.o rfl rfl (Nat.le_of_ble_eq_true rfl) (fun w hq => ?_)
    rw [rnL_st false ev (M 0) B hW (by have : NV = 2147483647 := rfl; omega)] at hq ⊢
    obtain ⟨b', hB', hF, hR1, hS1⟩ := hq
    have hZ := hZ.putB hB' hF
    have hF0 := hF0.tr (hF.wide (by omega) (by omega))
    exact qr_i hR dX5_settle_35 ⟨_, rfl, hF0, fun r2 M' h => by
      unfold spSettle at h
      rw [if_pos (of_decide_eq_true h_8), tn_nI (by omega)] at h
      exact ⟨h.1, CW.op hX hZ hs1 hs2 hR1 hS1 (CC.stl hC hW) (hW.stl.mono (by omega)) h.2⟩⟩
  · refine qa_iconst (v := (-1)) hΓ dX5_settle_11 ic_m1 ?_
    exact qr_i hR dX5_settle_12 ⟨_, rfl, hF0, fun r2 M' h => by unfold spSettle at h; rw [if_neg (fun q => by first | exact of_decide_eq_false h_8 q)] at h; exact ⟨h.1, CW.sm hX hZ h.2⟩⟩
end
section
/-! The class: sticking, passing time, texts, undo -/
set_option maxRecDepth 100000 in
set_option maxHeartbeats 4000000 in
theorem c_X5_stick (l : Launch) (d : Nat) (hd : 3 ≤ d) {n : Nat} {w : Nat → AC} {M : Bk} {B : Nat} {b : Bk} {ol : Nat} {p : Nat → Bk} {g : Nat → Nat} {z R q : Nat} {c1 c2 : Bk} (hZ : WX n w b ol (M 5 0) p (M 4) (M 5 1) g z R q c1 c2) (hX : SX M B b ol p) (hBd : B < 800000000) (rl v : Int32) : Sq l yX5_stick cX5_stick 4 (some .int) d [aR 0, aI rl, aI v] n w (QC (spPut 7 1 M rl v) (B + 4100) n w) := by
  refine Sp.of (plainFor_of_name (by decide)) (Nat.le_of_ble_eq_true rfl) (fun Γ hΓ hR => ?_)
  show Γ 0 [aR 0, aI rl, aI v, none] [] (0, 0) n w
  have hF0 : Fr 0 70 w w := Fr.rf
  obtain ⟨hR0, hS, hC, hW, hp6, hG, hT60, hT256⟩ := id hX
  have h8 := hW.2.1
  refine qa_aload_n hΓ dX5_stick_0 rfl ?_
  refine qa_get hΓ dX5_stick_1 fk_X5_12 hZ.lt hZ.o rfl ?_
  refine qa_iload_n hΓ dX5_stick_4 rfl ?_
  refine qc_V1 hΓ dX5_stick_5 lk_X5_59 vw_X0_has (by omega) (c_X0_has l (d - 1) (by omega) hZ.now _) rfl hZ.now.lt hZ.now.o rfl rfl (Nat.le_of_ble_eq_true rfl) ?_
  rw [hR0.1.1]
  refine qb_if_eq (tgt := 20) hΓ dX5_stick_8 (by decide) (fun h_8 => ?_) (fun h_8 => ?_)
  · refine qa_iconst (v := (-1)) hΓ dX5_stick_20 ic_m1 ?_
    exact qr_i hR dX5_stick_21 ⟨_, rfl, hF0, fun r2 M' h => by unfold spPut at h; rw [if_neg (fun q => by first | exact of_decide_eq_false h_8 q.1 | exact of_decide_eq_false h_17 q.2)] at h; exact ⟨h.1, CW.sm hX hZ h.2⟩⟩
  · obtain ⟨r, hr, rfl⟩ := isR_of (by omega) (of_decide_eq_true h_8)
    have tr : tn (nI r) = r := tn_nI (by omega)
    refine qa_iload_n hΓ dX5_stick_11 rfl ?_
    refine qa_iconst (v := nI 0) hΓ dX5_stick_12 ic_0 ?_
    refine qa_iconst (v := nI 1) hΓ dX5_stick_13 ic_1 ?_
    refine qc_S1 hΓ dX5_stick_14 lk_X5_71 vw_X5_isWithin (by omega) (c_X5_isWithin l (d - 1) _ _ _) rfl rfl (Nat.le_of_ble_eq_true rfl) ?_
    refine qb_if_ne (tgt := 22) hΓ dX5_stick_17 (by decide) (fun h_17 => ?_) (fun h_17 => ?_)
    · obtain ⟨f, hf1, hf2, rfl⟩ := rng (by decide) (of_decide_eq_true h_17) (by decide)
      have hW1 : Wt (upN (M 0) (ix r 7) f) B := hW.up (by decide) (by simpa [bdF] using hf2)
      have e66 := hR0.2.2.1.2.2.2.1
      have hbs : b 6 6 < 65536 := by rw [e66]; exact mk_16' _ h8
      have hbr : 1 <<< r < 65536 := by rw [Nat.one_shiftLeft]; exact Nat.pow_lt_pow_right (a := 2) (n := 16) (by decide) (by omega)
      refine qa_aload_n hΓ dX5_stick_22 rfl ?_
      refine qa_get hΓ dX5_stick_23 fk_X5_19 hZ.lt hZ.o rfl ?_
      refine qa_aload_n hΓ dX5_stick_26 rfl ?_
      refine qa_get hΓ dX5_stick_27 fk_X5_12 hZ.lt hZ.o rfl ?_
      refine qc_V0q hΓ dX5_stick_30 lk_X5_51 vw_X3_save (by omega) (c_X3_save l (d - 1) (by omega) hZ.past hZ.now) rfl hZ.past.lt hZ.past.o rfl rfl (Nat.le_of_ble_eq_true rfl) (fun w hq => ?_)
      obtain ⟨ol', p', hP', hF, hs1, hs2⟩ := hq
      have hZ := hZ.putP hP' hF
      have hF0 := hF0.tr (hF.wide (by omega) (by omega))
      refine qa_aload_n hΓ dX5_stick_33 rfl ?_
      refine qa_get hΓ dX5_stick_34 fk_X5_12 hZ.lt hZ.o rfl ?_
      refine qa_getN hΓ dX5_stick_37 fn_X5_124 hZ.now.lt hZ.now.o rfl ?_
      refine qa_iload_n hΓ dX5_stick_40 rfl ?_
      refine qc_S1 hΓ dX5_stick_41 lk_X5_127 vw_X5_bitOf (by omega) (c_X5_bitOf l (d - 1) _ _ (by omega) (by omega)) rfl rfl (Nat.le_of_ble_eq_true rfl) ?_
      rw [pbit hW hr (by decide) e66]
      refine qa_istore_n hΓ dX5_stick_44 (by decide) ?_
      refine qa_aload_n hΓ dX5_stick_45 rfl ?_
      refine qa_get hΓ dX5_stick_46 fk_X5_12 hZ.lt hZ.o rfl ?_
      refine qa_iload_n hΓ dX5_stick_49 rfl ?_
      refine qa_iconst (v := nI 1) hΓ dX5_stick_50 ic_1 ?_
      refine qz_icmp_ne (tgt := 68) hΓ dX5_stick_51 (by decide) (by omega) (by decide) (fun h_51 => ?_) (fun h_51 => ?_)
      · refine qa_aload_n hΓ dX5_stick_68 rfl ?_
        refine qa_get hΓ dX5_stick_69 fk_X5_12 hZ.lt hZ.o rfl ?_
        refine qa_getN hΓ dX5_stick_72 fn_X5_124 hZ.now.lt hZ.now.o rfl ?_
        refine qa_iconst (v := nI 1) hΓ dX5_stick_75 ic_1 ?_
        refine qa_iload_n hΓ dX5_stick_76 rfl ?_
        refine qz_ishl hΓ dX5_stick_77 (by omega) ?_
        refine qa_iconst (v := -1) hΓ dX5_stick_78 ic_m1 ?_
        refine qa_ixor hΓ dX5_stick_79 ?_
        refine qa_iand hΓ dX5_stick_80 ?_
        rw [andn_int hbs]
        show Γ 81 _ (aZ (andn (b 6 6) (1 <<< r)) :: _) _ _ _
        have hxx : andn (b 6 6) (1 <<< r) = mk (pM (upN (M 0) (ix r 7) f) 7 1) (M 0 1) := by rw [e66]; exact mk_clr h8 (fun i hi => by unfold pM; by_cases e : i = r; (rw [if_pos e, e, vv_same]; exact decide_eq_false (by omega)); (rw [if_neg e, vv_oth _ _ _ _ _ _ (by decide) (by decide) (Or.inl e)]))
        refine qB_putN (x := _) hΓ 6 dX5_stick_81 fn_X5_124 (by decide) hZ.now (fun w hB' hF => ?_)
        have hZ := hZ.putB hB' hF
        have hF0 := hF0.tr (hF.wide (by omega) (by omega))
        refine qa_iload_n hΓ dX5_stick_84 rfl ?_
        exact qr_i hR dX5_stick_85 ⟨_, rfl, hF0, fun r2 M' h => by
          unfold spPut at h
          rw [if_pos ⟨of_decide_eq_true h_8, of_decide_eq_true h_17⟩, tr, tn_nI (show f < 2147483648 by omega), (hC.stk hW).lks] at h
          exact ⟨h.1, CW.op hX hZ hs1 hs2 (hR0.stk hW hxx) (hS.col (by decide) (by decide)) (hC.stk hW) (hW1.mono (by omega)) h.2⟩⟩
      · refine qa_aload_n hΓ dX5_stick_54 rfl ?_
        refine qa_get hΓ dX5_stick_55 fk_X5_12 hZ.lt hZ.o rfl ?_
        refine qa_getN hΓ dX5_stick_58 fn_X5_124 hZ.now.lt hZ.now.o rfl ?_
        refine qa_iconst (v := nI 1) hΓ dX5_stick_61 ic_1 ?_
        refine qa_iload_n hΓ dX5_stick_62 rfl ?_
        refine qz_ishl hΓ dX5_stick_63 (by omega) ?_
        refine qz_ior hΓ dX5_stick_64 ?_
        refine qa_goto (tgt := 81) hΓ dX5_stick_65 (by decide) ?_
        have hxx : b 6 6 ||| 1 <<< r = mk (pM (upN (M 0) (ix r 7) f) 7 1) (M 0 1) := by rw [e66]; exact mk_or hr (fun i hi => by unfold pM; by_cases e : i = r; (rw [if_pos e, e, vv_same]; exact decide_eq_true (by omega)); (rw [if_neg e, vv_oth _ _ _ _ _ _ (by decide) (by decide) (Or.inl e)]))
        refine qB_putN (x := _) hΓ 6 dX5_stick_81 fn_X5_124 (by decide) hZ.now (fun w hB' hF => ?_)
        have hZ := hZ.putB hB' hF
        have hF0 := hF0.tr (hF.wide (by omega) (by omega))
        refine qa_iload_n hΓ dX5_stick_84 rfl ?_
        exact qr_i hR dX5_stick_85 ⟨_, rfl, hF0, fun r2 M' h => by
          unfold spPut at h
          rw [if_pos ⟨of_decide_eq_true h_8, of_decide_eq_true h_17⟩, tr, tn_nI (show f < 2147483648 by omega), (hC.stk hW).lks] at h
          exact ⟨h.1, CW.op hX hZ hs1 hs2 (hR0.stk hW hxx) (hS.col (by decide) (by decide)) (hC.stk hW) (hW1.mono (by omega)) h.2⟩⟩
    · refine qa_iconst (v := (-1)) hΓ dX5_stick_20 ic_m1 ?_
      exact qr_i hR dX5_stick_21 ⟨_, rfl, hF0, fun r2 M' h => by unfold spPut at h; rw [if_neg (fun q => by first | exact of_decide_eq_false h_8 q.1 | exact of_decide_eq_false h_17 q.2)] at h; exact ⟨h.1, CW.sm hX hZ h.2⟩⟩

set_option maxRecDepth 100000 in
set_option maxHeartbeats 4000000 in
theorem c_X5_pass (l : Launch) (d : Nat) (hd : 5 ≤ d) {n : Nat} {w : Nat → AC} {M : Bk} {B : Nat} {b : Bk} {ol : Nat} {p : Nat → Bk} {g : Nat → Nat} {z R q : Nat} {c1 c2 : Bk} (hZ : WX n w b ol (M 5 0) p (M 4) (M 5 1) g z R q c1 c2) (hX : SX M B b ol p) (hBd : B < 800000000) (tk : Int32) : Sq l yX5_pass cX5_pass 4 (some .int) d [aR 0, aI tk] n w (QC (spPass M tk) (B + 4100) n w) := by
  refine Sp.of (plainFor_of_name (by decide)) (Nat.le_of_ble_eq_true rfl) (fun Γ hΓ hR => ?_)
  show Γ 0 [aR 0, aI tk, none, none] [] (0, 0) n w
  have hF0 : Fr 0 70 w w := Fr.rf
  obtain ⟨hR0, hS, hC, hW, hp6, hG, hT60, hT256⟩ := id hX
  have h8 := hW.2.1
  refine qa_iload_n hΓ dX5_pass_0 rfl ?_
  refine qa_iconst (v := nI 1) hΓ dX5_pass_1 ic_1 ?_
  refine qa_sipush (v := nI 1000) hΓ dX5_pass_2 sp_1000 ?_
  refine qc_S1 hΓ dX5_pass_5 lk_X5_71 vw_X5_isWithin (by omega) (c_X5_isWithin l (d - 1) _ _ _) rfl rfl (Nat.le_of_ble_eq_true rfl) ?_
  refine qb_if_ne (tgt := 13) hΓ dX5_pass_8 (by decide) (fun h_8 => ?_) (fun h_8 => ?_)
  · obtain ⟨t, he1, he2, rfl⟩ := rng (by decide) (of_decide_eq_true h_8) (by decide)
    have h2B := hW.2.2.1
    refine qa_aload_n hΓ dX5_pass_13 rfl ?_
    refine qa_get hΓ dX5_pass_14 fk_X5_12 hZ.lt hZ.o rfl ?_
    refine qa_getN hΓ dX5_pass_17 fn_X5_149 hZ.now.lt hZ.now.o rfl ?_
    rw [hR0.1.2.1]
    refine qa_iload_n hΓ dX5_pass_20 rfl ?_
    refine qz_iadd hΓ dX5_pass_21 ?_
    refine qa_istore_n hΓ dX5_pass_22 (by decide) ?_
    refine qa_iload_n hΓ dX5_pass_23 rfl ?_
    refine qa_ldc (v := nI 100000) hΓ dX5_pass_24 ck_X5_152 ?_
    refine qz_icmp_le (tgt := 32) hΓ dX5_pass_26 (by decide) (by omega) (by omega) (fun h_26 => ?_) (fun h_26 => ?_)
    · refine qa_aload_n hΓ dX5_pass_32 rfl ?_
      refine qa_get hΓ dX5_pass_33 fk_X5_40 hZ.lt hZ.o rfl ?_
      refine qa_aload_n hΓ dX5_pass_36 rfl ?_
      refine qa_get hΓ dX5_pass_37 fk_X5_12 hZ.lt hZ.o rfl ?_
      refine qc_V0q hΓ dX5_pass_40 lk_X5_153 vw_X0_copy (by omega) (c_X0_copy l (d - 1) (by omega) hZ.tri hZ.now (by decide)) rfl hZ.tri.lt hZ.tri.o rfl rfl (Nat.le_of_ble_eq_true rfl) (fun w hq => ?_)
      obtain ⟨b', hB', hF, ht1, ht2⟩ := hq
      have hZ := hZ.putT hB' hF
      have hF0 := hF0.tr (hF.wide (by omega) (by omega))
      have hRt := hR0.of ht1 ht2
      refine qa_aload_n hΓ dX5_pass_43 rfl ?_
      refine qa_get hΓ dX5_pass_44 fk_X5_40 hZ.lt hZ.o rfl ?_
      refine qa_sipush (v := nI 201) hΓ dX5_pass_47 sp_201 ?_
      refine qa_iload_n hΓ dX5_pass_50 rfl ?_
      refine qa_iconst (v := nI 0) hΓ dX5_pass_51 ic_0 ?_
      show Γ _ _ (aZ false.toNat :: _) _ _ _
      refine qc_V1q hΓ dX5_pass_52 lk_X5_145 vw_X0_run (by omega) (c_X0_run l (d - 1) (by omega) hZ.tri hRt hW (by omega) hS 201 (M 0 2 + t) false (by omega) (by omega)) rfl hZ.tri.lt hZ.tri.o rfl rfl (Nat.le_of_ble_eq_true rfl) (fun w hq => ?_)
      rw [rnL_ps] at hq ⊢
      obtain ⟨b2, hB', hF, hR2, hS2⟩ := hq
      have hZ := hZ.putT hB' hF
      have hF0 := hF0.tr (hF.wide (by omega) (by omega))
      have hWp := hW.psL (then_ := M 0 2 + t) (m := 201)
      have hps := psL_le (M 0 2 + t) 201 (M 0)
      refine qa_istore_n hΓ dX5_pass_55 (by decide) ?_
      refine qa_iload_n hΓ dX5_pass_56 rfl ?_
      refine qa_sipush (v := nI 200) hΓ dX5_pass_57 sp_200 ?_
      refine qz_icmp_le (tgt := 66) hΓ dX5_pass_60 (by decide) (by omega) (by omega) (fun h_60 => ?_) (fun h_60 => ?_)
      · refine qa_aload_n hΓ dX5_pass_66 rfl ?_
        refine qa_get hΓ dX5_pass_67 fk_X5_19 hZ.lt hZ.o rfl ?_
        refine qa_aload_n hΓ dX5_pass_70 rfl ?_
        refine qa_get hΓ dX5_pass_71 fk_X5_12 hZ.lt hZ.o rfl ?_
        refine qc_V0q hΓ dX5_pass_74 lk_X5_51 vw_X3_save (by omega) (c_X3_save l (d - 1) (by omega) hZ.past hZ.now) rfl hZ.past.lt hZ.past.o rfl rfl (Nat.le_of_ble_eq_true rfl) (fun w hq => ?_)
        obtain ⟨ol', p', hP', hF, hs1, hs2⟩ := hq
        have hZ := hZ.putP hP' hF
        have hF0 := hF0.tr (hF.wide (by omega) (by omega))
        refine qa_aload_n hΓ dX5_pass_77 rfl ?_
        refine qa_get hΓ dX5_pass_78 fk_X5_12 hZ.lt hZ.o rfl ?_
        refine qa_aload_n hΓ dX5_pass_81 rfl ?_
        refine qa_get hΓ dX5_pass_82 fk_X5_40 hZ.lt hZ.o rfl ?_
        refine qc_V0q hΓ dX5_pass_85 lk_X5_153 vw_X0_copy (by omega) (c_X0_copy l (d - 1) (by omega) hZ.now hZ.tri (by decide)) rfl hZ.now.lt hZ.now.o rfl rfl (Nat.le_of_ble_eq_true rfl) (fun w hq => ?_)
        obtain ⟨b3, hB', hF, hc1, hc2⟩ := hq
        have hZ := hZ.putB hB' hF
        have hF0 := hF0.tr (hF.wide (by omega) (by omega))
        refine qa_aload_n hΓ dX5_pass_88 rfl ?_
        refine qa_get hΓ dX5_pass_89 fk_X5_12 hZ.lt hZ.o rfl ?_
        refine qa_iload_n hΓ dX5_pass_92 rfl ?_
        refine qB_putN (x := _) hΓ 1 dX5_pass_93 fn_X5_149 (by decide) hZ.now (fun w hB' hF => ?_)
        have hZ := hZ.putB hB' hF
        have hF0 := hF0.tr (hF.wide (by omega) (by omega))
        refine qa_iload_n hΓ dX5_pass_96 rfl ?_
        exact qr_i hR dX5_pass_97 ⟨_, rfl, hF0, fun r2 M' h => by
          unfold spPass at h
          rw [if_pos (of_decide_eq_true h_8), tn_nI (by omega), if_neg (by omega), if_neg (by omega)] at h
          exact ⟨h.1, CW.op hX hZ hs1 hs2 (RepC.time (hR2.of hc1 hc2) hWp) (hS2.head (Or.inr rfl)) ((hC.psL hW).time hWp) ((hWp.mono (show _ ≤ B + 4100 by omega)).time (by omega)) h.2⟩⟩
      · refine qa_bipush (v := (-3)) hΓ dX5_pass_63 bp_m3 ?_
        exact qr_i hR dX5_pass_65 ⟨_, rfl, hF0, fun r2 M' h => by
          unfold spPass at h
          rw [if_pos (of_decide_eq_true h_8), tn_nI (by omega), if_neg (by omega), if_pos (by omega)] at h
          exact ⟨h.1, CW.sm hX hZ h.2⟩⟩
    · refine qa_bipush (v := (-3)) hΓ dX5_pass_29 bp_m3 ?_
      exact qr_i hR dX5_pass_31 ⟨_, rfl, hF0, fun r2 M' h => by
        unfold spPass at h
        rw [if_pos (of_decide_eq_true h_8), tn_nI (by omega), if_pos (by omega)] at h
        exact ⟨h.1, CW.sm hX hZ h.2⟩⟩
  · refine qa_iconst (v := (-1)) hΓ dX5_pass_11 ic_m1 ?_
    exact qr_i hR dX5_pass_12 ⟨_, rfl, hF0, fun r2 M' h => by unfold spPass at h; rw [if_neg (fun q => by first | exact of_decide_eq_false h_8 q)] at h; exact ⟨h.1, CW.sm hX hZ h.2⟩⟩

/-- the model's undo -/
def unM (M : Bk) : Bk := if M 5 0 = 0 then M else rset (bset M 5 0 (M 5 0 - 1)) 0 (pst M (M 5 0 - 1))
def spUndo (M : Bk) (r : Int32) (M' : Bk) : Prop := r = (if M 5 0 = 0 then -2 else nI (M 5 0 - 1)) ∧ M' = unM M
theorem CW.un {n : Nat} {w : Nat → AC} {M : Bk} {B : Nat} {b b' : Bk} {ol : Nat} {p : Nat → Bk} {g : Nat → Nat} {z R q : Nat} {c1 c2 : Bk} (hX : SX M B b ol p) (hZ : WX n w b' ol (M 5 0 - 1) p (M 4) (M 5 1) g z R q c1 c2) (h0 : 0 < M 5 0) (hs : SamB b' (p ((ol + (M 5 0 - 1)) % 6))) : CW (unM M) (B + 4100) n w := by
  obtain ⟨k1, k2, k3, k4, k5, k6, k7, k8⟩ := hX
  obtain ⟨g1, g2, g3, g4⟩ := k6 (M 5 0 - 1) (by omega)
  have e : unM M = rset (bset M 5 0 (M 5 0 - 1)) 0 (pst M (M 5 0 - 1)) := by unfold unM; rw [if_neg (by omega)]
  have e0 : unM M 0 = pst M (M 5 0 - 1) := by rw [e, rset_eq]
  have e5 : unM M 5 = upN (M 5) 0 (M 5 0 - 1) := by rw [e, rset_ne _ _ (by decide), bset_eq]
  have e4 : unM M 4 = M 4 := by rw [e, rset_ne _ _ (by decide), bset_ne _ _ _ (by decide)]
  have e1 : unM M 1 = M 1 := by rw [e, rset_ne _ _ (by decide), bset_ne _ _ _ (by decide)]
  have e50 : unM M 5 0 = M 5 0 - 1 := by rw [e5, upN_self]
  have e51 : unM M 5 1 = M 5 1 := by rw [e5, upN_ne _ _ _ (by decide)]
  refine ⟨b', ol, p, g, z, R, q, c1, c2, by rw [e50, e4, e51]; exact hZ, ?_⟩
  unfold SX
  rw [e0, e50, e51, e4]
  refine ⟨g1.of hs.1 hs.2, g2, g3, g4.mono (by omega), by omega, fun i hi => ?_, k7, k8⟩
  have ep : pst (unM M) i = pst M i := by unfold pst; rw [e1]
  rw [ep]
  exact (k6 i (by omega)).mono (by omega)
set_option maxRecDepth 100000 in
set_option maxHeartbeats 4000000 in
theorem c_X5_undo (l : Launch) (d : Nat) (hd : 3 ≤ d) {n : Nat} {w : Nat → AC} {M : Bk} {B : Nat} {b : Bk} {ol : Nat} {p : Nat → Bk} {g : Nat → Nat} {z R q : Nat} {c1 c2 : Bk} (hZ : WX n w b ol (M 5 0) p (M 4) (M 5 1) g z R q c1 c2) (hX : SX M B b ol p) (hBd : B < 800000000) : Sq l yX5_undo cX5_undo 1 (some .int) d [aR 0] n w (QC (spUndo M) (B + 4100) n w) := by
  refine Sp.of (plainFor_of_name (by decide)) (Nat.le_of_ble_eq_true rfl) (fun Γ hΓ hR => ?_)
  show Γ 0 [aR 0] [] (0, 0) n w
  have hF0 : Fr 0 70 w w := Fr.rf
  obtain ⟨hR0, hS, hC, hW, hp6, hG, hT60, hT256⟩ := id hX
  have h8 := hW.2.1
  have hZ0 := hZ
  refine qa_aload_n hΓ dX5_undo_0 rfl ?_
  refine qa_get hΓ dX5_undo_1 fk_X5_19 hZ.lt hZ.o rfl ?_
  refine qa_aload_n hΓ dX5_undo_4 rfl ?_
  refine qa_get hΓ dX5_undo_5 fk_X5_12 hZ.lt hZ.o rfl ?_
  refine qc_V hΓ dX5_undo_8 lk_X5_224 vw_X3_restore (by omega) (c_X3_restore l (d - 1) (by omega) hZ.past hZ.now) rfl hZ.past.lt hZ.past.o rfl rfl (Nat.le_of_ble_eq_true rfl) (fun r w' h9 => ?_)
  obtain ⟨rb, rfl, hq1, hq2, hq3⟩ := h9
  subst hq1
  show Γ 11 _ (aZ (decide (0 < M 5 0)).toNat :: []) _ _ _
  refine qb_if_eq (tgt := 24) hΓ dX5_undo_11 (by decide) (fun h_11 => ?_) (fun h_11 => ?_)
  · refine qa_bipush (v := (-2)) hΓ dX5_undo_24 bp_m2 ?_
    have hzr : M 5 0 = 0 := by have := of_decide_eq_false h_11; omega
    have hww := hq2 hzr
    subst hww
    exact qr_i hR dX5_undo_26 ⟨_, rfl, Fr.rf, fun r2 M' h => by
      obtain ⟨hh1, rfl⟩ := h
      rw [if_pos hzr] at hh1
      exact ⟨hh1, CW.sm hX hZ0 (by unfold unM; rw [if_pos hzr]; exact Sm.rf M)⟩⟩
  · have hpos : 0 < M 5 0 := of_decide_eq_true h_11
    obtain ⟨b', u1, u2, u3, u4⟩ := hq3 hpos
    have hZ := hZ.putBP u2 u1 u4
    have hF0 : Fr 0 70 w w' := u4.wide (by omega) (by omega)
    refine qa_aload_n hΓ dX5_undo_14 rfl ?_
    refine qa_get hΓ dX5_undo_15 fk_X5_19 hZ.lt hZ.o rfl ?_
    refine qa_getN hΓ dX5_undo_18 fn_X5_172 hZ.past.lt hZ.past.o rfl ?_
    refine qa_goto (tgt := 26) hΓ dX5_undo_21 (by decide) ?_
    exact qr_i hR dX5_undo_26 ⟨_, rfl, hF0, fun r2 M' h => by
      obtain ⟨hh1, rfl⟩ := h
      rw [if_neg (by omega)] at hh1
      exact ⟨hh1, CW.un hX hZ hpos u3⟩⟩
end
section
/-! The class: a circuit that is loaded; looking -/
/-- rows that differ at most behind the last branch of a relay -/
def Eqv (s t : Nat → Nat) : Prop := (∀ j, j < 3 → s j = t j) ∧ ∀ q x, x < 25 → (x ≤ 12 ∨ x < 13 + 2 * vv s q 12) → vv s q x = vv t q x
theorem Eqv.c {s t : Nat → Nat} (h : Eqv s t) (q : Nat) {x : Nat} (hx : x ≤ 12) : vv s q x = vv t q x := h.2 q x (by omega) (Or.inl hx)
theorem Eqv.cdB {s t : Nat → Nat} {q on : Nat} (h : Eqv s t) (h6 : vv s q 12 ≤ 6) : ∀ m, m ≤ vv s q 12 → cdB s q on m = cdB t q on m
  | 0, _ => rfl
  | m + 1, hm => by
    show (Jvm.Pilot.@@N@@.cdB s q on m || brB s q on m) = (Jvm.Pilot.@@N@@.cdB t q on m || brB t q on m)
    rw [Eqv.cdB h h6 m (by omega)]
    unfold brB
    rw [h.2 q (13 + 2 * m) (by omega) (Or.inr (by omega)), h.2 q (13 + 2 * m + 1) (by omega) (Or.inr (by omega))]
theorem Eqv.cnd {s t : Nat → Nat} {q on : Nat} (h : Eqv s t) (h6 : vv s q 12 ≤ 6) : cnd s q on = cnd t q on := by
  unfold Jvm.Pilot.@@N@@.cnd
  rw [← h.c q (x := 12) (by decide)]
  exact h.cdB h6 _ (Nat.le_refl _)
theorem Eqv.onS {s t : Nat → Nat} (h : Eqv s t) : onS s = onS t := by
  unfold Jvm.Pilot.@@N@@.onS
  rw [h.1 0 (by decide), h.1 1 (by decide), mk_congr (q := clB t) (fun i _ => by unfold clB; rw [h.c i (x := 6) (by decide), h.c i (x := 3) (by decide), h.c i (x := 5) (by decide)])]
theorem Eqv.lkT {s t : Nat → Nat} {is r : Nat} (h : Eqv s t) : Eqv (lkT is s r) (lkT is t r) := by
  refine ⟨fun j hj => by rw [lkT_hd _ _ _ hj, lkT_hd _ _ _ hj]; exact h.1 j hj, fun q x hx hc => ?_⟩
  rw [lkT_oth is s r (r' := q) (x := 12) (by decide) (Or.inr (by decide))] at hc
  by_cases e : q = r ∧ (x = 4 ∨ x = 8 ∨ x = 9)
  · obtain ⟨rfl, rfl | rfl | rfl⟩ := e
    · rw [lkT_4, lkT_4]
    · rw [lkT_8, lkT_8, h.c q (x := 3) (by decide), h.c q (x := 8) (by decide)]
    · rw [lkT_9, lkT_9, h.c q (x := 3) (by decide), h.c q (x := 9) (by decide), h.1 2 (by decide)]
      by_cases e1 : is = 1
      · rw [if_pos e1, h.c q (x := 0) (by decide)]
      · rw [if_neg e1, h.c q (x := 1) (by decide)]
  · rw [lkT_oth _ _ _ hx (by omega), lkT_oth _ _ _ hx (by omega)]
    exact h.2 q x hx hc
theorem Eqv.lk {s t : Nat → Nat} (on : Nat) (h : Eqv s t) : ∀ m, (∀ q, q < m → vv s q 12 ≤ 6) → (lk on s m).1 = (lk on t m).1 ∧ Eqv (lk on s m).2 (lk on t m).2
  | 0, _ => ⟨rfl, h⟩
  | m + 1, h6 => by
    obtain ⟨i1, i2⟩ := Eqv.lk on h m (fun q hq => h6 q (by omega))
    have e1 : Jvm.Pilot.@@N@@.cnd (Jvm.Pilot.@@N@@.lk on s m).2 m on = Jvm.Pilot.@@N@@.cnd (Jvm.Pilot.@@N@@.lk on t m).2 m on := i2.cnd (by rw [lk_oth _ _ (by decide) (by decide)]; exact h6 m (by omega))
    have e2 := i2.c m (x := 4) (by decide)
    unfold Jvm.Pilot.@@N@@.lk
    rw [← e1, ← e2]
    split
    · exact ⟨i1, i2⟩
    · exact ⟨by show _ + 1 = _ + 1; rw [i1], i2.lkT⟩
theorem Eqv.lks {s t : Nat → Nat} (h : Eqv s t) (h6 : ∀ q, q < s 1 → vv s q 12 ≤ 6) : (lks s).1 = (lks t).1 ∧ Eqv (lks s).2 (lks t).2 := by
  unfold Jvm.Pilot.@@N@@.lks
  rw [← h.onS, ← h.1 1 (by decide)]
  exact h.lk _ _ h6
theorem Eqv.rep {s t : Nat → Nat} {b : Bk} (h : Eqv s t) (h6 : ∀ q, q < s 1 → vv s q 12 ≤ 6) (hR : RepC s b) : RepC t b := by
  obtain ⟨r1, r2, r3, r4, r5⟩ := hR
  have hm : ∀ x v, x ≤ 12 → mk (pM t x v) (t 1) = mk (pM s x v) (s 1) := fun x v hx => by
    rw [h.1 1 (by decide)]
    exact mk_congr (fun i _ => by unfold pM; rw [h.c i hx])
  unfold RepC
  rw [hm 4 1 (by decide), hm 3 1 (by decide), hm 5 1 (by decide), hm 7 1 (by decide), hm 6 1 (by decide), hm 6 2 (by decide), ← h.1 0 (by decide), ← h.1 1 (by decide), ← h.1 2 (by decide)]
  refine ⟨r1, fun r hr => ?_, r3, fun r hr => ?_, r5⟩
  · rw [← h.c r (x := 0) (by decide), ← h.c r (x := 1) (by decide), ← h.c r (x := 2) (by decide), ← h.c r (x := 12) (by decide)]
    obtain ⟨a0, a1, a2, a3, a4⟩ := r2 r hr
    refine ⟨a0, a1, a2, a3, fun j hj => ?_⟩
    have := h6 r hr
    rw [← h.2 r (13 + 2 * j) (by omega) (Or.inr (by omega)), ← h.2 r (13 + 2 * j + 1) (by omega) (Or.inr (by omega))]
    exact a4 j hj
  · unfold duA duE at r4 ⊢
    rw [← h.c r (x := 8) (by decide), ← h.c r (x := 9) (by decide), ← h.c r (x := 10) (by decide), ← h.c r (x := 11) (by decide)]
    exact r4 r hr
theorem Eqv.sec {s t : Nat → Nat} (h : Eqv s t) (hS : SeC s) : SeC t := by
  intro r hr
  rw [← h.1 1 (by decide)] at hr
  rw [← h.c r (x := 8) (by decide), ← h.c r (x := 3) (by decide), ← h.c r (x := 4) (by decide), ← h.c r (x := 5) (by decide), ← h.c r (x := 10) (by decide)]
  exact hS r hr
theorem PRs.eqv {s0 s t g : Nat → Nat} {r k B C : Nat} (h : PRs s0 r s k g B) (h' : PRs s0 r t k g C) (hr : r < s0 1) : Eqv s t := by
  obtain ⟨hW, a1, a2, a3, a4⟩ := h
  obtain ⟨hW', b1, b2, b3, b4⟩ := h'
  refine ⟨fun j hj => by rw [a1 j hj, b1 j hj], fun q x hx hc => ?_⟩
  by_cases e : q ≠ r ∨ x < 12
  · rw [a2 q x hx e, b2 q x hx e]
  · have eq : q = r := by omega
    subst eq
    by_cases e12 : x = 12
    · subst e12
      rw [a3, b3]
    · rw [a3] at hc
      obtain ⟨j, hj, hxj⟩ : ∃ j, j < k ∧ (x = 13 + 2 * j ∨ x = 13 + 2 * j + 1) := ⟨(x - 13) / 2, by omega, by omega⟩
      have m1 := hW.m16 (r := q) (x := 13 + 2 * j) (by rw [a1 1 (by decide)]; exact hr) (by omega) (by omega)
      have m2 := hW'.m16 (r := q) (x := 13 + 2 * j) (by rw [b1 1 (by decide)]; exact hr) (by omega) (by omega)
      have e9 := (a4 j hj).symm.trans (b4 j hj)
      unfold cmb at e9
      rcases hxj with rfl | rfl <;> omega
/-- a row with that circuit -/
def ciS (s : Nat → Nat) (r k : Nat) (g : Nat → Nat) : Nat → Nat := fun j => if j = 3 + 25 * r + 12 then k else if 3 + 25 * r + 13 ≤ j ∧ j < 3 + 25 * r + 13 + 2 * k then (if (j - (3 + 25 * r + 13)) % 2 = 0 then g ((j - (3 + 25 * r + 13)) / 2) % 65536 else g ((j - (3 + 25 * r + 13)) / 2) / 65536) else s j
theorem PRs.ci {s g : Nat → Nat} {r k B : Nat} (hW : Wt s B) (hk : k ≤ 6) (hg : ∀ j, j < 6 → g j < 4294967296) : PRs s r (ciS s r k g) k g B := by
  have hv : ∀ q x, x < 25 → vv (ciS s r k g) q x = if q = r ∧ x = 12 then k else if q = r ∧ 13 ≤ x ∧ x < 13 + 2 * k then (if (x - 13) % 2 = 0 then g ((x - 13) / 2) % 65536 else g ((x - 13) / 2) / 65536) else vv s q x := fun q x hx => by
    unfold vv ciS
    by_cases e : q = r
    · subst e
      rw [show 3 + 25 * q + x - (3 + 25 * q + 13) = x - 13 by omega]
      by_cases e1 : x = 12
      · rw [if_pos (by omega), if_pos ⟨rfl, e1⟩]
      · rw [if_neg (show ¬ 3 + 25 * q + x = 3 + 25 * q + 12 by omega), if_neg (show ¬ (q = q ∧ x = 12) by omega)]
        by_cases e2 : 13 ≤ x ∧ x < 13 + 2 * k
        · rw [if_pos (show 3 + 25 * q + 13 ≤ 3 + 25 * q + x ∧ 3 + 25 * q + x < 3 + 25 * q + 13 + 2 * k by omega), if_pos (show q = q ∧ 13 ≤ x ∧ x < 13 + 2 * k from ⟨rfl, e2⟩)]
        · rw [if_neg (show ¬ (3 + 25 * q + 13 ≤ 3 + 25 * q + x ∧ 3 + 25 * q + x < 3 + 25 * q + 13 + 2 * k) by omega), if_neg (show ¬ (q = q ∧ 13 ≤ x ∧ x < 13 + 2 * k) by omega)]
    · rw [if_neg (by omega), if_neg (by omega), if_neg (by omega), if_neg (by omega)]
  have hh : ∀ j, j < 3 → ciS s r k g j = s j := fun j hj => by
    unfold ciS
    rw [if_neg (by omega), if_neg (by omega)]
  refine ⟨⟨by rw [hh 0 (by decide)]; exact hW.1, by rw [hh 1 (by decide)]; exact hW.2.1, by rw [hh 2 (by decide)]; exact hW.2.2.1, fun q hq x hx => ?_⟩, hh, fun q x hx hc => by rw [hv q x hx, if_neg (by omega), if_neg (by omega)], by rw [hv r 12 (by decide), if_pos ⟨rfl, rfl⟩], fun j hj => ?_⟩
  · rw [hh 1 (by decide)] at hq
    rw [hv q x hx]
    by_cases e1 : q = r ∧ x = 12
    · rw [if_pos e1, e1.2]
      simpa [bdF] using hk
    · rw [if_neg e1]
      by_cases e2 : q = r ∧ 13 ≤ x ∧ x < 13 + 2 * k
      · rw [if_pos e2]
        have h9 := hg ((x - 13) / 2) (by omega)
        have h8 : bdF B x = 65535 := by
          unfold bdF
          rw [if_neg (by omega), if_neg (by omega), if_neg (by omega), if_neg (by omega), if_neg (by omega), if_neg (by omega)]
        rw [h8]
        split <;> omega
      · rw [if_neg e2]
        exact hW.2.2.2 q hq x hx
  · have h9 := hg j (by omega)
    rw [hv r _ (by omega), if_neg (by omega), if_pos (by omega), if_pos (by omega), hv r _ (by omega), if_neg (by omega), if_pos (by omega), if_neg (by omega)]
    rw [show (13 + 2 * j - 13) / 2 = j by omega, show (13 + 2 * j + 1 - 13) / 2 = j by omega]
    unfold cmb
    omega
theorem st_pM {s : Nat → Nat} {B x : Nat} (hW : Wt s B) (hx : x = 3 ∨ x = 4 ∨ x = 5 ∨ x = 7 ∨ x = 10) : mk (pM s x 1) (s 1) = mk (stB s x) (s 1) := mk_congr (fun i hi => by
  have := hW.c1 hi hx
  unfold pM stB
  exact decide_eq_decide.mpr (by omega))
theorem itB_d (s : Nat → Nat) (r : Nat) : ∀ m, (decide (∃ j, j < m ∧ ¬ how3 s r j (8 + r) = 0)).toNat = itB s r m
  | 0 => by
    rw [decide_eq_false (by rintro ⟨j, hj, _⟩; omega)]
    rfl
  | m + 1 => by
    have ih := itB_d s r m
    unfold itB
    by_cases h : 0 < how3 s r m (8 + r)
    · rw [if_pos h, decide_eq_true ⟨m, by omega, by omega⟩]
      rfl
    · rw [if_neg h, ← ih]
      congr 1
      exact decide_eq_decide.mpr ⟨fun ⟨j, hj, hc⟩ => ⟨j, by
        rcases Nat.lt_or_ge j m with u | u
        · exact u
        · exact absurd (show 0 < how3 s r m (8 + r) by rw [show m = j by omega]; omega) h, hc⟩, fun ⟨j, hj, hc⟩ => ⟨j, by omega, hc⟩⟩
theorem evS_ok {s : Nat → Nat} {i e : Nat} : ∀ {m}, evS s i m = some e → e < m ∧ wtB s e = true
  | 0, h => by cases h
  | m + 1, h => by
    rw [evS_st] at h
    cases ho : evS s i m with
    | some e' =>
      rw [ho] at h
      obtain ⟨h1, h2⟩ := evS_ok ho
      cases h
      exact ⟨by omega, h2⟩
    | none =>
      rw [ho] at h
      simp only at h
      split at h
      · rename_i q
        cases h
        unfold evT at q
        rw [Bool.and_eq_true] at q
        exact ⟨by omega, q.1⟩
      · cases h
theorem wt_k3 {s : Nat → Nat} {e : Nat} (h : wtB s e = true) : e % 4 < 3 := by
  unfold wtB at h
  split at h
  · omega
  · rw [Bool.and_eq_true, decide_eq_true_eq] at h
    omega
set_option maxRecDepth 100000 in
set_option maxHeartbeats 4000000 in
theorem c_X5_count (l : Launch) (d : Nat) (hd : 1 ≤ d) {n : Nat} {w : Nat → AC} {M : Bk} {B : Nat} {b : Bk} {ol : Nat} {p : Nat → Bk} {g : Nat → Nat} {z R q : Nat} {c1 c2 : Bk} (hZ : WX n w b ol (M 5 0) p (M 4) (M 5 1) g z R q c1 c2) (hX : SX M B b ol p) (hBd : B < 800000000) (wh : Int32) : Sq l yX5_count cX5_count 2 (some .int) d [aR 0, aI wh] n w (QC (spCount M wh) (B + 4100) n w) := by
  refine Sp.of (plainFor_of_name (by decide)) (Nat.le_of_ble_eq_true rfl) (fun Γ hΓ hR => ?_)
  show Γ 0 [aR 0, aI wh] [] (0, 0) n w
  have hF0 : Fr 0 70 w w := Fr.rf
  obtain ⟨hR0, hS, hC, hW, hp6, hG, hT60, hT256⟩ := id hX
  have h8 := hW.2.1
  refine qa_iload_n hΓ dX5_count_0 rfl ?_
  by_cases hT : nI 0 ≤ wh ∧ wh ≤ nI 9
  · obtain ⟨j, hj1, hj2, rfl⟩ := rng (by decide) hT (by decide)
    rcases (show j = 0 ∨ j = 1 ∨ j = 2 ∨ j = 3 ∨ j = 4 ∨ j = 5 ∨ j = 6 ∨ j = 7 ∨ j = 8 ∨ j = 9 by omega) with rfl | rfl | rfl | rfl | rfl | rfl | rfl | rfl | rfl | rfl
    · refine qa_tabIn (off := 55) (tgt := 56) hΓ dX5_count_1 (by decide +kernel) (by decide +kernel) (by decide +kernel) (by decide) ?_
      refine qa_aload_n hΓ dX5_count_56 rfl ?_
      refine qa_get hΓ dX5_count_57 fk_X5_12 hZ.lt hZ.o rfl ?_
      refine qa_getN hΓ dX5_count_60 fn_X5_47 hZ.now.lt hZ.now.o rfl ?_
      exact qr_i hR dX5_count_63 ⟨_, rfl, hF0, fun r2 M' h => by
        unfold spCount at h
        rw [if_pos hT] at h
        exact ⟨h.1.trans (congrArg nI (hR0.1.1).symm), CW.sm hX hZ h.2⟩⟩
    · refine qa_tabIn (off := 63) (tgt := 64) hΓ dX5_count_1 (by decide +kernel) (by decide +kernel) (by decide +kernel) (by decide) ?_
      refine qa_aload_n hΓ dX5_count_64 rfl ?_
      refine qa_get hΓ dX5_count_65 fk_X5_12 hZ.lt hZ.o rfl ?_
      refine qa_getN hΓ dX5_count_68 fn_X5_149 hZ.now.lt hZ.now.o rfl ?_
      exact qr_i hR dX5_count_71 ⟨_, rfl, hF0, fun r2 M' h => by
        unfold spCount at h
        rw [if_pos hT] at h
        exact ⟨h.1.trans (congrArg nI (hR0.1.2.1).symm), CW.sm hX hZ h.2⟩⟩
    · refine qa_tabIn (off := 71) (tgt := 72) hΓ dX5_count_1 (by decide +kernel) (by decide +kernel) (by decide +kernel) (by decide) ?_
      refine qa_aload_n hΓ dX5_count_72 rfl ?_
      refine qa_get hΓ dX5_count_73 fk_X5_12 hZ.lt hZ.o rfl ?_
      refine qc_V1 hΓ dX5_count_76 lk_X5_156 vw_X0_waiting (by omega) (c_X0_waiting l (d - 1) hZ.now hR0 hW (by omega)) rfl hZ.now.lt hZ.now.o rfl rfl (Nat.le_of_ble_eq_true rfl) ?_
      exact qr_i hR dX5_count_79 ⟨_, rfl, hF0, fun r2 M' h => by
        unfold spCount at h
        rw [if_pos hT] at h
        exact ⟨h.1, CW.sm hX hZ h.2⟩⟩
    · refine qa_tabIn (off := 79) (tgt := 80) hΓ dX5_count_1 (by decide +kernel) (by decide +kernel) (by decide +kernel) (by decide) ?_
      refine qa_aload_n hΓ dX5_count_80 rfl ?_
      refine qa_get hΓ dX5_count_81 fk_X5_12 hZ.lt hZ.o rfl ?_
      refine qa_getN hΓ dX5_count_84 fn_X5_107 hZ.now.lt hZ.now.o rfl ?_
      exact qr_i hR dX5_count_87 ⟨_, rfl, hF0, fun r2 M' h => by
        unfold spCount at h
        rw [if_pos hT] at h
        exact ⟨h.1.trans (congrArg nI (hR0.1.2.2).symm), CW.sm hX hZ h.2⟩⟩
    · refine qa_tabIn (off := 87) (tgt := 88) hΓ dX5_count_1 (by decide +kernel) (by decide +kernel) (by decide +kernel) (by decide) ?_
      refine qa_aload_n hΓ dX5_count_88 rfl ?_
      refine qa_get hΓ dX5_count_89 fk_X5_12 hZ.lt hZ.o rfl ?_
      refine qa_getN hΓ dX5_count_92 fn_X5_160 hZ.now.lt hZ.now.o rfl ?_
      exact qr_i hR dX5_count_95 ⟨_, rfl, hF0, fun r2 M' h => by
        unfold spCount at h
        rw [if_pos hT] at h
        exact ⟨h.1.trans (congrArg nI (hR0.2.2.1.1.trans (st_pM hW (by decide))).symm), CW.sm hX hZ h.2⟩⟩
    · refine qa_tabIn (off := 95) (tgt := 96) hΓ dX5_count_1 (by decide +kernel) (by decide +kernel) (by decide +kernel) (by decide) ?_
      refine qa_aload_n hΓ dX5_count_96 rfl ?_
      refine qa_get hΓ dX5_count_97 fk_X5_12 hZ.lt hZ.o rfl ?_
      refine qa_getN hΓ dX5_count_100 fn_X5_163 hZ.now.lt hZ.now.o rfl ?_
      exact qr_i hR dX5_count_103 ⟨_, rfl, hF0, fun r2 M' h => by
        unfold spCount at h
        rw [if_pos hT] at h
        exact ⟨h.1.trans (congrArg nI (hR0.2.2.1.2.1.trans (st_pM hW (by decide))).symm), CW.sm hX hZ h.2⟩⟩
    · refine qa_tabIn (off := 103) (tgt := 104) hΓ dX5_count_1 (by decide +kernel) (by decide +kernel) (by decide +kernel) (by decide) ?_
      refine qa_aload_n hΓ dX5_count_104 rfl ?_
      refine qa_get hΓ dX5_count_105 fk_X5_12 hZ.lt hZ.o rfl ?_
      refine qc_V1 hΓ dX5_count_108 lk_X5_166 vw_X0_closedContacts (by omega) (c_X0_closedContacts l (d - 1) hZ.now hR0 hW (by omega)) rfl hZ.now.lt hZ.now.o rfl rfl (Nat.le_of_ble_eq_true rfl) ?_
      exact qr_i hR dX5_count_111 ⟨_, rfl, hF0, fun r2 M' h => by
        unfold spCount at h
        rw [if_pos hT] at h
        exact ⟨h.1, CW.sm hX hZ h.2⟩⟩
    · refine qa_tabIn (off := 111) (tgt := 112) hΓ dX5_count_1 (by decide +kernel) (by decide +kernel) (by decide +kernel) (by decide) ?_
      refine qa_aload_n hΓ dX5_count_112 rfl ?_
      refine qa_get hΓ dX5_count_113 fk_X5_12 hZ.lt hZ.o rfl ?_
      refine qa_getN hΓ dX5_count_116 fn_X5_169 hZ.now.lt hZ.now.o rfl ?_
      exact qr_i hR dX5_count_119 ⟨_, rfl, hF0, fun r2 M' h => by
        unfold spCount at h
        rw [if_pos hT] at h
        exact ⟨h.1.trans (congrArg nI (hR0.2.2.1.2.2.1.trans (st_pM hW (by decide))).symm), CW.sm hX hZ h.2⟩⟩
    · refine qa_tabIn (off := 119) (tgt := 120) hΓ dX5_count_1 (by decide +kernel) (by decide +kernel) (by decide +kernel) (by decide) ?_
      refine qa_aload_n hΓ dX5_count_120 rfl ?_
      refine qa_get hΓ dX5_count_121 fk_X5_26 hZ.lt hZ.o rfl ?_
      refine qa_getN hΓ dX5_count_124 fn_X5_82 hZ.text.lt hZ.text.o rfl ?_
      exact qr_i hR dX5_count_127 ⟨_, rfl, hF0, fun r2 M' h => by
        unfold spCount at h
        rw [if_pos hT] at h
        exact ⟨h.1, CW.sm hX hZ h.2⟩⟩
    · refine qa_tabIn (off := 127) (tgt := 128) hΓ dX5_count_1 (by decide +kernel) (by decide +kernel) (by decide +kernel) (by decide) ?_
      refine qa_aload_n hΓ dX5_count_128 rfl ?_
      refine qa_get hΓ dX5_count_129 fk_X5_19 hZ.lt hZ.o rfl ?_
      refine qa_getN hΓ dX5_count_132 fn_X5_172 hZ.past.lt hZ.past.o rfl ?_
      exact qr_i hR dX5_count_135 ⟨_, rfl, hF0, fun r2 M' h => by
        unfold spCount at h
        rw [if_pos hT] at h
        exact ⟨h.1, CW.sm hX hZ h.2⟩⟩
  · refine qa_tabOut (tgt := 136) hΓ dX5_count_1 (toInt_out hT (by decide) (by decide)) (by decide) ?_
    refine qa_iconst (v := (-1)) hΓ dX5_count_136 ic_m1 ?_
    exact qr_i hR dX5_count_137 ⟨_, rfl, hF0, fun r2 M' h => by
      unfold spCount at h
      rw [if_neg hT] at h
      exact ⟨h.1, CW.sm hX hZ h.2⟩⟩

set_option maxRecDepth 100000 in
set_option maxHeartbeats 4000000 in
theorem c_X5_relay (l : Launch) (d : Nat) (hd : 3 ≤ d) {n : Nat} {w : Nat → AC} {M : Bk} {B : Nat} {b : Bk} {ol : Nat} {p : Nat → Bk} {g : Nat → Nat} {z R q : Nat} {c1 c2 : Bk} (hZ : WX n w b ol (M 5 0) p (M 4) (M 5 1) g z R q c1 c2) (hX : SX M B b ol p) (hBd : B < 800000000) (rl wh : Int32) : Sq l yX5_relay cX5_relay 3 (some .int) d [aR 0, aI rl, aI wh] n w (QC (spRelay M rl wh) (B + 4100) n w) := by
  refine Sp.of (plainFor_of_name (by decide)) (Nat.le_of_ble_eq_true rfl) (fun Γ hΓ hR => ?_)
  show Γ 0 [aR 0, aI rl, aI wh] [] (0, 0) n w
  have hF0 : Fr 0 70 w w := Fr.rf
  obtain ⟨hR0, hS, hC, hW, hp6, hG, hT60, hT256⟩ := id hX
  have h8 := hW.2.1
  refine qa_aload_n hΓ dX5_relay_0 rfl ?_
  refine qa_get hΓ dX5_relay_1 fk_X5_12 hZ.lt hZ.o rfl ?_
  refine qa_iload_n hΓ dX5_relay_4 rfl ?_
  refine qc_V1 hΓ dX5_relay_5 lk_X5_59 vw_X0_has (by omega) (c_X0_has l (d - 1) (by omega) hZ.now _) rfl hZ.now.lt hZ.now.o rfl rfl (Nat.le_of_ble_eq_true rfl) ?_
  rw [hR0.1.1]
  refine qb_if_ne (tgt := 13) hΓ dX5_relay_8 (by decide) (fun h_8 => ?_) (fun h_8 => ?_)
  · obtain ⟨r, hr, rfl⟩ := isR_of (by omega) (of_decide_eq_true h_8)
    have tr : tn (nI r) = r := tn_nI (by omega)
    obtain ⟨a0, a1, a2, a3, a4⟩ := hR0.2.1 r hr
    have e66 := hR0.2.2.1.2.2.2.1
    have hbs : b 6 6 < 65536 := by rw [e66]; exact mk_16' _ h8
    refine qa_iload_n hΓ dX5_relay_13 rfl ?_
    by_cases hT : nI 0 ≤ wh ∧ wh ≤ nI 7
    · obtain ⟨j, hj1, hj2, rfl⟩ := rng (by decide) hT (by decide)
      rcases (show j = 0 ∨ j = 1 ∨ j = 2 ∨ j = 3 ∨ j = 4 ∨ j = 5 ∨ j = 6 ∨ j = 7 by omega) with rfl | rfl | rfl | rfl | rfl | rfl | rfl | rfl
      · refine qa_tabIn (off := 46) (tgt := 60) hΓ dX5_relay_14 (by decide +kernel) (by decide +kernel) (by decide +kernel) (by decide) ?_
        refine qa_aload_n hΓ dX5_relay_60 rfl ?_
        refine qa_get hΓ dX5_relay_61 fk_X5_12 hZ.lt hZ.o rfl ?_
        refine qa_getN hΓ dX5_relay_64 fn_X5_173 hZ.now.lt hZ.now.o rfl ?_
        refine qa_iload_n hΓ dX5_relay_67 rfl ?_
        refine qc_S1 hΓ dX5_relay_68 lk_X5_176 vw_X5_at (by omega) (c_X5_at l (d - 1) (hZ.now.lti (i := 1) (by decide)) hZ.now.a0 _ (by omega) (by decide)) rfl rfl (Nat.le_of_ble_eq_true rfl) ?_
        exact qr_i hR dX5_relay_71 ⟨_, rfl, hF0, fun r2 M' h => by
          unfold spRelay at h
          rw [if_pos ⟨of_decide_eq_true h_8, hT⟩, tr] at h
          exact ⟨h.1.trans (congrArg nI a0.symm), CW.sm hX hZ h.2⟩⟩
      · refine qa_tabIn (off := 58) (tgt := 72) hΓ dX5_relay_14 (by decide +kernel) (by decide +kernel) (by decide +kernel) (by decide) ?_
        refine qa_aload_n hΓ dX5_relay_72 rfl ?_
        refine qa_get hΓ dX5_relay_73 fk_X5_12 hZ.lt hZ.o rfl ?_
        refine qa_getN hΓ dX5_relay_76 fn_X5_180 hZ.now.lt hZ.now.o rfl ?_
        refine qa_iload_n hΓ dX5_relay_79 rfl ?_
        refine qc_S1 hΓ dX5_relay_80 lk_X5_176 vw_X5_at (by omega) (c_X5_at l (d - 1) (hZ.now.lti (i := 2) (by decide)) hZ.now.a1 _ (by omega) (by decide)) rfl rfl (Nat.le_of_ble_eq_true rfl) ?_
        exact qr_i hR dX5_relay_83 ⟨_, rfl, hF0, fun r2 M' h => by
          unfold spRelay at h
          rw [if_pos ⟨of_decide_eq_true h_8, hT⟩, tr] at h
          exact ⟨h.1.trans (congrArg nI a1.symm), CW.sm hX hZ h.2⟩⟩
      · refine qa_tabIn (off := 70) (tgt := 84) hΓ dX5_relay_14 (by decide +kernel) (by decide +kernel) (by decide +kernel) (by decide) ?_
        refine qa_aload_n hΓ dX5_relay_84 rfl ?_
        refine qa_get hΓ dX5_relay_85 fk_X5_12 hZ.lt hZ.o rfl ?_
        refine qa_getN hΓ dX5_relay_88 fn_X5_183 hZ.now.lt hZ.now.o rfl ?_
        refine qa_iload_n hΓ dX5_relay_91 rfl ?_
        refine qc_S1 hΓ dX5_relay_92 lk_X5_176 vw_X5_at (by omega) (c_X5_at l (d - 1) (hZ.now.lti (i := 3) (by decide)) hZ.now.a2 _ (by omega) (by decide)) rfl rfl (Nat.le_of_ble_eq_true rfl) ?_
        exact qr_i hR dX5_relay_95 ⟨_, rfl, hF0, fun r2 M' h => by
          unfold spRelay at h
          rw [if_pos ⟨of_decide_eq_true h_8, hT⟩, tr] at h
          exact ⟨h.1.trans (congrArg nI a2.symm), CW.sm hX hZ h.2⟩⟩
      · refine qa_tabIn (off := 82) (tgt := 96) hΓ dX5_relay_14 (by decide +kernel) (by decide +kernel) (by decide +kernel) (by decide) ?_
        refine qa_aload_n hΓ dX5_relay_96 rfl ?_
        refine qa_get hΓ dX5_relay_97 fk_X5_12 hZ.lt hZ.o rfl ?_
        refine qa_iload_n hΓ dX5_relay_100 rfl ?_
        refine qc_V1 hΓ dX5_relay_101 lk_X5_67 vw_X0_branchesOf (by omega) (c_X0_branchesOf l (d - 1) (by omega) hZ.now r (by omega)) rfl hZ.now.lt hZ.now.o rfl rfl (Nat.le_of_ble_eq_true rfl) ?_
        rw [(hR0.2.1 r hr).2.2.2.1]
        exact qr_i hR dX5_relay_104 ⟨_, rfl, hF0, fun r2 M' h => by
          unfold spRelay at h
          rw [if_pos ⟨of_decide_eq_true h_8, hT⟩, tr] at h
          exact ⟨h.1, CW.sm hX hZ h.2⟩⟩
      · refine qa_tabIn (off := 91) (tgt := 105) hΓ dX5_relay_14 (by decide +kernel) (by decide +kernel) (by decide +kernel) (by decide) ?_
        refine qa_aload_n hΓ dX5_relay_105 rfl ?_
        refine qa_get hΓ dX5_relay_106 fk_X5_12 hZ.lt hZ.o rfl ?_
        refine qa_iload_n hΓ dX5_relay_109 rfl ?_
        refine qc_V1 hΓ dX5_relay_110 lk_X5_117 vw_X0_faultOf (by omega) (c_X0_faultOf l (d - 1) (by omega) hZ.now hR0 hW (by omega) r hr) rfl hZ.now.lt hZ.now.o rfl rfl (Nat.le_of_ble_eq_true rfl) ?_
        exact qr_i hR dX5_relay_113 ⟨_, rfl, hF0, fun r2 M' h => by
          unfold spRelay at h
          rw [if_pos ⟨of_decide_eq_true h_8, hT⟩, tr] at h
          exact ⟨h.1, CW.sm hX hZ h.2⟩⟩
      · refine qa_tabIn (off := 100) (tgt := 114) hΓ dX5_relay_14 (by decide +kernel) (by decide +kernel) (by decide +kernel) (by decide) ?_
        refine qa_aload_n hΓ dX5_relay_114 rfl ?_
        refine qa_get hΓ dX5_relay_115 fk_X5_12 hZ.lt hZ.o rfl ?_
        refine qa_getN hΓ dX5_relay_118 fn_X5_124 hZ.now.lt hZ.now.o rfl ?_
        refine qa_iload_n hΓ dX5_relay_121 rfl ?_
        refine qc_S1 hΓ dX5_relay_122 lk_X5_127 vw_X5_bitOf (by omega) (c_X5_bitOf l (d - 1) _ _ (by omega) (by omega)) rfl rfl (Nat.le_of_ble_eq_true rfl) ?_
        rw [pbit hW hr (by decide) e66]
        exact qr_i hR dX5_relay_125 ⟨_, rfl, hF0, fun r2 M' h => by
          unfold spRelay at h
          rw [if_pos ⟨of_decide_eq_true h_8, hT⟩, tr] at h
          exact ⟨h.1, CW.sm hX hZ h.2⟩⟩
      · refine qa_tabIn (off := 112) (tgt := 126) hΓ dX5_relay_14 (by decide +kernel) (by decide +kernel) (by decide +kernel) (by decide) ?_
        refine qa_aload_n hΓ dX5_relay_126 rfl ?_
        refine qa_get hΓ dX5_relay_127 fk_X5_12 hZ.lt hZ.o rfl ?_
        refine qa_iload_n hΓ dX5_relay_130 rfl ?_
        refine qa_bipush (v := nI 8) hΓ dX5_relay_131 bp_8 ?_
        refine qa_iload_n hΓ dX5_relay_133 rfl ?_
        refine qz_iadd hΓ dX5_relay_134 ?_
        refine qc_V1 hΓ dX5_relay_135 lk_X5_186 vw_X0_concerns (by omega) (c_X0_concerns l (d - 1) (by omega) hZ.now hR0 hW (by omega) r (8 + r) hr (by omega)) rfl hZ.now.lt hZ.now.o rfl rfl (Nat.le_of_ble_eq_true rfl) ?_
        refine qb_if_eq (tgt := 145) hΓ dX5_relay_138 (by decide) (fun h_138 => ?_) (fun h_138 => ?_)
        · refine qa_iconst (v := nI 0) hΓ dX5_relay_145 ic_0 ?_
          exact qr_i hR dX5_relay_146 ⟨_, rfl, hF0, fun r2 M' h => by
            unfold spRelay at h
            rw [if_pos ⟨of_decide_eq_true h_8, hT⟩, tr] at h
            exact ⟨h.1.trans (congrArg nI (by show itB (M 0) r (vv (M 0) r 12) = _; rw [← itB_d, h_138]; rfl)), CW.sm hX hZ h.2⟩⟩
        · refine qa_iconst (v := nI 1) hΓ dX5_relay_141 ic_1 ?_
          refine qa_goto (tgt := 146) hΓ dX5_relay_142 (by decide) ?_
          exact qr_i hR dX5_relay_146 ⟨_, rfl, hF0, fun r2 M' h => by
            unfold spRelay at h
            rw [if_pos ⟨of_decide_eq_true h_8, hT⟩, tr] at h
            exact ⟨h.1.trans (congrArg nI (by show itB (M 0) r (vv (M 0) r 12) = _; rw [← itB_d, h_138]; rfl)), CW.sm hX hZ h.2⟩⟩
      · refine qa_tabIn (off := 133) (tgt := 147) hΓ dX5_relay_14 (by decide +kernel) (by decide +kernel) (by decide +kernel) (by decide) ?_
        refine qa_aload_n hΓ dX5_relay_147 rfl ?_
        refine qa_get hΓ dX5_relay_148 fk_X5_12 hZ.lt hZ.o rfl ?_
        refine qa_iload_n hΓ dX5_relay_151 rfl ?_
        refine qa_aload_n hΓ dX5_relay_152 rfl ?_
        refine qa_get hΓ dX5_relay_153 fk_X5_12 hZ.lt hZ.o rfl ?_
        refine qc_V1 hΓ dX5_relay_156 lk_X5_189 vw_X0_failing (by omega) (c_X0_failing l (d - 1) (by omega) hZ.now hR0 hW (by omega)) rfl hZ.now.lt hZ.now.o rfl rfl (Nat.le_of_ble_eq_true rfl) ?_
        refine qc_V1 hΓ dX5_relay_159 lk_X5_192 vw_X0_conducts (by omega) (c_X0_conducts l (d - 1) (by omega) hZ.now hR0 hW (by omega) r (onS (M 0)) hr (on_lt hW)) rfl hZ.now.lt hZ.now.o rfl rfl (Nat.le_of_ble_eq_true rfl) ?_
        refine qb_if_eq (tgt := 169) hΓ dX5_relay_162 (by decide) (fun h_162 => ?_) (fun h_162 => ?_)
        · refine qa_iconst (v := nI 0) hΓ dX5_relay_169 ic_0 ?_
          exact qr_i hR dX5_relay_170 ⟨_, rfl, hF0, fun r2 M' h => by
            unfold spRelay at h
            rw [if_pos ⟨of_decide_eq_true h_8, hT⟩, tr] at h
            exact ⟨h.1.trans (congrArg nI (by show (cnd (M 0) r (onS (M 0))).toNat = _; rw [h_162]; rfl)), CW.sm hX hZ h.2⟩⟩
        · refine qa_iconst (v := nI 1) hΓ dX5_relay_165 ic_1 ?_
          refine qa_goto (tgt := 170) hΓ dX5_relay_166 (by decide) ?_
          exact qr_i hR dX5_relay_170 ⟨_, rfl, hF0, fun r2 M' h => by
            unfold spRelay at h
            rw [if_pos ⟨of_decide_eq_true h_8, hT⟩, tr] at h
            exact ⟨h.1.trans (congrArg nI (by show (cnd (M 0) r (onS (M 0))).toNat = _; rw [h_162]; rfl)), CW.sm hX hZ h.2⟩⟩
    · refine qa_tabOut (tgt := 171) hΓ dX5_relay_14 (toInt_out hT (by decide) (by decide)) (by decide) ?_
      refine qa_iconst (v := (-1)) hΓ dX5_relay_171 ic_m1 ?_
      exact qr_i hR dX5_relay_172 ⟨_, rfl, hF0, fun r2 M' h => by
        unfold spRelay at h
        rw [if_neg (fun q => hT q.2)] at h
        exact ⟨h.1, CW.sm hX hZ h.2⟩⟩
  · refine qa_iconst (v := (-1)) hΓ dX5_relay_11 ic_m1 ?_
    exact qr_i hR dX5_relay_12 ⟨_, rfl, hF0, fun r2 M' h => by
      unfold spRelay at h
      rw [if_neg (fun q => of_decide_eq_false h_8 q.1)] at h
      exact ⟨h.1, CW.sm hX hZ h.2⟩⟩

set_option maxRecDepth 100000 in
set_option maxHeartbeats 4000000 in
theorem c_X5_condition (l : Launch) (d : Nat) (hd : 3 ≤ d) {n : Nat} {w : Nat → AC} {M : Bk} {B : Nat} {b : Bk} {ol : Nat} {p : Nat → Bk} {g : Nat → Nat} {z R q : Nat} {c1 c2 : Bk} (hZ : WX n w b ol (M 5 0) p (M 4) (M 5 1) g z R q c1 c2) (hX : SX M B b ol p) (hBd : B < 800000000) (rl br su : Int32) : Sq l yX5_condition cX5_condition 4 (some .int) d [aR 0, aI rl, aI br, aI su] n w (QC (spCond M rl br su) (B + 4100) n w) := by
  refine Sp.of (plainFor_of_name (by decide)) (Nat.le_of_ble_eq_true rfl) (fun Γ hΓ hR => ?_)
  show Γ 0 [aR 0, aI rl, aI br, aI su] [] (0, 0) n w
  have hF0 : Fr 0 70 w w := Fr.rf
  obtain ⟨hR0, hS, hC, hW, hp6, hG, hT60, hT256⟩ := id hX
  have h8 := hW.2.1
  refine qa_aload_n hΓ dX5_condition_0 rfl ?_
  refine qa_get hΓ dX5_condition_1 fk_X5_12 hZ.lt hZ.o rfl ?_
  refine qa_iload_n hΓ dX5_condition_4 rfl ?_
  refine qc_V1 hΓ dX5_condition_5 lk_X5_59 vw_X0_has (by omega) (c_X0_has l (d - 1) (by omega) hZ.now _) rfl hZ.now.lt hZ.now.o rfl rfl (Nat.le_of_ble_eq_true rfl) ?_
  rw [hR0.1.1]
  refine qb_if_eq (tgt := 29) hΓ dX5_condition_8 (by decide) (fun h_8 => ?_) (fun h_8 => ?_)
  · refine qa_iconst (v := (-1)) hΓ dX5_condition_29 ic_m1 ?_
    exact qr_i hR dX5_condition_30 ⟨_, rfl, hF0, fun r2 M' h => by
      unfold spCond at h
      
      rw [if_neg (fun q => by first | exact of_decide_eq_false h_8 q.1 | exact of_decide_eq_false h_26 q.2.1 | exact of_decide_eq_false h_38 q.2.2)] at h
      exact ⟨h.1, CW.sm hX hZ h.2⟩⟩
  · obtain ⟨r, hr, rfl⟩ := isR_of (by omega) (of_decide_eq_true h_8)
    have tr : tn (nI r) = r := tn_nI (by omega)
    refine qa_iload_n hΓ dX5_condition_11 rfl ?_
    refine qa_iconst (v := nI 0) hΓ dX5_condition_12 ic_0 ?_
    refine qa_aload_n hΓ dX5_condition_13 rfl ?_
    refine qa_get hΓ dX5_condition_14 fk_X5_12 hZ.lt hZ.o rfl ?_
    refine qa_iload_n hΓ dX5_condition_17 rfl ?_
    refine qc_V1 hΓ dX5_condition_18 lk_X5_67 vw_X0_branchesOf (by omega) (c_X0_branchesOf l (d - 1) (by omega) hZ.now r (by omega)) rfl hZ.now.lt hZ.now.o rfl rfl (Nat.le_of_ble_eq_true rfl) ?_
    rw [(hR0.2.1 r hr).2.2.2.1]
    refine qa_iconst (v := nI 1) hΓ dX5_condition_21 ic_1 ?_
    refine qa_isub hΓ dX5_condition_22 ?_
    refine qc_S1 hΓ dX5_condition_23 lk_X5_71 vw_X5_isWithin (by omega) (c_X5_isWithin l (d - 1) _ _ _) rfl rfl (Nat.le_of_ble_eq_true rfl) ?_
    refine qb_if_ne (tgt := 31) hΓ dX5_condition_26 (by decide) (fun h_26 => ?_) (fun h_26 => ?_)
    · refine qa_iload_n hΓ dX5_condition_31 rfl ?_
      refine qa_iconst (v := nI 0) hΓ dX5_condition_32 ic_0 ?_
      refine qa_bipush (v := nI 15) hΓ dX5_condition_33 bp_15 ?_
      refine qc_S1 hΓ dX5_condition_35 lk_X5_71 vw_X5_isWithin (by omega) (c_X5_isWithin l (d - 1) _ _ _) rfl rfl (Nat.le_of_ble_eq_true rfl) ?_
      refine qb_if_ne (tgt := 43) hΓ dX5_condition_38 (by decide) (fun h_38 => ?_) (fun h_38 => ?_)
      · have hm6 := hW.m6 hr
        obtain ⟨j, hj, rfl⟩ := isR_of (by omega) (of_decide_eq_true h_26)
        obtain ⟨x, hx1, hx2, rfl⟩ := rng (by decide) (of_decide_eq_true h_38) (by decide)
        have e4 := (hR0.2.1 r hr).2.2.2.2 j hj
        have hgl : b 4 (r * 6 + j) < 4294967296 := by rw [e4]; exact cmb_lt (hW.m16 hr (by omega) (by omega)) (hW.m16 hr (by omega) (by omega))
        refine qa_aload_n hΓ dX5_condition_43 rfl ?_
        refine qa_get hΓ dX5_condition_44 fk_X5_12 hZ.lt hZ.o rfl ?_
        refine qa_iload_n hΓ dX5_condition_47 rfl ?_
        refine qa_iload_n hΓ dX5_condition_48 rfl ?_
        refine qc_V1 hΓ dX5_condition_49 lk_X5_195 vw_X0_branchAt (by omega) (c_X0_branchAt l (d - 1) (by omega) hZ.now r j (by omega) (by omega)) rfl hZ.now.lt hZ.now.o rfl rfl (Nat.le_of_ble_eq_true rfl) ?_
        refine qa_iload_n hΓ dX5_condition_52 rfl ?_
        refine qc_S1 hΓ dX5_condition_53 lk_X5_198 vw_X1_howOf (by omega) (c_X1_howOf l (d - 1) (by omega) _ x hgl (by omega)) rfl rfl (Nat.le_of_ble_eq_true rfl) ?_
        rw [e4, how_cmb hW hr (by omega)]
        exact qr_i hR dX5_condition_56 ⟨_, rfl, hF0, fun r2 M' h => by
          unfold spCond at h
          rw [tr, if_pos ⟨of_decide_eq_true h_8, of_decide_eq_true h_26, of_decide_eq_true h_38⟩, tn_nI (by omega), tn_nI (by omega)] at h
          exact ⟨h.1, CW.sm hX hZ h.2⟩⟩
      · refine qa_iconst (v := (-1)) hΓ dX5_condition_41 ic_m1 ?_
        exact qr_i hR dX5_condition_42 ⟨_, rfl, hF0, fun r2 M' h => by
          unfold spCond at h
          rw [tr] at h
          rw [if_neg (fun q => by first | exact of_decide_eq_false h_8 q.1 | exact of_decide_eq_false h_26 q.2.1 | exact of_decide_eq_false h_38 q.2.2)] at h
          exact ⟨h.1, CW.sm hX hZ h.2⟩⟩
    · refine qa_iconst (v := (-1)) hΓ dX5_condition_29 ic_m1 ?_
      exact qr_i hR dX5_condition_30 ⟨_, rfl, hF0, fun r2 M' h => by
        unfold spCond at h
        rw [tr] at h
        rw [if_neg (fun q => by first | exact of_decide_eq_false h_8 q.1 | exact of_decide_eq_false h_26 q.2.1 | exact of_decide_eq_false h_38 q.2.2)] at h
        exact ⟨h.1, CW.sm hX hZ h.2⟩⟩
end
section
/-! The class: events told, outcomes, races, hazards -/
theorem nxt_n {s : Nat → Nat} {rev : Bool} : ∀ m, nxt s rev m = none ↔ ∀ e, e < m → wtB s e = false
  | 0 => ⟨fun _ e he => absurd he (by omega), fun _ => rfl⟩
  | m + 1 => by
    have ih := nxt_n (s := s) (rev := rev) m
    unfold nxt
    constructor
    · intro h
      cases ho : nxt s rev m with
      | some q => rw [ho] at h; split at h <;> cases h
      | none =>
        rw [ho] at h
        have hm : wtB s m = false := by
          cases hw : wtB s m with
          | false => rfl
          | true =>
            rw [hw, show ahO s m rev none = true from rfl] at h
            cases h
        intro e he
        rcases Nat.lt_or_ge e m with u | u
        · exact ih.mp ho e u
        · rw [show e = m by omega]
          exact hm
    · intro h
      rw [h m (by omega)]
      exact ih.mpr (fun e he => h e (by omega))
theorem nx_rev (s : Nat → Nat) (rev : Bool) : nx s false = none ↔ nx s rev = none := (nxt_n _).trans (nxt_n _).symm
theorem fd_C {s : Nat → Nat} {b : Bk} {B : Nat} (h : RepC s b) (hW : Wt s B) : b 6 3 = fdS s := h.2.2.1.1.trans (st_pM hW (by decide))
theorem stl1_n {s : Nat → Nat} (h : nx s false = none) : stl s false 1 = (0, s) := stl_none _ h
theorem stl1_s {s : Nat → Nat} {e : Nat} (h : nx s false = some e) : stl s false 1 = (1, hap s e) := by
  rw [stl_some 0 h]
  rfl
set_option maxRecDepth 100000 in
set_option maxHeartbeats 4000000 in
theorem c_X5_event (l : Launch) (d : Nat) (hd : 3 ≤ d) {n : Nat} {w : Nat → AC} {M : Bk} {B : Nat} {b : Bk} {ol : Nat} {p : Nat → Bk} {g : Nat → Nat} {z R q : Nat} {c1 c2 : Bk} (hZ : WX n w b ol (M 5 0) p (M 4) (M 5 1) g z R q c1 c2) (hX : SX M B b ol p) (hBd : B < 800000000) (iv pt : Int32) : Sq l yX5_event cX5_event 4 (some .int) d [aR 0, aI iv, aI pt] n w (QC (spEvent M iv pt) (B + 4100) n w) := by
  refine Sp.of (plainFor_of_name (by decide)) (Nat.le_of_ble_eq_true rfl) (fun Γ hΓ hR => ?_)
  show Γ 0 [aR 0, aI iv, aI pt, none] [] (0, 0) n w
  have hF0 : Fr 0 70 w w := Fr.rf
  obtain ⟨hR0, hS, hC, hW, hp6, hG, hT60, hT256⟩ := id hX
  have h8 := hW.2.1
  refine qa_iload_n hΓ dX5_event_0 rfl ?_
  refine qa_if_lt (tgt := 13) hΓ dX5_event_1 (by decide) (fun h_1 => ?_) (fun h_1 => ?_)
  · refine qa_iconst (v := (-1)) hΓ dX5_event_13 ic_m1 ?_
    exact qr_i hR dX5_event_14 ⟨_, rfl, hF0, fun r2 M' h => by
      unfold spEvent at h
      rw [if_neg (fun q => by first | exact absurd q.1 (Int32.not_le.mpr h_1) | exact of_decide_eq_false h_10 q.2)] at h
      exact ⟨h.1, CW.sm hX hZ h.2⟩⟩
  · refine qa_iload_n hΓ dX5_event_4 rfl ?_
    refine qa_iconst (v := nI 0) hΓ dX5_event_5 ic_0 ?_
    refine qa_iconst (v := nI 2) hΓ dX5_event_6 ic_2 ?_
    refine qc_S1 hΓ dX5_event_7 lk_X5_71 vw_X5_isWithin (by omega) (c_X5_isWithin l (d - 1) _ _ _) rfl rfl (Nat.le_of_ble_eq_true rfl) ?_
    refine qb_if_ne (tgt := 15) hΓ dX5_event_10 (by decide) (fun h_10 => ?_) (fun h_10 => ?_)
    · have hC0 : 0 ≤ iv ∧ (nI 0 ≤ pt ∧ pt ≤ nI 2) := ⟨Int32.not_lt.mp h_1, of_decide_eq_true h_10⟩
      obtain ⟨i, hi9, rfl⟩ := nI_of h_1
      obtain ⟨pt, hp1, hp2, rfl⟩ := rng (by decide) hC0.2 (by decide)
      refine qa_aload_n hΓ dX5_event_15 rfl ?_
      refine qa_get hΓ dX5_event_16 fk_X5_12 hZ.lt hZ.o rfl ?_
      refine qa_iload_n hΓ dX5_event_19 rfl ?_
      refine qc_V1 hΓ dX5_event_20 lk_X5_203 vw_X0_slotAt (by omega) (c_X0_slotAt l (d - 1) (by omega) hZ.now hR0 hW (by omega) (nI i)) rfl hZ.now.lt hZ.now.o rfl rfl (Nat.le_of_ble_eq_true rfl) ?_
      rw [sa_all hR0 hW (by omega) hi9]
      refine qa_istore_n hΓ dX5_event_23 (by decide) ?_
      refine qa_iload_n hΓ dX5_event_24 rfl ?_
      refine qa_iconst (v := -1) hΓ dX5_event_25 ic_m1 ?_
      cases ho : evS (M 0) i (4 * M 0 1) with
      | none =>
        refine qa_icmp_ne (tgt := 32) hΓ dX5_event_26 (by decide) (fun h => absurd rfl h) (fun _ => ?_)
        refine qa_bipush (v := (-9)) hΓ dX5_event_29 bp_m9 ?_
        exact qr_i hR dX5_event_31 ⟨_, rfl, hF0, fun r2 M' h => by
          unfold spEvent at h
          rw [if_pos hC0, tn_nI (by omega), tn_nI (by omega)] at h
          unfold evR at h
          rw [ho] at h
          exact ⟨h.1, CW.sm hX hZ h.2⟩⟩
      | some e =>
        obtain ⟨he9, hwt⟩ := evS_ok ho
        have hk3 := wt_k3 hwt
        have hsl := sl_lt he9
        refine qa_icmp_ne (tgt := 32) hΓ dX5_event_26 (by decide) (fun _ => ?_) (fun h => absurd h (nI_n1 (by omega)))
        show Γ 32 [aR 0, aZ i, aZ pt, aZ (slE e)] [] (0, 0) n w
        refine qa_iload_n hΓ dX5_event_32 rfl ?_
        rcases (show pt = 0 ∨ pt = 1 ∨ pt = 2 by omega) with rfl | rfl | rfl
        · refine qa_lookup (tgt := 60) (off := 27) hΓ dX5_event_33 (by decide) (by decide) (by decide) ?_
          refine qa_aload_n hΓ dX5_event_60 rfl ?_
          refine qa_get hΓ dX5_event_61 fk_X5_12 hZ.lt hZ.o rfl ?_
          refine qa_getN hΓ dX5_event_64 fn_X5_206 hZ.now.lt hZ.now.o rfl ?_
          refine qa_iload_n hΓ dX5_event_67 rfl ?_
          refine qc_S1 hΓ dX5_event_68 lk_X5_176 vw_X5_at (by omega) (c_X5_at l (d - 1) (hZ.now.lti (i := 6) (by decide)) hZ.now.a5 _ (by omega) (by decide)) rfl rfl (Nat.le_of_ble_eq_true rfl) ?_
          rw [du_e hR0 he9 hk3 hwt]
          exact qr_i hR dX5_event_71 ⟨_, rfl, hF0, fun r2 M' h => by
            unfold spEvent at h
            rw [if_pos hC0, tn_nI (by omega), tn_nI (by decide)] at h
            unfold evR at h
            rw [ho] at h
            exact ⟨h.1, CW.sm hX hZ h.2⟩⟩
        · refine qa_lookup (tgt := 72) (off := 39) hΓ dX5_event_33 (by decide) (by decide) (by decide) ?_
          refine qa_iload_n hΓ dX5_event_72 rfl ?_
          refine qc_S1 hΓ dX5_event_73 lk_X5_141 vw_X0_relayOf (by omega) (c_X0_relayOf l (d - 1) _ (by omega)) rfl rfl (Nat.le_of_ble_eq_true rfl) ?_
          rw [sl_div]
          exact qr_i hR dX5_event_76 ⟨_, rfl, hF0, fun r2 M' h => by
            unfold spEvent at h
            rw [if_pos hC0, tn_nI (by omega), tn_nI (by decide)] at h
            unfold evR at h
            rw [ho] at h
            exact ⟨h.1, CW.sm hX hZ h.2⟩⟩
        · refine qa_lookup (tgt := 77) (off := 44) hΓ dX5_event_33 (by decide) (by decide) (by decide) ?_
          refine qa_aload_n hΓ dX5_event_77 rfl ?_
          refine qa_get hΓ dX5_event_78 fk_X5_12 hZ.lt hZ.o rfl ?_
          refine qa_iload_n hΓ dX5_event_81 rfl ?_
          refine qc_V1 hΓ dX5_event_82 lk_X5_134 vw_X0_kindOf (by omega) (c_X0_kindOf l (d - 1) (by omega) hZ.now hR0 hW (by omega) (slE e) (by rw [sl_div]; omega)) rfl hZ.now.lt hZ.now.o rfl rfl (Nat.le_of_ble_eq_true rfl) ?_
          rw [kd_e hS hW he9 hk3 hwt]
          exact qr_i hR dX5_event_85 ⟨_, rfl, hF0, fun r2 M' h => by
            unfold spEvent at h
            rw [if_pos hC0, tn_nI (by omega), tn_nI (by decide)] at h
            unfold evR at h
            rw [ho] at h
            exact ⟨h.1, CW.sm hX hZ h.2⟩⟩
    · refine qa_iconst (v := (-1)) hΓ dX5_event_13 ic_m1 ?_
      exact qr_i hR dX5_event_14 ⟨_, rfl, hF0, fun r2 M' h => by
        unfold spEvent at h
        rw [if_neg (fun q => by first | exact absurd q.1 (Int32.not_le.mpr h_1) | exact of_decide_eq_false h_10 q.2)] at h
        exact ⟨h.1, CW.sm hX hZ h.2⟩⟩

set_option maxRecDepth 100000 in
set_option maxHeartbeats 4000000 in
theorem c_X5_endingOf (l : Launch) (d : Nat) (hd : 5 ≤ d) {n : Nat} {w : Nat → AC} {b : Bk} {ol sz : Nat} {p : Nat → Bk} {T : Nat → Nat} {N : Nat} {g : Nat → Nat} {z R q : Nat} {c1 c2 : Bk} (hZ : WX n w b ol sz p T N g z R q c1 c2) {k : Nat} {c : Bk} {s : Nat → Nat} {B : Nat} (hO : BkAt n w k c) (hk : k + 7 ≤ 63) (hR0 : RepC s c) (hS : SeC s) (hW : Wt s B) (hBd : B + 4100 < 900000000) (m : Nat) (hm : m ≤ 200) (rev : Bool) : Sq l yX5_endingOf cX5_endingOf 4 (some .int) d [aR 0, aR k, aZ m, aZ rev.toNat] n w (Qv (aZ (ndE s rev m)) (fun w' => (∃ b', BkAt n w' 63 b') ∧ Fr 63 7 w w')) := by
  refine Sp.of (plainFor_of_name (by decide)) (Nat.le_of_ble_eq_true rfl) (fun Γ hΓ hR => ?_)
  show Γ 0 [aR 0, aR k, aZ m, aZ rev.toNat] [] (0, 0) n w
  have hT0 : Fr 63 7 w w := Fr.rf
  refine qa_aload_n hΓ dX5_endingOf_0 rfl ?_
  refine qa_get hΓ dX5_endingOf_1 fk_X5_40 hZ.lt hZ.o rfl ?_
  refine qa_aload_n hΓ dX5_endingOf_4 rfl ?_
  refine qc_V0q hΓ dX5_endingOf_5 lk_X5_153 vw_X0_copy (by omega) (c_X0_copy l (d - 1) (by omega) hZ.tri hO (by omega)) rfl hZ.tri.lt hZ.tri.o rfl rfl (Nat.le_of_ble_eq_true rfl) (fun w hq => ?_)
  obtain ⟨b', hB', hF, ht1, ht2⟩ := hq
  have hZ := hZ.putT hB' hF
  have hT0 := hT0.tr hF
  have hRt := hR0.of ht1 ht2
  refine qa_aload_n hΓ dX5_endingOf_8 rfl ?_
  refine qa_get hΓ dX5_endingOf_9 fk_X5_40 hZ.lt hZ.o rfl ?_
  refine qa_iload_n hΓ dX5_endingOf_12 rfl ?_
  refine qa_ldc (v := nI NV) hΓ dX5_endingOf_13 ck_X5_144 ?_
  refine qa_iload_n hΓ dX5_endingOf_15 rfl ?_
  refine qc_V1q hΓ dX5_endingOf_16 lk_X5_145 vw_X0_run (by omega) (c_X0_run l (d - 1) (by omega) hZ.tri hRt hW (by omega) hS m NV rev (by omega) (by decide)) rfl hZ.tri.lt hZ.tri.o rfl rfl (Nat.le_of_ble_eq_true rfl) (fun w hq => ?_)
  rw [rnL_st rev m s B hW (by have : NV = 2147483647 := rfl; omega)] at hq ⊢
  obtain ⟨b2, hB', hF, hR2, hS2⟩ := hq
  have hZ := hZ.putT hB' hF
  have hT0 := hT0.tr hF
  have hWt : Wt (stl s rev m).2 (B + 20 * m) := hW.stl
  refine qa_pop hΓ dX5_endingOf_19 ?_
  refine qa_aload_n hΓ dX5_endingOf_20 rfl ?_
  refine qa_get hΓ dX5_endingOf_21 fk_X5_40 hZ.lt hZ.o rfl ?_
  refine qa_getN hΓ dX5_endingOf_24 fn_X5_163 hZ.tri.lt hZ.tri.o rfl ?_
  rw [hR2.2.2.1.2.1.trans (st_pM hWt (by decide))]
  refine qa_aload_n hΓ dX5_endingOf_27 rfl ?_
  refine qa_get hΓ dX5_endingOf_28 fk_X5_40 hZ.lt hZ.o rfl ?_
  refine qc_V1 hΓ dX5_endingOf_31 lk_X5_217 vw_X0_isQuiet (by omega) (c_X0_isQuiet l (d - 1) (by omega) hZ.tri hR2 hWt (by omega)) rfl hZ.tri.lt hZ.tri.o rfl rfl (Nat.le_of_ble_eq_true rfl) ?_
  refine qb_if_eq (tgt := 43) hΓ dX5_endingOf_34 (by decide) (fun h_34 => ?_) (fun h_34 => ?_)
  · refine qa_iconst (v := nI 0) hΓ dX5_endingOf_43 ic_0 ?_
    refine qz_iadd hΓ dX5_endingOf_44 ?_
    have e9 : ndE s rev m = mk (stB (stl s rev m).2 3) ((stl s rev m).2 1) + 0 := by
      unfold ndE
      rw [if_neg (fun h => of_decide_eq_false h_34 ((nx_rev _ rev).mpr h))]
    exact qr_i hR dX5_endingOf_45 ⟨by rw [e9], ⟨_, hZ.tri⟩, hT0⟩
  · refine qa_sipush (v := nI 256) hΓ dX5_endingOf_37 sp_256 ?_
    refine qa_goto (tgt := 44) hΓ dX5_endingOf_40 (by decide) ?_
    refine qz_iadd hΓ dX5_endingOf_44 ?_
    have e9 : ndE s rev m = mk (stB (stl s rev m).2 3) ((stl s rev m).2 1) + 256 := by
      unfold ndE
      rw [if_pos ((nx_rev _ rev).mp (of_decide_eq_true h_34))]
    exact qr_i hR dX5_endingOf_45 ⟨by rw [e9], ⟨_, hZ.tri⟩, hT0⟩

set_option maxRecDepth 100000 in
set_option maxHeartbeats 4000000 in
theorem c_X5_raceIn (l : Launch) (d : Nat) (hd : 6 ≤ d) {n : Nat} {w : Nat → AC} {b : Bk} {ol sz : Nat} {p : Nat → Bk} {T : Nat → Nat} {N : Nat} {g : Nat → Nat} {z R q : Nat} {c1 c2 : Bk} (hZ : WX n w b ol sz p T N g z R q c1 c2) {k : Nat} {c : Bk} {s : Nat → Nat} {B : Nat} (hO : BkAt n w k c) (hk : k + 7 ≤ 63) (hR0 : RepC s c) (hS : SeC s) (hW : Wt s B) (hBd : B + 4100 < 900000000) : Sq l yX5_raceIn cX5_raceIn 3 (some .int) d [aR 0, aR k] n w (Qv (aZ (rcV s)) (fun w' => (∃ b', BkAt n w' 63 b') ∧ Fr 63 7 w w')) := by
  refine Sp.of (plainFor_of_name (by decide)) (Nat.le_of_ble_eq_true rfl) (fun Γ hΓ hR => ?_)
  show Γ 0 [aR 0, aR k, none] [] (0, 0) n w
  have hT0 : Fr 63 7 w w := Fr.rf
  refine qa_aload_n hΓ dX5_raceIn_0 rfl ?_
  refine qa_aload_n hΓ dX5_raceIn_1 rfl ?_
  refine qa_sipush (v := nI 200) hΓ dX5_raceIn_2 sp_200 ?_
  refine qa_iconst (v := nI 0) hΓ dX5_raceIn_5 ic_0 ?_
  show Γ _ _ (aZ false.toNat :: _) _ _ _
  refine qc_V1q hΓ dX5_raceIn_6 lk_X5_209 vw_X5_endingOf (by omega) (c_X5_endingOf l (d - 1) (by omega) hZ hO (by omega) hR0 hS hW (by omega) 200 (by omega) false) rfl hZ.lt hZ.o rfl rfl (Nat.le_of_ble_eq_true rfl) (fun w hq => ?_)
  obtain ⟨⟨b', hB'⟩, hF⟩ := hq
  have hZ := hZ.putT hB' hF
  have hT0 := hT0.tr hF
  have hO := hO.ofFr hF (by omega)
  refine qa_istore_n hΓ dX5_raceIn_9 (by decide) ?_
  refine qa_iload_n hΓ dX5_raceIn_10 rfl ?_
  refine qa_aload_n hΓ dX5_raceIn_11 rfl ?_
  refine qa_aload_n hΓ dX5_raceIn_12 rfl ?_
  refine qa_sipush (v := nI 200) hΓ dX5_raceIn_13 sp_200 ?_
  refine qa_iconst (v := nI 1) hΓ dX5_raceIn_16 ic_1 ?_
  show Γ _ _ (aZ true.toNat :: _) _ _ _
  refine qc_V1q hΓ dX5_raceIn_17 lk_X5_209 vw_X5_endingOf (by omega) (c_X5_endingOf l (d - 1) (by omega) hZ hO (by omega) hR0 hS hW (by omega) 200 (by omega) true) rfl hZ.lt hZ.o rfl rfl (Nat.le_of_ble_eq_true rfl) (fun w hq => ?_)
  obtain ⟨⟨b', hB'⟩, hF⟩ := hq
  have hZ := hZ.putT hB' hF
  have hT0 := hT0.tr hF
  refine qz_icmp_eq (tgt := 27) hΓ dX5_raceIn_20 (by decide) (by have := ndE_le hW false 200; omega) (by have := ndE_le hW true 200; omega) (fun h_20 => ?_) (fun h_20 => ?_)
  · refine qa_iconst (v := nI 0) hΓ dX5_raceIn_27 ic_0 ?_
    exact qr_i hR dX5_raceIn_28 ⟨by unfold rcV; rw [if_pos h_20], ⟨_, hZ.tri⟩, hT0⟩
  · refine qa_iconst (v := nI 1) hΓ dX5_raceIn_23 ic_1 ?_
    refine qa_goto (tgt := 28) hΓ dX5_raceIn_24 (by decide) ?_
    exact qr_i hR dX5_raceIn_28 ⟨by unfold rcV; rw [if_neg h_20], ⟨_, hZ.tri⟩, hT0⟩

set_option maxRecDepth 100000 in
set_option maxHeartbeats 4000000 in
theorem c_X5_outcome (l : Launch) (d : Nat) (hd : 6 ≤ d) {n : Nat} {w : Nat → AC} {M : Bk} {B : Nat} {b : Bk} {ol : Nat} {p : Nat → Bk} {g : Nat → Nat} {z R q : Nat} {c1 c2 : Bk} (hZ : WX n w b ol (M 5 0) p (M 4) (M 5 1) g z R q c1 c2) (hX : SX M B b ol p) (hBd : B < 800000000) (rv0 ev : Int32) : Sq l yX5_outcome cX5_outcome 3 (some .int) d [aR 0, aI rv0, aI ev] n w (QC (spOut M rv0 ev) (B + 4100) n w) := by
  refine Sp.of (plainFor_of_name (by decide)) (Nat.le_of_ble_eq_true rfl) (fun Γ hΓ hR => ?_)
  show Γ 0 [aR 0, aI rv0, aI ev] [] (0, 0) n w
  have hF0 : Fr 0 70 w w := Fr.rf
  obtain ⟨hR0, hS, hC, hW, hp6, hG, hT60, hT256⟩ := id hX
  have h8 := hW.2.1
  refine qa_iload_n hΓ dX5_outcome_0 rfl ?_
  refine qa_iconst (v := nI 0) hΓ dX5_outcome_1 ic_0 ?_
  refine qa_iconst (v := nI 1) hΓ dX5_outcome_2 ic_1 ?_
  refine qc_S1 hΓ dX5_outcome_3 lk_X5_71 vw_X5_isWithin (by omega) (c_X5_isWithin l (d - 1) _ _ _) rfl rfl (Nat.le_of_ble_eq_true rfl) ?_
  refine qb_if_eq (tgt := 20) hΓ dX5_outcome_6 (by decide) (fun h_6 => ?_) (fun h_6 => ?_)
  · refine qa_iconst (v := (-1)) hΓ dX5_outcome_20 ic_m1 ?_
    exact qr_i hR dX5_outcome_21 ⟨_, rfl, hF0, fun r2 M' h => by unfold spOut at h; rw [if_neg (fun q => by first | exact of_decide_eq_false h_6 q.1 | exact of_decide_eq_false h_17 q.2)] at h; exact ⟨h.1, CW.sm hX hZ h.2⟩⟩
  · refine qa_iload_n hΓ dX5_outcome_9 rfl ?_
    refine qa_iconst (v := nI 1) hΓ dX5_outcome_10 ic_1 ?_
    refine qa_sipush (v := nI 200) hΓ dX5_outcome_11 sp_200 ?_
    refine qc_S1 hΓ dX5_outcome_14 lk_X5_71 vw_X5_isWithin (by omega) (c_X5_isWithin l (d - 1) _ _ _) rfl rfl (Nat.le_of_ble_eq_true rfl) ?_
    refine qb_if_ne (tgt := 22) hΓ dX5_outcome_17 (by decide) (fun h_17 => ?_) (fun h_17 => ?_)
    · obtain ⟨rv, hv1, hv2, rfl⟩ := rng (by decide) (of_decide_eq_true h_6) (by decide)
      obtain ⟨ev, he1, he2, rfl⟩ := rng (by decide) (of_decide_eq_true h_17) (by decide)
      refine qa_aload_n hΓ dX5_outcome_22 rfl ?_
      refine qa_aload_n hΓ dX5_outcome_23 rfl ?_
      refine qa_get hΓ dX5_outcome_24 fk_X5_12 hZ.lt hZ.o rfl ?_
      refine qa_iload_n hΓ dX5_outcome_27 rfl ?_
      refine qa_iload_n hΓ dX5_outcome_28 rfl ?_
      refine qa_iconst (v := nI 1) hΓ dX5_outcome_29 ic_1 ?_
      refine qz_icmp_ne (tgt := 37) hΓ dX5_outcome_30 (by decide) (by omega) (by decide) (fun h_30 => ?_) (fun h_30 => ?_)
      · refine qa_iconst (v := nI 0) hΓ dX5_outcome_37 ic_0 ?_
        show Γ _ _ (aZ false.toNat :: _) _ _ _
        refine qc_V1q hΓ dX5_outcome_38 lk_X5_209 vw_X5_endingOf (by omega) (c_X5_endingOf l (d - 1) (by omega) hZ hZ.now (by omega) hR0 hS hW (by omega) ev (by omega) false) rfl hZ.lt hZ.o rfl rfl (Nat.le_of_ble_eq_true rfl) (fun w hq => ?_)
        obtain ⟨⟨b', hB'⟩, hF⟩ := hq
        have hZ := hZ.putT hB' hF
        have hF0 := hF0.tr (hF.wide (by omega) (by omega))
        exact qr_i hR dX5_outcome_41 ⟨_, rfl, hF0, fun r2 M' h => by
          unfold spOut at h
          rw [if_pos ⟨of_decide_eq_true h_6, of_decide_eq_true h_17⟩, tn_nI (show rv < 2147483648 by omega), tn_nI (show ev < 2147483648 by omega), decide_eq_false h_30] at h
          exact ⟨h.1, CW.sm hX hZ h.2⟩⟩
      · refine qa_iconst (v := nI 1) hΓ dX5_outcome_33 ic_1 ?_
        refine qa_goto (tgt := 38) hΓ dX5_outcome_34 (by decide) ?_
        show Γ _ _ (aZ true.toNat :: _) _ _ _
        refine qc_V1q hΓ dX5_outcome_38 lk_X5_209 vw_X5_endingOf (by omega) (c_X5_endingOf l (d - 1) (by omega) hZ hZ.now (by omega) hR0 hS hW (by omega) ev (by omega) true) rfl hZ.lt hZ.o rfl rfl (Nat.le_of_ble_eq_true rfl) (fun w hq => ?_)
        obtain ⟨⟨b', hB'⟩, hF⟩ := hq
        have hZ := hZ.putT hB' hF
        have hF0 := hF0.tr (hF.wide (by omega) (by omega))
        exact qr_i hR dX5_outcome_41 ⟨_, rfl, hF0, fun r2 M' h => by
          unfold spOut at h
          rw [if_pos ⟨of_decide_eq_true h_6, of_decide_eq_true h_17⟩, tn_nI (show rv < 2147483648 by omega), tn_nI (show ev < 2147483648 by omega), decide_eq_true h_30] at h
          exact ⟨h.1, CW.sm hX hZ h.2⟩⟩
    · refine qa_iconst (v := (-1)) hΓ dX5_outcome_20 ic_m1 ?_
      exact qr_i hR dX5_outcome_21 ⟨_, rfl, hF0, fun r2 M' h => by unfold spOut at h; rw [if_neg (fun q => by first | exact of_decide_eq_false h_6 q.1 | exact of_decide_eq_false h_17 q.2)] at h; exact ⟨h.1, CW.sm hX hZ h.2⟩⟩

set_option maxRecDepth 100000 in
set_option maxHeartbeats 4000000 in
theorem c_X5_isRace (l : Launch) (d : Nat) (hd : 7 ≤ d) {n : Nat} {w : Nat → AC} {M : Bk} {B : Nat} {b : Bk} {ol : Nat} {p : Nat → Bk} {g : Nat → Nat} {z R q : Nat} {c1 c2 : Bk} (hZ : WX n w b ol (M 5 0) p (M 4) (M 5 1) g z R q c1 c2) (hX : SX M B b ol p) (hBd : B < 800000000) : Sq l yX5_isRace cX5_isRace 1 (some .int) d [aR 0] n w (QC (spRace M) (B + 4100) n w) := by
  refine Sp.of (plainFor_of_name (by decide)) (Nat.le_of_ble_eq_true rfl) (fun Γ hΓ hR => ?_)
  show Γ 0 [aR 0] [] (0, 0) n w
  have hF0 : Fr 0 70 w w := Fr.rf
  obtain ⟨hR0, hS, hC, hW, hp6, hG, hT60, hT256⟩ := id hX
  have h8 := hW.2.1
  refine qa_aload_n hΓ dX5_isRace_0 rfl ?_
  refine qa_aload_n hΓ dX5_isRace_1 rfl ?_
  refine qa_get hΓ dX5_isRace_2 fk_X5_12 hZ.lt hZ.o rfl ?_
  refine qc_V1q hΓ dX5_isRace_5 lk_X5_213 vw_X5_raceIn (by omega) (c_X5_raceIn l (d - 1) (by omega) hZ hZ.now (by decide) hR0 hS hW (by omega)) rfl hZ.lt hZ.o rfl rfl (Nat.le_of_ble_eq_true rfl) (fun w hq => ?_)
  obtain ⟨⟨b', hB'⟩, hF⟩ := hq
  have hZ := hZ.putT hB' hF
  have hF0 := hF0.tr (hF.wide (by omega) (by omega))
  exact qr_i hR dX5_isRace_8 ⟨_, rfl, hF0, fun r2 M' h => ⟨h.1, CW.sm hX hZ h.2⟩⟩
end
section
/-! The class: stable states, explanations -/
def dwS (s : Nat → Nat) (set : Nat) : Nat → Nat := fun j => if j < 3 then s j else if (j - 3) % 25 = 3 then (set.testBit ((j - 3) / 25)).toNat else if (j - 3) % 25 = 5 then 0 else s j
theorem dwS_hd (s : Nat → Nat) (set : Nat) {j : Nat} (hj : j < 3) : dwS s set j = s j := by unfold dwS; rw [if_pos hj]
theorem dwS_v (s : Nat → Nat) (set q x : Nat) (hx : x < 25) : vv (dwS s set) q x = if x = 3 then (set.testBit q).toNat else if x = 5 then 0 else vv s q x := by
  unfold vv dwS
  rw [if_neg (by omega), show (3 + 25 * q + x - 3) % 25 = x by omega, show (3 + 25 * q + x - 3) / 25 = q by omega]
theorem Wt.dw {s : Nat → Nat} {B : Nat} (h : Wt s B) (set : Nat) : Wt (dwS s set) B := by
  refine ⟨by rw [dwS_hd _ _ (by decide)]; exact h.1, by rw [dwS_hd _ _ (by decide)]; exact h.2.1, by rw [dwS_hd _ _ (by decide)]; exact h.2.2.1, fun r hr x hx => ?_⟩
  rw [dwS_hd _ _ (by decide)] at hr
  rw [dwS_v _ _ _ _ hx]
  by_cases e3 : x = 3
  · rw [if_pos e3, e3]
    have := Bool.toNat_le1 (set.testBit r)
    simpa [bdF] using this
  · rw [if_neg e3]
    by_cases e5 : x = 5
    · rw [if_pos e5]
      exact Nat.zero_le _
    · rw [if_neg e5]
      exact h.2.2.2 r hr x hx
theorem mk_set {set n : Nat} (h : set < 2 ^ n) : mk (fun i => set.testBit i) n = set := by
  apply Nat.eq_of_testBit_eq
  intro i
  rw [mk_bit]
  by_cases e : i < n
  · simp [e]
  · rw [decide_eq_false e, testBit_lt h (by omega)]
    rfl
theorem mk_none {p : Nat → Bool} : ∀ {n}, (∀ i, i < n → p i = false) → mk p n = 0
  | 0, _ => rfl
  | n + 1, h => by
    show mk p n ||| (if p n then 1 <<< n else 0) = 0
    rw [mk_none (fun i hi => h i (by omega)), h n (by omega)]
    simp
theorem bit_d (p : Bool) : decide (p.toNat = 1) = p := by cases p <;> rfl
/-- the bank on which a set is tried -/
def TrB (b c : Bk) : Prop := (∀ i, i < 6 → c i = b i) ∧ (∀ j, j < 9 → j ≠ 4 → j ≠ 5 → c 6 j = b 6 j) ∧ c 6 5 = 0
theorem RepC.dw {s : Nat → Nat} {b c : Bk} {set : Nat} {B : Nat} (h : RepC s b) (hW : Wt s B) (hT : TrB b c) (hs : set < 2 ^ s 1) : RepC (dwS s set) (bset c 6 4 set) := by
  obtain ⟨t1, t2, t3⟩ := hT
  obtain ⟨r1, r2, r3, r4, r5⟩ := h
  have e6 : ∀ i, i < 6 → bset c 6 4 set i = b i := fun i hi => by rw [bset_ne _ _ _ (by omega), t1 i hi]
  have ej : ∀ j, j < 9 → j ≠ 4 → j ≠ 5 → bset c 6 4 set 6 j = b 6 j := fun j hj h4 h5 => by rw [bset_eq, upN_ne _ _ _ h4, t2 j hj h4 h5]
  have e4 : bset c 6 4 set 6 4 = set := by rw [bset_eq, upN_self]
  have e5 : bset c 6 4 set 6 5 = 0 := by rw [bset_eq, upN_ne _ _ _ (by decide), t3]
  have hv : ∀ q x, x < 25 → x ≠ 3 → x ≠ 5 → vv (dwS s set) q x = vv s q x := fun q x hx h3 h5 => by rw [dwS_v _ _ _ _ hx, if_neg h3, if_neg h5]
  have hm : ∀ x v, x < 25 → x ≠ 3 → x ≠ 5 → mk (pM (dwS s set) x v) (s 1) = mk (pM s x v) (s 1) := fun x v hx h3 h5 => mk_congr (fun i _ => by unfold pM; rw [hv i x hx h3 h5])
  have m3 : mk (pM (dwS s set) 3 1) (s 1) = set := by
    refine Eq.trans (mk_congr (fun i hi => ?_)) (mk_set hs)
    unfold pM
    rw [dwS_v _ _ _ _ (by decide), if_pos rfl, bit_d]
  have m5 : mk (pM (dwS s set) 5 1) (s 1) = 0 := mk_none (fun i hi => by
    unfold pM
    rw [dwS_v _ _ _ _ (by decide), if_neg (by decide), if_pos rfl]
    rfl)
  unfold RepC
  rw [dwS_hd _ _ (show 0 < 3 by decide), dwS_hd _ _ (show 1 < 3 by decide), dwS_hd _ _ (show 2 < 3 by decide), e6 0 (by decide), e6 1 (by decide), e6 2 (by decide), e6 3 (by decide), e6 4 (by decide), e6 5 (by decide), ej 0 (by decide) (by decide) (by decide), ej 1 (by decide) (by decide) (by decide), ej 2 (by decide) (by decide) (by decide), ej 3 (by decide) (by decide) (by decide), e4, e5, ej 6 (by decide) (by decide) (by decide), ej 7 (by decide) (by decide) (by decide), ej 8 (by decide) (by decide) (by decide), hm 4 1 (by decide) (by decide) (by decide), m3, m5, hm 7 1 (by decide) (by decide) (by decide), hm 6 1 (by decide) (by decide) (by decide), hm 6 2 (by decide) (by decide) (by decide)]
  refine ⟨r1, fun r hr => ?_, ⟨r3.1, rfl, rfl, r3.2.2.2⟩, fun r hr => ?_, r5⟩
  · rw [hv r 0 (by decide) (by decide) (by decide), hv r 1 (by decide) (by decide) (by decide), hv r 2 (by decide) (by decide) (by decide), hv r 12 (by decide) (by decide) (by decide)]
    obtain ⟨a0, a1, a2, a3, a4⟩ := r2 r hr
    refine ⟨a0, a1, a2, a3, fun j hj => ?_⟩
    rw [a4 j hj]
    have h6 := hW.m6 hr
    rw [hv r _ (by omega) (by omega) (by omega), hv r _ (by omega) (by omega) (by omega)]
  · unfold duA duE
    rw [hv r 8 (by decide) (by decide) (by decide), hv r 9 (by decide) (by decide) (by decide), hv r 10 (by decide) (by decide) (by decide), hv r 11 (by decide) (by decide) (by decide)]
    exact r4 r hr
theorem stI_iff {s : Nat → Nat} {B set : Nat} (hW : Wt s B) : ((set ^^^ mk (pM s 3 1) (s 1)) &&& mk (pM s 7 1) (s 1) = 0) ↔ stI s set (s 1) = true := by
  have key : ∀ m, m ≤ s 1 → (stI s set m = true ↔ ∀ r, r < m → vv s r 7 = 0 ∨ vv s r 3 = (set.testBit r).toNat) := by
    intro m
    induction m with
    | zero => exact fun _ => ⟨fun _ r hr => absurd hr (by omega), fun _ => rfl⟩
    | succ m ih =>
      intro hm
      show (stI s set m && (decide (vv s m 7 = 0) || decide (vv s m 3 = (set.testBit m).toNat))) = true ↔ _
      rw [Bool.and_eq_true, ih (by omega), Bool.or_eq_true, decide_eq_true_eq, decide_eq_true_eq]
      constructor
      · rintro ⟨h1, h2⟩ r hr
        rcases Nat.lt_or_ge r m with u | u
        · exact h1 r u
        · rw [show r = m by omega]
          exact h2
      · exact fun h => ⟨fun r hr => h r (by omega), h m (by omega)⟩
  rw [key _ (Nat.le_refl _)]
  have hb : ∀ r, r < s 1 → ((set ^^^ mk (pM s 3 1) (s 1)) &&& mk (pM s 7 1) (s 1)).testBit r = ((set.testBit r ^^ decide (vv s r 3 = 1)) && decide (vv s r 7 = 1)) := fun r hr => by
    rw [Nat.testBit_and, Nat.testBit_xor, mk_bit, mk_bit, decide_eq_true hr, Bool.true_and, Bool.true_and]
    rfl
  constructor
  · intro h r hr
    have h1 := hb r hr
    rw [h, Nat.zero_testBit] at h1
    have c7 := hW.c1 hr (x := 7) (by omega)
    have c3 := hW.c1 hr (x := 3) (by omega)
    rcases (show vv s r 7 = 0 ∨ vv s r 7 = 1 by omega) with q | q
    · exact Or.inl q
    · refine Or.inr ?_
      rw [q] at h1
      rcases (show vv s r 3 = 0 ∨ vv s r 3 = 1 by omega) with u | u <;> rw [u] at h1 ⊢ <;> cases h9 : set.testBit r <;> rw [h9] at h1 <;> first | rfl | cases h1
  · intro h
    apply Nat.eq_of_testBit_eq
    intro r
    rw [Nat.zero_testBit]
    by_cases hr : r < s 1
    · rw [hb r hr]
      have c7 := hW.c1 hr (x := 7) (by omega)
      have c3 := hW.c1 hr (x := 3) (by omega)
      rcases h r hr with q | q
      · rw [q]
        simp
      · rw [q]
        cases set.testBit r <;> simp
    · rw [Nat.testBit_and, mk_bit (pM s 7 1), decide_eq_false hr, Bool.false_and, Bool.and_false]
theorem stC_iff {s : Nat → Nat} {B set : Nat} (hW : Wt s B) : stA (dwS s set) (s 1) = stC s set (mk (stO s set) (s 1)) (s 1) := by
  have hon : onS (dwS s set) = s 0 ||| mk (stO s set) (s 1) <<< 8 := by
    unfold onS
    rw [dwS_hd _ _ (show 0 < 3 by decide), dwS_hd _ _ (show 1 < 3 by decide), mk_congr (q := stO s set) (fun i _ => ?_)]
    unfold clB stO
    rw [dwS_v _ _ i 6 (by decide), dwS_v _ _ i 3 (by decide), dwS_v _ _ i 5 (by decide), if_neg (by decide), if_neg (by decide), if_pos rfl, if_neg (by decide), if_pos rfl, bit_d]
    simp
  have key : ∀ m, m ≤ s 1 → stA (dwS s set) m = stC s set (mk (stO s set) (s 1)) m := by
    intro m
    induction m with
    | zero => exact fun _ => rfl
    | succ m ih =>
      intro hm
      show (stA (dwS s set) m && (decide (vv (dwS s set) m 7 = 1) || (cnd (dwS s set) m (onS (dwS s set)) == decide (vv (dwS s set) m 3 = 1)))) = (stC s set (mk (stO s set) (s 1)) m && (decide (vv s m 7 = 1) || (cnd s m (s 0 ||| mk (stO s set) (s 1) <<< 8) == set.testBit m)))
      rw [ih (by omega), hon, dwS_v _ _ m 7 (by decide), dwS_v _ _ m 3 (by decide), if_neg (by decide), if_neg (by decide), if_pos rfl, bit_d]
      rw [cnd_congr (s := s) (t := dwS s set) (hW.m6 (by omega)) (fun x h1 h2 => by rw [dwS_v _ _ m x h2, if_neg (by omega), if_neg (by omega)])]
  exact key _ (Nat.le_refl _)
theorem mk_two {p : Nat → Bool} {r : Nat} (h0 : p (2 * r) = false) (h1 : p (2 * r + 1) = false) : mk p (2 * (r + 1)) = mk p (2 * r) := by
  rw [show 2 * (r + 1) = 2 * r + 1 + 1 by omega]
  show (mk p (2 * r) ||| (if p (2 * r) then 1 <<< (2 * r) else 0)) ||| (if p (2 * r + 1) then 1 <<< (2 * r + 1) else 0) = _
  rw [h0, h1]
  simp
theorem mk_st (p : Nat → Bool) (n : Nat) : mk p (n + 1) = mk p n ||| (if p n then 1 <<< n else 0) := rfl
end
section
/-! Objects that are made -/
def dfX0 : List AV := [aN, aN, aN, aN, aN, aN, aZ 0, aZ 0, aZ 0, aZ 0, aZ 0, aZ 0, aZ 0, aZ 0, aZ 0]
def dfX2 : List AV := [aN, aZ 0, aZ 0, aZ 0]
def dfX3 : List AV := [aN, aZ 0, aZ 0]
def dfX4 : List AV := [aN, aZ 0]
def dfX5 : List AV := [aN, aN, aN, aN, aN, aN]
theorem cl_X5_9 : CLK RX5 9 0 15 dfX0 := by
  refine ⟨RX0, TX0, tyX0, rfl, inlX0, tyX0_ok, clk_X5_9, List.mem_of_getElem? (i := 10) (by decide +kernel), List.mem_of_getElem? (i := 11) (by decide +kernel), fun ad j hj => ?_, fun a b => rfl⟩
  rcases (show j = 0 ∨ j = 1 ∨ j = 2 ∨ j = 3 ∨ j = 4 ∨ j = 5 ∨ j = 6 ∨ j = 7 ∨ j = 8 ∨ j = 9 ∨ j = 10 ∨ j = 11 ∨ j = 12 ∨ j = 13 ∨ j = 14 by omega) with rfl | rfl | rfl | rfl | rfl | rfl | rfl | rfl | rfl | rfl | rfl | rfl | rfl | rfl | rfl <;> rfl
theorem cl_X5_16 : CLK RX5 16 2 3 dfX3 := by
  refine ⟨RX3, TX3, tyX3, rfl, inlX3, tyX3_ok, clk_X5_16, List.mem_of_getElem? (i := 14) (by decide +kernel), List.mem_of_getElem? (i := 15) (by decide +kernel), fun ad j hj => ?_, fun a b => rfl⟩
  rcases (show j = 0 ∨ j = 1 ∨ j = 2 by omega) with rfl | rfl | rfl <;> rfl
theorem cl_X5_23 : CLK RX5 23 3 2 dfX4 := by
  refine ⟨RX4, TX4, tyX4, rfl, inlX4, tyX4_ok, clk_X5_23, List.mem_of_getElem? (i := 18) (by decide +kernel), List.mem_of_getElem? (i := 19) (by decide +kernel), fun ad j hj => ?_, fun a b => rfl⟩
  rcases (show j = 0 ∨ j = 1 by omega) with rfl | rfl <;> rfl
theorem cl_X5_30 : CLK RX5 30 1 4 dfX2 := by
  refine ⟨RX2, TX2, tyX2, rfl, inlX2, tyX2_ok, clk_X5_30, List.mem_of_getElem? (i := 22) (by decide +kernel), List.mem_of_getElem? (i := 23) (by decide +kernel), fun ad j hj => ?_, fun a b => rfl⟩
  rcases (show j = 0 ∨ j = 1 ∨ j = 2 ∨ j = 3 by omega) with rfl | rfl | rfl | rfl <;> rfl
theorem cl_X3_9 : CLK RX3 9 0 15 dfX0 := by
  refine ⟨RX0, TX0, tyX0, rfl, inlX0, tyX0_ok, clk_X3_9, List.mem_of_getElem? (i := 10) (by decide +kernel), List.mem_of_getElem? (i := 11) (by decide +kernel), fun ad j hj => ?_, fun a b => rfl⟩
  rcases (show j = 0 ∨ j = 1 ∨ j = 2 ∨ j = 3 ∨ j = 4 ∨ j = 5 ∨ j = 6 ∨ j = 7 ∨ j = 8 ∨ j = 9 ∨ j = 10 ∨ j = 11 ∨ j = 12 ∨ j = 13 ∨ j = 14 by omega) with rfl | rfl | rfl | rfl | rfl | rfl | rfl | rfl | rfl | rfl | rfl | rfl | rfl | rfl | rfl <;> rfl
theorem okL_nil (n : Nat) : ∀ v ∈ ([] : List AV), okV n v := fun v h => by cases h
theorem okL_cons {n : Nat} {v : AV} {L : List AV} (h : okV n v) (hL : ∀ u ∈ L, okV n u) : ∀ u ∈ v :: L, okV n u := fun u hu => by
  rcases List.mem_cons.mp hu with rfl | hu
  · exact h
  · exact hL u hu
theorem okL_set {n k : Nat} {v : AV} {fs : List AV} (h : ∀ u ∈ fs, okV n u) (hv : okV (n + 1) v) : ∀ u ∈ fs.set k v, okV (n + 1) u := fun u hu => by
  rcases List.mem_or_eq_of_mem_set hu with hu | rfl
  · exact (h u hu).mono (Nat.le_succ n)
  · exact hv
theorem okL_set' {n k : Nat} {v : AV} {fs : List AV} (h : ∀ u ∈ fs, okV n u) (hv : okV n v) : ∀ u ∈ fs.set k v, okV n u := fun u hu => by
  rcases List.mem_or_eq_of_mem_set hu with hu | rfl
  · exact h u hu
  · exact hv
theorem clW_fs {n k ci : Nat} {w : Nat → AC} {fs : List AV} (h : clW n w) (hk : k < n) (hw : w k = cObj ci fs) : ∀ u ∈ fs, okV n u := by
  have := h k hk
  rw [hw] at this
  exact this
/-- what is left of the old cells, but one -/
theorem fr_trans {k n : Nat} {w w1 w2 : Nat → AC} (h1 : ∀ j, j < k → w1 j = w j) (h2 : ∀ j, j < k → w2 j = w1 j) : ∀ j, j < k → w2 j = w j := fun j hj => (h2 j hj).trans (h1 j hj)
theorem qi_int {Γ : Gm} {l : Launch} {y : MethodName} {cc : ByteArray} {mL d mc ms : Nat} {pc n : Nat} {L : List AV} {cs : Nat × Nat} {w : Nat → AC} (hΓ : Ok Γ l y cc mL d mc ms) {idx ci i N k0 : Nat} {fs : List AV} (hd1 : decode cc pc = .ok (.newarray .int, 2)) (hd2 : decode cc (pc + 2) = .ok (.putfield idx, 3)) (hf : FLK y.cls idx ci i true (.array .int)) (hi : y.name = "<init>") (hC : ∀ C T N, vwCl[ci]? = some (C, T, N) → C = y.cls) (hN : N < 1000000) (hcs : cs.1 + 1 ≤ mc ∧ cs.2 + N ≤ ms) (hw : clW n w) (hokL : ∀ v ∈ L, okV n v) (hk : k0 < n) (hwk : w k0 = cObj ci fs) (hl : i < fs.length) (kk : ∀ w', clW (n + 1) w' → w' k0 = cObj ci (fs.set i (aR n)) → w' n = cArr 0 N (fun _ => 0) → (∀ j, j ≠ k0 → j ≠ n → w' j = w j) → Γ (pc + 2 + 3) L [] (cs.1 + 1, cs.2 + N) (n + 1) w') : Γ pc L [aZ N, aR k0] cs n w := by
  refine qa_newa_int hΓ hd1 rfl hN hcs hw hokL (okL_cons (okV_R hk) (okL_nil n)) ?_
  refine qa_putF hΓ hd2 hf hi hC (fun ad => ⟨rfl, rfl⟩) (by omega) (by rw [upw_ne _ _ _ (by omega)]; exact hwk) hl ?_
  refine kk _ ?_ (upw_self _ _ _) (by rw [upw_ne _ _ _ (by omega), upw_self]) (fun j h1 h2 => by rw [upw_ne _ _ _ h1, upw_ne _ _ _ h2])
  exact (clW.push (c := cArr 0 N (fun _ => 0)) hw trivial).up (okL_set (clW_fs hw hk hwk) (okV_R (Nat.lt_succ_self n)))
theorem qi_char {Γ : Gm} {l : Launch} {y : MethodName} {cc : ByteArray} {mL d mc ms : Nat} {pc n : Nat} {L : List AV} {cs : Nat × Nat} {w : Nat → AC} (hΓ : Ok Γ l y cc mL d mc ms) {idx ci i N k0 : Nat} {fs : List AV} (hd1 : decode cc pc = .ok (.newarray .char, 2)) (hd2 : decode cc (pc + 2) = .ok (.putfield idx, 3)) (hf : FLK y.cls idx ci i true (.array .char)) (hi : y.name = "<init>") (hC : ∀ C T N, vwCl[ci]? = some (C, T, N) → C = y.cls) (hN : N < 1000000) (hcs : cs.1 + 1 ≤ mc ∧ cs.2 + N ≤ ms) (hw : clW n w) (hokL : ∀ v ∈ L, okV n v) (hk : k0 < n) (hwk : w k0 = cObj ci fs) (hl : i < fs.length) (kk : ∀ w', clW (n + 1) w' → w' k0 = cObj ci (fs.set i (aR n)) → w' n = cArr 2 N (fun _ => 0) → (∀ j, j ≠ k0 → j ≠ n → w' j = w j) → Γ (pc + 2 + 3) L [] (cs.1 + 1, cs.2 + N) (n + 1) w') : Γ pc L [aZ N, aR k0] cs n w := by
  refine qa_newa_char hΓ hd1 rfl hN hcs hw hokL (okL_cons (okV_R hk) (okL_nil n)) ?_
  refine qa_putF hΓ hd2 hf hi hC (fun ad => ⟨rfl, rfl⟩) (by omega) (by rw [upw_ne _ _ _ (by omega)]; exact hwk) hl ?_
  refine kk _ ?_ (upw_self _ _ _) (by rw [upw_ne _ _ _ (by omega), upw_self]) (fun j h1 h2 => by rw [upw_ne _ _ _ h1, upw_ne _ _ _ h2])
  exact (clW.push (c := cArr 2 N (fun _ => 0)) hw trivial).up (okL_set (clW_fs hw hk hwk) (okV_R (Nat.lt_succ_self n)))
theorem qi_ref {Γ : Gm} {l : Launch} {y : MethodName} {cc : ByteArray} {mL d mc ms : Nat} {pc n : Nat} {L : List AV} {cs : Nat × Nat} {w : Nat → AC} (hΓ : Ok Γ l y cc mL d mc ms) {idx idx2 ci i N k0 : Nat} {fs : List AV} (hd1 : decode cc pc = .ok (.anewarray idx2, 3)) (hc : Cond.classLink y.cls idx2 "RelayBank$Bank" ∈ wsL_law) (hd2 : decode cc (pc + 3) = .ok (.putfield idx, 3)) (hf : FLK y.cls idx ci i true (.array (.object "RelayBank$Bank"))) (hi : y.name = "<init>") (hC : ∀ C T N, vwCl[ci]? = some (C, T, N) → C = y.cls) (hN : N < 1000000) (hcs : cs.1 + 1 ≤ mc ∧ cs.2 + N ≤ ms) (hw : clW n w) (hokL : ∀ v ∈ L, okV n v) (hk : k0 < n) (hwk : w k0 = cObj ci fs) (hl : i < fs.length) (kk : ∀ w', clW (n + 1) w' → w' k0 = cObj ci (fs.set i (aR n)) → w' n = cRef N (fun _ => none) → (∀ j, j ≠ k0 → j ≠ n → w' j = w j) → Γ (pc + 3 + 3) L [] (cs.1 + 1, cs.2 + N) (n + 1) w') : Γ pc L [aZ N, aR k0] cs n w := by
  refine qa_newq hΓ hd1 hc rfl hN hcs hw hokL (okL_cons (okV_R hk) (okL_nil n)) ?_
  refine qa_putF hΓ hd2 hf hi hC (fun ad => ⟨rfl, rfl⟩) (by omega) (by rw [upw_ne _ _ _ (by omega)]; exact hwk) hl ?_
  refine kk _ ?_ (upw_self _ _ _) (by rw [upw_ne _ _ _ (by omega), upw_self]) (fun j h1 h2 => by rw [upw_ne _ _ _ h1, upw_ne _ _ _ h2])
  exact (clW.push (c := cRef N (fun _ => none)) hw (fun j i h => by cases h)).up (okL_set (clW_fs hw hk hwk) (okV_R (Nat.lt_succ_self n)))
theorem zA_0 (t N : Nat) : cArr t N (fun _ => 0) = cArr t N (fun j => nI ((fun _ : Nat => 0) j)) := rfl
def bk0 : Bk := fun i _ => if i = 5 then NV else 0
theorem vc0 {C' : String} {C : String} {T : u_T} {N ci : Nat} {q : vw_C} (h0 : vwCl[ci]? = some q) (e : q.1 = C') (h : vwCl[ci]? = some (C, T, N)) : C = C' := by
  rw [h0] at h
  cases h
  exact e
theorem ok_dfX0 : ∀ v ∈ dfX0, okV 0 v := okL_cons (okV_N 0) (okL_cons (okV_N 0) (okL_cons (okV_N 0) (okL_cons (okV_N 0) (okL_cons (okV_N 0) (okL_cons (okV_N 0) (okL_cons (okV_I 0 _) (okL_cons (okV_I 0 _) (okL_cons (okV_I 0 _) (okL_cons (okV_I 0 _) (okL_cons (okV_I 0 _) (okL_cons (okV_I 0 _) (okL_cons (okV_I 0 _) (okL_cons (okV_I 0 _) (okL_cons (okV_I 0 _) (okL_nil 0)))))))))))))))
theorem ok_dfX2 : ∀ v ∈ dfX2, okV 0 v := okL_cons (okV_N 0) (okL_cons (okV_I 0 _) (okL_cons (okV_I 0 _) (okL_cons (okV_I 0 _) (okL_nil 0))))
theorem ok_dfX3 : ∀ v ∈ dfX3, okV 0 v := okL_cons (okV_N 0) (okL_cons (okV_I 0 _) (okL_cons (okV_I 0 _) (okL_nil 0)))
theorem ok_dfX4 : ∀ v ∈ dfX4, okV 0 v := okL_cons (okV_N 0) (okL_cons (okV_I 0 _) (okL_nil 0))
theorem ok_dfX5 : ∀ v ∈ dfX5, okV 0 v := okL_cons (okV_N 0) (okL_cons (okV_N 0) (okL_cons (okV_N 0) (okL_cons (okV_N 0) (okL_cons (okV_N 0) (okL_cons (okV_N 0) (okL_nil 0))))))
set_option maxRecDepth 100000 in
set_option maxHeartbeats 4000000 in
theorem c_X0_init (l : Launch) (d : Nat) (hd : 1 ≤ d) {k : Nat} {w : Nat → AC} (hw : clW (k + 1) w) (hk : w k = cObj 0 dfX0) : Sp l yX0_init cX0_init 2 none d 6 96 [aR k] (k + 1) w (fun r n' w' => r = none ∧ n' = k + 7 ∧ clW (k + 7) w' ∧ BkAt (k + 7) w' k bk0 ∧ ∀ j, j < k → w' j = w j) := by
  refine Sp.of (by decide) (Nat.le_of_ble_eq_true rfl) (fun Γ hΓ hR => ?_)
  show Γ 0 [aR k, none] [] (0, 0) (k + 1) w
  have hV : ∀ C T N, vwCl[0]? = some (C, T, N) → C = yX0_init.cls := fun C T N h => vc0 (ci := 0) rfl rfl h
  refine qa_aload_n hΓ dX0_init_0 rfl ?_
  refine qa_objInit hΓ dX0_init_1 lk_X0_3 hd (Nat.zero_le _) ?_
  have hL : ∀ m, k < m → ∀ v ∈ [aR k, (none : AV)], okV m v := fun m hm => okL_cons (okV_R hm) (okL_cons (okV_0 m) (okL_nil m))
  refine qa_aload_n hΓ dX0_init_4 rfl ?_
  refine qa_bipush (v := nI 8) hΓ dX0_init_5 bp_8 ?_
  refine qi_int hΓ dX0_init_7 dX0_init_9 fk_X0_9 rfl hV (by decide) ⟨by decide, by decide⟩ hw (hL _ (by omega)) (by omega) hk (by simp [dfX0]) (fun w1 hw1 hk1 ha0 hf0 => ?_)
  refine qa_aload_n hΓ dX0_init_12 rfl ?_
  refine qa_bipush (v := nI 8) hΓ dX0_init_13 bp_8 ?_
  refine qi_int hΓ dX0_init_15 dX0_init_17 fk_X0_15 rfl hV (by decide) ⟨by decide, by decide⟩ hw1 (hL _ (by omega)) (by omega) hk1 (by simp [dfX0]) (fun w2 hw2 hk2 ha1 hf1 => ?_)
  refine qa_aload_n hΓ dX0_init_20 rfl ?_
  refine qa_bipush (v := nI 8) hΓ dX0_init_21 bp_8 ?_
  refine qi_int hΓ dX0_init_23 dX0_init_25 fk_X0_18 rfl hV (by decide) ⟨by decide, by decide⟩ hw2 (hL _ (by omega)) (by omega) hk2 (by simp [dfX0]) (fun w3 hw3 hk3 ha2 hf2 => ?_)
  refine qa_aload_n hΓ dX0_init_28 rfl ?_
  refine qa_bipush (v := nI 8) hΓ dX0_init_29 bp_8 ?_
  refine qi_int hΓ dX0_init_31 dX0_init_33 fk_X0_21 rfl hV (by decide) ⟨by decide, by decide⟩ hw3 (hL _ (by omega)) (by omega) hk3 (by simp [dfX0]) (fun w4 hw4 hk4 ha3 hf3 => ?_)
  refine qa_aload_n hΓ dX0_init_36 rfl ?_
  refine qa_bipush (v := nI 48) hΓ dX0_init_37 bp_48 ?_
  refine qi_int hΓ dX0_init_39 dX0_init_41 fk_X0_24 rfl hV (by decide) ⟨by decide, by decide⟩ hw4 (hL _ (by omega)) (by omega) hk4 (by simp [dfX0]) (fun w5 hw5 hk5 ha4 hf4 => ?_)
  refine qa_aload_n hΓ dX0_init_44 rfl ?_
  refine qa_bipush (v := nI 16) hΓ dX0_init_45 bp_16 ?_
  refine qi_int hΓ dX0_init_47 dX0_init_49 fk_X0_27 rfl hV (by decide) ⟨by decide, by decide⟩ hw5 (hL _ (by omega)) (by omega) hk5 (by simp [dfX0]) (fun w6 hw6 hk6 ha5 hf5 => ?_)
  have hr0 : w6 (k + 1) = zA 8 (fun _ => 0) := by rw [hf5 _ (by omega) (by omega), hf4 _ (by omega) (by omega), hf3 _ (by omega) (by omega), hf2 _ (by omega) (by omega), hf1 _ (by omega) (by omega)]; exact ha0
  have hr1 : w6 (k + 2) = zA 8 (fun _ => 0) := by rw [hf5 _ (by omega) (by omega), hf4 _ (by omega) (by omega), hf3 _ (by omega) (by omega), hf2 _ (by omega) (by omega)]; exact ha1
  have hr2 : w6 (k + 3) = zA 8 (fun _ => 0) := by rw [hf5 _ (by omega) (by omega), hf4 _ (by omega) (by omega), hf3 _ (by omega) (by omega)]; exact ha2
  have hr3 : w6 (k + 4) = zA 8 (fun _ => 0) := by rw [hf5 _ (by omega) (by omega), hf4 _ (by omega) (by omega)]; exact ha3
  have hr4 : w6 (k + 5) = zA 48 (fun _ => 0) := by rw [hf5 _ (by omega) (by omega)]; exact ha4
  have hr5 : w6 (k + 6) = zA 16 (fun _ => 0) := ha5
  have hro : w6 k = bkObj k bk0 := hk6
  have hold : ∀ j, j < k → w6 j = w j := fun j hj => by rw [hf5 _ (by omega) (by omega), hf4 _ (by omega) (by omega), hf3 _ (by omega) (by omega), hf2 _ (by omega) (by omega), hf1 _ (by omega) (by omega), hf0 _ (by omega) (by omega)]
  have loop : ∀ (m i : Nat) (w1 : Nat → AC), i + m = 16 → w1 (k + 6) = zA 16 (fun j => if j < i then NV else 0) → clW (k + 7) w1 → (∀ j, j ≠ k + 6 → w1 j = w6 j) → Γ 54 [aR k, aZ i] [] (6, 96) (k + 7) w1 := by
    intro m
    induction m with
    | zero =>
      intro i w1 him ha hcl hfr
      refine qa_iload_n hΓ dX0_init_54 rfl ?_
      refine qa_aload_n hΓ dX0_init_55 rfl ?_
      refine qa_get hΓ dX0_init_56 fk_X0_27 (by omega) ((hfr k (by omega)).trans hro) rfl ?_
      refine qa_alen hΓ dX0_init_59 (by omega) ha (by decide) rfl ?_
      refine qz_icmp_ge (tgt := 77) hΓ dX0_init_60 (by decide) (by omega) (by decide) (fun _ => ?_) (fun h => absurd h (by omega))
      refine qa_ext (w' := upw w1 (k + 6) (zA 16 (fun _ => NV))) hΓ (fun j hj => ?_) ?_
      · by_cases e : j = k + 6
        · subst e
          rw [upw_self, ha]
          exact Or.inr ⟨_, _, _, _, rfl, rfl, fun j hj => by show nI (if j < i then NV else 0) = nI NV; rw [if_pos (by omega)]⟩
        · rw [upw_ne _ _ _ e]
          exact Or.inl rfl
      · refine hR.2.1 _ _ _ _ _ dX0_init_77 rfl (Nat.le_refl _) (Nat.le_refl _) ⟨rfl, rfl, hcl.up trivial, ⟨Nat.le_refl _, ?_, fun i hi => ?_⟩, fun j hj => by rw [upw_ne _ _ _ (by omega), hfr _ (by omega)]; exact hold j hj⟩
        · rw [upw_ne _ _ _ (by omega), hfr _ (by omega)]
          exact hro
        · rcases (show i = 0 ∨ i = 1 ∨ i = 2 ∨ i = 3 ∨ i = 4 ∨ i = 5 by omega) with rfl | rfl | rfl | rfl | rfl | rfl
          · rw [upw_ne _ _ _ (by omega), hfr _ (by omega)]; exact hr0
          · rw [upw_ne _ _ _ (by omega), hfr _ (by omega)]; exact hr1
          · rw [upw_ne _ _ _ (by omega), hfr _ (by omega)]; exact hr2
          · rw [upw_ne _ _ _ (by omega), hfr _ (by omega)]; exact hr3
          · rw [upw_ne _ _ _ (by omega), hfr _ (by omega)]; exact hr4
          · exact upw_self _ _ _
    | succ m ih =>
      intro i w1 him ha hcl hfr
      refine qa_iload_n hΓ dX0_init_54 rfl ?_
      refine qa_aload_n hΓ dX0_init_55 rfl ?_
      refine qa_get hΓ dX0_init_56 fk_X0_27 (by omega) ((hfr k (by omega)).trans hro) rfl ?_
      refine qa_alen hΓ dX0_init_59 (by omega) ha (by decide) rfl ?_
      refine qz_icmp_ge (tgt := 77) hΓ dX0_init_60 (by decide) (by omega) (by decide) (fun h => absurd h (by omega)) (fun _ => ?_)
      refine qa_aload_n hΓ dX0_init_63 rfl ?_
      refine qa_get hΓ dX0_init_64 fk_X0_27 (by omega) ((hfr k (by omega)).trans hro) rfl ?_
      refine qa_iload_n hΓ dX0_init_67 rfl ?_
      refine qa_ldc (v := nI NV) hΓ dX0_init_68 ck_X0_30 ?_
      refine qz_iast hΓ dX0_init_70 (by omega) ha (by omega) (by decide) ?_
      refine qz_iinc hΓ dX0_init_71 ii_1 rfl (by decide) ?_
      refine qa_goto (tgt := 54) hΓ dX0_init_74 (by decide) ?_
      refine ih (i + 1) _ (by omega) ?_ (hcl.up trivial) (fun j hj => by rw [upw_ne _ _ _ hj]; exact hfr j hj)
      rw [upw_self]
      congr 3
      funext j
      by_cases e : j = i
      · subst e
        rw [upN_self, if_pos (by omega)]
      · rw [upN_ne _ _ _ e]
        by_cases e2 : j < i
        · rw [if_pos e2, if_pos (by omega)]
        · rw [if_neg e2, if_neg (by omega)]
  refine qa_iconst (v := nI 0) hΓ dX0_init_52 ic_0 ?_
  refine qa_istore_n hΓ dX0_init_53 (by decide) ?_
  refine loop 16 0 w6 (by omega) ?_ hw6 (fun _ _ => rfl)
  rw [hr5]
  rfl
set_option maxRecDepth 100000 in
set_option maxHeartbeats 4000000 in
theorem c_X4_init (l : Launch) (d : Nat) (hd : 1 ≤ d) {k : Nat} {w : Nat → AC} (hw : clW (k + 1) w) (hk : w k = cObj 3 dfX4) : Sp l yX4_init cX4_init 1 none d 1 60 [aR k] (k + 1) w (fun r n' w' => r = none ∧ n' = k + 2 ∧ clW (k + 2) w' ∧ XtAt (k + 2) w' k (fun _ => 0) 0 ∧ ∀ j, j < k → w' j = w j) := by
  refine Sp.of (by decide) (Nat.le_of_ble_eq_true rfl) (fun Γ hΓ hR => ?_)
  show Γ 0 [aR k] [] (0, 0) (k + 1) w
  refine qa_aload_n hΓ dX4_init_0 rfl ?_
  refine qa_objInit hΓ dX4_init_1 lk_X4_3 hd (Nat.zero_le _) ?_
  refine qa_aload_n hΓ dX4_init_4 rfl ?_
  refine qa_bipush (v := nI 60) hΓ dX4_init_5 bp_60 ?_
  refine qi_char hΓ dX4_init_7 dX4_init_9 fk_X4_9 rfl (fun C T N h => vc0 (ci := 3) rfl rfl h) (by decide) ⟨by decide, by decide⟩ hw (okL_cons (okV_R (by omega)) (okL_nil _)) (by omega) hk (by decide) (fun w1 hw1 hk1 ha hf => ?_)
  exact hR.2.1 _ _ _ _ _ dX4_init_12 rfl (Nat.le_refl _) (Nat.le_refl _) ⟨rfl, rfl, hw1, ⟨Nat.le_refl _, hk1, ha⟩, fun j hj => hf j (by omega) (by omega)⟩
set_option maxRecDepth 100000 in
set_option maxHeartbeats 4000000 in
theorem c_X2_init (l : Launch) (d : Nat) (hd : 1 ≤ d) {k : Nat} {w : Nat → AC} (hw : clW (k + 1) w) (hk : w k = cObj 1 dfX2) : Sp l yX2_init cX2_init 1 none d 1 6 [aR k] (k + 1) w (fun r n' w' => r = none ∧ n' = k + 2 ∧ clW (k + 2) w' ∧ RdAt (k + 2) w' k (fun _ => 0) 0 0 0 ∧ ∀ j, j < k → w' j = w j) := by
  refine Sp.of (by decide) (Nat.le_of_ble_eq_true rfl) (fun Γ hΓ hR => ?_)
  show Γ 0 [aR k] [] (0, 0) (k + 1) w
  refine qa_aload_n hΓ dX2_init_0 rfl ?_
  refine qa_objInit hΓ dX2_init_1 lk_X2_3 hd (Nat.zero_le _) ?_
  refine qa_aload_n hΓ dX2_init_4 rfl ?_
  refine qa_bipush (v := nI 6) hΓ dX2_init_5 bp_6 ?_
  refine qi_int hΓ dX2_init_7 dX2_init_9 fk_X2_9 rfl (fun C T N h => vc0 (ci := 1) rfl rfl h) (by decide) ⟨by decide, by decide⟩ hw (okL_cons (okV_R (by omega)) (okL_nil _)) (by omega) hk (by decide) (fun w1 hw1 hk1 ha hf => ?_)
  exact hR.2.1 _ _ _ _ _ dX2_init_12 rfl (Nat.le_refl _) (Nat.le_refl _) ⟨rfl, rfl, hw1, ⟨Nat.le_refl _, hk1, ha⟩, fun j hj => hf j (by omega) (by omega)⟩
set_option maxRecDepth 100000 in
set_option maxHeartbeats 4000000 in
theorem c_X3_init (l : Launch) (d : Nat) (hd : 2 ≤ d) {w : Nat → AC} (hw : clW 9 w) (hk : w 8 = cObj 2 dfX3) : Sp l yX3_init cX3_init 2 none d 43 672 [aR 8] 9 w (fun r n' w' => r = none ∧ n' = 52 ∧ clW 52 w' ∧ PaAt 52 w' 0 0 (fun _ => bk0) ∧ ∀ j, j < 8 → w' j = w j) := by
  refine Sp.of (by decide) (Nat.le_of_ble_eq_true rfl) (fun Γ hΓ hR => ?_)
  show Γ 0 [aR 8, none] [] (0, 0) 9 w
  refine qa_aload_n hΓ dX3_init_0 rfl ?_
  refine qa_objInit hΓ dX3_init_1 lk_X3_3 (by omega) (Nat.zero_le _) ?_
  refine qa_aload_n hΓ dX3_init_4 rfl ?_
  refine qa_bipush (v := nI 6) hΓ dX3_init_5 bp_6 ?_
  refine qi_ref hΓ dX3_init_7 clk_X3_9 dX3_init_10 fk_X3_11 rfl (fun C T N h => vc0 (ci := 2) rfl rfl h) (by decide) ⟨by decide, by decide⟩ hw (okL_cons (okV_R (by decide)) (okL_cons (okV_0 _) (okL_nil _))) (by decide) hk (by decide) (fun w0 hw0 hk0 ha0 hf0 => ?_)
  have loop : ∀ (m i : Nat) (w1 : Nat → AC) (f : Nat → Option Nat), i + m = 6 → clW (10 + 7 * i) w1 → w1 8 = cObj 2 [aR 9, aZ 0, aZ 0] → w1 9 = cRef 6 f → (∀ j, j < i → f j = some (10 + 7 * j)) → (∀ j, j < i → BkAt (10 + 7 * i) w1 (10 + 7 * j) bk0) → (∀ j, j < 8 → w1 j = w j) → Γ 15 [aR 8, aZ i] [] (1 + 7 * i, 6 + 111 * i) (10 + 7 * i) w1 := by
    intro m
    induction m with
    | zero =>
      intro i w1 f him hcl h8 h9 hfi hb hfr
      have hi6 : i = 6 := by omega
      subst hi6
      refine qa_iload_n (L := [aR 8, aZ 6]) (j := 1) (x := nI 6) hΓ dX3_init_15 rfl ?_
      refine qa_aload_n hΓ dX3_init_16 rfl ?_
      refine qa_get hΓ dX3_init_17 fk_X3_11 (by decide) h8 rfl ?_
      refine qa_alenR hΓ dX3_init_20 (by decide) h9 rfl ?_
      refine qz_icmp_ge (tgt := 43) hΓ dX3_init_21 (by decide) (by decide) (by decide) (fun _ => ?_) (fun h => absurd h (by decide))
      exact hR.2.1 _ _ _ _ _ dX3_init_43 rfl (by decide) (by decide) ⟨rfl, rfl, hcl, ⟨h8, ⟨f, h9, hfi⟩, hb, by decide, by decide⟩, hfr⟩
    | succ m ih =>
      intro i w1 f him hcl h8 h9 hfi hb hfr
      refine qa_iload_n (L := [aR 8, aZ i]) (j := 1) (x := nI i) hΓ dX3_init_15 rfl ?_
      refine qa_aload_n hΓ dX3_init_16 rfl ?_
      refine qa_get hΓ dX3_init_17 fk_X3_11 (by omega) h8 rfl ?_
      refine qa_alenR hΓ dX3_init_20 (by omega) h9 rfl ?_
      refine qz_icmp_ge (tgt := 43) hΓ dX3_init_21 (by decide) (by omega) (by decide) (fun h => absurd h (by omega)) (fun _ => ?_)
      refine qa_aload_n hΓ dX3_init_24 rfl ?_
      refine qa_get hΓ dX3_init_25 fk_X3_11 (by omega) h8 rfl ?_
      refine qa_iload_n hΓ dX3_init_28 rfl ?_
      have hL : ∀ m, 9 < m → ∀ v ∈ [aR 8, aZ i], okV m v := fun m hm => okL_cons (okV_R (by omega)) (okL_cons (okV_I m _) (okL_nil m))
      have hS : ∀ m, 9 < m → ∀ v ∈ [aZ i, aR 9], okV m v := fun m hm => okL_cons (okV_I m _) (okL_cons (okV_R (by omega)) (okL_nil m))
      refine qa_new hΓ dX3_init_29 cl_X3_9 ⟨by show 1 + 7 * i + 1 ≤ 43; omega, by show 6 + 111 * i + 15 ≤ 672; omega⟩ hcl (hL _ (by omega)) (hS _ (by omega)) ?_
      refine qa_dup hΓ dX3_init_32 ?_
      obtain ⟨w2, hw2⟩ : ∃ X, X = upw w1 (10 + 7 * i) (cObj 0 dfX0) := ⟨_, rfl⟩
      have hcl2 : clW (10 + 7 * i + 1) w2 := by
        rw [hw2]
        refine hcl.push (fun v hv => ?_)
        exact (ok_dfX0 v hv).mono (Nat.zero_le _)
      have h2s : w2 (10 + 7 * i) = cObj 0 dfX0 := by rw [hw2]; exact upw_self _ _ _
      have h2o : ∀ j, j ≠ 10 + 7 * i → w2 j = w1 j := fun j hj => by rw [hw2]; exact upw_ne _ _ _ hj
      rw [← hw2]
      refine qa_callI hΓ dX3_init_33 lk_X3_17 iw_X0_init (c_X0_init l (d - 1) (by omega) hcl2 h2s) (by omega) rfl rfl (Nat.le_of_ble_eq_true rfl) ⟨by show 1 + 7 * i + 1 + 6 ≤ 43; omega, by show 6 + 111 * i + 15 + 96 ≤ 672; omega⟩ (fun r n' w' h => h.1) (hL _ (by omega)) (okL_cons (okV_R (by omega)) (hS _ (by omega))) (fun n' w3 hn h => ?_)
      obtain ⟨-, rfl, hcl3, hB3, hfr3⟩ := h
      refine qa_aast hΓ (ci := 0) dX3_init_36 (by omega) ((hfr3 9 (by omega)).trans ((h2o 9 (by omega)).trans h9)) (by omega) hB3.o (vp_in_nI (by omega) (by decide)) ?_
      rw [nI_clamp (by omega)]
      refine qz_iinc hΓ dX3_init_37 ii_1 rfl (by decide) ?_
      refine qa_goto (tgt := 15) hΓ dX3_init_40 (by decide) ?_
      show Γ 15 [aR 8, aZ (i + 1)] [] (1 + 7 * i + 1 + 6, 6 + 111 * i + 15 + 96) (10 + 7 * i + 7) _
      rw [show 1 + 7 * i + 1 + 6 = 1 + 7 * (i + 1) by omega, show 6 + 111 * i + 15 + 96 = 6 + 111 * (i + 1) by omega, show 10 + 7 * i + 7 = 10 + 7 * (i + 1) by omega]
      rw [show 10 + 7 * i + 7 = 10 + 7 * (i + 1) by omega] at hcl3 hB3
      refine ih (i + 1) _ (va_up f i (some (10 + 7 * i))) (by omega) (hcl3.up (fun j q h => ?_)) ?_ (upw_self _ _ _) (fun j hj => ?_) (fun j hj => ?_) (fun j hj => ?_)
      · have h9c := hcl 9 (by omega)
        rw [h9] at h9c
        unfold va_up at h
        split at h
        · cases h
          omega
        · have := h9c j q h
          omega
      · rw [upw_ne _ _ _ (by decide), hfr3 8 (by omega), h2o 8 (by omega)]
        exact h8
      · unfold va_up
        by_cases e : j = i
        · subst e
          rw [if_pos rfl]
        · rw [if_neg e]
          exact hfi j (by omega)
      · have hF : Fr 9 1 w3 (upw w3 9 (cRef 6 (va_up f i (some (10 + 7 * i))))) := Fr.up (by omega) (by omega)
        by_cases e : j = i
        · subst e
          exact hB3.ofFr hF (by omega)
        · refine BkAt.ofFr ?_ hF (by omega)
          obtain ⟨b1, b2, b3⟩ := hb j (by omega)
          refine ⟨by omega, ?_, fun i' hi' => ?_⟩
          · rw [hfr3 _ (by omega), h2o _ (by omega)]
            exact b2
          · rw [hfr3 _ (by omega), h2o _ (by omega)]
            exact b3 i' hi'
      · rw [upw_ne _ _ _ (by omega), hfr3 _ (by omega), h2o _ (by omega)]
        exact hfr j hj
  refine qa_iconst (v := nI 0) hΓ dX3_init_13 ic_0 ?_
  refine qa_istore_n hΓ dX3_init_14 (by decide) ?_
  exact loop 6 0 w0 _ (by omega) hw0 hk0 ha0 (fun j hj => absurd hj (by omega)) (fun j hj => absurd hj (by omega)) (fun j hj => hf0 j (by omega) (by omega))
end
section
/-! The class: an object of it is made -/
theorem BkAt.keep {n n' k : Nat} {w w' : Nat → AC} {b : Bk} (h : BkAt n w k b) (hn : n ≤ n') (hF : ∀ j, k ≤ j → j < k + 7 → w' j = w j) : BkAt n' w' k b := ⟨by have := h.1; omega, (hF k (by omega) (by omega)).trans h.2.1, fun i hi => (hF _ (by omega) (by omega)).trans (h.2.2 i hi)⟩
theorem PaAt.keep {n n' ol sz : Nat} {w w' : Nat → AC} {p : Nat → Bk} (h : PaAt n w ol sz p) (hn : n ≤ n') (hF : ∀ j, 8 ≤ j → j < 52 → w' j = w j) : PaAt n' w' ol sz p := ⟨(hF 8 (by omega) (by omega)).trans h.1, ⟨h.2.1.choose, (hF 9 (by omega) (by omega)).trans h.2.1.choose_spec.1, h.2.1.choose_spec.2⟩, fun i hi => (h.2.2.1 i hi).keep hn (fun j h1 h2 => hF j (by omega) (by omega)), h.2.2.2⟩
theorem XtAt.keep {n n' k N : Nat} {w w' : Nat → AC} {T : Nat → Nat} (h : XtAt n w k T N) (hn : n ≤ n') (hF : ∀ j, k ≤ j → j < k + 2 → w' j = w j) : XtAt n' w' k T N := ⟨by have := h.1; omega, (hF k (by omega) (by omega)).trans h.2.1, (hF _ (by omega) (by omega)).trans h.2.2⟩
theorem RdAt.keep {n n' k z R q : Nat} {w w' : Nat → AC} {g : Nat → Nat} (h : RdAt n w k g z R q) (hn : n ≤ n') (hF : ∀ j, k ≤ j → j < k + 2 → w' j = w j) : RdAt n' w' k g z R q := ⟨by have := h.1; omega, (hF k (by omega) (by omega)).trans h.2.1, (hF _ (by omega) (by omega)).trans h.2.2⟩
theorem WX.keep {n n' : Nat} {w w' : Nat → AC} {b : Bk} {ol sz : Nat} {p : Nat → Bk} {T : Nat → Nat} {N : Nat} {g : Nat → Nat} {z R q : Nat} {c1 c2 : Bk} (h : WX n w b ol sz p T N g z R q c1 c2) (hn : n ≤ n') (hF : ∀ j, j < 70 → w' j = w j) : WX n' w' b ol sz p T N g z R q c1 c2 := ⟨(hF 0 (by decide)).trans h.1, h.now.keep hn (fun j _ h2 => hF j (by omega)), h.past.keep hn (fun j _ h2 => hF j (by omega)), h.text.keep hn (fun j _ h2 => hF j (by omega)), h.rdr.keep hn (fun j _ h2 => hF j (by omega)), h.chg.keep hn (fun j _ h2 => hF j (by omega)), h.tri.keep hn (fun j _ h2 => hF j (by omega)), h.gl⟩
theorem CW.fr {M : Bk} {B n m : Nat} {w w' : Nat → AC} (h : CW M B n w) (hF : Fr 70 m w w') : CW M B n w' := by
  obtain ⟨b, ol, p, g, z, R, q, c1, c2, hZ, hX⟩ := h
  exact ⟨b, ol, p, g, z, R, q, c1, c2, hZ.ofFr hF (Nat.le_refl _), hX⟩
def M00 : Bk := fun _ _ => 0
theorem CW.zero {n : Nat} {w : Nat → AC} (h : WX n w bk0 0 0 (fun _ => bk0) (fun _ => 0) 0 (fun _ => 0) 0 0 0 bk0 bk0) : CW M00 0 n w := by
  refine ⟨bk0, 0, fun _ => bk0, fun _ => 0, 0, 0, 0, bk0, bk0, h, ?_, fun r hr => ?_, fun r hr => ?_, ?_, ?_, fun i hi => ?_, ?_, fun j => ?_⟩
  · exact ⟨⟨rfl, rfl, rfl⟩, fun r hr => absurd hr (Nat.not_lt_zero r), ⟨rfl, rfl, rfl, rfl, rfl, rfl⟩, fun r hr => absurd hr (Nat.not_lt_zero r), fun r _ _ => ⟨rfl, rfl, rfl⟩⟩
  · exact absurd hr (Nat.not_lt_zero r)
  · exact absurd hr (Nat.not_lt_zero r)
  · exact ⟨by show 0 < 256; decide, Nat.zero_le _, Nat.le_refl _, fun r hr => absurd hr (Nat.not_lt_zero r)⟩
  · exact Nat.zero_le _
  · exact absurd hi (Nat.not_lt_zero i)
  · exact Nat.zero_le _
  · show 0 < 256
    decide
set_option maxRecDepth 100000 in
set_option maxHeartbeats 4000000 in
theorem c_X5_init (l : Launch) (d : Nat) (hd : 3 ≤ d) {w : Nat → AC} (hw0 : clW 1 w) (hk0 : w 0 = cObj 4 dfX5) : Sp l yX5_init cX5_init 1 none d 69 1080 [aR 0] 1 w (fun r n' w' => r = none ∧ n' = 70 ∧ clW 70 w' ∧ WX 70 w' bk0 0 0 (fun _ => bk0) (fun _ => 0) 0 (fun _ => 0) 0 0 0 bk0 bk0) := by
  refine Sp.of (by decide) (Nat.le_of_ble_eq_true rfl) (fun Γ hΓ hR => ?_)
  show Γ 0 [aR 0] [] (0, 0) 1 w
  have hV : ∀ C T N, vwCl[4]? = some (C, T, N) → C = yX5_init.cls := fun C T N h => vc0 (ci := 4) rfl rfl h
  have hL : ∀ m, 0 < m → ∀ v ∈ [aR 0], okV m v := fun m hm => okL_cons (okV_R hm) (okL_nil m)
  have hL2 : ∀ m k, 0 < m → k < m → ∀ v ∈ [aR k, aR 0], okV m v := fun m k hm hk => okL_cons (okV_R hk) (hL m hm)
  refine qa_aload_n hΓ dX5_init_0 rfl ?_
  refine qa_objInit hΓ dX5_init_1 lk_X5_3 (by omega) (Nat.zero_le _) ?_
  obtain ⟨w0, hww⟩ : ∃ X, X = w := ⟨_, rfl⟩
  rw [← hww] at hw0 hk0 ⊢
  refine qa_aload_n hΓ dX5_init_4 rfl ?_
  refine qa_new hΓ dX5_init_5 cl_X5_9 ⟨by decide, by decide⟩ hw0 (hL _ (by decide)) (hL _ (by decide)) ?_
  refine qa_dup hΓ dX5_init_8 ?_
  obtain ⟨u0, hu0⟩ : ∃ X, X = upw w0 1 (cObj 0 dfX0) := ⟨_, rfl⟩
  have hclu0 : clW 2 u0 := by rw [hu0]; exact hw0.push (fun v hv => (ok_dfX0 v hv).mono (Nat.zero_le _))
  have hsu0 : u0 1 = cObj 0 dfX0 := by rw [hu0]; exact upw_self _ _ _
  have hou0 : ∀ j, j ≠ 1 → u0 j = w0 j := fun j hj => by rw [hu0]; exact upw_ne _ _ _ hj
  rw [← hu0]
  refine qa_callI hΓ dX5_init_9 lk_X5_11 iw_X0_init (c_X0_init l (d - 1) (by omega) hclu0 hsu0) (by omega) rfl rfl (Nat.le_of_ble_eq_true rfl) ⟨by decide, by decide⟩ (fun r n' w' h => h.1) (hL _ (by decide)) (hL2 _ _ (by decide) (by decide)) (fun n' v0 hn h => ?_)
  obtain ⟨-, rfl, hclv0, hD0, hfrv0⟩ := h
  have h0v0 : v0 0 = cObj 4 (dfX5) := (hfrv0 0 (by decide)).trans ((hou0 0 (by decide)).trans hk0)
  refine qa_putF hΓ dX5_init_12 fk_X5_12 rfl hV (fun ad => ⟨rfl, rfl⟩) (by decide) h0v0 (by decide) ?_
  obtain ⟨w1, ew1⟩ : ∃ X, X = upw v0 0 (cObj 4 ((dfX5).set 0 (aR 1))) := ⟨_, rfl⟩
  have hw1 : clW 8 w1 := by rw [ew1]; exact hclv0.up (okL_set' (clW_fs hclv0 (by decide) h0v0) (okV_R (by decide)))
  have hk1 : w1 0 = cObj 4 ((dfX5).set 0 (aR 1)) := by rw [ew1]; exact upw_self _ _ _
  have hv1 : ∀ j, 1 ≤ j → w1 j = v0 j := fun j hj => by rw [ew1]; exact upw_ne _ _ _ (by omega)
  have ho1 : ∀ j, 1 ≤ j → j < 1 → w1 j = w0 j := fun j h1 h2 => by rw [hv1 j h1, hfrv0 j (by omega), hou0 j (by omega)]
  show Γ 15 [aR 0] [] (7, 111) 8 (upw v0 0 (cObj 4 ((dfX5).set 0 (aR 1))))
  rw [← ew1]
  refine qa_aload_n hΓ dX5_init_15 rfl ?_
  refine qa_new hΓ dX5_init_16 cl_X5_16 ⟨by decide, by decide⟩ hw1 (hL _ (by decide)) (hL _ (by decide)) ?_
  refine qa_dup hΓ dX5_init_19 ?_
  obtain ⟨u1, hu1⟩ : ∃ X, X = upw w1 8 (cObj 2 dfX3) := ⟨_, rfl⟩
  have hclu1 : clW 9 u1 := by rw [hu1]; exact hw1.push (fun v hv => (ok_dfX3 v hv).mono (Nat.zero_le _))
  have hsu1 : u1 8 = cObj 2 dfX3 := by rw [hu1]; exact upw_self _ _ _
  have hou1 : ∀ j, j ≠ 8 → u1 j = w1 j := fun j hj => by rw [hu1]; exact upw_ne _ _ _ hj
  rw [← hu1]
  refine qa_callI hΓ dX5_init_20 lk_X5_18 iw_X3_init (c_X3_init l (d - 1) (by omega) hclu1 hsu1) (by omega) rfl rfl (Nat.le_of_ble_eq_true rfl) ⟨by decide, by decide⟩ (fun r n' w' h => h.1) (hL _ (by decide)) (hL2 _ _ (by decide) (by decide)) (fun n' v1 hn h => ?_)
  obtain ⟨-, rfl, hclv1, hD1, hfrv1⟩ := h
  have h0v1 : v1 0 = cObj 4 ((dfX5).set 0 (aR 1)) := (hfrv1 0 (by decide)).trans ((hou1 0 (by decide)).trans hk1)
  refine qa_putF hΓ dX5_init_23 fk_X5_19 rfl hV (fun ad => ⟨rfl, rfl⟩) (by decide) h0v1 (by decide) ?_
  obtain ⟨w2, ew2⟩ : ∃ X, X = upw v1 0 (cObj 4 (((dfX5).set 0 (aR 1)).set 1 (aR 8))) := ⟨_, rfl⟩
  have hw2 : clW 52 w2 := by rw [ew2]; exact hclv1.up (okL_set' (clW_fs hclv1 (by decide) h0v1) (okV_R (by decide)))
  have hk2 : w2 0 = cObj 4 (((dfX5).set 0 (aR 1)).set 1 (aR 8)) := by rw [ew2]; exact upw_self _ _ _
  have hv2 : ∀ j, 1 ≤ j → w2 j = v1 j := fun j hj => by rw [ew2]; exact upw_ne _ _ _ (by omega)
  have ho2 : ∀ j, 1 ≤ j → j < 8 → w2 j = w1 j := fun j h1 h2 => by rw [hv2 j h1, hfrv1 j (by omega), hou1 j (by omega)]
  show Γ 26 [aR 0] [] (51, 786) 52 (upw v1 0 (cObj 4 (((dfX5).set 0 (aR 1)).set 1 (aR 8))))
  rw [← ew2]
  refine qa_aload_n hΓ dX5_init_26 rfl ?_
  refine qa_new hΓ dX5_init_27 cl_X5_23 ⟨by decide, by decide⟩ hw2 (hL _ (by decide)) (hL _ (by decide)) ?_
  refine qa_dup hΓ dX5_init_30 ?_
  obtain ⟨u2, hu2⟩ : ∃ X, X = upw w2 52 (cObj 3 dfX4) := ⟨_, rfl⟩
  have hclu2 : clW 53 u2 := by rw [hu2]; exact hw2.push (fun v hv => (ok_dfX4 v hv).mono (Nat.zero_le _))
  have hsu2 : u2 52 = cObj 3 dfX4 := by rw [hu2]; exact upw_self _ _ _
  have hou2 : ∀ j, j ≠ 52 → u2 j = w2 j := fun j hj => by rw [hu2]; exact upw_ne _ _ _ hj
  rw [← hu2]
  refine qa_callIN hΓ dX5_init_31 nk_X5_25 iw_X4_init (c_X4_init l (d - 1) (by omega) hclu2 hsu2) (by omega) rfl rfl (Nat.le_of_ble_eq_true rfl) ⟨by decide, by decide⟩ (fun r n' w' h => h.1) (hL _ (by decide)) (hL2 _ _ (by decide) (by decide)) (fun n' v2 hn h => ?_)
  obtain ⟨-, rfl, hclv2, hD2, hfrv2⟩ := h
  have h0v2 : v2 0 = cObj 4 (((dfX5).set 0 (aR 1)).set 1 (aR 8)) := (hfrv2 0 (by decide)).trans ((hou2 0 (by decide)).trans hk2)
  refine qa_putF hΓ dX5_init_34 fk_X5_26 rfl hV (fun ad => ⟨rfl, rfl⟩) (by decide) h0v2 (by decide) ?_
  obtain ⟨w3, ew3⟩ : ∃ X, X = upw v2 0 (cObj 4 ((((dfX5).set 0 (aR 1)).set 1 (aR 8)).set 2 (aR 52))) := ⟨_, rfl⟩
  have hw3 : clW 54 w3 := by rw [ew3]; exact hclv2.up (okL_set' (clW_fs hclv2 (by decide) h0v2) (okV_R (by decide)))
  have hk3 : w3 0 = cObj 4 ((((dfX5).set 0 (aR 1)).set 1 (aR 8)).set 2 (aR 52)) := by rw [ew3]; exact upw_self _ _ _
  have hv3 : ∀ j, 1 ≤ j → w3 j = v2 j := fun j hj => by rw [ew3]; exact upw_ne _ _ _ (by omega)
  have ho3 : ∀ j, 1 ≤ j → j < 52 → w3 j = w2 j := fun j h1 h2 => by rw [hv3 j h1, hfrv2 j (by omega), hou2 j (by omega)]
  show Γ 37 [aR 0] [] (53, 848) 54 (upw v2 0 (cObj 4 ((((dfX5).set 0 (aR 1)).set 1 (aR 8)).set 2 (aR 52))))
  rw [← ew3]
  refine qa_aload_n hΓ dX5_init_37 rfl ?_
  refine qa_new hΓ dX5_init_38 cl_X5_30 ⟨by decide, by decide⟩ hw3 (hL _ (by decide)) (hL _ (by decide)) ?_
  refine qa_dup hΓ dX5_init_41 ?_
  obtain ⟨u3, hu3⟩ : ∃ X, X = upw w3 54 (cObj 1 dfX2) := ⟨_, rfl⟩
  have hclu3 : clW 55 u3 := by rw [hu3]; exact hw3.push (fun v hv => (ok_dfX2 v hv).mono (Nat.zero_le _))
  have hsu3 : u3 54 = cObj 1 dfX2 := by rw [hu3]; exact upw_self _ _ _
  have hou3 : ∀ j, j ≠ 54 → u3 j = w3 j := fun j hj => by rw [hu3]; exact upw_ne _ _ _ hj
  rw [← hu3]
  refine qa_callIN hΓ dX5_init_42 nk_X5_32 iw_X2_init (c_X2_init l (d - 1) (by omega) hclu3 hsu3) (by omega) rfl rfl (Nat.le_of_ble_eq_true rfl) ⟨by decide, by decide⟩ (fun r n' w' h => h.1) (hL _ (by decide)) (hL2 _ _ (by decide) (by decide)) (fun n' v3 hn h => ?_)
  obtain ⟨-, rfl, hclv3, hD3, hfrv3⟩ := h
  have h0v3 : v3 0 = cObj 4 ((((dfX5).set 0 (aR 1)).set 1 (aR 8)).set 2 (aR 52)) := (hfrv3 0 (by decide)).trans ((hou3 0 (by decide)).trans hk3)
  refine qa_putF hΓ dX5_init_45 fk_X5_33 rfl hV (fun ad => ⟨rfl, rfl⟩) (by decide) h0v3 (by decide) ?_
  obtain ⟨w4, ew4⟩ : ∃ X, X = upw v3 0 (cObj 4 (((((dfX5).set 0 (aR 1)).set 1 (aR 8)).set 2 (aR 52)).set 3 (aR 54))) := ⟨_, rfl⟩
  have hw4 : clW 56 w4 := by rw [ew4]; exact hclv3.up (okL_set' (clW_fs hclv3 (by decide) h0v3) (okV_R (by decide)))
  have hk4 : w4 0 = cObj 4 (((((dfX5).set 0 (aR 1)).set 1 (aR 8)).set 2 (aR 52)).set 3 (aR 54)) := by rw [ew4]; exact upw_self _ _ _
  have hv4 : ∀ j, 1 ≤ j → w4 j = v3 j := fun j hj => by rw [ew4]; exact upw_ne _ _ _ (by omega)
  have ho4 : ∀ j, 1 ≤ j → j < 54 → w4 j = w3 j := fun j h1 h2 => by rw [hv4 j h1, hfrv3 j (by omega), hou3 j (by omega)]
  show Γ 48 [aR 0] [] (55, 858) 56 (upw v3 0 (cObj 4 (((((dfX5).set 0 (aR 1)).set 1 (aR 8)).set 2 (aR 52)).set 3 (aR 54))))
  rw [← ew4]
  refine qa_aload_n hΓ dX5_init_48 rfl ?_
  refine qa_new hΓ dX5_init_49 cl_X5_9 ⟨by decide, by decide⟩ hw4 (hL _ (by decide)) (hL _ (by decide)) ?_
  refine qa_dup hΓ dX5_init_52 ?_
  obtain ⟨u4, hu4⟩ : ∃ X, X = upw w4 56 (cObj 0 dfX0) := ⟨_, rfl⟩
  have hclu4 : clW 57 u4 := by rw [hu4]; exact hw4.push (fun v hv => (ok_dfX0 v hv).mono (Nat.zero_le _))
  have hsu4 : u4 56 = cObj 0 dfX0 := by rw [hu4]; exact upw_self _ _ _
  have hou4 : ∀ j, j ≠ 56 → u4 j = w4 j := fun j hj => by rw [hu4]; exact upw_ne _ _ _ hj
  rw [← hu4]
  refine qa_callI hΓ dX5_init_53 lk_X5_11 iw_X0_init (c_X0_init l (d - 1) (by omega) hclu4 hsu4) (by omega) rfl rfl (Nat.le_of_ble_eq_true rfl) ⟨by decide, by decide⟩ (fun r n' w' h => h.1) (hL _ (by decide)) (hL2 _ _ (by decide) (by decide)) (fun n' v4 hn h => ?_)
  obtain ⟨-, rfl, hclv4, hD4, hfrv4⟩ := h
  have h0v4 : v4 0 = cObj 4 (((((dfX5).set 0 (aR 1)).set 1 (aR 8)).set 2 (aR 52)).set 3 (aR 54)) := (hfrv4 0 (by decide)).trans ((hou4 0 (by decide)).trans hk4)
  refine qa_putF hΓ dX5_init_56 fk_X5_37 rfl hV (fun ad => ⟨rfl, rfl⟩) (by decide) h0v4 (by decide) ?_
  obtain ⟨w5, ew5⟩ : ∃ X, X = upw v4 0 (cObj 4 ((((((dfX5).set 0 (aR 1)).set 1 (aR 8)).set 2 (aR 52)).set 3 (aR 54)).set 4 (aR 56))) := ⟨_, rfl⟩
  have hw5 : clW 63 w5 := by rw [ew5]; exact hclv4.up (okL_set' (clW_fs hclv4 (by decide) h0v4) (okV_R (by decide)))
  have hk5 : w5 0 = cObj 4 ((((((dfX5).set 0 (aR 1)).set 1 (aR 8)).set 2 (aR 52)).set 3 (aR 54)).set 4 (aR 56)) := by rw [ew5]; exact upw_self _ _ _
  have hv5 : ∀ j, 1 ≤ j → w5 j = v4 j := fun j hj => by rw [ew5]; exact upw_ne _ _ _ (by omega)
  have ho5 : ∀ j, 1 ≤ j → j < 56 → w5 j = w4 j := fun j h1 h2 => by rw [hv5 j h1, hfrv4 j (by omega), hou4 j (by omega)]
  show Γ 59 [aR 0] [] (62, 969) 63 (upw v4 0 (cObj 4 ((((((dfX5).set 0 (aR 1)).set 1 (aR 8)).set 2 (aR 52)).set 3 (aR 54)).set 4 (aR 56))))
  rw [← ew5]
  refine qa_aload_n hΓ dX5_init_59 rfl ?_
  refine qa_new hΓ dX5_init_60 cl_X5_9 ⟨by decide, by decide⟩ hw5 (hL _ (by decide)) (hL _ (by decide)) ?_
  refine qa_dup hΓ dX5_init_63 ?_
  obtain ⟨u5, hu5⟩ : ∃ X, X = upw w5 63 (cObj 0 dfX0) := ⟨_, rfl⟩
  have hclu5 : clW 64 u5 := by rw [hu5]; exact hw5.push (fun v hv => (ok_dfX0 v hv).mono (Nat.zero_le _))
  have hsu5 : u5 63 = cObj 0 dfX0 := by rw [hu5]; exact upw_self _ _ _
  have hou5 : ∀ j, j ≠ 63 → u5 j = w5 j := fun j hj => by rw [hu5]; exact upw_ne _ _ _ hj
  rw [← hu5]
  refine qa_callI hΓ dX5_init_64 lk_X5_11 iw_X0_init (c_X0_init l (d - 1) (by omega) hclu5 hsu5) (by omega) rfl rfl (Nat.le_of_ble_eq_true rfl) ⟨by decide, by decide⟩ (fun r n' w' h => h.1) (hL _ (by decide)) (hL2 _ _ (by decide) (by decide)) (fun n' v5 hn h => ?_)
  obtain ⟨-, rfl, hclv5, hD5, hfrv5⟩ := h
  have h0v5 : v5 0 = cObj 4 ((((((dfX5).set 0 (aR 1)).set 1 (aR 8)).set 2 (aR 52)).set 3 (aR 54)).set 4 (aR 56)) := (hfrv5 0 (by decide)).trans ((hou5 0 (by decide)).trans hk5)
  refine qa_putF hΓ dX5_init_67 fk_X5_40 rfl hV (fun ad => ⟨rfl, rfl⟩) (by decide) h0v5 (by decide) ?_
  obtain ⟨w6, ew6⟩ : ∃ X, X = upw v5 0 (cObj 4 (((((((dfX5).set 0 (aR 1)).set 1 (aR 8)).set 2 (aR 52)).set 3 (aR 54)).set 4 (aR 56)).set 5 (aR 63))) := ⟨_, rfl⟩
  have hw6 : clW 70 w6 := by rw [ew6]; exact hclv5.up (okL_set' (clW_fs hclv5 (by decide) h0v5) (okV_R (by decide)))
  have hk6 : w6 0 = cObj 4 (((((((dfX5).set 0 (aR 1)).set 1 (aR 8)).set 2 (aR 52)).set 3 (aR 54)).set 4 (aR 56)).set 5 (aR 63)) := by rw [ew6]; exact upw_self _ _ _
  have hv6 : ∀ j, 1 ≤ j → w6 j = v5 j := fun j hj => by rw [ew6]; exact upw_ne _ _ _ (by omega)
  have ho6 : ∀ j, 1 ≤ j → j < 63 → w6 j = w5 j := fun j h1 h2 => by rw [hv6 j h1, hfrv5 j (by omega), hou5 j (by omega)]
  show Γ 70 [aR 0] [] (69, 1080) 70 (upw v5 0 (cObj 4 (((((((dfX5).set 0 (aR 1)).set 1 (aR 8)).set 2 (aR 52)).set 3 (aR 54)).set 4 (aR 56)).set 5 (aR 63))))
  rw [← ew6]
  refine hR.2.1 _ _ _ _ _ dX5_init_70 rfl (Nat.le_refl _) (Nat.le_refl _) ⟨rfl, rfl, hw6, hk6, ?_, ?_, ?_, ?_, ?_, ?_, fun j hj => by show 0 < 4294967296; decide⟩
  · exact hD0.keep (by decide) (fun j h1 h2 => by rw [ho6 j (by omega) (by omega), ho5 j (by omega) (by omega), ho4 j (by omega) (by omega), ho3 j (by omega) (by omega), ho2 j (by omega) (by omega), hv1 j (by omega)])
  · exact hD1.keep (by decide) (fun j h1 h2 => by rw [ho6 j (by omega) (by omega), ho5 j (by omega) (by omega), ho4 j (by omega) (by omega), ho3 j (by omega) (by omega), hv2 j (by omega)])
  · exact hD2.keep (by decide) (fun j h1 h2 => by rw [ho6 j (by omega) (by omega), ho5 j (by omega) (by omega), ho4 j (by omega) (by omega), hv3 j (by omega)])
  · exact hD3.keep (by decide) (fun j h1 h2 => by rw [ho6 j (by omega) (by omega), ho5 j (by omega) (by omega), hv4 j (by omega)])
  · exact hD4.keep (by decide) (fun j h1 h2 => by rw [ho6 j (by omega) (by omega), hv5 j (by omega)])
  · exact hD5.keep (by decide) (fun j h1 h2 => by rw [hv6 j (by omega)])
end
section
theorem zz_last : True := trivial
end
