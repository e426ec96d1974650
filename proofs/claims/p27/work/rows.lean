section
-- ===== PART A: goes FIRST, ahead of the names: the tables' words, and 'selects' of the private methods out of them =====
/-- a private method of a class that the tables say can be made, by its rows of tables_1 -/
def lw_okq (q : MethodName × Nat) : Prop := (q.1.cls ≠ "java/lang/invoke/MethodHandle" ∧ q.1.cls ≠ "java/lang/invoke/VarHandle") ∧ Cond.instantiable q.1.cls q.2 ∈ tables_1 ∧ Cond.privateMethod q.1 ∈ tables_1 ∧ Cond.instanceMethod q.1 ∈ tables_1
theorem lw_p0 : lw_okq (⟨"RelayBank$Bank", "eventsBefore", "(I)I"⟩, 15) := ⟨⟨by decide +kernel, by decide +kernel⟩, List.mem_of_getElem? (i := 18) (by decide +kernel), List.mem_of_getElem? (i := 227) (by decide +kernel), List.mem_of_getElem? (i := 228) (by decide +kernel)⟩
theorem lw_p1 : lw_okq (⟨"RelayBank", "endingOf", "(LRelayBank$Bank;IZ)I"⟩, 6) := ⟨⟨by decide +kernel, by decide +kernel⟩, List.mem_of_getElem? (i := 10) (by decide +kernel), List.mem_of_getElem? (i := 246) (by decide +kernel), List.mem_of_getElem? (i := 247) (by decide +kernel)⟩
theorem lw_p2 : lw_okq (⟨"RelayBank$Bank", "moveArmature", "(I)V"⟩, 15) := ⟨⟨by decide +kernel, by decide +kernel⟩, List.mem_of_getElem? (i := 18) (by decide +kernel), List.mem_of_getElem? (i := 273) (by decide +kernel), List.mem_of_getElem? (i := 274) (by decide +kernel)⟩
theorem lw_p3 : lw_okq (⟨"RelayBank$Bank", "lookAtCoils", "()I"⟩, 15) := ⟨⟨by decide +kernel, by decide +kernel⟩, List.mem_of_getElem? (i := 18) (by decide +kernel), List.mem_of_getElem? (i := 277) (by decide +kernel), List.mem_of_getElem? (i := 278) (by decide +kernel)⟩
theorem lw_p4 : lw_okq (⟨"RelayBank$Bank", "turnCoil", "(I)V"⟩, 15) := ⟨⟨by decide +kernel, by decide +kernel⟩, List.mem_of_getElem? (i := 18) (by decide +kernel), List.mem_of_getElem? (i := 283) (by decide +kernel), List.mem_of_getElem? (i := 284) (by decide +kernel)⟩
theorem lw_p5 : lw_okq (⟨"RelayBank", "raceIn", "(LRelayBank$Bank;)I"⟩, 6) := ⟨⟨by decide +kernel, by decide +kernel⟩, List.mem_of_getElem? (i := 10) (by decide +kernel), List.mem_of_getElem? (i := 295) (by decide +kernel), List.mem_of_getElem? (i := 296) (by decide +kernel)⟩
theorem lw_p6 : lw_okq (⟨"RelayBank$Past", "bankAt", "(I)LRelayBank$Bank;"⟩, 3) := ⟨⟨by decide +kernel, by decide +kernel⟩, List.mem_of_getElem? (i := 83) (by decide +kernel), List.mem_of_getElem? (i := 307) (by decide +kernel), List.mem_of_getElem? (i := 308) (by decide +kernel)⟩
theorem lw_p7 : lw_okq (⟨"RelayBank$Bank", "putBranch", "(III)V"⟩, 15) := ⟨⟨by decide +kernel, by decide +kernel⟩, List.mem_of_getElem? (i := 18) (by decide +kernel), List.mem_of_getElem? (i := 376) (by decide +kernel), List.mem_of_getElem? (i := 377) (by decide +kernel)⟩
def lw_privs_1 : List (MethodName × Nat) := [(⟨"RelayBank$Bank", "eventsBefore", "(I)I"⟩, 15), (⟨"RelayBank", "endingOf", "(LRelayBank$Bank;IZ)I"⟩, 6), (⟨"RelayBank$Bank", "moveArmature", "(I)V"⟩, 15), (⟨"RelayBank$Bank", "lookAtCoils", "()I"⟩, 15), (⟨"RelayBank$Bank", "turnCoil", "(I)V"⟩, 15), (⟨"RelayBank", "raceIn", "(LRelayBank$Bank;)I"⟩, 6), (⟨"RelayBank$Past", "bankAt", "(I)LRelayBank$Bank;"⟩, 3), (⟨"RelayBank$Bank", "putBranch", "(III)V"⟩, 15)]
theorem lw_r1 : ∀ q ∈ lw_privs_1, lw_okq q := List.forall_mem_cons.mpr ⟨lw_p0, List.forall_mem_cons.mpr ⟨lw_p1, List.forall_mem_cons.mpr ⟨lw_p2, List.forall_mem_cons.mpr ⟨lw_p3, List.forall_mem_cons.mpr ⟨lw_p4, List.forall_mem_cons.mpr ⟨lw_p5, List.forall_mem_cons.mpr ⟨lw_p6, List.forall_mem_cons.mpr ⟨lw_p7, fun _ h => absurd h List.not_mem_nil⟩⟩⟩⟩⟩⟩⟩⟩
def lw_privs : List (MethodName × Nat) := lw_privs_1
def lw_tbl : List Cond := k2_sels lw_privs ++ tables_1
theorem lw_privs_ok : ∀ q ∈ lw_privs, lw_okq q := lw_r1
-- ===== end of PART A; then your names; then what follows =====
end
section
/-! ===== BEGIN words of one list among another's, by their places ===== -/
theorem goodIn_r {big : List Cond} (ws : List Cond) (ps : List Nat) (hp : ws = ps.filterMap (fun i => big[i]?)) (h : ws.all goodWord = true) : GoodIn big ws := by
  intro w hw
  have h1 := List.all_eq_true.mp h w hw
  rw [hp] at hw
  obtain ⟨i, -, hi⟩ := List.mem_filterMap.mp hw
  have hm : w ∈ big := by first | exact List.mem_of_getElem? hi | exact List.getElem?_mem hi
  exact ⟨hm, good_of_word h1⟩
theorem goodIn_app {big a b : List Cond} (ha : GoodIn big a) (hb : GoodIn big b) : GoodIn big (a ++ b) := fun w h => (List.mem_append.mp h).elim (ha w) (hb w)
theorem goodIn_ca {big a b : List Cond} {c : Cond} (ha : GoodIn big (c :: a)) (hb : GoodIn big b) : GoodIn big (c :: (a ++ b)) := fun w h => (List.mem_cons.mp h).elim (fun e => ha w (List.mem_cons.mpr (Or.inl e))) (fun h => (List.mem_append.mp h).elim (fun h => ha w (List.mem_cons.mpr (Or.inr h))) (hb w))
theorem goodIn_sub {big ws : List Cond} (hm : ∀ w ∈ ws, w ∈ big) (h : ws.all goodWord = true) : GoodIn big ws := fun w hw => ⟨hm w hw, good_of_word (List.all_eq_true.mp h w hw)⟩
/-! ===== END ===== -/

/-! ===== BEGIN printed: names, fields, word lists, decode rows ===== -/
def RX0 : String := "RelayBank$Bank"
def TX0 : u_T := fun k => match k with
  | 0 => ("RelayBank$Bank", "pickUps", "[I", true)
  | 1 => ("RelayBank$Bank", "releases", "[I", true)
  | 2 => ("RelayBank$Bank", "bounces", "[I", true)
  | 3 => ("RelayBank$Bank", "sizes", "[I", true)
  | 4 => ("RelayBank$Bank", "branches", "[I", true)
  | 5 => ("RelayBank$Bank", "dues", "[I", true)
  | 6 => ("RelayBank$Bank", "relays", "I", false)
  | 7 => ("RelayBank$Bank", "time", "I", false)
  | 8 => ("RelayBank$Bank", "keys", "I", false)
  | 9 => ("RelayBank$Bank", "fed", "I", false)
  | 10 => ("RelayBank$Bank", "attracted", "I", false)
  | 11 => ("RelayBank$Bank", "bouncing", "I", false)
  | 12 => ("RelayBank$Bank", "stuck", "I", false)
  | 13 => ("RelayBank$Bank", "alwaysOpen", "I", false)
  | _ => ("RelayBank$Bank", "alwaysClosed", "I", false)
def tyX0 : Nat → FieldType := fun k => match k with
  | 0 => .array .int
  | 1 => .array .int
  | 2 => .array .int
  | 3 => .array .int
  | 4 => .array .int
  | 5 => .array .int
  | 6 => .int
  | 7 => .int
  | 8 => .int
  | 9 => .int
  | 10 => .int
  | 11 => .int
  | 12 => .int
  | 13 => .int
  | _ => .int
abbrev wsX00 : List Cond := u_ws RX0 TX0 15
theorem nmX0 : ∀ a, a < 15 → ∀ b, b < 15 → a ≠ b → (TX0 a).2.1 ≠ (TX0 b).2.1 := by decide +kernel
theorem tyX0_ok : ∀ k, k < 15 → parseFieldDescriptor (TX0 k).2.2.1 = some (tyX0 k) := by decide +kernel
abbrev cX0_init : ByteArray := prog_2_method_1_code
def yX0_init : MethodName := ⟨RX0, "<init>", "()V"⟩
abbrev cX0_copy : ByteArray := prog_2_method_2_code
def yX0_copy : MethodName := ⟨RX0, "copy", "(LRelayBank$Bank;)V"⟩
abbrev cX0_has : ByteArray := prog_2_method_3_code
def yX0_has : MethodName := ⟨RX0, "has", "(I)Z"⟩
abbrev cX0_add : ByteArray := prog_2_method_4_code
def yX0_add : MethodName := ⟨RX0, "add", "(III)I"⟩
abbrev cX0_putDelays : ByteArray := prog_2_method_5_code
def yX0_putDelays : MethodName := ⟨RX0, "putDelays", "(IIII)Z"⟩
abbrev cX0_branchesOf : ByteArray := prog_2_method_6_code
def yX0_branchesOf : MethodName := ⟨RX0, "branchesOf", "(I)I"⟩
abbrev cX0_branchAt : ByteArray := prog_2_method_7_code
def yX0_branchAt : MethodName := ⟨RX0, "branchAt", "(II)I"⟩
abbrev cX0_putBranch : ByteArray := prog_2_method_8_code
def yX0_putBranch : MethodName := ⟨RX0, "putBranch", "(III)V"⟩
abbrev cX0_putCondition : ByteArray := prog_2_method_9_code
def yX0_putCondition : MethodName := ⟨RX0, "putCondition", "(IIII)I"⟩
abbrev cX0_dropBranch : ByteArray := prog_2_method_10_code
def yX0_dropBranch : MethodName := ⟨RX0, "dropBranch", "(II)I"⟩
abbrev cX0_concerns : ByteArray := prog_2_method_12_code
def yX0_concerns : MethodName := ⟨RX0, "concerns", "(II)Z"⟩
abbrev cX0_turnKey : ByteArray := prog_2_method_13_code
def yX0_turnKey : MethodName := ⟨RX0, "turnKey", "(I)I"⟩
abbrev cX0_faultOf : ByteArray := prog_2_method_14_code
def yX0_faultOf : MethodName := ⟨RX0, "faultOf", "(I)I"⟩
abbrev cX0_putFault : ByteArray := prog_2_method_15_code
def yX0_putFault : MethodName := ⟨RX0, "putFault", "(II)V"⟩
abbrev cX0_closedContacts : ByteArray := prog_2_method_16_code
def yX0_closedContacts : MethodName := ⟨RX0, "closedContacts", "()I"⟩
abbrev cX0_failing : ByteArray := prog_2_method_17_code
def yX0_failing : MethodName := ⟨RX0, "failing", "()I"⟩
abbrev cX0_conducts : ByteArray := prog_2_method_18_code
def yX0_conducts : MethodName := ⟨RX0, "conducts", "(II)Z"⟩
abbrev cX0_lookAtCoils : ByteArray := prog_2_method_20_code
def yX0_lookAtCoils : MethodName := ⟨RX0, "lookAtCoils", "()I"⟩
abbrev cX0_turnCoil : ByteArray := prog_2_method_21_code
def yX0_turnCoil : MethodName := ⟨RX0, "turnCoil", "(I)V"⟩
abbrev cX0_relayOf : ByteArray := prog_2_method_22_code
def yX0_relayOf : MethodName := ⟨RX0, "relayOf", "(I)I"⟩
abbrev cX0_isBounceEnd : ByteArray := prog_2_method_23_code
def yX0_isBounceEnd : MethodName := ⟨RX0, "isBounceEnd", "(I)Z"⟩
abbrev cX0_kindOf : ByteArray := prog_2_method_24_code
def yX0_kindOf : MethodName := ⟨RX0, "kindOf", "(I)I"⟩
abbrev cX0_waiting : ByteArray := prog_2_method_25_code
def yX0_waiting : MethodName := ⟨RX0, "waiting", "()I"⟩
abbrev cX0_isQuiet : ByteArray := prog_2_method_26_code
def yX0_isQuiet : MethodName := ⟨RX0, "isQuiet", "()Z"⟩
abbrev cX0_nextSlot : ByteArray := prog_2_method_27_code
def yX0_nextSlot : MethodName := ⟨RX0, "nextSlot", "(Z)I"⟩
abbrev cX0_slotAt : ByteArray := prog_2_method_28_code
def yX0_slotAt : MethodName := ⟨RX0, "slotAt", "(I)I"⟩
abbrev cX0_eventsBefore : ByteArray := prog_2_method_29_code
def yX0_eventsBefore : MethodName := ⟨RX0, "eventsBefore", "(I)I"⟩
abbrev cX0_happen : ByteArray := prog_2_method_30_code
def yX0_happen : MethodName := ⟨RX0, "happen", "(I)V"⟩
abbrev cX0_moveArmature : ByteArray := prog_2_method_31_code
def yX0_moveArmature : MethodName := ⟨RX0, "moveArmature", "(I)V"⟩
abbrev cX0_run : ByteArray := prog_2_method_32_code
def yX0_run : MethodName := ⟨RX0, "run", "(IIZ)I"⟩
def RX1 : String := "RelayBank$Branch"
def TX1 : u_T := fun k => match k with
  | _ => ("", "", "", false)
def tyX1 : Nat → FieldType := fun k => match k with
  | _ => .int
abbrev wsX10 : List Cond := u_ws RX1 TX1 0
theorem nmX1 : ∀ a, a < 0 → ∀ b, b < 0 → a ≠ b → (TX1 a).2.1 ≠ (TX1 b).2.1 := by decide +kernel
theorem tyX1_ok : ∀ k, k < 0 → parseFieldDescriptor (TX1 k).2.2.1 = some (tyX1 k) := by decide +kernel
abbrev cX1_bit : ByteArray := prog_3_method_2_code
def yX1_bit : MethodName := ⟨RX1, "bit", "(II)I"⟩
abbrev cX1_howOf : ByteArray := prog_3_method_3_code
def yX1_howOf : MethodName := ⟨RX1, "howOf", "(II)I"⟩
abbrev cX1_with : ByteArray := prog_3_method_4_code
def yX1_with : MethodName := ⟨RX1, "with", "(III)I"⟩
def RX2 : String := "RelayBank$CircuitReader"
def TX2 : u_T := fun k => match k with
  | 0 => ("RelayBank$CircuitReader", "branches", "[I", true)
  | 1 => ("RelayBank$CircuitReader", "size", "I", false)
  | 2 => ("RelayBank$CircuitReader", "relays", "I", false)
  | _ => ("RelayBank$CircuitReader", "place", "I", false)
def tyX2 : Nat → FieldType := fun k => match k with
  | 0 => .array .int
  | 1 => .int
  | 2 => .int
  | _ => .int
abbrev wsX20 : List Cond := u_ws RX2 TX2 4
theorem nmX2 : ∀ a, a < 4 → ∀ b, b < 4 → a ≠ b → (TX2 a).2.1 ≠ (TX2 b).2.1 := by decide +kernel
theorem tyX2_ok : ∀ k, k < 4 → parseFieldDescriptor (TX2 k).2.2.1 = some (tyX2 k) := by decide +kernel
abbrev cX2_init : ByteArray := prog_4_method_1_code
def yX2_init : MethodName := ⟨RX2, "<init>", "()V"⟩
def RX3 : String := "RelayBank$Past"
def TX3 : u_T := fun k => match k with
  | 0 => ("RelayBank$Past", "banks", "[LRelayBank$Bank;", true)
  | 1 => ("RelayBank$Past", "oldest", "I", false)
  | _ => ("RelayBank$Past", "size", "I", false)
def tyX3 : Nat → FieldType := fun k => match k with
  | 0 => .array (.object "RelayBank$Bank")
  | 1 => .int
  | _ => .int
abbrev wsX30 : List Cond := u_ws RX3 TX3 3
theorem nmX3 : ∀ a, a < 3 → ∀ b, b < 3 → a ≠ b → (TX3 a).2.1 ≠ (TX3 b).2.1 := by decide +kernel
theorem tyX3_ok : ∀ k, k < 3 → parseFieldDescriptor (TX3 k).2.2.1 = some (tyX3 k) := by decide +kernel
abbrev cX3_init : ByteArray := prog_5_method_1_code
def yX3_init : MethodName := ⟨RX3, "<init>", "()V"⟩
abbrev cX3_bankAt : ByteArray := prog_5_method_2_code
def yX3_bankAt : MethodName := ⟨RX3, "bankAt", "(I)LRelayBank$Bank;"⟩
abbrev cX3_save : ByteArray := prog_5_method_3_code
def yX3_save : MethodName := ⟨RX3, "save", "(LRelayBank$Bank;)V"⟩
abbrev cX3_restore : ByteArray := prog_5_method_4_code
def yX3_restore : MethodName := ⟨RX3, "restore", "(LRelayBank$Bank;)Z"⟩
def RX4 : String := "RelayBank$Text"
def TX4 : u_T := fun k => match k with
  | 0 => ("RelayBank$Text", "characters", "[C", true)
  | _ => ("RelayBank$Text", "length", "I", false)
def tyX4 : Nat → FieldType := fun k => match k with
  | 0 => .array .char
  | _ => .int
abbrev wsX40 : List Cond := u_ws RX4 TX4 2
theorem nmX4 : ∀ a, a < 2 → ∀ b, b < 2 → a ≠ b → (TX4 a).2.1 ≠ (TX4 b).2.1 := by decide +kernel
theorem tyX4_ok : ∀ k, k < 2 → parseFieldDescriptor (TX4 k).2.2.1 = some (tyX4 k) := by decide +kernel
abbrev cX4_init : ByteArray := prog_6_method_1_code
def yX4_init : MethodName := ⟨RX4, "<init>", "()V"⟩
def RX5 : String := "RelayBank"
def TX5 : u_T := fun k => match k with
  | 0 => ("RelayBank", "now", "LRelayBank$Bank;", true)
  | 1 => ("RelayBank", "past", "LRelayBank$Past;", true)
  | 2 => ("RelayBank", "text", "LRelayBank$Text;", true)
  | 3 => ("RelayBank", "reader", "LRelayBank$CircuitReader;", true)
  | 4 => ("RelayBank", "changed", "LRelayBank$Bank;", true)
  | _ => ("RelayBank", "trial", "LRelayBank$Bank;", true)
def tyX5 : Nat → FieldType := fun k => match k with
  | 0 => .object "RelayBank$Bank"
  | 1 => .object "RelayBank$Past"
  | 2 => .object "RelayBank$Text"
  | 3 => .object "RelayBank$CircuitReader"
  | 4 => .object "RelayBank$Bank"
  | _ => .object "RelayBank$Bank"
abbrev wsX50 : List Cond := u_ws RX5 TX5 6
theorem nmX5 : ∀ a, a < 6 → ∀ b, b < 6 → a ≠ b → (TX5 a).2.1 ≠ (TX5 b).2.1 := by decide +kernel
theorem tyX5_ok : ∀ k, k < 6 → parseFieldDescriptor (TX5 k).2.2.1 = some (tyX5 k) := by decide +kernel
abbrev cX5_init : ByteArray := prog_1_method_1_code
def yX5_init : MethodName := ⟨RX5, "<init>", "()V"⟩
abbrev cX5_addRelay : ByteArray := prog_1_method_2_code
def yX5_addRelay : MethodName := ⟨RX5, "addRelay", "(III)I"⟩
abbrev cX5_setDelays : ByteArray := prog_1_method_3_code
def yX5_setDelays : MethodName := ⟨RX5, "setDelays", "(IIII)I"⟩
abbrev cX5_setCondition : ByteArray := prog_1_method_4_code
def yX5_setCondition : MethodName := ⟨RX5, "setCondition", "(IIII)I"⟩
abbrev cX5_removeBranch : ByteArray := prog_1_method_5_code
def yX5_removeBranch : MethodName := ⟨RX5, "removeBranch", "(II)I"⟩
abbrev cX5_press : ByteArray := prog_1_method_9_code
def yX5_press : MethodName := ⟨RX5, "press", "(II)I"⟩
abbrev cX5_setFault : ByteArray := prog_1_method_10_code
def yX5_setFault : MethodName := ⟨RX5, "setFault", "(II)I"⟩
abbrev cX5_stick : ByteArray := prog_1_method_11_code
def yX5_stick : MethodName := ⟨RX5, "stick", "(II)I"⟩
abbrev cX5_step : ByteArray := prog_1_method_12_code
def yX5_step : MethodName := ⟨RX5, "step", "()I"⟩
abbrev cX5_settle : ByteArray := prog_1_method_13_code
def yX5_settle : MethodName := ⟨RX5, "settle", "(I)I"⟩
abbrev cX5_pass : ByteArray := prog_1_method_14_code
def yX5_pass : MethodName := ⟨RX5, "pass", "(I)I"⟩
abbrev cX5_count : ByteArray := prog_1_method_15_code
def yX5_count : MethodName := ⟨RX5, "count", "(I)I"⟩
abbrev cX5_relay : ByteArray := prog_1_method_16_code
def yX5_relay : MethodName := ⟨RX5, "relay", "(II)I"⟩
abbrev cX5_condition : ByteArray := prog_1_method_17_code
def yX5_condition : MethodName := ⟨RX5, "condition", "(III)I"⟩
abbrev cX5_event : ByteArray := prog_1_method_18_code
def yX5_event : MethodName := ⟨RX5, "event", "(II)I"⟩
abbrev cX5_outcome : ByteArray := prog_1_method_19_code
def yX5_outcome : MethodName := ⟨RX5, "outcome", "(II)I"⟩
abbrev cX5_isRace : ByteArray := prog_1_method_20_code
def yX5_isRace : MethodName := ⟨RX5, "isRace", "()I"⟩
abbrev cX5_undo : ByteArray := prog_1_method_25_code
def yX5_undo : MethodName := ⟨RX5, "undo", "()I"⟩
abbrev cX5_endingOf : ByteArray := prog_1_method_26_code
def yX5_endingOf : MethodName := ⟨RX5, "endingOf", "(LRelayBank$Bank;IZ)I"⟩
abbrev cX5_raceIn : ByteArray := prog_1_method_27_code
def yX5_raceIn : MethodName := ⟨RX5, "raceIn", "(LRelayBank$Bank;)I"⟩
abbrev cX5_isKey : ByteArray := prog_1_method_28_code
def yX5_isKey : MethodName := ⟨RX5, "isKey", "(I)Z"⟩
abbrev cX5_areDelays : ByteArray := prog_1_method_29_code
def yX5_areDelays : MethodName := ⟨RX5, "areDelays", "(III)Z"⟩
abbrev cX5_isWithin : ByteArray := prog_1_method_30_code
def yX5_isWithin : MethodName := ⟨RX5, "isWithin", "(III)Z"⟩
abbrev cX5_bitOf : ByteArray := prog_1_method_31_code
def yX5_bitOf : MethodName := ⟨RX5, "bitOf", "(II)I"⟩
abbrev cX5_isIn : ByteArray := prog_1_method_32_code
def yX5_isIn : MethodName := ⟨RX5, "isIn", "(II)Z"⟩
abbrev cX5_at : ByteArray := prog_1_method_33_code
def yX5_at : MethodName := ⟨RX5, "at", "([II)I"⟩
abbrev cX5_put : ByteArray := prog_1_method_34_code
def yX5_put : MethodName := ⟨RX5, "put", "([III)V"⟩
def RX6 : String := "RelayBankModel"
def TX6 : u_T := fun k => match k with
  | _ => ("", "", "", false)
def tyX6 : Nat → FieldType := fun k => match k with
  | _ => .int
abbrev wsX60 : List Cond := u_ws RX6 TX6 0
theorem nmX6 : ∀ a, a < 0 → ∀ b, b < 0 → a ≠ b → (TX6 a).2.1 ≠ (TX6 b).2.1 := by decide +kernel
theorem tyX6_ok : ∀ k, k < 0 → parseFieldDescriptor (TX6 k).2.2.1 = some (tyX6 k) := by decide +kernel
def RJ9 : String := "java/lang/Math"
def TJ9 : u_T := fun k => match k with
  | _ => ("", "", "", false)
def tyJ9 : Nat → FieldType := fun k => match k with
  | _ => .int
abbrev wsJ90 : List Cond := u_ws RJ9 TJ9 0
theorem nmJ9 : ∀ a, a < 0 → ∀ b, b < 0 → a ≠ b → (TJ9 a).2.1 ≠ (TJ9 b).2.1 := by decide +kernel
theorem tyJ9_ok : ∀ k, k < 0 → parseFieldDescriptor (TJ9 k).2.2.1 = some (tyJ9 k) := by decide +kernel
abbrev cJ9_floorMod_7cf53 : ByteArray := prog_9_method_50_code
def yJ9_floorMod_7cf53 : MethodName := ⟨RJ9, "floorMod", "(II)I"⟩
def RJ10 : String := "java/lang/System"
def TJ10 : u_T := fun k => match k with
  | _ => ("", "", "", false)
def tyJ10 : Nat → FieldType := fun k => match k with
  | _ => .int
abbrev wsJ100 : List Cond := u_ws RJ10 TJ10 0
theorem nmJ10 : ∀ a, a < 0 → ∀ b, b < 0 → a ≠ b → (TJ10 a).2.1 ≠ (TJ10 b).2.1 := by decide +kernel
theorem tyJ10_ok : ∀ k, k < 0 → parseFieldDescriptor (TJ10 k).2.2.1 = some (tyJ10 k) := by decide +kernel
def RL : String := "RelayBankLaw"
abbrev cL_cell : ByteArray := method_2_code
def yL_cell : MethodName := ⟨RL, "cell", "([II)I"⟩
abbrev cL_low : ByteArray := method_3_code
def yL_low : MethodName := ⟨RL, "low", "(II)I"⟩
abbrev cL_tale : ByteArray := method_4_code
def yL_tale : MethodName := ⟨RL, "tale", "(LRelayBank;)J"⟩
abbrev cL_does : ByteArray := method_5_code
def yL_does : MethodName := ⟨RL, "does", "(LRelayBank;I)I"⟩
abbrev cL_law : ByteArray := code
def yL_law : MethodName := ⟨RL, "law", "([I)Z"⟩
def wsL_law_r1 : List Cond := [Cond.classLink RL 13 RX5, Cond.instantiable RX5 6, Cond.initialized RX5, Cond.methodLink RL 76 yX5_init, Cond.instanceMethod yX5_init, Cond.code yX5_init cX5_init 1 none, Cond.methodLink RX5 3 objectInit, Cond.instanceMethod objectInit, Cond.code objectInit ⟨#[0xb1]⟩ 1 none, Cond.classLink RX5 9 RX0, Cond.instantiable RX0 15, Cond.initialized RX0, Cond.fieldLink RX5 12 "RelayBank" "now" "LRelayBank$Bank;", Cond.classLink RX5 16 RX3, Cond.instantiable RX3 3, Cond.initialized RX3, Cond.fieldLink RX5 19 "RelayBank" "past" "LRelayBank$Past;", Cond.classLink RX5 23 RX4, Cond.instantiable RX4 2, Cond.initialized RX4, Cond.fieldLink RX5 26 "RelayBank" "text" "LRelayBank$Text;", Cond.classLink RX5 30 RX2, Cond.instantiable RX2 4, Cond.initialized RX2]
def wsL_law_r2 : List Cond := [Cond.fieldLink RX5 33 "RelayBank" "reader" "LRelayBank$CircuitReader;", Cond.fieldLink RX5 37 "RelayBank" "changed" "LRelayBank$Bank;", Cond.fieldLink RX5 40 "RelayBank" "trial" "LRelayBank$Bank;", Cond.methodLink RX5 11 yX0_init, Cond.instanceMethod yX0_init, Cond.code yX0_init cX0_init 2 none, Cond.methodLink RX0 3 objectInit, Cond.arrayClass .int, Cond.fieldLink RX0 9 "RelayBank$Bank" "pickUps" "[I", Cond.fieldLink RX0 15 "RelayBank$Bank" "releases" "[I", Cond.fieldLink RX0 18 "RelayBank$Bank" "bounces" "[I", Cond.fieldLink RX0 21 "RelayBank$Bank" "sizes" "[I", Cond.fieldLink RX0 24 "RelayBank$Bank" "branches" "[I", Cond.fieldLink RX0 27 "RelayBank$Bank" "dues" "[I", Cond.constant RX0 30 (2147483647), Cond.methodLink RX5 18 yX3_init, Cond.instanceMethod yX3_init, Cond.code yX3_init cX3_init 2 none, Cond.methodLink RX3 3 objectInit, Cond.classLink RX3 9 RX0, Cond.fieldLink RX3 11 "RelayBank$Past" "banks" "[LRelayBank$Bank;", Cond.methodLink RX3 17 yX0_init, Cond.instanceMethod yX4_init, Cond.code yX4_init cX4_init 1 none]
def wsL_law_r3 : List Cond := [Cond.methodLink RX4 3 objectInit, Cond.arrayClass .char, Cond.fieldLink RX4 9 "RelayBank$Text" "characters" "[C", Cond.instanceMethod yX2_init, Cond.code yX2_init cX2_init 1 none, Cond.methodLink RX2 3 objectInit, Cond.fieldLink RX2 9 "RelayBank$CircuitReader" "branches" "[I", Cond.methodLink RL 77 yL_cell, Cond.static yL_cell, Cond.initialized RL, Cond.code yL_cell cL_cell 2 (some .int), Cond.methodLink RL 81 yL_tale, Cond.static yL_tale, Cond.code yL_tale cL_tale 6 (some .long), Cond.constantLong RL 8 (3), Cond.constantLong RL 10 (31), Cond.constantLong RL 18 (37), Cond.constantLong RL 24 (41), Cond.constantLong RL 30 (43), Cond.constantLong RL 35 (5), Cond.constantLong RL 37 (7), Cond.methodLink RL 12 yX5_count, Cond.instanceMethod yX5_count, Cond.selects RX5 yX5_count yX5_count]
def wsL_law_r4 : List Cond := [Cond.code yX5_count cX5_count 2 (some .int), Cond.methodLink RX5 156 yX0_waiting, Cond.instanceMethod yX0_waiting, Cond.selects RX0 yX0_waiting yX0_waiting, Cond.code yX0_waiting cX0_waiting 3 (some .int), Cond.methodLink RX5 166 yX0_closedContacts, Cond.instanceMethod yX0_closedContacts, Cond.selects RX0 yX0_closedContacts yX0_closedContacts, Cond.code yX0_closedContacts cX0_closedContacts 1 (some .int), Cond.fieldLink RX0 50 "RelayBank$Bank" "attracted" "I", Cond.fieldLink RX0 53 "RelayBank$Bank" "bouncing" "I", Cond.fieldLink RX0 59 "RelayBank$Bank" "alwaysOpen" "I", Cond.fieldLink RX0 62 "RelayBank$Bank" "alwaysClosed" "I", Cond.methodLink RL 20 yX5_relay, Cond.instanceMethod yX5_relay, Cond.selects RX5 yX5_relay yX5_relay, Cond.code yX5_relay cX5_relay 3 (some .int), Cond.methodLink RX5 59 yX0_has, Cond.instanceMethod yX0_has, Cond.selects RX0 yX0_has yX0_has, Cond.code yX0_has cX0_has 2 (some .boolean), Cond.fieldLink RX0 37 "RelayBank$Bank" "relays" "I", Cond.static yX5_isWithin, Cond.code yX5_isWithin cX5_isWithin 3 (some .boolean)]
def wsL_law_r5 : List Cond := [Cond.methodLink RX5 176 yX5_at, Cond.static yX5_at, Cond.code yX5_at cX5_at 2 (some .int), Cond.methodLink RX5 67 yX0_branchesOf, Cond.instanceMethod yX0_branchesOf, Cond.selects RX0 yX0_branchesOf yX0_branchesOf, Cond.code yX0_branchesOf cX0_branchesOf 2 (some .int), Cond.methodLink RX5 117 yX0_faultOf, Cond.instanceMethod yX0_faultOf, Cond.selects RX0 yX0_faultOf yX0_faultOf, Cond.code yX0_faultOf cX0_faultOf 2 (some .int), Cond.static yX5_isIn, Cond.code yX5_isIn cX5_isIn 2 (some .boolean), Cond.methodLink RX5 127 yX5_bitOf, Cond.static yX5_bitOf, Cond.code yX5_bitOf cX5_bitOf 2 (some .int), Cond.methodLink RX5 186 yX0_concerns, Cond.instanceMethod yX0_concerns, Cond.selects RX0 yX0_concerns yX0_concerns, Cond.code yX0_concerns cX0_concerns 5 (some .boolean), Cond.methodLink RX0 81 yX0_branchesOf, Cond.methodLink RX0 85 yX0_branchAt, Cond.instanceMethod yX0_branchAt, Cond.selects RX0 yX0_branchAt yX0_branchAt]
def wsL_law_r6 : List Cond := [Cond.code yX0_branchAt cX0_branchAt 3 (some .int), Cond.methodLink RX0 103 yX1_howOf, Cond.static yX1_howOf, Cond.initialized RX1, Cond.code yX1_howOf cX1_howOf 2 (some .int), Cond.methodLink RX1 9 yX1_bit, Cond.static yX1_bit, Cond.code yX1_bit cX1_bit 2 (some .int), Cond.methodLink RX5 189 yX0_failing, Cond.instanceMethod yX0_failing, Cond.selects RX0 yX0_failing yX0_failing, Cond.code yX0_failing cX0_failing 2 (some .int), Cond.fieldLink RX0 44 "RelayBank$Bank" "keys" "I", Cond.constant RX0 113 (65535), Cond.methodLink RX0 110 yX0_closedContacts, Cond.methodLink RX5 192 yX0_conducts, Cond.instanceMethod yX0_conducts, Cond.selects RX0 yX0_conducts yX0_conducts, Cond.code yX0_conducts cX0_conducts 6 (some .boolean), Cond.methodLink RL 26 yX5_condition, Cond.instanceMethod yX5_condition, Cond.selects RX5 yX5_condition yX5_condition, Cond.code yX5_condition cX5_condition 4 (some .int), Cond.methodLink RX5 71 yX5_isWithin]
def wsL_law_r7 : List Cond := [Cond.methodLink RX5 195 yX0_branchAt, Cond.methodLink RX5 198 yX1_howOf, Cond.methodLink RL 32 yX5_event, Cond.instanceMethod yX5_event, Cond.selects RX5 yX5_event yX5_event, Cond.code yX5_event cX5_event 4 (some .int), Cond.methodLink RX5 203 yX0_slotAt, Cond.instanceMethod yX0_slotAt, Cond.selects RX0 yX0_slotAt yX0_slotAt, Cond.code yX0_slotAt cX0_slotAt 3 (some .int), Cond.methodLink RX0 135 yX0_eventsBefore, Cond.instanceMethod yX0_eventsBefore, Cond.selects RX0 yX0_eventsBefore yX0_eventsBefore, Cond.code yX0_eventsBefore cX0_eventsBefore 5 (some .int), Cond.methodLink RX5 141 yX0_relayOf, Cond.static yX0_relayOf, Cond.code yX0_relayOf cX0_relayOf 1 (some .int), Cond.methodLink RX5 134 yX0_kindOf, Cond.instanceMethod yX0_kindOf, Cond.selects RX0 yX0_kindOf yX0_kindOf, Cond.code yX0_kindOf cX0_kindOf 2 (some .int), Cond.fieldLink RX0 47 "RelayBank$Bank" "fed" "I", Cond.methodLink RX0 124 yX0_isBounceEnd, Cond.static yX0_isBounceEnd]
def wsL_law_r8 : List Cond := [Cond.code yX0_isBounceEnd cX0_isBounceEnd 1 (some .boolean), Cond.methodLink RX0 128 yX0_relayOf, Cond.methodLink RL 85 yL_does, Cond.static yL_does, Cond.code yL_does cL_does 3 (some .int), Cond.methodLink RL 39 yL_low, Cond.static yL_low, Cond.code yL_low cL_low 2 (some .int), Cond.constant RL 7 (2147483647), Cond.methodLink RL 44 yX5_addRelay, Cond.instanceMethod yX5_addRelay, Cond.selects RX5 yX5_addRelay yX5_addRelay, Cond.code yX5_addRelay cX5_addRelay 4 (some .int), Cond.methodLink RX5 43 yX5_areDelays, Cond.static yX5_areDelays, Cond.code yX5_areDelays cX5_areDelays 3 (some .boolean), Cond.methodLink RX5 51 yX3_save, Cond.instanceMethod yX3_save, Cond.selects RX3 yX3_save yX3_save, Cond.code yX3_save cX3_save 3 none, Cond.fieldLink RX3 28 "RelayBank$Past" "size" "I", Cond.fieldLink RX3 18 "RelayBank$Past" "oldest" "I", Cond.methodLink RX3 22 yJ9_floorMod_7cf53, Cond.static yJ9_floorMod_7cf53]
def wsL_law_r9 : List Cond := [Cond.initialized RJ9, Cond.code yJ9_floorMod_7cf53 cJ9_floorMod_7cf53 3 (some .int), Cond.methodLink RX3 31 yX3_bankAt, Cond.instanceMethod yX3_bankAt, Cond.selects RX3 yX3_bankAt yX3_bankAt, Cond.code yX3_bankAt cX3_bankAt 3 (some (.object "RelayBank$Bank")), Cond.methodLink RX3 35 yX0_copy, Cond.instanceMethod yX0_copy, Cond.selects RX0 yX0_copy yX0_copy, Cond.code yX0_copy cX0_copy 2 none, Cond.methodLink RX0 31 arraycopyName, Cond.native arraycopyName, Cond.static arraycopyName, Cond.initialized "java/lang/System", Cond.fieldLink RX0 41 "RelayBank$Bank" "time" "I", Cond.fieldLink RX0 56 "RelayBank$Bank" "stuck" "I", Cond.methodLink RX5 55 yX0_add, Cond.instanceMethod yX0_add, Cond.selects RX0 yX0_add yX0_add, Cond.code yX0_add cX0_add 5 (some .int), Cond.methodLink RX0 69 yX0_putDelays, Cond.instanceMethod yX0_putDelays, Cond.selects RX0 yX0_putDelays yX0_putDelays, Cond.code yX0_putDelays cX0_putDelays 6 (some .boolean)]
def wsL_law_r10 : List Cond := [Cond.static yX5_put, Cond.code yX5_put cX5_put 3 none, Cond.methodLink RL 47 yX5_setDelays, Cond.instanceMethod yX5_setDelays, Cond.selects RX5 yX5_setDelays yX5_setDelays, Cond.code yX5_setDelays cX5_setDelays 5 (some .int), Cond.methodLink RX5 63 yX0_putDelays, Cond.methodLink RL 51 yX5_setCondition, Cond.instanceMethod yX5_setCondition, Cond.selects RX5 yX5_setCondition yX5_setCondition, Cond.code yX5_setCondition cX5_setCondition 5 (some .int), Cond.methodLink RX5 74 yX0_putCondition, Cond.instanceMethod yX0_putCondition, Cond.selects RX0 yX0_putCondition yX0_putCondition, Cond.code yX0_putCondition cX0_putCondition 7 (some .int), Cond.methodLink RX0 89 yX1_with, Cond.static yX1_with, Cond.code yX1_with cX1_with 4 (some .int), Cond.methodLink RX0 95 yX0_putBranch, Cond.instanceMethod yX0_putBranch, Cond.selects RX0 yX0_putBranch yX0_putBranch, Cond.code yX0_putBranch cX0_putBranch 4 none, Cond.methodLink RX0 99 yX0_lookAtCoils, Cond.instanceMethod yX0_lookAtCoils]
def wsL_law_r11 : List Cond := [Cond.selects RX0 yX0_lookAtCoils yX0_lookAtCoils, Cond.code yX0_lookAtCoils cX0_lookAtCoils 4 (some .int), Cond.methodLink RX0 114 yX0_failing, Cond.methodLink RX0 117 yX0_conducts, Cond.methodLink RX0 120 yX0_turnCoil, Cond.instanceMethod yX0_turnCoil, Cond.selects RX0 yX0_turnCoil yX0_turnCoil, Cond.code yX0_turnCoil cX0_turnCoil 3 none, Cond.methodLink RL 54 yX5_removeBranch, Cond.instanceMethod yX5_removeBranch, Cond.selects RX5 yX5_removeBranch yX5_removeBranch, Cond.code yX5_removeBranch cX5_removeBranch 3 (some .int), Cond.methodLink RX5 78 yX0_dropBranch, Cond.instanceMethod yX0_dropBranch, Cond.selects RX0 yX0_dropBranch yX0_dropBranch, Cond.code yX0_dropBranch cX0_dropBranch 5 (some .int), Cond.methodLink RL 57 yX5_press, Cond.instanceMethod yX5_press, Cond.selects RX5 yX5_press yX5_press, Cond.code yX5_press cX5_press 3 (some .int), Cond.methodLink RX5 104 yX5_isKey, Cond.static yX5_isKey, Cond.code yX5_isKey cX5_isKey 1 (some .boolean), Cond.methodLink RX5 110 yX5_isIn]
def wsL_law_r12 : List Cond := [Cond.methodLink RX5 114 yX0_turnKey, Cond.instanceMethod yX0_turnKey, Cond.selects RX0 yX0_turnKey yX0_turnKey, Cond.code yX0_turnKey cX0_turnKey 2 (some .int), Cond.methodLink RL 60 yX5_setFault, Cond.instanceMethod yX5_setFault, Cond.selects RX5 yX5_setFault yX5_setFault, Cond.code yX5_setFault cX5_setFault 4 (some .int), Cond.methodLink RX5 120 yX0_putFault, Cond.instanceMethod yX0_putFault, Cond.selects RX0 yX0_putFault yX0_putFault, Cond.code yX0_putFault cX0_putFault 4 none, Cond.methodLink RL 63 yX5_stick, Cond.instanceMethod yX5_stick, Cond.selects RX5 yX5_stick yX5_stick, Cond.code yX5_stick cX5_stick 4 (some .int), Cond.methodLink RL 66 yX5_settle, Cond.instanceMethod yX5_settle, Cond.selects RX5 yX5_settle yX5_settle, Cond.code yX5_settle cX5_settle 2 (some .int), Cond.constant RX5 144 (2147483647), Cond.methodLink RX5 145 yX0_run, Cond.instanceMethod yX0_run, Cond.selects RX0 yX0_run yX0_run]
def wsL_law_r13 : List Cond := [Cond.code yX0_run cX0_run 6 (some .int), Cond.methodLink RX0 131 yX0_nextSlot, Cond.instanceMethod yX0_nextSlot, Cond.selects RX0 yX0_nextSlot yX0_nextSlot, Cond.code yX0_nextSlot cX0_nextSlot 8 (some .int), Cond.methodLink RX0 141 yX0_happen, Cond.instanceMethod yX0_happen, Cond.selects RX0 yX0_happen yX0_happen, Cond.code yX0_happen cX0_happen 3 none, Cond.methodLink RX0 138 yX0_moveArmature, Cond.instanceMethod yX0_moveArmature, Cond.selects RX0 yX0_moveArmature yX0_moveArmature, Cond.code yX0_moveArmature cX0_moveArmature 3 none, Cond.methodLink RL 69 yX5_pass, Cond.instanceMethod yX5_pass, Cond.selects RX5 yX5_pass yX5_pass, Cond.code yX5_pass cX5_pass 4 (some .int), Cond.constant RX5 152 (100000), Cond.methodLink RX5 153 yX0_copy, Cond.methodLink RL 72 yX5_step, Cond.instanceMethod yX5_step, Cond.selects RX5 yX5_step yX5_step, Cond.code yX5_step cX5_step 3 (some .int), Cond.methodLink RX5 130 yX0_nextSlot]
def wsL_law_r14 : List Cond := [Cond.methodLink RX5 137 yX0_happen, Cond.methodLink RL 89 yX5_undo, Cond.instanceMethod yX5_undo, Cond.selects RX5 yX5_undo yX5_undo, Cond.code yX5_undo cX5_undo 1 (some .int), Cond.methodLink RX5 224 yX3_restore, Cond.instanceMethod yX3_restore, Cond.selects RX3 yX3_restore yX3_restore, Cond.code yX3_restore cX3_restore 3 (some .boolean), Cond.methodLink RL 92 yX5_isRace, Cond.instanceMethod yX5_isRace, Cond.selects RX5 yX5_isRace yX5_isRace, Cond.code yX5_isRace cX5_isRace 1 (some .int), Cond.methodLink RX5 213 yX5_raceIn, Cond.instanceMethod yX5_raceIn, Cond.selects RX5 yX5_raceIn yX5_raceIn, Cond.code yX5_raceIn cX5_raceIn 3 (some .int), Cond.methodLink RX5 209 yX5_endingOf, Cond.instanceMethod yX5_endingOf, Cond.selects RX5 yX5_endingOf yX5_endingOf, Cond.code yX5_endingOf cX5_endingOf 4 (some .int), Cond.methodLink RX5 217 yX0_isQuiet, Cond.instanceMethod yX0_isQuiet, Cond.selects RX0 yX0_isQuiet yX0_isQuiet]
def wsL_law_r15 : List Cond := [Cond.code yX0_isQuiet cX0_isQuiet 1 (some .boolean), Cond.methodLink RL 95 yX5_outcome, Cond.instanceMethod yX5_outcome, Cond.selects RX5 yX5_outcome yX5_outcome, Cond.code yX5_outcome cX5_outcome 3 (some .int)]
def wsL_law : List Cond := (wsL_law_r1 ++ (wsL_law_r2 ++ (wsL_law_r3 ++ (wsL_law_r4 ++ (wsL_law_r5 ++ (wsL_law_r6 ++ (wsL_law_r7 ++ (wsL_law_r8 ++ (wsL_law_r9 ++ (wsL_law_r10 ++ (wsL_law_r11 ++ (wsL_law_r12 ++ (wsL_law_r13 ++ (wsL_law_r14 ++ wsL_law_r15)))))))))))))) ++ wsX50 ++ wsX00 ++ wsX30 ++ wsX40 ++ wsX20 ++ ([] : List Cond)
theorem inlX0 : ∀ w ∈ wsX00, w ∈ wsL_law := fun _ h => List.mem_append_left _ (List.mem_append_left _ (List.mem_append_left _ (List.mem_append_left _ (List.mem_append_right _ h))))
theorem inlX2 : ∀ w ∈ wsX20, w ∈ wsL_law := fun _ h => List.mem_append_left _ (List.mem_append_right _ h)
theorem inlX3 : ∀ w ∈ wsX30, w ∈ wsL_law := fun _ h => List.mem_append_left _ (List.mem_append_left _ (List.mem_append_left _ (List.mem_append_right _ h)))
theorem inlX4 : ∀ w ∈ wsX40, w ∈ wsL_law := fun _ h => List.mem_append_left _ (List.mem_append_left _ (List.mem_append_right _ h))
theorem inlX5 : ∀ w ∈ wsX50, w ∈ wsL_law := fun _ h => List.mem_append_left _ (List.mem_append_left _ (List.mem_append_left _ (List.mem_append_left _ (List.mem_append_left _ (List.mem_append_right _ h)))))
abbrev vwCl : List vw_C := [(RX0, TX0, 15), (RX2, TX2, 4), (RX3, TX3, 3), (RX4, TX4, 2), (RX5, TX5, 6)]
end
section
theorem mem_ps {big : List Cond} (ws : List Cond) (ps : List Nat) (h : ws.map some = ps.map (fun i => big[i]?)) : ∀ w ∈ ws, w ∈ big := by
  intro w hw
  have h1 : some w ∈ ps.map (fun i => big[i]?) := by rw [← h]; exact List.mem_map.mpr ⟨w, hw, rfl⟩
  obtain ⟨i, -, hi⟩ := List.mem_map.mp h1
  exact List.mem_of_getElem? hi
set_option maxRecDepth 20000 in
theorem wsL_law_i1 : ∀ w ∈ wsL_law_r1, w ∈ lw_tbl := mem_ps _ [17, 18, 9, 19, 20, 21, 22, 23, 24, 25, 26, 10, 140, 90, 91, 11, 141, 110, 111, 12, 142, 124, 125, 13] (by decide +kernel)
set_option maxRecDepth 20000 in
theorem wsL_law_g1 : wsL_law_r1.all goodWord = true := by decide +kernel
set_option maxRecDepth 20000 in
theorem wsL_law_i2 : ∀ w ∈ wsL_law_r2, w ∈ lw_tbl := mem_ps _ [143, 144, 145, 27, 28, 29, 30, 89, 32, 34, 36, 38, 39, 40, 31, 92, 93, 94, 95, 96, 99, 98, 113, 114] (by decide +kernel)
set_option maxRecDepth 20000 in
theorem wsL_law_g2 : wsL_law_r2.all goodWord = true := by decide +kernel
set_option maxRecDepth 20000 in
theorem wsL_law_i3 : ∀ w ∈ wsL_law_r3, w ∈ lw_tbl := mem_ps _ [115, 123, 116, 127, 128, 129, 130, 322, 323, 8, 324, 325, 326, 327, 328, 329, 330, 331, 338, 339, 340, 159, 160, 161] (by decide +kernel)
set_option maxRecDepth 20000 in
theorem wsL_law_g3 : wsL_law_r3.all goodWord = true := by decide +kernel
set_option maxRecDepth 20000 in
theorem wsL_law_i4 : ∀ w ∈ wsL_law_r4, w ∈ lw_tbl := mem_ps _ [162, 163, 164, 165, 166, 167, 168, 169, 170, 50, 52, 56, 57, 171, 172, 173, 174, 175, 176, 177, 178, 43, 180, 181] (by decide +kernel)
set_option maxRecDepth 20000 in
theorem wsL_law_g4 : wsL_law_r4.all goodWord = true := by decide +kernel
set_option maxRecDepth 20000 in
theorem wsL_law_i5 : ∀ w ∈ wsL_law_r5, w ∈ lw_tbl := mem_ps _ [182, 183, 184, 185, 186, 187, 188, 190, 191, 192, 193, 195, 196, 197, 198, 199, 200, 201, 202, 203, 204, 205, 206, 207] (by decide +kernel)
set_option maxRecDepth 20000 in
theorem wsL_law_g5 : wsL_law_r5.all goodWord = true := by decide +kernel
set_option maxRecDepth 20000 in
theorem wsL_law_i6 : ∀ w ∈ wsL_law_r6, w ∈ lw_tbl := mem_ps _ [208, 209, 210, 14, 211, 212, 213, 214, 215, 216, 217, 218, 46, 220, 219, 221, 222, 223, 224, 332, 333, 334, 335, 229] (by decide +kernel)
set_option maxRecDepth 20000 in
theorem wsL_law_g6 : wsL_law_r6.all goodWord = true := by decide +kernel
set_option maxRecDepth 20000 in
theorem wsL_law_i7 : ∀ w ∈ wsL_law_r7, w ∈ lw_tbl := mem_ps _ [336, 337, 225, 226, 227, 228, 230, 231, 232, 233, 234, 236, 0, 237, 238, 239, 240, 241, 242, 243, 244, 48, 245, 246] (by decide +kernel)
set_option maxRecDepth 20000 in
theorem wsL_law_g7 : wsL_law_r7.all goodWord = true := by decide +kernel
set_option maxRecDepth 20000 in
theorem wsL_law_i8 : ∀ w ∈ wsL_law_r8, w ∈ lw_tbl := mem_ps _ [247, 248, 341, 342, 343, 344, 345, 346, 347, 348, 349, 350, 351, 352, 353, 354, 355, 356, 357, 358, 101, 100, 318, 319] (by decide +kernel)
set_option maxRecDepth 20000 in
theorem wsL_law_g8 : wsL_law_r8.all goodWord = true := by decide +kernel
set_option maxRecDepth 20000 in
theorem wsL_law_i9 : ∀ w ∈ wsL_law_r9, w ∈ lw_tbl := mem_ps _ [15, 320, 314, 316, 6, 317, 321, 258, 259, 260, 261, 263, 262, 16, 44, 54, 359, 360, 361, 362, 363, 364, 365, 366] (by decide +kernel)
set_option maxRecDepth 20000 in
theorem wsL_law_g9 : wsL_law_r9.all goodWord = true := by decide +kernel
set_option maxRecDepth 20000 in
theorem wsL_law_i10 : ∀ w ∈ wsL_law_r10, w ∈ lw_tbl := mem_ps _ [278, 279, 367, 368, 369, 370, 371, 372, 373, 374, 375, 376, 377, 378, 379, 380, 381, 382, 383, 385, 7, 386, 284, 286] (by decide +kernel)
set_option maxRecDepth 20000 in
theorem wsL_law_g10 : wsL_law_r10.all goodWord = true := by decide +kernel
set_option maxRecDepth 20000 in
theorem wsL_law_i11 : ∀ w ∈ wsL_law_r11, w ∈ lw_tbl := mem_ps _ [3, 287, 288, 289, 290, 292, 4, 293, 387, 388, 389, 390, 391, 392, 393, 394, 395, 396, 397, 398, 399, 400, 401, 402] (by decide +kernel)
set_option maxRecDepth 20000 in
theorem wsL_law_g11 : wsL_law_r11.all goodWord = true := by decide +kernel
set_option maxRecDepth 20000 in
theorem wsL_law_i12 : ∀ w ∈ wsL_law_r12, w ∈ lw_tbl := mem_ps _ [403, 404, 405, 406, 407, 408, 409, 410, 411, 412, 413, 414, 415, 416, 417, 418, 419, 420, 421, 422, 264, 265, 266, 267] (by decide +kernel)
set_option maxRecDepth 20000 in
theorem wsL_law_g12 : wsL_law_r12.all goodWord = true := by decide +kernel
set_option maxRecDepth 20000 in
theorem wsL_law_i13 : ∀ w ∈ wsL_law_r13, w ∈ lw_tbl := mem_ps _ [268, 269, 270, 271, 272, 273, 274, 275, 276, 280, 282, 2, 283, 423, 424, 425, 426, 427, 257, 428, 429, 430, 431, 432] (by decide +kernel)
set_option maxRecDepth 20000 in
theorem wsL_law_g13 : wsL_law_r13.all goodWord = true := by decide +kernel
set_option maxRecDepth 20000 in
theorem wsL_law_i14 : ∀ w ∈ wsL_law_r14, w ∈ lw_tbl := mem_ps _ [433, 306, 307, 308, 309, 310, 311, 312, 313, 298, 299, 300, 301, 302, 304, 5, 305, 253, 255, 1, 256, 294, 295, 296] (by decide +kernel)
set_option maxRecDepth 20000 in
theorem wsL_law_g14 : wsL_law_r14.all goodWord = true := by decide +kernel
set_option maxRecDepth 20000 in
theorem wsL_law_i15 : ∀ w ∈ wsL_law_r15, w ∈ lw_tbl := mem_ps _ [297, 249, 250, 251, 252] (by decide +kernel)
set_option maxRecDepth 20000 in
theorem wsL_law_g15 : wsL_law_r15.all goodWord = true := by decide +kernel
theorem wsl_X0_i : ∀ w ∈ wsX00, w ∈ lw_tbl := mem_ps _ [58, 60, 62, 64, 66, 68, 70, 72, 74, 76, 78, 80, 82, 84, 86] (by decide +kernel)
theorem wsl_X0_g : wsX00.all goodWord = true := by decide +kernel
theorem wsl_X2_i : ∀ w ∈ wsX20, w ∈ lw_tbl := mem_ps _ [131, 133, 135, 137] (by decide +kernel)
theorem wsl_X2_g : wsX20.all goodWord = true := by decide +kernel
theorem wsl_X3_i : ∀ w ∈ wsX30, w ∈ lw_tbl := mem_ps _ [103, 105, 107] (by decide +kernel)
theorem wsl_X3_g : wsX30.all goodWord = true := by decide +kernel
theorem wsl_X4_i : ∀ w ∈ wsX40, w ∈ lw_tbl := mem_ps _ [118, 120] (by decide +kernel)
theorem wsl_X4_g : wsX40.all goodWord = true := by decide +kernel
theorem wsl_X5_i : ∀ w ∈ wsX50, w ∈ lw_tbl := mem_ps _ [146, 148, 150, 152, 154, 156] (by decide +kernel)
theorem wsl_X5_g : wsX50.all goodWord = true := by decide +kernel
theorem wsL_law_in : ∀ w ∈ wsL_law, w ∈ lw_tbl := by
  unfold wsL_law
  exact List.forall_mem_append.mpr ⟨List.forall_mem_append.mpr ⟨List.forall_mem_append.mpr ⟨List.forall_mem_append.mpr ⟨List.forall_mem_append.mpr ⟨List.forall_mem_append.mpr ⟨List.forall_mem_append.mpr ⟨wsL_law_i1, List.forall_mem_append.mpr ⟨wsL_law_i2, List.forall_mem_append.mpr ⟨wsL_law_i3, List.forall_mem_append.mpr ⟨wsL_law_i4, List.forall_mem_append.mpr ⟨wsL_law_i5, List.forall_mem_append.mpr ⟨wsL_law_i6, List.forall_mem_append.mpr ⟨wsL_law_i7, List.forall_mem_append.mpr ⟨wsL_law_i8, List.forall_mem_append.mpr ⟨wsL_law_i9, List.forall_mem_append.mpr ⟨wsL_law_i10, List.forall_mem_append.mpr ⟨wsL_law_i11, List.forall_mem_append.mpr ⟨wsL_law_i12, List.forall_mem_append.mpr ⟨wsL_law_i13, List.forall_mem_append.mpr ⟨wsL_law_i14, wsL_law_i15⟩⟩⟩⟩⟩⟩⟩⟩⟩⟩⟩⟩⟩⟩, wsl_X5_i⟩, wsl_X0_i⟩, wsl_X3_i⟩, wsl_X4_i⟩, wsl_X2_i⟩, (fun _ h => absurd h List.not_mem_nil)⟩
theorem wsL_law_gd : ∀ w ∈ wsL_law, goodWord w = true := by
  unfold wsL_law
  exact List.forall_mem_append.mpr ⟨List.forall_mem_append.mpr ⟨List.forall_mem_append.mpr ⟨List.forall_mem_append.mpr ⟨List.forall_mem_append.mpr ⟨List.forall_mem_append.mpr ⟨List.forall_mem_append.mpr ⟨(List.all_eq_true.mp wsL_law_g1), List.forall_mem_append.mpr ⟨(List.all_eq_true.mp wsL_law_g2), List.forall_mem_append.mpr ⟨(List.all_eq_true.mp wsL_law_g3), List.forall_mem_append.mpr ⟨(List.all_eq_true.mp wsL_law_g4), List.forall_mem_append.mpr ⟨(List.all_eq_true.mp wsL_law_g5), List.forall_mem_append.mpr ⟨(List.all_eq_true.mp wsL_law_g6), List.forall_mem_append.mpr ⟨(List.all_eq_true.mp wsL_law_g7), List.forall_mem_append.mpr ⟨(List.all_eq_true.mp wsL_law_g8), List.forall_mem_append.mpr ⟨(List.all_eq_true.mp wsL_law_g9), List.forall_mem_append.mpr ⟨(List.all_eq_true.mp wsL_law_g10), List.forall_mem_append.mpr ⟨(List.all_eq_true.mp wsL_law_g11), List.forall_mem_append.mpr ⟨(List.all_eq_true.mp wsL_law_g12), List.forall_mem_append.mpr ⟨(List.all_eq_true.mp wsL_law_g13), List.forall_mem_append.mpr ⟨(List.all_eq_true.mp wsL_law_g14), (List.all_eq_true.mp wsL_law_g15)⟩⟩⟩⟩⟩⟩⟩⟩⟩⟩⟩⟩⟩⟩, (List.all_eq_true.mp wsl_X5_g)⟩, (List.all_eq_true.mp wsl_X0_g)⟩, (List.all_eq_true.mp wsl_X3_g)⟩, (List.all_eq_true.mp wsl_X4_g)⟩, (List.all_eq_true.mp wsl_X2_g)⟩, (fun _ h => absurd h List.not_mem_nil)⟩
theorem wsL_GI : GoodIn wsL_law wsL_law := fun w h => ⟨h, good_of_word (wsL_law_gd w h)⟩
end
section
theorem dX0_init_0 : decode cX0_init 0 = .ok (.aload_n 0, 1) := by decide +kernel
theorem dX0_init_1 : decode cX0_init 1 = .ok (.invokespecial 3, 3) := by decide +kernel
theorem dX0_init_4 : decode cX0_init 4 = .ok (.aload_n 0, 1) := by decide +kernel
theorem dX0_init_5 : decode cX0_init 5 = .ok (.bipush 8, 2) := by decide +kernel
theorem dX0_init_7 : decode cX0_init 7 = .ok (.newarray .int, 2) := by decide +kernel
theorem dX0_init_9 : decode cX0_init 9 = .ok (.putfield 9, 3) := by decide +kernel
theorem dX0_init_12 : decode cX0_init 12 = .ok (.aload_n 0, 1) := by decide +kernel
theorem dX0_init_13 : decode cX0_init 13 = .ok (.bipush 8, 2) := by decide +kernel
theorem dX0_init_15 : decode cX0_init 15 = .ok (.newarray .int, 2) := by decide +kernel
theorem dX0_init_17 : decode cX0_init 17 = .ok (.putfield 15, 3) := by decide +kernel
theorem dX0_init_20 : decode cX0_init 20 = .ok (.aload_n 0, 1) := by decide +kernel
theorem dX0_init_21 : decode cX0_init 21 = .ok (.bipush 8, 2) := by decide +kernel
theorem dX0_init_23 : decode cX0_init 23 = .ok (.newarray .int, 2) := by decide +kernel
theorem dX0_init_25 : decode cX0_init 25 = .ok (.putfield 18, 3) := by decide +kernel
theorem dX0_init_28 : decode cX0_init 28 = .ok (.aload_n 0, 1) := by decide +kernel
theorem dX0_init_29 : decode cX0_init 29 = .ok (.bipush 8, 2) := by decide +kernel
theorem dX0_init_31 : decode cX0_init 31 = .ok (.newarray .int, 2) := by decide +kernel
theorem dX0_init_33 : decode cX0_init 33 = .ok (.putfield 21, 3) := by decide +kernel
theorem dX0_init_36 : decode cX0_init 36 = .ok (.aload_n 0, 1) := by decide +kernel
theorem dX0_init_37 : decode cX0_init 37 = .ok (.bipush 48, 2) := by decide +kernel
theorem dX0_init_39 : decode cX0_init 39 = .ok (.newarray .int, 2) := by decide +kernel
theorem dX0_init_41 : decode cX0_init 41 = .ok (.putfield 24, 3) := by decide +kernel
theorem dX0_init_44 : decode cX0_init 44 = .ok (.aload_n 0, 1) := by decide +kernel
theorem dX0_init_45 : decode cX0_init 45 = .ok (.bipush 16, 2) := by decide +kernel
theorem dX0_init_47 : decode cX0_init 47 = .ok (.newarray .int, 2) := by decide +kernel
theorem dX0_init_49 : decode cX0_init 49 = .ok (.putfield 27, 3) := by decide +kernel
theorem dX0_init_52 : decode cX0_init 52 = .ok (.iconst 0, 1) := by decide +kernel
theorem dX0_init_53 : decode cX0_init 53 = .ok (.istore_n 1, 1) := by decide +kernel
theorem dX0_init_54 : decode cX0_init 54 = .ok (.iload_n 1, 1) := by decide +kernel
theorem dX0_init_55 : decode cX0_init 55 = .ok (.aload_n 0, 1) := by decide +kernel
theorem dX0_init_56 : decode cX0_init 56 = .ok (.getfield 27, 3) := by decide +kernel
theorem dX0_init_59 : decode cX0_init 59 = .ok (.arraylength, 1) := by decide +kernel
theorem dX0_init_60 : decode cX0_init 60 = .ok (.if_icmp .ge 17, 3) := by decide +kernel
theorem dX0_init_63 : decode cX0_init 63 = .ok (.aload_n 0, 1) := by decide +kernel
theorem dX0_init_64 : decode cX0_init 64 = .ok (.getfield 27, 3) := by decide +kernel
theorem dX0_init_67 : decode cX0_init 67 = .ok (.iload_n 1, 1) := by decide +kernel
theorem dX0_init_68 : decode cX0_init 68 = .ok (.ldc 30, 2) := by decide +kernel
theorem dX0_init_70 : decode cX0_init 70 = .ok (.iastore, 1) := by decide +kernel
theorem dX0_init_71 : decode cX0_init 71 = .ok (.iinc 1 1, 3) := by decide +kernel
theorem dX0_init_74 : decode cX0_init 74 = .ok (.goto (-20), 3) := by decide +kernel
theorem dX0_init_77 : decode cX0_init 77 = .ok (.return_, 1) := by decide +kernel
theorem dX0_copy_0 : decode cX0_copy 0 = .ok (.aload_n 1, 1) := by decide +kernel
theorem dX0_copy_1 : decode cX0_copy 1 = .ok (.getfield 9, 3) := by decide +kernel
theorem dX0_copy_4 : decode cX0_copy 4 = .ok (.iconst 0, 1) := by decide +kernel
theorem dX0_copy_5 : decode cX0_copy 5 = .ok (.aload_n 0, 1) := by decide +kernel
theorem dX0_copy_6 : decode cX0_copy 6 = .ok (.getfield 9, 3) := by decide +kernel
theorem dX0_copy_9 : decode cX0_copy 9 = .ok (.iconst 0, 1) := by decide +kernel
theorem dX0_copy_10 : decode cX0_copy 10 = .ok (.bipush 8, 2) := by decide +kernel
theorem dX0_copy_12 : decode cX0_copy 12 = .ok (.invokestatic 31, 3) := by decide +kernel
theorem dX0_copy_15 : decode cX0_copy 15 = .ok (.aload_n 1, 1) := by decide +kernel
theorem dX0_copy_16 : decode cX0_copy 16 = .ok (.getfield 15, 3) := by decide +kernel
theorem dX0_copy_19 : decode cX0_copy 19 = .ok (.iconst 0, 1) := by decide +kernel
theorem dX0_copy_20 : decode cX0_copy 20 = .ok (.aload_n 0, 1) := by decide +kernel
theorem dX0_copy_21 : decode cX0_copy 21 = .ok (.getfield 15, 3) := by decide +kernel
theorem dX0_copy_24 : decode cX0_copy 24 = .ok (.iconst 0, 1) := by decide +kernel
theorem dX0_copy_25 : decode cX0_copy 25 = .ok (.bipush 8, 2) := by decide +kernel
theorem dX0_copy_27 : decode cX0_copy 27 = .ok (.invokestatic 31, 3) := by decide +kernel
theorem dX0_copy_30 : decode cX0_copy 30 = .ok (.aload_n 1, 1) := by decide +kernel
theorem dX0_copy_31 : decode cX0_copy 31 = .ok (.getfield 18, 3) := by decide +kernel
theorem dX0_copy_34 : decode cX0_copy 34 = .ok (.iconst 0, 1) := by decide +kernel
theorem dX0_copy_35 : decode cX0_copy 35 = .ok (.aload_n 0, 1) := by decide +kernel
theorem dX0_copy_36 : decode cX0_copy 36 = .ok (.getfield 18, 3) := by decide +kernel
theorem dX0_copy_39 : decode cX0_copy 39 = .ok (.iconst 0, 1) := by decide +kernel
theorem dX0_copy_40 : decode cX0_copy 40 = .ok (.bipush 8, 2) := by decide +kernel
theorem dX0_copy_42 : decode cX0_copy 42 = .ok (.invokestatic 31, 3) := by decide +kernel
theorem dX0_copy_45 : decode cX0_copy 45 = .ok (.aload_n 1, 1) := by decide +kernel
theorem dX0_copy_46 : decode cX0_copy 46 = .ok (.getfield 21, 3) := by decide +kernel
theorem dX0_copy_49 : decode cX0_copy 49 = .ok (.iconst 0, 1) := by decide +kernel
theorem dX0_copy_50 : decode cX0_copy 50 = .ok (.aload_n 0, 1) := by decide +kernel
theorem dX0_copy_51 : decode cX0_copy 51 = .ok (.getfield 21, 3) := by decide +kernel
theorem dX0_copy_54 : decode cX0_copy 54 = .ok (.iconst 0, 1) := by decide +kernel
theorem dX0_copy_55 : decode cX0_copy 55 = .ok (.bipush 8, 2) := by decide +kernel
theorem dX0_copy_57 : decode cX0_copy 57 = .ok (.invokestatic 31, 3) := by decide +kernel
theorem dX0_copy_60 : decode cX0_copy 60 = .ok (.aload_n 1, 1) := by decide +kernel
theorem dX0_copy_61 : decode cX0_copy 61 = .ok (.getfield 24, 3) := by decide +kernel
theorem dX0_copy_64 : decode cX0_copy 64 = .ok (.iconst 0, 1) := by decide +kernel
theorem dX0_copy_65 : decode cX0_copy 65 = .ok (.aload_n 0, 1) := by decide +kernel
theorem dX0_copy_66 : decode cX0_copy 66 = .ok (.getfield 24, 3) := by decide +kernel
theorem dX0_copy_69 : decode cX0_copy 69 = .ok (.iconst 0, 1) := by decide +kernel
theorem dX0_copy_70 : decode cX0_copy 70 = .ok (.bipush 48, 2) := by decide +kernel
theorem dX0_copy_72 : decode cX0_copy 72 = .ok (.invokestatic 31, 3) := by decide +kernel
theorem dX0_copy_75 : decode cX0_copy 75 = .ok (.aload_n 1, 1) := by decide +kernel
theorem dX0_copy_76 : decode cX0_copy 76 = .ok (.getfield 27, 3) := by decide +kernel
theorem dX0_copy_79 : decode cX0_copy 79 = .ok (.iconst 0, 1) := by decide +kernel
theorem dX0_copy_80 : decode cX0_copy 80 = .ok (.aload_n 0, 1) := by decide +kernel
theorem dX0_copy_81 : decode cX0_copy 81 = .ok (.getfield 27, 3) := by decide +kernel
theorem dX0_copy_84 : decode cX0_copy 84 = .ok (.iconst 0, 1) := by decide +kernel
theorem dX0_copy_85 : decode cX0_copy 85 = .ok (.bipush 16, 2) := by decide +kernel
theorem dX0_copy_87 : decode cX0_copy 87 = .ok (.invokestatic 31, 3) := by decide +kernel
theorem dX0_copy_90 : decode cX0_copy 90 = .ok (.aload_n 0, 1) := by decide +kernel
theorem dX0_copy_91 : decode cX0_copy 91 = .ok (.aload_n 1, 1) := by decide +kernel
theorem dX0_copy_92 : decode cX0_copy 92 = .ok (.getfield 37, 3) := by decide +kernel
theorem dX0_copy_95 : decode cX0_copy 95 = .ok (.putfield 37, 3) := by decide +kernel
theorem dX0_copy_98 : decode cX0_copy 98 = .ok (.aload_n 0, 1) := by decide +kernel
theorem dX0_copy_99 : decode cX0_copy 99 = .ok (.aload_n 1, 1) := by decide +kernel
theorem dX0_copy_100 : decode cX0_copy 100 = .ok (.getfield 41, 3) := by decide +kernel
theorem dX0_copy_103 : decode cX0_copy 103 = .ok (.putfield 41, 3) := by decide +kernel
theorem dX0_copy_106 : decode cX0_copy 106 = .ok (.aload_n 0, 1) := by decide +kernel
theorem dX0_copy_107 : decode cX0_copy 107 = .ok (.aload_n 1, 1) := by decide +kernel
theorem dX0_copy_108 : decode cX0_copy 108 = .ok (.getfield 44, 3) := by decide +kernel
theorem dX0_copy_111 : decode cX0_copy 111 = .ok (.putfield 44, 3) := by decide +kernel
theorem dX0_copy_114 : decode cX0_copy 114 = .ok (.aload_n 0, 1) := by decide +kernel
theorem dX0_copy_115 : decode cX0_copy 115 = .ok (.aload_n 1, 1) := by decide +kernel
theorem dX0_copy_116 : decode cX0_copy 116 = .ok (.getfield 47, 3) := by decide +kernel
theorem dX0_copy_119 : decode cX0_copy 119 = .ok (.putfield 47, 3) := by decide +kernel
theorem dX0_copy_122 : decode cX0_copy 122 = .ok (.aload_n 0, 1) := by decide +kernel
theorem dX0_copy_123 : decode cX0_copy 123 = .ok (.aload_n 1, 1) := by decide +kernel
theorem dX0_copy_124 : decode cX0_copy 124 = .ok (.getfield 50, 3) := by decide +kernel
theorem dX0_copy_127 : decode cX0_copy 127 = .ok (.putfield 50, 3) := by decide +kernel
theorem dX0_copy_130 : decode cX0_copy 130 = .ok (.aload_n 0, 1) := by decide +kernel
theorem dX0_copy_131 : decode cX0_copy 131 = .ok (.aload_n 1, 1) := by decide +kernel
theorem dX0_copy_132 : decode cX0_copy 132 = .ok (.getfield 53, 3) := by decide +kernel
theorem dX0_copy_135 : decode cX0_copy 135 = .ok (.putfield 53, 3) := by decide +kernel
theorem dX0_copy_138 : decode cX0_copy 138 = .ok (.aload_n 0, 1) := by decide +kernel
theorem dX0_copy_139 : decode cX0_copy 139 = .ok (.aload_n 1, 1) := by decide +kernel
theorem dX0_copy_140 : decode cX0_copy 140 = .ok (.getfield 56, 3) := by decide +kernel
theorem dX0_copy_143 : decode cX0_copy 143 = .ok (.putfield 56, 3) := by decide +kernel
theorem dX0_copy_146 : decode cX0_copy 146 = .ok (.aload_n 0, 1) := by decide +kernel
theorem dX0_copy_147 : decode cX0_copy 147 = .ok (.aload_n 1, 1) := by decide +kernel
theorem dX0_copy_148 : decode cX0_copy 148 = .ok (.getfield 59, 3) := by decide +kernel
theorem dX0_copy_151 : decode cX0_copy 151 = .ok (.putfield 59, 3) := by decide +kernel
theorem dX0_copy_154 : decode cX0_copy 154 = .ok (.aload_n 0, 1) := by decide +kernel
theorem dX0_copy_155 : decode cX0_copy 155 = .ok (.aload_n 1, 1) := by decide +kernel
theorem dX0_copy_156 : decode cX0_copy 156 = .ok (.getfield 62, 3) := by decide +kernel
theorem dX0_copy_159 : decode cX0_copy 159 = .ok (.putfield 62, 3) := by decide +kernel
theorem dX0_copy_162 : decode cX0_copy 162 = .ok (.return_, 1) := by decide +kernel
theorem dX0_has_0 : decode cX0_has 0 = .ok (.iload_n 1, 1) := by decide +kernel
theorem dX0_has_1 : decode cX0_has 1 = .ok (.iconst 0, 1) := by decide +kernel
theorem dX0_has_2 : decode cX0_has 2 = .ok (.aload_n 0, 1) := by decide +kernel
theorem dX0_has_3 : decode cX0_has 3 = .ok (.getfield 37, 3) := by decide +kernel
theorem dX0_has_6 : decode cX0_has 6 = .ok (.iconst 1, 1) := by decide +kernel
theorem dX0_has_7 : decode cX0_has 7 = .ok (.isub, 1) := by decide +kernel
theorem dX0_has_8 : decode cX0_has 8 = .ok (.invokestatic 65, 3) := by decide +kernel
theorem dX0_has_11 : decode cX0_has 11 = .ok (.ireturn, 1) := by decide +kernel
theorem dX0_add_0 : decode cX0_add 0 = .ok (.aload_n 0, 1) := by decide +kernel
theorem dX0_add_1 : decode cX0_add 1 = .ok (.getfield 37, 3) := by decide +kernel
theorem dX0_add_4 : decode cX0_add 4 = .ok (.istore 4, 2) := by decide +kernel
theorem dX0_add_6 : decode cX0_add 6 = .ok (.aload_n 0, 1) := by decide +kernel
theorem dX0_add_7 : decode cX0_add 7 = .ok (.dup, 1) := by decide +kernel
theorem dX0_add_8 : decode cX0_add 8 = .ok (.getfield 37, 3) := by decide +kernel
theorem dX0_add_11 : decode cX0_add 11 = .ok (.iconst 1, 1) := by decide +kernel
theorem dX0_add_12 : decode cX0_add 12 = .ok (.iadd, 1) := by decide +kernel
theorem dX0_add_13 : decode cX0_add 13 = .ok (.putfield 37, 3) := by decide +kernel
theorem dX0_add_16 : decode cX0_add 16 = .ok (.aload_n 0, 1) := by decide +kernel
theorem dX0_add_17 : decode cX0_add 17 = .ok (.iload 4, 2) := by decide +kernel
theorem dX0_add_19 : decode cX0_add 19 = .ok (.iload_n 1, 1) := by decide +kernel
theorem dX0_add_20 : decode cX0_add 20 = .ok (.iload_n 2, 1) := by decide +kernel
theorem dX0_add_21 : decode cX0_add 21 = .ok (.iload_n 3, 1) := by decide +kernel
theorem dX0_add_22 : decode cX0_add 22 = .ok (.invokevirtual 69, 3) := by decide +kernel
theorem dX0_add_25 : decode cX0_add 25 = .ok (.pop, 1) := by decide +kernel
theorem dX0_add_26 : decode cX0_add 26 = .ok (.iload 4, 2) := by decide +kernel
theorem dX0_add_28 : decode cX0_add 28 = .ok (.ireturn, 1) := by decide +kernel
theorem dX0_putDelays_0 : decode cX0_putDelays 0 = .ok (.aload_n 0, 1) := by decide +kernel
theorem dX0_putDelays_1 : decode cX0_putDelays 1 = .ok (.getfield 9, 3) := by decide +kernel
theorem dX0_putDelays_4 : decode cX0_putDelays 4 = .ok (.iload_n 1, 1) := by decide +kernel
theorem dX0_putDelays_5 : decode cX0_putDelays 5 = .ok (.invokestatic 73, 3) := by decide +kernel
theorem dX0_putDelays_8 : decode cX0_putDelays 8 = .ok (.iload_n 2, 1) := by decide +kernel
theorem dX0_putDelays_9 : decode cX0_putDelays 9 = .ok (.if_icmp .ne 32, 3) := by decide +kernel
theorem dX0_putDelays_12 : decode cX0_putDelays 12 = .ok (.aload_n 0, 1) := by decide +kernel
theorem dX0_putDelays_13 : decode cX0_putDelays 13 = .ok (.getfield 15, 3) := by decide +kernel
theorem dX0_putDelays_16 : decode cX0_putDelays 16 = .ok (.iload_n 1, 1) := by decide +kernel
theorem dX0_putDelays_17 : decode cX0_putDelays 17 = .ok (.invokestatic 73, 3) := by decide +kernel
theorem dX0_putDelays_20 : decode cX0_putDelays 20 = .ok (.iload_n 3, 1) := by decide +kernel
theorem dX0_putDelays_21 : decode cX0_putDelays 21 = .ok (.if_icmp .ne 20, 3) := by decide +kernel
theorem dX0_putDelays_24 : decode cX0_putDelays 24 = .ok (.aload_n 0, 1) := by decide +kernel
theorem dX0_putDelays_25 : decode cX0_putDelays 25 = .ok (.getfield 18, 3) := by decide +kernel
theorem dX0_putDelays_28 : decode cX0_putDelays 28 = .ok (.iload_n 1, 1) := by decide +kernel
theorem dX0_putDelays_29 : decode cX0_putDelays 29 = .ok (.invokestatic 73, 3) := by decide +kernel
theorem dX0_putDelays_32 : decode cX0_putDelays 32 = .ok (.iload 4, 2) := by decide +kernel
theorem dX0_putDelays_34 : decode cX0_putDelays 34 = .ok (.if_icmp .ne 7, 3) := by decide +kernel
theorem dX0_putDelays_37 : decode cX0_putDelays 37 = .ok (.iconst 1, 1) := by decide +kernel
theorem dX0_putDelays_38 : decode cX0_putDelays 38 = .ok (.goto 4, 3) := by decide +kernel
theorem dX0_putDelays_41 : decode cX0_putDelays 41 = .ok (.iconst 0, 1) := by decide +kernel
theorem dX0_putDelays_42 : decode cX0_putDelays 42 = .ok (.istore 5, 2) := by decide +kernel
theorem dX0_putDelays_44 : decode cX0_putDelays 44 = .ok (.aload_n 0, 1) := by decide +kernel
theorem dX0_putDelays_45 : decode cX0_putDelays 45 = .ok (.getfield 9, 3) := by decide +kernel
theorem dX0_putDelays_48 : decode cX0_putDelays 48 = .ok (.iload_n 1, 1) := by decide +kernel
theorem dX0_putDelays_49 : decode cX0_putDelays 49 = .ok (.iload_n 2, 1) := by decide +kernel
theorem dX0_putDelays_50 : decode cX0_putDelays 50 = .ok (.invokestatic 77, 3) := by decide +kernel
theorem dX0_putDelays_53 : decode cX0_putDelays 53 = .ok (.aload_n 0, 1) := by decide +kernel
theorem dX0_putDelays_54 : decode cX0_putDelays 54 = .ok (.getfield 15, 3) := by decide +kernel
theorem dX0_putDelays_57 : decode cX0_putDelays 57 = .ok (.iload_n 1, 1) := by decide +kernel
theorem dX0_putDelays_58 : decode cX0_putDelays 58 = .ok (.iload_n 3, 1) := by decide +kernel
theorem dX0_putDelays_59 : decode cX0_putDelays 59 = .ok (.invokestatic 77, 3) := by decide +kernel
theorem dX0_putDelays_62 : decode cX0_putDelays 62 = .ok (.aload_n 0, 1) := by decide +kernel
theorem dX0_putDelays_63 : decode cX0_putDelays 63 = .ok (.getfield 18, 3) := by decide +kernel
theorem dX0_putDelays_66 : decode cX0_putDelays 66 = .ok (.iload_n 1, 1) := by decide +kernel
theorem dX0_putDelays_67 : decode cX0_putDelays 67 = .ok (.iload 4, 2) := by decide +kernel
theorem dX0_putDelays_69 : decode cX0_putDelays 69 = .ok (.invokestatic 77, 3) := by decide +kernel
theorem dX0_putDelays_72 : decode cX0_putDelays 72 = .ok (.iload 5, 2) := by decide +kernel
theorem dX0_putDelays_74 : decode cX0_putDelays 74 = .ok (.ifCond .ne 7, 3) := by decide +kernel
theorem dX0_putDelays_77 : decode cX0_putDelays 77 = .ok (.iconst 1, 1) := by decide +kernel
theorem dX0_putDelays_78 : decode cX0_putDelays 78 = .ok (.goto 4, 3) := by decide +kernel
theorem dX0_putDelays_81 : decode cX0_putDelays 81 = .ok (.iconst 0, 1) := by decide +kernel
theorem dX0_putDelays_82 : decode cX0_putDelays 82 = .ok (.ireturn, 1) := by decide +kernel
theorem dX0_branchesOf_0 : decode cX0_branchesOf 0 = .ok (.aload_n 0, 1) := by decide +kernel
theorem dX0_branchesOf_1 : decode cX0_branchesOf 1 = .ok (.getfield 21, 3) := by decide +kernel
theorem dX0_branchesOf_4 : decode cX0_branchesOf 4 = .ok (.iload_n 1, 1) := by decide +kernel
theorem dX0_branchesOf_5 : decode cX0_branchesOf 5 = .ok (.invokestatic 73, 3) := by decide +kernel
theorem dX0_branchesOf_8 : decode cX0_branchesOf 8 = .ok (.ireturn, 1) := by decide +kernel
theorem dX0_branchAt_0 : decode cX0_branchAt 0 = .ok (.aload_n 0, 1) := by decide +kernel
theorem dX0_branchAt_1 : decode cX0_branchAt 1 = .ok (.getfield 24, 3) := by decide +kernel
theorem dX0_branchAt_4 : decode cX0_branchAt 4 = .ok (.iload_n 1, 1) := by decide +kernel
theorem dX0_branchAt_5 : decode cX0_branchAt 5 = .ok (.bipush 6, 2) := by decide +kernel
theorem dX0_branchAt_7 : decode cX0_branchAt 7 = .ok (.imul, 1) := by decide +kernel
theorem dX0_branchAt_8 : decode cX0_branchAt 8 = .ok (.iload_n 2, 1) := by decide +kernel
theorem dX0_branchAt_9 : decode cX0_branchAt 9 = .ok (.iadd, 1) := by decide +kernel
theorem dX0_branchAt_10 : decode cX0_branchAt 10 = .ok (.invokestatic 73, 3) := by decide +kernel
theorem dX0_branchAt_13 : decode cX0_branchAt 13 = .ok (.ireturn, 1) := by decide +kernel
theorem dX0_putBranch_0 : decode cX0_putBranch 0 = .ok (.aload_n 0, 1) := by decide +kernel
theorem dX0_putBranch_1 : decode cX0_putBranch 1 = .ok (.getfield 24, 3) := by decide +kernel
theorem dX0_putBranch_4 : decode cX0_putBranch 4 = .ok (.iload_n 1, 1) := by decide +kernel
theorem dX0_putBranch_5 : decode cX0_putBranch 5 = .ok (.bipush 6, 2) := by decide +kernel
theorem dX0_putBranch_7 : decode cX0_putBranch 7 = .ok (.imul, 1) := by decide +kernel
theorem dX0_putBranch_8 : decode cX0_putBranch 8 = .ok (.iload_n 2, 1) := by decide +kernel
theorem dX0_putBranch_9 : decode cX0_putBranch 9 = .ok (.iadd, 1) := by decide +kernel
theorem dX0_putBranch_10 : decode cX0_putBranch 10 = .ok (.iload_n 3, 1) := by decide +kernel
theorem dX0_putBranch_11 : decode cX0_putBranch 11 = .ok (.invokestatic 77, 3) := by decide +kernel
theorem dX0_putBranch_14 : decode cX0_putBranch 14 = .ok (.return_, 1) := by decide +kernel
theorem dX0_putCondition_0 : decode cX0_putCondition 0 = .ok (.iload_n 2, 1) := by decide +kernel
theorem dX0_putCondition_1 : decode cX0_putCondition 1 = .ok (.aload_n 0, 1) := by decide +kernel
theorem dX0_putCondition_2 : decode cX0_putCondition 2 = .ok (.iload_n 1, 1) := by decide +kernel
theorem dX0_putCondition_3 : decode cX0_putCondition 3 = .ok (.invokevirtual 81, 3) := by decide +kernel
theorem dX0_putCondition_6 : decode cX0_putCondition 6 = .ok (.if_icmp .ne 7, 3) := by decide +kernel
theorem dX0_putCondition_9 : decode cX0_putCondition 9 = .ok (.iconst 1, 1) := by decide +kernel
theorem dX0_putCondition_10 : decode cX0_putCondition 10 = .ok (.goto 4, 3) := by decide +kernel
theorem dX0_putCondition_13 : decode cX0_putCondition 13 = .ok (.iconst 0, 1) := by decide +kernel
theorem dX0_putCondition_14 : decode cX0_putCondition 14 = .ok (.istore 5, 2) := by decide +kernel
theorem dX0_putCondition_16 : decode cX0_putCondition 16 = .ok (.iload 5, 2) := by decide +kernel
theorem dX0_putCondition_18 : decode cX0_putCondition 18 = .ok (.ifCond .eq 7, 3) := by decide +kernel
theorem dX0_putCondition_21 : decode cX0_putCondition 21 = .ok (.iconst 0, 1) := by decide +kernel
theorem dX0_putCondition_22 : decode cX0_putCondition 22 = .ok (.goto 9, 3) := by decide +kernel
theorem dX0_putCondition_25 : decode cX0_putCondition 25 = .ok (.aload_n 0, 1) := by decide +kernel
theorem dX0_putCondition_26 : decode cX0_putCondition 26 = .ok (.iload_n 1, 1) := by decide +kernel
theorem dX0_putCondition_27 : decode cX0_putCondition 27 = .ok (.iload_n 2, 1) := by decide +kernel
theorem dX0_putCondition_28 : decode cX0_putCondition 28 = .ok (.invokevirtual 85, 3) := by decide +kernel
theorem dX0_putCondition_31 : decode cX0_putCondition 31 = .ok (.istore 6, 2) := by decide +kernel
theorem dX0_putCondition_33 : decode cX0_putCondition 33 = .ok (.iload 5, 2) := by decide +kernel
theorem dX0_putCondition_35 : decode cX0_putCondition 35 = .ok (.ifCond .eq 14, 3) := by decide +kernel
theorem dX0_putCondition_38 : decode cX0_putCondition 38 = .ok (.aload_n 0, 1) := by decide +kernel
theorem dX0_putCondition_39 : decode cX0_putCondition 39 = .ok (.getfield 21, 3) := by decide +kernel
theorem dX0_putCondition_42 : decode cX0_putCondition 42 = .ok (.iload_n 1, 1) := by decide +kernel
theorem dX0_putCondition_43 : decode cX0_putCondition 43 = .ok (.iload_n 2, 1) := by decide +kernel
theorem dX0_putCondition_44 : decode cX0_putCondition 44 = .ok (.iconst 1, 1) := by decide +kernel
theorem dX0_putCondition_45 : decode cX0_putCondition 45 = .ok (.iadd, 1) := by decide +kernel
theorem dX0_putCondition_46 : decode cX0_putCondition 46 = .ok (.invokestatic 77, 3) := by decide +kernel
theorem dX0_putCondition_49 : decode cX0_putCondition 49 = .ok (.aload_n 0, 1) := by decide +kernel
theorem dX0_putCondition_50 : decode cX0_putCondition 50 = .ok (.iload_n 1, 1) := by decide +kernel
theorem dX0_putCondition_51 : decode cX0_putCondition 51 = .ok (.iload_n 2, 1) := by decide +kernel
theorem dX0_putCondition_52 : decode cX0_putCondition 52 = .ok (.iload 6, 2) := by decide +kernel
theorem dX0_putCondition_54 : decode cX0_putCondition 54 = .ok (.iload_n 3, 1) := by decide +kernel
theorem dX0_putCondition_55 : decode cX0_putCondition 55 = .ok (.iload 4, 2) := by decide +kernel
theorem dX0_putCondition_57 : decode cX0_putCondition 57 = .ok (.invokestatic 89, 3) := by decide +kernel
theorem dX0_putCondition_60 : decode cX0_putCondition 60 = .ok (.invokevirtual 95, 3) := by decide +kernel
theorem dX0_putCondition_63 : decode cX0_putCondition 63 = .ok (.aload_n 0, 1) := by decide +kernel
theorem dX0_putCondition_64 : decode cX0_putCondition 64 = .ok (.invokevirtual 99, 3) := by decide +kernel
theorem dX0_putCondition_67 : decode cX0_putCondition 67 = .ok (.pop, 1) := by decide +kernel
theorem dX0_putCondition_68 : decode cX0_putCondition 68 = .ok (.iload 6, 2) := by decide +kernel
theorem dX0_putCondition_70 : decode cX0_putCondition 70 = .ok (.iload_n 3, 1) := by decide +kernel
theorem dX0_putCondition_71 : decode cX0_putCondition 71 = .ok (.invokestatic 103, 3) := by decide +kernel
theorem dX0_putCondition_74 : decode cX0_putCondition 74 = .ok (.ireturn, 1) := by decide +kernel
theorem dX0_dropBranch_0 : decode cX0_dropBranch 0 = .ok (.aload_n 0, 1) := by decide +kernel
theorem dX0_dropBranch_1 : decode cX0_dropBranch 1 = .ok (.iload_n 1, 1) := by decide +kernel
theorem dX0_dropBranch_2 : decode cX0_dropBranch 2 = .ok (.invokevirtual 81, 3) := by decide +kernel
theorem dX0_dropBranch_5 : decode cX0_dropBranch 5 = .ok (.iconst 1, 1) := by decide +kernel
theorem dX0_dropBranch_6 : decode cX0_dropBranch 6 = .ok (.isub, 1) := by decide +kernel
theorem dX0_dropBranch_7 : decode cX0_dropBranch 7 = .ok (.istore_n 3, 1) := by decide +kernel
theorem dX0_dropBranch_8 : decode cX0_dropBranch 8 = .ok (.iload_n 2, 1) := by decide +kernel
theorem dX0_dropBranch_9 : decode cX0_dropBranch 9 = .ok (.istore 4, 2) := by decide +kernel
theorem dX0_dropBranch_11 : decode cX0_dropBranch 11 = .ok (.iload 4, 2) := by decide +kernel
theorem dX0_dropBranch_13 : decode cX0_dropBranch 13 = .ok (.iload_n 3, 1) := by decide +kernel
theorem dX0_dropBranch_14 : decode cX0_dropBranch 14 = .ok (.if_icmp .ge 25, 3) := by decide +kernel
theorem dX0_dropBranch_17 : decode cX0_dropBranch 17 = .ok (.aload_n 0, 1) := by decide +kernel
theorem dX0_dropBranch_18 : decode cX0_dropBranch 18 = .ok (.iload_n 1, 1) := by decide +kernel
theorem dX0_dropBranch_19 : decode cX0_dropBranch 19 = .ok (.iload 4, 2) := by decide +kernel
theorem dX0_dropBranch_21 : decode cX0_dropBranch 21 = .ok (.aload_n 0, 1) := by decide +kernel
theorem dX0_dropBranch_22 : decode cX0_dropBranch 22 = .ok (.iload_n 1, 1) := by decide +kernel
theorem dX0_dropBranch_23 : decode cX0_dropBranch 23 = .ok (.iload 4, 2) := by decide +kernel
theorem dX0_dropBranch_25 : decode cX0_dropBranch 25 = .ok (.iconst 1, 1) := by decide +kernel
theorem dX0_dropBranch_26 : decode cX0_dropBranch 26 = .ok (.iadd, 1) := by decide +kernel
theorem dX0_dropBranch_27 : decode cX0_dropBranch 27 = .ok (.invokevirtual 85, 3) := by decide +kernel
theorem dX0_dropBranch_30 : decode cX0_dropBranch 30 = .ok (.invokevirtual 95, 3) := by decide +kernel
theorem dX0_dropBranch_33 : decode cX0_dropBranch 33 = .ok (.iinc 4 1, 3) := by decide +kernel
theorem dX0_dropBranch_36 : decode cX0_dropBranch 36 = .ok (.goto (-25), 3) := by decide +kernel
theorem dX0_dropBranch_39 : decode cX0_dropBranch 39 = .ok (.aload_n 0, 1) := by decide +kernel
theorem dX0_dropBranch_40 : decode cX0_dropBranch 40 = .ok (.getfield 21, 3) := by decide +kernel
theorem dX0_dropBranch_43 : decode cX0_dropBranch 43 = .ok (.iload_n 1, 1) := by decide +kernel
theorem dX0_dropBranch_44 : decode cX0_dropBranch 44 = .ok (.iload_n 3, 1) := by decide +kernel
theorem dX0_dropBranch_45 : decode cX0_dropBranch 45 = .ok (.invokestatic 77, 3) := by decide +kernel
theorem dX0_dropBranch_48 : decode cX0_dropBranch 48 = .ok (.aload_n 0, 1) := by decide +kernel
theorem dX0_dropBranch_49 : decode cX0_dropBranch 49 = .ok (.invokevirtual 99, 3) := by decide +kernel
theorem dX0_dropBranch_52 : decode cX0_dropBranch 52 = .ok (.pop, 1) := by decide +kernel
theorem dX0_dropBranch_53 : decode cX0_dropBranch 53 = .ok (.iload_n 3, 1) := by decide +kernel
theorem dX0_dropBranch_54 : decode cX0_dropBranch 54 = .ok (.ireturn, 1) := by decide +kernel
theorem dX0_concerns_0 : decode cX0_concerns 0 = .ok (.aload_n 0, 1) := by decide +kernel
theorem dX0_concerns_1 : decode cX0_concerns 1 = .ok (.iload_n 1, 1) := by decide +kernel
theorem dX0_concerns_2 : decode cX0_concerns 2 = .ok (.invokevirtual 81, 3) := by decide +kernel
theorem dX0_concerns_5 : decode cX0_concerns 5 = .ok (.istore_n 3, 1) := by decide +kernel
theorem dX0_concerns_6 : decode cX0_concerns 6 = .ok (.iconst 0, 1) := by decide +kernel
theorem dX0_concerns_7 : decode cX0_concerns 7 = .ok (.istore 4, 2) := by decide +kernel
theorem dX0_concerns_9 : decode cX0_concerns 9 = .ok (.iload 4, 2) := by decide +kernel
theorem dX0_concerns_11 : decode cX0_concerns 11 = .ok (.iload_n 3, 1) := by decide +kernel
theorem dX0_concerns_12 : decode cX0_concerns 12 = .ok (.if_icmp .ge 25, 3) := by decide +kernel
theorem dX0_concerns_15 : decode cX0_concerns 15 = .ok (.aload_n 0, 1) := by decide +kernel
theorem dX0_concerns_16 : decode cX0_concerns 16 = .ok (.iload_n 1, 1) := by decide +kernel
theorem dX0_concerns_17 : decode cX0_concerns 17 = .ok (.iload 4, 2) := by decide +kernel
theorem dX0_concerns_19 : decode cX0_concerns 19 = .ok (.invokevirtual 85, 3) := by decide +kernel
theorem dX0_concerns_22 : decode cX0_concerns 22 = .ok (.iload_n 2, 1) := by decide +kernel
theorem dX0_concerns_23 : decode cX0_concerns 23 = .ok (.invokestatic 103, 3) := by decide +kernel
theorem dX0_concerns_26 : decode cX0_concerns 26 = .ok (.ifCond .eq 5, 3) := by decide +kernel
theorem dX0_concerns_29 : decode cX0_concerns 29 = .ok (.iconst 1, 1) := by decide +kernel
theorem dX0_concerns_30 : decode cX0_concerns 30 = .ok (.ireturn, 1) := by decide +kernel
theorem dX0_concerns_31 : decode cX0_concerns 31 = .ok (.iinc 4 1, 3) := by decide +kernel
theorem dX0_concerns_34 : decode cX0_concerns 34 = .ok (.goto (-25), 3) := by decide +kernel
theorem dX0_concerns_37 : decode cX0_concerns 37 = .ok (.iconst 0, 1) := by decide +kernel
theorem dX0_concerns_38 : decode cX0_concerns 38 = .ok (.ireturn, 1) := by decide +kernel
theorem dX0_turnKey_0 : decode cX0_turnKey 0 = .ok (.aload_n 0, 1) := by decide +kernel
theorem dX0_turnKey_1 : decode cX0_turnKey 1 = .ok (.dup, 1) := by decide +kernel
theorem dX0_turnKey_2 : decode cX0_turnKey 2 = .ok (.getfield 44, 3) := by decide +kernel
theorem dX0_turnKey_5 : decode cX0_turnKey 5 = .ok (.iconst 1, 1) := by decide +kernel
theorem dX0_turnKey_6 : decode cX0_turnKey 6 = .ok (.iload_n 1, 1) := by decide +kernel
theorem dX0_turnKey_7 : decode cX0_turnKey 7 = .ok (.ishl, 1) := by decide +kernel
theorem dX0_turnKey_8 : decode cX0_turnKey 8 = .ok (.ixor, 1) := by decide +kernel
theorem dX0_turnKey_9 : decode cX0_turnKey 9 = .ok (.putfield 44, 3) := by decide +kernel
theorem dX0_turnKey_12 : decode cX0_turnKey 12 = .ok (.aload_n 0, 1) := by decide +kernel
theorem dX0_turnKey_13 : decode cX0_turnKey 13 = .ok (.invokevirtual 99, 3) := by decide +kernel
theorem dX0_turnKey_16 : decode cX0_turnKey 16 = .ok (.ireturn, 1) := by decide +kernel
theorem dX0_faultOf_0 : decode cX0_faultOf 0 = .ok (.aload_n 0, 1) := by decide +kernel
theorem dX0_faultOf_1 : decode cX0_faultOf 1 = .ok (.getfield 59, 3) := by decide +kernel
theorem dX0_faultOf_4 : decode cX0_faultOf 4 = .ok (.iload_n 1, 1) := by decide +kernel
theorem dX0_faultOf_5 : decode cX0_faultOf 5 = .ok (.invokestatic 106, 3) := by decide +kernel
theorem dX0_faultOf_8 : decode cX0_faultOf 8 = .ok (.ifCond .eq 7, 3) := by decide +kernel
theorem dX0_faultOf_11 : decode cX0_faultOf 11 = .ok (.iconst 1, 1) := by decide +kernel
theorem dX0_faultOf_12 : decode cX0_faultOf 12 = .ok (.goto 19, 3) := by decide +kernel
theorem dX0_faultOf_15 : decode cX0_faultOf 15 = .ok (.aload_n 0, 1) := by decide +kernel
theorem dX0_faultOf_16 : decode cX0_faultOf 16 = .ok (.getfield 62, 3) := by decide +kernel
theorem dX0_faultOf_19 : decode cX0_faultOf 19 = .ok (.iload_n 1, 1) := by decide +kernel
theorem dX0_faultOf_20 : decode cX0_faultOf 20 = .ok (.invokestatic 106, 3) := by decide +kernel
theorem dX0_faultOf_23 : decode cX0_faultOf 23 = .ok (.ifCond .eq 7, 3) := by decide +kernel
theorem dX0_faultOf_26 : decode cX0_faultOf 26 = .ok (.iconst 2, 1) := by decide +kernel
theorem dX0_faultOf_27 : decode cX0_faultOf 27 = .ok (.goto 4, 3) := by decide +kernel
theorem dX0_faultOf_30 : decode cX0_faultOf 30 = .ok (.iconst 0, 1) := by decide +kernel
theorem dX0_faultOf_31 : decode cX0_faultOf 31 = .ok (.ireturn, 1) := by decide +kernel
theorem dX0_putFault_0 : decode cX0_putFault 0 = .ok (.iconst 1, 1) := by decide +kernel
theorem dX0_putFault_1 : decode cX0_putFault 1 = .ok (.iload_n 1, 1) := by decide +kernel
theorem dX0_putFault_2 : decode cX0_putFault 2 = .ok (.ishl, 1) := by decide +kernel
theorem dX0_putFault_3 : decode cX0_putFault 3 = .ok (.istore_n 3, 1) := by decide +kernel
theorem dX0_putFault_4 : decode cX0_putFault 4 = .ok (.aload_n 0, 1) := by decide +kernel
theorem dX0_putFault_5 : decode cX0_putFault 5 = .ok (.iload_n 2, 1) := by decide +kernel
theorem dX0_putFault_6 : decode cX0_putFault 6 = .ok (.iconst 1, 1) := by decide +kernel
theorem dX0_putFault_7 : decode cX0_putFault 7 = .ok (.if_icmp .ne 12, 3) := by decide +kernel
theorem dX0_putFault_10 : decode cX0_putFault 10 = .ok (.aload_n 0, 1) := by decide +kernel
theorem dX0_putFault_11 : decode cX0_putFault 11 = .ok (.getfield 59, 3) := by decide +kernel
theorem dX0_putFault_14 : decode cX0_putFault 14 = .ok (.iload_n 3, 1) := by decide +kernel
theorem dX0_putFault_15 : decode cX0_putFault 15 = .ok (.ior, 1) := by decide +kernel
theorem dX0_putFault_16 : decode cX0_putFault 16 = .ok (.goto 11, 3) := by decide +kernel
theorem dX0_putFault_19 : decode cX0_putFault 19 = .ok (.aload_n 0, 1) := by decide +kernel
theorem dX0_putFault_20 : decode cX0_putFault 20 = .ok (.getfield 59, 3) := by decide +kernel
theorem dX0_putFault_23 : decode cX0_putFault 23 = .ok (.iload_n 3, 1) := by decide +kernel
theorem dX0_putFault_24 : decode cX0_putFault 24 = .ok (.iconst (-1), 1) := by decide +kernel
theorem dX0_putFault_25 : decode cX0_putFault 25 = .ok (.ixor, 1) := by decide +kernel
theorem dX0_putFault_26 : decode cX0_putFault 26 = .ok (.iand, 1) := by decide +kernel
theorem dX0_putFault_27 : decode cX0_putFault 27 = .ok (.putfield 59, 3) := by decide +kernel
theorem dX0_putFault_30 : decode cX0_putFault 30 = .ok (.aload_n 0, 1) := by decide +kernel
theorem dX0_putFault_31 : decode cX0_putFault 31 = .ok (.iload_n 2, 1) := by decide +kernel
theorem dX0_putFault_32 : decode cX0_putFault 32 = .ok (.iconst 2, 1) := by decide +kernel
theorem dX0_putFault_33 : decode cX0_putFault 33 = .ok (.if_icmp .ne 12, 3) := by decide +kernel
theorem dX0_putFault_36 : decode cX0_putFault 36 = .ok (.aload_n 0, 1) := by decide +kernel
theorem dX0_putFault_37 : decode cX0_putFault 37 = .ok (.getfield 62, 3) := by decide +kernel
theorem dX0_putFault_40 : decode cX0_putFault 40 = .ok (.iload_n 3, 1) := by decide +kernel
theorem dX0_putFault_41 : decode cX0_putFault 41 = .ok (.ior, 1) := by decide +kernel
theorem dX0_putFault_42 : decode cX0_putFault 42 = .ok (.goto 11, 3) := by decide +kernel
theorem dX0_putFault_45 : decode cX0_putFault 45 = .ok (.aload_n 0, 1) := by decide +kernel
theorem dX0_putFault_46 : decode cX0_putFault 46 = .ok (.getfield 62, 3) := by decide +kernel
theorem dX0_putFault_49 : decode cX0_putFault 49 = .ok (.iload_n 3, 1) := by decide +kernel
theorem dX0_putFault_50 : decode cX0_putFault 50 = .ok (.iconst (-1), 1) := by decide +kernel
theorem dX0_putFault_51 : decode cX0_putFault 51 = .ok (.ixor, 1) := by decide +kernel
theorem dX0_putFault_52 : decode cX0_putFault 52 = .ok (.iand, 1) := by decide +kernel
theorem dX0_putFault_53 : decode cX0_putFault 53 = .ok (.putfield 62, 3) := by decide +kernel
theorem dX0_putFault_56 : decode cX0_putFault 56 = .ok (.aload_n 0, 1) := by decide +kernel
theorem dX0_putFault_57 : decode cX0_putFault 57 = .ok (.invokevirtual 99, 3) := by decide +kernel
theorem dX0_putFault_60 : decode cX0_putFault 60 = .ok (.pop, 1) := by decide +kernel
theorem dX0_putFault_61 : decode cX0_putFault 61 = .ok (.return_, 1) := by decide +kernel
theorem dX0_closedContacts_0 : decode cX0_closedContacts 0 = .ok (.aload_n 0, 1) := by decide +kernel
theorem dX0_closedContacts_1 : decode cX0_closedContacts 1 = .ok (.getfield 50, 3) := by decide +kernel
theorem dX0_closedContacts_4 : decode cX0_closedContacts 4 = .ok (.aload_n 0, 1) := by decide +kernel
theorem dX0_closedContacts_5 : decode cX0_closedContacts 5 = .ok (.getfield 53, 3) := by decide +kernel
theorem dX0_closedContacts_8 : decode cX0_closedContacts 8 = .ok (.iconst (-1), 1) := by decide +kernel
theorem dX0_closedContacts_9 : decode cX0_closedContacts 9 = .ok (.ixor, 1) := by decide +kernel
theorem dX0_closedContacts_10 : decode cX0_closedContacts 10 = .ok (.iand, 1) := by decide +kernel
theorem dX0_closedContacts_11 : decode cX0_closedContacts 11 = .ok (.aload_n 0, 1) := by decide +kernel
theorem dX0_closedContacts_12 : decode cX0_closedContacts 12 = .ok (.getfield 59, 3) := by decide +kernel
theorem dX0_closedContacts_15 : decode cX0_closedContacts 15 = .ok (.iconst (-1), 1) := by decide +kernel
theorem dX0_closedContacts_16 : decode cX0_closedContacts 16 = .ok (.ixor, 1) := by decide +kernel
theorem dX0_closedContacts_17 : decode cX0_closedContacts 17 = .ok (.iand, 1) := by decide +kernel
theorem dX0_closedContacts_18 : decode cX0_closedContacts 18 = .ok (.aload_n 0, 1) := by decide +kernel
theorem dX0_closedContacts_19 : decode cX0_closedContacts 19 = .ok (.getfield 62, 3) := by decide +kernel
theorem dX0_closedContacts_22 : decode cX0_closedContacts 22 = .ok (.ior, 1) := by decide +kernel
theorem dX0_closedContacts_23 : decode cX0_closedContacts 23 = .ok (.ireturn, 1) := by decide +kernel
theorem dX0_failing_0 : decode cX0_failing 0 = .ok (.aload_n 0, 1) := by decide +kernel
theorem dX0_failing_1 : decode cX0_failing 1 = .ok (.getfield 44, 3) := by decide +kernel
theorem dX0_failing_4 : decode cX0_failing 4 = .ok (.aload_n 0, 1) := by decide +kernel
theorem dX0_failing_5 : decode cX0_failing 5 = .ok (.invokevirtual 110, 3) := by decide +kernel
theorem dX0_failing_8 : decode cX0_failing 8 = .ok (.bipush 8, 2) := by decide +kernel
theorem dX0_failing_10 : decode cX0_failing 10 = .ok (.ishl, 1) := by decide +kernel
theorem dX0_failing_11 : decode cX0_failing 11 = .ok (.ior, 1) := by decide +kernel
theorem dX0_failing_12 : decode cX0_failing 12 = .ok (.istore_n 1, 1) := by decide +kernel
theorem dX0_failing_13 : decode cX0_failing 13 = .ok (.iload_n 1, 1) := by decide +kernel
theorem dX0_failing_14 : decode cX0_failing 14 = .ok (.bipush 16, 2) := by decide +kernel
theorem dX0_failing_16 : decode cX0_failing 16 = .ok (.ishl, 1) := by decide +kernel
theorem dX0_failing_17 : decode cX0_failing 17 = .ok (.iload_n 1, 1) := by decide +kernel
theorem dX0_failing_18 : decode cX0_failing 18 = .ok (.iconst (-1), 1) := by decide +kernel
theorem dX0_failing_19 : decode cX0_failing 19 = .ok (.ixor, 1) := by decide +kernel
theorem dX0_failing_20 : decode cX0_failing 20 = .ok (.ldc 113, 2) := by decide +kernel
theorem dX0_failing_22 : decode cX0_failing 22 = .ok (.iand, 1) := by decide +kernel
theorem dX0_failing_23 : decode cX0_failing 23 = .ok (.ior, 1) := by decide +kernel
theorem dX0_failing_24 : decode cX0_failing 24 = .ok (.ireturn, 1) := by decide +kernel
theorem dX0_conducts_0 : decode cX0_conducts 0 = .ok (.iload_n 1, 1) := by decide +kernel
theorem dX0_conducts_1 : decode cX0_conducts 1 = .ok (.bipush 6, 2) := by decide +kernel
theorem dX0_conducts_3 : decode cX0_conducts 3 = .ok (.imul, 1) := by decide +kernel
theorem dX0_conducts_4 : decode cX0_conducts 4 = .ok (.istore_n 3, 1) := by decide +kernel
theorem dX0_conducts_5 : decode cX0_conducts 5 = .ok (.aload_n 0, 1) := by decide +kernel
theorem dX0_conducts_6 : decode cX0_conducts 6 = .ok (.getfield 21, 3) := by decide +kernel
theorem dX0_conducts_9 : decode cX0_conducts 9 = .ok (.iload_n 1, 1) := by decide +kernel
theorem dX0_conducts_10 : decode cX0_conducts 10 = .ok (.invokestatic 73, 3) := by decide +kernel
theorem dX0_conducts_13 : decode cX0_conducts 13 = .ok (.istore 4, 2) := by decide +kernel
theorem dX0_conducts_15 : decode cX0_conducts 15 = .ok (.iconst 0, 1) := by decide +kernel
theorem dX0_conducts_16 : decode cX0_conducts 16 = .ok (.istore 5, 2) := by decide +kernel
theorem dX0_conducts_18 : decode cX0_conducts 18 = .ok (.iload 5, 2) := by decide +kernel
theorem dX0_conducts_20 : decode cX0_conducts 20 = .ok (.iload 4, 2) := by decide +kernel
theorem dX0_conducts_22 : decode cX0_conducts 22 = .ok (.if_icmp .ge 27, 3) := by decide +kernel
theorem dX0_conducts_25 : decode cX0_conducts 25 = .ok (.aload_n 0, 1) := by decide +kernel
theorem dX0_conducts_26 : decode cX0_conducts 26 = .ok (.getfield 24, 3) := by decide +kernel
theorem dX0_conducts_29 : decode cX0_conducts 29 = .ok (.iload_n 3, 1) := by decide +kernel
theorem dX0_conducts_30 : decode cX0_conducts 30 = .ok (.iload 5, 2) := by decide +kernel
theorem dX0_conducts_32 : decode cX0_conducts 32 = .ok (.iadd, 1) := by decide +kernel
theorem dX0_conducts_33 : decode cX0_conducts 33 = .ok (.invokestatic 73, 3) := by decide +kernel
theorem dX0_conducts_36 : decode cX0_conducts 36 = .ok (.iload_n 2, 1) := by decide +kernel
theorem dX0_conducts_37 : decode cX0_conducts 37 = .ok (.iand, 1) := by decide +kernel
theorem dX0_conducts_38 : decode cX0_conducts 38 = .ok (.ifCond .ne 5, 3) := by decide +kernel
theorem dX0_conducts_41 : decode cX0_conducts 41 = .ok (.iconst 1, 1) := by decide +kernel
theorem dX0_conducts_42 : decode cX0_conducts 42 = .ok (.ireturn, 1) := by decide +kernel
theorem dX0_conducts_43 : decode cX0_conducts 43 = .ok (.iinc 5 1, 3) := by decide +kernel
theorem dX0_conducts_46 : decode cX0_conducts 46 = .ok (.goto (-28), 3) := by decide +kernel
theorem dX0_conducts_49 : decode cX0_conducts 49 = .ok (.iconst 0, 1) := by decide +kernel
theorem dX0_conducts_50 : decode cX0_conducts 50 = .ok (.ireturn, 1) := by decide +kernel
theorem dX0_lookAtCoils_0 : decode cX0_lookAtCoils 0 = .ok (.aload_n 0, 1) := by decide +kernel
theorem dX0_lookAtCoils_1 : decode cX0_lookAtCoils 1 = .ok (.invokevirtual 114, 3) := by decide +kernel
theorem dX0_lookAtCoils_4 : decode cX0_lookAtCoils 4 = .ok (.istore_n 1, 1) := by decide +kernel
theorem dX0_lookAtCoils_5 : decode cX0_lookAtCoils 5 = .ok (.iconst 0, 1) := by decide +kernel
theorem dX0_lookAtCoils_6 : decode cX0_lookAtCoils 6 = .ok (.istore_n 2, 1) := by decide +kernel
theorem dX0_lookAtCoils_7 : decode cX0_lookAtCoils 7 = .ok (.iconst 0, 1) := by decide +kernel
theorem dX0_lookAtCoils_8 : decode cX0_lookAtCoils 8 = .ok (.istore_n 3, 1) := by decide +kernel
theorem dX0_lookAtCoils_9 : decode cX0_lookAtCoils 9 = .ok (.iload_n 3, 1) := by decide +kernel
theorem dX0_lookAtCoils_10 : decode cX0_lookAtCoils 10 = .ok (.aload_n 0, 1) := by decide +kernel
theorem dX0_lookAtCoils_11 : decode cX0_lookAtCoils 11 = .ok (.getfield 37, 3) := by decide +kernel
theorem dX0_lookAtCoils_14 : decode cX0_lookAtCoils 14 = .ok (.if_icmp .ge 34, 3) := by decide +kernel
theorem dX0_lookAtCoils_17 : decode cX0_lookAtCoils 17 = .ok (.aload_n 0, 1) := by decide +kernel
theorem dX0_lookAtCoils_18 : decode cX0_lookAtCoils 18 = .ok (.iload_n 3, 1) := by decide +kernel
theorem dX0_lookAtCoils_19 : decode cX0_lookAtCoils 19 = .ok (.iload_n 1, 1) := by decide +kernel
theorem dX0_lookAtCoils_20 : decode cX0_lookAtCoils 20 = .ok (.invokevirtual 117, 3) := by decide +kernel
theorem dX0_lookAtCoils_23 : decode cX0_lookAtCoils 23 = .ok (.aload_n 0, 1) := by decide +kernel
theorem dX0_lookAtCoils_24 : decode cX0_lookAtCoils 24 = .ok (.getfield 47, 3) := by decide +kernel
theorem dX0_lookAtCoils_27 : decode cX0_lookAtCoils 27 = .ok (.iload_n 3, 1) := by decide +kernel
theorem dX0_lookAtCoils_28 : decode cX0_lookAtCoils 28 = .ok (.invokestatic 106, 3) := by decide +kernel
theorem dX0_lookAtCoils_31 : decode cX0_lookAtCoils 31 = .ok (.if_icmp .eq 11, 3) := by decide +kernel
theorem dX0_lookAtCoils_34 : decode cX0_lookAtCoils 34 = .ok (.aload_n 0, 1) := by decide +kernel
theorem dX0_lookAtCoils_35 : decode cX0_lookAtCoils 35 = .ok (.iload_n 3, 1) := by decide +kernel
theorem dX0_lookAtCoils_36 : decode cX0_lookAtCoils 36 = .ok (.invokevirtual 120, 3) := by decide +kernel
theorem dX0_lookAtCoils_39 : decode cX0_lookAtCoils 39 = .ok (.iinc 2 1, 3) := by decide +kernel
theorem dX0_lookAtCoils_42 : decode cX0_lookAtCoils 42 = .ok (.iinc 3 1, 3) := by decide +kernel
theorem dX0_lookAtCoils_45 : decode cX0_lookAtCoils 45 = .ok (.goto (-36), 3) := by decide +kernel
theorem dX0_lookAtCoils_48 : decode cX0_lookAtCoils 48 = .ok (.iload_n 2, 1) := by decide +kernel
theorem dX0_lookAtCoils_49 : decode cX0_lookAtCoils 49 = .ok (.ireturn, 1) := by decide +kernel
theorem dX0_turnCoil_0 : decode cX0_turnCoil 0 = .ok (.aload_n 0, 1) := by decide +kernel
theorem dX0_turnCoil_1 : decode cX0_turnCoil 1 = .ok (.dup, 1) := by decide +kernel
theorem dX0_turnCoil_2 : decode cX0_turnCoil 2 = .ok (.getfield 47, 3) := by decide +kernel
theorem dX0_turnCoil_5 : decode cX0_turnCoil 5 = .ok (.iconst 1, 1) := by decide +kernel
theorem dX0_turnCoil_6 : decode cX0_turnCoil 6 = .ok (.iload_n 1, 1) := by decide +kernel
theorem dX0_turnCoil_7 : decode cX0_turnCoil 7 = .ok (.ishl, 1) := by decide +kernel
theorem dX0_turnCoil_8 : decode cX0_turnCoil 8 = .ok (.ixor, 1) := by decide +kernel
theorem dX0_turnCoil_9 : decode cX0_turnCoil 9 = .ok (.putfield 47, 3) := by decide +kernel
theorem dX0_turnCoil_12 : decode cX0_turnCoil 12 = .ok (.ldc 30, 2) := by decide +kernel
theorem dX0_turnCoil_14 : decode cX0_turnCoil 14 = .ok (.istore_n 2, 1) := by decide +kernel
theorem dX0_turnCoil_15 : decode cX0_turnCoil 15 = .ok (.aload_n 0, 1) := by decide +kernel
theorem dX0_turnCoil_16 : decode cX0_turnCoil 16 = .ok (.getfield 47, 3) := by decide +kernel
theorem dX0_turnCoil_19 : decode cX0_turnCoil 19 = .ok (.aload_n 0, 1) := by decide +kernel
theorem dX0_turnCoil_20 : decode cX0_turnCoil 20 = .ok (.getfield 50, 3) := by decide +kernel
theorem dX0_turnCoil_23 : decode cX0_turnCoil 23 = .ok (.ixor, 1) := by decide +kernel
theorem dX0_turnCoil_24 : decode cX0_turnCoil 24 = .ok (.iload_n 1, 1) := by decide +kernel
theorem dX0_turnCoil_25 : decode cX0_turnCoil 25 = .ok (.invokestatic 106, 3) := by decide +kernel
theorem dX0_turnCoil_28 : decode cX0_turnCoil 28 = .ok (.ifCond .eq 35, 3) := by decide +kernel
theorem dX0_turnCoil_31 : decode cX0_turnCoil 31 = .ok (.aload_n 0, 1) := by decide +kernel
theorem dX0_turnCoil_32 : decode cX0_turnCoil 32 = .ok (.getfield 41, 3) := by decide +kernel
theorem dX0_turnCoil_35 : decode cX0_turnCoil 35 = .ok (.aload_n 0, 1) := by decide +kernel
theorem dX0_turnCoil_36 : decode cX0_turnCoil 36 = .ok (.getfield 47, 3) := by decide +kernel
theorem dX0_turnCoil_39 : decode cX0_turnCoil 39 = .ok (.iload_n 1, 1) := by decide +kernel
theorem dX0_turnCoil_40 : decode cX0_turnCoil 40 = .ok (.invokestatic 106, 3) := by decide +kernel
theorem dX0_turnCoil_43 : decode cX0_turnCoil 43 = .ok (.ifCond .eq 10, 3) := by decide +kernel
theorem dX0_turnCoil_46 : decode cX0_turnCoil 46 = .ok (.aload_n 0, 1) := by decide +kernel
theorem dX0_turnCoil_47 : decode cX0_turnCoil 47 = .ok (.getfield 9, 3) := by decide +kernel
theorem dX0_turnCoil_50 : decode cX0_turnCoil 50 = .ok (.goto 7, 3) := by decide +kernel
theorem dX0_turnCoil_53 : decode cX0_turnCoil 53 = .ok (.aload_n 0, 1) := by decide +kernel
theorem dX0_turnCoil_54 : decode cX0_turnCoil 54 = .ok (.getfield 15, 3) := by decide +kernel
theorem dX0_turnCoil_57 : decode cX0_turnCoil 57 = .ok (.iload_n 1, 1) := by decide +kernel
theorem dX0_turnCoil_58 : decode cX0_turnCoil 58 = .ok (.invokestatic 73, 3) := by decide +kernel
theorem dX0_turnCoil_61 : decode cX0_turnCoil 61 = .ok (.iadd, 1) := by decide +kernel
theorem dX0_turnCoil_62 : decode cX0_turnCoil 62 = .ok (.istore_n 2, 1) := by decide +kernel
theorem dX0_turnCoil_63 : decode cX0_turnCoil 63 = .ok (.aload_n 0, 1) := by decide +kernel
theorem dX0_turnCoil_64 : decode cX0_turnCoil 64 = .ok (.getfield 27, 3) := by decide +kernel
theorem dX0_turnCoil_67 : decode cX0_turnCoil 67 = .ok (.iconst 2, 1) := by decide +kernel
theorem dX0_turnCoil_68 : decode cX0_turnCoil 68 = .ok (.iload_n 1, 1) := by decide +kernel
theorem dX0_turnCoil_69 : decode cX0_turnCoil 69 = .ok (.imul, 1) := by decide +kernel
theorem dX0_turnCoil_70 : decode cX0_turnCoil 70 = .ok (.iload_n 2, 1) := by decide +kernel
theorem dX0_turnCoil_71 : decode cX0_turnCoil 71 = .ok (.invokestatic 77, 3) := by decide +kernel
theorem dX0_turnCoil_74 : decode cX0_turnCoil 74 = .ok (.return_, 1) := by decide +kernel
theorem dX0_relayOf_0 : decode cX0_relayOf 0 = .ok (.iload_n 0, 1) := by decide +kernel
theorem dX0_relayOf_1 : decode cX0_relayOf 1 = .ok (.iconst 1, 1) := by decide +kernel
theorem dX0_relayOf_2 : decode cX0_relayOf 2 = .ok (.ishr, 1) := by decide +kernel
theorem dX0_relayOf_3 : decode cX0_relayOf 3 = .ok (.ireturn, 1) := by decide +kernel
theorem dX0_isBounceEnd_0 : decode cX0_isBounceEnd 0 = .ok (.iload_n 0, 1) := by decide +kernel
theorem dX0_isBounceEnd_1 : decode cX0_isBounceEnd 1 = .ok (.iconst 1, 1) := by decide +kernel
theorem dX0_isBounceEnd_2 : decode cX0_isBounceEnd 2 = .ok (.iand, 1) := by decide +kernel
theorem dX0_isBounceEnd_3 : decode cX0_isBounceEnd 3 = .ok (.iconst 1, 1) := by decide +kernel
theorem dX0_isBounceEnd_4 : decode cX0_isBounceEnd 4 = .ok (.if_icmp .ne 7, 3) := by decide +kernel
theorem dX0_isBounceEnd_7 : decode cX0_isBounceEnd 7 = .ok (.iconst 1, 1) := by decide +kernel
theorem dX0_isBounceEnd_8 : decode cX0_isBounceEnd 8 = .ok (.goto 4, 3) := by decide +kernel
theorem dX0_isBounceEnd_11 : decode cX0_isBounceEnd 11 = .ok (.iconst 0, 1) := by decide +kernel
theorem dX0_isBounceEnd_12 : decode cX0_isBounceEnd 12 = .ok (.ireturn, 1) := by decide +kernel
theorem dX0_kindOf_0 : decode cX0_kindOf 0 = .ok (.iload_n 1, 1) := by decide +kernel
theorem dX0_kindOf_1 : decode cX0_kindOf 1 = .ok (.invokestatic 124, 3) := by decide +kernel
theorem dX0_kindOf_4 : decode cX0_kindOf 4 = .ok (.ifCond .eq 5, 3) := by decide +kernel
theorem dX0_kindOf_7 : decode cX0_kindOf 7 = .ok (.iconst 2, 1) := by decide +kernel
theorem dX0_kindOf_8 : decode cX0_kindOf 8 = .ok (.ireturn, 1) := by decide +kernel
theorem dX0_kindOf_9 : decode cX0_kindOf 9 = .ok (.aload_n 0, 1) := by decide +kernel
theorem dX0_kindOf_10 : decode cX0_kindOf 10 = .ok (.getfield 47, 3) := by decide +kernel
theorem dX0_kindOf_13 : decode cX0_kindOf 13 = .ok (.iload_n 1, 1) := by decide +kernel
theorem dX0_kindOf_14 : decode cX0_kindOf 14 = .ok (.invokestatic 128, 3) := by decide +kernel
theorem dX0_kindOf_17 : decode cX0_kindOf 17 = .ok (.invokestatic 106, 3) := by decide +kernel
theorem dX0_kindOf_20 : decode cX0_kindOf 20 = .ok (.ifCond .eq 7, 3) := by decide +kernel
theorem dX0_kindOf_23 : decode cX0_kindOf 23 = .ok (.iconst 0, 1) := by decide +kernel
theorem dX0_kindOf_24 : decode cX0_kindOf 24 = .ok (.goto 4, 3) := by decide +kernel
theorem dX0_kindOf_27 : decode cX0_kindOf 27 = .ok (.iconst 1, 1) := by decide +kernel
theorem dX0_kindOf_28 : decode cX0_kindOf 28 = .ok (.ireturn, 1) := by decide +kernel
theorem dX0_waiting_0 : decode cX0_waiting 0 = .ok (.iconst 0, 1) := by decide +kernel
theorem dX0_waiting_1 : decode cX0_waiting 1 = .ok (.istore_n 1, 1) := by decide +kernel
theorem dX0_waiting_2 : decode cX0_waiting 2 = .ok (.iconst 0, 1) := by decide +kernel
theorem dX0_waiting_3 : decode cX0_waiting 3 = .ok (.istore_n 2, 1) := by decide +kernel
theorem dX0_waiting_4 : decode cX0_waiting 4 = .ok (.iload_n 2, 1) := by decide +kernel
theorem dX0_waiting_5 : decode cX0_waiting 5 = .ok (.aload_n 0, 1) := by decide +kernel
theorem dX0_waiting_6 : decode cX0_waiting 6 = .ok (.getfield 27, 3) := by decide +kernel
theorem dX0_waiting_9 : decode cX0_waiting 9 = .ok (.arraylength, 1) := by decide +kernel
theorem dX0_waiting_10 : decode cX0_waiting 10 = .ok (.if_icmp .ge 23, 3) := by decide +kernel
theorem dX0_waiting_13 : decode cX0_waiting 13 = .ok (.aload_n 0, 1) := by decide +kernel
theorem dX0_waiting_14 : decode cX0_waiting 14 = .ok (.getfield 27, 3) := by decide +kernel
theorem dX0_waiting_17 : decode cX0_waiting 17 = .ok (.iload_n 2, 1) := by decide +kernel
theorem dX0_waiting_18 : decode cX0_waiting 18 = .ok (.iaload, 1) := by decide +kernel
theorem dX0_waiting_19 : decode cX0_waiting 19 = .ok (.ldc 30, 2) := by decide +kernel
theorem dX0_waiting_21 : decode cX0_waiting 21 = .ok (.if_icmp .eq 6, 3) := by decide +kernel
theorem dX0_waiting_24 : decode cX0_waiting 24 = .ok (.iinc 1 1, 3) := by decide +kernel
theorem dX0_waiting_27 : decode cX0_waiting 27 = .ok (.iinc 2 1, 3) := by decide +kernel
theorem dX0_waiting_30 : decode cX0_waiting 30 = .ok (.goto (-26), 3) := by decide +kernel
theorem dX0_waiting_33 : decode cX0_waiting 33 = .ok (.iload_n 1, 1) := by decide +kernel
theorem dX0_waiting_34 : decode cX0_waiting 34 = .ok (.ireturn, 1) := by decide +kernel
theorem dX0_isQuiet_0 : decode cX0_isQuiet 0 = .ok (.aload_n 0, 1) := by decide +kernel
theorem dX0_isQuiet_1 : decode cX0_isQuiet 1 = .ok (.iconst 0, 1) := by decide +kernel
theorem dX0_isQuiet_2 : decode cX0_isQuiet 2 = .ok (.invokevirtual 131, 3) := by decide +kernel
theorem dX0_isQuiet_5 : decode cX0_isQuiet 5 = .ok (.iconst (-1), 1) := by decide +kernel
theorem dX0_isQuiet_6 : decode cX0_isQuiet 6 = .ok (.if_icmp .ne 7, 3) := by decide +kernel
theorem dX0_isQuiet_9 : decode cX0_isQuiet 9 = .ok (.iconst 1, 1) := by decide +kernel
theorem dX0_isQuiet_10 : decode cX0_isQuiet 10 = .ok (.goto 4, 3) := by decide +kernel
theorem dX0_isQuiet_13 : decode cX0_isQuiet 13 = .ok (.iconst 0, 1) := by decide +kernel
theorem dX0_isQuiet_14 : decode cX0_isQuiet 14 = .ok (.ireturn, 1) := by decide +kernel
theorem dX0_nextSlot_0 : decode cX0_nextSlot 0 = .ok (.iconst (-1), 1) := by decide +kernel
theorem dX0_nextSlot_1 : decode cX0_nextSlot 1 = .ok (.istore_n 2, 1) := by decide +kernel
theorem dX0_nextSlot_2 : decode cX0_nextSlot 2 = .ok (.ldc 30, 2) := by decide +kernel
theorem dX0_nextSlot_4 : decode cX0_nextSlot 4 = .ok (.istore_n 3, 1) := by decide +kernel
theorem dX0_nextSlot_5 : decode cX0_nextSlot 5 = .ok (.iconst 0, 1) := by decide +kernel
theorem dX0_nextSlot_6 : decode cX0_nextSlot 6 = .ok (.istore 4, 2) := by decide +kernel
theorem dX0_nextSlot_8 : decode cX0_nextSlot 8 = .ok (.iload 4, 2) := by decide +kernel
theorem dX0_nextSlot_10 : decode cX0_nextSlot 10 = .ok (.aload_n 0, 1) := by decide +kernel
theorem dX0_nextSlot_11 : decode cX0_nextSlot 11 = .ok (.getfield 37, 3) := by decide +kernel
theorem dX0_nextSlot_14 : decode cX0_nextSlot 14 = .ok (.if_icmp .ge 81, 3) := by decide +kernel
theorem dX0_nextSlot_17 : decode cX0_nextSlot 17 = .ok (.iconst 2, 1) := by decide +kernel
theorem dX0_nextSlot_18 : decode cX0_nextSlot 18 = .ok (.iload_n 1, 1) := by decide +kernel
theorem dX0_nextSlot_19 : decode cX0_nextSlot 19 = .ok (.ifCond .eq 15, 3) := by decide +kernel
theorem dX0_nextSlot_22 : decode cX0_nextSlot 22 = .ok (.aload_n 0, 1) := by decide +kernel
theorem dX0_nextSlot_23 : decode cX0_nextSlot 23 = .ok (.getfield 37, 3) := by decide +kernel
theorem dX0_nextSlot_26 : decode cX0_nextSlot 26 = .ok (.iconst 1, 1) := by decide +kernel
theorem dX0_nextSlot_27 : decode cX0_nextSlot 27 = .ok (.isub, 1) := by decide +kernel
theorem dX0_nextSlot_28 : decode cX0_nextSlot 28 = .ok (.iload 4, 2) := by decide +kernel
theorem dX0_nextSlot_30 : decode cX0_nextSlot 30 = .ok (.isub, 1) := by decide +kernel
theorem dX0_nextSlot_31 : decode cX0_nextSlot 31 = .ok (.goto 5, 3) := by decide +kernel
theorem dX0_nextSlot_34 : decode cX0_nextSlot 34 = .ok (.iload 4, 2) := by decide +kernel
theorem dX0_nextSlot_36 : decode cX0_nextSlot 36 = .ok (.imul, 1) := by decide +kernel
theorem dX0_nextSlot_37 : decode cX0_nextSlot 37 = .ok (.istore 5, 2) := by decide +kernel
theorem dX0_nextSlot_39 : decode cX0_nextSlot 39 = .ok (.aload_n 0, 1) := by decide +kernel
theorem dX0_nextSlot_40 : decode cX0_nextSlot 40 = .ok (.getfield 27, 3) := by decide +kernel
theorem dX0_nextSlot_43 : decode cX0_nextSlot 43 = .ok (.iload 5, 2) := by decide +kernel
theorem dX0_nextSlot_45 : decode cX0_nextSlot 45 = .ok (.invokestatic 73, 3) := by decide +kernel
theorem dX0_nextSlot_48 : decode cX0_nextSlot 48 = .ok (.istore 6, 2) := by decide +kernel
theorem dX0_nextSlot_50 : decode cX0_nextSlot 50 = .ok (.aload_n 0, 1) := by decide +kernel
theorem dX0_nextSlot_51 : decode cX0_nextSlot 51 = .ok (.getfield 27, 3) := by decide +kernel
theorem dX0_nextSlot_54 : decode cX0_nextSlot 54 = .ok (.iload 5, 2) := by decide +kernel
theorem dX0_nextSlot_56 : decode cX0_nextSlot 56 = .ok (.iconst 1, 1) := by decide +kernel
theorem dX0_nextSlot_57 : decode cX0_nextSlot 57 = .ok (.iadd, 1) := by decide +kernel
theorem dX0_nextSlot_58 : decode cX0_nextSlot 58 = .ok (.invokestatic 73, 3) := by decide +kernel
theorem dX0_nextSlot_61 : decode cX0_nextSlot 61 = .ok (.istore 7, 2) := by decide +kernel
theorem dX0_nextSlot_63 : decode cX0_nextSlot 63 = .ok (.iload 6, 2) := by decide +kernel
theorem dX0_nextSlot_65 : decode cX0_nextSlot 65 = .ok (.iload_n 3, 1) := by decide +kernel
theorem dX0_nextSlot_66 : decode cX0_nextSlot 66 = .ok (.if_icmp .ge 9, 3) := by decide +kernel
theorem dX0_nextSlot_69 : decode cX0_nextSlot 69 = .ok (.iload 5, 2) := by decide +kernel
theorem dX0_nextSlot_71 : decode cX0_nextSlot 71 = .ok (.istore_n 2, 1) := by decide +kernel
theorem dX0_nextSlot_72 : decode cX0_nextSlot 72 = .ok (.iload 6, 2) := by decide +kernel
theorem dX0_nextSlot_74 : decode cX0_nextSlot 74 = .ok (.istore_n 3, 1) := by decide +kernel
theorem dX0_nextSlot_75 : decode cX0_nextSlot 75 = .ok (.iload 7, 2) := by decide +kernel
theorem dX0_nextSlot_77 : decode cX0_nextSlot 77 = .ok (.iload_n 3, 1) := by decide +kernel
theorem dX0_nextSlot_78 : decode cX0_nextSlot 78 = .ok (.if_icmp .ge 11, 3) := by decide +kernel
theorem dX0_nextSlot_81 : decode cX0_nextSlot 81 = .ok (.iload 5, 2) := by decide +kernel
theorem dX0_nextSlot_83 : decode cX0_nextSlot 83 = .ok (.iconst 1, 1) := by decide +kernel
theorem dX0_nextSlot_84 : decode cX0_nextSlot 84 = .ok (.iadd, 1) := by decide +kernel
theorem dX0_nextSlot_85 : decode cX0_nextSlot 85 = .ok (.istore_n 2, 1) := by decide +kernel
theorem dX0_nextSlot_86 : decode cX0_nextSlot 86 = .ok (.iload 7, 2) := by decide +kernel
theorem dX0_nextSlot_88 : decode cX0_nextSlot 88 = .ok (.istore_n 3, 1) := by decide +kernel
theorem dX0_nextSlot_89 : decode cX0_nextSlot 89 = .ok (.iinc 4 1, 3) := by decide +kernel
theorem dX0_nextSlot_92 : decode cX0_nextSlot 92 = .ok (.goto (-84), 3) := by decide +kernel
theorem dX0_nextSlot_95 : decode cX0_nextSlot 95 = .ok (.iload_n 2, 1) := by decide +kernel
theorem dX0_nextSlot_96 : decode cX0_nextSlot 96 = .ok (.ireturn, 1) := by decide +kernel
theorem dX0_slotAt_0 : decode cX0_slotAt 0 = .ok (.iconst 0, 1) := by decide +kernel
theorem dX0_slotAt_1 : decode cX0_slotAt 1 = .ok (.istore_n 2, 1) := by decide +kernel
theorem dX0_slotAt_2 : decode cX0_slotAt 2 = .ok (.iload_n 2, 1) := by decide +kernel
theorem dX0_slotAt_3 : decode cX0_slotAt 3 = .ok (.aload_n 0, 1) := by decide +kernel
theorem dX0_slotAt_4 : decode cX0_slotAt 4 = .ok (.getfield 27, 3) := by decide +kernel
theorem dX0_slotAt_7 : decode cX0_slotAt 7 = .ok (.arraylength, 1) := by decide +kernel
theorem dX0_slotAt_8 : decode cX0_slotAt 8 = .ok (.if_icmp .ge 31, 3) := by decide +kernel
theorem dX0_slotAt_11 : decode cX0_slotAt 11 = .ok (.aload_n 0, 1) := by decide +kernel
theorem dX0_slotAt_12 : decode cX0_slotAt 12 = .ok (.getfield 27, 3) := by decide +kernel
theorem dX0_slotAt_15 : decode cX0_slotAt 15 = .ok (.iload_n 2, 1) := by decide +kernel
theorem dX0_slotAt_16 : decode cX0_slotAt 16 = .ok (.iaload, 1) := by decide +kernel
theorem dX0_slotAt_17 : decode cX0_slotAt 17 = .ok (.ldc 30, 2) := by decide +kernel
theorem dX0_slotAt_19 : decode cX0_slotAt 19 = .ok (.if_icmp .eq 14, 3) := by decide +kernel
theorem dX0_slotAt_22 : decode cX0_slotAt 22 = .ok (.aload_n 0, 1) := by decide +kernel
theorem dX0_slotAt_23 : decode cX0_slotAt 23 = .ok (.iload_n 2, 1) := by decide +kernel
theorem dX0_slotAt_24 : decode cX0_slotAt 24 = .ok (.invokevirtual 135, 3) := by decide +kernel
theorem dX0_slotAt_27 : decode cX0_slotAt 27 = .ok (.iload_n 1, 1) := by decide +kernel
theorem dX0_slotAt_28 : decode cX0_slotAt 28 = .ok (.if_icmp .ne 5, 3) := by decide +kernel
theorem dX0_slotAt_31 : decode cX0_slotAt 31 = .ok (.iload_n 2, 1) := by decide +kernel
theorem dX0_slotAt_32 : decode cX0_slotAt 32 = .ok (.ireturn, 1) := by decide +kernel
theorem dX0_slotAt_33 : decode cX0_slotAt 33 = .ok (.iinc 2 1, 3) := by decide +kernel
theorem dX0_slotAt_36 : decode cX0_slotAt 36 = .ok (.goto (-34), 3) := by decide +kernel
theorem dX0_slotAt_39 : decode cX0_slotAt 39 = .ok (.iconst (-1), 1) := by decide +kernel
theorem dX0_slotAt_40 : decode cX0_slotAt 40 = .ok (.ireturn, 1) := by decide +kernel
theorem dX0_eventsBefore_0 : decode cX0_eventsBefore 0 = .ok (.aload_n 0, 1) := by decide +kernel
theorem dX0_eventsBefore_1 : decode cX0_eventsBefore 1 = .ok (.getfield 27, 3) := by decide +kernel
theorem dX0_eventsBefore_4 : decode cX0_eventsBefore 4 = .ok (.iload_n 1, 1) := by decide +kernel
theorem dX0_eventsBefore_5 : decode cX0_eventsBefore 5 = .ok (.invokestatic 73, 3) := by decide +kernel
theorem dX0_eventsBefore_8 : decode cX0_eventsBefore 8 = .ok (.istore_n 2, 1) := by decide +kernel
theorem dX0_eventsBefore_9 : decode cX0_eventsBefore 9 = .ok (.iconst 0, 1) := by decide +kernel
theorem dX0_eventsBefore_10 : decode cX0_eventsBefore 10 = .ok (.istore_n 3, 1) := by decide +kernel
theorem dX0_eventsBefore_11 : decode cX0_eventsBefore 11 = .ok (.iconst 0, 1) := by decide +kernel
theorem dX0_eventsBefore_12 : decode cX0_eventsBefore 12 = .ok (.istore 4, 2) := by decide +kernel
theorem dX0_eventsBefore_14 : decode cX0_eventsBefore 14 = .ok (.iload 4, 2) := by decide +kernel
theorem dX0_eventsBefore_16 : decode cX0_eventsBefore 16 = .ok (.aload_n 0, 1) := by decide +kernel
theorem dX0_eventsBefore_17 : decode cX0_eventsBefore 17 = .ok (.getfield 27, 3) := by decide +kernel
theorem dX0_eventsBefore_20 : decode cX0_eventsBefore 20 = .ok (.arraylength, 1) := by decide +kernel
theorem dX0_eventsBefore_21 : decode cX0_eventsBefore 21 = .ok (.if_icmp .ge 40, 3) := by decide +kernel
theorem dX0_eventsBefore_24 : decode cX0_eventsBefore 24 = .ok (.aload_n 0, 1) := by decide +kernel
theorem dX0_eventsBefore_25 : decode cX0_eventsBefore 25 = .ok (.getfield 27, 3) := by decide +kernel
theorem dX0_eventsBefore_28 : decode cX0_eventsBefore 28 = .ok (.iload 4, 2) := by decide +kernel
theorem dX0_eventsBefore_30 : decode cX0_eventsBefore 30 = .ok (.iaload, 1) := by decide +kernel
theorem dX0_eventsBefore_31 : decode cX0_eventsBefore 31 = .ok (.iload_n 2, 1) := by decide +kernel
theorem dX0_eventsBefore_32 : decode cX0_eventsBefore 32 = .ok (.if_icmp .lt 20, 3) := by decide +kernel
theorem dX0_eventsBefore_35 : decode cX0_eventsBefore 35 = .ok (.aload_n 0, 1) := by decide +kernel
theorem dX0_eventsBefore_36 : decode cX0_eventsBefore 36 = .ok (.getfield 27, 3) := by decide +kernel
theorem dX0_eventsBefore_39 : decode cX0_eventsBefore 39 = .ok (.iload 4, 2) := by decide +kernel
theorem dX0_eventsBefore_41 : decode cX0_eventsBefore 41 = .ok (.iaload, 1) := by decide +kernel
theorem dX0_eventsBefore_42 : decode cX0_eventsBefore 42 = .ok (.iload_n 2, 1) := by decide +kernel
theorem dX0_eventsBefore_43 : decode cX0_eventsBefore 43 = .ok (.if_icmp .ne 12, 3) := by decide +kernel
theorem dX0_eventsBefore_46 : decode cX0_eventsBefore 46 = .ok (.iload 4, 2) := by decide +kernel
theorem dX0_eventsBefore_48 : decode cX0_eventsBefore 48 = .ok (.iload_n 1, 1) := by decide +kernel
theorem dX0_eventsBefore_49 : decode cX0_eventsBefore 49 = .ok (.if_icmp .ge 6, 3) := by decide +kernel
theorem dX0_eventsBefore_52 : decode cX0_eventsBefore 52 = .ok (.iinc 3 1, 3) := by decide +kernel
theorem dX0_eventsBefore_55 : decode cX0_eventsBefore 55 = .ok (.iinc 4 1, 3) := by decide +kernel
theorem dX0_eventsBefore_58 : decode cX0_eventsBefore 58 = .ok (.goto (-44), 3) := by decide +kernel
theorem dX0_eventsBefore_61 : decode cX0_eventsBefore 61 = .ok (.iload_n 3, 1) := by decide +kernel
theorem dX0_eventsBefore_62 : decode cX0_eventsBefore 62 = .ok (.ireturn, 1) := by decide +kernel
theorem dX0_happen_0 : decode cX0_happen 0 = .ok (.iload_n 1, 1) := by decide +kernel
theorem dX0_happen_1 : decode cX0_happen 1 = .ok (.invokestatic 128, 3) := by decide +kernel
theorem dX0_happen_4 : decode cX0_happen 4 = .ok (.istore_n 2, 1) := by decide +kernel
theorem dX0_happen_5 : decode cX0_happen 5 = .ok (.aload_n 0, 1) := by decide +kernel
theorem dX0_happen_6 : decode cX0_happen 6 = .ok (.aload_n 0, 1) := by decide +kernel
theorem dX0_happen_7 : decode cX0_happen 7 = .ok (.getfield 27, 3) := by decide +kernel
theorem dX0_happen_10 : decode cX0_happen 10 = .ok (.iload_n 1, 1) := by decide +kernel
theorem dX0_happen_11 : decode cX0_happen 11 = .ok (.invokestatic 73, 3) := by decide +kernel
theorem dX0_happen_14 : decode cX0_happen 14 = .ok (.putfield 41, 3) := by decide +kernel
theorem dX0_happen_17 : decode cX0_happen 17 = .ok (.aload_n 0, 1) := by decide +kernel
theorem dX0_happen_18 : decode cX0_happen 18 = .ok (.getfield 27, 3) := by decide +kernel
theorem dX0_happen_21 : decode cX0_happen 21 = .ok (.iload_n 1, 1) := by decide +kernel
theorem dX0_happen_22 : decode cX0_happen 22 = .ok (.ldc 30, 2) := by decide +kernel
theorem dX0_happen_24 : decode cX0_happen 24 = .ok (.invokestatic 77, 3) := by decide +kernel
theorem dX0_happen_27 : decode cX0_happen 27 = .ok (.iload_n 1, 1) := by decide +kernel
theorem dX0_happen_28 : decode cX0_happen 28 = .ok (.invokestatic 124, 3) := by decide +kernel
theorem dX0_happen_31 : decode cX0_happen 31 = .ok (.ifCond .eq 20, 3) := by decide +kernel
theorem dX0_happen_34 : decode cX0_happen 34 = .ok (.aload_n 0, 1) := by decide +kernel
theorem dX0_happen_35 : decode cX0_happen 35 = .ok (.dup, 1) := by decide +kernel
theorem dX0_happen_36 : decode cX0_happen 36 = .ok (.getfield 53, 3) := by decide +kernel
theorem dX0_happen_39 : decode cX0_happen 39 = .ok (.iconst 1, 1) := by decide +kernel
theorem dX0_happen_40 : decode cX0_happen 40 = .ok (.iload_n 2, 1) := by decide +kernel
theorem dX0_happen_41 : decode cX0_happen 41 = .ok (.ishl, 1) := by decide +kernel
theorem dX0_happen_42 : decode cX0_happen 42 = .ok (.iconst (-1), 1) := by decide +kernel
theorem dX0_happen_43 : decode cX0_happen 43 = .ok (.ixor, 1) := by decide +kernel
theorem dX0_happen_44 : decode cX0_happen 44 = .ok (.iand, 1) := by decide +kernel
theorem dX0_happen_45 : decode cX0_happen 45 = .ok (.putfield 53, 3) := by decide +kernel
theorem dX0_happen_48 : decode cX0_happen 48 = .ok (.goto 19, 3) := by decide +kernel
theorem dX0_happen_51 : decode cX0_happen 51 = .ok (.aload_n 0, 1) := by decide +kernel
theorem dX0_happen_52 : decode cX0_happen 52 = .ok (.getfield 56, 3) := by decide +kernel
theorem dX0_happen_55 : decode cX0_happen 55 = .ok (.iload_n 2, 1) := by decide +kernel
theorem dX0_happen_56 : decode cX0_happen 56 = .ok (.invokestatic 106, 3) := by decide +kernel
theorem dX0_happen_59 : decode cX0_happen 59 = .ok (.ifCond .ne 8, 3) := by decide +kernel
theorem dX0_happen_62 : decode cX0_happen 62 = .ok (.aload_n 0, 1) := by decide +kernel
theorem dX0_happen_63 : decode cX0_happen 63 = .ok (.iload_n 2, 1) := by decide +kernel
theorem dX0_happen_64 : decode cX0_happen 64 = .ok (.invokevirtual 138, 3) := by decide +kernel
theorem dX0_happen_67 : decode cX0_happen 67 = .ok (.aload_n 0, 1) := by decide +kernel
theorem dX0_happen_68 : decode cX0_happen 68 = .ok (.invokevirtual 99, 3) := by decide +kernel
theorem dX0_happen_71 : decode cX0_happen 71 = .ok (.pop, 1) := by decide +kernel
theorem dX0_happen_72 : decode cX0_happen 72 = .ok (.return_, 1) := by decide +kernel
theorem dX0_moveArmature_0 : decode cX0_moveArmature 0 = .ok (.aload_n 0, 1) := by decide +kernel
theorem dX0_moveArmature_1 : decode cX0_moveArmature 1 = .ok (.dup, 1) := by decide +kernel
theorem dX0_moveArmature_2 : decode cX0_moveArmature 2 = .ok (.getfield 50, 3) := by decide +kernel
theorem dX0_moveArmature_5 : decode cX0_moveArmature 5 = .ok (.iconst 1, 1) := by decide +kernel
theorem dX0_moveArmature_6 : decode cX0_moveArmature 6 = .ok (.iload_n 1, 1) := by decide +kernel
theorem dX0_moveArmature_7 : decode cX0_moveArmature 7 = .ok (.ishl, 1) := by decide +kernel
theorem dX0_moveArmature_8 : decode cX0_moveArmature 8 = .ok (.ixor, 1) := by decide +kernel
theorem dX0_moveArmature_9 : decode cX0_moveArmature 9 = .ok (.putfield 50, 3) := by decide +kernel
theorem dX0_moveArmature_12 : decode cX0_moveArmature 12 = .ok (.aload_n 0, 1) := by decide +kernel
theorem dX0_moveArmature_13 : decode cX0_moveArmature 13 = .ok (.getfield 18, 3) := by decide +kernel
theorem dX0_moveArmature_16 : decode cX0_moveArmature 16 = .ok (.iload_n 1, 1) := by decide +kernel
theorem dX0_moveArmature_17 : decode cX0_moveArmature 17 = .ok (.invokestatic 73, 3) := by decide +kernel
theorem dX0_moveArmature_20 : decode cX0_moveArmature 20 = .ok (.istore_n 2, 1) := by decide +kernel
theorem dX0_moveArmature_21 : decode cX0_moveArmature 21 = .ok (.iload_n 2, 1) := by decide +kernel
theorem dX0_moveArmature_22 : decode cX0_moveArmature 22 = .ok (.ifCond .le 33, 3) := by decide +kernel
theorem dX0_moveArmature_25 : decode cX0_moveArmature 25 = .ok (.aload_n 0, 1) := by decide +kernel
theorem dX0_moveArmature_26 : decode cX0_moveArmature 26 = .ok (.dup, 1) := by decide +kernel
theorem dX0_moveArmature_27 : decode cX0_moveArmature 27 = .ok (.getfield 53, 3) := by decide +kernel
theorem dX0_moveArmature_30 : decode cX0_moveArmature 30 = .ok (.iconst 1, 1) := by decide +kernel
theorem dX0_moveArmature_31 : decode cX0_moveArmature 31 = .ok (.iload_n 1, 1) := by decide +kernel
theorem dX0_moveArmature_32 : decode cX0_moveArmature 32 = .ok (.ishl, 1) := by decide +kernel
theorem dX0_moveArmature_33 : decode cX0_moveArmature 33 = .ok (.ior, 1) := by decide +kernel
theorem dX0_moveArmature_34 : decode cX0_moveArmature 34 = .ok (.putfield 53, 3) := by decide +kernel
theorem dX0_moveArmature_37 : decode cX0_moveArmature 37 = .ok (.aload_n 0, 1) := by decide +kernel
theorem dX0_moveArmature_38 : decode cX0_moveArmature 38 = .ok (.getfield 27, 3) := by decide +kernel
theorem dX0_moveArmature_41 : decode cX0_moveArmature 41 = .ok (.iconst 2, 1) := by decide +kernel
theorem dX0_moveArmature_42 : decode cX0_moveArmature 42 = .ok (.iload_n 1, 1) := by decide +kernel
theorem dX0_moveArmature_43 : decode cX0_moveArmature 43 = .ok (.imul, 1) := by decide +kernel
theorem dX0_moveArmature_44 : decode cX0_moveArmature 44 = .ok (.iconst 1, 1) := by decide +kernel
theorem dX0_moveArmature_45 : decode cX0_moveArmature 45 = .ok (.iadd, 1) := by decide +kernel
theorem dX0_moveArmature_46 : decode cX0_moveArmature 46 = .ok (.aload_n 0, 1) := by decide +kernel
theorem dX0_moveArmature_47 : decode cX0_moveArmature 47 = .ok (.getfield 41, 3) := by decide +kernel
theorem dX0_moveArmature_50 : decode cX0_moveArmature 50 = .ok (.iload_n 2, 1) := by decide +kernel
theorem dX0_moveArmature_51 : decode cX0_moveArmature 51 = .ok (.iadd, 1) := by decide +kernel
theorem dX0_moveArmature_52 : decode cX0_moveArmature 52 = .ok (.invokestatic 77, 3) := by decide +kernel
theorem dX0_moveArmature_55 : decode cX0_moveArmature 55 = .ok (.return_, 1) := by decide +kernel
theorem dX0_run_0 : decode cX0_run 0 = .ok (.iconst 0, 1) := by decide +kernel
theorem dX0_run_1 : decode cX0_run 1 = .ok (.istore 4, 2) := by decide +kernel
theorem dX0_run_3 : decode cX0_run 3 = .ok (.iload 4, 2) := by decide +kernel
theorem dX0_run_5 : decode cX0_run 5 = .ok (.iload_n 1, 1) := by decide +kernel
theorem dX0_run_6 : decode cX0_run 6 = .ok (.if_icmp .ge 44, 3) := by decide +kernel
theorem dX0_run_9 : decode cX0_run 9 = .ok (.aload_n 0, 1) := by decide +kernel
theorem dX0_run_10 : decode cX0_run 10 = .ok (.iload_n 3, 1) := by decide +kernel
theorem dX0_run_11 : decode cX0_run 11 = .ok (.invokevirtual 131, 3) := by decide +kernel
theorem dX0_run_14 : decode cX0_run 14 = .ok (.istore 5, 2) := by decide +kernel
theorem dX0_run_16 : decode cX0_run 16 = .ok (.iload 5, 2) := by decide +kernel
theorem dX0_run_18 : decode cX0_run 18 = .ok (.iconst (-1), 1) := by decide +kernel
theorem dX0_run_19 : decode cX0_run 19 = .ok (.if_icmp .eq 16, 3) := by decide +kernel
theorem dX0_run_22 : decode cX0_run 22 = .ok (.aload_n 0, 1) := by decide +kernel
theorem dX0_run_23 : decode cX0_run 23 = .ok (.getfield 27, 3) := by decide +kernel
theorem dX0_run_26 : decode cX0_run 26 = .ok (.iload 5, 2) := by decide +kernel
theorem dX0_run_28 : decode cX0_run 28 = .ok (.invokestatic 73, 3) := by decide +kernel
theorem dX0_run_31 : decode cX0_run 31 = .ok (.iload_n 2, 1) := by decide +kernel
theorem dX0_run_32 : decode cX0_run 32 = .ok (.if_icmp .le 6, 3) := by decide +kernel
theorem dX0_run_35 : decode cX0_run 35 = .ok (.iload 4, 2) := by decide +kernel
theorem dX0_run_37 : decode cX0_run 37 = .ok (.ireturn, 1) := by decide +kernel
theorem dX0_run_38 : decode cX0_run 38 = .ok (.aload_n 0, 1) := by decide +kernel
theorem dX0_run_39 : decode cX0_run 39 = .ok (.iload 5, 2) := by decide +kernel
theorem dX0_run_41 : decode cX0_run 41 = .ok (.invokevirtual 141, 3) := by decide +kernel
theorem dX0_run_44 : decode cX0_run 44 = .ok (.iinc 4 1, 3) := by decide +kernel
theorem dX0_run_47 : decode cX0_run 47 = .ok (.goto (-44), 3) := by decide +kernel
theorem dX0_run_50 : decode cX0_run 50 = .ok (.iload_n 1, 1) := by decide +kernel
theorem dX0_run_51 : decode cX0_run 51 = .ok (.ireturn, 1) := by decide +kernel
end
section
theorem dX1_bit_0 : decode cX1_bit 0 = .ok (.iload_n 1, 1) := by decide +kernel
theorem dX1_bit_1 : decode cX1_bit 1 = .ok (.lookupswitch 38 #[(1, 27), (2, 31)], 27) := by decide +kernel
theorem dX1_bit_28 : decode cX1_bit 28 = .ok (.iconst 1, 1) := by decide +kernel
theorem dX1_bit_29 : decode cX1_bit 29 = .ok (.iload_n 0, 1) := by decide +kernel
theorem dX1_bit_30 : decode cX1_bit 30 = .ok (.ishl, 1) := by decide +kernel
theorem dX1_bit_31 : decode cX1_bit 31 = .ok (.ireturn, 1) := by decide +kernel
theorem dX1_bit_32 : decode cX1_bit 32 = .ok (.iconst 1, 1) := by decide +kernel
theorem dX1_bit_33 : decode cX1_bit 33 = .ok (.bipush 16, 2) := by decide +kernel
theorem dX1_bit_35 : decode cX1_bit 35 = .ok (.iload_n 0, 1) := by decide +kernel
theorem dX1_bit_36 : decode cX1_bit 36 = .ok (.iadd, 1) := by decide +kernel
theorem dX1_bit_37 : decode cX1_bit 37 = .ok (.ishl, 1) := by decide +kernel
theorem dX1_bit_38 : decode cX1_bit 38 = .ok (.ireturn, 1) := by decide +kernel
theorem dX1_bit_39 : decode cX1_bit 39 = .ok (.iconst 0, 1) := by decide +kernel
theorem dX1_bit_40 : decode cX1_bit 40 = .ok (.ireturn, 1) := by decide +kernel
theorem dX1_howOf_0 : decode cX1_howOf 0 = .ok (.iload_n 0, 1) := by decide +kernel
theorem dX1_howOf_1 : decode cX1_howOf 1 = .ok (.iload_n 1, 1) := by decide +kernel
theorem dX1_howOf_2 : decode cX1_howOf 2 = .ok (.iconst 1, 1) := by decide +kernel
theorem dX1_howOf_3 : decode cX1_howOf 3 = .ok (.invokestatic 9, 3) := by decide +kernel
theorem dX1_howOf_6 : decode cX1_howOf 6 = .ok (.iand, 1) := by decide +kernel
theorem dX1_howOf_7 : decode cX1_howOf 7 = .ok (.ifCond .eq 5, 3) := by decide +kernel
theorem dX1_howOf_10 : decode cX1_howOf 10 = .ok (.iconst 1, 1) := by decide +kernel
theorem dX1_howOf_11 : decode cX1_howOf 11 = .ok (.ireturn, 1) := by decide +kernel
theorem dX1_howOf_12 : decode cX1_howOf 12 = .ok (.iload_n 0, 1) := by decide +kernel
theorem dX1_howOf_13 : decode cX1_howOf 13 = .ok (.iload_n 1, 1) := by decide +kernel
theorem dX1_howOf_14 : decode cX1_howOf 14 = .ok (.iconst 2, 1) := by decide +kernel
theorem dX1_howOf_15 : decode cX1_howOf 15 = .ok (.invokestatic 9, 3) := by decide +kernel
theorem dX1_howOf_18 : decode cX1_howOf 18 = .ok (.iand, 1) := by decide +kernel
theorem dX1_howOf_19 : decode cX1_howOf 19 = .ok (.ifCond .eq 7, 3) := by decide +kernel
theorem dX1_howOf_22 : decode cX1_howOf 22 = .ok (.iconst 2, 1) := by decide +kernel
theorem dX1_howOf_23 : decode cX1_howOf 23 = .ok (.goto 4, 3) := by decide +kernel
theorem dX1_howOf_26 : decode cX1_howOf 26 = .ok (.iconst 0, 1) := by decide +kernel
theorem dX1_howOf_27 : decode cX1_howOf 27 = .ok (.ireturn, 1) := by decide +kernel
theorem dX1_with_0 : decode cX1_with 0 = .ok (.iload_n 0, 1) := by decide +kernel
theorem dX1_with_1 : decode cX1_with 1 = .ok (.iload_n 1, 1) := by decide +kernel
theorem dX1_with_2 : decode cX1_with 2 = .ok (.iconst 1, 1) := by decide +kernel
theorem dX1_with_3 : decode cX1_with 3 = .ok (.invokestatic 9, 3) := by decide +kernel
theorem dX1_with_6 : decode cX1_with 6 = .ok (.iload_n 1, 1) := by decide +kernel
theorem dX1_with_7 : decode cX1_with 7 = .ok (.iconst 2, 1) := by decide +kernel
theorem dX1_with_8 : decode cX1_with 8 = .ok (.invokestatic 9, 3) := by decide +kernel
theorem dX1_with_11 : decode cX1_with 11 = .ok (.ior, 1) := by decide +kernel
theorem dX1_with_12 : decode cX1_with 12 = .ok (.iconst (-1), 1) := by decide +kernel
theorem dX1_with_13 : decode cX1_with 13 = .ok (.ixor, 1) := by decide +kernel
theorem dX1_with_14 : decode cX1_with 14 = .ok (.iand, 1) := by decide +kernel
theorem dX1_with_15 : decode cX1_with 15 = .ok (.istore_n 3, 1) := by decide +kernel
theorem dX1_with_16 : decode cX1_with 16 = .ok (.iload_n 3, 1) := by decide +kernel
theorem dX1_with_17 : decode cX1_with 17 = .ok (.iload_n 1, 1) := by decide +kernel
theorem dX1_with_18 : decode cX1_with 18 = .ok (.iload_n 2, 1) := by decide +kernel
theorem dX1_with_19 : decode cX1_with 19 = .ok (.invokestatic 9, 3) := by decide +kernel
theorem dX1_with_22 : decode cX1_with 22 = .ok (.ior, 1) := by decide +kernel
theorem dX1_with_23 : decode cX1_with 23 = .ok (.ireturn, 1) := by decide +kernel
theorem dX2_init_0 : decode cX2_init 0 = .ok (.aload_n 0, 1) := by decide +kernel
theorem dX2_init_1 : decode cX2_init 1 = .ok (.invokespecial 3, 3) := by decide +kernel
theorem dX2_init_4 : decode cX2_init 4 = .ok (.aload_n 0, 1) := by decide +kernel
theorem dX2_init_5 : decode cX2_init 5 = .ok (.bipush 6, 2) := by decide +kernel
theorem dX2_init_7 : decode cX2_init 7 = .ok (.newarray .int, 2) := by decide +kernel
theorem dX2_init_9 : decode cX2_init 9 = .ok (.putfield 9, 3) := by decide +kernel
theorem dX2_init_12 : decode cX2_init 12 = .ok (.return_, 1) := by decide +kernel
theorem dX3_init_0 : decode cX3_init 0 = .ok (.aload_n 0, 1) := by decide +kernel
theorem dX3_init_1 : decode cX3_init 1 = .ok (.invokespecial 3, 3) := by decide +kernel
theorem dX3_init_4 : decode cX3_init 4 = .ok (.aload_n 0, 1) := by decide +kernel
theorem dX3_init_5 : decode cX3_init 5 = .ok (.bipush 6, 2) := by decide +kernel
theorem dX3_init_7 : decode cX3_init 7 = .ok (.anewarray 9, 3) := by decide +kernel
theorem dX3_init_10 : decode cX3_init 10 = .ok (.putfield 11, 3) := by decide +kernel
theorem dX3_init_13 : decode cX3_init 13 = .ok (.iconst 0, 1) := by decide +kernel
theorem dX3_init_14 : decode cX3_init 14 = .ok (.istore_n 1, 1) := by decide +kernel
theorem dX3_init_15 : decode cX3_init 15 = .ok (.iload_n 1, 1) := by decide +kernel
theorem dX3_init_16 : decode cX3_init 16 = .ok (.aload_n 0, 1) := by decide +kernel
theorem dX3_init_17 : decode cX3_init 17 = .ok (.getfield 11, 3) := by decide +kernel
theorem dX3_init_20 : decode cX3_init 20 = .ok (.arraylength, 1) := by decide +kernel
theorem dX3_init_21 : decode cX3_init 21 = .ok (.if_icmp .ge 22, 3) := by decide +kernel
theorem dX3_init_24 : decode cX3_init 24 = .ok (.aload_n 0, 1) := by decide +kernel
theorem dX3_init_25 : decode cX3_init 25 = .ok (.getfield 11, 3) := by decide +kernel
theorem dX3_init_28 : decode cX3_init 28 = .ok (.iload_n 1, 1) := by decide +kernel
theorem dX3_init_29 : decode cX3_init 29 = .ok (.new 9, 3) := by decide +kernel
theorem dX3_init_32 : decode cX3_init 32 = .ok (.dup, 1) := by decide +kernel
theorem dX3_init_33 : decode cX3_init 33 = .ok (.invokespecial 17, 3) := by decide +kernel
theorem dX3_init_36 : decode cX3_init 36 = .ok (.aastore, 1) := by decide +kernel
theorem dX3_init_37 : decode cX3_init 37 = .ok (.iinc 1 1, 3) := by decide +kernel
theorem dX3_init_40 : decode cX3_init 40 = .ok (.goto (-25), 3) := by decide +kernel
theorem dX3_init_43 : decode cX3_init 43 = .ok (.return_, 1) := by decide +kernel
theorem dX3_bankAt_0 : decode cX3_bankAt 0 = .ok (.aload_n 0, 1) := by decide +kernel
theorem dX3_bankAt_1 : decode cX3_bankAt 1 = .ok (.getfield 18, 3) := by decide +kernel
theorem dX3_bankAt_4 : decode cX3_bankAt 4 = .ok (.iload_n 1, 1) := by decide +kernel
theorem dX3_bankAt_5 : decode cX3_bankAt 5 = .ok (.iadd, 1) := by decide +kernel
theorem dX3_bankAt_6 : decode cX3_bankAt 6 = .ok (.bipush 6, 2) := by decide +kernel
theorem dX3_bankAt_8 : decode cX3_bankAt 8 = .ok (.invokestatic 22, 3) := by decide +kernel
theorem dX3_bankAt_11 : decode cX3_bankAt 11 = .ok (.istore_n 2, 1) := by decide +kernel
theorem dX3_bankAt_12 : decode cX3_bankAt 12 = .ok (.iload_n 2, 1) := by decide +kernel
theorem dX3_bankAt_13 : decode cX3_bankAt 13 = .ok (.aload_n 0, 1) := by decide +kernel
theorem dX3_bankAt_14 : decode cX3_bankAt 14 = .ok (.getfield 11, 3) := by decide +kernel
theorem dX3_bankAt_17 : decode cX3_bankAt 17 = .ok (.arraylength, 1) := by decide +kernel
theorem dX3_bankAt_18 : decode cX3_bankAt 18 = .ok (.if_icmp .ge 12, 3) := by decide +kernel
theorem dX3_bankAt_21 : decode cX3_bankAt 21 = .ok (.aload_n 0, 1) := by decide +kernel
theorem dX3_bankAt_22 : decode cX3_bankAt 22 = .ok (.getfield 11, 3) := by decide +kernel
theorem dX3_bankAt_25 : decode cX3_bankAt 25 = .ok (.iload_n 2, 1) := by decide +kernel
theorem dX3_bankAt_26 : decode cX3_bankAt 26 = .ok (.aaload, 1) := by decide +kernel
theorem dX3_bankAt_27 : decode cX3_bankAt 27 = .ok (.goto 4, 3) := by decide +kernel
theorem dX3_bankAt_30 : decode cX3_bankAt 30 = .ok (.aconst_null, 1) := by decide +kernel
theorem dX3_bankAt_31 : decode cX3_bankAt 31 = .ok (.areturn, 1) := by decide +kernel
theorem dX3_save_0 : decode cX3_save 0 = .ok (.aload_n 0, 1) := by decide +kernel
theorem dX3_save_1 : decode cX3_save 1 = .ok (.getfield 28, 3) := by decide +kernel
theorem dX3_save_4 : decode cX3_save 4 = .ok (.bipush 6, 2) := by decide +kernel
theorem dX3_save_6 : decode cX3_save 6 = .ok (.if_icmp .ne 28, 3) := by decide +kernel
theorem dX3_save_9 : decode cX3_save 9 = .ok (.aload_n 0, 1) := by decide +kernel
theorem dX3_save_10 : decode cX3_save 10 = .ok (.aload_n 0, 1) := by decide +kernel
theorem dX3_save_11 : decode cX3_save 11 = .ok (.getfield 18, 3) := by decide +kernel
theorem dX3_save_14 : decode cX3_save 14 = .ok (.iconst 1, 1) := by decide +kernel
theorem dX3_save_15 : decode cX3_save 15 = .ok (.iadd, 1) := by decide +kernel
theorem dX3_save_16 : decode cX3_save 16 = .ok (.bipush 6, 2) := by decide +kernel
theorem dX3_save_18 : decode cX3_save 18 = .ok (.invokestatic 22, 3) := by decide +kernel
theorem dX3_save_21 : decode cX3_save 21 = .ok (.putfield 18, 3) := by decide +kernel
theorem dX3_save_24 : decode cX3_save 24 = .ok (.aload_n 0, 1) := by decide +kernel
theorem dX3_save_25 : decode cX3_save 25 = .ok (.dup, 1) := by decide +kernel
theorem dX3_save_26 : decode cX3_save 26 = .ok (.getfield 28, 3) := by decide +kernel
theorem dX3_save_29 : decode cX3_save 29 = .ok (.iconst 1, 1) := by decide +kernel
theorem dX3_save_30 : decode cX3_save 30 = .ok (.isub, 1) := by decide +kernel
theorem dX3_save_31 : decode cX3_save 31 = .ok (.putfield 28, 3) := by decide +kernel
theorem dX3_save_34 : decode cX3_save 34 = .ok (.aload_n 0, 1) := by decide +kernel
theorem dX3_save_35 : decode cX3_save 35 = .ok (.aload_n 0, 1) := by decide +kernel
theorem dX3_save_36 : decode cX3_save 36 = .ok (.getfield 28, 3) := by decide +kernel
theorem dX3_save_39 : decode cX3_save 39 = .ok (.invokevirtual 31, 3) := by decide +kernel
theorem dX3_save_42 : decode cX3_save 42 = .ok (.astore_n 2, 1) := by decide +kernel
theorem dX3_save_43 : decode cX3_save 43 = .ok (.aload_n 2, 1) := by decide +kernel
theorem dX3_save_44 : decode cX3_save 44 = .ok (.ifnull 18, 3) := by decide +kernel
theorem dX3_save_47 : decode cX3_save 47 = .ok (.aload_n 2, 1) := by decide +kernel
theorem dX3_save_48 : decode cX3_save 48 = .ok (.aload_n 1, 1) := by decide +kernel
theorem dX3_save_49 : decode cX3_save 49 = .ok (.invokevirtual 35, 3) := by decide +kernel
theorem dX3_save_52 : decode cX3_save 52 = .ok (.aload_n 0, 1) := by decide +kernel
theorem dX3_save_53 : decode cX3_save 53 = .ok (.dup, 1) := by decide +kernel
theorem dX3_save_54 : decode cX3_save 54 = .ok (.getfield 28, 3) := by decide +kernel
theorem dX3_save_57 : decode cX3_save 57 = .ok (.iconst 1, 1) := by decide +kernel
theorem dX3_save_58 : decode cX3_save 58 = .ok (.iadd, 1) := by decide +kernel
theorem dX3_save_59 : decode cX3_save 59 = .ok (.putfield 28, 3) := by decide +kernel
theorem dX3_save_62 : decode cX3_save 62 = .ok (.return_, 1) := by decide +kernel
theorem dX3_restore_0 : decode cX3_restore 0 = .ok (.aload_n 0, 1) := by decide +kernel
theorem dX3_restore_1 : decode cX3_restore 1 = .ok (.getfield 28, 3) := by decide +kernel
theorem dX3_restore_4 : decode cX3_restore 4 = .ok (.ifCond .le 16, 3) := by decide +kernel
theorem dX3_restore_7 : decode cX3_restore 7 = .ok (.aload_n 0, 1) := by decide +kernel
theorem dX3_restore_8 : decode cX3_restore 8 = .ok (.aload_n 0, 1) := by decide +kernel
theorem dX3_restore_9 : decode cX3_restore 9 = .ok (.getfield 28, 3) := by decide +kernel
theorem dX3_restore_12 : decode cX3_restore 12 = .ok (.iconst 1, 1) := by decide +kernel
theorem dX3_restore_13 : decode cX3_restore 13 = .ok (.isub, 1) := by decide +kernel
theorem dX3_restore_14 : decode cX3_restore 14 = .ok (.invokevirtual 31, 3) := by decide +kernel
theorem dX3_restore_17 : decode cX3_restore 17 = .ok (.goto 4, 3) := by decide +kernel
theorem dX3_restore_20 : decode cX3_restore 20 = .ok (.aconst_null, 1) := by decide +kernel
theorem dX3_restore_21 : decode cX3_restore 21 = .ok (.astore_n 2, 1) := by decide +kernel
theorem dX3_restore_22 : decode cX3_restore 22 = .ok (.aload_n 2, 1) := by decide +kernel
theorem dX3_restore_23 : decode cX3_restore 23 = .ok (.ifnonnull 5, 3) := by decide +kernel
theorem dX3_restore_26 : decode cX3_restore 26 = .ok (.iconst 0, 1) := by decide +kernel
theorem dX3_restore_27 : decode cX3_restore 27 = .ok (.ireturn, 1) := by decide +kernel
theorem dX3_restore_28 : decode cX3_restore 28 = .ok (.aload_n 1, 1) := by decide +kernel
theorem dX3_restore_29 : decode cX3_restore 29 = .ok (.aload_n 2, 1) := by decide +kernel
theorem dX3_restore_30 : decode cX3_restore 30 = .ok (.invokevirtual 35, 3) := by decide +kernel
theorem dX3_restore_33 : decode cX3_restore 33 = .ok (.aload_n 0, 1) := by decide +kernel
theorem dX3_restore_34 : decode cX3_restore 34 = .ok (.dup, 1) := by decide +kernel
theorem dX3_restore_35 : decode cX3_restore 35 = .ok (.getfield 28, 3) := by decide +kernel
theorem dX3_restore_38 : decode cX3_restore 38 = .ok (.iconst 1, 1) := by decide +kernel
theorem dX3_restore_39 : decode cX3_restore 39 = .ok (.isub, 1) := by decide +kernel
theorem dX3_restore_40 : decode cX3_restore 40 = .ok (.putfield 28, 3) := by decide +kernel
theorem dX3_restore_43 : decode cX3_restore 43 = .ok (.iconst 1, 1) := by decide +kernel
theorem dX3_restore_44 : decode cX3_restore 44 = .ok (.ireturn, 1) := by decide +kernel
theorem dX4_init_0 : decode cX4_init 0 = .ok (.aload_n 0, 1) := by decide +kernel
theorem dX4_init_1 : decode cX4_init 1 = .ok (.invokespecial 3, 3) := by decide +kernel
theorem dX4_init_4 : decode cX4_init 4 = .ok (.aload_n 0, 1) := by decide +kernel
theorem dX4_init_5 : decode cX4_init 5 = .ok (.bipush 60, 2) := by decide +kernel
theorem dX4_init_7 : decode cX4_init 7 = .ok (.newarray .char, 2) := by decide +kernel
theorem dX4_init_9 : decode cX4_init 9 = .ok (.putfield 9, 3) := by decide +kernel
theorem dX4_init_12 : decode cX4_init 12 = .ok (.return_, 1) := by decide +kernel
theorem dJ9_floorMod_7cf53_0 : decode cJ9_floorMod_7cf53 0 = .ok (.iload_n 0, 1) := by decide +kernel
theorem dJ9_floorMod_7cf53_1 : decode cJ9_floorMod_7cf53 1 = .ok (.iload_n 1, 1) := by decide +kernel
theorem dJ9_floorMod_7cf53_2 : decode cJ9_floorMod_7cf53 2 = .ok (.irem, 1) := by decide +kernel
theorem dJ9_floorMod_7cf53_3 : decode cJ9_floorMod_7cf53 3 = .ok (.istore_n 2, 1) := by decide +kernel
theorem dJ9_floorMod_7cf53_4 : decode cJ9_floorMod_7cf53 4 = .ok (.iload_n 0, 1) := by decide +kernel
theorem dJ9_floorMod_7cf53_5 : decode cJ9_floorMod_7cf53 5 = .ok (.iload_n 1, 1) := by decide +kernel
theorem dJ9_floorMod_7cf53_6 : decode cJ9_floorMod_7cf53 6 = .ok (.ixor, 1) := by decide +kernel
theorem dJ9_floorMod_7cf53_7 : decode cJ9_floorMod_7cf53 7 = .ok (.ifCond .ge 11, 3) := by decide +kernel
theorem dJ9_floorMod_7cf53_10 : decode cJ9_floorMod_7cf53 10 = .ok (.iload_n 2, 1) := by decide +kernel
theorem dJ9_floorMod_7cf53_11 : decode cJ9_floorMod_7cf53 11 = .ok (.ifCond .eq 7, 3) := by decide +kernel
theorem dJ9_floorMod_7cf53_14 : decode cJ9_floorMod_7cf53 14 = .ok (.iload_n 2, 1) := by decide +kernel
theorem dJ9_floorMod_7cf53_15 : decode cJ9_floorMod_7cf53 15 = .ok (.iload_n 1, 1) := by decide +kernel
theorem dJ9_floorMod_7cf53_16 : decode cJ9_floorMod_7cf53 16 = .ok (.iadd, 1) := by decide +kernel
theorem dJ9_floorMod_7cf53_17 : decode cJ9_floorMod_7cf53 17 = .ok (.ireturn, 1) := by decide +kernel
theorem dJ9_floorMod_7cf53_18 : decode cJ9_floorMod_7cf53 18 = .ok (.iload_n 2, 1) := by decide +kernel
theorem dJ9_floorMod_7cf53_19 : decode cJ9_floorMod_7cf53 19 = .ok (.ireturn, 1) := by decide +kernel
end
section
theorem dX5_init_0 : decode cX5_init 0 = .ok (.aload_n 0, 1) := by decide +kernel
theorem dX5_init_1 : decode cX5_init 1 = .ok (.invokespecial 3, 3) := by decide +kernel
theorem dX5_init_4 : decode cX5_init 4 = .ok (.aload_n 0, 1) := by decide +kernel
theorem dX5_init_5 : decode cX5_init 5 = .ok (.new 9, 3) := by decide +kernel
theorem dX5_init_8 : decode cX5_init 8 = .ok (.dup, 1) := by decide +kernel
theorem dX5_init_9 : decode cX5_init 9 = .ok (.invokespecial 11, 3) := by decide +kernel
theorem dX5_init_12 : decode cX5_init 12 = .ok (.putfield 12, 3) := by decide +kernel
theorem dX5_init_15 : decode cX5_init 15 = .ok (.aload_n 0, 1) := by decide +kernel
theorem dX5_init_16 : decode cX5_init 16 = .ok (.new 16, 3) := by decide +kernel
theorem dX5_init_19 : decode cX5_init 19 = .ok (.dup, 1) := by decide +kernel
theorem dX5_init_20 : decode cX5_init 20 = .ok (.invokespecial 18, 3) := by decide +kernel
theorem dX5_init_23 : decode cX5_init 23 = .ok (.putfield 19, 3) := by decide +kernel
theorem dX5_init_26 : decode cX5_init 26 = .ok (.aload_n 0, 1) := by decide +kernel
theorem dX5_init_27 : decode cX5_init 27 = .ok (.new 23, 3) := by decide +kernel
theorem dX5_init_30 : decode cX5_init 30 = .ok (.dup, 1) := by decide +kernel
theorem dX5_init_31 : decode cX5_init 31 = .ok (.invokespecial 25, 3) := by decide +kernel
theorem dX5_init_34 : decode cX5_init 34 = .ok (.putfield 26, 3) := by decide +kernel
theorem dX5_init_37 : decode cX5_init 37 = .ok (.aload_n 0, 1) := by decide +kernel
theorem dX5_init_38 : decode cX5_init 38 = .ok (.new 30, 3) := by decide +kernel
theorem dX5_init_41 : decode cX5_init 41 = .ok (.dup, 1) := by decide +kernel
theorem dX5_init_42 : decode cX5_init 42 = .ok (.invokespecial 32, 3) := by decide +kernel
theorem dX5_init_45 : decode cX5_init 45 = .ok (.putfield 33, 3) := by decide +kernel
theorem dX5_init_48 : decode cX5_init 48 = .ok (.aload_n 0, 1) := by decide +kernel
theorem dX5_init_49 : decode cX5_init 49 = .ok (.new 9, 3) := by decide +kernel
theorem dX5_init_52 : decode cX5_init 52 = .ok (.dup, 1) := by decide +kernel
theorem dX5_init_53 : decode cX5_init 53 = .ok (.invokespecial 11, 3) := by decide +kernel
theorem dX5_init_56 : decode cX5_init 56 = .ok (.putfield 37, 3) := by decide +kernel
theorem dX5_init_59 : decode cX5_init 59 = .ok (.aload_n 0, 1) := by decide +kernel
theorem dX5_init_60 : decode cX5_init 60 = .ok (.new 9, 3) := by decide +kernel
theorem dX5_init_63 : decode cX5_init 63 = .ok (.dup, 1) := by decide +kernel
theorem dX5_init_64 : decode cX5_init 64 = .ok (.invokespecial 11, 3) := by decide +kernel
theorem dX5_init_67 : decode cX5_init 67 = .ok (.putfield 40, 3) := by decide +kernel
theorem dX5_init_70 : decode cX5_init 70 = .ok (.return_, 1) := by decide +kernel
theorem dX5_addRelay_0 : decode cX5_addRelay 0 = .ok (.iload_n 1, 1) := by decide +kernel
theorem dX5_addRelay_1 : decode cX5_addRelay 1 = .ok (.iload_n 2, 1) := by decide +kernel
theorem dX5_addRelay_2 : decode cX5_addRelay 2 = .ok (.iload_n 3, 1) := by decide +kernel
theorem dX5_addRelay_3 : decode cX5_addRelay 3 = .ok (.invokestatic 43, 3) := by decide +kernel
theorem dX5_addRelay_6 : decode cX5_addRelay 6 = .ok (.ifCond .ne 5, 3) := by decide +kernel
theorem dX5_addRelay_9 : decode cX5_addRelay 9 = .ok (.iconst (-1), 1) := by decide +kernel
theorem dX5_addRelay_10 : decode cX5_addRelay 10 = .ok (.ireturn, 1) := by decide +kernel
theorem dX5_addRelay_11 : decode cX5_addRelay 11 = .ok (.aload_n 0, 1) := by decide +kernel
theorem dX5_addRelay_12 : decode cX5_addRelay 12 = .ok (.getfield 12, 3) := by decide +kernel
theorem dX5_addRelay_15 : decode cX5_addRelay 15 = .ok (.getfield 47, 3) := by decide +kernel
theorem dX5_addRelay_18 : decode cX5_addRelay 18 = .ok (.bipush 8, 2) := by decide +kernel
theorem dX5_addRelay_20 : decode cX5_addRelay 20 = .ok (.if_icmp .lt 6, 3) := by decide +kernel
theorem dX5_addRelay_23 : decode cX5_addRelay 23 = .ok (.bipush (-3), 2) := by decide +kernel
theorem dX5_addRelay_25 : decode cX5_addRelay 25 = .ok (.ireturn, 1) := by decide +kernel
theorem dX5_addRelay_26 : decode cX5_addRelay 26 = .ok (.aload_n 0, 1) := by decide +kernel
theorem dX5_addRelay_27 : decode cX5_addRelay 27 = .ok (.getfield 19, 3) := by decide +kernel
theorem dX5_addRelay_30 : decode cX5_addRelay 30 = .ok (.aload_n 0, 1) := by decide +kernel
theorem dX5_addRelay_31 : decode cX5_addRelay 31 = .ok (.getfield 12, 3) := by decide +kernel
theorem dX5_addRelay_34 : decode cX5_addRelay 34 = .ok (.invokevirtual 51, 3) := by decide +kernel
theorem dX5_addRelay_37 : decode cX5_addRelay 37 = .ok (.aload_n 0, 1) := by decide +kernel
theorem dX5_addRelay_38 : decode cX5_addRelay 38 = .ok (.getfield 12, 3) := by decide +kernel
theorem dX5_addRelay_41 : decode cX5_addRelay 41 = .ok (.iload_n 1, 1) := by decide +kernel
theorem dX5_addRelay_42 : decode cX5_addRelay 42 = .ok (.iload_n 2, 1) := by decide +kernel
theorem dX5_addRelay_43 : decode cX5_addRelay 43 = .ok (.iload_n 3, 1) := by decide +kernel
theorem dX5_addRelay_44 : decode cX5_addRelay 44 = .ok (.invokevirtual 55, 3) := by decide +kernel
theorem dX5_addRelay_47 : decode cX5_addRelay 47 = .ok (.ireturn, 1) := by decide +kernel
theorem dX5_setDelays_0 : decode cX5_setDelays 0 = .ok (.aload_n 0, 1) := by decide +kernel
theorem dX5_setDelays_1 : decode cX5_setDelays 1 = .ok (.getfield 12, 3) := by decide +kernel
theorem dX5_setDelays_4 : decode cX5_setDelays 4 = .ok (.iload_n 1, 1) := by decide +kernel
theorem dX5_setDelays_5 : decode cX5_setDelays 5 = .ok (.invokevirtual 59, 3) := by decide +kernel
theorem dX5_setDelays_8 : decode cX5_setDelays 8 = .ok (.ifCond .eq 13, 3) := by decide +kernel
theorem dX5_setDelays_11 : decode cX5_setDelays 11 = .ok (.iload_n 2, 1) := by decide +kernel
theorem dX5_setDelays_12 : decode cX5_setDelays 12 = .ok (.iload_n 3, 1) := by decide +kernel
theorem dX5_setDelays_13 : decode cX5_setDelays 13 = .ok (.iload 4, 2) := by decide +kernel
theorem dX5_setDelays_15 : decode cX5_setDelays 15 = .ok (.invokestatic 43, 3) := by decide +kernel
theorem dX5_setDelays_18 : decode cX5_setDelays 18 = .ok (.ifCond .ne 5, 3) := by decide +kernel
theorem dX5_setDelays_21 : decode cX5_setDelays 21 = .ok (.iconst (-1), 1) := by decide +kernel
theorem dX5_setDelays_22 : decode cX5_setDelays 22 = .ok (.ireturn, 1) := by decide +kernel
theorem dX5_setDelays_23 : decode cX5_setDelays 23 = .ok (.aload_n 0, 1) := by decide +kernel
theorem dX5_setDelays_24 : decode cX5_setDelays 24 = .ok (.getfield 19, 3) := by decide +kernel
theorem dX5_setDelays_27 : decode cX5_setDelays 27 = .ok (.aload_n 0, 1) := by decide +kernel
theorem dX5_setDelays_28 : decode cX5_setDelays 28 = .ok (.getfield 12, 3) := by decide +kernel
theorem dX5_setDelays_31 : decode cX5_setDelays 31 = .ok (.invokevirtual 51, 3) := by decide +kernel
theorem dX5_setDelays_34 : decode cX5_setDelays 34 = .ok (.aload_n 0, 1) := by decide +kernel
theorem dX5_setDelays_35 : decode cX5_setDelays 35 = .ok (.getfield 12, 3) := by decide +kernel
theorem dX5_setDelays_38 : decode cX5_setDelays 38 = .ok (.iload_n 1, 1) := by decide +kernel
theorem dX5_setDelays_39 : decode cX5_setDelays 39 = .ok (.iload_n 2, 1) := by decide +kernel
theorem dX5_setDelays_40 : decode cX5_setDelays 40 = .ok (.iload_n 3, 1) := by decide +kernel
theorem dX5_setDelays_41 : decode cX5_setDelays 41 = .ok (.iload 4, 2) := by decide +kernel
theorem dX5_setDelays_43 : decode cX5_setDelays 43 = .ok (.invokevirtual 63, 3) := by decide +kernel
theorem dX5_setDelays_46 : decode cX5_setDelays 46 = .ok (.ifCond .eq 7, 3) := by decide +kernel
theorem dX5_setDelays_49 : decode cX5_setDelays 49 = .ok (.iconst 1, 1) := by decide +kernel
theorem dX5_setDelays_50 : decode cX5_setDelays 50 = .ok (.goto 4, 3) := by decide +kernel
theorem dX5_setDelays_53 : decode cX5_setDelays 53 = .ok (.iconst 0, 1) := by decide +kernel
theorem dX5_setDelays_54 : decode cX5_setDelays 54 = .ok (.ireturn, 1) := by decide +kernel
theorem dX5_setCondition_0 : decode cX5_setCondition 0 = .ok (.aload_n 0, 1) := by decide +kernel
theorem dX5_setCondition_1 : decode cX5_setCondition 1 = .ok (.getfield 12, 3) := by decide +kernel
theorem dX5_setCondition_4 : decode cX5_setCondition 4 = .ok (.iload_n 1, 1) := by decide +kernel
theorem dX5_setCondition_5 : decode cX5_setCondition 5 = .ok (.invokevirtual 59, 3) := by decide +kernel
theorem dX5_setCondition_8 : decode cX5_setCondition 8 = .ok (.ifCond .eq 19, 3) := by decide +kernel
theorem dX5_setCondition_11 : decode cX5_setCondition 11 = .ok (.iload_n 2, 1) := by decide +kernel
theorem dX5_setCondition_12 : decode cX5_setCondition 12 = .ok (.iconst 0, 1) := by decide +kernel
theorem dX5_setCondition_13 : decode cX5_setCondition 13 = .ok (.aload_n 0, 1) := by decide +kernel
theorem dX5_setCondition_14 : decode cX5_setCondition 14 = .ok (.getfield 12, 3) := by decide +kernel
theorem dX5_setCondition_17 : decode cX5_setCondition 17 = .ok (.iload_n 1, 1) := by decide +kernel
theorem dX5_setCondition_18 : decode cX5_setCondition 18 = .ok (.invokevirtual 67, 3) := by decide +kernel
theorem dX5_setCondition_21 : decode cX5_setCondition 21 = .ok (.invokestatic 71, 3) := by decide +kernel
theorem dX5_setCondition_24 : decode cX5_setCondition 24 = .ok (.ifCond .ne 5, 3) := by decide +kernel
theorem dX5_setCondition_27 : decode cX5_setCondition 27 = .ok (.iconst (-1), 1) := by decide +kernel
theorem dX5_setCondition_28 : decode cX5_setCondition 28 = .ok (.ireturn, 1) := by decide +kernel
theorem dX5_setCondition_29 : decode cX5_setCondition 29 = .ok (.iload_n 3, 1) := by decide +kernel
theorem dX5_setCondition_30 : decode cX5_setCondition 30 = .ok (.iconst 0, 1) := by decide +kernel
theorem dX5_setCondition_31 : decode cX5_setCondition 31 = .ok (.bipush 8, 2) := by decide +kernel
theorem dX5_setCondition_33 : decode cX5_setCondition 33 = .ok (.aload_n 0, 1) := by decide +kernel
theorem dX5_setCondition_34 : decode cX5_setCondition 34 = .ok (.getfield 12, 3) := by decide +kernel
theorem dX5_setCondition_37 : decode cX5_setCondition 37 = .ok (.getfield 47, 3) := by decide +kernel
theorem dX5_setCondition_40 : decode cX5_setCondition 40 = .ok (.iadd, 1) := by decide +kernel
theorem dX5_setCondition_41 : decode cX5_setCondition 41 = .ok (.iconst 1, 1) := by decide +kernel
theorem dX5_setCondition_42 : decode cX5_setCondition 42 = .ok (.isub, 1) := by decide +kernel
theorem dX5_setCondition_43 : decode cX5_setCondition 43 = .ok (.invokestatic 71, 3) := by decide +kernel
theorem dX5_setCondition_46 : decode cX5_setCondition 46 = .ok (.ifCond .eq 13, 3) := by decide +kernel
theorem dX5_setCondition_49 : decode cX5_setCondition 49 = .ok (.iload 4, 2) := by decide +kernel
theorem dX5_setCondition_51 : decode cX5_setCondition 51 = .ok (.iconst 0, 1) := by decide +kernel
theorem dX5_setCondition_52 : decode cX5_setCondition 52 = .ok (.iconst 2, 1) := by decide +kernel
theorem dX5_setCondition_53 : decode cX5_setCondition 53 = .ok (.invokestatic 71, 3) := by decide +kernel
theorem dX5_setCondition_56 : decode cX5_setCondition 56 = .ok (.ifCond .ne 5, 3) := by decide +kernel
theorem dX5_setCondition_59 : decode cX5_setCondition 59 = .ok (.iconst (-1), 1) := by decide +kernel
theorem dX5_setCondition_60 : decode cX5_setCondition 60 = .ok (.ireturn, 1) := by decide +kernel
theorem dX5_setCondition_61 : decode cX5_setCondition 61 = .ok (.iload_n 2, 1) := by decide +kernel
theorem dX5_setCondition_62 : decode cX5_setCondition 62 = .ok (.bipush 6, 2) := by decide +kernel
theorem dX5_setCondition_64 : decode cX5_setCondition 64 = .ok (.if_icmp .lt 6, 3) := by decide +kernel
theorem dX5_setCondition_67 : decode cX5_setCondition 67 = .ok (.bipush (-3), 2) := by decide +kernel
theorem dX5_setCondition_69 : decode cX5_setCondition 69 = .ok (.ireturn, 1) := by decide +kernel
theorem dX5_setCondition_70 : decode cX5_setCondition 70 = .ok (.aload_n 0, 1) := by decide +kernel
theorem dX5_setCondition_71 : decode cX5_setCondition 71 = .ok (.getfield 19, 3) := by decide +kernel
theorem dX5_setCondition_74 : decode cX5_setCondition 74 = .ok (.aload_n 0, 1) := by decide +kernel
theorem dX5_setCondition_75 : decode cX5_setCondition 75 = .ok (.getfield 12, 3) := by decide +kernel
theorem dX5_setCondition_78 : decode cX5_setCondition 78 = .ok (.invokevirtual 51, 3) := by decide +kernel
theorem dX5_setCondition_81 : decode cX5_setCondition 81 = .ok (.aload_n 0, 1) := by decide +kernel
theorem dX5_setCondition_82 : decode cX5_setCondition 82 = .ok (.getfield 12, 3) := by decide +kernel
theorem dX5_setCondition_85 : decode cX5_setCondition 85 = .ok (.iload_n 1, 1) := by decide +kernel
theorem dX5_setCondition_86 : decode cX5_setCondition 86 = .ok (.iload_n 2, 1) := by decide +kernel
theorem dX5_setCondition_87 : decode cX5_setCondition 87 = .ok (.iload_n 3, 1) := by decide +kernel
theorem dX5_setCondition_88 : decode cX5_setCondition 88 = .ok (.iload 4, 2) := by decide +kernel
theorem dX5_setCondition_90 : decode cX5_setCondition 90 = .ok (.invokevirtual 74, 3) := by decide +kernel
theorem dX5_setCondition_93 : decode cX5_setCondition 93 = .ok (.ireturn, 1) := by decide +kernel
theorem dX5_removeBranch_0 : decode cX5_removeBranch 0 = .ok (.aload_n 0, 1) := by decide +kernel
theorem dX5_removeBranch_1 : decode cX5_removeBranch 1 = .ok (.getfield 12, 3) := by decide +kernel
theorem dX5_removeBranch_4 : decode cX5_removeBranch 4 = .ok (.iload_n 1, 1) := by decide +kernel
theorem dX5_removeBranch_5 : decode cX5_removeBranch 5 = .ok (.invokevirtual 59, 3) := by decide +kernel
theorem dX5_removeBranch_8 : decode cX5_removeBranch 8 = .ok (.ifCond .eq 21, 3) := by decide +kernel
theorem dX5_removeBranch_11 : decode cX5_removeBranch 11 = .ok (.iload_n 2, 1) := by decide +kernel
theorem dX5_removeBranch_12 : decode cX5_removeBranch 12 = .ok (.iconst 0, 1) := by decide +kernel
theorem dX5_removeBranch_13 : decode cX5_removeBranch 13 = .ok (.aload_n 0, 1) := by decide +kernel
theorem dX5_removeBranch_14 : decode cX5_removeBranch 14 = .ok (.getfield 12, 3) := by decide +kernel
theorem dX5_removeBranch_17 : decode cX5_removeBranch 17 = .ok (.iload_n 1, 1) := by decide +kernel
theorem dX5_removeBranch_18 : decode cX5_removeBranch 18 = .ok (.invokevirtual 67, 3) := by decide +kernel
theorem dX5_removeBranch_21 : decode cX5_removeBranch 21 = .ok (.iconst 1, 1) := by decide +kernel
theorem dX5_removeBranch_22 : decode cX5_removeBranch 22 = .ok (.isub, 1) := by decide +kernel
theorem dX5_removeBranch_23 : decode cX5_removeBranch 23 = .ok (.invokestatic 71, 3) := by decide +kernel
theorem dX5_removeBranch_26 : decode cX5_removeBranch 26 = .ok (.ifCond .ne 5, 3) := by decide +kernel
theorem dX5_removeBranch_29 : decode cX5_removeBranch 29 = .ok (.iconst (-1), 1) := by decide +kernel
theorem dX5_removeBranch_30 : decode cX5_removeBranch 30 = .ok (.ireturn, 1) := by decide +kernel
theorem dX5_removeBranch_31 : decode cX5_removeBranch 31 = .ok (.aload_n 0, 1) := by decide +kernel
theorem dX5_removeBranch_32 : decode cX5_removeBranch 32 = .ok (.getfield 19, 3) := by decide +kernel
theorem dX5_removeBranch_35 : decode cX5_removeBranch 35 = .ok (.aload_n 0, 1) := by decide +kernel
theorem dX5_removeBranch_36 : decode cX5_removeBranch 36 = .ok (.getfield 12, 3) := by decide +kernel
theorem dX5_removeBranch_39 : decode cX5_removeBranch 39 = .ok (.invokevirtual 51, 3) := by decide +kernel
theorem dX5_removeBranch_42 : decode cX5_removeBranch 42 = .ok (.aload_n 0, 1) := by decide +kernel
theorem dX5_removeBranch_43 : decode cX5_removeBranch 43 = .ok (.getfield 12, 3) := by decide +kernel
theorem dX5_removeBranch_46 : decode cX5_removeBranch 46 = .ok (.iload_n 1, 1) := by decide +kernel
theorem dX5_removeBranch_47 : decode cX5_removeBranch 47 = .ok (.iload_n 2, 1) := by decide +kernel
theorem dX5_removeBranch_48 : decode cX5_removeBranch 48 = .ok (.invokevirtual 78, 3) := by decide +kernel
theorem dX5_removeBranch_51 : decode cX5_removeBranch 51 = .ok (.ireturn, 1) := by decide +kernel
theorem dX5_press_0 : decode cX5_press 0 = .ok (.iload_n 1, 1) := by decide +kernel
theorem dX5_press_1 : decode cX5_press 1 = .ok (.invokestatic 104, 3) := by decide +kernel
theorem dX5_press_4 : decode cX5_press 4 = .ok (.ifCond .eq 12, 3) := by decide +kernel
theorem dX5_press_7 : decode cX5_press 7 = .ok (.iload_n 2, 1) := by decide +kernel
theorem dX5_press_8 : decode cX5_press 8 = .ok (.iconst 0, 1) := by decide +kernel
theorem dX5_press_9 : decode cX5_press 9 = .ok (.iconst 1, 1) := by decide +kernel
theorem dX5_press_10 : decode cX5_press 10 = .ok (.invokestatic 71, 3) := by decide +kernel
theorem dX5_press_13 : decode cX5_press 13 = .ok (.ifCond .ne 5, 3) := by decide +kernel
theorem dX5_press_16 : decode cX5_press 16 = .ok (.iconst (-1), 1) := by decide +kernel
theorem dX5_press_17 : decode cX5_press 17 = .ok (.ireturn, 1) := by decide +kernel
theorem dX5_press_18 : decode cX5_press 18 = .ok (.aload_n 0, 1) := by decide +kernel
theorem dX5_press_19 : decode cX5_press 19 = .ok (.getfield 12, 3) := by decide +kernel
theorem dX5_press_22 : decode cX5_press 22 = .ok (.getfield 107, 3) := by decide +kernel
theorem dX5_press_25 : decode cX5_press 25 = .ok (.iload_n 1, 1) := by decide +kernel
theorem dX5_press_26 : decode cX5_press 26 = .ok (.invokestatic 110, 3) := by decide +kernel
theorem dX5_press_29 : decode cX5_press 29 = .ok (.iload_n 2, 1) := by decide +kernel
theorem dX5_press_30 : decode cX5_press 30 = .ok (.iconst 1, 1) := by decide +kernel
theorem dX5_press_31 : decode cX5_press 31 = .ok (.if_icmp .ne 7, 3) := by decide +kernel
theorem dX5_press_34 : decode cX5_press 34 = .ok (.iconst 1, 1) := by decide +kernel
theorem dX5_press_35 : decode cX5_press 35 = .ok (.goto 4, 3) := by decide +kernel
theorem dX5_press_38 : decode cX5_press 38 = .ok (.iconst 0, 1) := by decide +kernel
theorem dX5_press_39 : decode cX5_press 39 = .ok (.if_icmp .ne 6, 3) := by decide +kernel
theorem dX5_press_42 : decode cX5_press 42 = .ok (.bipush (-2), 2) := by decide +kernel
theorem dX5_press_44 : decode cX5_press 44 = .ok (.ireturn, 1) := by decide +kernel
theorem dX5_press_45 : decode cX5_press 45 = .ok (.aload_n 0, 1) := by decide +kernel
theorem dX5_press_46 : decode cX5_press 46 = .ok (.getfield 19, 3) := by decide +kernel
theorem dX5_press_49 : decode cX5_press 49 = .ok (.aload_n 0, 1) := by decide +kernel
theorem dX5_press_50 : decode cX5_press 50 = .ok (.getfield 12, 3) := by decide +kernel
theorem dX5_press_53 : decode cX5_press 53 = .ok (.invokevirtual 51, 3) := by decide +kernel
theorem dX5_press_56 : decode cX5_press 56 = .ok (.aload_n 0, 1) := by decide +kernel
theorem dX5_press_57 : decode cX5_press 57 = .ok (.getfield 12, 3) := by decide +kernel
theorem dX5_press_60 : decode cX5_press 60 = .ok (.iload_n 1, 1) := by decide +kernel
theorem dX5_press_61 : decode cX5_press 61 = .ok (.invokevirtual 114, 3) := by decide +kernel
theorem dX5_press_64 : decode cX5_press 64 = .ok (.ireturn, 1) := by decide +kernel
theorem dX5_setFault_0 : decode cX5_setFault 0 = .ok (.aload_n 0, 1) := by decide +kernel
theorem dX5_setFault_1 : decode cX5_setFault 1 = .ok (.getfield 12, 3) := by decide +kernel
theorem dX5_setFault_4 : decode cX5_setFault 4 = .ok (.iload_n 1, 1) := by decide +kernel
theorem dX5_setFault_5 : decode cX5_setFault 5 = .ok (.invokevirtual 59, 3) := by decide +kernel
theorem dX5_setFault_8 : decode cX5_setFault 8 = .ok (.ifCond .eq 12, 3) := by decide +kernel
theorem dX5_setFault_11 : decode cX5_setFault 11 = .ok (.iload_n 2, 1) := by decide +kernel
theorem dX5_setFault_12 : decode cX5_setFault 12 = .ok (.iconst 0, 1) := by decide +kernel
theorem dX5_setFault_13 : decode cX5_setFault 13 = .ok (.iconst 2, 1) := by decide +kernel
theorem dX5_setFault_14 : decode cX5_setFault 14 = .ok (.invokestatic 71, 3) := by decide +kernel
theorem dX5_setFault_17 : decode cX5_setFault 17 = .ok (.ifCond .ne 5, 3) := by decide +kernel
theorem dX5_setFault_20 : decode cX5_setFault 20 = .ok (.iconst (-1), 1) := by decide +kernel
theorem dX5_setFault_21 : decode cX5_setFault 21 = .ok (.ireturn, 1) := by decide +kernel
theorem dX5_setFault_22 : decode cX5_setFault 22 = .ok (.aload_n 0, 1) := by decide +kernel
theorem dX5_setFault_23 : decode cX5_setFault 23 = .ok (.getfield 19, 3) := by decide +kernel
theorem dX5_setFault_26 : decode cX5_setFault 26 = .ok (.aload_n 0, 1) := by decide +kernel
theorem dX5_setFault_27 : decode cX5_setFault 27 = .ok (.getfield 12, 3) := by decide +kernel
theorem dX5_setFault_30 : decode cX5_setFault 30 = .ok (.invokevirtual 51, 3) := by decide +kernel
theorem dX5_setFault_33 : decode cX5_setFault 33 = .ok (.aload_n 0, 1) := by decide +kernel
theorem dX5_setFault_34 : decode cX5_setFault 34 = .ok (.getfield 12, 3) := by decide +kernel
theorem dX5_setFault_37 : decode cX5_setFault 37 = .ok (.iload_n 1, 1) := by decide +kernel
theorem dX5_setFault_38 : decode cX5_setFault 38 = .ok (.invokevirtual 117, 3) := by decide +kernel
theorem dX5_setFault_41 : decode cX5_setFault 41 = .ok (.istore_n 3, 1) := by decide +kernel
theorem dX5_setFault_42 : decode cX5_setFault 42 = .ok (.aload_n 0, 1) := by decide +kernel
theorem dX5_setFault_43 : decode cX5_setFault 43 = .ok (.getfield 12, 3) := by decide +kernel
theorem dX5_setFault_46 : decode cX5_setFault 46 = .ok (.iload_n 1, 1) := by decide +kernel
theorem dX5_setFault_47 : decode cX5_setFault 47 = .ok (.iload_n 2, 1) := by decide +kernel
theorem dX5_setFault_48 : decode cX5_setFault 48 = .ok (.invokevirtual 120, 3) := by decide +kernel
theorem dX5_setFault_51 : decode cX5_setFault 51 = .ok (.iload_n 3, 1) := by decide +kernel
theorem dX5_setFault_52 : decode cX5_setFault 52 = .ok (.ireturn, 1) := by decide +kernel
theorem dX5_stick_0 : decode cX5_stick 0 = .ok (.aload_n 0, 1) := by decide +kernel
theorem dX5_stick_1 : decode cX5_stick 1 = .ok (.getfield 12, 3) := by decide +kernel
theorem dX5_stick_4 : decode cX5_stick 4 = .ok (.iload_n 1, 1) := by decide +kernel
theorem dX5_stick_5 : decode cX5_stick 5 = .ok (.invokevirtual 59, 3) := by decide +kernel
theorem dX5_stick_8 : decode cX5_stick 8 = .ok (.ifCond .eq 12, 3) := by decide +kernel
theorem dX5_stick_11 : decode cX5_stick 11 = .ok (.iload_n 2, 1) := by decide +kernel
theorem dX5_stick_12 : decode cX5_stick 12 = .ok (.iconst 0, 1) := by decide +kernel
theorem dX5_stick_13 : decode cX5_stick 13 = .ok (.iconst 1, 1) := by decide +kernel
theorem dX5_stick_14 : decode cX5_stick 14 = .ok (.invokestatic 71, 3) := by decide +kernel
theorem dX5_stick_17 : decode cX5_stick 17 = .ok (.ifCond .ne 5, 3) := by decide +kernel
theorem dX5_stick_20 : decode cX5_stick 20 = .ok (.iconst (-1), 1) := by decide +kernel
theorem dX5_stick_21 : decode cX5_stick 21 = .ok (.ireturn, 1) := by decide +kernel
theorem dX5_stick_22 : decode cX5_stick 22 = .ok (.aload_n 0, 1) := by decide +kernel
theorem dX5_stick_23 : decode cX5_stick 23 = .ok (.getfield 19, 3) := by decide +kernel
theorem dX5_stick_26 : decode cX5_stick 26 = .ok (.aload_n 0, 1) := by decide +kernel
theorem dX5_stick_27 : decode cX5_stick 27 = .ok (.getfield 12, 3) := by decide +kernel
theorem dX5_stick_30 : decode cX5_stick 30 = .ok (.invokevirtual 51, 3) := by decide +kernel
theorem dX5_stick_33 : decode cX5_stick 33 = .ok (.aload_n 0, 1) := by decide +kernel
theorem dX5_stick_34 : decode cX5_stick 34 = .ok (.getfield 12, 3) := by decide +kernel
theorem dX5_stick_37 : decode cX5_stick 37 = .ok (.getfield 124, 3) := by decide +kernel
theorem dX5_stick_40 : decode cX5_stick 40 = .ok (.iload_n 1, 1) := by decide +kernel
theorem dX5_stick_41 : decode cX5_stick 41 = .ok (.invokestatic 127, 3) := by decide +kernel
theorem dX5_stick_44 : decode cX5_stick 44 = .ok (.istore_n 3, 1) := by decide +kernel
theorem dX5_stick_45 : decode cX5_stick 45 = .ok (.aload_n 0, 1) := by decide +kernel
theorem dX5_stick_46 : decode cX5_stick 46 = .ok (.getfield 12, 3) := by decide +kernel
theorem dX5_stick_49 : decode cX5_stick 49 = .ok (.iload_n 2, 1) := by decide +kernel
theorem dX5_stick_50 : decode cX5_stick 50 = .ok (.iconst 1, 1) := by decide +kernel
theorem dX5_stick_51 : decode cX5_stick 51 = .ok (.if_icmp .ne 17, 3) := by decide +kernel
theorem dX5_stick_54 : decode cX5_stick 54 = .ok (.aload_n 0, 1) := by decide +kernel
theorem dX5_stick_55 : decode cX5_stick 55 = .ok (.getfield 12, 3) := by decide +kernel
theorem dX5_stick_58 : decode cX5_stick 58 = .ok (.getfield 124, 3) := by decide +kernel
theorem dX5_stick_61 : decode cX5_stick 61 = .ok (.iconst 1, 1) := by decide +kernel
theorem dX5_stick_62 : decode cX5_stick 62 = .ok (.iload_n 1, 1) := by decide +kernel
theorem dX5_stick_63 : decode cX5_stick 63 = .ok (.ishl, 1) := by decide +kernel
theorem dX5_stick_64 : decode cX5_stick 64 = .ok (.ior, 1) := by decide +kernel
theorem dX5_stick_65 : decode cX5_stick 65 = .ok (.goto 16, 3) := by decide +kernel
theorem dX5_stick_68 : decode cX5_stick 68 = .ok (.aload_n 0, 1) := by decide +kernel
theorem dX5_stick_69 : decode cX5_stick 69 = .ok (.getfield 12, 3) := by decide +kernel
theorem dX5_stick_72 : decode cX5_stick 72 = .ok (.getfield 124, 3) := by decide +kernel
theorem dX5_stick_75 : decode cX5_stick 75 = .ok (.iconst 1, 1) := by decide +kernel
theorem dX5_stick_76 : decode cX5_stick 76 = .ok (.iload_n 1, 1) := by decide +kernel
theorem dX5_stick_77 : decode cX5_stick 77 = .ok (.ishl, 1) := by decide +kernel
theorem dX5_stick_78 : decode cX5_stick 78 = .ok (.iconst (-1), 1) := by decide +kernel
theorem dX5_stick_79 : decode cX5_stick 79 = .ok (.ixor, 1) := by decide +kernel
theorem dX5_stick_80 : decode cX5_stick 80 = .ok (.iand, 1) := by decide +kernel
theorem dX5_stick_81 : decode cX5_stick 81 = .ok (.putfield 124, 3) := by decide +kernel
theorem dX5_stick_84 : decode cX5_stick 84 = .ok (.iload_n 3, 1) := by decide +kernel
theorem dX5_stick_85 : decode cX5_stick 85 = .ok (.ireturn, 1) := by decide +kernel
theorem dX5_step_0 : decode cX5_step 0 = .ok (.aload_n 0, 1) := by decide +kernel
theorem dX5_step_1 : decode cX5_step 1 = .ok (.getfield 12, 3) := by decide +kernel
theorem dX5_step_4 : decode cX5_step 4 = .ok (.iconst 0, 1) := by decide +kernel
theorem dX5_step_5 : decode cX5_step 5 = .ok (.invokevirtual 130, 3) := by decide +kernel
theorem dX5_step_8 : decode cX5_step 8 = .ok (.istore_n 1, 1) := by decide +kernel
theorem dX5_step_9 : decode cX5_step 9 = .ok (.iload_n 1, 1) := by decide +kernel
theorem dX5_step_10 : decode cX5_step 10 = .ok (.iconst (-1), 1) := by decide +kernel
theorem dX5_step_11 : decode cX5_step 11 = .ok (.if_icmp .ne 6, 3) := by decide +kernel
theorem dX5_step_14 : decode cX5_step 14 = .ok (.bipush (-2), 2) := by decide +kernel
theorem dX5_step_16 : decode cX5_step 16 = .ok (.ireturn, 1) := by decide +kernel
theorem dX5_step_17 : decode cX5_step 17 = .ok (.aload_n 0, 1) := by decide +kernel
theorem dX5_step_18 : decode cX5_step 18 = .ok (.getfield 19, 3) := by decide +kernel
theorem dX5_step_21 : decode cX5_step 21 = .ok (.aload_n 0, 1) := by decide +kernel
theorem dX5_step_22 : decode cX5_step 22 = .ok (.getfield 12, 3) := by decide +kernel
theorem dX5_step_25 : decode cX5_step 25 = .ok (.invokevirtual 51, 3) := by decide +kernel
theorem dX5_step_28 : decode cX5_step 28 = .ok (.aload_n 0, 1) := by decide +kernel
theorem dX5_step_29 : decode cX5_step 29 = .ok (.getfield 12, 3) := by decide +kernel
theorem dX5_step_32 : decode cX5_step 32 = .ok (.iload_n 1, 1) := by decide +kernel
theorem dX5_step_33 : decode cX5_step 33 = .ok (.invokevirtual 134, 3) := by decide +kernel
theorem dX5_step_36 : decode cX5_step 36 = .ok (.istore_n 2, 1) := by decide +kernel
theorem dX5_step_37 : decode cX5_step 37 = .ok (.aload_n 0, 1) := by decide +kernel
theorem dX5_step_38 : decode cX5_step 38 = .ok (.getfield 12, 3) := by decide +kernel
theorem dX5_step_41 : decode cX5_step 41 = .ok (.iload_n 1, 1) := by decide +kernel
theorem dX5_step_42 : decode cX5_step 42 = .ok (.invokevirtual 137, 3) := by decide +kernel
theorem dX5_step_45 : decode cX5_step 45 = .ok (.bipush 10, 2) := by decide +kernel
theorem dX5_step_47 : decode cX5_step 47 = .ok (.iload_n 1, 1) := by decide +kernel
theorem dX5_step_48 : decode cX5_step 48 = .ok (.invokestatic 141, 3) := by decide +kernel
theorem dX5_step_51 : decode cX5_step 51 = .ok (.imul, 1) := by decide +kernel
theorem dX5_step_52 : decode cX5_step 52 = .ok (.iload_n 2, 1) := by decide +kernel
theorem dX5_step_53 : decode cX5_step 53 = .ok (.iadd, 1) := by decide +kernel
theorem dX5_step_54 : decode cX5_step 54 = .ok (.ireturn, 1) := by decide +kernel
theorem dX5_settle_0 : decode cX5_settle 0 = .ok (.iload_n 1, 1) := by decide +kernel
theorem dX5_settle_1 : decode cX5_settle 1 = .ok (.iconst 1, 1) := by decide +kernel
theorem dX5_settle_2 : decode cX5_settle 2 = .ok (.sipush 200, 3) := by decide +kernel
theorem dX5_settle_5 : decode cX5_settle 5 = .ok (.invokestatic 71, 3) := by decide +kernel
theorem dX5_settle_8 : decode cX5_settle 8 = .ok (.ifCond .ne 5, 3) := by decide +kernel
theorem dX5_settle_11 : decode cX5_settle 11 = .ok (.iconst (-1), 1) := by decide +kernel
theorem dX5_settle_12 : decode cX5_settle 12 = .ok (.ireturn, 1) := by decide +kernel
theorem dX5_settle_13 : decode cX5_settle 13 = .ok (.aload_n 0, 1) := by decide +kernel
theorem dX5_settle_14 : decode cX5_settle 14 = .ok (.getfield 19, 3) := by decide +kernel
theorem dX5_settle_17 : decode cX5_settle 17 = .ok (.aload_n 0, 1) := by decide +kernel
theorem dX5_settle_18 : decode cX5_settle 18 = .ok (.getfield 12, 3) := by decide +kernel
theorem dX5_settle_21 : decode cX5_settle 21 = .ok (.invokevirtual 51, 3) := by decide +kernel
theorem dX5_settle_24 : decode cX5_settle 24 = .ok (.aload_n 0, 1) := by decide +kernel
theorem dX5_settle_25 : decode cX5_settle 25 = .ok (.getfield 12, 3) := by decide +kernel
theorem dX5_settle_28 : decode cX5_settle 28 = .ok (.iload_n 1, 1) := by decide +kernel
theorem dX5_settle_29 : decode cX5_settle 29 = .ok (.ldc 144, 2) := by decide +kernel
theorem dX5_settle_31 : decode cX5_settle 31 = .ok (.iconst 0, 1) := by decide +kernel
theorem dX5_settle_32 : decode cX5_settle 32 = .ok (.invokevirtual 145, 3) := by decide +kernel
theorem dX5_settle_35 : decode cX5_settle 35 = .ok (.ireturn, 1) := by decide +kernel
theorem dX5_pass_0 : decode cX5_pass 0 = .ok (.iload_n 1, 1) := by decide +kernel
theorem dX5_pass_1 : decode cX5_pass 1 = .ok (.iconst 1, 1) := by decide +kernel
theorem dX5_pass_2 : decode cX5_pass 2 = .ok (.sipush 1000, 3) := by decide +kernel
theorem dX5_pass_5 : decode cX5_pass 5 = .ok (.invokestatic 71, 3) := by decide +kernel
theorem dX5_pass_8 : decode cX5_pass 8 = .ok (.ifCond .ne 5, 3) := by decide +kernel
theorem dX5_pass_11 : decode cX5_pass 11 = .ok (.iconst (-1), 1) := by decide +kernel
theorem dX5_pass_12 : decode cX5_pass 12 = .ok (.ireturn, 1) := by decide +kernel
theorem dX5_pass_13 : decode cX5_pass 13 = .ok (.aload_n 0, 1) := by decide +kernel
theorem dX5_pass_14 : decode cX5_pass 14 = .ok (.getfield 12, 3) := by decide +kernel
theorem dX5_pass_17 : decode cX5_pass 17 = .ok (.getfield 149, 3) := by decide +kernel
theorem dX5_pass_20 : decode cX5_pass 20 = .ok (.iload_n 1, 1) := by decide +kernel
theorem dX5_pass_21 : decode cX5_pass 21 = .ok (.iadd, 1) := by decide +kernel
theorem dX5_pass_22 : decode cX5_pass 22 = .ok (.istore_n 2, 1) := by decide +kernel
theorem dX5_pass_23 : decode cX5_pass 23 = .ok (.iload_n 2, 1) := by decide +kernel
theorem dX5_pass_24 : decode cX5_pass 24 = .ok (.ldc 152, 2) := by decide +kernel
theorem dX5_pass_26 : decode cX5_pass 26 = .ok (.if_icmp .le 6, 3) := by decide +kernel
theorem dX5_pass_29 : decode cX5_pass 29 = .ok (.bipush (-3), 2) := by decide +kernel
theorem dX5_pass_31 : decode cX5_pass 31 = .ok (.ireturn, 1) := by decide +kernel
theorem dX5_pass_32 : decode cX5_pass 32 = .ok (.aload_n 0, 1) := by decide +kernel
theorem dX5_pass_33 : decode cX5_pass 33 = .ok (.getfield 40, 3) := by decide +kernel
theorem dX5_pass_36 : decode cX5_pass 36 = .ok (.aload_n 0, 1) := by decide +kernel
theorem dX5_pass_37 : decode cX5_pass 37 = .ok (.getfield 12, 3) := by decide +kernel
theorem dX5_pass_40 : decode cX5_pass 40 = .ok (.invokevirtual 153, 3) := by decide +kernel
theorem dX5_pass_43 : decode cX5_pass 43 = .ok (.aload_n 0, 1) := by decide +kernel
theorem dX5_pass_44 : decode cX5_pass 44 = .ok (.getfield 40, 3) := by decide +kernel
theorem dX5_pass_47 : decode cX5_pass 47 = .ok (.sipush 201, 3) := by decide +kernel
theorem dX5_pass_50 : decode cX5_pass 50 = .ok (.iload_n 2, 1) := by decide +kernel
theorem dX5_pass_51 : decode cX5_pass 51 = .ok (.iconst 0, 1) := by decide +kernel
theorem dX5_pass_52 : decode cX5_pass 52 = .ok (.invokevirtual 145, 3) := by decide +kernel
theorem dX5_pass_55 : decode cX5_pass 55 = .ok (.istore_n 3, 1) := by decide +kernel
theorem dX5_pass_56 : decode cX5_pass 56 = .ok (.iload_n 3, 1) := by decide +kernel
theorem dX5_pass_57 : decode cX5_pass 57 = .ok (.sipush 200, 3) := by decide +kernel
theorem dX5_pass_60 : decode cX5_pass 60 = .ok (.if_icmp .le 6, 3) := by decide +kernel
theorem dX5_pass_63 : decode cX5_pass 63 = .ok (.bipush (-3), 2) := by decide +kernel
theorem dX5_pass_65 : decode cX5_pass 65 = .ok (.ireturn, 1) := by decide +kernel
theorem dX5_pass_66 : decode cX5_pass 66 = .ok (.aload_n 0, 1) := by decide +kernel
theorem dX5_pass_67 : decode cX5_pass 67 = .ok (.getfield 19, 3) := by decide +kernel
theorem dX5_pass_70 : decode cX5_pass 70 = .ok (.aload_n 0, 1) := by decide +kernel
theorem dX5_pass_71 : decode cX5_pass 71 = .ok (.getfield 12, 3) := by decide +kernel
theorem dX5_pass_74 : decode cX5_pass 74 = .ok (.invokevirtual 51, 3) := by decide +kernel
theorem dX5_pass_77 : decode cX5_pass 77 = .ok (.aload_n 0, 1) := by decide +kernel
theorem dX5_pass_78 : decode cX5_pass 78 = .ok (.getfield 12, 3) := by decide +kernel
theorem dX5_pass_81 : decode cX5_pass 81 = .ok (.aload_n 0, 1) := by decide +kernel
theorem dX5_pass_82 : decode cX5_pass 82 = .ok (.getfield 40, 3) := by decide +kernel
theorem dX5_pass_85 : decode cX5_pass 85 = .ok (.invokevirtual 153, 3) := by decide +kernel
theorem dX5_pass_88 : decode cX5_pass 88 = .ok (.aload_n 0, 1) := by decide +kernel
theorem dX5_pass_89 : decode cX5_pass 89 = .ok (.getfield 12, 3) := by decide +kernel
theorem dX5_pass_92 : decode cX5_pass 92 = .ok (.iload_n 2, 1) := by decide +kernel
theorem dX5_pass_93 : decode cX5_pass 93 = .ok (.putfield 149, 3) := by decide +kernel
theorem dX5_pass_96 : decode cX5_pass 96 = .ok (.iload_n 3, 1) := by decide +kernel
theorem dX5_pass_97 : decode cX5_pass 97 = .ok (.ireturn, 1) := by decide +kernel
theorem dX5_count_0 : decode cX5_count 0 = .ok (.iload_n 1, 1) := by decide +kernel
theorem dX5_count_1 : decode cX5_count 1 = .ok (.tableswitch 135 0 9 #[55, 63, 71, 79, 87, 95, 103, 111, 119, 127], 55) := by decide +kernel
theorem dX5_count_56 : decode cX5_count 56 = .ok (.aload_n 0, 1) := by decide +kernel
theorem dX5_count_57 : decode cX5_count 57 = .ok (.getfield 12, 3) := by decide +kernel
theorem dX5_count_60 : decode cX5_count 60 = .ok (.getfield 47, 3) := by decide +kernel
theorem dX5_count_63 : decode cX5_count 63 = .ok (.ireturn, 1) := by decide +kernel
theorem dX5_count_64 : decode cX5_count 64 = .ok (.aload_n 0, 1) := by decide +kernel
theorem dX5_count_65 : decode cX5_count 65 = .ok (.getfield 12, 3) := by decide +kernel
theorem dX5_count_68 : decode cX5_count 68 = .ok (.getfield 149, 3) := by decide +kernel
theorem dX5_count_71 : decode cX5_count 71 = .ok (.ireturn, 1) := by decide +kernel
theorem dX5_count_72 : decode cX5_count 72 = .ok (.aload_n 0, 1) := by decide +kernel
theorem dX5_count_73 : decode cX5_count 73 = .ok (.getfield 12, 3) := by decide +kernel
theorem dX5_count_76 : decode cX5_count 76 = .ok (.invokevirtual 156, 3) := by decide +kernel
theorem dX5_count_79 : decode cX5_count 79 = .ok (.ireturn, 1) := by decide +kernel
theorem dX5_count_80 : decode cX5_count 80 = .ok (.aload_n 0, 1) := by decide +kernel
theorem dX5_count_81 : decode cX5_count 81 = .ok (.getfield 12, 3) := by decide +kernel
theorem dX5_count_84 : decode cX5_count 84 = .ok (.getfield 107, 3) := by decide +kernel
theorem dX5_count_87 : decode cX5_count 87 = .ok (.ireturn, 1) := by decide +kernel
theorem dX5_count_88 : decode cX5_count 88 = .ok (.aload_n 0, 1) := by decide +kernel
theorem dX5_count_89 : decode cX5_count 89 = .ok (.getfield 12, 3) := by decide +kernel
theorem dX5_count_92 : decode cX5_count 92 = .ok (.getfield 160, 3) := by decide +kernel
theorem dX5_count_95 : decode cX5_count 95 = .ok (.ireturn, 1) := by decide +kernel
theorem dX5_count_96 : decode cX5_count 96 = .ok (.aload_n 0, 1) := by decide +kernel
theorem dX5_count_97 : decode cX5_count 97 = .ok (.getfield 12, 3) := by decide +kernel
theorem dX5_count_100 : decode cX5_count 100 = .ok (.getfield 163, 3) := by decide +kernel
theorem dX5_count_103 : decode cX5_count 103 = .ok (.ireturn, 1) := by decide +kernel
theorem dX5_count_104 : decode cX5_count 104 = .ok (.aload_n 0, 1) := by decide +kernel
theorem dX5_count_105 : decode cX5_count 105 = .ok (.getfield 12, 3) := by decide +kernel
theorem dX5_count_108 : decode cX5_count 108 = .ok (.invokevirtual 166, 3) := by decide +kernel
theorem dX5_count_111 : decode cX5_count 111 = .ok (.ireturn, 1) := by decide +kernel
theorem dX5_count_112 : decode cX5_count 112 = .ok (.aload_n 0, 1) := by decide +kernel
theorem dX5_count_113 : decode cX5_count 113 = .ok (.getfield 12, 3) := by decide +kernel
theorem dX5_count_116 : decode cX5_count 116 = .ok (.getfield 169, 3) := by decide +kernel
theorem dX5_count_119 : decode cX5_count 119 = .ok (.ireturn, 1) := by decide +kernel
theorem dX5_count_120 : decode cX5_count 120 = .ok (.aload_n 0, 1) := by decide +kernel
theorem dX5_count_121 : decode cX5_count 121 = .ok (.getfield 26, 3) := by decide +kernel
theorem dX5_count_124 : decode cX5_count 124 = .ok (.getfield 82, 3) := by decide +kernel
theorem dX5_count_127 : decode cX5_count 127 = .ok (.ireturn, 1) := by decide +kernel
theorem dX5_count_128 : decode cX5_count 128 = .ok (.aload_n 0, 1) := by decide +kernel
theorem dX5_count_129 : decode cX5_count 129 = .ok (.getfield 19, 3) := by decide +kernel
theorem dX5_count_132 : decode cX5_count 132 = .ok (.getfield 172, 3) := by decide +kernel
theorem dX5_count_135 : decode cX5_count 135 = .ok (.ireturn, 1) := by decide +kernel
theorem dX5_count_136 : decode cX5_count 136 = .ok (.iconst (-1), 1) := by decide +kernel
theorem dX5_count_137 : decode cX5_count 137 = .ok (.ireturn, 1) := by decide +kernel
theorem dX5_relay_0 : decode cX5_relay 0 = .ok (.aload_n 0, 1) := by decide +kernel
theorem dX5_relay_1 : decode cX5_relay 1 = .ok (.getfield 12, 3) := by decide +kernel
theorem dX5_relay_4 : decode cX5_relay 4 = .ok (.iload_n 1, 1) := by decide +kernel
theorem dX5_relay_5 : decode cX5_relay 5 = .ok (.invokevirtual 59, 3) := by decide +kernel
theorem dX5_relay_8 : decode cX5_relay 8 = .ok (.ifCond .ne 5, 3) := by decide +kernel
theorem dX5_relay_11 : decode cX5_relay 11 = .ok (.iconst (-1), 1) := by decide +kernel
theorem dX5_relay_12 : decode cX5_relay 12 = .ok (.ireturn, 1) := by decide +kernel
theorem dX5_relay_13 : decode cX5_relay 13 = .ok (.iload_n 2, 1) := by decide +kernel
theorem dX5_relay_14 : decode cX5_relay 14 = .ok (.tableswitch 157 0 7 #[46, 58, 70, 82, 91, 100, 112, 133], 46) := by decide +kernel
theorem dX5_relay_60 : decode cX5_relay 60 = .ok (.aload_n 0, 1) := by decide +kernel
theorem dX5_relay_61 : decode cX5_relay 61 = .ok (.getfield 12, 3) := by decide +kernel
theorem dX5_relay_64 : decode cX5_relay 64 = .ok (.getfield 173, 3) := by decide +kernel
theorem dX5_relay_67 : decode cX5_relay 67 = .ok (.iload_n 1, 1) := by decide +kernel
theorem dX5_relay_68 : decode cX5_relay 68 = .ok (.invokestatic 176, 3) := by decide +kernel
theorem dX5_relay_71 : decode cX5_relay 71 = .ok (.ireturn, 1) := by decide +kernel
theorem dX5_relay_72 : decode cX5_relay 72 = .ok (.aload_n 0, 1) := by decide +kernel
theorem dX5_relay_73 : decode cX5_relay 73 = .ok (.getfield 12, 3) := by decide +kernel
theorem dX5_relay_76 : decode cX5_relay 76 = .ok (.getfield 180, 3) := by decide +kernel
theorem dX5_relay_79 : decode cX5_relay 79 = .ok (.iload_n 1, 1) := by decide +kernel
theorem dX5_relay_80 : decode cX5_relay 80 = .ok (.invokestatic 176, 3) := by decide +kernel
theorem dX5_relay_83 : decode cX5_relay 83 = .ok (.ireturn, 1) := by decide +kernel
theorem dX5_relay_84 : decode cX5_relay 84 = .ok (.aload_n 0, 1) := by decide +kernel
theorem dX5_relay_85 : decode cX5_relay 85 = .ok (.getfield 12, 3) := by decide +kernel
theorem dX5_relay_88 : decode cX5_relay 88 = .ok (.getfield 183, 3) := by decide +kernel
theorem dX5_relay_91 : decode cX5_relay 91 = .ok (.iload_n 1, 1) := by decide +kernel
theorem dX5_relay_92 : decode cX5_relay 92 = .ok (.invokestatic 176, 3) := by decide +kernel
theorem dX5_relay_95 : decode cX5_relay 95 = .ok (.ireturn, 1) := by decide +kernel
theorem dX5_relay_96 : decode cX5_relay 96 = .ok (.aload_n 0, 1) := by decide +kernel
theorem dX5_relay_97 : decode cX5_relay 97 = .ok (.getfield 12, 3) := by decide +kernel
theorem dX5_relay_100 : decode cX5_relay 100 = .ok (.iload_n 1, 1) := by decide +kernel
theorem dX5_relay_101 : decode cX5_relay 101 = .ok (.invokevirtual 67, 3) := by decide +kernel
theorem dX5_relay_104 : decode cX5_relay 104 = .ok (.ireturn, 1) := by decide +kernel
theorem dX5_relay_105 : decode cX5_relay 105 = .ok (.aload_n 0, 1) := by decide +kernel
theorem dX5_relay_106 : decode cX5_relay 106 = .ok (.getfield 12, 3) := by decide +kernel
theorem dX5_relay_109 : decode cX5_relay 109 = .ok (.iload_n 1, 1) := by decide +kernel
theorem dX5_relay_110 : decode cX5_relay 110 = .ok (.invokevirtual 117, 3) := by decide +kernel
theorem dX5_relay_113 : decode cX5_relay 113 = .ok (.ireturn, 1) := by decide +kernel
theorem dX5_relay_114 : decode cX5_relay 114 = .ok (.aload_n 0, 1) := by decide +kernel
theorem dX5_relay_115 : decode cX5_relay 115 = .ok (.getfield 12, 3) := by decide +kernel
theorem dX5_relay_118 : decode cX5_relay 118 = .ok (.getfield 124, 3) := by decide +kernel
theorem dX5_relay_121 : decode cX5_relay 121 = .ok (.iload_n 1, 1) := by decide +kernel
theorem dX5_relay_122 : decode cX5_relay 122 = .ok (.invokestatic 127, 3) := by decide +kernel
theorem dX5_relay_125 : decode cX5_relay 125 = .ok (.ireturn, 1) := by decide +kernel
theorem dX5_relay_126 : decode cX5_relay 126 = .ok (.aload_n 0, 1) := by decide +kernel
theorem dX5_relay_127 : decode cX5_relay 127 = .ok (.getfield 12, 3) := by decide +kernel
theorem dX5_relay_130 : decode cX5_relay 130 = .ok (.iload_n 1, 1) := by decide +kernel
theorem dX5_relay_131 : decode cX5_relay 131 = .ok (.bipush 8, 2) := by decide +kernel
theorem dX5_relay_133 : decode cX5_relay 133 = .ok (.iload_n 1, 1) := by decide +kernel
theorem dX5_relay_134 : decode cX5_relay 134 = .ok (.iadd, 1) := by decide +kernel
theorem dX5_relay_135 : decode cX5_relay 135 = .ok (.invokevirtual 186, 3) := by decide +kernel
theorem dX5_relay_138 : decode cX5_relay 138 = .ok (.ifCond .eq 7, 3) := by decide +kernel
theorem dX5_relay_141 : decode cX5_relay 141 = .ok (.iconst 1, 1) := by decide +kernel
theorem dX5_relay_142 : decode cX5_relay 142 = .ok (.goto 4, 3) := by decide +kernel
theorem dX5_relay_145 : decode cX5_relay 145 = .ok (.iconst 0, 1) := by decide +kernel
theorem dX5_relay_146 : decode cX5_relay 146 = .ok (.ireturn, 1) := by decide +kernel
theorem dX5_relay_147 : decode cX5_relay 147 = .ok (.aload_n 0, 1) := by decide +kernel
theorem dX5_relay_148 : decode cX5_relay 148 = .ok (.getfield 12, 3) := by decide +kernel
theorem dX5_relay_151 : decode cX5_relay 151 = .ok (.iload_n 1, 1) := by decide +kernel
theorem dX5_relay_152 : decode cX5_relay 152 = .ok (.aload_n 0, 1) := by decide +kernel
theorem dX5_relay_153 : decode cX5_relay 153 = .ok (.getfield 12, 3) := by decide +kernel
theorem dX5_relay_156 : decode cX5_relay 156 = .ok (.invokevirtual 189, 3) := by decide +kernel
theorem dX5_relay_159 : decode cX5_relay 159 = .ok (.invokevirtual 192, 3) := by decide +kernel
theorem dX5_relay_162 : decode cX5_relay 162 = .ok (.ifCond .eq 7, 3) := by decide +kernel
theorem dX5_relay_165 : decode cX5_relay 165 = .ok (.iconst 1, 1) := by decide +kernel
theorem dX5_relay_166 : decode cX5_relay 166 = .ok (.goto 4, 3) := by decide +kernel
theorem dX5_relay_169 : decode cX5_relay 169 = .ok (.iconst 0, 1) := by decide +kernel
theorem dX5_relay_170 : decode cX5_relay 170 = .ok (.ireturn, 1) := by decide +kernel
theorem dX5_relay_171 : decode cX5_relay 171 = .ok (.iconst (-1), 1) := by decide +kernel
theorem dX5_relay_172 : decode cX5_relay 172 = .ok (.ireturn, 1) := by decide +kernel
theorem dX5_condition_0 : decode cX5_condition 0 = .ok (.aload_n 0, 1) := by decide +kernel
theorem dX5_condition_1 : decode cX5_condition 1 = .ok (.getfield 12, 3) := by decide +kernel
theorem dX5_condition_4 : decode cX5_condition 4 = .ok (.iload_n 1, 1) := by decide +kernel
theorem dX5_condition_5 : decode cX5_condition 5 = .ok (.invokevirtual 59, 3) := by decide +kernel
theorem dX5_condition_8 : decode cX5_condition 8 = .ok (.ifCond .eq 21, 3) := by decide +kernel
theorem dX5_condition_11 : decode cX5_condition 11 = .ok (.iload_n 2, 1) := by decide +kernel
theorem dX5_condition_12 : decode cX5_condition 12 = .ok (.iconst 0, 1) := by decide +kernel
theorem dX5_condition_13 : decode cX5_condition 13 = .ok (.aload_n 0, 1) := by decide +kernel
theorem dX5_condition_14 : decode cX5_condition 14 = .ok (.getfield 12, 3) := by decide +kernel
theorem dX5_condition_17 : decode cX5_condition 17 = .ok (.iload_n 1, 1) := by decide +kernel
theorem dX5_condition_18 : decode cX5_condition 18 = .ok (.invokevirtual 67, 3) := by decide +kernel
theorem dX5_condition_21 : decode cX5_condition 21 = .ok (.iconst 1, 1) := by decide +kernel
theorem dX5_condition_22 : decode cX5_condition 22 = .ok (.isub, 1) := by decide +kernel
theorem dX5_condition_23 : decode cX5_condition 23 = .ok (.invokestatic 71, 3) := by decide +kernel
theorem dX5_condition_26 : decode cX5_condition 26 = .ok (.ifCond .ne 5, 3) := by decide +kernel
theorem dX5_condition_29 : decode cX5_condition 29 = .ok (.iconst (-1), 1) := by decide +kernel
theorem dX5_condition_30 : decode cX5_condition 30 = .ok (.ireturn, 1) := by decide +kernel
theorem dX5_condition_31 : decode cX5_condition 31 = .ok (.iload_n 3, 1) := by decide +kernel
theorem dX5_condition_32 : decode cX5_condition 32 = .ok (.iconst 0, 1) := by decide +kernel
theorem dX5_condition_33 : decode cX5_condition 33 = .ok (.bipush 15, 2) := by decide +kernel
theorem dX5_condition_35 : decode cX5_condition 35 = .ok (.invokestatic 71, 3) := by decide +kernel
theorem dX5_condition_38 : decode cX5_condition 38 = .ok (.ifCond .ne 5, 3) := by decide +kernel
theorem dX5_condition_41 : decode cX5_condition 41 = .ok (.iconst (-1), 1) := by decide +kernel
theorem dX5_condition_42 : decode cX5_condition 42 = .ok (.ireturn, 1) := by decide +kernel
theorem dX5_condition_43 : decode cX5_condition 43 = .ok (.aload_n 0, 1) := by decide +kernel
theorem dX5_condition_44 : decode cX5_condition 44 = .ok (.getfield 12, 3) := by decide +kernel
theorem dX5_condition_47 : decode cX5_condition 47 = .ok (.iload_n 1, 1) := by decide +kernel
theorem dX5_condition_48 : decode cX5_condition 48 = .ok (.iload_n 2, 1) := by decide +kernel
theorem dX5_condition_49 : decode cX5_condition 49 = .ok (.invokevirtual 195, 3) := by decide +kernel
theorem dX5_condition_52 : decode cX5_condition 52 = .ok (.iload_n 3, 1) := by decide +kernel
theorem dX5_condition_53 : decode cX5_condition 53 = .ok (.invokestatic 198, 3) := by decide +kernel
theorem dX5_condition_56 : decode cX5_condition 56 = .ok (.ireturn, 1) := by decide +kernel
theorem dX5_event_0 : decode cX5_event 0 = .ok (.iload_n 1, 1) := by decide +kernel
theorem dX5_event_1 : decode cX5_event 1 = .ok (.ifCond .lt 12, 3) := by decide +kernel
theorem dX5_event_4 : decode cX5_event 4 = .ok (.iload_n 2, 1) := by decide +kernel
theorem dX5_event_5 : decode cX5_event 5 = .ok (.iconst 0, 1) := by decide +kernel
theorem dX5_event_6 : decode cX5_event 6 = .ok (.iconst 2, 1) := by decide +kernel
theorem dX5_event_7 : decode cX5_event 7 = .ok (.invokestatic 71, 3) := by decide +kernel
theorem dX5_event_10 : decode cX5_event 10 = .ok (.ifCond .ne 5, 3) := by decide +kernel
theorem dX5_event_13 : decode cX5_event 13 = .ok (.iconst (-1), 1) := by decide +kernel
theorem dX5_event_14 : decode cX5_event 14 = .ok (.ireturn, 1) := by decide +kernel
theorem dX5_event_15 : decode cX5_event 15 = .ok (.aload_n 0, 1) := by decide +kernel
theorem dX5_event_16 : decode cX5_event 16 = .ok (.getfield 12, 3) := by decide +kernel
theorem dX5_event_19 : decode cX5_event 19 = .ok (.iload_n 1, 1) := by decide +kernel
theorem dX5_event_20 : decode cX5_event 20 = .ok (.invokevirtual 203, 3) := by decide +kernel
theorem dX5_event_23 : decode cX5_event 23 = .ok (.istore_n 3, 1) := by decide +kernel
theorem dX5_event_24 : decode cX5_event 24 = .ok (.iload_n 3, 1) := by decide +kernel
theorem dX5_event_25 : decode cX5_event 25 = .ok (.iconst (-1), 1) := by decide +kernel
theorem dX5_event_26 : decode cX5_event 26 = .ok (.if_icmp .ne 6, 3) := by decide +kernel
theorem dX5_event_29 : decode cX5_event 29 = .ok (.bipush (-9), 2) := by decide +kernel
theorem dX5_event_31 : decode cX5_event 31 = .ok (.ireturn, 1) := by decide +kernel
theorem dX5_event_32 : decode cX5_event 32 = .ok (.iload_n 2, 1) := by decide +kernel
theorem dX5_event_33 : decode cX5_event 33 = .ok (.lookupswitch 44 #[(0, 27), (1, 39)], 27) := by decide +kernel
theorem dX5_event_60 : decode cX5_event 60 = .ok (.aload_n 0, 1) := by decide +kernel
theorem dX5_event_61 : decode cX5_event 61 = .ok (.getfield 12, 3) := by decide +kernel
theorem dX5_event_64 : decode cX5_event 64 = .ok (.getfield 206, 3) := by decide +kernel
theorem dX5_event_67 : decode cX5_event 67 = .ok (.iload_n 3, 1) := by decide +kernel
theorem dX5_event_68 : decode cX5_event 68 = .ok (.invokestatic 176, 3) := by decide +kernel
theorem dX5_event_71 : decode cX5_event 71 = .ok (.ireturn, 1) := by decide +kernel
theorem dX5_event_72 : decode cX5_event 72 = .ok (.iload_n 3, 1) := by decide +kernel
theorem dX5_event_73 : decode cX5_event 73 = .ok (.invokestatic 141, 3) := by decide +kernel
theorem dX5_event_76 : decode cX5_event 76 = .ok (.ireturn, 1) := by decide +kernel
theorem dX5_event_77 : decode cX5_event 77 = .ok (.aload_n 0, 1) := by decide +kernel
theorem dX5_event_78 : decode cX5_event 78 = .ok (.getfield 12, 3) := by decide +kernel
theorem dX5_event_81 : decode cX5_event 81 = .ok (.iload_n 3, 1) := by decide +kernel
theorem dX5_event_82 : decode cX5_event 82 = .ok (.invokevirtual 134, 3) := by decide +kernel
theorem dX5_event_85 : decode cX5_event 85 = .ok (.ireturn, 1) := by decide +kernel
theorem dX5_outcome_0 : decode cX5_outcome 0 = .ok (.iload_n 1, 1) := by decide +kernel
theorem dX5_outcome_1 : decode cX5_outcome 1 = .ok (.iconst 0, 1) := by decide +kernel
theorem dX5_outcome_2 : decode cX5_outcome 2 = .ok (.iconst 1, 1) := by decide +kernel
theorem dX5_outcome_3 : decode cX5_outcome 3 = .ok (.invokestatic 71, 3) := by decide +kernel
theorem dX5_outcome_6 : decode cX5_outcome 6 = .ok (.ifCond .eq 14, 3) := by decide +kernel
theorem dX5_outcome_9 : decode cX5_outcome 9 = .ok (.iload_n 2, 1) := by decide +kernel
theorem dX5_outcome_10 : decode cX5_outcome 10 = .ok (.iconst 1, 1) := by decide +kernel
theorem dX5_outcome_11 : decode cX5_outcome 11 = .ok (.sipush 200, 3) := by decide +kernel
theorem dX5_outcome_14 : decode cX5_outcome 14 = .ok (.invokestatic 71, 3) := by decide +kernel
theorem dX5_outcome_17 : decode cX5_outcome 17 = .ok (.ifCond .ne 5, 3) := by decide +kernel
theorem dX5_outcome_20 : decode cX5_outcome 20 = .ok (.iconst (-1), 1) := by decide +kernel
theorem dX5_outcome_21 : decode cX5_outcome 21 = .ok (.ireturn, 1) := by decide +kernel
theorem dX5_outcome_22 : decode cX5_outcome 22 = .ok (.aload_n 0, 1) := by decide +kernel
theorem dX5_outcome_23 : decode cX5_outcome 23 = .ok (.aload_n 0, 1) := by decide +kernel
theorem dX5_outcome_24 : decode cX5_outcome 24 = .ok (.getfield 12, 3) := by decide +kernel
theorem dX5_outcome_27 : decode cX5_outcome 27 = .ok (.iload_n 2, 1) := by decide +kernel
theorem dX5_outcome_28 : decode cX5_outcome 28 = .ok (.iload_n 1, 1) := by decide +kernel
theorem dX5_outcome_29 : decode cX5_outcome 29 = .ok (.iconst 1, 1) := by decide +kernel
theorem dX5_outcome_30 : decode cX5_outcome 30 = .ok (.if_icmp .ne 7, 3) := by decide +kernel
theorem dX5_outcome_33 : decode cX5_outcome 33 = .ok (.iconst 1, 1) := by decide +kernel
theorem dX5_outcome_34 : decode cX5_outcome 34 = .ok (.goto 4, 3) := by decide +kernel
theorem dX5_outcome_37 : decode cX5_outcome 37 = .ok (.iconst 0, 1) := by decide +kernel
theorem dX5_outcome_38 : decode cX5_outcome 38 = .ok (.invokevirtual 209, 3) := by decide +kernel
theorem dX5_outcome_41 : decode cX5_outcome 41 = .ok (.ireturn, 1) := by decide +kernel
theorem dX5_isRace_0 : decode cX5_isRace 0 = .ok (.aload_n 0, 1) := by decide +kernel
theorem dX5_isRace_1 : decode cX5_isRace 1 = .ok (.aload_n 0, 1) := by decide +kernel
theorem dX5_isRace_2 : decode cX5_isRace 2 = .ok (.getfield 12, 3) := by decide +kernel
theorem dX5_isRace_5 : decode cX5_isRace 5 = .ok (.invokevirtual 213, 3) := by decide +kernel
theorem dX5_isRace_8 : decode cX5_isRace 8 = .ok (.ireturn, 1) := by decide +kernel
theorem dX5_undo_0 : decode cX5_undo 0 = .ok (.aload_n 0, 1) := by decide +kernel
theorem dX5_undo_1 : decode cX5_undo 1 = .ok (.getfield 19, 3) := by decide +kernel
theorem dX5_undo_4 : decode cX5_undo 4 = .ok (.aload_n 0, 1) := by decide +kernel
theorem dX5_undo_5 : decode cX5_undo 5 = .ok (.getfield 12, 3) := by decide +kernel
theorem dX5_undo_8 : decode cX5_undo 8 = .ok (.invokevirtual 224, 3) := by decide +kernel
theorem dX5_undo_11 : decode cX5_undo 11 = .ok (.ifCond .eq 13, 3) := by decide +kernel
theorem dX5_undo_14 : decode cX5_undo 14 = .ok (.aload_n 0, 1) := by decide +kernel
theorem dX5_undo_15 : decode cX5_undo 15 = .ok (.getfield 19, 3) := by decide +kernel
theorem dX5_undo_18 : decode cX5_undo 18 = .ok (.getfield 172, 3) := by decide +kernel
theorem dX5_undo_21 : decode cX5_undo 21 = .ok (.goto 5, 3) := by decide +kernel
theorem dX5_undo_24 : decode cX5_undo 24 = .ok (.bipush (-2), 2) := by decide +kernel
theorem dX5_undo_26 : decode cX5_undo 26 = .ok (.ireturn, 1) := by decide +kernel
theorem dX5_endingOf_0 : decode cX5_endingOf 0 = .ok (.aload_n 0, 1) := by decide +kernel
theorem dX5_endingOf_1 : decode cX5_endingOf 1 = .ok (.getfield 40, 3) := by decide +kernel
theorem dX5_endingOf_4 : decode cX5_endingOf 4 = .ok (.aload_n 1, 1) := by decide +kernel
theorem dX5_endingOf_5 : decode cX5_endingOf 5 = .ok (.invokevirtual 153, 3) := by decide +kernel
theorem dX5_endingOf_8 : decode cX5_endingOf 8 = .ok (.aload_n 0, 1) := by decide +kernel
theorem dX5_endingOf_9 : decode cX5_endingOf 9 = .ok (.getfield 40, 3) := by decide +kernel
theorem dX5_endingOf_12 : decode cX5_endingOf 12 = .ok (.iload_n 2, 1) := by decide +kernel
theorem dX5_endingOf_13 : decode cX5_endingOf 13 = .ok (.ldc 144, 2) := by decide +kernel
theorem dX5_endingOf_15 : decode cX5_endingOf 15 = .ok (.iload_n 3, 1) := by decide +kernel
theorem dX5_endingOf_16 : decode cX5_endingOf 16 = .ok (.invokevirtual 145, 3) := by decide +kernel
theorem dX5_endingOf_19 : decode cX5_endingOf 19 = .ok (.pop, 1) := by decide +kernel
theorem dX5_endingOf_20 : decode cX5_endingOf 20 = .ok (.aload_n 0, 1) := by decide +kernel
theorem dX5_endingOf_21 : decode cX5_endingOf 21 = .ok (.getfield 40, 3) := by decide +kernel
theorem dX5_endingOf_24 : decode cX5_endingOf 24 = .ok (.getfield 163, 3) := by decide +kernel
theorem dX5_endingOf_27 : decode cX5_endingOf 27 = .ok (.aload_n 0, 1) := by decide +kernel
theorem dX5_endingOf_28 : decode cX5_endingOf 28 = .ok (.getfield 40, 3) := by decide +kernel
theorem dX5_endingOf_31 : decode cX5_endingOf 31 = .ok (.invokevirtual 217, 3) := by decide +kernel
theorem dX5_endingOf_34 : decode cX5_endingOf 34 = .ok (.ifCond .eq 9, 3) := by decide +kernel
theorem dX5_endingOf_37 : decode cX5_endingOf 37 = .ok (.sipush 256, 3) := by decide +kernel
theorem dX5_endingOf_40 : decode cX5_endingOf 40 = .ok (.goto 4, 3) := by decide +kernel
theorem dX5_endingOf_43 : decode cX5_endingOf 43 = .ok (.iconst 0, 1) := by decide +kernel
theorem dX5_endingOf_44 : decode cX5_endingOf 44 = .ok (.iadd, 1) := by decide +kernel
theorem dX5_endingOf_45 : decode cX5_endingOf 45 = .ok (.ireturn, 1) := by decide +kernel
theorem dX5_raceIn_0 : decode cX5_raceIn 0 = .ok (.aload_n 0, 1) := by decide +kernel
theorem dX5_raceIn_1 : decode cX5_raceIn 1 = .ok (.aload_n 1, 1) := by decide +kernel
theorem dX5_raceIn_2 : decode cX5_raceIn 2 = .ok (.sipush 200, 3) := by decide +kernel
theorem dX5_raceIn_5 : decode cX5_raceIn 5 = .ok (.iconst 0, 1) := by decide +kernel
theorem dX5_raceIn_6 : decode cX5_raceIn 6 = .ok (.invokevirtual 209, 3) := by decide +kernel
theorem dX5_raceIn_9 : decode cX5_raceIn 9 = .ok (.istore_n 2, 1) := by decide +kernel
theorem dX5_raceIn_10 : decode cX5_raceIn 10 = .ok (.iload_n 2, 1) := by decide +kernel
theorem dX5_raceIn_11 : decode cX5_raceIn 11 = .ok (.aload_n 0, 1) := by decide +kernel
theorem dX5_raceIn_12 : decode cX5_raceIn 12 = .ok (.aload_n 1, 1) := by decide +kernel
theorem dX5_raceIn_13 : decode cX5_raceIn 13 = .ok (.sipush 200, 3) := by decide +kernel
theorem dX5_raceIn_16 : decode cX5_raceIn 16 = .ok (.iconst 1, 1) := by decide +kernel
theorem dX5_raceIn_17 : decode cX5_raceIn 17 = .ok (.invokevirtual 209, 3) := by decide +kernel
theorem dX5_raceIn_20 : decode cX5_raceIn 20 = .ok (.if_icmp .eq 7, 3) := by decide +kernel
theorem dX5_raceIn_23 : decode cX5_raceIn 23 = .ok (.iconst 1, 1) := by decide +kernel
theorem dX5_raceIn_24 : decode cX5_raceIn 24 = .ok (.goto 4, 3) := by decide +kernel
theorem dX5_raceIn_27 : decode cX5_raceIn 27 = .ok (.iconst 0, 1) := by decide +kernel
theorem dX5_raceIn_28 : decode cX5_raceIn 28 = .ok (.ireturn, 1) := by decide +kernel
theorem dX5_isKey_0 : decode cX5_isKey 0 = .ok (.iload_n 0, 1) := by decide +kernel
theorem dX5_isKey_1 : decode cX5_isKey 1 = .ok (.iconst 0, 1) := by decide +kernel
theorem dX5_isKey_2 : decode cX5_isKey 2 = .ok (.bipush 7, 2) := by decide +kernel
theorem dX5_isKey_4 : decode cX5_isKey 4 = .ok (.invokestatic 71, 3) := by decide +kernel
theorem dX5_isKey_7 : decode cX5_isKey 7 = .ok (.ireturn, 1) := by decide +kernel
theorem dX5_areDelays_0 : decode cX5_areDelays 0 = .ok (.iload_n 0, 1) := by decide +kernel
theorem dX5_areDelays_1 : decode cX5_areDelays 1 = .ok (.iconst 1, 1) := by decide +kernel
theorem dX5_areDelays_2 : decode cX5_areDelays 2 = .ok (.bipush 20, 2) := by decide +kernel
theorem dX5_areDelays_4 : decode cX5_areDelays 4 = .ok (.invokestatic 71, 3) := by decide +kernel
theorem dX5_areDelays_7 : decode cX5_areDelays 7 = .ok (.ifCond .eq 26, 3) := by decide +kernel
theorem dX5_areDelays_10 : decode cX5_areDelays 10 = .ok (.iload_n 1, 1) := by decide +kernel
theorem dX5_areDelays_11 : decode cX5_areDelays 11 = .ok (.iconst 1, 1) := by decide +kernel
theorem dX5_areDelays_12 : decode cX5_areDelays 12 = .ok (.bipush 20, 2) := by decide +kernel
theorem dX5_areDelays_14 : decode cX5_areDelays 14 = .ok (.invokestatic 71, 3) := by decide +kernel
theorem dX5_areDelays_17 : decode cX5_areDelays 17 = .ok (.ifCond .eq 16, 3) := by decide +kernel
theorem dX5_areDelays_20 : decode cX5_areDelays 20 = .ok (.iload_n 2, 1) := by decide +kernel
theorem dX5_areDelays_21 : decode cX5_areDelays 21 = .ok (.iconst 0, 1) := by decide +kernel
theorem dX5_areDelays_22 : decode cX5_areDelays 22 = .ok (.iconst 5, 1) := by decide +kernel
theorem dX5_areDelays_23 : decode cX5_areDelays 23 = .ok (.invokestatic 71, 3) := by decide +kernel
theorem dX5_areDelays_26 : decode cX5_areDelays 26 = .ok (.ifCond .eq 7, 3) := by decide +kernel
theorem dX5_areDelays_29 : decode cX5_areDelays 29 = .ok (.iconst 1, 1) := by decide +kernel
theorem dX5_areDelays_30 : decode cX5_areDelays 30 = .ok (.goto 4, 3) := by decide +kernel
theorem dX5_areDelays_33 : decode cX5_areDelays 33 = .ok (.iconst 0, 1) := by decide +kernel
theorem dX5_areDelays_34 : decode cX5_areDelays 34 = .ok (.ireturn, 1) := by decide +kernel
theorem dX5_isWithin_0 : decode cX5_isWithin 0 = .ok (.iload_n 1, 1) := by decide +kernel
theorem dX5_isWithin_1 : decode cX5_isWithin 1 = .ok (.iload_n 0, 1) := by decide +kernel
theorem dX5_isWithin_2 : decode cX5_isWithin 2 = .ok (.if_icmp .gt 12, 3) := by decide +kernel
theorem dX5_isWithin_5 : decode cX5_isWithin 5 = .ok (.iload_n 0, 1) := by decide +kernel
theorem dX5_isWithin_6 : decode cX5_isWithin 6 = .ok (.iload_n 2, 1) := by decide +kernel
theorem dX5_isWithin_7 : decode cX5_isWithin 7 = .ok (.if_icmp .gt 7, 3) := by decide +kernel
theorem dX5_isWithin_10 : decode cX5_isWithin 10 = .ok (.iconst 1, 1) := by decide +kernel
theorem dX5_isWithin_11 : decode cX5_isWithin 11 = .ok (.goto 4, 3) := by decide +kernel
theorem dX5_isWithin_14 : decode cX5_isWithin 14 = .ok (.iconst 0, 1) := by decide +kernel
theorem dX5_isWithin_15 : decode cX5_isWithin 15 = .ok (.ireturn, 1) := by decide +kernel
theorem dX5_bitOf_0 : decode cX5_bitOf 0 = .ok (.iload_n 0, 1) := by decide +kernel
theorem dX5_bitOf_1 : decode cX5_bitOf 1 = .ok (.iload_n 1, 1) := by decide +kernel
theorem dX5_bitOf_2 : decode cX5_bitOf 2 = .ok (.iushr, 1) := by decide +kernel
theorem dX5_bitOf_3 : decode cX5_bitOf 3 = .ok (.iconst 1, 1) := by decide +kernel
theorem dX5_bitOf_4 : decode cX5_bitOf 4 = .ok (.iand, 1) := by decide +kernel
theorem dX5_bitOf_5 : decode cX5_bitOf 5 = .ok (.ireturn, 1) := by decide +kernel
theorem dX5_isIn_0 : decode cX5_isIn 0 = .ok (.iload_n 0, 1) := by decide +kernel
theorem dX5_isIn_1 : decode cX5_isIn 1 = .ok (.iload_n 1, 1) := by decide +kernel
theorem dX5_isIn_2 : decode cX5_isIn 2 = .ok (.iushr, 1) := by decide +kernel
theorem dX5_isIn_3 : decode cX5_isIn 3 = .ok (.iconst 1, 1) := by decide +kernel
theorem dX5_isIn_4 : decode cX5_isIn 4 = .ok (.iand, 1) := by decide +kernel
theorem dX5_isIn_5 : decode cX5_isIn 5 = .ok (.iconst 1, 1) := by decide +kernel
theorem dX5_isIn_6 : decode cX5_isIn 6 = .ok (.if_icmp .ne 7, 3) := by decide +kernel
theorem dX5_isIn_9 : decode cX5_isIn 9 = .ok (.iconst 1, 1) := by decide +kernel
theorem dX5_isIn_10 : decode cX5_isIn 10 = .ok (.goto 4, 3) := by decide +kernel
theorem dX5_isIn_13 : decode cX5_isIn 13 = .ok (.iconst 0, 1) := by decide +kernel
theorem dX5_isIn_14 : decode cX5_isIn 14 = .ok (.ireturn, 1) := by decide +kernel
theorem dX5_at_0 : decode cX5_at 0 = .ok (.iconst 0, 1) := by decide +kernel
theorem dX5_at_1 : decode cX5_at 1 = .ok (.iload_n 1, 1) := by decide +kernel
theorem dX5_at_2 : decode cX5_at 2 = .ok (.if_icmp .gt 15, 3) := by decide +kernel
theorem dX5_at_5 : decode cX5_at 5 = .ok (.iload_n 1, 1) := by decide +kernel
theorem dX5_at_6 : decode cX5_at 6 = .ok (.aload_n 0, 1) := by decide +kernel
theorem dX5_at_7 : decode cX5_at 7 = .ok (.arraylength, 1) := by decide +kernel
theorem dX5_at_8 : decode cX5_at 8 = .ok (.if_icmp .ge 9, 3) := by decide +kernel
theorem dX5_at_11 : decode cX5_at 11 = .ok (.aload_n 0, 1) := by decide +kernel
theorem dX5_at_12 : decode cX5_at 12 = .ok (.iload_n 1, 1) := by decide +kernel
theorem dX5_at_13 : decode cX5_at 13 = .ok (.iaload, 1) := by decide +kernel
theorem dX5_at_14 : decode cX5_at 14 = .ok (.goto 4, 3) := by decide +kernel
theorem dX5_at_17 : decode cX5_at 17 = .ok (.iconst 0, 1) := by decide +kernel
theorem dX5_at_18 : decode cX5_at 18 = .ok (.ireturn, 1) := by decide +kernel
theorem dX5_put_0 : decode cX5_put 0 = .ok (.iconst 0, 1) := by decide +kernel
theorem dX5_put_1 : decode cX5_put 1 = .ok (.iload_n 1, 1) := by decide +kernel
theorem dX5_put_2 : decode cX5_put 2 = .ok (.if_icmp .gt 13, 3) := by decide +kernel
theorem dX5_put_5 : decode cX5_put 5 = .ok (.iload_n 1, 1) := by decide +kernel
theorem dX5_put_6 : decode cX5_put 6 = .ok (.aload_n 0, 1) := by decide +kernel
theorem dX5_put_7 : decode cX5_put 7 = .ok (.arraylength, 1) := by decide +kernel
theorem dX5_put_8 : decode cX5_put 8 = .ok (.if_icmp .ge 7, 3) := by decide +kernel
theorem dX5_put_11 : decode cX5_put 11 = .ok (.aload_n 0, 1) := by decide +kernel
theorem dX5_put_12 : decode cX5_put 12 = .ok (.iload_n 1, 1) := by decide +kernel
theorem dX5_put_13 : decode cX5_put 13 = .ok (.iload_n 2, 1) := by decide +kernel
theorem dX5_put_14 : decode cX5_put 14 = .ok (.iastore, 1) := by decide +kernel
theorem dX5_put_15 : decode cX5_put 15 = .ok (.return_, 1) := by decide +kernel
end
section
theorem dL_cell_0 : decode cL_cell 0 = .ok (.iload_n 1, 1) := by decide +kernel
theorem dL_cell_1 : decode cL_cell 1 = .ok (.aload_n 0, 1) := by decide +kernel
theorem dL_cell_2 : decode cL_cell 2 = .ok (.arraylength, 1) := by decide +kernel
theorem dL_cell_3 : decode cL_cell 3 = .ok (.if_icmp .ge 9, 3) := by decide +kernel
theorem dL_cell_6 : decode cL_cell 6 = .ok (.aload_n 0, 1) := by decide +kernel
theorem dL_cell_7 : decode cL_cell 7 = .ok (.iload_n 1, 1) := by decide +kernel
theorem dL_cell_8 : decode cL_cell 8 = .ok (.iaload, 1) := by decide +kernel
theorem dL_cell_9 : decode cL_cell 9 = .ok (.goto 15, 3) := by decide +kernel
theorem dL_cell_12 : decode cL_cell 12 = .ok (.sipush 7919, 3) := by decide +kernel
theorem dL_cell_15 : decode cL_cell 15 = .ok (.iload_n 1, 1) := by decide +kernel
theorem dL_cell_16 : decode cL_cell 16 = .ok (.iconst 3, 1) := by decide +kernel
theorem dL_cell_17 : decode cL_cell 17 = .ok (.iadd, 1) := by decide +kernel
theorem dL_cell_18 : decode cL_cell 18 = .ok (.imul, 1) := by decide +kernel
theorem dL_cell_19 : decode cL_cell 19 = .ok (.iload_n 1, 1) := by decide +kernel
theorem dL_cell_20 : decode cL_cell 20 = .ok (.bipush 11, 2) := by decide +kernel
theorem dL_cell_22 : decode cL_cell 22 = .ok (.iadd, 1) := by decide +kernel
theorem dL_cell_23 : decode cL_cell 23 = .ok (.imul, 1) := by decide +kernel
theorem dL_cell_24 : decode cL_cell 24 = .ok (.ireturn, 1) := by decide +kernel
theorem dL_low_0 : decode cL_low 0 = .ok (.iload_n 0, 1) := by decide +kernel
theorem dL_low_1 : decode cL_low 1 = .ok (.ldc 7, 2) := by decide +kernel
theorem dL_low_3 : decode cL_low 3 = .ok (.iand, 1) := by decide +kernel
theorem dL_low_4 : decode cL_low 4 = .ok (.iload_n 1, 1) := by decide +kernel
theorem dL_low_5 : decode cL_low 5 = .ok (.irem, 1) := by decide +kernel
theorem dL_low_6 : decode cL_low 6 = .ok (.ireturn, 1) := by decide +kernel
theorem dL_tale_0 : decode cL_tale 0 = .ok (.ldc2_w 8, 3) := by decide +kernel
theorem dL_tale_3 : decode cL_tale 3 = .ok (.lstore_n 1, 1) := by decide +kernel
theorem dL_tale_4 : decode cL_tale 4 = .ok (.iconst 0, 1) := by decide +kernel
theorem dL_tale_5 : decode cL_tale 5 = .ok (.istore_n 3, 1) := by decide +kernel
theorem dL_tale_6 : decode cL_tale 6 = .ok (.iload_n 3, 1) := by decide +kernel
theorem dL_tale_7 : decode cL_tale 7 = .ok (.bipush 9, 2) := by decide +kernel
theorem dL_tale_9 : decode cL_tale 9 = .ok (.if_icmp .ge 22, 3) := by decide +kernel
theorem dL_tale_12 : decode cL_tale 12 = .ok (.lload_n 1, 1) := by decide +kernel
theorem dL_tale_13 : decode cL_tale 13 = .ok (.ldc2_w 10, 3) := by decide +kernel
theorem dL_tale_16 : decode cL_tale 16 = .ok (.lmul, 1) := by decide +kernel
theorem dL_tale_17 : decode cL_tale 17 = .ok (.aload_n 0, 1) := by decide +kernel
theorem dL_tale_18 : decode cL_tale 18 = .ok (.iload_n 3, 1) := by decide +kernel
theorem dL_tale_19 : decode cL_tale 19 = .ok (.invokevirtual 12, 3) := by decide +kernel
theorem dL_tale_22 : decode cL_tale 22 = .ok (.i2l, 1) := by decide +kernel
theorem dL_tale_23 : decode cL_tale 23 = .ok (.ladd, 1) := by decide +kernel
theorem dL_tale_24 : decode cL_tale 24 = .ok (.lstore_n 1, 1) := by decide +kernel
theorem dL_tale_25 : decode cL_tale 25 = .ok (.iinc 3 1, 3) := by decide +kernel
theorem dL_tale_28 : decode cL_tale 28 = .ok (.goto (-22), 3) := by decide +kernel
theorem dL_tale_31 : decode cL_tale 31 = .ok (.iconst 0, 1) := by decide +kernel
theorem dL_tale_32 : decode cL_tale 32 = .ok (.istore_n 3, 1) := by decide +kernel
theorem dL_tale_33 : decode cL_tale 33 = .ok (.iload_n 3, 1) := by decide +kernel
theorem dL_tale_34 : decode cL_tale 34 = .ok (.aload_n 0, 1) := by decide +kernel
theorem dL_tale_35 : decode cL_tale 35 = .ok (.iconst 0, 1) := by decide +kernel
theorem dL_tale_36 : decode cL_tale 36 = .ok (.invokevirtual 12, 3) := by decide +kernel
theorem dL_tale_39 : decode cL_tale 39 = .ok (.if_icmp .ge 89, 3) := by decide +kernel
theorem dL_tale_42 : decode cL_tale 42 = .ok (.iconst 0, 1) := by decide +kernel
theorem dL_tale_43 : decode cL_tale 43 = .ok (.istore 4, 2) := by decide +kernel
theorem dL_tale_45 : decode cL_tale 45 = .ok (.iload 4, 2) := by decide +kernel
theorem dL_tale_47 : decode cL_tale 47 = .ok (.bipush 8, 2) := by decide +kernel
theorem dL_tale_49 : decode cL_tale 49 = .ok (.if_icmp .ge 24, 3) := by decide +kernel
theorem dL_tale_52 : decode cL_tale 52 = .ok (.lload_n 1, 1) := by decide +kernel
theorem dL_tale_53 : decode cL_tale 53 = .ok (.ldc2_w 18, 3) := by decide +kernel
theorem dL_tale_56 : decode cL_tale 56 = .ok (.lmul, 1) := by decide +kernel
theorem dL_tale_57 : decode cL_tale 57 = .ok (.aload_n 0, 1) := by decide +kernel
theorem dL_tale_58 : decode cL_tale 58 = .ok (.iload_n 3, 1) := by decide +kernel
theorem dL_tale_59 : decode cL_tale 59 = .ok (.iload 4, 2) := by decide +kernel
theorem dL_tale_61 : decode cL_tale 61 = .ok (.invokevirtual 20, 3) := by decide +kernel
theorem dL_tale_64 : decode cL_tale 64 = .ok (.i2l, 1) := by decide +kernel
theorem dL_tale_65 : decode cL_tale 65 = .ok (.ladd, 1) := by decide +kernel
theorem dL_tale_66 : decode cL_tale 66 = .ok (.lstore_n 1, 1) := by decide +kernel
theorem dL_tale_67 : decode cL_tale 67 = .ok (.iinc 4 1, 3) := by decide +kernel
theorem dL_tale_70 : decode cL_tale 70 = .ok (.goto (-25), 3) := by decide +kernel
theorem dL_tale_73 : decode cL_tale 73 = .ok (.iconst 0, 1) := by decide +kernel
theorem dL_tale_74 : decode cL_tale 74 = .ok (.istore 4, 2) := by decide +kernel
theorem dL_tale_76 : decode cL_tale 76 = .ok (.iload 4, 2) := by decide +kernel
theorem dL_tale_78 : decode cL_tale 78 = .ok (.bipush 6, 2) := by decide +kernel
theorem dL_tale_80 : decode cL_tale 80 = .ok (.if_icmp .ge 42, 3) := by decide +kernel
theorem dL_tale_83 : decode cL_tale 83 = .ok (.iconst 0, 1) := by decide +kernel
theorem dL_tale_84 : decode cL_tale 84 = .ok (.istore 5, 2) := by decide +kernel
theorem dL_tale_86 : decode cL_tale 86 = .ok (.iload 5, 2) := by decide +kernel
theorem dL_tale_88 : decode cL_tale 88 = .ok (.bipush 16, 2) := by decide +kernel
theorem dL_tale_90 : decode cL_tale 90 = .ok (.if_icmp .ge 26, 3) := by decide +kernel
theorem dL_tale_93 : decode cL_tale 93 = .ok (.lload_n 1, 1) := by decide +kernel
theorem dL_tale_94 : decode cL_tale 94 = .ok (.ldc2_w 24, 3) := by decide +kernel
theorem dL_tale_97 : decode cL_tale 97 = .ok (.lmul, 1) := by decide +kernel
theorem dL_tale_98 : decode cL_tale 98 = .ok (.aload_n 0, 1) := by decide +kernel
theorem dL_tale_99 : decode cL_tale 99 = .ok (.iload_n 3, 1) := by decide +kernel
theorem dL_tale_100 : decode cL_tale 100 = .ok (.iload 4, 2) := by decide +kernel
theorem dL_tale_102 : decode cL_tale 102 = .ok (.iload 5, 2) := by decide +kernel
theorem dL_tale_104 : decode cL_tale 104 = .ok (.invokevirtual 26, 3) := by decide +kernel
theorem dL_tale_107 : decode cL_tale 107 = .ok (.i2l, 1) := by decide +kernel
theorem dL_tale_108 : decode cL_tale 108 = .ok (.ladd, 1) := by decide +kernel
theorem dL_tale_109 : decode cL_tale 109 = .ok (.lstore_n 1, 1) := by decide +kernel
theorem dL_tale_110 : decode cL_tale 110 = .ok (.iinc 5 3, 3) := by decide +kernel
theorem dL_tale_113 : decode cL_tale 113 = .ok (.goto (-27), 3) := by decide +kernel
theorem dL_tale_116 : decode cL_tale 116 = .ok (.iinc 4 1, 3) := by decide +kernel
theorem dL_tale_119 : decode cL_tale 119 = .ok (.goto (-43), 3) := by decide +kernel
theorem dL_tale_122 : decode cL_tale 122 = .ok (.iinc 3 1, 3) := by decide +kernel
theorem dL_tale_125 : decode cL_tale 125 = .ok (.goto (-92), 3) := by decide +kernel
theorem dL_tale_128 : decode cL_tale 128 = .ok (.iconst 0, 1) := by decide +kernel
theorem dL_tale_129 : decode cL_tale 129 = .ok (.istore_n 3, 1) := by decide +kernel
theorem dL_tale_130 : decode cL_tale 130 = .ok (.iload_n 3, 1) := by decide +kernel
theorem dL_tale_131 : decode cL_tale 131 = .ok (.bipush 6, 2) := by decide +kernel
theorem dL_tale_133 : decode cL_tale 133 = .ok (.if_icmp .ge 47, 3) := by decide +kernel
theorem dL_tale_136 : decode cL_tale 136 = .ok (.lload_n 1, 1) := by decide +kernel
theorem dL_tale_137 : decode cL_tale 137 = .ok (.ldc2_w 30, 3) := by decide +kernel
theorem dL_tale_140 : decode cL_tale 140 = .ok (.lmul, 1) := by decide +kernel
theorem dL_tale_141 : decode cL_tale 141 = .ok (.aload_n 0, 1) := by decide +kernel
theorem dL_tale_142 : decode cL_tale 142 = .ok (.iload_n 3, 1) := by decide +kernel
theorem dL_tale_143 : decode cL_tale 143 = .ok (.iconst 0, 1) := by decide +kernel
theorem dL_tale_144 : decode cL_tale 144 = .ok (.invokevirtual 32, 3) := by decide +kernel
theorem dL_tale_147 : decode cL_tale 147 = .ok (.i2l, 1) := by decide +kernel
theorem dL_tale_148 : decode cL_tale 148 = .ok (.ladd, 1) := by decide +kernel
theorem dL_tale_149 : decode cL_tale 149 = .ok (.ldc2_w 35, 3) := by decide +kernel
theorem dL_tale_152 : decode cL_tale 152 = .ok (.aload_n 0, 1) := by decide +kernel
theorem dL_tale_153 : decode cL_tale 153 = .ok (.iload_n 3, 1) := by decide +kernel
theorem dL_tale_154 : decode cL_tale 154 = .ok (.iconst 1, 1) := by decide +kernel
theorem dL_tale_155 : decode cL_tale 155 = .ok (.invokevirtual 32, 3) := by decide +kernel
theorem dL_tale_158 : decode cL_tale 158 = .ok (.i2l, 1) := by decide +kernel
theorem dL_tale_159 : decode cL_tale 159 = .ok (.lmul, 1) := by decide +kernel
theorem dL_tale_160 : decode cL_tale 160 = .ok (.ladd, 1) := by decide +kernel
theorem dL_tale_161 : decode cL_tale 161 = .ok (.ldc2_w 37, 3) := by decide +kernel
theorem dL_tale_164 : decode cL_tale 164 = .ok (.aload_n 0, 1) := by decide +kernel
theorem dL_tale_165 : decode cL_tale 165 = .ok (.iload_n 3, 1) := by decide +kernel
theorem dL_tale_166 : decode cL_tale 166 = .ok (.iconst 2, 1) := by decide +kernel
theorem dL_tale_167 : decode cL_tale 167 = .ok (.invokevirtual 32, 3) := by decide +kernel
theorem dL_tale_170 : decode cL_tale 170 = .ok (.i2l, 1) := by decide +kernel
theorem dL_tale_171 : decode cL_tale 171 = .ok (.lmul, 1) := by decide +kernel
theorem dL_tale_172 : decode cL_tale 172 = .ok (.ladd, 1) := by decide +kernel
theorem dL_tale_173 : decode cL_tale 173 = .ok (.lstore_n 1, 1) := by decide +kernel
theorem dL_tale_174 : decode cL_tale 174 = .ok (.iinc 3 1, 3) := by decide +kernel
theorem dL_tale_177 : decode cL_tale 177 = .ok (.goto (-47), 3) := by decide +kernel
theorem dL_tale_180 : decode cL_tale 180 = .ok (.lload_n 1, 1) := by decide +kernel
theorem dL_tale_181 : decode cL_tale 181 = .ok (.lreturn, 1) := by decide +kernel
theorem dL_does_0 : decode cL_does 0 = .ok (.iload_n 1, 1) := by decide +kernel
theorem dL_does_1 : decode cL_does 1 = .ok (.iconst 4, 1) := by decide +kernel
theorem dL_does_2 : decode cL_does 2 = .ok (.ishr, 1) := by decide +kernel
theorem dL_does_3 : decode cL_does 3 = .ok (.iconst 5, 1) := by decide +kernel
theorem dL_does_4 : decode cL_does 4 = .ok (.invokestatic 39, 3) := by decide +kernel
theorem dL_does_7 : decode cL_does 7 = .ok (.istore_n 2, 1) := by decide +kernel
theorem dL_does_8 : decode cL_does 8 = .ok (.iload_n 1, 1) := by decide +kernel
theorem dL_does_9 : decode cL_does 9 = .ok (.bipush 15, 2) := by decide +kernel
theorem dL_does_11 : decode cL_does 11 = .ok (.iand, 1) := by decide +kernel
theorem dL_does_12 : decode cL_does 12 = .ok (.tableswitch 274 0 13 #[72, 72, 107, 144, 144, 144, 175, 189, 189, 189, 208, 222, 244, 259], 72) := by decide +kernel
theorem dL_does_84 : decode cL_does 84 = .ok (.aload_n 0, 1) := by decide +kernel
theorem dL_does_85 : decode cL_does 85 = .ok (.iconst 1, 1) := by decide +kernel
theorem dL_does_86 : decode cL_does 86 = .ok (.iload_n 1, 1) := by decide +kernel
theorem dL_does_87 : decode cL_does 87 = .ok (.iconst 4, 1) := by decide +kernel
theorem dL_does_88 : decode cL_does 88 = .ok (.ishr, 1) := by decide +kernel
theorem dL_does_89 : decode cL_does 89 = .ok (.bipush 20, 2) := by decide +kernel
theorem dL_does_91 : decode cL_does 91 = .ok (.invokestatic 39, 3) := by decide +kernel
theorem dL_does_94 : decode cL_does 94 = .ok (.iadd, 1) := by decide +kernel
theorem dL_does_95 : decode cL_does 95 = .ok (.iconst 1, 1) := by decide +kernel
theorem dL_does_96 : decode cL_does 96 = .ok (.iload_n 1, 1) := by decide +kernel
theorem dL_does_97 : decode cL_does 97 = .ok (.bipush 9, 2) := by decide +kernel
theorem dL_does_99 : decode cL_does 99 = .ok (.ishr, 1) := by decide +kernel
theorem dL_does_100 : decode cL_does 100 = .ok (.bipush 20, 2) := by decide +kernel
theorem dL_does_102 : decode cL_does 102 = .ok (.invokestatic 39, 3) := by decide +kernel
theorem dL_does_105 : decode cL_does 105 = .ok (.iadd, 1) := by decide +kernel
theorem dL_does_106 : decode cL_does 106 = .ok (.iload_n 1, 1) := by decide +kernel
theorem dL_does_107 : decode cL_does 107 = .ok (.bipush 14, 2) := by decide +kernel
theorem dL_does_109 : decode cL_does 109 = .ok (.ishr, 1) := by decide +kernel
theorem dL_does_110 : decode cL_does 110 = .ok (.bipush 6, 2) := by decide +kernel
theorem dL_does_112 : decode cL_does 112 = .ok (.invokestatic 39, 3) := by decide +kernel
theorem dL_does_115 : decode cL_does 115 = .ok (.invokevirtual 44, 3) := by decide +kernel
theorem dL_does_118 : decode cL_does 118 = .ok (.ireturn, 1) := by decide +kernel
theorem dL_does_119 : decode cL_does 119 = .ok (.aload_n 0, 1) := by decide +kernel
theorem dL_does_120 : decode cL_does 120 = .ok (.iload_n 2, 1) := by decide +kernel
theorem dL_does_121 : decode cL_does 121 = .ok (.iconst 1, 1) := by decide +kernel
theorem dL_does_122 : decode cL_does 122 = .ok (.iload_n 1, 1) := by decide +kernel
theorem dL_does_123 : decode cL_does 123 = .ok (.bipush 7, 2) := by decide +kernel
theorem dL_does_125 : decode cL_does 125 = .ok (.ishr, 1) := by decide +kernel
theorem dL_does_126 : decode cL_does 126 = .ok (.bipush 20, 2) := by decide +kernel
theorem dL_does_128 : decode cL_does 128 = .ok (.invokestatic 39, 3) := by decide +kernel
theorem dL_does_131 : decode cL_does 131 = .ok (.iadd, 1) := by decide +kernel
theorem dL_does_132 : decode cL_does 132 = .ok (.iconst 1, 1) := by decide +kernel
theorem dL_does_133 : decode cL_does 133 = .ok (.iload_n 1, 1) := by decide +kernel
theorem dL_does_134 : decode cL_does 134 = .ok (.bipush 12, 2) := by decide +kernel
theorem dL_does_136 : decode cL_does 136 = .ok (.ishr, 1) := by decide +kernel
theorem dL_does_137 : decode cL_does 137 = .ok (.bipush 20, 2) := by decide +kernel
theorem dL_does_139 : decode cL_does 139 = .ok (.invokestatic 39, 3) := by decide +kernel
theorem dL_does_142 : decode cL_does 142 = .ok (.iadd, 1) := by decide +kernel
theorem dL_does_143 : decode cL_does 143 = .ok (.iload_n 1, 1) := by decide +kernel
theorem dL_does_144 : decode cL_does 144 = .ok (.bipush 17, 2) := by decide +kernel
theorem dL_does_146 : decode cL_does 146 = .ok (.ishr, 1) := by decide +kernel
theorem dL_does_147 : decode cL_does 147 = .ok (.bipush 6, 2) := by decide +kernel
theorem dL_does_149 : decode cL_does 149 = .ok (.invokestatic 39, 3) := by decide +kernel
theorem dL_does_152 : decode cL_does 152 = .ok (.invokevirtual 47, 3) := by decide +kernel
theorem dL_does_155 : decode cL_does 155 = .ok (.ireturn, 1) := by decide +kernel
theorem dL_does_156 : decode cL_does 156 = .ok (.aload_n 0, 1) := by decide +kernel
theorem dL_does_157 : decode cL_does 157 = .ok (.iload_n 2, 1) := by decide +kernel
theorem dL_does_158 : decode cL_does 158 = .ok (.iload_n 1, 1) := by decide +kernel
theorem dL_does_159 : decode cL_does 159 = .ok (.bipush 7, 2) := by decide +kernel
theorem dL_does_161 : decode cL_does 161 = .ok (.ishr, 1) := by decide +kernel
theorem dL_does_162 : decode cL_does 162 = .ok (.iconst 3, 1) := by decide +kernel
theorem dL_does_163 : decode cL_does 163 = .ok (.invokestatic 39, 3) := by decide +kernel
theorem dL_does_166 : decode cL_does 166 = .ok (.iload_n 1, 1) := by decide +kernel
theorem dL_does_167 : decode cL_does 167 = .ok (.bipush 9, 2) := by decide +kernel
theorem dL_does_169 : decode cL_does 169 = .ok (.ishr, 1) := by decide +kernel
theorem dL_does_170 : decode cL_does 170 = .ok (.bipush 14, 2) := by decide +kernel
theorem dL_does_172 : decode cL_does 172 = .ok (.invokestatic 39, 3) := by decide +kernel
theorem dL_does_175 : decode cL_does 175 = .ok (.iload_n 1, 1) := by decide +kernel
theorem dL_does_176 : decode cL_does 176 = .ok (.bipush 13, 2) := by decide +kernel
theorem dL_does_178 : decode cL_does 178 = .ok (.ishr, 1) := by decide +kernel
theorem dL_does_179 : decode cL_does 179 = .ok (.iconst 3, 1) := by decide +kernel
theorem dL_does_180 : decode cL_does 180 = .ok (.invokestatic 39, 3) := by decide +kernel
theorem dL_does_183 : decode cL_does 183 = .ok (.invokevirtual 51, 3) := by decide +kernel
theorem dL_does_186 : decode cL_does 186 = .ok (.ireturn, 1) := by decide +kernel
theorem dL_does_187 : decode cL_does 187 = .ok (.aload_n 0, 1) := by decide +kernel
theorem dL_does_188 : decode cL_does 188 = .ok (.iload_n 2, 1) := by decide +kernel
theorem dL_does_189 : decode cL_does 189 = .ok (.iload_n 1, 1) := by decide +kernel
theorem dL_does_190 : decode cL_does 190 = .ok (.bipush 7, 2) := by decide +kernel
theorem dL_does_192 : decode cL_does 192 = .ok (.ishr, 1) := by decide +kernel
theorem dL_does_193 : decode cL_does 193 = .ok (.iconst 3, 1) := by decide +kernel
theorem dL_does_194 : decode cL_does 194 = .ok (.invokestatic 39, 3) := by decide +kernel
theorem dL_does_197 : decode cL_does 197 = .ok (.invokevirtual 54, 3) := by decide +kernel
theorem dL_does_200 : decode cL_does 200 = .ok (.ireturn, 1) := by decide +kernel
theorem dL_does_201 : decode cL_does 201 = .ok (.aload_n 0, 1) := by decide +kernel
theorem dL_does_202 : decode cL_does 202 = .ok (.iload_n 1, 1) := by decide +kernel
theorem dL_does_203 : decode cL_does 203 = .ok (.iconst 4, 1) := by decide +kernel
theorem dL_does_204 : decode cL_does 204 = .ok (.ishr, 1) := by decide +kernel
theorem dL_does_205 : decode cL_does 205 = .ok (.bipush 6, 2) := by decide +kernel
theorem dL_does_207 : decode cL_does 207 = .ok (.invokestatic 39, 3) := by decide +kernel
theorem dL_does_210 : decode cL_does 210 = .ok (.iload_n 1, 1) := by decide +kernel
theorem dL_does_211 : decode cL_does 211 = .ok (.bipush 7, 2) := by decide +kernel
theorem dL_does_213 : decode cL_does 213 = .ok (.ishr, 1) := by decide +kernel
theorem dL_does_214 : decode cL_does 214 = .ok (.iconst 1, 1) := by decide +kernel
theorem dL_does_215 : decode cL_does 215 = .ok (.iand, 1) := by decide +kernel
theorem dL_does_216 : decode cL_does 216 = .ok (.invokevirtual 57, 3) := by decide +kernel
theorem dL_does_219 : decode cL_does 219 = .ok (.ireturn, 1) := by decide +kernel
theorem dL_does_220 : decode cL_does 220 = .ok (.aload_n 0, 1) := by decide +kernel
theorem dL_does_221 : decode cL_does 221 = .ok (.iload_n 2, 1) := by decide +kernel
theorem dL_does_222 : decode cL_does 222 = .ok (.iload_n 1, 1) := by decide +kernel
theorem dL_does_223 : decode cL_does 223 = .ok (.bipush 7, 2) := by decide +kernel
theorem dL_does_225 : decode cL_does 225 = .ok (.ishr, 1) := by decide +kernel
theorem dL_does_226 : decode cL_does 226 = .ok (.iconst 3, 1) := by decide +kernel
theorem dL_does_227 : decode cL_does 227 = .ok (.invokestatic 39, 3) := by decide +kernel
theorem dL_does_230 : decode cL_does 230 = .ok (.invokevirtual 60, 3) := by decide +kernel
theorem dL_does_233 : decode cL_does 233 = .ok (.ireturn, 1) := by decide +kernel
theorem dL_does_234 : decode cL_does 234 = .ok (.aload_n 0, 1) := by decide +kernel
theorem dL_does_235 : decode cL_does 235 = .ok (.iload_n 2, 1) := by decide +kernel
theorem dL_does_236 : decode cL_does 236 = .ok (.iload_n 1, 1) := by decide +kernel
theorem dL_does_237 : decode cL_does 237 = .ok (.bipush 7, 2) := by decide +kernel
theorem dL_does_239 : decode cL_does 239 = .ok (.ishr, 1) := by decide +kernel
theorem dL_does_240 : decode cL_does 240 = .ok (.iconst 5, 1) := by decide +kernel
theorem dL_does_241 : decode cL_does 241 = .ok (.invokestatic 39, 3) := by decide +kernel
theorem dL_does_244 : decode cL_does 244 = .ok (.ifCond .ne 7, 3) := by decide +kernel
theorem dL_does_247 : decode cL_does 247 = .ok (.iconst 1, 1) := by decide +kernel
theorem dL_does_248 : decode cL_does 248 = .ok (.goto 4, 3) := by decide +kernel
theorem dL_does_251 : decode cL_does 251 = .ok (.iconst 0, 1) := by decide +kernel
theorem dL_does_252 : decode cL_does 252 = .ok (.invokevirtual 63, 3) := by decide +kernel
theorem dL_does_255 : decode cL_does 255 = .ok (.ireturn, 1) := by decide +kernel
theorem dL_does_256 : decode cL_does 256 = .ok (.aload_n 0, 1) := by decide +kernel
theorem dL_does_257 : decode cL_does 257 = .ok (.iconst 1, 1) := by decide +kernel
theorem dL_does_258 : decode cL_does 258 = .ok (.iload_n 1, 1) := by decide +kernel
theorem dL_does_259 : decode cL_does 259 = .ok (.iconst 4, 1) := by decide +kernel
theorem dL_does_260 : decode cL_does 260 = .ok (.ishr, 1) := by decide +kernel
theorem dL_does_261 : decode cL_does 261 = .ok (.bipush 30, 2) := by decide +kernel
theorem dL_does_263 : decode cL_does 263 = .ok (.invokestatic 39, 3) := by decide +kernel
theorem dL_does_266 : decode cL_does 266 = .ok (.iadd, 1) := by decide +kernel
theorem dL_does_267 : decode cL_does 267 = .ok (.invokevirtual 66, 3) := by decide +kernel
theorem dL_does_270 : decode cL_does 270 = .ok (.ireturn, 1) := by decide +kernel
theorem dL_does_271 : decode cL_does 271 = .ok (.aload_n 0, 1) := by decide +kernel
theorem dL_does_272 : decode cL_does 272 = .ok (.iconst 1, 1) := by decide +kernel
theorem dL_does_273 : decode cL_does 273 = .ok (.iload_n 1, 1) := by decide +kernel
theorem dL_does_274 : decode cL_does 274 = .ok (.iconst 4, 1) := by decide +kernel
theorem dL_does_275 : decode cL_does 275 = .ok (.ishr, 1) := by decide +kernel
theorem dL_does_276 : decode cL_does 276 = .ok (.bipush 40, 2) := by decide +kernel
theorem dL_does_278 : decode cL_does 278 = .ok (.invokestatic 39, 3) := by decide +kernel
theorem dL_does_281 : decode cL_does 281 = .ok (.iadd, 1) := by decide +kernel
theorem dL_does_282 : decode cL_does 282 = .ok (.invokevirtual 69, 3) := by decide +kernel
theorem dL_does_285 : decode cL_does 285 = .ok (.ireturn, 1) := by decide +kernel
theorem dL_does_286 : decode cL_does 286 = .ok (.aload_n 0, 1) := by decide +kernel
theorem dL_does_287 : decode cL_does 287 = .ok (.invokevirtual 72, 3) := by decide +kernel
theorem dL_does_290 : decode cL_does 290 = .ok (.ireturn, 1) := by decide +kernel
theorem dL_law_0 : decode cL_law 0 = .ok (.new 13, 3) := by decide +kernel
theorem dL_law_3 : decode cL_law 3 = .ok (.dup, 1) := by decide +kernel
theorem dL_law_4 : decode cL_law 4 = .ok (.invokespecial 76, 3) := by decide +kernel
theorem dL_law_7 : decode cL_law 7 = .ok (.astore_n 1, 1) := by decide +kernel
theorem dL_law_8 : decode cL_law 8 = .ok (.iconst 0, 1) := by decide +kernel
theorem dL_law_9 : decode cL_law 9 = .ok (.istore_n 2, 1) := by decide +kernel
theorem dL_law_10 : decode cL_law 10 = .ok (.iconst 0, 1) := by decide +kernel
theorem dL_law_11 : decode cL_law 11 = .ok (.istore_n 3, 1) := by decide +kernel
theorem dL_law_12 : decode cL_law 12 = .ok (.iload_n 3, 1) := by decide +kernel
theorem dL_law_13 : decode cL_law 13 = .ok (.bipush 44, 2) := by decide +kernel
theorem dL_law_15 : decode cL_law 15 = .ok (.if_icmp .ge 301, 3) := by decide +kernel
theorem dL_law_18 : decode cL_law 18 = .ok (.aload_n 0, 1) := by decide +kernel
theorem dL_law_19 : decode cL_law 19 = .ok (.iload_n 3, 1) := by decide +kernel
theorem dL_law_20 : decode cL_law 20 = .ok (.invokestatic 77, 3) := by decide +kernel
theorem dL_law_23 : decode cL_law 23 = .ok (.istore 4, 2) := by decide +kernel
theorem dL_law_25 : decode cL_law 25 = .ok (.aload_n 1, 1) := by decide +kernel
theorem dL_law_26 : decode cL_law 26 = .ok (.invokestatic 81, 3) := by decide +kernel
theorem dL_law_29 : decode cL_law 29 = .ok (.lstore 5, 2) := by decide +kernel
theorem dL_law_31 : decode cL_law 31 = .ok (.aload_n 1, 1) := by decide +kernel
theorem dL_law_32 : decode cL_law 32 = .ok (.iload 4, 2) := by decide +kernel
theorem dL_law_34 : decode cL_law 34 = .ok (.invokestatic 85, 3) := by decide +kernel
theorem dL_law_37 : decode cL_law 37 = .ok (.istore 7, 2) := by decide +kernel
theorem dL_law_39 : decode cL_law 39 = .ok (.iload 7, 2) := by decide +kernel
theorem dL_law_41 : decode cL_law 41 = .ok (.ifCond .ge 15, 3) := by decide +kernel
theorem dL_law_44 : decode cL_law 44 = .ok (.aload_n 1, 1) := by decide +kernel
theorem dL_law_45 : decode cL_law 45 = .ok (.invokestatic 81, 3) := by decide +kernel
theorem dL_law_48 : decode cL_law 48 = .ok (.lload 5, 2) := by decide +kernel
theorem dL_law_50 : decode cL_law 50 = .ok (.lcmp, 1) := by decide +kernel
theorem dL_law_51 : decode cL_law 51 = .ok (.ifCond .eq 5, 3) := by decide +kernel
theorem dL_law_54 : decode cL_law 54 = .ok (.iconst 0, 1) := by decide +kernel
theorem dL_law_55 : decode cL_law 55 = .ok (.ireturn, 1) := by decide +kernel
theorem dL_law_56 : decode cL_law 56 = .ok (.iload 7, 2) := by decide +kernel
theorem dL_law_58 : decode cL_law 58 = .ok (.ifCond .ge 7, 3) := by decide +kernel
theorem dL_law_61 : decode cL_law 61 = .ok (.iload_n 2, 1) := by decide +kernel
theorem dL_law_62 : decode cL_law 62 = .ok (.goto 17, 3) := by decide +kernel
theorem dL_law_65 : decode cL_law 65 = .ok (.iload_n 2, 1) := by decide +kernel
theorem dL_law_66 : decode cL_law 66 = .ok (.bipush 6, 2) := by decide +kernel
theorem dL_law_68 : decode cL_law 68 = .ok (.if_icmp .ge 9, 3) := by decide +kernel
theorem dL_law_71 : decode cL_law 71 = .ok (.iload_n 2, 1) := by decide +kernel
theorem dL_law_72 : decode cL_law 72 = .ok (.iconst 1, 1) := by decide +kernel
theorem dL_law_73 : decode cL_law 73 = .ok (.iadd, 1) := by decide +kernel
theorem dL_law_74 : decode cL_law 74 = .ok (.goto 5, 3) := by decide +kernel
theorem dL_law_77 : decode cL_law 77 = .ok (.bipush 6, 2) := by decide +kernel
theorem dL_law_79 : decode cL_law 79 = .ok (.istore_n 2, 1) := by decide +kernel
theorem dL_law_80 : decode cL_law 80 = .ok (.iload 7, 2) := by decide +kernel
theorem dL_law_82 : decode cL_law 82 = .ok (.ifCond .lt 38, 3) := by decide +kernel
theorem dL_law_85 : decode cL_law 85 = .ok (.iload 4, 2) := by decide +kernel
theorem dL_law_87 : decode cL_law 87 = .ok (.bipush 26, 2) := by decide +kernel
theorem dL_law_89 : decode cL_law 89 = .ok (.ishr, 1) := by decide +kernel
theorem dL_law_90 : decode cL_law 90 = .ok (.iconst 3, 1) := by decide +kernel
theorem dL_law_91 : decode cL_law 91 = .ok (.iand, 1) := by decide +kernel
theorem dL_law_92 : decode cL_law 92 = .ok (.ifCond .ne 28, 3) := by decide +kernel
theorem dL_law_95 : decode cL_law 95 = .ok (.aload_n 1, 1) := by decide +kernel
theorem dL_law_96 : decode cL_law 96 = .ok (.invokevirtual 89, 3) := by decide +kernel
theorem dL_law_99 : decode cL_law 99 = .ok (.iload_n 2, 1) := by decide +kernel
theorem dL_law_100 : decode cL_law 100 = .ok (.iconst 1, 1) := by decide +kernel
theorem dL_law_101 : decode cL_law 101 = .ok (.isub, 1) := by decide +kernel
theorem dL_law_102 : decode cL_law 102 = .ok (.if_icmp .ne 13, 3) := by decide +kernel
theorem dL_law_105 : decode cL_law 105 = .ok (.aload_n 1, 1) := by decide +kernel
theorem dL_law_106 : decode cL_law 106 = .ok (.invokestatic 81, 3) := by decide +kernel
theorem dL_law_109 : decode cL_law 109 = .ok (.lload 5, 2) := by decide +kernel
theorem dL_law_111 : decode cL_law 111 = .ok (.lcmp, 1) := by decide +kernel
theorem dL_law_112 : decode cL_law 112 = .ok (.ifCond .eq 5, 3) := by decide +kernel
theorem dL_law_115 : decode cL_law 115 = .ok (.iconst 0, 1) := by decide +kernel
theorem dL_law_116 : decode cL_law 116 = .ok (.ireturn, 1) := by decide +kernel
theorem dL_law_117 : decode cL_law 117 = .ok (.iinc 2 (-1), 3) := by decide +kernel
theorem dL_law_120 : decode cL_law 120 = .ok (.aload_n 1, 1) := by decide +kernel
theorem dL_law_121 : decode cL_law 121 = .ok (.bipush 9, 2) := by decide +kernel
theorem dL_law_123 : decode cL_law 123 = .ok (.invokevirtual 12, 3) := by decide +kernel
theorem dL_law_126 : decode cL_law 126 = .ok (.iload_n 2, 1) := by decide +kernel
theorem dL_law_127 : decode cL_law 127 = .ok (.if_icmp .ne 18, 3) := by decide +kernel
theorem dL_law_130 : decode cL_law 130 = .ok (.aload_n 1, 1) := by decide +kernel
theorem dL_law_131 : decode cL_law 131 = .ok (.iconst 2, 1) := by decide +kernel
theorem dL_law_132 : decode cL_law 132 = .ok (.invokevirtual 12, 3) := by decide +kernel
theorem dL_law_135 : decode cL_law 135 = .ok (.iconst 2, 1) := by decide +kernel
theorem dL_law_136 : decode cL_law 136 = .ok (.aload_n 1, 1) := by decide +kernel
theorem dL_law_137 : decode cL_law 137 = .ok (.iconst 0, 1) := by decide +kernel
theorem dL_law_138 : decode cL_law 138 = .ok (.invokevirtual 12, 3) := by decide +kernel
theorem dL_law_141 : decode cL_law 141 = .ok (.imul, 1) := by decide +kernel
theorem dL_law_142 : decode cL_law 142 = .ok (.if_icmp .le 5, 3) := by decide +kernel
theorem dL_law_145 : decode cL_law 145 = .ok (.iconst 0, 1) := by decide +kernel
theorem dL_law_146 : decode cL_law 146 = .ok (.ireturn, 1) := by decide +kernel
theorem dL_law_147 : decode cL_law 147 = .ok (.iconst 0, 1) := by decide +kernel
theorem dL_law_148 : decode cL_law 148 = .ok (.istore 8, 2) := by decide +kernel
theorem dL_law_150 : decode cL_law 150 = .ok (.iload 8, 2) := by decide +kernel
theorem dL_law_152 : decode cL_law 152 = .ok (.aload_n 1, 1) := by decide +kernel
theorem dL_law_153 : decode cL_law 153 = .ok (.iconst 0, 1) := by decide +kernel
theorem dL_law_154 : decode cL_law 154 = .ok (.invokevirtual 12, 3) := by decide +kernel
theorem dL_law_157 : decode cL_law 157 = .ok (.if_icmp .ge 32, 3) := by decide +kernel
theorem dL_law_160 : decode cL_law 160 = .ok (.aload_n 1, 1) := by decide +kernel
theorem dL_law_161 : decode cL_law 161 = .ok (.iconst 4, 1) := by decide +kernel
theorem dL_law_162 : decode cL_law 162 = .ok (.invokevirtual 12, 3) := by decide +kernel
theorem dL_law_165 : decode cL_law 165 = .ok (.iload 8, 2) := by decide +kernel
theorem dL_law_167 : decode cL_law 167 = .ok (.ishr, 1) := by decide +kernel
theorem dL_law_168 : decode cL_law 168 = .ok (.iconst 1, 1) := by decide +kernel
theorem dL_law_169 : decode cL_law 169 = .ok (.iand, 1) := by decide +kernel
theorem dL_law_170 : decode cL_law 170 = .ok (.aload_n 1, 1) := by decide +kernel
theorem dL_law_171 : decode cL_law 171 = .ok (.iload 8, 2) := by decide +kernel
theorem dL_law_173 : decode cL_law 173 = .ok (.bipush 7, 2) := by decide +kernel
theorem dL_law_175 : decode cL_law 175 = .ok (.invokevirtual 20, 3) := by decide +kernel
theorem dL_law_178 : decode cL_law 178 = .ok (.if_icmp .eq 5, 3) := by decide +kernel
theorem dL_law_181 : decode cL_law 181 = .ok (.iconst 0, 1) := by decide +kernel
theorem dL_law_182 : decode cL_law 182 = .ok (.ireturn, 1) := by decide +kernel
theorem dL_law_183 : decode cL_law 183 = .ok (.iinc 8 1, 3) := by decide +kernel
theorem dL_law_186 : decode cL_law 186 = .ok (.goto (-36), 3) := by decide +kernel
theorem dL_law_189 : decode cL_law 189 = .ok (.aload_n 1, 1) := by decide +kernel
theorem dL_law_190 : decode cL_law 190 = .ok (.iconst 1, 1) := by decide +kernel
theorem dL_law_191 : decode cL_law 191 = .ok (.invokevirtual 12, 3) := by decide +kernel
theorem dL_law_194 : decode cL_law 194 = .ok (.istore 8, 2) := by decide +kernel
theorem dL_law_196 : decode cL_law 196 = .ok (.iconst 0, 1) := by decide +kernel
theorem dL_law_197 : decode cL_law 197 = .ok (.istore 9, 2) := by decide +kernel
theorem dL_law_199 : decode cL_law 199 = .ok (.iload 9, 2) := by decide +kernel
theorem dL_law_201 : decode cL_law 201 = .ok (.aload_n 1, 1) := by decide +kernel
theorem dL_law_202 : decode cL_law 202 = .ok (.iconst 2, 1) := by decide +kernel
theorem dL_law_203 : decode cL_law 203 = .ok (.invokevirtual 12, 3) := by decide +kernel
theorem dL_law_206 : decode cL_law 206 = .ok (.if_icmp .ge 32, 3) := by decide +kernel
theorem dL_law_209 : decode cL_law 209 = .ok (.aload_n 1, 1) := by decide +kernel
theorem dL_law_210 : decode cL_law 210 = .ok (.iload 9, 2) := by decide +kernel
theorem dL_law_212 : decode cL_law 212 = .ok (.iconst 0, 1) := by decide +kernel
theorem dL_law_213 : decode cL_law 213 = .ok (.invokevirtual 32, 3) := by decide +kernel
theorem dL_law_216 : decode cL_law 216 = .ok (.iload 8, 2) := by decide +kernel
theorem dL_law_218 : decode cL_law 218 = .ok (.if_icmp .ge 5, 3) := by decide +kernel
theorem dL_law_221 : decode cL_law 221 = .ok (.iconst 0, 1) := by decide +kernel
theorem dL_law_222 : decode cL_law 222 = .ok (.ireturn, 1) := by decide +kernel
theorem dL_law_223 : decode cL_law 223 = .ok (.aload_n 1, 1) := by decide +kernel
theorem dL_law_224 : decode cL_law 224 = .ok (.iload 9, 2) := by decide +kernel
theorem dL_law_226 : decode cL_law 226 = .ok (.iconst 0, 1) := by decide +kernel
theorem dL_law_227 : decode cL_law 227 = .ok (.invokevirtual 32, 3) := by decide +kernel
theorem dL_law_230 : decode cL_law 230 = .ok (.istore 8, 2) := by decide +kernel
theorem dL_law_232 : decode cL_law 232 = .ok (.iinc 9 1, 3) := by decide +kernel
theorem dL_law_235 : decode cL_law 235 = .ok (.goto (-36), 3) := by decide +kernel
theorem dL_law_238 : decode cL_law 238 = .ok (.aload_n 1, 1) := by decide +kernel
theorem dL_law_239 : decode cL_law 239 = .ok (.aload_n 1, 1) := by decide +kernel
theorem dL_law_240 : decode cL_law 240 = .ok (.iconst 2, 1) := by decide +kernel
theorem dL_law_241 : decode cL_law 241 = .ok (.invokevirtual 12, 3) := by decide +kernel
theorem dL_law_244 : decode cL_law 244 = .ok (.iconst 0, 1) := by decide +kernel
theorem dL_law_245 : decode cL_law 245 = .ok (.invokevirtual 32, 3) := by decide +kernel
theorem dL_law_248 : decode cL_law 248 = .ok (.bipush (-9), 2) := by decide +kernel
theorem dL_law_250 : decode cL_law 250 = .ok (.if_icmp .ne 30, 3) := by decide +kernel
theorem dL_law_253 : decode cL_law 253 = .ok (.aload_n 1, 1) := by decide +kernel
theorem dL_law_254 : decode cL_law 254 = .ok (.invokevirtual 92, 3) := by decide +kernel
theorem dL_law_257 : decode cL_law 257 = .ok (.iconst 1, 1) := by decide +kernel
theorem dL_law_258 : decode cL_law 258 = .ok (.if_icmp .ne 24, 3) := by decide +kernel
theorem dL_law_261 : decode cL_law 261 = .ok (.aload_n 1, 1) := by decide +kernel
theorem dL_law_262 : decode cL_law 262 = .ok (.iconst 0, 1) := by decide +kernel
theorem dL_law_263 : decode cL_law 263 = .ok (.sipush 200, 3) := by decide +kernel
theorem dL_law_266 : decode cL_law 266 = .ok (.invokevirtual 95, 3) := by decide +kernel
theorem dL_law_269 : decode cL_law 269 = .ok (.aload_n 1, 1) := by decide +kernel
theorem dL_law_270 : decode cL_law 270 = .ok (.iconst 1, 1) := by decide +kernel
theorem dL_law_271 : decode cL_law 271 = .ok (.sipush 200, 3) := by decide +kernel
theorem dL_law_274 : decode cL_law 274 = .ok (.invokevirtual 95, 3) := by decide +kernel
theorem dL_law_277 : decode cL_law 277 = .ok (.if_icmp .ne 5, 3) := by decide +kernel
theorem dL_law_280 : decode cL_law 280 = .ok (.iconst 0, 1) := by decide +kernel
theorem dL_law_281 : decode cL_law 281 = .ok (.ireturn, 1) := by decide +kernel
theorem dL_law_282 : decode cL_law 282 = .ok (.aload_n 1, 1) := by decide +kernel
theorem dL_law_283 : decode cL_law 283 = .ok (.iconst 2, 1) := by decide +kernel
theorem dL_law_284 : decode cL_law 284 = .ok (.invokevirtual 12, 3) := by decide +kernel
theorem dL_law_287 : decode cL_law 287 = .ok (.ifCond .ne 23, 3) := by decide +kernel
theorem dL_law_290 : decode cL_law 290 = .ok (.aload_n 1, 1) := by decide +kernel
theorem dL_law_291 : decode cL_law 291 = .ok (.iconst 1, 1) := by decide +kernel
theorem dL_law_292 : decode cL_law 292 = .ok (.iconst 5, 1) := by decide +kernel
theorem dL_law_293 : decode cL_law 293 = .ok (.invokevirtual 95, 3) := by decide +kernel
theorem dL_law_296 : decode cL_law 296 = .ok (.sipush 256, 3) := by decide +kernel
theorem dL_law_299 : decode cL_law 299 = .ok (.aload_n 1, 1) := by decide +kernel
theorem dL_law_300 : decode cL_law 300 = .ok (.iconst 5, 1) := by decide +kernel
theorem dL_law_301 : decode cL_law 301 = .ok (.invokevirtual 12, 3) := by decide +kernel
theorem dL_law_304 : decode cL_law 304 = .ok (.iadd, 1) := by decide +kernel
theorem dL_law_305 : decode cL_law 305 = .ok (.if_icmp .eq 5, 3) := by decide +kernel
theorem dL_law_308 : decode cL_law 308 = .ok (.iconst 0, 1) := by decide +kernel
theorem dL_law_309 : decode cL_law 309 = .ok (.ireturn, 1) := by decide +kernel
theorem dL_law_310 : decode cL_law 310 = .ok (.iinc 3 1, 3) := by decide +kernel
theorem dL_law_313 : decode cL_law 313 = .ok (.goto (-301), 3) := by decide +kernel
theorem dL_law_316 : decode cL_law 316 = .ok (.aload_n 1, 1) := by decide +kernel
theorem dL_law_317 : decode cL_law 317 = .ok (.invokevirtual 89, 3) := by decide +kernel
theorem dL_law_320 : decode cL_law 320 = .ok (.iload_n 2, 1) := by decide +kernel
theorem dL_law_321 : decode cL_law 321 = .ok (.ifCond .ne 8, 3) := by decide +kernel
theorem dL_law_324 : decode cL_law 324 = .ok (.bipush (-2), 2) := by decide +kernel
theorem dL_law_326 : decode cL_law 326 = .ok (.goto 6, 3) := by decide +kernel
theorem dL_law_329 : decode cL_law 329 = .ok (.iload_n 2, 1) := by decide +kernel
theorem dL_law_330 : decode cL_law 330 = .ok (.iconst 1, 1) := by decide +kernel
theorem dL_law_331 : decode cL_law 331 = .ok (.isub, 1) := by decide +kernel
theorem dL_law_332 : decode cL_law 332 = .ok (.if_icmp .ne 7, 3) := by decide +kernel
theorem dL_law_335 : decode cL_law 335 = .ok (.iconst 1, 1) := by decide +kernel
theorem dL_law_336 : decode cL_law 336 = .ok (.goto 4, 3) := by decide +kernel
theorem dL_law_339 : decode cL_law 339 = .ok (.iconst 0, 1) := by decide +kernel
theorem dL_law_340 : decode cL_law 340 = .ok (.ireturn, 1) := by decide +kernel
end
section
theorem zz_last : True := trivial
end
