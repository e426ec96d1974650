/-! ===== BEGIN words of one list among another's, by their places ===== -/
theorem goodIn_r {big : List Cond} (ws : List Cond) (ps : List Nat) (hp : ws = ps.filterMap (fun i => big[i]?)) (h : ws.all goodWord = true) : GoodIn big ws := by
  intro w hw
  have h1 := List.all_eq_true.mp h w hw
  rw [hp] at hw
  obtain ⟨i, -, hi⟩ := List.mem_filterMap.mp hw
  have hm : w ∈ big := by first | exact List.mem_of_getElem? hi | exact List.getElem?_mem hi
  exact ⟨hm, good_of_word h1⟩
theorem goodIn_app {big a b : List Cond} (ha : GoodIn big a) (hb : GoodIn big b) : GoodIn big (a ++ b) := fun w h => (List.mem_append.mp h).elim (ha w) (hb w)
theorem goodIn_ca {big a b : List Cond} {c : Cond} (ha : GoodIn big (c :: a)) (hb : GoodIn big b) : GoodIn big (c :: (a ++ b)) := fun w h => (List.mem_cons.mp h).elim (fun e => ha w (List.mem_cons.mpr (Or.inl e))) (fun h => (List.mem_append.mp h).elim (fun h => ha w (List.mem_cons.mpr (Or.inr h))) (hb w))
theorem goodIn_sub {big ws : List Cond} (hm : ∀ w ∈ ws, w ∈ big) (h : ws.all goodWord = true) : GoodIn big ws := fun w hw => ⟨hm w hw, good_of_word (List.all_eq_true.mp h w hw)⟩
/-! ===== END ===== -/

/-! ===== BEGIN printed: names, fields, word lists, decode rows ===== -/
def RX0 : String := "RelayBank$Bank"
def TX0 : u_T := fun k => match k with
  | 0 => ("RelayBank$Bank", "pickUps", "[I", true)
  | 1 => ("RelayBank$Bank", "releases", "[I", true)
  | 2 => ("RelayBank$Bank", "bounces", "[I", true)
  | 3 => ("RelayBank$Bank", "sizes", "[I", true)
  | 4 => ("RelayBank$Bank", "branches", "[I", true)
  | 5 => ("RelayBank$Bank", "dues", "[I", true)
  | 6 => ("RelayBank$Bank", "relays", "I", false)
  | 7 => ("RelayBank$Bank", "time", "I", false)
  | 8 => ("RelayBank$Bank", "keys", "I", false)
  | 9 => ("RelayBank$Bank", "fed", "I", false)
  | 10 => ("RelayBank$Bank", "attracted", "I", false)
  | 11 => ("RelayBank$Bank", "bouncing", "I", false)
  | 12 => ("RelayBank$Bank", "stuck", "I", false)
  | 13 => ("RelayBank$Bank", "alwaysOpen", "I", false)
  | _ => ("RelayBank$Bank", "alwaysClosed", "I", false)
def tyX0 : Nat → FieldType := fun k => match k with
  | 0 => .array .int
  | 1 => .array .int
  | 2 => .array .int
  | 3 => .array .int
  | 4 => .array .int
  | 5 => .array .int
  | 6 => .int
  | 7 => .int
  | 8 => .int
  | 9 => .int
  | 10 => .int
  | 11 => .int
  | 12 => .int
  | 13 => .int
  | _ => .int
abbrev wsX00 : List Cond := u_ws RX0 TX0 15
theorem nmX0 : ∀ a, a < 15 → ∀ b, b < 15 → a ≠ b → (TX0 a).2.1 ≠ (TX0 b).2.1 := by decide +kernel
theorem tyX0_ok : ∀ k, k < 15 → parseFieldDescriptor (TX0 k).2.2.1 = some (tyX0 k) := by decide +kernel
abbrev cX0_init : ByteArray := prog_2_method_1_code
def yX0_init : MethodName := ⟨RX0, "<init>", "()V"⟩
abbrev cX0_copy : ByteArray := prog_2_method_2_code
def yX0_copy : MethodName := ⟨RX0, "copy", "(LRelayBank$Bank;)V"⟩
abbrev cX0_has : ByteArray := prog_2_method_3_code
def yX0_has : MethodName := ⟨RX0, "has", "(I)Z"⟩
abbrev cX0_add : ByteArray := prog_2_method_4_code
def yX0_add : MethodName := ⟨RX0, "add", "(III)I"⟩
abbrev cX0_putDelays : ByteArray := prog_2_method_5_code
def yX0_putDelays : MethodName := ⟨RX0, "putDelays", "(IIII)Z"⟩
abbrev cX0_branchesOf : ByteArray := prog_2_method_6_code
def yX0_branchesOf : MethodName := ⟨RX0, "branchesOf", "(I)I"⟩
abbrev cX0_branchAt : ByteArray := prog_2_method_7_code
def yX0_branchAt : MethodName := ⟨RX0, "branchAt", "(II)I"⟩
abbrev cX0_putBranch : ByteArray := prog_2_method_8_code
def yX0_putBranch : MethodName := ⟨RX0, "putBranch", "(III)V"⟩
abbrev cX0_putCondition : ByteArray := prog_2_method_9_code
def yX0_putCondition : MethodName := ⟨RX0, "putCondition", "(IIII)I"⟩
abbrev cX0_dropBranch : ByteArray := prog_2_method_10_code
def yX0_dropBranch : MethodName := ⟨RX0, "dropBranch", "(II)I"⟩
abbrev cX0_concerns : ByteArray := prog_2_method_12_code
def yX0_concerns : MethodName := ⟨RX0, "concerns", "(II)Z"⟩
abbrev cX0_turnKey : ByteArray := prog_2_method_13_code
def yX0_turnKey : MethodName := ⟨RX0, "turnKey", "(I)I"⟩
abbrev cX0_faultOf : ByteArray := prog_2_method_14_code
def yX0_faultOf : MethodName := ⟨RX0, "faultOf", "(I)I"⟩
abbrev cX0_putFault : ByteArray := prog_2_method_15_code
def yX0_putFault : MethodName := ⟨RX0, "putFault", "(II)V"⟩
abbrev cX0_closedContacts : ByteArray := prog_2_method_16_code
def yX0_closedContacts : MethodName := ⟨RX0, "closedContacts", "()I"⟩
abbrev cX0_failing : ByteArray := prog_2_method_17_code
def yX0_failing : MethodName := ⟨RX0, "failing", "()I"⟩
abbrev cX0_conducts : ByteArray := prog_2_method_18_code
def yX0_conducts : MethodName := ⟨RX0, "conducts", "(II)Z"⟩
abbrev cX0_lookAtCoils : ByteArray := prog_2_method_20_code
def yX0_lookAtCoils : MethodName := ⟨RX0, "lookAtCoils", "()I"⟩
abbrev cX0_turnCoil : ByteArray := prog_2_method_21_code
def yX0_turnCoil : MethodName := ⟨RX0, "turnCoil", "(I)V"⟩
abbrev cX0_relayOf : ByteArray := prog_2_method_22_code
def yX0_relayOf : MethodName := ⟨RX0, "relayOf", "(I)I"⟩
abbrev cX0_isBounceEnd : ByteArray := prog_2_method_23_code
def yX0_isBounceEnd : MethodName := ⟨RX0, "isBounceEnd", "(I)Z"⟩
abbrev cX0_kindOf : ByteArray := prog_2_method_24_code
def yX0_kindOf : MethodName := ⟨RX0, "kindOf", "(I)I"⟩
abbrev cX0_waiting : ByteArray := prog_2_method_25_code
def yX0_waiting : MethodName := ⟨RX0, "waiting", "()I"⟩
abbrev cX0_isQuiet : ByteArray := prog_2_method_26_code
def yX0_isQuiet : MethodName := ⟨RX0, "isQuiet", "()Z"⟩
abbrev cX0_nextSlot : ByteArray := prog_2_method_27_code
def yX0_nextSlot : MethodName := ⟨RX0, "nextSlot", "(Z)I"⟩
abbrev cX0_slotAt : ByteArray := prog_2_method_28_code
def yX0_slotAt : MethodName := ⟨RX0, "slotAt", "(I)I"⟩
abbrev cX0_eventsBefore : ByteArray := prog_2_method_29_code
def yX0_eventsBefore : MethodName := ⟨RX0, "eventsBefore", "(I)I"⟩
abbrev cX0_happen : ByteArray := prog_2_method_30_code
def yX0_happen : MethodName := ⟨RX0, "happen", "(I)V"⟩
abbrev cX0_moveArmature : ByteArray := prog_2_method_31_code
def yX0_moveArmature : MethodName := ⟨RX0, "moveArmature", "(I)V"⟩
abbrev cX0_run : ByteArray := prog_2_method_32_code
def yX0_run : MethodName := ⟨RX0, "run", "(IIZ)I"⟩
def RX1 : String := "RelayBank$Branch"
def TX1 : u_T := fun k => match k with
  | _ => ("", "", "", false)
def tyX1 : Nat → FieldType := fun k => match k with
  | _ => .int
abbrev wsX10 : List Cond := u_ws RX1 TX1 0
theorem nmX1 : ∀ a, a < 0 → ∀ b, b < 0 → a ≠ b → (TX1 a).2.1 ≠ (TX1 b).2.1 := by decide +kernel
theorem tyX1_ok : ∀ k, k < 0 → parseFieldDescriptor (TX1 k).2.2.1 = some (tyX1 k) := by decide +kernel
abbrev cX1_bit : ByteArray := prog_3_method_2_code
def yX1_bit : MethodName := ⟨RX1, "bit", "(II)I"⟩
abbrev cX1_howOf : ByteArray := prog_3_method_3_code
def yX1_howOf : MethodName := ⟨RX1, "howOf", "(II)I"⟩
abbrev cX1_with : ByteArray := prog_3_method_4_code
def yX1_with : MethodName := ⟨RX1, "with", "(III)I"⟩
def RX2 : String := "RelayBank$CircuitReader"
def TX2 : u_T := fun k => match k with
  | 0 => ("RelayBank$CircuitReader", "branches", "[I", true)
  | 1 => ("RelayBank$CircuitReader", "size", "I", false)
  | 2 => ("RelayBank$CircuitReader", "relays", "I", false)
  | _ => ("RelayBank$CircuitReader", "place", "I", false)
def tyX2 : Nat → FieldType := fun k => match k with
  | 0 => .array .int
  | 1 => .int
  | 2 => .int
  | _ => .int
abbrev wsX20 : List Cond := u_ws RX2 TX2 4
theorem nmX2 : ∀ a, a < 4 → ∀ b, b < 4 → a ≠ b → (TX2 a).2.1 ≠ (TX2 b).2.1 := by decide +kernel
theorem tyX2_ok : ∀ k, k < 4 → parseFieldDescriptor (TX2 k).2.2.1 = some (tyX2 k) := by decide +kernel
abbrev cX2_init : ByteArray := prog_4_method_1_code
def yX2_init : MethodName := ⟨RX2, "<init>", "()V"⟩
def RX3 : String := "RelayBank$Past"
def TX3 : u_T := fun k => match k with
  | 0 => ("RelayBank$Past", "banks", "[LRelayBank$Bank;", true)
  | 1 => ("RelayBank$Past", "oldest", "I", false)
  | _ => ("RelayBank$Past", "size", "I", false)
def tyX3 : Nat → FieldType := fun k => match k with
  | 0 => .array (.object "RelayBank$Bank")
  | 1 => .int
  | _ => .int
abbrev wsX30 : List Cond := u_ws RX3 TX3 3
theorem nmX3 : ∀ a, a < 3 → ∀ b, b < 3 → a ≠ b → (TX3 a).2.1 ≠ (TX3 b).2.1 := by decide +kernel
theorem tyX3_ok : ∀ k, k < 3 → parseFieldDescriptor (TX3 k).2.2.1 = some (tyX3 k) := by decide +kernel
abbrev cX3_init : ByteArray := prog_5_method_1_code
def yX3_init : MethodName := ⟨RX3, "<init>", "()V"⟩
abbrev cX3_bankAt : ByteArray := prog_5_method_2_code
def yX3_bankAt : MethodName := ⟨RX3, "bankAt", "(I)LRelayBank$Bank;"⟩
abbrev cX3_save : ByteArray := prog_5_method_3_code
def yX3_save : MethodName := ⟨RX3, "save", "(LRelayBank$Bank;)V"⟩
abbrev cX3_restore : ByteArray := prog_5_method_4_code
def yX3_restore : MethodName := ⟨RX3, "restore", "(LRelayBank$Bank;)Z"⟩
def RX4 : String := "RelayBank$Text"
def TX4 : u_T := fun k => match k with
  | 0 => ("RelayBank$Text", "characters", "[C", true)
  | _ => ("RelayBank$Text", "length", "I", false)
def tyX4 : Nat → FieldType := fun k => match k with
  | 0 => .array .char
  | _ => .int
abbrev wsX40 : List Cond := u_ws RX4 TX4 2
theorem nmX4 : ∀ a, a < 2 → ∀ b, b < 2 → a ≠ b → (TX4 a).2.1 ≠ (TX4 b).2.1 := by decide +kernel
theorem tyX4_ok : ∀ k, k < 2 → parseFieldDescriptor (TX4 k).2.2.1 = some (tyX4 k) := by decide +kernel
abbrev cX4_init : ByteArray := prog_6_method_1_code
def yX4_init : MethodName := ⟨RX4, "<init>", "()V"⟩
def RX5 : String := "RelayBank"
def TX5 : u_T := fun k => match k with
  | 0 => ("RelayBank", "now", "LRelayBank$Bank;", true)
  | 1 => ("RelayBank", "past", "LRelayBank$Past;", true)
  | 2 => ("RelayBank", "text", "LRelayBank$Text;", true)
  | 3 => ("RelayBank", "reader", "LRelayBank$CircuitReader;", true)
  | 4 => ("RelayBank", "changed", "LRelayBank$Bank;", true)
  | _ => ("RelayBank", "trial", "LRelayBank$Bank;", true)
def tyX5 : Nat → FieldType := fun k => match k with
  | 0 => .object "RelayBank$Bank"
  | 1 => .object "RelayBank$Past"
  | 2 => .object "RelayBank$Text"
  | 3 => .object "RelayBank$CircuitReader"
  | 4 => .object "RelayBank$Bank"
  | _ => .object "RelayBank$Bank"
abbrev wsX50 : List Cond := u_ws RX5 TX5 6
theorem nmX5 : ∀ a, a < 6 → ∀ b, b < 6 → a ≠ b → (TX5 a).2.1 ≠ (TX5 b).2.1 := by decide +kernel
theorem tyX5_ok : ∀ k, k < 6 → parseFieldDescriptor (TX5 k).2.2.1 = some (tyX5 k) := by decide +kernel
abbrev cX5_init : ByteArray := prog_1_method_1_code
def yX5_init : MethodName := ⟨RX5, "<init>", "()V"⟩
abbrev cX5_addRelay : ByteArray := prog_1_method_2_code
def yX5_addRelay : MethodName := ⟨RX5, "addRelay", "(III)I"⟩
abbrev cX5_setDelays : ByteArray := prog_1_method_3_code
def yX5_setDelays : MethodName := ⟨RX5, "setDelays", "(IIII)I"⟩
abbrev cX5_setCondition : ByteArray := prog_1_method_4_code
def yX5_setCondition : MethodName := ⟨RX5, "setCondition", "(IIII)I"⟩
abbrev cX5_removeBranch : ByteArray := prog_1_method_5_code
def yX5_removeBranch : MethodName := ⟨RX5, "removeBranch", "(II)I"⟩
abbrev cX5_press : ByteArray := prog_1_method_9_code
def yX5_press : MethodName := ⟨RX5, "press", "(II)I"⟩
abbrev cX5_setFault : ByteArray := prog_1_method_10_code
def yX5_setFault : MethodName := ⟨RX5, "setFault", "(II)I"⟩
abbrev cX5_stick : ByteArray := prog_1_method_11_code
def yX5_stick : MethodName := ⟨RX5, "stick", "(II)I"⟩
abbrev cX5_step : ByteArray := prog_1_method_12_code
def yX5_step : MethodName := ⟨RX5, "step", "()I"⟩
abbrev cX5_settle : ByteArray := prog_1_method_13_code
def yX5_settle : MethodName := ⟨RX5, "settle", "(I)I"⟩
abbrev cX5_pass : ByteArray := prog_1_method_14_code
def yX5_pass : MethodName := ⟨RX5, "pass", "(I)I"⟩
abbrev cX5_count : ByteArray := prog_1_method_15_code
def yX5_count : MethodName := ⟨RX5, "count", "(I)I"⟩
abbrev cX5_relay : ByteArray := prog_1_method_16_code
def yX5_relay : MethodName := ⟨RX5, "relay", "(II)I"⟩
abbrev cX5_condition : ByteArray := prog_1_method_17_code
def yX5_condition : MethodName := ⟨RX5, "condition", "(III)I"⟩
abbrev cX5_event : ByteArray := prog_1_method_18_code
def yX5_event : MethodName := ⟨RX5, "event", "(II)I"⟩
abbrev cX5_outcome : ByteArray := prog_1_method_19_code
def yX5_outcome : MethodName := ⟨RX5, "outcome", "(II)I"⟩
abbrev cX5_isRace : ByteArray := prog_1_method_20_code
def yX5_isRace : MethodName := ⟨RX5, "isRace", "()I"⟩
abbrev cX5_undo : ByteArray := prog_1_method_25_code
def yX5_undo : MethodName := ⟨RX5, "undo", "()I"⟩
abbrev cX5_endingOf : ByteArray := prog_1_method_26_code
def yX5_endingOf : MethodName := ⟨RX5, "endingOf", "(LRelayBank$Bank;IZ)I"⟩
abbrev cX5_raceIn : ByteArray := prog_1_method_27_code
def yX5_raceIn : MethodName := ⟨RX5, "raceIn", "(LRelayBank$Bank;)I"⟩
abbrev cX5_isKey : ByteArray := prog_1_method_28_code
def yX5_isKey : MethodName := ⟨RX5, "isKey", "(I)Z"⟩
abbrev cX5_areDelays : ByteArray := prog_1_method_29_code
def yX5_areDelays : MethodName := ⟨RX5, "areDelays", "(III)Z"⟩
abbrev cX5_isWithin : ByteArray := prog_1_method_30_code
def yX5_isWithin : MethodName := ⟨RX5, "isWithin", "(III)Z"⟩
abbrev cX5_bitOf : ByteArray := prog_1_method_31_code
def yX5_bitOf : MethodName := ⟨RX5, "bitOf", "(II)I"⟩
abbrev cX5_isIn : ByteArray := prog_1_method_32_code
def yX5_isIn : MethodName := ⟨RX5, "isIn", "(II)Z"⟩
abbrev cX5_at : ByteArray := prog_1_method_33_code
def yX5_at : MethodName := ⟨RX5, "at", "([II)I"⟩
abbrev cX5_put : ByteArray := prog_1_method_34_code
def yX5_put : MethodName := ⟨RX5, "put", "([III)V"⟩
def RX6 : String := "RelayBankModel"
def TX6 : u_T := fun k => match k with
  | _ => ("", "", "", false)
def tyX6 : Nat → FieldType := fun k => match k with
  | _ => .int
abbrev wsX60 : List Cond := u_ws RX6 TX6 0
theorem nmX6 : ∀ a, a < 0 → ∀ b, b < 0 → a ≠ b → (TX6 a).2.1 ≠ (TX6 b).2.1 := by decide +kernel
theorem tyX6_ok : ∀ k, k < 0 → parseFieldDescriptor (TX6 k).2.2.1 = some (tyX6 k) := by decide +kernel
def RJ9 : String := "java/lang/Math"
def TJ9 : u_T := fun k => match k with
  | _ => ("", "", "", false)
def tyJ9 : Nat → FieldType := fun k => match k with
  | _ => .int
abbrev wsJ90 : List Cond := u_ws RJ9 TJ9 0
theorem nmJ9 : ∀ a, a < 0 → ∀ b, b < 0 → a ≠ b → (TJ9 a).2.1 ≠ (TJ9 b).2.1 := by decide +kernel
theorem tyJ9_ok : ∀ k, k < 0 → parseFieldDescriptor (TJ9 k).2.2.1 = some (tyJ9 k) := by decide +kernel
abbrev cJ9_floorMod_7cf53 : ByteArray := prog_9_method_50_code
def yJ9_floorMod_7cf53 : MethodName := ⟨RJ9, "floorMod", "(II)I"⟩
def RJ10 : String := "java/lang/System"
def TJ10 : u_T := fun k => match k with
  | _ => ("", "", "", false)
def tyJ10 : Nat → FieldType := fun k => match k with
  | _ => .int
abbrev wsJ100 : List Cond := u_ws RJ10 TJ10 0
theorem nmJ10 : ∀ a, a < 0 → ∀ b, b < 0 → a ≠ b → (TJ10 a).2.1 ≠ (TJ10 b).2.1 := by decide +kernel
theorem tyJ10_ok : ∀ k, k < 0 → parseFieldDescriptor (TJ10 k).2.2.1 = some (tyJ10 k) := by decide +kernel
def RL : String := "RelayBankLaw"
abbrev cL_cell : ByteArray := method_2_code
def yL_cell : MethodName := ⟨RL, "cell", "([II)I"⟩
abbrev cL_low : ByteArray := method_3_code
def yL_low : MethodName := ⟨RL, "low", "(II)I"⟩
abbrev cL_tale : ByteArray := method_4_code
def yL_tale : MethodName := ⟨RL, "tale", "(LRelayBank;)J"⟩
abbrev cL_does : ByteArray := method_5_code
def yL_does : MethodName := ⟨RL, "does", "(LRelayBank;I)I"⟩
abbrev cL_law : ByteArray := code
def yL_law : MethodName := ⟨RL, "law", "([I)Z"⟩
def wsL_law_r1 : List Cond := [Cond.classLink RL 13 RX5, Cond.instantiable RX5 6, Cond.initialized RX5, Cond.methodLink RL 76 yX5_init, Cond.instanceMethod yX5_init, Cond.code yX5_init cX5_init 1 none, Cond.methodLink RX5 3 objectInit, Cond.instanceMethod objectInit, Cond.code objectInit ⟨#[0xb1]⟩ 1 none, Cond.classLink RX5 9 RX0, Cond.instantiable RX0 15, Cond.initialized RX0, Cond.fieldLink RX5 12 "RelayBank" "now" "LRelayBank$Bank;", Cond.classLink RX5 16 RX3, Cond.instantiable RX3 3, Cond.initialized RX3, Cond.fieldLink RX5 19 "RelayBank" "past" "LRelayBank$Past;", Cond.classLink RX5 23 RX4, Cond.instantiable RX4 2, Cond.initialized RX4, Cond.fieldLink RX5 26 "RelayBank" "text" "LRelayBank$Text;", Cond.classLink RX5 30 RX2, Cond.instantiable RX2 4, Cond.initialized RX2]
def wsL_law_r2 : List Cond := [Cond.fieldLink RX5 33 "RelayBank" "reader" "LRelayBank$CircuitReader;", Cond.fieldLink RX5 37 "RelayBank" "changed" "LRelayBank$Bank;", Cond.fieldLink RX5 40 "RelayBank" "trial" "LRelayBank$Bank;", Cond.methodLink RX5 11 yX0_init, Cond.instanceMethod yX0_init, Cond.code yX0_init cX0_init 2 none, Cond.methodLink RX0 3 objectInit, Cond.arrayClass .int, Cond.fieldLink RX0 9 "RelayBank$Bank" "pickUps" "[I", Cond.fieldLink RX0 15 "RelayBank$Bank" "releases" "[I", Cond.fieldLink RX0 18 "RelayBank$Bank" "bounces" "[I", Cond.fieldLink RX0 21 "RelayBank$Bank" "sizes" "[I", Cond.fieldLink RX0 24 "RelayBank$Bank" "branches" "[I", Cond.fieldLink RX0 27 "RelayBank$Bank" "dues" "[I", Cond.constant RX0 30 (2147483647), Cond.methodLink RX5 18 yX3_init, Cond.instanceMethod yX3_init, Cond.code yX3_init cX3_init 2 none, Cond.methodLink RX3 3 objectInit, Cond.classLink RX3 9 RX0, Cond.fieldLink RX3 11 "RelayBank$Past" "banks" "[LRelayBank$Bank;", Cond.methodLink RX3 17 yX0_init, Cond.instanceMethod yX4_init, Cond.code yX4_init cX4_init 1 none]
def wsL_law_r3 : List Cond := [Cond.methodLink RX4 3 objectInit, Cond.arrayClass .char, Cond.fieldLink RX4 9 "RelayBank$Text" "characters" "[C", Cond.instanceMethod yX2_init, Cond.code yX2_init cX2_init 1 none, Cond.methodLink RX2 3 objectInit, Cond.fieldLink RX2 9 "RelayBank$CircuitReader" "branches" "[I", Cond.methodLink RL 77 yL_cell, Cond.static yL_cell, Cond.initialized RL, Cond.code yL_cell cL_cell 2 (some .int), Cond.methodLink RL 81 yL_tale, Cond.static yL_tale, Cond.code yL_tale cL_tale 6 (some .long), Cond.constantLong RL 8 (3), Cond.constantLong RL 10 (31), Cond.constantLong RL 18 (37), Cond.constantLong RL 24 (41), Cond.constantLong RL 30 (43), Cond.constantLong RL 35 (5), Cond.constantLong RL 37 (7), Cond.methodLink RL 12 yX5_count, Cond.instanceMethod yX5_count, Cond.selects RX5 yX5_count yX5_count]
def wsL_law_r4 : List Cond := [Cond.code yX5_count cX5_count 2 (some .int), Cond.methodLink RX5 156 yX0_waiting, Cond.instanceMethod yX0_waiting, Cond.selects RX0 yX0_waiting yX0_waiting, Cond.code yX0_waiting cX0_waiting 3 (some .int), Cond.methodLink RX5 166 yX0_closedContacts, Cond.instanceMethod yX0_closedContacts, Cond.selects RX0 yX0_closedContacts yX0_closedContacts, Cond.code yX0_closedContacts cX0_closedContacts 1 (some .int), Cond.fieldLink RX0 50 "RelayBank$Bank" "attracted" "I", Cond.fieldLink RX0 53 "RelayBank$Bank" "bouncing" "I", Cond.fieldLink RX0 59 "RelayBank$Bank" "alwaysOpen" "I", Cond.fieldLink RX0 62 "RelayBank$Bank" "alwaysClosed" "I", Cond.methodLink RL 20 yX5_relay, Cond.instanceMethod yX5_relay, Cond.selects RX5 yX5_relay yX5_relay, Cond.code yX5_relay cX5_relay 3 (some .int), Cond.methodLink RX5 59 yX0_has, Cond.instanceMethod yX0_has, Cond.selects RX0 yX0_has yX0_has, Cond.code yX0_has cX0_has 2 (some .boolean), Cond.fieldLink RX0 37 "RelayBank$Bank" "relays" "I", Cond.static yX5_isWithin, Cond.code yX5_isWithin cX5_isWithin 3 (some .boolean)]
def wsL_law_r5 : List Cond := [Cond.methodLink RX5 176 yX5_at, Cond.static yX5_at, Cond.code yX5_at cX5_at 2 (some .int), Cond.methodLink RX5 67 yX0_branchesOf, Cond.instanceMethod yX0_branchesOf, Cond.selects RX0 yX0_branchesOf yX0_branchesOf, Cond.code yX0_branchesOf cX0_branchesOf 2 (some .int), Cond.methodLink RX5 117 yX0_faultOf, Cond.instanceMethod yX0_faultOf, Cond.selects RX0 yX0_faultOf yX0_faultOf, Cond.code yX0_faultOf cX0_faultOf 2 (some .int), Cond.static yX5_isIn, Cond.code yX5_isIn cX5_isIn 2 (some .boolean), Cond.methodLink RX5 127 yX5_bitOf, Cond.static yX5_bitOf, Cond.code yX5_bitOf cX5_bitOf 2 (some .int), Cond.methodLink RX5 186 yX0_concerns, Cond.instanceMethod yX0_concerns, Cond.selects RX0 yX0_concerns yX0_concerns, Cond.code yX0_concerns cX0_concerns 5 (some .boolean), Cond.methodLink RX0 81 yX0_branchesOf, Cond.methodLink RX0 85 yX0_branchAt, Cond.instanceMethod yX0_branchAt, Cond.selects RX0 yX0_branchAt yX0_branchAt]
def wsL_law_r6 : List Cond := [Cond.code yX0_branchAt cX0_branchAt 3 (some .int), Cond.methodLink RX0 103 yX1_howOf, Cond.static yX1_howOf, Cond.initialized RX1, Cond.code yX1_howOf cX1_howOf 2 (some .int), Cond.methodLink RX1 9 yX1_bit, Cond.static yX1_bit, Cond.code yX1_bit cX1_bit 2 (some .int), Cond.methodLink RX5 189 yX0_failing, Cond.instanceMethod yX0_failing, Cond.selects RX0 yX0_failing yX0_failing, Cond.code yX0_failing cX0_failing 2 (some .int), Cond.fieldLink RX0 44 "RelayBank$Bank" "keys" "I", Cond.constant RX0 113 (65535), Cond.methodLink RX0 110 yX0_closedContacts, Cond.methodLink RX5 192 yX0_conducts, Cond.instanceMethod yX0_conducts, Cond.selects RX0 yX0_conducts yX0_conducts, Cond.code yX0_conducts cX0_conducts 6 (some .boolean), Cond.methodLink RL 26 yX5_condition, Cond.instanceMethod yX5_condition, Cond.selects RX5 yX5_condition yX5_condition, Cond.code yX5_condition cX5_condition 4 (some .int), Cond.methodLink RX5 71 yX5_isWithin]
def wsL_law_r7 : List Cond := [Cond.methodLink RX5 195 yX0_branchAt, Cond.methodLink RX5 198 yX1_howOf, Cond.methodLink RL 32 yX5_event, Cond.instanceMethod yX5_event, Cond.selects RX5 yX5_event yX5_event, Cond.code yX5_event cX5_event 4 (some .int), Cond.methodLink RX5 203 yX0_slotAt, Cond.instanceMethod yX0_slotAt, Cond.selects RX0 yX0_slotAt yX0_slotAt, Cond.code yX0_slotAt cX0_slotAt 3 (some .int), Cond.methodLink RX0 135 yX0_eventsBefore, Cond.instanceMethod yX0_eventsBefore, Cond.selects RX0 yX0_eventsBefore yX0_eventsBefore, Cond.code yX0_eventsBefore cX0_eventsBefore 5 (some .int), Cond.methodLink RX5 141 yX0_relayOf, Cond.static yX0_relayOf, Cond.code yX0_relayOf cX0_relayOf 1 (some .int), Cond.methodLink RX5 134 yX0_kindOf, Cond.instanceMethod yX0_kindOf, Cond.selects RX0 yX0_kindOf yX0_kindOf, Cond.code yX0_kindOf cX0_kindOf 2 (some .int), Cond.fieldLink RX0 47 "RelayBank$Bank" "fed" "I", Cond.methodLink RX0 124 yX0_isBounceEnd, Cond.static yX0_isBounceEnd]
def wsL_law_r8 : List Cond := [Cond.code yX0_isBounceEnd cX0_isBounceEnd 1 (some .boolean), Cond.methodLink RX0 128 yX0_relayOf, Cond.methodLink RL 85 yL_does, Cond.static yL_does, Cond.code yL_does cL_does 3 (some .int), Cond.methodLink RL 39 yL_low, Cond.static yL_low, Cond.code yL_low cL_low 2 (some .int), Cond.constant RL 7 (2147483647), Cond.methodLink RL 44 yX5_addRelay, Cond.instanceMethod yX5_addRelay, Cond.selects RX5 yX5_addRelay yX5_addRelay, Cond.code yX5_addRelay cX5_addRelay 4 (some .int), Cond.methodLink RX5 43 yX5_areDelays, Cond.static yX5_areDelays, Cond.code yX5_areDelays cX5_areDelays 3 (some .boolean), Cond.methodLink RX5 51 yX3_save, Cond.instanceMethod yX3_save, Cond.selects RX3 yX3_save yX3_save, Cond.code yX3_save cX3_save 3 none, Cond.fieldLink RX3 28 "RelayBank$Past" "size" "I", Cond.fieldLink RX3 18 "RelayBank$Past" "oldest" "I", Cond.methodLink RX3 22 yJ9_floorMod_7cf53, Cond.static yJ9_floorMod_7cf53]
def wsL_law_r9 : List Cond := [Cond.initialized RJ9, Cond.code yJ9_floorMod_7cf53 cJ9_floorMod_7cf53 3 (some .int), Cond.methodLink RX3 31 yX3_bankAt, Cond.instanceMethod yX3_bankAt, Cond.selects RX3 yX3_bankAt yX3_bankAt, Cond.code yX3_bankAt cX3_bankAt 3 (some (.object "RelayBank$Bank")), Cond.methodLink RX3 35 yX0_copy, Cond.instanceMethod yX0_copy, Cond.selects RX0 yX0_copy yX0_copy, Cond.code yX0_copy cX0_copy 2 none, Cond.methodLink RX0 31 arraycopyName, Cond.native arraycopyName, Cond.static arraycopyName, Cond.initialized "java/lang/System", Cond.fieldLink RX0 41 "RelayBank$Bank" "time" "I", Cond.fieldLink RX0 56 "RelayBank$Bank" "stuck" "I", Cond.methodLink RX5 55 yX0_add, Cond.instanceMethod yX0_add, Cond.selects RX0 yX0_add yX0_add, Cond.code yX0_add cX0_add 5 (some .int), Cond.methodLink RX0 69 yX0_putDelays, Cond.instanceMethod yX0_putDelays, Cond.selects RX0 yX0_putDelays yX0_putDelays, Cond.code yX0_putDelays cX0_putDelays 6 (some .boolean)]
def wsL_law_r10 : List Cond := [Cond.static yX5_put, Cond.code yX5_put cX5_put 3 none, Cond.methodLink RL 47 yX5_setDelays, Cond.instanceMethod yX5_setDelays, Cond.selects RX5 yX5_setDelays yX5_setDelays, Cond.code yX5_setDelays cX5_setDelays 5 (some .int), Cond.methodLink RX5 63 yX0_putDelays, Cond.methodLink RL 51 yX5_setCondition, Cond.instanceMethod yX5_setCondition, Cond.selects RX5 yX5_setCondition yX5_setCondition, Cond.code yX5_setCondition cX5_setCondition 5 (some .int), Cond.methodLink RX5 74 yX0_putCondition, Cond.instanceMethod yX0_putCondition, Cond.selects RX0 yX0_putCondition yX0_putCondition, Cond.code yX0_putCondition cX0_putCondition 7 (some .int), Cond.methodLink RX0 89 yX1_with, Cond.static yX1_with, Cond.code yX1_with cX1_with 4 (some .int), Cond.methodLink RX0 95 yX0_putBranch, Cond.instanceMethod yX0_putBranch, Cond.selects RX0 yX0_putBranch yX0_putBranch, Cond.code yX0_putBranch cX0_putBranch 4 none, Cond.methodLink RX0 99 yX0_lookAtCoils, Cond.instanceMethod yX0_lookAtCoils]
def wsL_law_r11 : List Cond := [Cond.selects RX0 yX0_lookAtCoils yX0_lookAtCoils, Cond.code yX0_lookAtCoils cX0_lookAtCoils 4 (some .int), Cond.methodLink RX0 114 yX0_failing, Cond.methodLink RX0 117 yX0_conducts, Cond.methodLink RX0 120 yX0_turnCoil, Cond.instanceMethod yX0_turnCoil, Cond.selects RX0 yX0_turnCoil yX0_turnCoil, Cond.code yX0_turnCoil cX0_turnCoil 3 none, Cond.methodLink RL 54 yX5_removeBranch, Cond.instanceMethod yX5_removeBranch, Cond.selects RX5 yX5_removeBranch yX5_removeBranch, Cond.code yX5_removeBranch cX5_removeBranch 3 (some .int), Cond.methodLink RX5 78 yX0_dropBranch, Cond.instanceMethod yX0_dropBranch, Cond.selects RX0 yX0_dropBranch yX0_dropBranch, Cond.code yX0_dropBranch cX0_dropBranch 5 (some .int), Cond.methodLink RL 57 yX5_press, Cond.instanceMethod yX5_press, Cond.selects RX5 yX5_press yX5_press, Cond.code yX5_press cX5_press 3 (some .int), Cond.methodLink RX5 104 yX5_isKey, Cond.static yX5_isKey, Cond.code yX5_isKey cX5_isKey 1 (some .boolean), Cond.methodLink RX5 110 yX5_isIn]
def wsL_law_r12 : List Cond := [Cond.methodLink RX5 114 yX0_turnKey, Cond.instanceMethod yX0_turnKey, Cond.selects RX0 yX0_turnKey yX0_turnKey, Cond.code yX0_turnKey cX0_turnKey 2 (some .int), Cond.methodLink RL 60 yX5_setFault, Cond.instanceMethod yX5_setFault, Cond.selects RX5 yX5_setFault yX5_setFault, Cond.code yX5_setFault cX5_setFault 4 (some .int), Cond.methodLink RX5 120 yX0_putFault, Cond.instanceMethod yX0_putFault, Cond.selects RX0 yX0_putFault yX0_putFault, Cond.code yX0_putFault cX0_putFault 4 none, Cond.methodLink RL 63 yX5_stick, Cond.instanceMethod yX5_stick, Cond.selects RX5 yX5_stick yX5_stick, Cond.code yX5_stick cX5_stick 4 (some .int), Cond.methodLink RL 66 yX5_settle, Cond.instanceMethod yX5_settle, Cond.selects RX5 yX5_settle yX5_settle, Cond.code yX5_settle cX5_settle 2 (some .int), Cond.constant RX5 144 (2147483647), Cond.methodLink RX5 145 yX0_run, Cond.instanceMethod yX0_run, Cond.selects RX0 yX0_run yX0_run]
def wsL_law_r13 : List Cond := [Cond.code yX0_run cX0_run 6 (some .int), Cond.methodLink RX0 131 yX0_nextSlot, Cond.instanceMethod yX0_nextSlot, Cond.selects RX0 yX0_nextSlot yX0_nextSlot, Cond.code yX0_nextSlot cX0_nextSlot 8 (some .int), Cond.methodLink RX0 141 yX0_happen, Cond.instanceMethod yX0_happen, Cond.selects RX0 yX0_happen yX0_happen, Cond.code yX0_happen cX0_happen 3 none, Cond.methodLink RX0 138 yX0_moveArmature, Cond.instanceMethod yX0_moveArmature, Cond.selects RX0 yX0_moveArmature yX0_moveArmature, Cond.code yX0_moveArmature cX0_moveArmature 3 none, Cond.methodLink RL 69 yX5_pass, Cond.instanceMethod yX5_pass, Cond.selects RX5 yX5_pass yX5_pass, Cond.code yX5_pass cX5_pass 4 (some .int), Cond.constant RX5 152 (100000), Cond.methodLink RX5 153 yX0_copy, Cond.methodLink RL 72 yX5_step, Cond.instanceMethod yX5_step, Cond.selects RX5 yX5_step yX5_step, Cond.code yX5_step cX5_step 3 (some .int), Cond.methodLink RX5 130 yX0_nextSlot]
def wsL_law_r14 : List Cond := [Cond.methodLink RX5 137 yX0_happen, Cond.methodLink RL 89 yX5_undo, Cond.instanceMethod yX5_undo, Cond.selects RX5 yX5_undo yX5_undo, Cond.code yX5_undo cX5_undo 1 (some .int), Cond.methodLink RX5 224 yX3_restore, Cond.instanceMethod yX3_restore, Cond.selects RX3 yX3_restore yX3_restore, Cond.code yX3_restore cX3_restore 3 (some .boolean), Cond.methodLink RL 92 yX5_isRace, Cond.instanceMethod yX5_isRace, Cond.selects RX5 yX5_isRace yX5_isRace, Cond.code yX5_isRace cX5_isRace 1 (some .int), Cond.methodLink RX5 213 yX5_raceIn, Cond.instanceMethod yX5_raceIn, Cond.selects RX5 yX5_raceIn yX5_raceIn, Cond.code yX5_raceIn cX5_raceIn 3 (some .int), Cond.methodLink RX5 209 yX5_endingOf, Cond.instanceMethod yX5_endingOf, Cond.selects RX5 yX5_endingOf yX5_endingOf, Cond.code yX5_endingOf cX5_endingOf 4 (some .int), Cond.methodLink RX5 217 yX0_isQuiet, Cond.instanceMethod yX0_isQuiet, Cond.selects RX0 yX0_isQuiet yX0_isQuiet]
def wsL_law_r15 : List Cond := [Cond.code yX0_isQuiet cX0_isQuiet 1 (some .boolean), Cond.methodLink RL 95 yX5_outcome, Cond.instanceMethod yX5_outcome, Cond.selects RX5 yX5_outcome yX5_outcome, Cond.code yX5_outcome cX5_outcome 3 (some .int)]
def wsL_law : List Cond := (wsL_law_r1 ++ (wsL_law_r2 ++ (wsL_law_r3 ++ (wsL_law_r4 ++ (wsL_law_r5 ++ (wsL_law_r6 ++ (wsL_law_r7 ++ (wsL_law_r8 ++ (wsL_law_r9 ++ (wsL_law_r10 ++ (wsL_law_r11 ++ (wsL_law_r12 ++ (wsL_law_r13 ++ (wsL_law_r14 ++ wsL_law_r15)))))))))))))) ++ wsX50 ++ wsX00 ++ wsX30 ++ wsX40 ++ wsX20 ++ ([] : List Cond)
theorem inlX0 : ∀ w ∈ wsX00, w ∈ wsL_law := fun _ h => List.mem_append_left _ (List.mem_append_left _ (List.mem_append_left _ (List.mem_append_left _ (List.mem_append_right _ h))))
theorem inlX2 : ∀ w ∈ wsX20, w ∈ wsL_law := fun _ h => List.mem_append_left _ (List.mem_append_right _ h)
theorem inlX3 : ∀ w ∈ wsX30, w ∈ wsL_law := fun _ h => List.mem_append_left _ (List.mem_append_left _ (List.mem_append_left _ (List.mem_append_right _ h)))
theorem inlX4 : ∀ w ∈ wsX40, w ∈ wsL_law := fun _ h => List.mem_append_left _ (List.mem_append_left _ (List.mem_append_right _ h))
theorem inlX5 : ∀ w ∈ wsX50, w ∈ wsL_law := fun _ h => List.mem_append_left _ (List.mem_append_left _ (List.mem_append_left _ (List.mem_append_left _ (List.mem_append_left _ (List.mem_append_right _ h)))))
abbrev vwCl : List vw_C := [(RX0, TX0, 15), (RX2, TX2, 4), (RX3, TX3, 3), (RX4, TX4, 2), (RX5, TX5, 6)]
