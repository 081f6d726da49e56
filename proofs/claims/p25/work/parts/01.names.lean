-- ===== PART A: goes FIRST, ahead of the names: the tables' words, and 'selects' of the private methods out of them =====
/-- a private method of a class that the tables say can be made, by its rows of tables_1 -/
def lw_okq (q : MethodName × Nat) : Prop := (q.1.cls ≠ "java/lang/invoke/MethodHandle" ∧ q.1.cls ≠ "java/lang/invoke/VarHandle") ∧ Cond.instantiable q.1.cls q.2 ∈ tables_1 ∧ Cond.privateMethod q.1 ∈ tables_1 ∧ Cond.instanceMethod q.1 ∈ tables_1
theorem lw_p0 : lw_okq (⟨"CanalSteps", "recorded", "(I)I"⟩, 9) := ⟨⟨by decide +kernel, by decide +kernel⟩, List.mem_of_getElem? (i := 12) (by decide +kernel), List.mem_of_getElem? (i := 337) (by decide +kernel), List.mem_of_getElem? (i := 338) (by decide +kernel)⟩
theorem lw_p1 : lw_okq (⟨"CanalSteps", "arrivalsAfterTurn", "(I)I"⟩, 9) := ⟨⟨by decide +kernel, by decide +kernel⟩, List.mem_of_getElem? (i := 12) (by decide +kernel), List.mem_of_getElem? (i := 549) (by decide +kernel), List.mem_of_getElem? (i := 550) (by decide +kernel)⟩
def lw_privs_1 : List (MethodName × Nat) := [(⟨"CanalSteps", "recorded", "(I)I"⟩, 9), (⟨"CanalSteps", "arrivalsAfterTurn", "(I)I"⟩, 9)]
theorem lw_r1 : ∀ q ∈ lw_privs_1, lw_okq q := List.forall_mem_cons.mpr ⟨lw_p0, List.forall_mem_cons.mpr ⟨lw_p1, fun _ h => absurd h List.not_mem_nil⟩⟩
def lw_privs : List (MethodName × Nat) := lw_privs_1
def lw_tbl : List Cond := k2_sels lw_privs ++ tables_1
theorem lw_privs_ok : ∀ q ∈ lw_privs, lw_okq q := lw_r1
def RX0 : String := "CanalSteps$Boat"
def TX0 : u_T := fun k => match k with
  | 0 => ("CanalSteps$Boat", "pieces", "I", false)
  | 1 => ("CanalSteps$Boat", "draught", "I", false)
  | 2 => ("CanalSteps$Boat", "pound", "I", false)
  | 3 => ("CanalSteps$Boat", "goal", "I", false)
  | 4 => ("CanalSteps$Boat", "through", "I", false)
  | 5 => ("CanalSteps$Boat", "passages", "I", false)
  | _ => ("CanalSteps$Boat", "arrivedAt", "I", false)
def tyX0 : Nat → FieldType := fun k => match k with
  | 0 => .int
  | 1 => .int
  | 2 => .int
  | 3 => .int
  | 4 => .int
  | 5 => .int
  | _ => .int
theorem nmX0 : ∀ a, a < 7 → ∀ b, b < 7 → a ≠ b → (TX0 a).2.1 ≠ (TX0 b).2.1 := by decide +kernel
theorem tyX0_ok : ∀ k, k < 7 → parseFieldDescriptor (TX0 k).2.2.1 = some (tyX0 k) := by decide +kernel
abbrev cX0_init : ByteArray := prog_2_method_1_code
def yX0_init : MethodName := ⟨RX0, "<init>", "()V"⟩
abbrev cX0_copyFrom : ByteArray := prog_2_method_2_code
def yX0_copyFrom : MethodName := ⟨RX0, "copyFrom", "(LCanalSteps$Boat;)V"⟩
abbrev cX0_comeTo : ByteArray := prog_2_method_3_code
def yX0_comeTo : MethodName := ⟨RX0, "comeTo", "(I)V"⟩
abbrev cX0_hasArrived : ByteArray := prog_2_method_4_code
def yX0_hasArrived : MethodName := ⟨RX0, "hasArrived", "()Z"⟩
abbrev cX0_nextPound : ByteArray := prog_2_method_5_code
def yX0_nextPound : MethodName := ⟨RX0, "nextPound", "()I"⟩
abbrev cX0_lockNumber : ByteArray := prog_2_method_6_code
def yX0_lockNumber : MethodName := ⟨RX0, "lockNumber", "()I"⟩
abbrev cX0_isUnderWayIn : ByteArray := prog_2_method_7_code
def yX0_isUnderWayIn : MethodName := ⟨RX0, "isUnderWayIn", "(I)Z"⟩
def RX1 : String := "CanalSteps$Canal"
def TX1 : u_T := fun k => match k with
  | 0 => ("CanalSteps$Canal", "depths", "[I", true)
  | 1 => ("CanalSteps$Canal", "settings", "[I", true)
  | 2 => ("CanalSteps$Canal", "locks", "[LCanalSteps$Lock;", true)
  | 3 => ("CanalSteps$Canal", "boats", "[LCanalSteps$Boat;", true)
  | 4 => ("CanalSteps$Canal", "boatCount", "I", false)
  | 5 => ("CanalSteps$Canal", "arrived", "I", false)
  | 6 => ("CanalSteps$Canal", "tick", "I", false)
  | 7 => ("CanalSteps$Canal", "lost", "I", false)
  | 8 => ("CanalSteps$Canal", "fromSpring", "I", false)
  | 9 => ("CanalSteps$Canal", "letIn", "I", false)
  | _ => ("CanalSteps$Canal", "letOut", "I", false)
def tyX1 : Nat → FieldType := fun k => match k with
  | 0 => .array .int
  | 1 => .array .int
  | 2 => .array (.object "CanalSteps$Lock")
  | 3 => .array (.object "CanalSteps$Boat")
  | 4 => .int
  | 5 => .int
  | 6 => .int
  | 7 => .int
  | 8 => .int
  | 9 => .int
  | _ => .int
theorem nmX1 : ∀ a, a < 11 → ∀ b, b < 11 → a ≠ b → (TX1 a).2.1 ≠ (TX1 b).2.1 := by decide +kernel
theorem tyX1_ok : ∀ k, k < 11 → parseFieldDescriptor (TX1 k).2.2.1 = some (tyX1 k) := by decide +kernel
abbrev cX1_init : ByteArray := prog_3_method_1_code
def yX1_init : MethodName := ⟨RX1, "<init>", "()V"⟩
abbrev cX1_copyFrom : ByteArray := prog_3_method_2_code
def yX1_copyFrom : MethodName := ⟨RX1, "copyFrom", "(LCanalSteps$Canal;)V"⟩
abbrev cX1_comeBoat : ByteArray := prog_3_method_3_code
def yX1_comeBoat : MethodName := ⟨RX1, "comeBoat", "(IIII)I"⟩
abbrev cX1_loadBoat : ByteArray := prog_3_method_4_code
def yX1_loadBoat : MethodName := ⟨RX1, "loadBoat", "(II)I"⟩
abbrev cX1_turnByHand : ByteArray := prog_3_method_5_code
def yX1_turnByHand : MethodName := ⟨RX1, "turnByHand", "(I)I"⟩
abbrev cX1_changeDepth : ByteArray := prog_3_method_6_code
def yX1_changeDepth : MethodName := ⟨RX1, "changeDepth", "(II)I"⟩
abbrev cX1_changeSetting : ByteArray := prog_3_method_7_code
def yX1_changeSetting : MethodName := ⟨RX1, "changeSetting", "(II)I"⟩
abbrev cX1_letPass : ByteArray := prog_3_method_8_code
def yX1_letPass : MethodName := ⟨RX1, "letPass", "(I)I"⟩
abbrev cX1_stepTick : ByteArray := prog_3_method_9_code
def yX1_stepTick : MethodName := ⟨RX1, "stepTick", "()V"⟩
abbrev cX1_workLock : ByteArray := prog_3_method_10_code
def yX1_workLock : MethodName := ⟨RX1, "workLock", "(I)V"⟩
abbrev cX1_goThrough : ByteArray := prog_3_method_11_code
def yX1_goThrough : MethodName := ⟨RX1, "goThrough", "(LCanalSteps$Lock;LCanalSteps$Queue;I)V"⟩
abbrev cX1_canTurn : ByteArray := prog_3_method_12_code
def yX1_canTurn : MethodName := ⟨RX1, "canTurn", "(I)Z"⟩
abbrev cX1_turnChamber : ByteArray := prog_3_method_13_code
def yX1_turnChamber : MethodName := ⟨RX1, "turnChamber", "(I)V"⟩
abbrev cX1_flowFromSpring : ByteArray := prog_3_method_14_code
def yX1_flowFromSpring : MethodName := ⟨RX1, "flowFromSpring", "()V"⟩
abbrev cX1_pourInto : ByteArray := prog_3_method_15_code
def yX1_pourInto : MethodName := ⟨RX1, "pourInto", "(II)I"⟩
abbrev cX1_knowsBoat : ByteArray := prog_3_method_16_code
def yX1_knowsBoat : MethodName := ⟨RX1, "knowsBoat", "(I)Z"⟩
abbrev cX1_queueOf : ByteArray := prog_3_method_17_code
def yX1_queueOf : MethodName := ⟨RX1, "queueOf", "(LCanalSteps$Boat;)LCanalSteps$Queue;"⟩
abbrev cX1_placeInQueue : ByteArray := prog_3_method_18_code
def yX1_placeInQueue : MethodName := ⟨RX1, "placeInQueue", "(I)I"⟩
abbrev cX1_isAground : ByteArray := prog_3_method_19_code
def yX1_isAground : MethodName := ⟨RX1, "isAground", "(LCanalSteps$Boat;)Z"⟩
abbrev cX1_reasonNow : ByteArray := prog_3_method_20_code
def yX1_reasonNow : MethodName := ⟨RX1, "reasonNow", "(I)I"⟩
abbrev cX1_tellBoat : ByteArray := prog_3_method_21_code
def yX1_tellBoat : MethodName := ⟨RX1, "tellBoat", "(II)I"⟩
abbrev cX1_tellPound : ByteArray := prog_3_method_22_code
def yX1_tellPound : MethodName := ⟨RX1, "tellPound", "(II)I"⟩
abbrev cX1_boatsUnderWayIn : ByteArray := prog_3_method_23_code
def yX1_boatsUnderWayIn : MethodName := ⟨RX1, "boatsUnderWayIn", "(I)I"⟩
abbrev cX1_boatsArrivedIn : ByteArray := prog_3_method_24_code
def yX1_boatsArrivedIn : MethodName := ⟨RX1, "boatsArrivedIn", "(I)I"⟩
abbrev cX1_greatestDraughtIn : ByteArray := prog_3_method_25_code
def yX1_greatestDraughtIn : MethodName := ⟨RX1, "greatestDraughtIn", "(I)I"⟩
abbrev cX1_waterThere : ByteArray := prog_3_method_26_code
def yX1_waterThere : MethodName := ⟨RX1, "waterThere", "()I"⟩
abbrev cX1_waterByAccount : ByteArray := prog_3_method_27_code
def yX1_waterByAccount : MethodName := ⟨RX1, "waterByAccount", "()I"⟩
abbrev cX1_tellCount : ByteArray := prog_3_method_28_code
def yX1_tellCount : MethodName := ⟨RX1, "tellCount", "(I)I"⟩
abbrev cX1_countAground : ByteArray := prog_3_method_29_code
def yX1_countAground : MethodName := ⟨RX1, "countAground", "()I"⟩
abbrev cX1_passagesOfAll : ByteArray := prog_3_method_30_code
def yX1_passagesOfAll : MethodName := ⟨RX1, "passagesOfAll", "()I"⟩
abbrev cX1_fillingsOfAll : ByteArray := prog_3_method_31_code
def yX1_fillingsOfAll : MethodName := ⟨RX1, "fillingsOfAll", "()I"⟩
abbrev cX1_countHigh : ByteArray := prog_3_method_32_code
def yX1_countHigh : MethodName := ⟨RX1, "countHigh", "()I"⟩
def RX2 : String := "CanalSteps$History"
def TX2 : u_T := fun k => match k with
  | 0 => ("CanalSteps$History", "states", "[LCanalSteps$Canal;", true)
  | _ => ("CanalSteps$History", "size", "I", false)
def tyX2 : Nat → FieldType := fun k => match k with
  | 0 => .array (.object "CanalSteps$Canal")
  | _ => .int
theorem nmX2 : ∀ a, a < 2 → ∀ b, b < 2 → a ≠ b → (TX2 a).2.1 ≠ (TX2 b).2.1 := by decide +kernel
theorem tyX2_ok : ∀ k, k < 2 → parseFieldDescriptor (TX2 k).2.2.1 = some (tyX2 k) := by decide +kernel
abbrev cX2_init : ByteArray := prog_4_method_1_code
def yX2_init : MethodName := ⟨RX2, "<init>", "()V"⟩
abbrev cX2_push : ByteArray := prog_4_method_2_code
def yX2_push : MethodName := ⟨RX2, "push", "(LCanalSteps$Canal;)V"⟩
abbrev cX2_dropOldest : ByteArray := prog_4_method_3_code
def yX2_dropOldest : MethodName := ⟨RX2, "dropOldest", "()V"⟩
abbrev cX2_takeLatest : ByteArray := prog_4_method_4_code
def yX2_takeLatest : MethodName := ⟨RX2, "takeLatest", "()LCanalSteps$Canal;"⟩
def RX3 : String := "CanalSteps$Lock"
def TX3 : u_T := fun k => match k with
  | 0 => ("CanalSteps$Lock", "below", "LCanalSteps$Queue;", true)
  | 1 => ("CanalSteps$Lock", "above", "LCanalSteps$Queue;", true)
  | 2 => ("CanalSteps$Lock", "chamber", "I", false)
  | 3 => ("CanalSteps$Lock", "passages", "I", false)
  | _ => ("CanalSteps$Lock", "fillings", "I", false)
def tyX3 : Nat → FieldType := fun k => match k with
  | 0 => .object "CanalSteps$Queue"
  | 1 => .object "CanalSteps$Queue"
  | 2 => .int
  | 3 => .int
  | _ => .int
theorem nmX3 : ∀ a, a < 5 → ∀ b, b < 5 → a ≠ b → (TX3 a).2.1 ≠ (TX3 b).2.1 := by decide +kernel
theorem tyX3_ok : ∀ k, k < 5 → parseFieldDescriptor (TX3 k).2.2.1 = some (tyX3 k) := by decide +kernel
abbrev cX3_init : ByteArray := prog_5_method_1_code
def yX3_init : MethodName := ⟨RX3, "<init>", "()V"⟩
abbrev cX3_copyFrom : ByteArray := prog_5_method_2_code
def yX3_copyFrom : MethodName := ⟨RX3, "copyFrom", "(LCanalSteps$Lock;)V"⟩
abbrev cX3_isHigh : ByteArray := prog_5_method_3_code
def yX3_isHigh : MethodName := ⟨RX3, "isHigh", "()Z"⟩
abbrev cX3_tellLock : ByteArray := prog_5_method_4_code
def yX3_tellLock : MethodName := ⟨RX3, "tellLock", "(I)I"⟩
def RX4 : String := "CanalSteps$Queue"
def TX4 : u_T := fun k => match k with
  | 0 => ("CanalSteps$Queue", "boats", "[I", true)
  | _ => ("CanalSteps$Queue", "size", "I", false)
def tyX4 : Nat → FieldType := fun k => match k with
  | 0 => .array .int
  | _ => .int
theorem nmX4 : ∀ a, a < 2 → ∀ b, b < 2 → a ≠ b → (TX4 a).2.1 ≠ (TX4 b).2.1 := by decide +kernel
theorem tyX4_ok : ∀ k, k < 2 → parseFieldDescriptor (TX4 k).2.2.1 = some (tyX4 k) := by decide +kernel
abbrev cX4_init : ByteArray := prog_6_method_1_code
def yX4_init : MethodName := ⟨RX4, "<init>", "()V"⟩
abbrev cX4_copyFrom : ByteArray := prog_6_method_2_code
def yX4_copyFrom : MethodName := ⟨RX4, "copyFrom", "(LCanalSteps$Queue;)V"⟩
abbrev cX4_first : ByteArray := prog_6_method_3_code
def yX4_first : MethodName := ⟨RX4, "first", "()I"⟩
abbrev cX4_placeOf : ByteArray := prog_6_method_4_code
def yX4_placeOf : MethodName := ⟨RX4, "placeOf", "(I)I"⟩
abbrev cX4_join : ByteArray := prog_6_method_5_code
def yX4_join : MethodName := ⟨RX4, "join", "(I)V"⟩
abbrev cX4_dropFirst : ByteArray := prog_6_method_6_code
def yX4_dropFirst : MethodName := ⟨RX4, "dropFirst", "()V"⟩
def RX5 : String := "CanalSteps$Thing"
def TX5 : u_T := fun k => match k with
  | 0 => ("CanalSteps$Thing", "kind", "I", false)
  | 1 => ("CanalSteps$Thing", "pieces", "I", false)
  | 2 => ("CanalSteps$Thing", "from", "I", false)
  | 3 => ("CanalSteps$Thing", "to", "I", false)
  | 4 => ("CanalSteps$Thing", "draught", "I", false)
  | 5 => ("CanalSteps$Thing", "lock", "I", false)
  | _ => ("CanalSteps$Thing", "ticks", "I", false)
def tyX5 : Nat → FieldType := fun k => match k with
  | 0 => .int
  | 1 => .int
  | 2 => .int
  | 3 => .int
  | 4 => .int
  | 5 => .int
  | _ => .int
theorem nmX5 : ∀ a, a < 7 → ∀ b, b < 7 → a ≠ b → (TX5 a).2.1 ≠ (TX5 b).2.1 := by decide +kernel
theorem tyX5_ok : ∀ k, k < 7 → parseFieldDescriptor (TX5 k).2.2.1 = some (tyX5 k) := by decide +kernel
abbrev cX5_init : ByteArray := prog_7_method_1_code
def yX5_init : MethodName := ⟨RX5, "<init>", "()V"⟩
def RX6 : String := "CanalSteps$Traffic"
def TX6 : u_T := fun k => match k with
  | 0 => ("CanalSteps$Traffic", "signs", "[C", true)
  | 1 => ("CanalSteps$Traffic", "length", "I", false)
  | 2 => ("CanalSteps$Traffic", "things", "[LCanalSteps$Thing;", true)
  | 3 => ("CanalSteps$Traffic", "size", "I", false)
  | _ => ("CanalSteps$Traffic", "place", "I", false)
def tyX6 : Nat → FieldType := fun k => match k with
  | 0 => .array .char
  | 1 => .int
  | 2 => .array (.object "CanalSteps$Thing")
  | 3 => .int
  | _ => .int
theorem nmX6 : ∀ a, a < 5 → ∀ b, b < 5 → a ≠ b → (TX6 a).2.1 ≠ (TX6 b).2.1 := by decide +kernel
theorem tyX6_ok : ∀ k, k < 5 → parseFieldDescriptor (TX6 k).2.2.1 = some (tyX6 k) := by decide +kernel
abbrev cX6_init : ByteArray := prog_8_method_1_code
def yX6_init : MethodName := ⟨RX6, "<init>", "()V"⟩
def RX7 : String := "CanalSteps"
def TX7 : u_T := fun k => match k with
  | 0 => ("CanalSteps", "canal", "LCanalSteps$Canal;", true)
  | 1 => ("CanalSteps", "before", "LCanalSteps$Canal;", true)
  | 2 => ("CanalSteps", "trial", "LCanalSteps$Canal;", true)
  | 3 => ("CanalSteps", "snapshot", "LCanalSteps$Canal;", true)
  | 4 => ("CanalSteps", "history", "LCanalSteps$History;", true)
  | 5 => ("CanalSteps", "traffic", "LCanalSteps$Traffic;", true)
  | 6 => ("CanalSteps", "hasSnapshot", "Z", false)
  | 7 => ("CanalSteps", "stopNumber", "I", false)
  | _ => ("CanalSteps", "stopError", "I", false)
def tyX7 : Nat → FieldType := fun k => match k with
  | 0 => .object "CanalSteps$Canal"
  | 1 => .object "CanalSteps$Canal"
  | 2 => .object "CanalSteps$Canal"
  | 3 => .object "CanalSteps$Canal"
  | 4 => .object "CanalSteps$History"
  | 5 => .object "CanalSteps$Traffic"
  | 6 => .boolean
  | 7 => .int
  | _ => .int
theorem nmX7 : ∀ a, a < 9 → ∀ b, b < 9 → a ≠ b → (TX7 a).2.1 ≠ (TX7 b).2.1 := by decide +kernel
theorem tyX7_ok : ∀ k, k < 9 → parseFieldDescriptor (TX7 k).2.2.1 = some (tyX7 k) := by decide +kernel
abbrev cX7_init : ByteArray := prog_1_method_1_code
def yX7_init : MethodName := ⟨RX7, "<init>", "()V"⟩
abbrev cX7_boat : ByteArray := prog_1_method_2_code
def yX7_boat : MethodName := ⟨RX7, "boat", "(IIII)I"⟩
abbrev cX7_load : ByteArray := prog_1_method_3_code
def yX7_load : MethodName := ⟨RX7, "load", "(II)I"⟩
abbrev cX7_turnLock : ByteArray := prog_1_method_4_code
def yX7_turnLock : MethodName := ⟨RX7, "turnLock", "(I)I"⟩
abbrev cX7_setDepth : ByteArray := prog_1_method_5_code
def yX7_setDepth : MethodName := ⟨RX7, "setDepth", "(II)I"⟩
abbrev cX7_set : ByteArray := prog_1_method_6_code
def yX7_set : MethodName := ⟨RX7, "set", "(II)I"⟩
abbrev cX7_pass : ByteArray := prog_1_method_7_code
def yX7_pass : MethodName := ⟨RX7, "pass", "(I)I"⟩
abbrev cX7_undo : ByteArray := prog_1_method_12_code
def yX7_undo : MethodName := ⟨RX7, "undo", "()I"⟩
abbrev cX7_boatOf : ByteArray := prog_1_method_15_code
def yX7_boatOf : MethodName := ⟨RX7, "boatOf", "(II)I"⟩
abbrev cX7_lock : ByteArray := prog_1_method_16_code
def yX7_lock : MethodName := ⟨RX7, "lock", "(II)I"⟩
abbrev cX7_pound : ByteArray := prog_1_method_17_code
def yX7_pound : MethodName := ⟨RX7, "pound", "(II)I"⟩
abbrev cX7_reason : ByteArray := prog_1_method_18_code
def yX7_reason : MethodName := ⟨RX7, "reason", "(I)I"⟩
abbrev cX7_arrivesIn : ByteArray := prog_1_method_19_code
def yX7_arrivesIn : MethodName := ⟨RX7, "arrivesIn", "(I)I"⟩
abbrev cX7_water : ByteArray := prog_1_method_20_code
def yX7_water : MethodName := ⟨RX7, "water", "(I)I"⟩
abbrev cX7_bestTurn : ByteArray := prog_1_method_21_code
def yX7_bestTurn : MethodName := ⟨RX7, "bestTurn", "(I)I"⟩
abbrev cX7_ifTicks : ByteArray := prog_1_method_22_code
def yX7_ifTicks : MethodName := ⟨RX7, "ifTicks", "(II)I"⟩
abbrev cX7_count : ByteArray := prog_1_method_23_code
def yX7_count : MethodName := ⟨RX7, "count", "(I)I"⟩
abbrev cX7_isWithin : ByteArray := prog_1_method_24_code
def yX7_isWithin : MethodName := ⟨RX7, "isWithin", "(III)Z"⟩
abbrev cX7_recorded : ByteArray := prog_1_method_25_code
def yX7_recorded : MethodName := ⟨RX7, "recorded", "(I)I"⟩
abbrev cX7_arrivalsAfterTurn : ByteArray := prog_1_method_27_code
def yX7_arrivalsAfterTurn : MethodName := ⟨RX7, "arrivalsAfterTurn", "(I)I"⟩
def RX8 : String := "CanalStepsModel"
def TX8 : u_T := fun k => match k with
  | _ => ("", "", "", false)
def tyX8 : Nat → FieldType := fun k => match k with
  | _ => .int
theorem nmX8 : ∀ a, a < 0 → ∀ b, b < 0 → a ≠ b → (TX8 a).2.1 ≠ (TX8 b).2.1 := by decide +kernel
theorem tyX8_ok : ∀ k, k < 0 → parseFieldDescriptor (TX8 k).2.2.1 = some (tyX8 k) := by decide +kernel
def RJ9 : String := "java/lang/Math"
def TJ9 : u_T := fun k => match k with
  | _ => ("", "", "", false)
def tyJ9 : Nat → FieldType := fun k => match k with
  | _ => .int
theorem nmJ9 : ∀ a, a < 0 → ∀ b, b < 0 → a ≠ b → (TJ9 a).2.1 ≠ (TJ9 b).2.1 := by decide +kernel
theorem tyJ9_ok : ∀ k, k < 0 → parseFieldDescriptor (TJ9 k).2.2.1 = some (tyJ9 k) := by decide +kernel
abbrev cJ9_max_7cf53 : ByteArray := prog_11_method_65_code
def yJ9_max_7cf53 : MethodName := ⟨RJ9, "max", "(II)I"⟩
abbrev cJ9_min_7cf53 : ByteArray := prog_11_method_69_code
def yJ9_min_7cf53 : MethodName := ⟨RJ9, "min", "(II)I"⟩
def RJ10 : String := "java/lang/System"
def TJ10 : u_T := fun k => match k with
  | _ => ("", "", "", false)
def tyJ10 : Nat → FieldType := fun k => match k with
  | _ => .int
theorem nmJ10 : ∀ a, a < 0 → ∀ b, b < 0 → a ≠ b → (TJ10 a).2.1 ≠ (TJ10 b).2.1 := by decide +kernel
theorem tyJ10_ok : ∀ k, k < 0 → parseFieldDescriptor (TJ10 k).2.2.1 = some (tyJ10 k) := by decide +kernel
def RL : String := "CanalStepsLaw"
abbrev cL_cell : ByteArray := method_2_code
def yL_cell : MethodName := ⟨RL, "cell", "([II)I"⟩
abbrev cL_low : ByteArray := method_3_code
def yL_low : MethodName := ⟨RL, "low", "(II)I"⟩
abbrev cL_act : ByteArray := method_4_code
def yL_act : MethodName := ⟨RL, "act", "(LCanalSteps;I)I"⟩
abbrev cL_areAlike : ByteArray := method_5_code
def yL_areAlike : MethodName := ⟨RL, "areAlike", "(LCanalSteps;LCanalSteps;)Z"⟩
abbrev cL_areBoatsSo : ByteArray := method_6_code
def yL_areBoatsSo : MethodName := ⟨RL, "areBoatsSo", "(LCanalSteps;)Z"⟩
abbrev cL_isWaterSo : ByteArray := method_7_code
def yL_isWaterSo : MethodName := ⟨RL, "isWaterSo", "(LCanalSteps;)Z"⟩
abbrev cL_isTickSo : ByteArray := method_8_code
def yL_isTickSo : MethodName := ⟨RL, "isTickSo", "(LCanalSteps;II)Z"⟩
abbrev cL_isTurnSo : ByteArray := method_9_code
def yL_isTurnSo : MethodName := ⟨RL, "isTurnSo", "(LCanalSteps;I)Z"⟩
abbrev cL_law : ByteArray := code
def yL_law : MethodName := ⟨RL, "law", "([I)Z"⟩
abbrev vwCl : List vw_C := [(RX0, TX0, 7), (RX1, TX1, 11), (RX2, TX2, 2), (RX3, TX3, 5), (RX4, TX4, 2), (RX5, TX5, 7), (RX6, TX6, 5), (RX7, TX7, 9)]
