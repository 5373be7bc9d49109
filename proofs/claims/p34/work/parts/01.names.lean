-- ===== PART A: goes FIRST, ahead of the names: the tables' words, and 'selects' of the private methods out of them =====
/-- a private method of a class that the tables say can be made, by its rows of tables_1 -/
def lw_okq (q : MethodName × Nat) : Prop := (q.1.cls ≠ "java/lang/invoke/MethodHandle" ∧ q.1.cls ≠ "java/lang/invoke/VarHandle") ∧ Cond.instantiable q.1.cls q.2 ∈ tables_1 ∧ Cond.privateMethod q.1 ∈ tables_1 ∧ Cond.instanceMethod q.1 ∈ tables_1
theorem lw_p0 : lw_okq (⟨"RockWatches", "prepare", "()V"⟩, 4) := ⟨⟨by decide +kernel, by decide +kernel⟩, List.mem_of_getElem? (i := 13) (by decide +kernel), List.mem_of_getElem? (i := 284) (by decide +kernel), List.mem_of_getElem? (i := 285) (by decide +kernel)⟩
theorem lw_p1 : lw_okq (⟨"RockWatches", "conclude", "(I)I"⟩, 4) := ⟨⟨by decide +kernel, by decide +kernel⟩, List.mem_of_getElem? (i := 13) (by decide +kernel), List.mem_of_getElem? (i := 329) (by decide +kernel), List.mem_of_getElem? (i := 330) (by decide +kernel)⟩
def lw_privs_1 : List (MethodName × Nat) := [(⟨"RockWatches", "prepare", "()V"⟩, 4), (⟨"RockWatches", "conclude", "(I)I"⟩, 4)]
theorem lw_r1 : ∀ q ∈ lw_privs_1, lw_okq q := List.forall_mem_cons.mpr ⟨lw_p0, List.forall_mem_cons.mpr ⟨lw_p1, fun _ h => absurd h List.not_mem_nil⟩⟩
def lw_privs : List (MethodName × Nat) := lw_privs_1
def lw_tbl : List Cond := k2_sels lw_privs ++ tables_1
theorem lw_privs_ok : ∀ q ∈ lw_privs, lw_okq q := lw_r1
def RX0 : String := "RockWatches$History"
def TX0 : u_T := fun k => match k with
  | 0 => ("RockWatches$History", "states", "[LRockWatches$State;", true)
  | 1 => ("RockWatches$History", "oldest", "I", false)
  | _ => ("RockWatches$History", "size", "I", false)
def tyX0 : Nat → FieldType := fun k => match k with
  | 0 => .array (.object "RockWatches$State")
  | 1 => .int
  | _ => .int
abbrev wsX00 : List Cond := u_ws RX0 TX0 3
theorem nmX0 : ∀ a, a < 3 → ∀ b, b < 3 → a ≠ b → (TX0 a).2.1 ≠ (TX0 b).2.1 := by decide +kernel
theorem tyX0_ok : ∀ k, k < 3 → parseFieldDescriptor (TX0 k).2.2.1 = some (tyX0 k) := by decide +kernel
abbrev cX0_init : ByteArray := prog_2_method_1_code
def yX0_init : MethodName := ⟨RX0, "<init>", "()V"⟩
abbrev cX0_spare : ByteArray := prog_2_method_2_code
def yX0_spare : MethodName := ⟨RX0, "spare", "()LRockWatches$State;"⟩
abbrev cX0_recordSpare : ByteArray := prog_2_method_3_code
def yX0_recordSpare : MethodName := ⟨RX0, "recordSpare", "()V"⟩
abbrev cX0_makeLatestSpare : ByteArray := prog_2_method_4_code
def yX0_makeLatestSpare : MethodName := ⟨RX0, "makeLatestSpare", "()V"⟩
def RX1 : String := "RockWatches$Keeper"
def TX1 : u_T := fun k => match k with
  | 0 => ("RockWatches$Keeper", "rank", "I", false)
  | 1 => ("RockWatches$Keeper", "rock", "I", false)
  | 2 => ("RockWatches$Keeper", "owed", "I", false)
  | 3 => ("RockWatches$Keeper", "daysOut", "I", false)
  | 4 => ("RockWatches$Keeper", "doubledDays", "I", false)
  | 5 => ("RockWatches$Keeper", "leaveDays", "I", false)
  | _ => ("RockWatches$Keeper", "idleDays", "I", false)
def tyX1 : Nat → FieldType := fun k => match k with
  | 0 => .int
  | 1 => .int
  | 2 => .int
  | 3 => .int
  | 4 => .int
  | 5 => .int
  | _ => .int
abbrev wsX10 : List Cond := u_ws RX1 TX1 7
theorem nmX1 : ∀ a, a < 7 → ∀ b, b < 7 → a ≠ b → (TX1 a).2.1 ≠ (TX1 b).2.1 := by decide +kernel
theorem tyX1_ok : ∀ k, k < 7 → parseFieldDescriptor (TX1 k).2.2.1 = some (tyX1 k) := by decide +kernel
abbrev cX1_init : ByteArray := prog_3_method_1_code
def yX1_init : MethodName := ⟨RX1, "<init>", "()V"⟩
abbrev cX1_copyFrom : ByteArray := prog_3_method_2_code
def yX1_copyFrom : MethodName := ⟨RX1, "copyFrom", "(LRockWatches$Keeper;)V"⟩
abbrev cX1_spendDayOut : ByteArray := prog_3_method_3_code
def yX1_spendDayOut : MethodName := ⟨RX1, "spendDayOut", "(Z)V"⟩
abbrev cX1_spendDayAshore : ByteArray := prog_3_method_4_code
def yX1_spendDayAshore : MethodName := ⟨RX1, "spendDayAshore", "()V"⟩
abbrev cX1_goesOutBefore : ByteArray := prog_3_method_5_code
def yX1_goesOutBefore : MethodName := ⟨RX1, "goesOutBefore", "(LRockWatches$Keeper;)Z"⟩
abbrev cX1_comesInBefore : ByteArray := prog_3_method_6_code
def yX1_comesInBefore : MethodName := ⟨RX1, "comesInBefore", "(LRockWatches$Keeper;)Z"⟩
abbrev cX1_unitsOfADay : ByteArray := prog_3_method_7_code
def yX1_unitsOfADay : MethodName := ⟨RX1, "unitsOfADay", "(I)I"⟩
def RX2 : String := "RockWatches$Rock"
def TX2 : u_T := fun k => match k with
  | 0 => ("RockWatches$Rock", "height", "I", false)
  | 1 => ("RockWatches$Rock", "swell", "I", false)
  | 2 => ("RockWatches$Rock", "posts", "I", false)
  | 3 => ("RockWatches$Rock", "doubledDays", "I", false)
  | 4 => ("RockWatches$Rock", "lastDoubled", "I", false)
  | _ => ("RockWatches$Rock", "stores", "[LRockWatches$Store;", true)
def tyX2 : Nat → FieldType := fun k => match k with
  | 0 => .int
  | 1 => .int
  | 2 => .int
  | 3 => .int
  | 4 => .int
  | _ => .array (.object "RockWatches$Store")
abbrev wsX20 : List Cond := u_ws RX2 TX2 6
theorem nmX2 : ∀ a, a < 6 → ∀ b, b < 6 → a ≠ b → (TX2 a).2.1 ≠ (TX2 b).2.1 := by decide +kernel
theorem tyX2_ok : ∀ k, k < 6 → parseFieldDescriptor (TX2 k).2.2.1 = some (tyX2 k) := by decide +kernel
abbrev cX2_init : ByteArray := prog_4_method_1_code
def yX2_init : MethodName := ⟨RX2, "<init>", "()V"⟩
abbrev cX2_start : ByteArray := prog_4_method_2_code
def yX2_start : MethodName := ⟨RX2, "start", "(III)V"⟩
abbrev cX2_copyFrom : ByteArray := prog_4_method_3_code
def yX2_copyFrom : MethodName := ⟨RX2, "copyFrom", "(LRockWatches$Rock;)V"⟩
abbrev cX2_doubleDay : ByteArray := prog_4_method_4_code
def yX2_doubleDay : MethodName := ⟨RX2, "doubleDay", "(I)V"⟩
def RX3 : String := "RockWatches$State"
def TX3 : u_T := fun k => match k with
  | 0 => ("RockWatches$State", "world", "LRockWatches$World;", true)
  | _ => ("RockWatches$State", "snapshots", "[LRockWatches$World;", true)
def tyX3 : Nat → FieldType := fun k => match k with
  | 0 => .object "RockWatches$World"
  | _ => .array (.object "RockWatches$World")
abbrev wsX30 : List Cond := u_ws RX3 TX3 2
theorem nmX3 : ∀ a, a < 2 → ∀ b, b < 2 → a ≠ b → (TX3 a).2.1 ≠ (TX3 b).2.1 := by decide +kernel
theorem tyX3_ok : ∀ k, k < 2 → parseFieldDescriptor (TX3 k).2.2.1 = some (tyX3 k) := by decide +kernel
abbrev cX3_init : ByteArray := prog_5_method_1_code
def yX3_init : MethodName := ⟨RX3, "<init>", "()V"⟩
abbrev cX3_copyFrom : ByteArray := prog_5_method_2_code
def yX3_copyFrom : MethodName := ⟨RX3, "copyFrom", "(LRockWatches$State;)V"⟩
abbrev cX3_returnToSnapshot : ByteArray := prog_5_method_4_code
def yX3_returnToSnapshot : MethodName := ⟨RX3, "returnToSnapshot", "(I)I"⟩
abbrev cX3_snapshotCount : ByteArray := prog_5_method_5_code
def yX3_snapshotCount : MethodName := ⟨RX3, "snapshotCount", "()I"⟩
def RX4 : String := "RockWatches$Store"
def TX4 : u_T := fun k => match k with
  | 0 => ("RockWatches$Store", "amount", "I", false)
  | 1 => ("RockWatches$Store", "keep", "I", false)
  | 2 => ("RockWatches$Store", "eaten", "I", false)
  | 3 => ("RockWatches$Store", "lacking", "I", false)
  | _ => ("RockWatches$Store", "delivered", "I", false)
def tyX4 : Nat → FieldType := fun k => match k with
  | 0 => .int
  | 1 => .int
  | 2 => .int
  | 3 => .int
  | _ => .int
abbrev wsX40 : List Cond := u_ws RX4 TX4 5
theorem nmX4 : ∀ a, a < 5 → ∀ b, b < 5 → a ≠ b → (TX4 a).2.1 ≠ (TX4 b).2.1 := by decide +kernel
theorem tyX4_ok : ∀ k, k < 5 → parseFieldDescriptor (TX4 k).2.2.1 = some (tyX4 k) := by decide +kernel
abbrev cX4_init : ByteArray := prog_6_method_1_code
def yX4_init : MethodName := ⟨RX4, "<init>", "()V"⟩
abbrev cX4_copyFrom : ByteArray := prog_6_method_2_code
def yX4_copyFrom : MethodName := ⟨RX4, "copyFrom", "(LRockWatches$Store;)V"⟩
abbrev cX4_receive : ByteArray := prog_6_method_3_code
def yX4_receive : MethodName := ⟨RX4, "receive", "(I)V"⟩
abbrev cX4_feed : ByteArray := prog_6_method_4_code
def yX4_feed : MethodName := ⟨RX4, "feed", "(I)V"⟩
abbrev cX4_need : ByteArray := prog_6_method_5_code
def yX4_need : MethodName := ⟨RX4, "need", "(II)I"⟩
def RX5 : String := "RockWatches$Text"
def TX5 : u_T := fun k => match k with
  | 0 => ("RockWatches$Text", "characters", "[C", true)
  | 1 => ("RockWatches$Text", "numbers", "[I", true)
  | 2 => ("RockWatches$Text", "length", "I", false)
  | 3 => ("RockWatches$Text", "start", "I", false)
  | _ => ("RockWatches$Text", "end", "I", false)
def tyX5 : Nat → FieldType := fun k => match k with
  | 0 => .array .char
  | 1 => .array .int
  | 2 => .int
  | 3 => .int
  | _ => .int
abbrev wsX50 : List Cond := u_ws RX5 TX5 5
theorem nmX5 : ∀ a, a < 5 → ∀ b, b < 5 → a ≠ b → (TX5 a).2.1 ≠ (TX5 b).2.1 := by decide +kernel
theorem tyX5_ok : ∀ k, k < 5 → parseFieldDescriptor (TX5 k).2.2.1 = some (tyX5 k) := by decide +kernel
abbrev cX5_init : ByteArray := prog_7_method_1_code
def yX5_init : MethodName := ⟨RX5, "<init>", "()V"⟩
def RX6 : String := "RockWatches$Turn"
def TX6 : u_T := fun k => match k with
  | 0 => ("RockWatches$Turn", "kind", "I", false)
  | 1 => ("RockWatches$Turn", "rock", "I", false)
  | 2 => ("RockWatches$Turn", "day", "I", false)
  | 3 => ("RockWatches$Turn", "in", "I", false)
  | 4 => ("RockWatches$Turn", "out", "I", false)
  | 5 => ("RockWatches$Turn", "store", "I", false)
  | 6 => ("RockWatches$Turn", "amount", "I", false)
  | _ => ("RockWatches$Turn", "doneOn", "I", false)
def tyX6 : Nat → FieldType := fun k => match k with
  | 0 => .int
  | 1 => .int
  | 2 => .int
  | 3 => .int
  | 4 => .int
  | 5 => .int
  | 6 => .int
  | _ => .int
abbrev wsX60 : List Cond := u_ws RX6 TX6 8
theorem nmX6 : ∀ a, a < 8 → ∀ b, b < 8 → a ≠ b → (TX6 a).2.1 ≠ (TX6 b).2.1 := by decide +kernel
theorem tyX6_ok : ∀ k, k < 8 → parseFieldDescriptor (TX6 k).2.2.1 = some (tyX6 k) := by decide +kernel
abbrev cX6_init : ByteArray := prog_8_method_1_code
def yX6_init : MethodName := ⟨RX6, "<init>", "()V"⟩
abbrev cX6_start : ByteArray := prog_8_method_2_code
def yX6_start : MethodName := ⟨RX6, "start", "(III)V"⟩
abbrev cX6_copyFrom : ByteArray := prog_8_method_3_code
def yX6_copyFrom : MethodName := ⟨RX6, "copyFrom", "(LRockWatches$Turn;)V"⟩
def RX7 : String := "RockWatches$World"
def TX7 : u_T := fun k => match k with
  | 0 => ("RockWatches$World", "today", "I", false)
  | 1 => ("RockWatches$World", "done", "I", false)
  | 2 => ("RockWatches$World", "dropped", "I", false)
  | 3 => ("RockWatches$World", "missed", "I", false)
  | 4 => ("RockWatches$World", "rockCount", "I", false)
  | 5 => ("RockWatches$World", "keeperCount", "I", false)
  | 6 => ("RockWatches$World", "turnCount", "I", false)
  | 7 => ("RockWatches$World", "tides", "[I", true)
  | 8 => ("RockWatches$World", "swells", "[I", true)
  | 9 => ("RockWatches$World", "rocks", "[LRockWatches$Rock;", true)
  | 10 => ("RockWatches$World", "keepers", "[LRockWatches$Keeper;", true)
  | _ => ("RockWatches$World", "turns", "[LRockWatches$Turn;", true)
def tyX7 : Nat → FieldType := fun k => match k with
  | 0 => .int
  | 1 => .int
  | 2 => .int
  | 3 => .int
  | 4 => .int
  | 5 => .int
  | 6 => .int
  | 7 => .array .int
  | 8 => .array .int
  | 9 => .array (.object "RockWatches$Rock")
  | 10 => .array (.object "RockWatches$Keeper")
  | _ => .array (.object "RockWatches$Turn")
abbrev wsX70 : List Cond := u_ws RX7 TX7 12
theorem nmX7 : ∀ a, a < 12 → ∀ b, b < 12 → a ≠ b → (TX7 a).2.1 ≠ (TX7 b).2.1 := by decide +kernel
theorem tyX7_ok : ∀ k, k < 12 → parseFieldDescriptor (TX7 k).2.2.1 = some (tyX7 k) := by decide +kernel
abbrev cX7_init : ByteArray := prog_9_method_1_code
def yX7_init : MethodName := ⟨RX7, "<init>", "()V"⟩
abbrev cX7_copyFrom : ByteArray := prog_9_method_2_code
def yX7_copyFrom : MethodName := ⟨RX7, "copyFrom", "(LRockWatches$World;)V"⟩
abbrev cX7_hasRock : ByteArray := prog_9_method_3_code
def yX7_hasRock : MethodName := ⟨RX7, "hasRock", "(I)Z"⟩
abbrev cX7_hasStore : ByteArray := prog_9_method_4_code
def yX7_hasStore : MethodName := ⟨RX7, "hasStore", "(II)Z"⟩
abbrev cX7_hasKeeper : ByteArray := prog_9_method_5_code
def yX7_hasKeeper : MethodName := ⟨RX7, "hasKeeper", "(I)Z"⟩
abbrev cX7_hasTurn : ByteArray := prog_9_method_6_code
def yX7_hasTurn : MethodName := ⟨RX7, "hasTurn", "(I)Z"⟩
abbrev cX7_isDay : ByteArray := prog_9_method_7_code
def yX7_isDay : MethodName := ⟨RX7, "isDay", "(I)Z"⟩
abbrev cX7_putTide : ByteArray := prog_9_method_8_code
def yX7_putTide : MethodName := ⟨RX7, "putTide", "(II)I"⟩
abbrev cX7_putSwell : ByteArray := prog_9_method_9_code
def yX7_putSwell : MethodName := ⟨RX7, "putSwell", "(II)I"⟩
abbrev cX7_seaPart : ByteArray := prog_9_method_10_code
def yX7_seaPart : MethodName := ⟨RX7, "seaPart", "(II)I"⟩
abbrev cX7_allowsLanding : ByteArray := prog_9_method_11_code
def yX7_allowsLanding : MethodName := ⟨RX7, "allowsLanding", "(LRockWatches$Rock;I)Z"⟩
abbrev cX7_firstLanding : ByteArray := prog_9_method_12_code
def yX7_firstLanding : MethodName := ⟨RX7, "firstLanding", "(II)I"⟩
abbrev cX7_placeRock : ByteArray := prog_9_method_16_code
def yX7_placeRock : MethodName := ⟨RX7, "placeRock", "(III)I"⟩
abbrev cX7_rockPart : ByteArray := prog_9_method_17_code
def yX7_rockPart : MethodName := ⟨RX7, "rockPart", "(II)I"⟩
abbrev cX7_turnsFor : ByteArray := prog_9_method_18_code
def yX7_turnsFor : MethodName := ⟨RX7, "turnsFor", "(I)I"⟩
abbrev cX7_firstKeeperOn : ByteArray := prog_9_method_19_code
def yX7_firstKeeperOn : MethodName := ⟨RX7, "firstKeeperOn", "(I)I"⟩
abbrev cX7_putKeep : ByteArray := prog_9_method_20_code
def yX7_putKeep : MethodName := ⟨RX7, "putKeep", "(III)I"⟩
abbrev cX7_storePart : ByteArray := prog_9_method_21_code
def yX7_storePart : MethodName := ⟨RX7, "storePart", "(III)I"⟩
abbrev cX7_daysEnough : ByteArray := prog_9_method_22_code
def yX7_daysEnough : MethodName := ⟨RX7, "daysEnough", "(II)I"⟩
abbrev cX7_addKeeper : ByteArray := prog_9_method_23_code
def yX7_addKeeper : MethodName := ⟨RX7, "addKeeper", "(I)I"⟩
abbrev cX7_keeperPart : ByteArray := prog_9_method_24_code
def yX7_keeperPart : MethodName := ⟨RX7, "keeperPart", "(II)I"⟩
abbrev cX7_keepersAt : ByteArray := prog_9_method_25_code
def yX7_keepersAt : MethodName := ⟨RX7, "keepersAt", "(I)I"⟩
abbrev cX7_isAt : ByteArray := prog_9_method_26_code
def yX7_isAt : MethodName := ⟨RX7, "isAt", "(II)Z"⟩
abbrev cX7_moveTo : ByteArray := prog_9_method_27_code
def yX7_moveTo : MethodName := ⟨RX7, "moveTo", "(II)V"⟩
abbrev cX7_nextToGoOut : ByteArray := prog_9_method_28_code
def yX7_nextToGoOut : MethodName := ⟨RX7, "nextToGoOut", "()I"⟩
abbrev cX7_isToGoOut : ByteArray := prog_9_method_29_code
def yX7_isToGoOut : MethodName := ⟨RX7, "isToGoOut", "(I)Z"⟩
abbrev cX7_nextToComeIn : ByteArray := prog_9_method_30_code
def yX7_nextToComeIn : MethodName := ⟨RX7, "nextToComeIn", "()I"⟩
abbrev cX7_isToComeIn : ByteArray := prog_9_method_31_code
def yX7_isToComeIn : MethodName := ⟨RX7, "isToComeIn", "(I)Z"⟩
abbrev cX7_planRelief : ByteArray := prog_9_method_32_code
def yX7_planRelief : MethodName := ⟨RX7, "planRelief", "(IIII)I"⟩
abbrev cX7_planChange : ByteArray := prog_9_method_33_code
def yX7_planChange : MethodName := ⟨RX7, "planChange", "(IIII)I"⟩
abbrev cX7_planDelivery : ByteArray := prog_9_method_34_code
def yX7_planDelivery : MethodName := ⟨RX7, "planDelivery", "(IIII)I"⟩
abbrev cX7_plan : ByteArray := prog_9_method_35_code
def yX7_plan : MethodName := ⟨RX7, "plan", "(III)I"⟩
abbrev cX7_removeTurn : ByteArray := prog_9_method_36_code
def yX7_removeTurn : MethodName := ⟨RX7, "removeTurn", "(I)I"⟩
abbrev cX7_swapKeepersOut : ByteArray := prog_9_method_37_code
def yX7_swapKeepersOut : MethodName := ⟨RX7, "swapKeepersOut", "(II)I"⟩
abbrev cX7_turnPart : ByteArray := prog_9_method_38_code
def yX7_turnPart : MethodName := ⟨RX7, "turnPart", "(II)I"⟩
abbrev cX7_passDays : ByteArray := prog_9_method_39_code
def yX7_passDays : MethodName := ⟨RX7, "passDays", "(I)I"⟩
abbrev cX7_keeperPartBehind : ByteArray := prog_9_method_40_code
def yX7_keeperPartBehind : MethodName := ⟨RX7, "keeperPartBehind", "(III)I"⟩
abbrev cX7_passUntilDone : ByteArray := prog_9_method_41_code
def yX7_passUntilDone : MethodName := ⟨RX7, "passUntilDone", "(I)I"⟩
abbrev cX7_goThroughTurns : ByteArray := prog_9_method_42_code
def yX7_goThroughTurns : MethodName := ⟨RX7, "goThroughTurns", "()V"⟩
abbrev cX7_carryOut : ByteArray := prog_9_method_43_code
def yX7_carryOut : MethodName := ⟨RX7, "carryOut", "(LRockWatches$Turn;LRockWatches$Rock;)Z"⟩
abbrev cX7_eat : ByteArray := prog_9_method_44_code
def yX7_eat : MethodName := ⟨RX7, "eat", "()V"⟩
abbrev cX7_earn : ByteArray := prog_9_method_45_code
def yX7_earn : MethodName := ⟨RX7, "earn", "()V"⟩
def RX8 : String := "RockWatches"
def TX8 : u_T := fun k => match k with
  | 0 => ("RockWatches", "state", "LRockWatches$State;", true)
  | 1 => ("RockWatches", "history", "LRockWatches$History;", true)
  | 2 => ("RockWatches", "text", "LRockWatches$Text;", true)
  | _ => ("RockWatches", "forecast", "LRockWatches$World;", true)
def tyX8 : Nat → FieldType := fun k => match k with
  | 0 => .object "RockWatches$State"
  | 1 => .object "RockWatches$History"
  | 2 => .object "RockWatches$Text"
  | _ => .object "RockWatches$World"
abbrev wsX80 : List Cond := u_ws RX8 TX8 4
theorem nmX8 : ∀ a, a < 4 → ∀ b, b < 4 → a ≠ b → (TX8 a).2.1 ≠ (TX8 b).2.1 := by decide +kernel
theorem tyX8_ok : ∀ k, k < 4 → parseFieldDescriptor (TX8 k).2.2.1 = some (tyX8 k) := by decide +kernel
abbrev cX8_init : ByteArray := prog_1_method_1_code
def yX8_init : MethodName := ⟨RX8, "<init>", "()V"⟩
abbrev cX8_setTide : ByteArray := prog_1_method_2_code
def yX8_setTide : MethodName := ⟨RX8, "setTide", "(II)I"⟩
abbrev cX8_setSwell : ByteArray := prog_1_method_3_code
def yX8_setSwell : MethodName := ⟨RX8, "setSwell", "(II)I"⟩
abbrev cX8_addRock : ByteArray := prog_1_method_4_code
def yX8_addRock : MethodName := ⟨RX8, "addRock", "(III)I"⟩
abbrev cX8_setKeep : ByteArray := prog_1_method_5_code
def yX8_setKeep : MethodName := ⟨RX8, "setKeep", "(III)I"⟩
abbrev cX8_come : ByteArray := prog_1_method_6_code
def yX8_come : MethodName := ⟨RX8, "come", "(I)I"⟩
abbrev cX8_relieve : ByteArray := prog_1_method_7_code
def yX8_relieve : MethodName := ⟨RX8, "relieve", "(IIII)I"⟩
abbrev cX8_change : ByteArray := prog_1_method_8_code
def yX8_change : MethodName := ⟨RX8, "change", "(IIII)I"⟩
abbrev cX8_bring : ByteArray := prog_1_method_9_code
def yX8_bring : MethodName := ⟨RX8, "bring", "(IIII)I"⟩
abbrev cX8_cancel : ByteArray := prog_1_method_10_code
def yX8_cancel : MethodName := ⟨RX8, "cancel", "(I)I"⟩
abbrev cX8_exchange : ByteArray := prog_1_method_11_code
def yX8_exchange : MethodName := ⟨RX8, "exchange", "(II)I"⟩
abbrev cX8_pass : ByteArray := prog_1_method_12_code
def yX8_pass : MethodName := ⟨RX8, "pass", "(I)I"⟩
abbrev cX8_restore : ByteArray := prog_1_method_14_code
def yX8_restore : MethodName := ⟨RX8, "restore", "(I)I"⟩
abbrev cX8_undo : ByteArray := prog_1_method_15_code
def yX8_undo : MethodName := ⟨RX8, "undo", "()I"⟩
abbrev cX8_count : ByteArray := prog_1_method_19_code
def yX8_count : MethodName := ⟨RX8, "count", "(I)I"⟩
abbrev cX8_rock : ByteArray := prog_1_method_20_code
def yX8_rock : MethodName := ⟨RX8, "rock", "(II)I"⟩
abbrev cX8_store : ByteArray := prog_1_method_21_code
def yX8_store : MethodName := ⟨RX8, "store", "(III)I"⟩
abbrev cX8_keeper : ByteArray := prog_1_method_22_code
def yX8_keeper : MethodName := ⟨RX8, "keeper", "(II)I"⟩
abbrev cX8_turn : ByteArray := prog_1_method_23_code
def yX8_turn : MethodName := ⟨RX8, "turn", "(II)I"⟩
abbrev cX8_sea : ByteArray := prog_1_method_24_code
def yX8_sea : MethodName := ⟨RX8, "sea", "(II)I"⟩
abbrev cX8_landing : ByteArray := prog_1_method_25_code
def yX8_landing : MethodName := ⟨RX8, "landing", "(II)I"⟩
abbrev cX8_lasts : ByteArray := prog_1_method_28_code
def yX8_lasts : MethodName := ⟨RX8, "lasts", "(II)I"⟩
abbrev cX8_doneOn : ByteArray := prog_1_method_29_code
def yX8_doneOn : MethodName := ⟨RX8, "doneOn", "(I)I"⟩
abbrev cX8_later : ByteArray := prog_1_method_30_code
def yX8_later : MethodName := ⟨RX8, "later", "(III)I"⟩
abbrev cX8_nextOut : ByteArray := prog_1_method_31_code
def yX8_nextOut : MethodName := ⟨RX8, "nextOut", "()I"⟩
abbrev cX8_nextIn : ByteArray := prog_1_method_32_code
def yX8_nextIn : MethodName := ⟨RX8, "nextIn", "()I"⟩
abbrev cX8_prepare : ByteArray := prog_1_method_33_code
def yX8_prepare : MethodName := ⟨RX8, "prepare", "()V"⟩
abbrev cX8_conclude : ByteArray := prog_1_method_34_code
def yX8_conclude : MethodName := ⟨RX8, "conclude", "(I)I"⟩
abbrev cX8_within : ByteArray := prog_1_method_36_code
def yX8_within : MethodName := ⟨RX8, "within", "(III)Z"⟩
def RX9 : String := "RockWatchesModel"
def TX9 : u_T := fun k => match k with
  | _ => ("", "", "", false)
def tyX9 : Nat → FieldType := fun k => match k with
  | _ => .int
abbrev wsX90 : List Cond := u_ws RX9 TX9 0
theorem nmX9 : ∀ a, a < 0 → ∀ b, b < 0 → a ≠ b → (TX9 a).2.1 ≠ (TX9 b).2.1 := by decide +kernel
theorem tyX9_ok : ∀ k, k < 0 → parseFieldDescriptor (TX9 k).2.2.1 = some (tyX9 k) := by decide +kernel
def RJ9 : String := "java/lang/Math"
def TJ9 : u_T := fun k => match k with
  | _ => ("", "", "", false)
def tyJ9 : Nat → FieldType := fun k => match k with
  | _ => .int
abbrev wsJ90 : List Cond := u_ws RJ9 TJ9 0
theorem nmJ9 : ∀ a, a < 0 → ∀ b, b < 0 → a ≠ b → (TJ9 a).2.1 ≠ (TJ9 b).2.1 := by decide +kernel
theorem tyJ9_ok : ∀ k, k < 0 → parseFieldDescriptor (TJ9 k).2.2.1 = some (tyJ9 k) := by decide +kernel
abbrev cJ9_floorMod_7cf53 : ByteArray := prog_12_method_50_code
def yJ9_floorMod_7cf53 : MethodName := ⟨RJ9, "floorMod", "(II)I"⟩
abbrev cJ9_min_7cf53 : ByteArray := prog_12_method_69_code
def yJ9_min_7cf53 : MethodName := ⟨RJ9, "min", "(II)I"⟩
def RJ10 : String := "java/lang/System"
def TJ10 : u_T := fun k => match k with
  | _ => ("", "", "", false)
def tyJ10 : Nat → FieldType := fun k => match k with
  | _ => .int
abbrev wsJ100 : List Cond := u_ws RJ10 TJ10 0
theorem nmJ10 : ∀ a, a < 0 → ∀ b, b < 0 → a ≠ b → (TJ10 a).2.1 ≠ (TJ10 b).2.1 := by decide +kernel
theorem tyJ10_ok : ∀ k, k < 0 → parseFieldDescriptor (TJ10 k).2.2.1 = some (tyJ10 k) := by decide +kernel
def RL : String := "RockWatchesLaw"
abbrev cL_cell : ByteArray := method_2_code
def yL_cell : MethodName := ⟨RL, "cell", "([II)I"⟩
abbrev cL_low : ByteArray := method_3_code
def yL_low : MethodName := ⟨RL, "low", "(II)I"⟩
abbrev cL_digest : ByteArray := method_4_code
def yL_digest : MethodName := ⟨RL, "digest", "(LRockWatches;)J"⟩
abbrev cL_act : ByteArray := method_5_code
def yL_act : MethodName := ⟨RL, "act", "(LRockWatches;I)I"⟩
abbrev cL_isKept : ByteArray := method_6_code
def yL_isKept : MethodName := ⟨RL, "isKept", "(LRockWatches;[I)Z"⟩
abbrev cL_isNext : ByteArray := method_7_code
def yL_isNext : MethodName := ⟨RL, "isNext", "(LRockWatches;)Z"⟩
abbrev cL_comesTrue : ByteArray := method_8_code
def yL_comesTrue : MethodName := ⟨RL, "comesTrue", "(LRockWatches;I)Z"⟩
abbrev cL_law : ByteArray := code
def yL_law : MethodName := ⟨RL, "law", "([I)Z"⟩
abbrev vwCl : List vw_C := [(RX0, TX0, 3), (RX1, TX1, 7), (RX2, TX2, 6), (RX3, TX3, 2), (RX4, TX4, 5), (RX5, TX5, 5), (RX6, TX6, 8), (RX7, TX7, 12), (RX8, TX8, 4)]
