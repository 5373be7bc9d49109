section
-- ===== PART A: goes FIRST, ahead of the names: the tables' words, and 'selects' of the private methods out of them =====
/-- a private method of a class that the tables say can be made, by its rows of tables_1 -/
def lw_okq (q : MethodName × Nat) : Prop := (q.1.cls ≠ "java/lang/invoke/MethodHandle" ∧ q.1.cls ≠ "java/lang/invoke/VarHandle") ∧ Cond.instantiable q.1.cls q.2 ∈ tables_1 ∧ Cond.privateMethod q.1 ∈ tables_1 ∧ Cond.instanceMethod q.1 ∈ tables_1
theorem lw_p0 : lw_okq (⟨"RockWatches", "prepare", "()V"⟩, 4) := ⟨⟨by decide +kernel, by decide +kernel⟩, List.mem_of_getElem? (i := 13) (by decide +kernel), List.mem_of_getElem? (i := 284) (by decide +kernel), List.mem_of_getElem? (i := 285) (by decide +kernel)⟩
theorem lw_p1 : lw_okq (⟨"RockWatches", "conclude", "(I)I"⟩, 4) := ⟨⟨by decide +kernel, by decide +kernel⟩, List.mem_of_getElem? (i := 13) (by decide +kernel), List.mem_of_getElem? (i := 329) (by decide +kernel), List.mem_of_getElem? (i := 330) (by decide +kernel)⟩
def lw_privs_1 : List (MethodName × Nat) := [(⟨"RockWatches", "prepare", "()V"⟩, 4), (⟨"RockWatches", "conclude", "(I)I"⟩, 4)]
theorem lw_r1 : ∀ q ∈ lw_privs_1, lw_okq q := List.forall_mem_cons.mpr ⟨lw_p0, List.forall_mem_cons.mpr ⟨lw_p1, fun _ h => absurd h List.not_mem_nil⟩⟩
def lw_privs : List (MethodName × Nat) := lw_privs_1
def lw_tbl : List Cond := k2_sels lw_privs ++ tables_1
theorem lw_privs_ok : ∀ q ∈ lw_privs, lw_okq q := lw_r1
def RX0 : String := "RockWatches$History"
def TX0 : u_T := fun k => match k with
  | 0 => ("RockWatches$History", "states", "[LRockWatches$State;", true)
  | 1 => ("RockWatches$History", "oldest", "I", false)
  | _ => ("RockWatches$History", "size", "I", false)
def tyX0 : Nat → FieldType := fun k => match k with
  | 0 => .array (.object "RockWatches$State")
  | 1 => .int
  | _ => .int
abbrev wsX00 : List Cond := u_ws RX0 TX0 3
theorem nmX0 : ∀ a, a < 3 → ∀ b, b < 3 → a ≠ b → (TX0 a).2.1 ≠ (TX0 b).2.1 := by decide +kernel
theorem tyX0_ok : ∀ k, k < 3 → parseFieldDescriptor (TX0 k).2.2.1 = some (tyX0 k) := by decide +kernel
abbrev cX0_init : ByteArray := prog_2_method_1_code
def yX0_init : MethodName := ⟨RX0, "<init>", "()V"⟩
abbrev cX0_spare : ByteArray := prog_2_method_2_code
def yX0_spare : MethodName := ⟨RX0, "spare", "()LRockWatches$State;"⟩
abbrev cX0_recordSpare : ByteArray := prog_2_method_3_code
def yX0_recordSpare : MethodName := ⟨RX0, "recordSpare", "()V"⟩
abbrev cX0_makeLatestSpare : ByteArray := prog_2_method_4_code
def yX0_makeLatestSpare : MethodName := ⟨RX0, "makeLatestSpare", "()V"⟩
def RX1 : String := "RockWatches$Keeper"
def TX1 : u_T := fun k => match k with
  | 0 => ("RockWatches$Keeper", "rank", "I", false)
  | 1 => ("RockWatches$Keeper", "rock", "I", false)
  | 2 => ("RockWatches$Keeper", "owed", "I", false)
  | 3 => ("RockWatches$Keeper", "daysOut", "I", false)
  | 4 => ("RockWatches$Keeper", "doubledDays", "I", false)
  | 5 => ("RockWatches$Keeper", "leaveDays", "I", false)
  | _ => ("RockWatches$Keeper", "idleDays", "I", false)
def tyX1 : Nat → FieldType := fun k => match k with
  | 0 => .int
  | 1 => .int
  | 2 => .int
  | 3 => .int
  | 4 => .int
  | 5 => .int
  | _ => .int
abbrev wsX10 : List Cond := u_ws RX1 TX1 7
theorem nmX1 : ∀ a, a < 7 → ∀ b, b < 7 → a ≠ b → (TX1 a).2.1 ≠ (TX1 b).2.1 := by decide +kernel
theorem tyX1_ok : ∀ k, k < 7 → parseFieldDescriptor (TX1 k).2.2.1 = some (tyX1 k) := by decide +kernel
abbrev cX1_init : ByteArray := prog_3_method_1_code
def yX1_init : MethodName := ⟨RX1, "<init>", "()V"⟩
abbrev cX1_copyFrom : ByteArray := prog_3_method_2_code
def yX1_copyFrom : MethodName := ⟨RX1, "copyFrom", "(LRockWatches$Keeper;)V"⟩
abbrev cX1_spendDayOut : ByteArray := prog_3_method_3_code
def yX1_spendDayOut : MethodName := ⟨RX1, "spendDayOut", "(Z)V"⟩
abbrev cX1_spendDayAshore : ByteArray := prog_3_method_4_code
def yX1_spendDayAshore : MethodName := ⟨RX1, "spendDayAshore", "()V"⟩
abbrev cX1_goesOutBefore : ByteArray := prog_3_method_5_code
def yX1_goesOutBefore : MethodName := ⟨RX1, "goesOutBefore", "(LRockWatches$Keeper;)Z"⟩
abbrev cX1_comesInBefore : ByteArray := prog_3_method_6_code
def yX1_comesInBefore : MethodName := ⟨RX1, "comesInBefore", "(LRockWatches$Keeper;)Z"⟩
abbrev cX1_unitsOfADay : ByteArray := prog_3_method_7_code
def yX1_unitsOfADay : MethodName := ⟨RX1, "unitsOfADay", "(I)I"⟩
def RX2 : String := "RockWatches$Rock"
def TX2 : u_T := fun k => match k with
  | 0 => ("RockWatches$Rock", "height", "I", false)
  | 1 => ("RockWatches$Rock", "swell", "I", false)
  | 2 => ("RockWatches$Rock", "posts", "I", false)
  | 3 => ("RockWatches$Rock", "doubledDays", "I", false)
  | 4 => ("RockWatches$Rock", "lastDoubled", "I", false)
  | _ => ("RockWatches$Rock", "stores", "[LRockWatches$Store;", true)
def tyX2 : Nat → FieldType := fun k => match k with
  | 0 => .int
  | 1 => .int
  | 2 => .int
  | 3 => .int
  | 4 => .int
  | _ => .array (.object "RockWatches$Store")
abbrev wsX20 : List Cond := u_ws RX2 TX2 6
theorem nmX2 : ∀ a, a < 6 → ∀ b, b < 6 → a ≠ b → (TX2 a).2.1 ≠ (TX2 b).2.1 := by decide +kernel
theorem tyX2_ok : ∀ k, k < 6 → parseFieldDescriptor (TX2 k).2.2.1 = some (tyX2 k) := by decide +kernel
abbrev cX2_init : ByteArray := prog_4_method_1_code
def yX2_init : MethodName := ⟨RX2, "<init>", "()V"⟩
abbrev cX2_start : ByteArray := prog_4_method_2_code
def yX2_start : MethodName := ⟨RX2, "start", "(III)V"⟩
abbrev cX2_copyFrom : ByteArray := prog_4_method_3_code
def yX2_copyFrom : MethodName := ⟨RX2, "copyFrom", "(LRockWatches$Rock;)V"⟩
abbrev cX2_doubleDay : ByteArray := prog_4_method_4_code
def yX2_doubleDay : MethodName := ⟨RX2, "doubleDay", "(I)V"⟩
def RX3 : String := "RockWatches$State"
def TX3 : u_T := fun k => match k with
  | 0 => ("RockWatches$State", "world", "LRockWatches$World;", true)
  | _ => ("RockWatches$State", "snapshots", "[LRockWatches$World;", true)
def tyX3 : Nat → FieldType := fun k => match k with
  | 0 => .object "RockWatches$World"
  | _ => .array (.object "RockWatches$World")
abbrev wsX30 : List Cond := u_ws RX3 TX3 2
theorem nmX3 : ∀ a, a < 2 → ∀ b, b < 2 → a ≠ b → (TX3 a).2.1 ≠ (TX3 b).2.1 := by decide +kernel
theorem tyX3_ok : ∀ k, k < 2 → parseFieldDescriptor (TX3 k).2.2.1 = some (tyX3 k) := by decide +kernel
abbrev cX3_init : ByteArray := prog_5_method_1_code
def yX3_init : MethodName := ⟨RX3, "<init>", "()V"⟩
abbrev cX3_copyFrom : ByteArray := prog_5_method_2_code
def yX3_copyFrom : MethodName := ⟨RX3, "copyFrom", "(LRockWatches$State;)V"⟩
abbrev cX3_returnToSnapshot : ByteArray := prog_5_method_4_code
def yX3_returnToSnapshot : MethodName := ⟨RX3, "returnToSnapshot", "(I)I"⟩
abbrev cX3_snapshotCount : ByteArray := prog_5_method_5_code
def yX3_snapshotCount : MethodName := ⟨RX3, "snapshotCount", "()I"⟩
def RX4 : String := "RockWatches$Store"
def TX4 : u_T := fun k => match k with
  | 0 => ("RockWatches$Store", "amount", "I", false)
  | 1 => ("RockWatches$Store", "keep", "I", false)
  | 2 => ("RockWatches$Store", "eaten", "I", false)
  | 3 => ("RockWatches$Store", "lacking", "I", false)
  | _ => ("RockWatches$Store", "delivered", "I", false)
def tyX4 : Nat → FieldType := fun k => match k with
  | 0 => .int
  | 1 => .int
  | 2 => .int
  | 3 => .int
  | _ => .int
abbrev wsX40 : List Cond := u_ws RX4 TX4 5
theorem nmX4 : ∀ a, a < 5 → ∀ b, b < 5 → a ≠ b → (TX4 a).2.1 ≠ (TX4 b).2.1 := by decide +kernel
theorem tyX4_ok : ∀ k, k < 5 → parseFieldDescriptor (TX4 k).2.2.1 = some (tyX4 k) := by decide +kernel
abbrev cX4_init : ByteArray := prog_6_method_1_code
def yX4_init : MethodName := ⟨RX4, "<init>", "()V"⟩
abbrev cX4_copyFrom : ByteArray := prog_6_method_2_code
def yX4_copyFrom : MethodName := ⟨RX4, "copyFrom", "(LRockWatches$Store;)V"⟩
abbrev cX4_receive : ByteArray := prog_6_method_3_code
def yX4_receive : MethodName := ⟨RX4, "receive", "(I)V"⟩
abbrev cX4_feed : ByteArray := prog_6_method_4_code
def yX4_feed : MethodName := ⟨RX4, "feed", "(I)V"⟩
abbrev cX4_need : ByteArray := prog_6_method_5_code
def yX4_need : MethodName := ⟨RX4, "need", "(II)I"⟩
def RX5 : String := "RockWatches$Text"
def TX5 : u_T := fun k => match k with
  | 0 => ("RockWatches$Text", "characters", "[C", true)
  | 1 => ("RockWatches$Text", "numbers", "[I", true)
  | 2 => ("RockWatches$Text", "length", "I", false)
  | 3 => ("RockWatches$Text", "start", "I", false)
  | _ => ("RockWatches$Text", "end", "I", false)
def tyX5 : Nat → FieldType := fun k => match k with
  | 0 => .array .char
  | 1 => .array .int
  | 2 => .int
  | 3 => .int
  | _ => .int
abbrev wsX50 : List Cond := u_ws RX5 TX5 5
theorem nmX5 : ∀ a, a < 5 → ∀ b, b < 5 → a ≠ b → (TX5 a).2.1 ≠ (TX5 b).2.1 := by decide +kernel
theorem tyX5_ok : ∀ k, k < 5 → parseFieldDescriptor (TX5 k).2.2.1 = some (tyX5 k) := by decide +kernel
abbrev cX5_init : ByteArray := prog_7_method_1_code
def yX5_init : MethodName := ⟨RX5, "<init>", "()V"⟩
def RX6 : String := "RockWatches$Turn"
def TX6 : u_T := fun k => match k with
  | 0 => ("RockWatches$Turn", "kind", "I", false)
  | 1 => ("RockWatches$Turn", "rock", "I", false)
  | 2 => ("RockWatches$Turn", "day", "I", false)
  | 3 => ("RockWatches$Turn", "in", "I", false)
  | 4 => ("RockWatches$Turn", "out", "I", false)
  | 5 => ("RockWatches$Turn", "store", "I", false)
  | 6 => ("RockWatches$Turn", "amount", "I", false)
  | _ => ("RockWatches$Turn", "doneOn", "I", false)
def tyX6 : Nat → FieldType := fun k => match k with
  | 0 => .int
  | 1 => .int
  | 2 => .int
  | 3 => .int
  | 4 => .int
  | 5 => .int
  | 6 => .int
  | _ => .int
abbrev wsX60 : List Cond := u_ws RX6 TX6 8
theorem nmX6 : ∀ a, a < 8 → ∀ b, b < 8 → a ≠ b → (TX6 a).2.1 ≠ (TX6 b).2.1 := by decide +kernel
theorem tyX6_ok : ∀ k, k < 8 → parseFieldDescriptor (TX6 k).2.2.1 = some (tyX6 k) := by decide +kernel
abbrev cX6_init : ByteArray := prog_8_method_1_code
def yX6_init : MethodName := ⟨RX6, "<init>", "()V"⟩
abbrev cX6_start : ByteArray := prog_8_method_2_code
def yX6_start : MethodName := ⟨RX6, "start", "(III)V"⟩
abbrev cX6_copyFrom : ByteArray := prog_8_method_3_code
def yX6_copyFrom : MethodName := ⟨RX6, "copyFrom", "(LRockWatches$Turn;)V"⟩
def RX7 : String := "RockWatches$World"
def TX7 : u_T := fun k => match k with
  | 0 => ("RockWatches$World", "today", "I", false)
  | 1 => ("RockWatches$World", "done", "I", false)
  | 2 => ("RockWatches$World", "dropped", "I", false)
  | 3 => ("RockWatches$World", "missed", "I", false)
  | 4 => ("RockWatches$World", "rockCount", "I", false)
  | 5 => ("RockWatches$World", "keeperCount", "I", false)
  | 6 => ("RockWatches$World", "turnCount", "I", false)
  | 7 => ("RockWatches$World", "tides", "[I", true)
  | 8 => ("RockWatches$World", "swells", "[I", true)
  | 9 => ("RockWatches$World", "rocks", "[LRockWatches$Rock;", true)
  | 10 => ("RockWatches$World", "keepers", "[LRockWatches$Keeper;", true)
  | _ => ("RockWatches$World", "turns", "[LRockWatches$Turn;", true)
def tyX7 : Nat → FieldType := fun k => match k with
  | 0 => .int
  | 1 => .int
  | 2 => .int
  | 3 => .int
  | 4 => .int
  | 5 => .int
  | 6 => .int
  | 7 => .array .int
  | 8 => .array .int
  | 9 => .array (.object "RockWatches$Rock")
  | 10 => .array (.object "RockWatches$Keeper")
  | _ => .array (.object "RockWatches$Turn")
abbrev wsX70 : List Cond := u_ws RX7 TX7 12
theorem nmX7 : ∀ a, a < 12 → ∀ b, b < 12 → a ≠ b → (TX7 a).2.1 ≠ (TX7 b).2.1 := by decide +kernel
theorem tyX7_ok : ∀ k, k < 12 → parseFieldDescriptor (TX7 k).2.2.1 = some (tyX7 k) := by decide +kernel
abbrev cX7_init : ByteArray := prog_9_method_1_code
def yX7_init : MethodName := ⟨RX7, "<init>", "()V"⟩
abbrev cX7_copyFrom : ByteArray := prog_9_method_2_code
def yX7_copyFrom : MethodName := ⟨RX7, "copyFrom", "(LRockWatches$World;)V"⟩
abbrev cX7_hasRock : ByteArray := prog_9_method_3_code
def yX7_hasRock : MethodName := ⟨RX7, "hasRock", "(I)Z"⟩
abbrev cX7_hasStore : ByteArray := prog_9_method_4_code
def yX7_hasStore : MethodName := ⟨RX7, "hasStore", "(II)Z"⟩
abbrev cX7_hasKeeper : ByteArray := prog_9_method_5_code
def yX7_hasKeeper : MethodName := ⟨RX7, "hasKeeper", "(I)Z"⟩
abbrev cX7_hasTurn : ByteArray := prog_9_method_6_code
def yX7_hasTurn : MethodName := ⟨RX7, "hasTurn", "(I)Z"⟩
abbrev cX7_isDay : ByteArray := prog_9_method_7_code
def yX7_isDay : MethodName := ⟨RX7, "isDay", "(I)Z"⟩
abbrev cX7_putTide : ByteArray := prog_9_method_8_code
def yX7_putTide : MethodName := ⟨RX7, "putTide", "(II)I"⟩
abbrev cX7_putSwell : ByteArray := prog_9_method_9_code
def yX7_putSwell : MethodName := ⟨RX7, "putSwell", "(II)I"⟩
abbrev cX7_seaPart : ByteArray := prog_9_method_10_code
def yX7_seaPart : MethodName := ⟨RX7, "seaPart", "(II)I"⟩
abbrev cX7_allowsLanding : ByteArray := prog_9_method_11_code
def yX7_allowsLanding : MethodName := ⟨RX7, "allowsLanding", "(LRockWatches$Rock;I)Z"⟩
abbrev cX7_firstLanding : ByteArray := prog_9_method_12_code
def yX7_firstLanding : MethodName := ⟨RX7, "firstLanding", "(II)I"⟩
abbrev cX7_placeRock : ByteArray := prog_9_method_16_code
def yX7_placeRock : MethodName := ⟨RX7, "placeRock", "(III)I"⟩
abbrev cX7_rockPart : ByteArray := prog_9_method_17_code
def yX7_rockPart : MethodName := ⟨RX7, "rockPart", "(II)I"⟩
abbrev cX7_turnsFor : ByteArray := prog_9_method_18_code
def yX7_turnsFor : MethodName := ⟨RX7, "turnsFor", "(I)I"⟩
abbrev cX7_firstKeeperOn : ByteArray := prog_9_method_19_code
def yX7_firstKeeperOn : MethodName := ⟨RX7, "firstKeeperOn", "(I)I"⟩
abbrev cX7_putKeep : ByteArray := prog_9_method_20_code
def yX7_putKeep : MethodName := ⟨RX7, "putKeep", "(III)I"⟩
abbrev cX7_storePart : ByteArray := prog_9_method_21_code
def yX7_storePart : MethodName := ⟨RX7, "storePart", "(III)I"⟩
abbrev cX7_daysEnough : ByteArray := prog_9_method_22_code
def yX7_daysEnough : MethodName := ⟨RX7, "daysEnough", "(II)I"⟩
abbrev cX7_addKeeper : ByteArray := prog_9_method_23_code
def yX7_addKeeper : MethodName := ⟨RX7, "addKeeper", "(I)I"⟩
abbrev cX7_keeperPart : ByteArray := prog_9_method_24_code
def yX7_keeperPart : MethodName := ⟨RX7, "keeperPart", "(II)I"⟩
abbrev cX7_keepersAt : ByteArray := prog_9_method_25_code
def yX7_keepersAt : MethodName := ⟨RX7, "keepersAt", "(I)I"⟩
abbrev cX7_isAt : ByteArray := prog_9_method_26_code
def yX7_isAt : MethodName := ⟨RX7, "isAt", "(II)Z"⟩
abbrev cX7_moveTo : ByteArray := prog_9_method_27_code
def yX7_moveTo : MethodName := ⟨RX7, "moveTo", "(II)V"⟩
abbrev cX7_nextToGoOut : ByteArray := prog_9_method_28_code
def yX7_nextToGoOut : MethodName := ⟨RX7, "nextToGoOut", "()I"⟩
abbrev cX7_isToGoOut : ByteArray := prog_9_method_29_code
def yX7_isToGoOut : MethodName := ⟨RX7, "isToGoOut", "(I)Z"⟩
abbrev cX7_nextToComeIn : ByteArray := prog_9_method_30_code
def yX7_nextToComeIn : MethodName := ⟨RX7, "nextToComeIn", "()I"⟩
abbrev cX7_isToComeIn : ByteArray := prog_9_method_31_code
def yX7_isToComeIn : MethodName := ⟨RX7, "isToComeIn", "(I)Z"⟩
abbrev cX7_planRelief : ByteArray := prog_9_method_32_code
def yX7_planRelief : MethodName := ⟨RX7, "planRelief", "(IIII)I"⟩
abbrev cX7_planChange : ByteArray := prog_9_method_33_code
def yX7_planChange : MethodName := ⟨RX7, "planChange", "(IIII)I"⟩
abbrev cX7_planDelivery : ByteArray := prog_9_method_34_code
def yX7_planDelivery : MethodName := ⟨RX7, "planDelivery", "(IIII)I"⟩
abbrev cX7_plan : ByteArray := prog_9_method_35_code
def yX7_plan : MethodName := ⟨RX7, "plan", "(III)I"⟩
abbrev cX7_removeTurn : ByteArray := prog_9_method_36_code
def yX7_removeTurn : MethodName := ⟨RX7, "removeTurn", "(I)I"⟩
abbrev cX7_swapKeepersOut : ByteArray := prog_9_method_37_code
def yX7_swapKeepersOut : MethodName := ⟨RX7, "swapKeepersOut", "(II)I"⟩
abbrev cX7_turnPart : ByteArray := prog_9_method_38_code
def yX7_turnPart : MethodName := ⟨RX7, "turnPart", "(II)I"⟩
abbrev cX7_passDays : ByteArray := prog_9_method_39_code
def yX7_passDays : MethodName := ⟨RX7, "passDays", "(I)I"⟩
abbrev cX7_keeperPartBehind : ByteArray := prog_9_method_40_code
def yX7_keeperPartBehind : MethodName := ⟨RX7, "keeperPartBehind", "(III)I"⟩
abbrev cX7_passUntilDone : ByteArray := prog_9_method_41_code
def yX7_passUntilDone : MethodName := ⟨RX7, "passUntilDone", "(I)I"⟩
abbrev cX7_goThroughTurns : ByteArray := prog_9_method_42_code
def yX7_goThroughTurns : MethodName := ⟨RX7, "goThroughTurns", "()V"⟩
abbrev cX7_carryOut : ByteArray := prog_9_method_43_code
def yX7_carryOut : MethodName := ⟨RX7, "carryOut", "(LRockWatches$Turn;LRockWatches$Rock;)Z"⟩
abbrev cX7_eat : ByteArray := prog_9_method_44_code
def yX7_eat : MethodName := ⟨RX7, "eat", "()V"⟩
abbrev cX7_earn : ByteArray := prog_9_method_45_code
def yX7_earn : MethodName := ⟨RX7, "earn", "()V"⟩
def RX8 : String := "RockWatches"
def TX8 : u_T := fun k => match k with
  | 0 => ("RockWatches", "state", "LRockWatches$State;", true)
  | 1 => ("RockWatches", "history", "LRockWatches$History;", true)
  | 2 => ("RockWatches", "text", "LRockWatches$Text;", true)
  | _ => ("RockWatches", "forecast", "LRockWatches$World;", true)
def tyX8 : Nat → FieldType := fun k => match k with
  | 0 => .object "RockWatches$State"
  | 1 => .object "RockWatches$History"
  | 2 => .object "RockWatches$Text"
  | _ => .object "RockWatches$World"
abbrev wsX80 : List Cond := u_ws RX8 TX8 4
theorem nmX8 : ∀ a, a < 4 → ∀ b, b < 4 → a ≠ b → (TX8 a).2.1 ≠ (TX8 b).2.1 := by decide +kernel
theorem tyX8_ok : ∀ k, k < 4 → parseFieldDescriptor (TX8 k).2.2.1 = some (tyX8 k) := by decide +kernel
abbrev cX8_init : ByteArray := prog_1_method_1_code
def yX8_init : MethodName := ⟨RX8, "<init>", "()V"⟩
abbrev cX8_setTide : ByteArray := prog_1_method_2_code
def yX8_setTide : MethodName := ⟨RX8, "setTide", "(II)I"⟩
abbrev cX8_setSwell : ByteArray := prog_1_method_3_code
def yX8_setSwell : MethodName := ⟨RX8, "setSwell", "(II)I"⟩
abbrev cX8_addRock : ByteArray := prog_1_method_4_code
def yX8_addRock : MethodName := ⟨RX8, "addRock", "(III)I"⟩
abbrev cX8_setKeep : ByteArray := prog_1_method_5_code
def yX8_setKeep : MethodName := ⟨RX8, "setKeep", "(III)I"⟩
abbrev cX8_come : ByteArray := prog_1_method_6_code
def yX8_come : MethodName := ⟨RX8, "come", "(I)I"⟩
abbrev cX8_relieve : ByteArray := prog_1_method_7_code
def yX8_relieve : MethodName := ⟨RX8, "relieve", "(IIII)I"⟩
abbrev cX8_change : ByteArray := prog_1_method_8_code
def yX8_change : MethodName := ⟨RX8, "change", "(IIII)I"⟩
abbrev cX8_bring : ByteArray := prog_1_method_9_code
def yX8_bring : MethodName := ⟨RX8, "bring", "(IIII)I"⟩
abbrev cX8_cancel : ByteArray := prog_1_method_10_code
def yX8_cancel : MethodName := ⟨RX8, "cancel", "(I)I"⟩
abbrev cX8_exchange : ByteArray := prog_1_method_11_code
def yX8_exchange : MethodName := ⟨RX8, "exchange", "(II)I"⟩
abbrev cX8_pass : ByteArray := prog_1_method_12_code
def yX8_pass : MethodName := ⟨RX8, "pass", "(I)I"⟩
abbrev cX8_restore : ByteArray := prog_1_method_14_code
def yX8_restore : MethodName := ⟨RX8, "restore", "(I)I"⟩
abbrev cX8_undo : ByteArray := prog_1_method_15_code
def yX8_undo : MethodName := ⟨RX8, "undo", "()I"⟩
abbrev cX8_count : ByteArray := prog_1_method_19_code
def yX8_count : MethodName := ⟨RX8, "count", "(I)I"⟩
abbrev cX8_rock : ByteArray := prog_1_method_20_code
def yX8_rock : MethodName := ⟨RX8, "rock", "(II)I"⟩
abbrev cX8_store : ByteArray := prog_1_method_21_code
def yX8_store : MethodName := ⟨RX8, "store", "(III)I"⟩
abbrev cX8_keeper : ByteArray := prog_1_method_22_code
def yX8_keeper : MethodName := ⟨RX8, "keeper", "(II)I"⟩
abbrev cX8_turn : ByteArray := prog_1_method_23_code
def yX8_turn : MethodName := ⟨RX8, "turn", "(II)I"⟩
abbrev cX8_sea : ByteArray := prog_1_method_24_code
def yX8_sea : MethodName := ⟨RX8, "sea", "(II)I"⟩
abbrev cX8_landing : ByteArray := prog_1_method_25_code
def yX8_landing : MethodName := ⟨RX8, "landing", "(II)I"⟩
abbrev cX8_lasts : ByteArray := prog_1_method_28_code
def yX8_lasts : MethodName := ⟨RX8, "lasts", "(II)I"⟩
abbrev cX8_doneOn : ByteArray := prog_1_method_29_code
def yX8_doneOn : MethodName := ⟨RX8, "doneOn", "(I)I"⟩
abbrev cX8_later : ByteArray := prog_1_method_30_code
def yX8_later : MethodName := ⟨RX8, "later", "(III)I"⟩
abbrev cX8_nextOut : ByteArray := prog_1_method_31_code
def yX8_nextOut : MethodName := ⟨RX8, "nextOut", "()I"⟩
abbrev cX8_nextIn : ByteArray := prog_1_method_32_code
def yX8_nextIn : MethodName := ⟨RX8, "nextIn", "()I"⟩
abbrev cX8_prepare : ByteArray := prog_1_method_33_code
def yX8_prepare : MethodName := ⟨RX8, "prepare", "()V"⟩
abbrev cX8_conclude : ByteArray := prog_1_method_34_code
def yX8_conclude : MethodName := ⟨RX8, "conclude", "(I)I"⟩
abbrev cX8_within : ByteArray := prog_1_method_36_code
def yX8_within : MethodName := ⟨RX8, "within", "(III)Z"⟩
def RX9 : String := "RockWatchesModel"
def TX9 : u_T := fun k => match k with
  | _ => ("", "", "", false)
def tyX9 : Nat → FieldType := fun k => match k with
  | _ => .int
abbrev wsX90 : List Cond := u_ws RX9 TX9 0
theorem nmX9 : ∀ a, a < 0 → ∀ b, b < 0 → a ≠ b → (TX9 a).2.1 ≠ (TX9 b).2.1 := by decide +kernel
theorem tyX9_ok : ∀ k, k < 0 → parseFieldDescriptor (TX9 k).2.2.1 = some (tyX9 k) := by decide +kernel
def RJ9 : String := "java/lang/Math"
def TJ9 : u_T := fun k => match k with
  | _ => ("", "", "", false)
def tyJ9 : Nat → FieldType := fun k => match k with
  | _ => .int
abbrev wsJ90 : List Cond := u_ws RJ9 TJ9 0
theorem nmJ9 : ∀ a, a < 0 → ∀ b, b < 0 → a ≠ b → (TJ9 a).2.1 ≠ (TJ9 b).2.1 := by decide +kernel
theorem tyJ9_ok : ∀ k, k < 0 → parseFieldDescriptor (TJ9 k).2.2.1 = some (tyJ9 k) := by decide +kernel
abbrev cJ9_floorMod_7cf53 : ByteArray := prog_12_method_50_code
def yJ9_floorMod_7cf53 : MethodName := ⟨RJ9, "floorMod", "(II)I"⟩
abbrev cJ9_min_7cf53 : ByteArray := prog_12_method_69_code
def yJ9_min_7cf53 : MethodName := ⟨RJ9, "min", "(II)I"⟩
def RJ10 : String := "java/lang/System"
def TJ10 : u_T := fun k => match k with
  | _ => ("", "", "", false)
def tyJ10 : Nat → FieldType := fun k => match k with
  | _ => .int
abbrev wsJ100 : List Cond := u_ws RJ10 TJ10 0
theorem nmJ10 : ∀ a, a < 0 → ∀ b, b < 0 → a ≠ b → (TJ10 a).2.1 ≠ (TJ10 b).2.1 := by decide +kernel
theorem tyJ10_ok : ∀ k, k < 0 → parseFieldDescriptor (TJ10 k).2.2.1 = some (tyJ10 k) := by decide +kernel
def RL : String := "RockWatchesLaw"
abbrev cL_cell : ByteArray := method_2_code
def yL_cell : MethodName := ⟨RL, "cell", "([II)I"⟩
abbrev cL_low : ByteArray := method_3_code
def yL_low : MethodName := ⟨RL, "low", "(II)I"⟩
abbrev cL_digest : ByteArray := method_4_code
def yL_digest : MethodName := ⟨RL, "digest", "(LRockWatches;)J"⟩
abbrev cL_act : ByteArray := method_5_code
def yL_act : MethodName := ⟨RL, "act", "(LRockWatches;I)I"⟩
abbrev cL_isKept : ByteArray := method_6_code
def yL_isKept : MethodName := ⟨RL, "isKept", "(LRockWatches;[I)Z"⟩
abbrev cL_isNext : ByteArray := method_7_code
def yL_isNext : MethodName := ⟨RL, "isNext", "(LRockWatches;)Z"⟩
abbrev cL_comesTrue : ByteArray := method_8_code
def yL_comesTrue : MethodName := ⟨RL, "comesTrue", "(LRockWatches;I)Z"⟩
abbrev cL_law : ByteArray := code
def yL_law : MethodName := ⟨RL, "law", "([I)Z"⟩
abbrev vwCl : List vw_C := [(RX0, TX0, 3), (RX1, TX1, 7), (RX2, TX2, 6), (RX3, TX3, 2), (RX4, TX4, 5), (RX5, TX5, 5), (RX6, TX6, 8), (RX7, TX7, 12), (RX8, TX8, 4)]
end
section
/-! A small machine over a heap of functions, and that the real one does what it says. -/
def zG : List Cond := lw_tbl.filter goodWord
def zw (ti : Nat) (w : Cond) : Bool := decide (lw_tbl[ti]? = some w) && goodWord w
theorem zw_spec {ti : Nat} {w : Cond} (h : zw ti w = true) : w ∈ zG := by
  unfold zw at h
  simp only [Bool.and_eq_true, decide_eq_true_eq] at h
  exact List.mem_filter.mpr ⟨List.mem_of_getElem? h.1, h.2⟩
abbrev zV : Type := Int32 ⊕ Nat
/-- a reference: 0 is null, n + 1 the address n -/
def zo (n : Nat) : Option Nat := if n = 0 then none else some (n - 1)
def zrf (n : Nat) : Value := va_rf (zo n)
def zval : zV → Value
  | .inl x => .int x
  | .inr n => zrf n
theorem zrf_0 : zrf 0 = .null := rfl
theorem zrf_pos {n : Nat} (h : n ≠ 0) : zrf n = .ref (n - 1) := by simp [zrf, zo, h, va_rf]
theorem zrf_cases (n : Nat) : (n = 0 ∧ zrf n = .null) ∨ (n ≠ 0 ∧ zrf n = .ref (n - 1)) := by
  by_cases h : n = 0
  · exact Or.inl ⟨h, by rw [h]; rfl⟩
  · exact Or.inr ⟨h, zrf_pos h⟩
theorem zval_cat (v : zV) : (zval v).category = 1 := by
  cases v with
  | inl x => rfl
  | inr n => rcases zrf_cases n with ⟨-, h⟩ | ⟨-, h⟩ <;> (show (zrf n).category = 1; rw [h]; rfl)
/-- a heap: size, kind of each address (0 none, c + 1 an object of class c, 20 + j an array of kind j), lengths, ints, refs (0 null) -/
abbrev zH : Type := Nat × (Nat → Nat) × (Nat → Nat) × (Nat → Nat → Int32) × (Nat → Nat → Nat)
def zsz (h : zH) : Nat := h.1
def zk (h : zH) : Nat → Nat := h.2.1
def zn (h : zH) : Nat → Nat := h.2.2.1
def zi (h : zH) : Nat → Nat → Int32 := h.2.2.2.1
def zr (h : zH) : Nat → Nat → Nat := h.2.2.2.2
def zup {α : Type} (f : Nat → α) (k : Nat) (v : α) : Nat → α := fun j => if j = k then v else f j
def zup2 {α : Type} (f : Nat → Nat → α) (a k : Nat) (v : α) : Nat → Nat → α := fun b j => if b = a ∧ j = k then v else f b j
def zpi (h : zH) (a k : Nat) (x : Int32) : zH := (zsz h, zk h, zn h, zup2 (zi h) a k x, zr h)
def zpr (h : zH) (a k : Nat) (x : Nat) : zH := (zsz h, zk h, zn h, zi h, zup2 (zr h) a k x)
def zpa (h : zH) (a : Nat) (f : Nat → Int32) : zH := (zsz h, zk h, zn h, zup (zi h) a f, zr h)
def znew (h : zH) (kind len : Nat) : zH := (zsz h + 1, zup (zk h) (zsz h) kind, zup (zn h) (zsz h) len, zup (zi h) (zsz h) (fun _ => 0), zup (zr h) (zsz h) (fun _ => 0))
-- classes: field types by class
def zty (ci : Nat) : Nat → FieldType := match ci with
  | 0 => tyX0 | 1 => tyX1 | 2 => tyX2 | 3 => tyX3 | 4 => tyX4 | 5 => tyX5 | 6 => tyX6 | 7 => tyX7 | _ => tyX8
def zisr (t : FieldType) : Bool := match t with
  | .object _ => true | .array _ => true | _ => false
def zfld (h : zH) (a ci k : Nat) : Value := if zisr (zty ci k) then zrf (zr h a k) else .int (zi h a k)
def zN (ci : Nat) : Nat := match ci with
  | 0 => 3 | 1 => 7 | 2 => 6 | 3 => 2 | 4 => 5 | 5 => 5 | 6 => 8 | 7 => 12 | _ => 4
def zC (ci : Nat) : String := match ci with
  | 0 => RX0 | 1 => RX1 | 2 => RX2 | 3 => RX3 | 4 => RX4 | 5 => RX5 | 6 => RX6 | 7 => RX7 | _ => RX8
def zT (ci : Nat) : u_T := match ci with
  | 0 => TX0 | 1 => TX1 | 2 => TX2 | 3 => TX3 | 4 => TX4 | 5 => TX5 | 6 => TX6 | 7 => TX7 | _ => TX8
theorem zlt9 {P : Nat → Prop} (h0 : P 0) (h1 : P 1) (h2 : P 2) (h3 : P 3) (h4 : P 4) (h5 : P 5) (h6 : P 6) (h7 : P 7) (h8 : P 8) : ∀ ci, ci < 9 → P ci := by
  intro ci h
  rcases (show ci = 0 ∨ ci = 1 ∨ ci = 2 ∨ ci = 3 ∨ ci = 4 ∨ ci = 5 ∨ ci = 6 ∨ ci = 7 ∨ ci = 8 by omega) with rfl | rfl | rfl | rfl | rfl | rfl | rfl | rfl | rfl <;> assumption
theorem zcl : ∀ ci, ci < 9 → vwCl[ci]? = some (zC ci, zT ci, zN ci) := zlt9 rfl rfl rfl rfl rfl rfl rfl rfl rfl
theorem ztyok : ∀ ci, ci < 9 → ∀ k, k < zN ci → parseFieldDescriptor (zT ci k).2.2.1 = some (zty ci k) := zlt9 tyX0_ok tyX1_ok tyX2_ok tyX3_ok tyX4_ok tyX5_ok tyX6_ok tyX7_ok tyX8_ok
theorem znm : ∀ ci, ci < 9 → ∀ a, a < zN ci → ∀ b, b < zN ci → a ≠ b → (zT ci a).2.1 ≠ (zT ci b).2.1 := zlt9 nmX0 nmX1 nmX2 nmX3 nmX4 nmX5 nmX6 nmX7 nmX8
set_option maxRecDepth 100000 in
theorem zws_in : ∀ ci, ci < 9 → ∀ w ∈ u_ws (zC ci) (zT ci) (zN ci), w ∈ zG := by
  have key : ∀ ci, ci < 9 → (u_ws (zC ci) (zT ci) (zN ci)).all (fun w => decide (w ∈ lw_tbl) && goodWord w) = true := zlt9 (by decide +kernel) (by decide +kernel) (by decide +kernel) (by decide +kernel) (by decide +kernel) (by decide +kernel) (by decide +kernel) (by decide +kernel) (by decide +kernel)
  intro ci h w hw
  have h1 := List.all_eq_true.mp (key ci h) w hw
  simp only [Bool.and_eq_true, decide_eq_true_eq] at h1
  exact List.mem_filter.mpr ⟨h1.1, h1.2⟩
theorem ztyb : ∀ ci, ci < 9 → ∀ k, k < zN ci → zisr (zty ci k) = false → zty ci k = .int := by
  refine zlt9 ?_ ?_ ?_ ?_ ?_ ?_ ?_ ?_ ?_ <;> decide
def zAC (j : Nat) : String := match j with
  | 2 => RX1 | 3 => RX2 | 4 => RX3 | 5 => RX4 | 6 => RX6 | _ => RX7
def zAk (j : Nat) : Nat := match j with
  | 2 => 1 | 3 => 2 | 4 => 3 | 5 => 4 | 6 => 6 | _ => 7
def zAty (j : Nat) : FieldType := match j with
  | 0 => .int | 1 => .char | j + 2 => .object (zAC (j + 2))
-- the setting
abbrev zE : Type := Launch × va_G × (Nat → ClassId) × Nat × (Nat × Nat × (Nat → Int32))
def zEl (E : zE) : Launch := E.1
def zED (E : zE) : va_G := E.2.1
def zEA (E : zE) : Nat → ClassId := E.2.2.1
def zElo (E : zE) : Nat := E.2.2.2.1
def zEb (E : zE) : Nat := E.2.2.2.2.1
def zEL (E : zE) : Nat := E.2.2.2.2.2.1
def zEx (E : zE) : Nat → Int32 := E.2.2.2.2.2.2
def zTys (E : zE) : List (ClassId × FieldType) := [(zEA E 0, zAty 0), (zEA E 1, zAty 1), (zEA E 2, zAty 2), (zEA E 3, zAty 3), (zEA E 4, zAty 4), (zEA E 5, zAty 5), (zEA E 6, zAty 6), (zEA E 7, zAty 7)]
theorem zTys_get (E : zE) {j : Nat} (h : j < 8) : (zTys E)[j]? = some (zEA E j, zAty j) := by
  rcases (show j = 0 ∨ j = 1 ∨ j = 2 ∨ j = 3 ∨ j = 4 ∨ j = 5 ∨ j = 6 ∨ j = 7 by omega) with rfl | rfl | rfl | rfl | rfl | rfl | rfl | rfl <;> rfl
def zNest : List (String × Nat × MethodName × String) := [(RX8, 11, yX3_init, RX8), (RX2, 21, yX4_init, RX8), (RX7, 37, yX1_init, RX8), (RX7, 38, yX6_init, RX8), (RX0, 17, yX3_init, RX8), (RX8, 25, yX5_init, RX8), (RX7, 81, yX8_within, RX8), (RX3, 26, yX8_within, RX8)]
def zSK (E : zE) (U : State) : Prop := va_X (zEb E) (zEL E) (zEx E) U U.heap ∧ zEb E < U.heap.size ∧ zEb E < zElo E
theorem zEb_not {E : zE} (h : zEb E < zElo E) : ¬ zElo E ≤ zEb E := Nat.not_le.mpr h
theorem zget_lt {H : Heap} {b : Nat} {c : Cell} (h : H[b]? = some c) : b < H.size := (Array.getElem?_eq_some_iff.mp h).1
def zKK (E : zE) (U : State) : Prop := va_K (zED E) vwCl (zTys E) U ∧ (∀ q ∈ zNest, va_Nw (.methodLinkNest q.1 q.2.1 q.2.2.1 q.2.2.2) U) ∧ (∀ j, 2 ≤ j → j < 8 → va_AO (zAC j) U) ∧ zSK E U
theorem zSK.warm {E : zE} {s U : State} (hW : s.WarmedH U.vm) (hH : ∀ q : Nat, q < s.heap.size → ¬ zElo E ≤ q → U.heap[q]? = s.heap[q]?) (h : zSK E s) : zSK E U := by
  obtain ⟨h1, h2, h3⟩ := h
  have h4 := hH _ h2 (zEb_not h3)
  have h5 : va_X (zEb E) (zEL E) (zEx E) U U.heap := (h1.kept h4).moved hW.alike
  obtain ⟨scr, h6, -⟩ := id h5
  exact ⟨h5, zget_lt h6, h3⟩
theorem zSK.same {E : zE} {s U : State} (he : s.vm = U.vm) (hh : s.heap = U.heap) (h : zSK E s) : zSK E U := by
  have ha : s.vm.Alike U.vm := by rw [he]; exact Vm.Alike.refl _
  obtain ⟨h1, h2, h3⟩ := h
  exact ⟨by rw [← hh]; exact h1.moved ha, by rw [← hh]; exact h2, h3⟩
theorem zKK.warm {E : zE} {s U : State} (hW : s.WarmedH U.vm) (hH : ∀ q : Nat, q < s.heap.size → ¬ zElo E ≤ q → U.heap[q]? = s.heap[q]?) (h : zKK E s) : zKK E U :=
  ⟨h.1.moved hW.alike, fun q hq => va_Nw.warmM hW (h.2.1 q hq), fun j h1 h2 => va_AO.moved hW.alike (h.2.2.1 j h1 h2), h.2.2.2.warm hW hH⟩
theorem zKK.same {E : zE} {s U : State} (he : s.vm = U.vm) (hh : s.heap = U.heap) (h : zKK E s) : zKK E U := by
  have ha : s.vm.Alike U.vm := by rw [he]; exact Vm.Alike.refl _
  exact ⟨h.1.moved ha, fun q hq => va_Nw.same rfl he (h.2.1 q hq), fun j h1 h2 => va_AO.moved ha (h.2.2.1 j h1 h2), h.2.2.2.same he hh⟩
def zarr (h : zH) (a j : Nat) : vp_A := if j < 2 then (zn h a, .inl (zi h a)) else (zn h a, .inr (.inr (.inr (.inr (fun i => zo (zr h a i))))))
def zcell (E : zE) (h : zH) (a : Nat) (H : Heap) : Prop :=
  (∀ ci, ci < 9 → zk h a = ci + 1 → t_OB (a - 1) ((zED E).1 ci) (zN ci) ((zED E).2 ci) H (zfld h a ci)) ∧
  (∀ j, j < 8 → zk h a = 20 + j → H[a - 1]? = some (vp_cell (zEA E j) (zarr h a j)))
def zREL (E : zE) (h : zH) (H : Heap) : Prop := H.size + 1 = zsz h ∧ zElo E < zsz h ∧ (∀ a, zk h a ≠ 0 → zElo E < a ∧ a < zsz h) ∧ ∀ a, zcell E h a H
-- a method
abbrev zM : Type := MethodName × ByteArray × Nat × Option FieldType × Room × Nat × (Nat × Nat × Nat × Nat × Nat)
def zMy (M : zM) : MethodName := M.1
def zMb (M : zM) : ByteArray := M.2.1
def zMl (M : zM) : Nat := M.2.2.1
def zMr (M : zM) : Option FieldType := M.2.2.2.1
def zMo (M : zM) : Room := M.2.2.2.2.1
def zMn (M : zM) : Nat := M.2.2.2.2.2.1
def zMk (M : zM) : Nat × Nat × Nat × Nat × Nat := M.2.2.2.2.2.2
def zws (M : zM) : List Cond := .code (zMy M) (zMb M) (zMl M) (zMr M) :: zG
def zPc (E : zE) (av : List zV) (h : zH) : Array Value → State → Prop := fun v U => v = (av.map zval).toArray ∧ zREL E h U.heap ∧ zKK E U
def zQc (E : zE) (Q : Option zV → zH → Prop) : Array Value → State → Outcome → State → Prop := fun _ st oc t => (∃ r h', oc = .returned (r.map zval) ∧ Q r h' ∧ zREL E h' t.heap) ∧ va_F (fun q => zElo E ≤ q) st t
def zMet (E : zE) (M : zM) (av : List zV) (h : zH) (Q : Option zV → zH → Prop) : Prop :=
  Met (zEl E) (zMy M) (zws M) (zMo M) (zPc E av h) (zQc E Q) (zMo M).cells (zMo M).slots (fun q => zElo E ≤ q)
def zMi (E : zE) (M : zM) (av : List zV) (h : zH) (Q : Int32 → zH → Prop) : Prop := zMet E M av h (fun r h' => ∃ x, r = some (.inl x) ∧ Q x h')
def zMa (E : zE) (M : zM) (av : List zV) (h : zH) (Q : Nat → zH → Prop) : Prop := zMet E M av h (fun r h' => ∃ x, r = some (.inr x) ∧ Q x h')
def zMv (E : zE) (M : zM) (av : List zV) (h : zH) (Q : zH → Prop) : Prop := zMet E M av h (fun r h' => r = none ∧ Q h')
theorem zMet.mono {E : zE} {M : zM} {av : List zV} {h : zH} {Q Q' : Option zV → zH → Prop} (hM : zMet E M av h Q) (hQ : ∀ r h', Q r h' → Q' r h') : zMet E M av h Q' := by
  intro p e ha hc hk s m args below hf happ hp hk2
  obtain ⟨t, o, a1, b1, b2, c1, c2⟩ := hM p e ha hc hk s m args below hf happ hp hk2
  obtain ⟨⟨r, h', d1, d2, d3⟩, d4⟩ := c1
  exact ⟨t, o, a1, b1, b2, ⟨⟨r, h', d1, hQ _ _ d2, d3⟩, d4⟩, c2⟩
theorem zMi.mono {E : zE} {M : zM} {av : List zV} {h : zH} {Q Q' : Int32 → zH → Prop} (hM : zMi E M av h Q) (hQ : ∀ r h', Q r h' → Q' r h') : zMi E M av h Q' := zMet.mono hM (fun _ h' ⟨x, e, q⟩ => ⟨x, e, hQ x h' q⟩)
theorem zMa.mono {E : zE} {M : zM} {av : List zV} {h : zH} {Q Q' : Nat → zH → Prop} (hM : zMa E M av h Q) (hQ : ∀ r h', Q r h' → Q' r h') : zMa E M av h Q' := zMet.mono hM (fun _ h' ⟨x, e, q⟩ => ⟨x, e, hQ x h' q⟩)
theorem zMv.mono {E : zE} {M : zM} {av : List zV} {h : zH} {Q Q' : zH → Prop} (hM : zMv E M av h Q) (hQ : ∀ h', Q h' → Q' h') : zMv E M av h Q' := zMet.mono hM (fun _ h' ⟨e, q⟩ => ⟨e, hQ h' q⟩)
theorem zPc_blind (E : zE) (av : List zV) (h : zH) : FrameBlind (zPc E av h) := fun _ _ _ _ ⟨a, b, c⟩ => ⟨a, b, c.same rfl rfl⟩
-- locals
def zLl : List (Option zV) → Nat → List (Nat × Value)
  | [], _ => []
  | none :: L, i => zLl L (i + 1)
  | some v :: L, i => (i, zval v) :: zLl L (i + 1)
theorem zLl_mem : ∀ (L : List (Option zV)) (i : Nat) (q : Nat × Value), q ∈ zLl L i ↔ ∃ t v, L[t]? = some (some v) ∧ q = (i + t, zval v)
  | [], i, q => by simp [zLl]
  | none :: L, i, q => by
    rw [zLl, zLl_mem L (i + 1) q]
    constructor
    · rintro ⟨t, v, h1, h2⟩
      exact ⟨t + 1, v, by simpa using h1, by rw [h2]; congr 1; omega⟩
    · rintro ⟨t, v, h1, h2⟩
      cases t with
      | zero => simp at h1
      | succ t => exact ⟨t, v, by simpa using h1, by rw [h2]; congr 1; omega⟩
  | some w :: L, i, q => by
    rw [zLl, List.mem_cons, zLl_mem L (i + 1) q]
    constructor
    · rintro (h | ⟨t, v, h1, h2⟩)
      · exact ⟨0, w, by simp, by rw [h]; rfl⟩
      · exact ⟨t + 1, v, by simpa using h1, by rw [h2]; congr 1; omega⟩
    · rintro ⟨t, v, h1, h2⟩
      cases t with
      | zero => simp at h1; subst h1; exact Or.inl h2
      | succ t => exact Or.inr ⟨t, v, by simpa using h1, by rw [h2]; congr 1; omega⟩
def zL (ls : Array Slot) (nL : Nat) (L : List (Option zV)) : Prop := lv_has ls nL (zLl L 0)
theorem zL.at {ls : Array Slot} {nL : Nat} {L : List (Option zV)} (h : zL ls nL L) {i : Nat} {v : zV} (hi : L[i]? = some (some v)) : ls[i]? = some (.val (zval v)) :=
  h.2.2 (i, zval v) ((zLl_mem L 0 _).mpr ⟨i, v, hi, by rw [Nat.zero_add]⟩)
theorem zL.set {ls' : Array Slot} {nL : Nat} {L : List (Option zV)} {i : Nat} {v : zV} (hi : i < L.length) (h : lv_has ls' nL ((i, zval v) :: (zLl L 0).filter (fun q => !(q.1 == i) && !(q.1 + 1 == i && q.2.category == 2)))) : zL ls' nL (L.set i (some v)) := by
  refine ⟨h.1, h.2.1, fun q hq => ?_⟩
  obtain ⟨t, w, h1, h2⟩ := (zLl_mem _ 0 _).mp hq
  rw [Nat.zero_add] at h2
  rw [List.getElem?_set] at h1
  by_cases hti : i = t
  · subst hti
    rw [if_pos rfl, if_pos hi] at h1
    cases h1
    exact h.2.2 q (by rw [h2]; exact List.mem_cons_self)
  · rw [if_neg hti] at h1
    refine h.2.2 q (List.mem_cons_of_mem _ (List.mem_filter.mpr ⟨(zLl_mem _ 0 _).mpr ⟨t, w, h1, by rw [Nat.zero_add]; exact h2⟩, ?_⟩))
    subst h2
    have hc := zval_cat w
    simp [hc]
    exact fun e => hti e.symm
theorem zL_entry (av : List zV) : ∀ i, lv_args i (av.map zval) = zLl (av.map some) i := by
  induction av with
  | nil => intro i; rfl
  | cons v av ih =>
    intro i
    show (i, zval v) :: lv_args (if (zval v).category = 2 then i + 2 else i + 1) (av.map zval) = (i, zval v) :: zLl (av.map some) (i + 1)
    rw [zval_cat, if_neg (by decide), ih]
theorem zLl_pad : ∀ (L : List (Option zV)) (n i : Nat), zLl (L ++ List.replicate n none) i = zLl L i
  | [], n, i => by
    induction n generalizing i with
    | zero => rfl
    | succ n ih => rw [List.nil_append] at ih ⊢; rw [List.replicate_succ]; exact ih (i + 1)
  | none :: L, n, i => zLl_pad L n (i + 1)
  | some v :: L, n, i => by rw [List.cons_append, zLl, zLl_pad L n (i + 1)]; rfl
theorem zlg_len (av : List zV) : (lg_sl (av.map zval)).length = av.length := by
  induction av with
  | nil => rfl
  | cons v av ih =>
    unfold lg_sl at ih ⊢
    rw [List.map_cons, List.flatMap_cons, List.length_append, ih, zval_cat, if_neg (by decide)]
    simp
    omega
end
section
abbrev zIns : Type := Jvm.ClassFile.Instr
abbrev zLk : Type := Nat × Nat × Nat × Nat × Nat × Option zM
abbrev zKt : Type := Nat → List (Option zV) → List zV → zH → Nat → Nat → Prop
def zcst (n : Int) : Int32 := match n with
  | .ofNat m => nI m
  | .negSucc m => Int32.ofInt (.negSucc m)
theorem zcst_eq (n : Int) : Int32.ofInt n = zcst n := by
  cases n with
  | ofNat m => exact Int32.toBitVec_inj.mp rfl
  | negSucc m => rfl
def zt (pc : Nat) (off : Int) : Nat := ((pc : Int) + off).toNat
theorem zt_spec {pc : Nat} {off : Int} (h : 0 ≤ (pc : Int) + off) : (pc : Int) + off = (zt pc off : Int) := by unfold zt; omega
def zgi (L : List (Option zV)) (i : Nat) (f : Int32 → Prop) : Prop := match L[i]? with
  | some (some (.inl x)) => f x
  | _ => False
theorem zgi_spec {L : List (Option zV)} {i : Nat} {f : Int32 → Prop} (h : zgi L i f) : ∃ x, L[i]? = some (some (.inl x)) ∧ f x := by
  unfold zgi at h; split at h
  · exact ⟨_, by assumption, h⟩
  · exact h.elim
def zga (L : List (Option zV)) (i : Nat) (f : Nat → Prop) : Prop := match L[i]? with
  | some (some (.inr x)) => f x
  | _ => False
theorem zga_spec {L : List (Option zV)} {i : Nat} {f : Nat → Prop} (h : zga L i f) : ∃ x, L[i]? = some (some (.inr x)) ∧ f x := by
  unfold zga at h; split at h
  · exact ⟨_, by assumption, h⟩
  · exact h.elim
def z1i (st : List zV) (f : Int32 → List zV → Prop) : Prop := match st with
  | .inl x :: st => f x st
  | _ => False
theorem z1i_spec {st : List zV} {f : Int32 → List zV → Prop} (h : z1i st f) : ∃ x st', st = .inl x :: st' ∧ f x st' := by
  unfold z1i at h; split at h
  · exact ⟨_, _, rfl, h⟩
  · exact h.elim
def z2i (st : List zV) (f : Int32 → Int32 → List zV → Prop) : Prop := match st with
  | .inl y :: .inl x :: st => f y x st
  | _ => False
theorem z2i_spec {st : List zV} {f : Int32 → Int32 → List zV → Prop} (h : z2i st f) : ∃ y x st', st = .inl y :: .inl x :: st' ∧ f y x st' := by
  unfold z2i at h; split at h
  · exact ⟨_, _, _, rfl, h⟩
  · exact h.elim
def z1a (st : List zV) (f : Nat → List zV → Prop) : Prop := match st with
  | .inr x :: st => f x st
  | _ => False
theorem z1a_spec {st : List zV} {f : Nat → List zV → Prop} (h : z1a st f) : ∃ x st', st = .inr x :: st' ∧ f x st' := by
  unfold z1a at h; split at h
  · exact ⟨_, _, rfl, h⟩
  · exact h.elim
def z1 (st : List zV) (f : zV → List zV → Prop) : Prop := match st with
  | v :: st => f v st
  | _ => False
theorem z1_spec {st : List zV} {f : zV → List zV → Prop} (h : z1 st f) : ∃ v st', st = v :: st' ∧ f v st' := by
  unfold z1 at h; split at h
  · exact ⟨_, _, rfl, h⟩
  · exact h.elim
def z2 (st : List zV) (f : zV → zV → List zV → Prop) : Prop := match st with
  | v :: w :: st => f v w st
  | _ => False
theorem z2_spec {st : List zV} {f : zV → zV → List zV → Prop} (h : z2 st f) : ∃ v w st', st = v :: w :: st' ∧ f v w st' := by
  unfold z2 at h; split at h
  · exact ⟨_, _, _, rfl, h⟩
  · exact h.elim
def zia (st : List zV) (f : Int32 → Nat → List zV → Prop) : Prop := match st with
  | .inl i :: .inr a :: st => f i a st
  | _ => False
theorem zia_spec {st : List zV} {f : Int32 → Nat → List zV → Prop} (h : zia st f) : ∃ i a st', st = .inl i :: .inr a :: st' ∧ f i a st' := by
  unfold zia at h; split at h
  · exact ⟨_, _, _, rfl, h⟩
  · exact h.elim
def ziia (st : List zV) (f : Int32 → Int32 → Nat → List zV → Prop) : Prop := match st with
  | .inl x :: .inl i :: .inr a :: st => f x i a st
  | _ => False
theorem ziia_spec {st : List zV} {f : Int32 → Int32 → Nat → List zV → Prop} (h : ziia st f) : ∃ x i a st', st = .inl x :: .inl i :: .inr a :: st' ∧ f x i a st' := by
  unfold ziia at h; split at h
  · exact ⟨_, _, _, _, rfl, h⟩
  · exact h.elim
def zaia (st : List zV) (f : Nat → Int32 → Nat → List zV → Prop) : Prop := match st with
  | .inr x :: .inl i :: .inr a :: st => f x i a st
  | _ => False
theorem zaia_spec {st : List zV} {f : Nat → Int32 → Nat → List zV → Prop} (h : zaia st f) : ∃ x i a st', st = .inr x :: .inl i :: .inr a :: st' ∧ f x i a st' := by
  unfold zaia at h; split at h
  · exact ⟨_, _, _, _, rfl, h⟩
  · exact h.elim
def zva (st : List zV) (f : zV → Nat → List zV → Prop) : Prop := match st with
  | v :: .inr a :: st => f v a st
  | _ => False
theorem zva_spec {st : List zV} {f : zV → Nat → List zV → Prop} (h : zva st f) : ∃ v a st', st = v :: .inr a :: st' ∧ f v a st' := by
  unfold zva at h; split at h
  · exact ⟨_, _, _, rfl, h⟩
  · exact h.elim
/-- src, position, dst, position, number (an array copy's stack from above) -/
def zcp (st : List zV) (f : Int32 → Int32 → Nat → Int32 → Nat → List zV → Prop) : Prop := match st with
  | .inl n :: .inl dp :: .inr d :: .inl sp :: .inr s :: st => f n dp d sp s st
  | _ => False
theorem zcp_spec {st : List zV} {f : Int32 → Int32 → Nat → Int32 → Nat → List zV → Prop} (h : zcp st f) : ∃ n dp d sp s st', st = .inl n :: .inl dp :: .inr d :: .inl sp :: .inr s :: st' ∧ f n dp d sp s st' := by
  unfold zcp at h; split at h
  · exact ⟨_, _, _, _, _, _, rfl, h⟩
  · exact h.elim
def zpop : Nat → List zV → List zV → (List zV → List zV → Prop) → Prop
  | 0, st, acc, f => f acc st
  | n + 1, v :: st, acc, f => zpop n st (v :: acc) f
  | _ + 1, [], _, _ => False
theorem zpop_spec : ∀ (n : Nat) (st acc : List zV) (f : List zV → List zV → Prop), zpop n st acc f → ∃ as rest, st = as.reverse ++ rest ∧ as.length = n ∧ f (as ++ acc) rest
  | 0, st, acc, f, h => ⟨[], st, rfl, rfl, h⟩
  | n + 1, v :: st, acc, f, h => by
    obtain ⟨as, rest, h1, h2, h3⟩ := zpop_spec n st (v :: acc) f h
    exact ⟨as ++ [v], rest, by rw [h1]; simp, by simp [h2], by simpa using h3⟩
  | _ + 1, [], _, _, h => h.elim
def zc (c : Jvm.ClassFile.Cond) (x y : Int32) : Prop := match c with
  | .eq => x = y | .ne => ¬ x = y | .lt => x < y | .ge => y ≤ x | .gt => y < x | .le => x ≤ y
def znc (c : Jvm.ClassFile.Cond) (x y : Int32) : Prop := match c with
  | .eq => ¬ x = y | .ne => x = y | .lt => ¬ x < y | .ge => ¬ y ≤ x | .gt => ¬ y < x | .le => ¬ x ≤ y
def zshort (st : List zV) (P : Prop) : Prop := match Nat.ble st.length 8 with
  | true => P
  | false => False
theorem zshort_spec {st : List zV} {P : Prop} (h : zshort st P) : st.length ≤ 8 ∧ P := by
  unfold zshort at h; split at h
  · exact ⟨Nat.le_of_ble_eq_true (by assumption), h⟩
  · exact h.elim
def zroom (M M' : zM) (k n : Nat) (f : Nat → Nat → Prop) : Prop := match (zMo M').cells, (zMo M').slots with
  | 0, 0 => f k n
  | c, s => (k + c ≤ (zMo M).cells ∧ n + s ≤ (zMo M).slots) ∧ f (k + c) (n + s)
theorem zroom_spec {M M' : zM} {k n : Nat} {f : Nat → Nat → Prop} (hk : k ≤ (zMo M).cells) (hn : n ≤ (zMo M).slots) (h : zroom M M' k n f) :
    (k + (zMo M').cells ≤ (zMo M).cells ∧ n + (zMo M').slots ≤ (zMo M).slots) ∧ f (k + (zMo M').cells) (n + (zMo M').slots) := by
  unfold zroom at h; split at h
  · rename_i e1 e2
    rw [e1, e2]
    exact ⟨⟨hk, hn⟩, h⟩
  · exact h
def zback (E : zE) (M' : zM) (av : List zV) (h : zH) (f : Option zV → zH → Prop) : Prop := match zMr M' with
  | none => zMv E M' av h (fun h' => f none h')
  | some t => match zisr t with
    | true => zMa E M' av h (fun a h' => f (some (.inr a)) h')
    | false => zMi E M' av h (fun x h' => f (some (.inl x)) h')
theorem zback_spec {E : zE} {M' : zM} {av : List zV} {h : zH} {f : Option zV → zH → Prop} (hb : zback E M' av h f) : zMet E M' av h f := by
  unfold zback at hb; split at hb
  · exact zMet.mono hb (fun r h' ⟨e, q⟩ => by rw [e]; exact q)
  · split at hb
    · exact zMet.mono hb (fun r h' ⟨x, e, q⟩ => by rw [e]; exact q)
    · exact zMet.mono hb (fun r h' ⟨x, e, q⟩ => by rw [e]; exact q)
def zfv (h : zH) (a ci k : Nat) : zV := match zisr (zty ci k) with
  | true => .inr (zr h a k)
  | false => .inl (zi h a k)
theorem zfv_spec (h : zH) (a ci k : Nat) : zval (zfv h a ci k) = zfld h a ci k := by
  unfold zfv zfld; split <;> simp_all [zval]
def zput (h : zH) (a ci k : Nat) (v : zV) (f : zH → Prop) : Prop := match v, zisr (zty ci k) with
  | .inl x, false => f (zpi h a k x)
  | .inr x, true => f (zpr h a k x)
  | _, _ => False
def zts (pc : Nat) (dflt lo hi : Int) (offs : List Int) (x : Int32) : Nat := if x.toInt < lo ∨ hi < x.toInt then zt pc dflt else zt pc (offs[(x.toInt - lo).toNat]?.getD 0)
def znar (t : Option FieldType) (x : Int32) (P : Prop) : Prop := match t with
  | some .int => P
  | some .boolean => (x = 0 ∨ x = 1) ∧ P
  | some t => narrow t (.int x) = .int x ∧ P
  | none => False
def zemp (st : List zV) (P : Prop) : Prop := match st with
  | [] => P
  | _ => False
theorem zemp_spec {st : List zV} {P : Prop} (h : zemp st P) : st = [] ∧ P := by
  unfold zemp at h; split at h
  · exact ⟨rfl, h⟩
  · exact h.elim
def zmin (x y : Int32) : Int32 := if y < x then y else x
def zmax (x y : Int32) : Int32 := if x < y then y else x
def zwpI (E : zE) (M : zM) (Q : Option zV → zH → Prop) (K : zKt) (ins : zIns) (lk : zLk) (pc : Nat) (L : List (Option zV)) (st : List zV) (h : zH) (k n : Nat) : Prop := match ins with
  | .iconst i => K (pc + 1) L (.inl (zcst i) :: st) h k n
  | .bipush i => K (pc + 2) L (.inl (zcst i) :: st) h k n
  | .sipush i => K (pc + 3) L (.inl (zcst i) :: st) h k n
  | .iload_n j => zgi L j.val fun x => K (pc + 1) L (.inl x :: st) h k n
  | .iload j => zgi L j fun x => K (pc + 2) L (.inl x :: st) h k n
  | .aload_n j => zga L j.val fun x => K (pc + 1) L (.inr x :: st) h k n
  | .aload j => zga L j fun x => K (pc + 2) L (.inr x :: st) h k n
  | .istore_n j => z1i st fun x st => K (pc + 1) (L.set j.val (some (.inl x))) st h k n
  | .istore j => z1i st fun x st => K (pc + 2) (L.set j (some (.inl x))) st h k n
  | .astore_n j => z1a st fun x st => K (pc + 1) (L.set j.val (some (.inr x))) st h k n
  | .astore j => z1a st fun x st => K (pc + 2) (L.set j (some (.inr x))) st h k n
  | .iinc j c => zgi L j fun x => K (pc + 3) (L.set j (some (.inl (x + zcst c)))) st h k n
  | .iadd => z2i st fun y x st => K (pc + 1) L (.inl (x + y) :: st) h k n
  | .isub => z2i st fun y x st => K (pc + 1) L (.inl (x - y) :: st) h k n
  | .imul => z2i st fun y x st => K (pc + 1) L (.inl (x * y) :: st) h k n
  | .idiv => z2i st fun y x st => ¬ y = 0 ∧ K (pc + 1) L (.inl (x / y) :: st) h k n
  | .irem => z2i st fun y x st => ¬ y = 0 ∧ K (pc + 1) L (.inl (x - x / y * y) :: st) h k n
  | .iand => z2i st fun y x st => K (pc + 1) L (.inl (x &&& y) :: st) h k n
  | .ior => z2i st fun y x st => K (pc + 1) L (.inl (x ||| y) :: st) h k n
  | .ixor => z2i st fun y x st => K (pc + 1) L (.inl (x ^^^ y) :: st) h k n
  | .ishl => z2i st fun y x st => K (pc + 1) L (.inl (x <<< (y &&& 31)) :: st) h k n
  | .ishr => z2i st fun y x st => K (pc + 1) L (.inl (x >>> (y &&& 31)) :: st) h k n
  | .i2c => z1i st fun x st => K (pc + 1) L (.inl ((x.toUInt32 % 65536).toInt32) :: st) h k n
  | .dup => z1 st fun v st => K (pc + 1) L (v :: v :: st) h k n
  | .dup2 => z2 st fun v w st => K (pc + 1) L (v :: w :: v :: w :: st) h k n
  | .pop => z1 st fun _ st => K (pc + 1) L st h k n
  | .goto off => K (zt pc off) L st h k n
  | .ifCond c off => z1i st fun x st => (zc c x 0 → K (zt pc off) L st h k n) ∧ (znc c x 0 → K (pc + 3) L st h k n)
  | .if_icmp c off => z2i st fun y x st => (zc c x y → K (zt pc off) L st h k n) ∧ (znc c x y → K (pc + 3) L st h k n)
  | .ifnull off => z1a st fun a st => (a = 0 → K (zt pc off) L st h k n) ∧ (¬ a = 0 → K (pc + 3) L st h k n)
  | .ifnonnull off => z1a st fun a st => (¬ a = 0 → K (zt pc off) L st h k n) ∧ (a = 0 → K (pc + 3) L st h k n)
  | .tableswitch dflt lo hi offs => z1i st fun x st => K (zts pc dflt lo hi offs.toList x) L st h k n
  | .lookupswitch dflt ps => z1i st fun x st => K (zt pc (Op.lookupswitch.offset ps.toList dflt x.toInt)) L st h k n
  | .getfield _ => z1a st fun a st => zk h a = lk.1 + 1 ∧ K (pc + 3) L (zfv h a lk.1 lk.2.1 :: st) h k n
  | .putfield _ => zva st fun v a st => zk h a = lk.1 + 1 ∧ zput h a lk.1 lk.2.1 v (fun h' => K (pc + 3) L st h' k n)
  | .iaload => zia st fun i a st => match lk.1 with
    | 0 => zk h a = 20 ∧ vp_in i (zn h a) ∧ K (pc + 1) L (.inl (zi h a i.toNatClampNeg) :: st) h k n
    | _ => a = zEb E + 1 ∧ vp_in i (zEL E) ∧ K (pc + 1) L (.inl (zEx E i.toNatClampNeg) :: st) h k n
  | .arraylength => z1a st fun a st => a = zEb E + 1 ∧ K (pc + 1) L (.inl (nI (zEL E)) :: st) h k n
  | .caload => zia st fun i a st => zk h a = 21 ∧ vp_in i (zn h a) ∧ K (pc + 1) L (.inl (zi h a i.toNatClampNeg) :: st) h k n
  | .aaload => zia st fun i a st => (22 ≤ zk h a ∧ zk h a < 28) ∧ vp_in i (zn h a) ∧ K (pc + 1) L (.inr (zr h a i.toNatClampNeg) :: st) h k n
  | .iastore => ziia st fun x i a st => zk h a = 20 ∧ vp_in i (zn h a) ∧ K (pc + 1) L st (zpi h a i.toNatClampNeg x) k n
  | .castore => ziia st fun x i a st => zk h a = 21 ∧ vp_in i (zn h a) ∧ K (pc + 1) L st (zpi h a i.toNatClampNeg (vp_nar .char x)) k n
  | .aastore => zaia st fun x i a st => (22 ≤ zk h a ∧ zk h a < 28) ∧ vp_in i (zn h a) ∧ (x = 0 ∨ zk h x = zAk (zk h a - 20) + 1) ∧ K (pc + 1) L st (zpr h a i.toNatClampNeg x) k n
  | .new _ => (k + 1 ≤ (zMo M).cells ∧ n + zN lk.1 ≤ (zMo M).slots) ∧ K (pc + 3) L (.inr (zsz h) :: st) (znew h (lk.1 + 1) 0) (k + 1) (n + zN lk.1)
  | .newarray _ => z1i st fun x st => (¬ x < 0 ∧ x.toNatClampNeg ≤ 10000 ∧ k + 1 ≤ (zMo M).cells ∧ n + x.toNatClampNeg ≤ (zMo M).slots) ∧ K (pc + 2) L (.inr (zsz h) :: st) (znew h (20 + lk.1) x.toNatClampNeg) (k + 1) (n + x.toNatClampNeg)
  | .anewarray _ => z1i st fun x st => (¬ x < 0 ∧ x.toNatClampNeg ≤ 10000 ∧ k + 1 ≤ (zMo M).cells ∧ n + x.toNatClampNeg ≤ (zMo M).slots) ∧ K (pc + 3) L (.inr (zsz h) :: st) (znew h (20 + lk.1) x.toNatClampNeg) (k + 1) (n + x.toNatClampNeg)
  | .invokespecial _ => match lk.2.2.2.2.2 with
    | none => z1a st fun a st => ¬ a = 0 ∧ zshort st (K (pc + 3) L st h k n)
    | some M' => zpop (zMn M') st [] fun av st1 => z1a st1 fun b rest => zk h b = lk.1 + 1 ∧ zshort rest (zroom M M' k n fun k' n' => zback E M' (.inr b :: av) h (fun r h' => K (pc + 3) L (r.toList ++ rest) h' k' n'))
  | .invokevirtual _ => match lk.2.2.2.2.2 with
    | none => False
    | some M' => zpop (zMn M') st [] fun av st1 => z1a st1 fun b rest => zk h b = lk.1 + 1 ∧ zshort rest (zroom M M' k n fun k' n' => zback E M' (.inr b :: av) h (fun r h' => K (pc + 3) L (r.toList ++ rest) h' k' n'))
  | .invokestatic _ => match lk.2.2.2.2.2 with
    | none => match lk.1 with
      | 0 => z2i st fun y x st => zshort st (K (pc + 3) L (.inl (zmin x y) :: st) h k n)
      | 1 => z2i st fun y x st => zshort st (K (pc + 3) L (.inl (zmax x y) :: st) h k n)
      | 3 => z2i st fun y x st => (¬ x < 0 ∧ 0 < y) ∧ zshort st (K (pc + 3) L (.inl (x - x / y * y) :: st) h k n)
      | _ => zcp st fun m dp d sp s st => (zk h s = 20 ∧ zk h d = 20 ∧ ¬ sp < 0 ∧ ¬ dp < 0 ∧ ¬ m < 0 ∧ sp.toNatClampNeg + m.toNatClampNeg ≤ zn h s ∧ dp.toNatClampNeg + m.toNatClampNeg ≤ zn h d) ∧ zshort st (K (pc + 3) L st (zpa h d (va_cpy (zi h s) (zi h d) sp.toNatClampNeg dp.toNatClampNeg m.toNatClampNeg)) k n)
    | some M' => zpop (zMn M') st [] fun av rest => zshort rest (zroom M M' k n fun k' n' => zback E M' av h (fun r h' => K (pc + 3) L (r.toList ++ rest) h' k' n'))
  | .ireturn => z1i st fun x st => zemp st (znar (zMr M) x (Q (some (.inl x)) h))
  | .areturn => z1a st fun x st => zemp st (Q (some (.inr x)) h)
  | .return_ => zemp st (Q none h)
  | _ => False
end
section
def zMB (M : zM) : Bool := plainName (zMy M).cls && zw (zMk M).2.1 (.code (zMy M) (zMb M) (zMl M) (zMr M)) && zw (zMk M).2.2.1 (.initialized (zMy M).cls) &&
  (match (zMk M).1 with
    | 0 => zw (zMk M).2.2.2.1 (.static (zMy M))
    | 1 => zw (zMk M).2.2.2.1 (.instanceMethod (zMy M)) && zw (zMk M).2.2.2.2 (.selects (zMy M).cls (zMy M) (zMy M))
    | _ => zw (zMk M).2.2.2.1 (.instanceMethod (zMy M)) && decide (zMr M = none) && decide ((zMy M).name = "<init>")) &&
  decide ((zMy M).cls ≠ "java/lang/invoke/MethodHandle" ∧ (zMy M).cls ≠ "java/lang/invoke/VarHandle" ∧ (parseMethodDescriptor (zMy M).desc).map (fun d => d.parameters.length) = some (zMn M))
def zlkB (M M' : zM) (idx : Nat) (lk : zLk) : Bool :=
  (match lk.2.1 with
    | 0 => zw lk.2.2.1 (.methodLink (zMy M).cls idx (zMy M'))
    | _ => decide (zNest[lk.2.2.1]? = some ((zMy M).cls, idx, zMy M', RX8))) && zMB M' &&
  decide ((zMo M').frames + 1 ≤ (zMo M).frames ∧ 8 + (zMl M' + 11) + (zMo M').locals ≤ (zMo M).locals)
def zlen (ins : zIns) : Nat := match ins with
  | .bipush _ | .iload _ | .aload _ | .istore _ | .astore _ | .newarray _ | .ldc _ => 2
  | .sipush _ | .iinc _ _ | .goto _ | .ifCond _ _ | .if_icmp _ _ | .ifnull _ | .ifnonnull _ | .getfield _ | .putfield _ | .getstatic _ | .new _ | .anewarray _ | .invokespecial _ | .invokevirtual _ | .invokestatic _ => 3
  | _ => 1
def zentB (M : zM) (pc : Nat) (ins : zIns) (len : Nat) (lk : zLk) : Bool := match ins with
  | .tableswitch dflt lo hi offs => decide (0 ≤ (pc : Int) + dflt) && offs.toList.all (fun o => decide (0 ≤ (pc : Int) + o)) && decide (hi - lo + 1 = (offs.toList.length : Int))
  | .lookupswitch dflt ps => (ps.toList.zip (ps.toList.drop 1)).all (fun (a, next) => decide (a.1 < next.1)) && decide (0 ≤ (pc : Int) + dflt) && ps.toList.all (fun o => decide (0 ≤ (pc : Int) + o.2))
  | _ => decide (len = zlen ins) && (match ins with
    | .bipush i => decide ((Int8.ofInt i).toInt32 = zcst i)
    | .sipush i => decide ((Int16.ofInt i).toInt32 = zcst i)
    | .istore_n j => decide (j.val < zMl M)
    | .istore j => decide (j < zMl M)
    | .astore_n j => decide (j.val < zMl M)
    | .astore j => decide (j < zMl M)
    | .iinc j _ => decide (j < zMl M)
    | .goto off => decide (0 ≤ (pc : Int) + off)
    | .ifCond _ off => decide (0 ≤ (pc : Int) + off)
    | .if_icmp _ off => decide (0 ≤ (pc : Int) + off)
    | .ifnull off => decide (0 ≤ (pc : Int) + off)
    | .ifnonnull off => decide (0 ≤ (pc : Int) + off)
    | .getfield idx => decide (lk.1 < 9 ∧ lk.2.1 < zN lk.1) && zw lk.2.2.1 (.fieldLink (zMy M).cls idx (zT lk.1 lk.2.1).1 (zT lk.1 lk.2.1).2.1 (zT lk.1 lk.2.1).2.2.1)
    | .putfield idx => decide (lk.1 < 9 ∧ lk.2.1 < zN lk.1) && zw lk.2.2.1 (.fieldLink (zMy M).cls idx (zT lk.1 lk.2.1).1 (zT lk.1 lk.2.1).2.1 (zT lk.1 lk.2.1).2.2.1) && (decide ((zT lk.1 lk.2.1).2.2.2 = false) || (decide ((zT lk.1 lk.2.1).2.2.2 = true ∧ (zMy M).name = "<init>" ∧ (zT lk.1 lk.2.1).1 = (zMy M).cls)))
    | .areturn => (match zMr M with | some t => zisr t | none => false)
    | .return_ => decide (zMr M = none)
    | .new idx => decide (lk.1 < 9) && zw lk.2.1 (.classLink (zMy M).cls idx (zC lk.1)) && zw lk.2.2.1 (.instantiable (zC lk.1) (zN lk.1)) && zw lk.2.2.2.1 (.initialized (zC lk.1))
    | .newarray t => decide (lk.1 < 2 ∧ newarray.typeOf t = zAty lk.1) && zw lk.2.1 (.arrayClass (newarray.typeOf t))
    | .anewarray idx => decide (2 ≤ lk.1 ∧ lk.1 < 8) && zw lk.2.1 (.classLink (zMy M).cls idx (zAC lk.1))
    | .invokespecial idx => (match lk.2.2.2.2.2 with
      | none => zw lk.1 (.methodLink (zMy M).cls idx objectInit) && zw lk.2.1 (.instanceMethod objectInit) && zw lk.2.2.1 (.code objectInit ⟨#[0xb1]⟩ 1 none) && decide (1 ≤ (zMo M).frames ∧ 20 ≤ (zMo M).locals)
      | some M' => zlkB M M' idx lk && decide ((zMk M').1 = 2 ∧ lk.1 < 9))
    | .invokevirtual idx => (match lk.2.2.2.2.2 with
      | none => false
      | some M' => zlkB M M' idx lk && decide ((zMk M').1 = 1 ∧ (lk.1 < 9 ∧ zC lk.1 = (zMy M').cls) ∧ lk.2.1 = 0))
    | .invokestatic idx => (match lk.2.2.2.2.2 with
      | none => (match lk.1 with
        | 0 => zw lk.2.1 (.methodLink (zMy M).cls idx Lib.Math.min.name) && zw lk.2.2.1 (.static Lib.Math.min.name) && zw lk.2.2.2.1 (.initialized "java/lang/Math") && zw lk.2.2.2.2.1 (.code Lib.Math.min.name Lib.Math.min.code 2 (some .int)) && decide (1 ≤ (zMo M).frames ∧ 21 ≤ (zMo M).locals)
        | 1 => zw lk.2.1 (.methodLink (zMy M).cls idx Lib.Math.max.name) && zw lk.2.2.1 (.static Lib.Math.max.name) && zw lk.2.2.2.1 (.initialized "java/lang/Math") && zw lk.2.2.2.2.1 (.code Lib.Math.max.name Lib.Math.max.code 2 (some .int)) && decide (1 ≤ (zMo M).frames ∧ 21 ≤ (zMo M).locals)
        | 3 => zw lk.2.1 (.methodLink (zMy M).cls idx yJ9_floorMod_7cf53) && zw lk.2.2.1 (.static yJ9_floorMod_7cf53) && zw lk.2.2.2.1 (.initialized "java/lang/Math") && zw lk.2.2.2.2.1 (.code yJ9_floorMod_7cf53 cJ9_floorMod_7cf53 3 (some .int)) && decide (1 ≤ (zMo M).frames ∧ 22 ≤ (zMo M).locals)
        | _ => zw lk.2.1 (.methodLink (zMy M).cls idx arraycopyName) && zw lk.2.2.1 (.native arraycopyName) && zw lk.2.2.2.1 (.static arraycopyName) && zw lk.2.2.2.2.1 (.initialized "java/lang/System") && decide (1 ≤ (zMo M).frames ∧ 26 ≤ (zMo M).locals))
      | some M' => zlkB M M' idx lk && decide ((zMk M').1 = 0))
    | _ => true)
def zFix (E : zE) (M : zM) (p : Program) (s : State) (m : MethodId) (meth : Method) (args : Array Value) (c : Code) : Prop :=
  p.tables.exec = Jvm.exec ∧ c.code = zMb M ∧ c.maxLocals = zMl M ∧ meth.sig.returnType = zMr M ∧ s.vm.findClass (zMy M).cls = some m.cls ∧ (∀ w ∈ zG, w.before args s = true) ∧ zKK E s ∧ meth.locks = false ∧ meth.name = (zMy M).name
abbrev zWV (E : zE) (M : zM) (P : Array Value → State → Outcome → State → Prop) (p : Program) (e : Env) (s : State) (m : MethodId) (args : Array Value) (below : List Frame) (meth : Method) (c : Code) (H : Heap) (locs : List Loc) (k n pc : Nat) (ls : Array Slot) (st : List Value) : Prop :=
  W p (zEl E) e (zMo M) s m args below meth c H locs k n (MQ below P args s (zMo M).cells (zMo M).slots (fun q => zElo E ≤ q)) (F0 m pc ls st)
abbrev zWW (E : zE) (M : zM) (Q : Option zV → zH → Prop) (p : Program) (e : Env) (s : State) (m : MethodId) (args : Array Value) (below : List Frame) (meth : Method) (c : Code) (H : Heap) (locs : List Loc) (k n pc : Nat) (ls : Array Slot) (st : List Value) : Prop := zWV E M (zQc E Q) p e s m args below meth c H locs k n pc ls st
def zJ (E : zE) (M : zM) (Q : Option zV → zH → Prop) (pc : Nat) (L : List (Option zV)) (st : List zV) (h : zH) (k n : Nat) : Prop :=
  L.length = zMl M → k ≤ (zMo M).cells → n ≤ (zMo M).slots → ∀ (p : Program) (e : Env) (s : State) (m : MethodId) (args : Array Value) (below : List Frame) (meth : Method) (c : Code), zFix E M p s m meth args c → ∀ (H : Heap) (locs : List Loc) (ls : Array Slot), zREL E h H → va_S (fun q => zElo E ≤ q) s.heap H locs → zL ls (zMl M) L →
    zWW E M Q p e s m args below meth c H locs k n pc ls (st.map zval)
theorem zREL.pos {E : zE} {h : zH} {H : Heap} (hR : zREL E h H) {a : Nat} (hk : zk h a ≠ 0) : a ≠ 0 ∧ zElo E ≤ a - 1 := by
  obtain ⟨-, -, h2, -⟩ := hR
  have := h2 a hk
  omega
theorem zREL.upd {E : zE} {h h' : zH} {H H' : Heap} (hR : zREL E h H) (hs : H'.size = H.size) (e1 : zsz h' = zsz h) (e2 : zk h' = zk h) (a : Nat) (ha : a ≠ 0) (ho : ∀ q, q ≠ a - 1 → H'[q]? = H[q]?) (hsame : ∀ b, b ≠ a → zn h' b = zn h b ∧ zi h' b = zi h b ∧ zr h' b = zr h b) (hc : zcell E h' a H') : zREL E h' H' := by
  obtain ⟨h1, h3, h4, h5⟩ := hR
  refine ⟨by rw [hs, e1]; exact h1, by rw [e1]; exact h3, fun b hb => by rw [e1]; exact h4 b (by rw [← e2]; exact hb), fun b => ?_⟩
  by_cases hb : b = a
  · rw [hb]; exact hc
  · obtain ⟨g1, g2, g3⟩ := hsame b hb
    refine ⟨fun ci hci hk => ?_, fun j hj hk => ?_⟩
    · rw [e2] at hk
      have hf : zfld h' b ci = zfld h b ci := by funext k; unfold zfld; rw [g2, g3]
      rw [hf]
      have := h4 b (by omega)
      exact ((h5 b).1 ci hci hk).kept (ho (b - 1) (by omega))
    · rw [e2] at hk
      have hf : zarr h' b j = zarr h b j := by unfold zarr; rw [g1, g2, g3]
      have := h4 b (by omega)
      rw [hf, ho (b - 1) (by omega)]
      exact (h5 b).2 j hj hk
theorem zREL.push {E : zE} {h h' : zH} {H H' : Heap} (hR : zREL E h H) (hs : H'.size = H.size + 1) (e1 : zsz h' = zsz h + 1) (ho : ∀ q, q < H.size → H'[q]? = H[q]?) (hsame : ∀ b, b ≠ zsz h → zk h' b = zk h b ∧ zn h' b = zn h b ∧ zi h' b = zi h b ∧ zr h' b = zr h b) (hc : zcell E h' (zsz h) H') : zREL E h' H' := by
  obtain ⟨h1, h3, h4, h5⟩ := hR
  refine ⟨by rw [hs, e1, h1], by omega, fun b hb => ?_, fun b => ?_⟩
  · by_cases hb' : b = zsz h
    · omega
    · rw [(hsame b hb').1] at hb
      have := h4 b hb
      omega
  · by_cases hb : b = zsz h
    · rw [hb]; exact hc
    · obtain ⟨g0, g1, g2, g3⟩ := hsame b hb
      refine ⟨fun ci hci hk => ?_, fun j hj hk => ?_⟩
      · rw [g0] at hk
        have hf : zfld h' b ci = zfld h b ci := by funext k; unfold zfld; rw [g2, g3]
        rw [hf]
        have := h4 b (by omega)
        exact ((h5 b).1 ci hci hk).kept (ho (b - 1) (by omega))
      · rw [g0] at hk
        have hf : zarr h' b j = zarr h b j := by unfold zarr; rw [g1, g2, g3]
        have := h4 b (by omega)
        rw [hf, ho (b - 1) (by omega)]
        exact (h5 b).2 j hj hk
section ZS
variable {E : zE} {M : zM} {P : Array Value → State → Outcome → State → Prop} {p : Program} {e : Env} {s : State} {m : MethodId} {args : Array Value} {below : List Frame} {meth : Method} {c : Code} {H : Heap} {locs : List Loc} {k n pc : Nat} {ls : Array Slot} {st : List Value} {h : zH}
theorem zs_get (F : zFix E M p s m meth args c) (hR : zREL E h H) {a ci f idx t : Nat} (hci : ci < 9) (hf : f < zN ci) (hl : zw t (.fieldLink (zMy M).cls idx (zT ci f).1 (zT ci f).2.1 (zT ci f).2.2.1) = true) (hk : zk h a = ci + 1) (hdg : decode (zMb M) pc = .ok (.getfield idx, 3))
    (kk : zWV E M P p e s m args below meth c H locs k n (pc + 3) ls (zfld h a ci f :: st)) : zWV E M P p e s m args below meth c H locs k n pc ls (zrf a :: st) := by
  obtain ⟨hx, hb, -, -, hown, hts, hKK, -⟩ := F
  obtain ⟨ha0, -⟩ := hR.pos (a := a) (by omega)
  rw [zrf_pos ha0]
  obtain ⟨hS', hfc, kC, hkC, hkind⟩ := hKK.1.1 ci _ (zcl ci hci)
  obtain ⟨cf, kf, fi, fd, hi, hsl⟩ := hS' f hf
  obtain ⟨cell, q1, q2, q3, q4⟩ := (hR.2.2.2 a).1 ci hci hk
  refine W.getf hx hb hown (hts _ (zw_spec hl)) hi (u_facts hfc hkC (u_lays hts (zws_in ci hci) hf) hi).1 q1 (by rw [q3]; exact fun h => by cases h) (v := zfld h a ci f) ?_ rfl rfl hdg kk
  rw [hsl, q4 f hf]
theorem zs_apart (F : zFix E M p s m meth args c) {ci : Nat} (hci : ci < 9) : ∀ x y, x < zN ci → y < zN ci → x ≠ y → (zED E).2 ci x ≠ (zED E).2 ci y :=
  va_apart (own := (zMy M).cls) F.2.2.2.2.2.1 (zws_in ci hci) (zty ci) (ztyok ci hci) (znm ci hci) F.2.2.2.2.2.2.1.1 (zcl ci hci)
theorem zfld_upd_i {h : zH} {a ci f : Nat} {x : Int32} (hr : zisr (zty ci f) = false) (j : Nat) : updV (zfld h a ci) f (.int x) j = zfld (zpi h a f x) a ci j := by
  by_cases hj : j = f
  · subst hj
    simp [updV, zfld, hr, zpi, zi, zup2]
  · simp [updV, zfld, zpi, zi, zr, zup2, hj]
theorem zfld_upd_r {h : zH} {a ci f : Nat} {x : Nat} (hr : zisr (zty ci f) = true) (j : Nat) : updV (zfld h a ci) f (zrf x) j = zfld (zpr h a f x) a ci j := by
  by_cases hj : j = f
  · subst hj
    simp [updV, zfld, hr, zpr, zr, zup2]
  · simp [updV, zfld, zpr, zi, zr, zup2, hj]
theorem zpi_same (h : zH) (a f : Nat) (x : Int32) : ∀ b, b ≠ a → zn (zpi h a f x) b = zn h b ∧ zi (zpi h a f x) b = zi h b ∧ zr (zpi h a f x) b = zr h b := by
  intro b hb
  refine ⟨rfl, ?_, rfl⟩
  funext j
  simp [zpi, zi, zup2, hb]
theorem zpr_same (h : zH) (a f : Nat) (x : Nat) : ∀ b, b ≠ a → zn (zpr h a f x) b = zn h b ∧ zi (zpr h a f x) b = zi h b ∧ zr (zpr h a f x) b = zr h b := by
  intro b hb
  refine ⟨rfl, rfl, ?_⟩
  funext j
  simp [zpr, zr, zup2, hb]
theorem zrf_fits (t : FieldType) (ht : zisr t = true) (x : Nat) : narrow t (zrf x) = zrf x ∧ fits t (zrf x) = true := by
  cases t <;> first | (simp [zisr] at ht; done) | (rcases zrf_cases x with ⟨-, hx⟩ | ⟨-, hx⟩ <;> rw [hx] <;> exact ⟨rfl, rfl⟩)
/-- a field's store, with what the new heap is -/
theorem zs_put0 (F : zFix E M p s m meth args c) (hR : zREL E h H) (hS : va_S (fun q => zElo E ≤ q) s.heap H locs) {a ci f idx t : Nat} (hci : ci < 9) (hf : f < zN ci) (hl : zw t (.fieldLink (zMy M).cls idx (zT ci f).1 (zT ci f).2.1 (zT ci f).2.2.1) = true) (hk : zk h a = ci + 1)
    (hfin : (zT ci f).2.2.2 = false ∨ ((zT ci f).2.2.2 = true ∧ (zMy M).name = "<init>" ∧ (zT ci f).1 = (zMy M).cls)) {v : Value} (hn : narrow (zty ci f) v = v) (hfit : fits (zty ci f) v = true) {h' : zH} (e1 : zsz h' = zsz h) (e2 : zk h' = zk h) (hsame : ∀ b, b ≠ a → zn h' b = zn h b ∧ zi h' b = zi h b ∧ zr h' b = zr h b) (hu : ∀ j, updV (zfld h a ci) f v j = zfld h' a ci j) (hdg : decode (zMb M) pc = .ok (.putfield idx, 3))
    (kk : ∀ (H' : Heap) (locs' : List Loc), zREL E h' H' → va_S (fun q => zElo E ≤ q) s.heap H' locs' → zWV E M P p e s m args below meth c H' locs' k n (pc + 3) ls st) : zWV E M P p e s m args below meth c H locs k n pc ls (v :: zrf a :: st) := by
  have hap := zs_apart F hci
  obtain ⟨hx, hb, -, -, hown, hts, hKK, -, hnm⟩ := F
  obtain ⟨ha0, hlo⟩ := hR.pos (a := a) (by omega)
  rw [zrf_pos ha0]
  obtain ⟨hS', hfc, kC, hkC, hkind⟩ := hKK.1.1 ci _ (zcl ci hci)
  obtain ⟨cf, kf, fi, fd, hi, hsl⟩ := hS' f hf
  obtain ⟨cell, q1, q2, q3, q4⟩ := (hR.2.2.2 a).1 ci hci hk
  have hlink := hts _ (zw_spec hl)
  have hst := (u_facts hfc hkC (u_lays hts (zws_in ci hci) hf) hi).1
  have hlay := hts _ (zws_in ci hci _ (u_in_lay hf))
  have fin : ∀ (H' : Heap), H'[a - 1]? = some (cell.setSlot fd.slot v) → H'.size = H.size → (∀ q, q ≠ a - 1 → H'[q]? = H[q]?) → zWV E M P p e s m args below meth c H' (locs ++ [⟨a - 1, fd.slot⟩]) k n (pc + 3) ls st := by
    intro H' g1 g2 g3
    rw [hsl] at g1
    refine kk H' _ (hR.upd g2 e1 e2 a ha0 g3 hsame ⟨fun cj hcj hkj => ?_, fun j hj hkj => ?_⟩) (hS.put g2 g3 hlo)
    · have : cj = ci := by rw [e2] at hkj; omega
      subst this
      exact t_OB.to (V := updV (zfld h a cj) f v) ⟨_, g1, q2, q3, t_set q4 hap hf v⟩ (fun j _ => hu j)
    · rw [e2] at hkj
      omega
  rcases hfin with hfin | ⟨hfin, hin2, hdecl⟩
  · unfold u_lay at hlay
    rw [if_neg (by rw [hfin]; decide)] at hlay
    have h6 := u_store hfc hkC hkind hlay hi (ztyok ci hci f hf) hn hfit
    exact W.putK hx hb (f := fd) ⟨hown, hlink, ⟨_, _, _, hi⟩, hst⟩ (by rw [q2]; exact h6) q1 q3 (by rw [hsl]; exact k2_hasslot (q4 f hf)) rfl rfl hdg fin
  · unfold u_lay at hlay
    rw [if_pos hfin] at hlay
    have hcf : m.cls = cf := by
      obtain ⟨_, _, c', _, _, _, -, -, hf', -, -, -, hown2, -⟩ := Cond.laysFinal_spec hlay
      have e1 : c' = cf := by have := hi.symm.trans hf'; simp at this; exact this.1.symm
      rw [hdecl] at hown2
      rw [← e1]; exact Option.some.inj (hown.symm.trans hown2)
    have h6 := u_fits hfc hkC hkind (Or.inr hlay) hi (ztyok ci hci f hf) hn hfit
    exact W.putFinK hx hb hown hlink hi hst hcf (by rw [hnm]; exact hin2) (by rw [q2]; exact h6) q1 q3 (by rw [hsl]; exact k2_hasslot (q4 f hf)) rfl rfl hdg fin
theorem zarr_i {h : zH} {a j : Nat} (hj : j < 2) : zarr h a j = (zn h a, .inl (zi h a)) := by unfold zarr; rw [if_pos hj]
theorem zarr_r {h : zH} {a j : Nat} (hj : ¬ j < 2) : zarr h a j = (zn h a, .inr (.inr (.inr (.inr (fun i => zo (zr h a i)))))) := by unfold zarr; rw [if_neg hj]
theorem zs_iald (F : zFix E M p s m meth args c) (hR : zREL E h H) {a : Nat} {i : Int32} (hk : zk h a = 20) (hin : vp_in i (zn h a)) (hdg : decode (zMb M) pc = .ok (.iaload, 1))
    (kk : zWV E M P p e s m args below meth c H locs k n (pc + 1) ls (.int (zi h a i.toNatClampNeg) :: st)) : zWV E M P p e s m args below meth c H locs k n pc ls (.int i :: zrf a :: st) := by
  obtain ⟨hx, hb, -, -, -, -, hKK, -⟩ := F
  obtain ⟨ha0, -⟩ := hR.pos (a := a) (by omega)
  rw [zrf_pos ha0]
  have hc := (hR.2.2.2 a).2 0 (by decide) hk
  rw [zarr_i (by decide)] at hc
  exact va_iald (ws := [(a - 1, .inl (zEA E 0, zn h a, .inl (zi h a)))]) (D := zED E) (cl := vwCl) (tys := zTys E) hx hb hKK.1 (fun k q hq => by cases k with | zero => cases hq; exact hc | succ k => simp at hq) 0 0 rfl (zTys_get E (j := 0) (by decide)) hin hdg kk
theorem zs_cald (F : zFix E M p s m meth args c) (hR : zREL E h H) {a : Nat} {i : Int32} (hk : zk h a = 21) (hin : vp_in i (zn h a)) (hdg : decode (zMb M) pc = .ok (.caload, 1))
    (kk : zWV E M P p e s m args below meth c H locs k n (pc + 1) ls (.int (zi h a i.toNatClampNeg) :: st)) : zWV E M P p e s m args below meth c H locs k n pc ls (.int i :: zrf a :: st) := by
  obtain ⟨hx, hb, -, -, -, -, hKK, -⟩ := F
  obtain ⟨ha0, -⟩ := hR.pos (a := a) (by omega)
  rw [zrf_pos ha0]
  have hc := (hR.2.2.2 a).2 1 (by decide) hk
  rw [zarr_i (by decide)] at hc
  exact va_cald (ws := [(a - 1, .inl (zEA E 1, zn h a, .inl (zi h a)))]) (D := zED E) (cl := vwCl) (tys := zTys E) hx hb hKK.1 (fun k q hq => by cases k with | zero => cases hq; exact hc | succ k => simp at hq) 0 1 rfl (zTys_get E (j := 1) (by decide)) hin hdg kk
theorem zAty_r {j : Nat} (h1 : 2 ≤ j) (h2 : j < 8) : zAty j = .object (zAC j) := by
  rcases (show j = 2 ∨ j = 3 ∨ j = 4 ∨ j = 5 ∨ j = 6 ∨ j = 7 by omega) with rfl | rfl | rfl | rfl | rfl | rfl <;> rfl
theorem zs_aald (F : zFix E M p s m meth args c) (hR : zREL E h H) {a : Nat} {i : Int32} (hk : 22 ≤ zk h a ∧ zk h a < 28) (hin : vp_in i (zn h a)) (hdg : decode (zMb M) pc = .ok (.aaload, 1))
    (kk : zWV E M P p e s m args below meth c H locs k n (pc + 1) ls (zrf (zr h a i.toNatClampNeg) :: st)) : zWV E M P p e s m args below meth c H locs k n pc ls (.int i :: zrf a :: st) := by
  obtain ⟨hx, hb, -, -, -, -, hKK, -⟩ := F
  obtain ⟨ha0, -⟩ := hR.pos (a := a) (by omega)
  rw [zrf_pos ha0]
  obtain ⟨j, hj⟩ : ∃ j, j = zk h a - 20 := ⟨_, rfl⟩
  have hc := (hR.2.2.2 a).2 j (by omega) (by omega)
  rw [zarr_r (by omega)] at hc
  exact va_aldq (ws := [(a - 1, .inl (zEA E j, zn h a, .inr (.inr (.inr (.inr (fun i => zo (zr h a i)))))))]) (C := zAC j) (D := zED E) (cl := vwCl) (tys := zTys E) hx hb hKK.1 (fun k q hq => by cases k with | zero => cases hq; exact hc | succ k => simp at hq) 0 j rfl (by rw [zTys_get E (by omega), zAty_r (by omega) (by omega)]) hin hdg kk
theorem zs_iast (F : zFix E M p s m meth args c) (hR : zREL E h H) (hS : va_S (fun q => zElo E ≤ q) s.heap H locs) {a : Nat} {i x : Int32} (hk : zk h a = 20) (hin : vp_in i (zn h a)) (hdg : decode (zMb M) pc = .ok (.iastore, 1))
    (kk : ∀ (H' : Heap) (locs' : List Loc), zREL E (zpi h a i.toNatClampNeg x) H' → va_S (fun q => zElo E ≤ q) s.heap H' locs' → zWV E M P p e s m args below meth c H' locs' k n (pc + 1) ls st) : zWV E M P p e s m args below meth c H locs k n pc ls (.int x :: .int i :: zrf a :: st) := by
  obtain ⟨hx, hb, -, -, -, -, hKK, -⟩ := F
  obtain ⟨ha0, hlo⟩ := hR.pos (a := a) (by omega)
  rw [zrf_pos ha0]
  have hc := (hR.2.2.2 a).2 0 (by decide) hk
  rw [zarr_i (by decide)] at hc
  refine W.iast hx hb hc ((hKK.1.2 0 _ (zTys_get E (j := 0) (by decide))).1 (zn h a) (fun j => .int (zi h a j))) (fun q => by cases q) (by show ¬ (i < 0 ∨ (arrV _ _ _).slots.size ≤ _); rw [arrV_size]; exact hin) rfl rfl hdg fun H1 g1 g2 g3 => ?_
  refine kk H1 _ (hR.upd g2 rfl rfl a ha0 g3 (zpi_same h a _ x) ⟨fun cj hcj hkj => ?_, fun j hj hkj => ?_⟩) (hS.put g2 g3 hlo)
  · have hkj : zk h a = cj + 1 := hkj
    omega
  · have hkj : zk h a = 20 + j := hkj
    have : j = 0 := by omega
    subst this
    rw [zarr_i (by decide), g1]
    rw [vp_cell_i, vp_cell_i, arrV_store]
    congr 2
    funext q
    by_cases hq : q = i.toNatClampNeg
    · subst hq
      simp [updV, zpi, zi, zup2]
    · simp [updV, zpi, zi, zup2, hq]
theorem zs_cast (F : zFix E M p s m meth args c) (hR : zREL E h H) (hS : va_S (fun q => zElo E ≤ q) s.heap H locs) {a : Nat} {i x : Int32} (hk : zk h a = 21) (hin : vp_in i (zn h a)) (hdg : decode (zMb M) pc = .ok (.castore, 1))
    (kk : ∀ (H' : Heap) (locs' : List Loc), zREL E (zpi h a i.toNatClampNeg (vp_nar .char x)) H' → va_S (fun q => zElo E ≤ q) s.heap H' locs' → zWV E M P p e s m args below meth c H' locs' k n (pc + 1) ls st) : zWV E M P p e s m args below meth c H locs k n pc ls (.int x :: .int i :: zrf a :: st) := by
  obtain ⟨hx, hb, -, -, -, -, hKK, -⟩ := F
  obtain ⟨ha0, hlo⟩ := hR.pos (a := a) (by omega)
  rw [zrf_pos ha0]
  have hc := (hR.2.2.2 a).2 1 (by decide) hk
  rw [zarr_i (by decide)] at hc
  refine W.cast hx hb hc ((hKK.1.2 1 _ (zTys_get E (j := 1) (by decide))).1 (zn h a) (fun j => .int (zi h a j))) (fun q => by cases q) (by show ¬ (i < 0 ∨ (arrV _ _ _).slots.size ≤ _); rw [arrV_size]; exact hin) rfl rfl hdg fun H1 g1 g2 g3 => ?_
  refine kk H1 _ (hR.upd g2 rfl rfl a ha0 g3 (zpi_same h a _ _) ⟨fun cj hcj hkj => ?_, fun j hj hkj => ?_⟩) (hS.put g2 g3 hlo)
  · have hkj : zk h a = cj + 1 := hkj
    omega
  · have hkj : zk h a = 20 + j := hkj
    have : j = 1 := by omega
    subst this
    rw [zarr_i (by decide), g1]
    rw [vp_cell_i, vp_cell_i, show narrow .char (.int x) = .int (vp_nar .char x) from rfl, arrV_store]
    congr 2
    funext q
    by_cases hq : q = i.toNatClampNeg
    · subst hq
      simp [updV, zpi, zi, zup2]
    · simp [updV, zpi, zi, zup2, hq]
theorem zAk_C {j : Nat} (h1 : 2 ≤ j) (h2 : j < 8) : zAk j < 9 ∧ zC (zAk j) = zAC j := by
  rcases (show j = 2 ∨ j = 3 ∨ j = 4 ∨ j = 5 ∨ j = 6 ∨ j = 7 by omega) with rfl | rfl | rfl | rfl | rfl | rfl <;> exact ⟨by decide, rfl⟩
theorem zs_aast (F : zFix E M p s m meth args c) (hR : zREL E h H) (hS : va_S (fun q => zElo E ≤ q) s.heap H locs) {a x : Nat} {i : Int32} (hk : 22 ≤ zk h a ∧ zk h a < 28) (hin : vp_in i (zn h a)) (hxk : x = 0 ∨ zk h x = zAk (zk h a - 20) + 1) (hdg : decode (zMb M) pc = .ok (.aastore, 1))
    (kk : ∀ (H' : Heap) (locs' : List Loc), zREL E (zpr h a i.toNatClampNeg x) H' → va_S (fun q => zElo E ≤ q) s.heap H' locs' → zWV E M P p e s m args below meth c H' locs' k n (pc + 1) ls st) : zWV E M P p e s m args below meth c H locs k n pc ls (zrf x :: .int i :: zrf a :: st) := by
  obtain ⟨hx, hb, -, -, -, -, hKK, -⟩ := F
  obtain ⟨ha0, hlo⟩ := hR.pos (a := a) (by omega)
  rw [zrf_pos ha0]
  obtain ⟨j, hj⟩ : ∃ j, j = zk h a - 20 := ⟨_, rfl⟩
  have hc := (hR.2.2.2 a).2 j (by omega) (by omega)
  rw [zarr_r (by omega)] at hc
  have hlt : i.toNatClampNeg < zn h a := Nat.not_le.mp fun q => hin (Or.inr q)
  have h0 : ¬ i < 0 := fun q => hin (Or.inl q)
  have hty := hKK.1.2 j _ (zTys_get E (by omega))
  rw [zAty_r (by omega) (by omega)] at hty
  have fin : ∀ (H' : Heap), H'[a - 1]? = some ((vp_cell (zEA E j) (zn h a, .inr (.inr (.inr (.inr (fun i => zo (zr h a i))))))).setSlot i.toNatClampNeg (zrf x)) → H'.size = H.size → (∀ q, q ≠ a - 1 → H'[q]? = H[q]?) → zWV E M P p e s m args below meth c H' (locs ++ [⟨a - 1, i.toNatClampNeg⟩]) k n (pc + 1) ls st := by
    intro H1 g1 g2 g3
    refine kk H1 _ (hR.upd g2 rfl rfl a ha0 g3 (zpr_same h a _ x) ⟨fun cj hcj hkj => ?_, fun j' hj' hkj => ?_⟩) (hS.put g2 g3 hlo)
    · have hkj : zk h a = cj + 1 := hkj
      omega
    · have hkj : zk h a = 20 + j' := hkj
      have : j' = j := by omega
      subst this
      rw [zarr_r (by omega), g1]
      rw [vp_cell_q, vp_cell_q, arrV_store]
      congr 2
      funext q
      by_cases hq : q = i.toNatClampNeg
      · subst hq
        simp [updV, zpr, zr, zup2, zrf]
      · simp [updV, zpr, zr, zup2, hq]
  rcases hxk with hx0 | hxk
  · subst hx0
    exact va_WaastN hx hb hc (hty.1 (zn h a) _) (fun q => by cases q) (by show ¬ (i < 0 ∨ (arrV _ _ _).slots.size ≤ _); rw [arrV_size]; exact hin) rfl rfl hdg fin
  · obtain ⟨hx0, -⟩ := hR.pos (a := x) (by omega)
    rw [← hj] at hxk
    obtain ⟨hA1, hA2⟩ := zAk_C (j := j) (by omega) (by omega)
    obtain ⟨cellV, v1, v2, v3, -⟩ := (hR.2.2.2 x).1 (zAk j) hA1 hxk
    have hcls := (hKK.1.1 (zAk j) _ (zcl _ hA1)).2
    obtain ⟨kA, comp, k1, k2, k3, -⟩ := hty.2
    rw [← hA2] at k3
    have hcomp : comp = (zED E).1 (zAk j) := Option.some.inj (k3.symm.trans hcls.1)
    subst hcomp
    obtain ⟨kC, hkC, -⟩ := hcls.2
    rw [zrf_pos hx0] at fin ⊢
    exact W.aast hx hb hc (fun q h => by cases h) (fun h => by cases h) k1 k2 rfl hkC ⟨h0, by show _ < (arrV _ _ _).slots.size; rw [arrV_size]; exact hlt⟩ v1 (fun q h => by rw [v3] at h; cases h) (by rw [v2]; exact hkC) (by rw [v2]; exact va_assign hcls) rfl rfl hdg fin
end ZS
end
section
theorem zmsb {x : Int32} : x.toBitVec.msb = decide (x.toInt < 0) := by
  rw [BitVec.msb_eq_toInt]; rfl
theorem zxor_nn {x y : Int32} (hx : ¬ x < 0) (hy : 0 < y) : 0 ≤ x ^^^ y := by
  have h1 : 0 ≤ x.toInt := by have := Int32.not_lt.mp hx; simpa using Int32.le_iff_toInt_le.mp this
  have h2 : 0 < y.toInt := by simpa using Int32.lt_iff_toInt_lt.mp hy
  rw [Int32.le_iff_toInt_le, Int32.toInt_zero]
  have h3 : (x ^^^ y).toBitVec.msb = false := by
    rw [Int32.toBitVec_xor, BitVec.msb_xor, zmsb, zmsb, decide_eq_false (by omega), decide_eq_false (by omega)]; rfl
  rw [zmsb] at h3
  have h4 := of_decide_eq_false h3
  omega
theorem zrem {x y : Int32} (hx : ¬ x < 0) (hy : 0 < y) : x - x / y * y = x % y := by
  have hy2 : 0 < y.toInt := by simpa using Int32.lt_iff_toInt_lt.mp hy
  have hy1 : ¬ y < 0 := fun q => by
    have := Int32.lt_iff_toInt_lt.mp q
    rw [Int32.toInt_zero] at this
    omega
  obtain ⟨a, ha, rfl⟩ := nI_of hx
  obtain ⟨d, hd, rfl⟩ := nI_of hy1
  rw [nI_toInt hd] at hy2
  have hlt : a % d < 2 ^ 31 := Nat.lt_of_le_of_lt (Nat.mod_le _ _) ha
  rw [pk_rem ha (by omega) hd]
  apply Int32.toInt_inj.mp
  rw [Int32.toInt_mod, nI_toInt hlt, nI_toInt ha, nI_toInt hd]
  exact Int.ofNat_tmod a d
def zfmPre : Cond := .and (.code yJ9_floorMod_7cf53 cJ9_floorMod_7cf53 3 (some .int)) (.and (.count 2) (.and (.isInt (.arg 0)) (.and (.isInt (.arg 1)) (.and (.lt (.int 0) (.arg 1)) (.not (.lt (.arg 0) (.int 0)))))))
def zfmSpec : Spec where
  pre := zfmPre
  post := .and .returned (.eq .result (.rem (.arg 0) (.arg 1)))
  changes := some []
theorem zfm0 : decode cJ9_floorMod_7cf53 0 = .ok (.iload_n 0, 1) := by decide +kernel
theorem zfm1 : decode cJ9_floorMod_7cf53 1 = .ok (.iload_n 1, 1) := by decide +kernel
theorem zfm2 : decode cJ9_floorMod_7cf53 2 = .ok (.irem, 1) := by decide +kernel
theorem zfm3 : decode cJ9_floorMod_7cf53 3 = .ok (.istore_n 2, 1) := by decide +kernel
theorem zfm4 : decode cJ9_floorMod_7cf53 4 = .ok (.iload_n 0, 1) := by decide +kernel
theorem zfm5 : decode cJ9_floorMod_7cf53 5 = .ok (.iload_n 1, 1) := by decide +kernel
theorem zfm6 : decode cJ9_floorMod_7cf53 6 = .ok (.ixor, 1) := by decide +kernel
theorem zfm7 : decode cJ9_floorMod_7cf53 7 = .ok (.ifCond .ge 11, 3) := by decide +kernel
theorem zfm18 : decode cJ9_floorMod_7cf53 18 = .ok (.iload_n 2, 1) := by decide +kernel
theorem zfm19 : decode cJ9_floorMod_7cf53 19 = .ok (.ireturn, 1) := by decide +kernel
theorem zfm_noRow0 : (NativeRow.find? natives yJ9_floorMod_7cf53.cls yJ9_floorMod_7cf53.name yJ9_floorMod_7cf53.desc).isNone = true := by decide +kernel
theorem zfm_noRow (p : Program) : NativeRow.find? p.tables.natives yJ9_floorMod_7cf53.cls yJ9_floorMod_7cf53.name yJ9_floorMod_7cf53.desc = none := by
  cases p <;> exact Option.isNone_iff_eq_none.mp zfm_noRow0
theorem zfm_pre {a b : Int32} {s : State} (h1 : (Cond.lt (.int 0) (.arg 1)).before #[.int a, .int b] s = true) (h2 : (Cond.not (.lt (.arg 0) (.int 0))).before #[.int a, .int b] s = true) : 0 < b ∧ ¬ a < 0 := by
  constructor
  · simpa [Cond.before, Cond.holds, Cond.value, Term.eval] using h1
  · simpa [Cond.before, Cond.holds, Cond.value, Term.eval] using h2
set_option maxHeartbeats 2000000 in
theorem zfm_meets (l : Launch) : MeetsLoose l yJ9_floorMod_7cf53 zfmSpec := by
  refine MeetsLoose.of_body_ov (code := cJ9_floorMod_7cf53) (maxLocals := 3) (ret := some .int) zfm_noRow ?_ ?_
  · intro args s h
    simp only [zfmSpec, zfmPre, Cond.before_and, Bool.and_eq_true] at h
    exact h.1
  · intro p e s m args below meth c s₁ B
    have hpre := B.pre
    simp only [zfmSpec, zfmPre, Cond.before_and, Bool.and_eq_true] at hpre
    obtain ⟨a, b, rfl⟩ := Cond.two_ints hpre.2.1 hpre.2.2.1 hpre.2.2.2.1
    obtain ⟨hb, ha⟩ := zfm_pre hpre.2.2.2.2.1 hpre.2.2.2.2.2
    have hb0 : ¬ b = 0 := by rintro rfl; exact absurd hb (by decide)
    have hxor := zxor_nn ha hb
    have hloc : argsToLocals #[.int a, .int b] 3 = #[.val (.int a), .val (.int b), .unset] := rfl
    obtain ⟨fs, hfs⟩ := handOver_isSome (s := s₁) (some (.int (a - a / b * b))) B.hears₁
    refine ⟨s₁.setFrames fs, .returned (some (.int (a - a / b * b))), ?_, B.here.running, B.ended hfs (by intro h; cases h), ?_, State.sameBut_nil.mpr ?_⟩
    · unfold entryFrame; rw [hloc]
      refine Steps.instrAtOv (c := _) (by simpa using B.here) ?_
      simp [jvm, wpRun, exec, B.here.top, B.exec, B.bytes, zfm0]
      refine Steps.instrAtOv (c := _) (by simpa using B.here) ?_
      simp [jvm, wpRun, exec, B.here.top, B.exec, B.bytes, zfm1]
      refine Steps.instrAtOv (c := _) (by simpa using B.here) ?_
      simp [jvm, wpRun, exec, B.here.top, B.exec, B.bytes, zfm2, hb0]
      generalize hr : a - a / b * b = r at hfs ⊢
      refine Steps.instrAtOv (c := _) (by simpa using B.here) ?_
      simp [jvm, wpRun, exec, B.here.top, B.exec, B.bytes, zfm3, show storeLocals #[.val (.int a), .val (.int b), .unset] 2 (.int r) = some #[.val (.int a), .val (.int b), .val (.int r)] from rfl]
      refine Steps.instrAtOv (c := _) (by simpa using B.here) ?_
      simp [jvm, wpRun, exec, B.here.top, B.exec, B.bytes, zfm4]
      refine Steps.instrAtOv (c := _) (by simpa using B.here) ?_
      simp [jvm, wpRun, exec, B.here.top, B.exec, B.bytes, zfm5]
      refine Steps.instrAtOv (c := _) (by simpa using B.here) ?_
      simp [jvm, wpRun, exec, B.here.top, B.exec, B.bytes, zfm6]
      refine Steps.instrAtOv (c := _) (by simpa using B.here) ?_
      simp [jvm, wpRun, exec, B.here.top, B.exec, B.bytes, zfm7, Op.ifCond.holds, hxor]
      refine Steps.instrAtOv (c := _) (by simpa using B.here) ?_
      simp [jvm, wpRun, exec, B.here.top, B.exec, B.bytes, zfm18]
      refine Steps.instrAtOv (c := _) (by simpa using B.here) ?_
      simp [jvm, wpRun, exec, B.here.top, B.exec, B.bytes, zfm19, B.method₁, B.returns, narrow]
      intro acts
      rw [ret_to B.frames₁ B.method₁ B.notSynchronized rfl rfl hfs]
      exact Steps.refl _
    · simp [zfmSpec, Cond.after, Cond.holds, Cond.value, Term.eval, hb0, zrem ha hb]
    · rw [State.frames_setFrames _ B.cur₁, B.back]
section ZFM
variable {E : zE} {M : zM} {P : Array Value → State → Outcome → State → Prop} {p : Program} {e : Env} {s : State} {m : MethodId} {args : Array Value} {below : List Frame} {meth : Method} {c : Code} {H : Heap} {locs : List Loc} {k n pc : Nat} {ls : Array Slot} {h : zH}
theorem zs_fmod (F : zFix E M p s m meth args c) (hsz : ls.size = zMl M) {idx t1 t2 t3 t4 : Nat} {x y : Int32} {rest : List Value} (hk : k ≤ (zMo M).cells) (hn : n ≤ (zMo M).slots)
    (g1 : zw t1 (.methodLink (zMy M).cls idx yJ9_floorMod_7cf53) = true) (g2 : zw t2 (.static yJ9_floorMod_7cf53) = true) (g3 : zw t3 (.initialized "java/lang/Math") = true) (g4 : zw t4 (.code yJ9_floorMod_7cf53 cJ9_floorMod_7cf53 3 (some .int)) = true)
    (hx0 : ¬ x < 0) (hy0 : 0 < y) (hframes : 1 ≤ (zMo M).frames) (hlocals : (rest.map fun v => v.category).sum + 14 ≤ (zMo M).locals) (hdg : decode (zMb M) pc = .ok (.invokestatic idx, 3))
    (kk : zWV E M P p e s m args below meth c H locs k n (pc + 3) ls (.int (x - x / y * y) :: rest)) : zWV E M P p e s m args below meth c H locs k n pc ls (.int y :: .int x :: rest) := by
  obtain ⟨hx, hb, hml, -, hown, hts, hKK, -⟩ := F
  have hy1 : ¬ y = 0 := by rintro rfl; exact absurd hy0 (by decide)
  have hcode := hts _ (zw_spec g4)
  intro T hT X
  obtain ⟨v, vm', X', ⟨first, t, hpost⟩, hstep⟩ := X.staticByContractV hx hown (hts _ (zw_spec g1)) (hts _ (zw_spec g2)) (hts _ (zw_spec g3)) hcode (by decide) (zfm_meets (zEl E)) rfl rfl rfl rfl
    (fun args' first o s₂ h => by
      simp only [zfmSpec, Cond.after_and, Bool.and_eq_true] at h
      cases o with
      | returned r => exact ⟨r, rfl⟩
      | threw y => simp [Cond.after, Cond.holds, Cond.value] at h)
    (g := F0 m pc ls (.int y :: .int x :: rest)) rfl (by rw [hml]; exact hsz) (argsL := [.int x, .int y]) (rest := rest)
    (fun sig hs => by
      have h : parseMethodDescriptor "(II)I" = some { parameters := [.int, .int], returnType := some .int } := by decide +kernel
      rw [show yJ9_floorMod_7cf53.desc = "(II)I" from rfl, h] at hs
      rw [← Option.some.inj hs]; rfl)
    rfl (by rw [hb]; exact hdg)
    (fun vm' hW => by
      simp only [zfmSpec, zfmPre, Cond.before_and, Bool.and_eq_true]
      refine ⟨?_, rfl, rfl, rfl, ?_, ?_⟩
      · have q := hcode
        rw [← Cond.code_setVm hW.alike] at q
        simp only [Cond.before, Cond.holds, Cond.value, State.methodNamed?, State.vm_setVm] at q ⊢
        exact q
      · simp [Cond.before, Cond.holds, Cond.value, Term.eval, hy0]
      · simpa [Cond.before, Cond.holds, Cond.value, Term.eval] using hx0)
    (by show 0 + 1 ≤ _; omega) (by show 2 * 0 + (rest.map fun v => v.category).sum + (3 + 11) + 0 ≤ _; omega) (by show k + 0 ≤ _; omega) (by show n + 0 ≤ _; omega)
  obtain ⟨t2, a1, b1⟩ := kk (T.setVm vm') hT X'
  refine ⟨t2, hstep _ ?_, b1⟩
  have hv : v = some (.int (x - x / y * y)) := by
    rcases v with _ | w
    · simp [zfmSpec, Cond.after, Cond.holds, Cond.value, Term.eval, hy1] at hpost
    · cases w <;> simp [zfmSpec, Cond.after, Cond.holds, Cond.value, Term.eval, hy1] at hpost
      rename_i r
      rw [hpost, zrem hx0 hy0]
  rw [hv]
  exact a1
end ZFM
end
section
section ZC
variable {E : zE} {M : zM} {P : Array Value → State → Outcome → State → Prop} {p : Program} {e : Env} {s : State} {m : MethodId} {args : Array Value} {below : List Frame} {meth : Method} {c : Code} {H : Heap} {locs : List Loc} {k n pc : Nat} {ls : Array Slot} {h : zH}
theorem zMB_spec {M' : zM} (hB : zMB M' = true) : plainName (zMy M').cls = true ∧ .code (zMy M') (zMb M') (zMl M') (zMr M') ∈ zG ∧ .initialized (zMy M').cls ∈ zG ∧
    ((zMk M').1 = 0 → .static (zMy M') ∈ zG) ∧ ((zMk M').1 = 1 → .instanceMethod (zMy M') ∈ zG ∧ .selects (zMy M').cls (zMy M') (zMy M') ∈ zG) ∧ ((zMk M').1 = 2 → .instanceMethod (zMy M') ∈ zG ∧ zMr M' = none ∧ (zMy M').name = "<init>") ∧
    ((zMy M').cls ≠ "java/lang/invoke/MethodHandle" ∧ (zMy M').cls ≠ "java/lang/invoke/VarHandle" ∧ (parseMethodDescriptor (zMy M').desc).map (fun d => d.parameters.length) = some (zMn M')) := by
  unfold zMB at hB
  simp only [Bool.and_eq_true, decide_eq_true_eq] at hB
  obtain ⟨⟨⟨⟨h1, h2⟩, h3⟩, h4⟩, h5⟩ := hB
  refine ⟨h1, zw_spec h2, zw_spec h3, fun hk => ?_, fun hk => ?_, fun hk => ?_, h5⟩
  · rw [hk] at h4
    exact zw_spec h4
  · rw [hk] at h4
    simp only [Bool.and_eq_true] at h4
    exact ⟨zw_spec h4.1, zw_spec h4.2⟩
  · rw [hk] at h4
    simp only [Bool.and_eq_true, decide_eq_true_eq] at h4
    exact ⟨zw_spec h4.1.1, h4.1.2, h4.2⟩
theorem zG_good {w : Cond} (h : w ∈ zG) : (w.onTables && w.keeps) = true ∨ ∃ ty, w = .arrayClass ty := good_of_word (List.mem_filter.mp h).2
theorem zws_good {M' : zM} (hc : .code (zMy M') (zMb M') (zMl M') (zMr M') ∈ zG) : GoodIn zG (zws M') := by
  intro w hw
  unfold zws at hw
  rcases List.mem_cons.mp hw with rfl | hw
  · exact ⟨hc, zG_good hc⟩
  · exact ⟨hw, zG_good hw⟩
theorem zs_callB {M' : zM} (F : zFix E M p s m meth args c) (hB : zMB M' = true) (hroom : (zMo M').frames + 1 ≤ (zMo M).frames ∧ 8 + (zMl M' + 11) + (zMo M').locals ≤ (zMo M).locals) {idx : Nat} (hl : (Cond.methodLink (zMy M).cls idx (zMy M')).before args s = true) :
    CallB (zMo M) s args (zMy M).cls idx (zMy M') (zMb M') (zMl M') (zMr M') (zws M') (zMo M') (zMo M').cells (zMo M').slots (zMn M') := by
  obtain ⟨h1, h2, h3, -, -, -, h7⟩ := zMB_spec hB
  exact callB_of (zMn M') F.2.2.2.2.2.1 (zws_good h2) rfl rfl rfl (F.2.2.2.2.2.1 _ h3) hl h7 hroom
theorem zs_fix (F : zFix E M p s m meth args c) : CallFix p m c (zMb M) (zMl M) s args zG (zMy M).cls := ⟨F.1, F.2.1, F.2.2.1, F.2.2.2.2.1, F.2.2.2.2.2.1⟩
theorem zs_pre (F : zFix E M p s m meth args c) (hR : zREL E h H) (hS : va_S (fun q => zElo E ≤ q) s.heap H locs) (av : List zV) : PreS s H (zPc E av h) (av.map zval) :=
  ⟨zPc_blind E av h, fun U hU hW => ⟨rfl, by rw [hU]; exact hR, F.2.2.2.2.2.2.1.warm hW (by rw [hU]; exact hS.2.1)⟩⟩
theorem zs_cat (rest : List zV) : ((rest.map zval).map fun v => v.category).sum = rest.length := by
  induction rest with
  | nil => rfl
  | cons v r ih =>
    rw [List.map_cons, List.map_cons, List.sum_cons, ih, zval_cat, List.length_cons]
    omega
theorem zs_run {Qa : Option zV → zH → Prop} {st0 rest : List Value} {mc ms : Nat} {a : Array Value} {Qf : State → Prop} {R : Room} {l : Launch}
    (hr : va_Run p l e R s m args below meth c H locs k n mc ms (F0 m pc ls st0) rest (zQc E Qa a) (fun q => zElo E ≤ q)) (hS : va_S (fun q => zElo E ≤ q) s.heap H locs)
    (kk : ∀ (r : Option zV) (h' : zH) (H1 : Heap) (locs1 : List Loc), Qa r h' → zREL E h' H1 → va_S (fun q => zElo E ≤ q) s.heap H1 locs1 → W p l e R s m args below meth c H1 locs1 (k + mc) (n + ms) Qf (F0 m (pc + 3) ls ((r.map zval).toList ++ rest))) : W p l e R s m args below meth c H locs k n Qf (F0 m pc ls st0) := by
  intro T hT X
  obtain ⟨v, st₀, t, T', L, h0, X', hL, e1, e2, ⟨⟨r, h', hv, hq, hR⟩, hz, hk⟩, st⟩ := hr T hT X
  cases hv
  rw [h0] at hz hk
  obtain ⟨t2, a1, b1⟩ := kk r h' T'.heap (locs ++ L) hq (by rw [e1]; exact hR)
    ⟨Nat.le_trans hS.1 (by rw [e1]; exact hz), fun q h1 h2 => by rw [e1, hk q (Nat.lt_of_lt_of_le h1 hS.1) h2]; exact hS.2.1 q h1 h2, fun q hq => by
      rcases List.mem_append.mp hq with h | h
      · exact hS.2.2 q h
      · exact hL q h⟩ T' rfl X'
  exact ⟨t2, st t2 a1, b1⟩
theorem zs_recv (F : zFix E M p s m meth args c) (hR : zREL E h H) {b ci : Nat} (hci : ci < 9) (hk : zk h b = ci + 1) : ∃ cell : Cell, H[b - 1]? = some cell ∧ cell.vm.isStatics = false ∧ s.vm.findClass (zC ci) = some cell.cls := by
  obtain ⟨cell, v1, v2, v3, -⟩ := (hR.2.2.2 b).1 ci hci hk
  exact ⟨cell, v1, by rw [v3]; rfl, by rw [v2]; exact (F.2.2.2.2.2.2.1.1.1 ci _ (zcl ci hci)).2.1⟩
theorem zlkB_spec {M' : zM} {idx : Nat} {lk : zLk} (hB : zlkB M M' idx lk = true) : zMB M' = true ∧ ((zMo M').frames + 1 ≤ (zMo M).frames ∧ 8 + (zMl M' + 11) + (zMo M').locals ≤ (zMo M).locals) ∧
    ((lk.2.1 = 0 ∧ .methodLink (zMy M).cls idx (zMy M') ∈ zG) ∨ (lk.2.1 ≠ 0 ∧ ((zMy M).cls, idx, zMy M', RX8) ∈ zNest)) := by
  unfold zlkB at hB
  simp only [Bool.and_eq_true, decide_eq_true_eq] at hB
  obtain ⟨⟨h1, h2⟩, h3⟩ := hB
  refine ⟨h2, h3, ?_⟩
  by_cases h0 : lk.2.1 = 0
  · rw [h0] at h1
    exact Or.inl ⟨h0, zw_spec h1⟩
  · split at h1
    · exact absurd (by assumption) h0
    · exact Or.inr ⟨h0, List.mem_of_getElem? (of_decide_eq_true h1)⟩
theorem zs_CN {M' : zM} (F : zFix E M p s m meth args c) (hB : zMB M' = true) (hroom : (zMo M').frames + 1 ≤ (zMo M).frames ∧ 8 + (zMl M' + 11) + (zMo M').locals ≤ (zMo M).locals) {idx : Nat} (hl : ((zMy M).cls, idx, zMy M', RX8) ∈ zNest) :
    va_CN (zMo M) s args (zMy M).cls idx (zMy M') RX8 (zMb M') (zMl M') (zMr M') (zws M') (zMo M') (zMo M').cells (zMo M').slots (zMn M') := by
  obtain ⟨h1, h2, h3, -, -, -, h7⟩ := zMB_spec hB
  exact va_cnB (zMn M') F.2.2.2.2.2.1 (zws_good h2) rfl rfl rfl (F.2.2.2.2.2.2.1.2.1 _ hl) (F.2.2.2.2.2.1 _ h3) h7 hroom
theorem zs_callV {M' : zM} {av rest : List zV} {b idx : Nat} {lk : zLk} {Qa : Option zV → zH → Prop} (F : zFix E M p s m meth args c) (hR : zREL E h H) (hS : va_S (fun q => zElo E ≤ q) s.heap H locs) (hsz : ls.size = zMl M) (hB : zlkB M M' idx lk = true) (hkind : (zMk M').1 = 1) (hnest : lk.2.1 = 0)
    (hb0 : b ≠ 0) (hrecv : ∃ cell : Cell, H[b - 1]? = some cell ∧ cell.vm.isStatics = false ∧ s.vm.findClass (zMy M').cls = some cell.cls) (hn : av.length = zMn M') (hrest : rest.length ≤ 8) (hroom : k + (zMo M').cells ≤ (zMo M).cells ∧ n + (zMo M').slots ≤ (zMo M).slots) (hM : zMet E M' (.inr b :: av) h Qa) (hdg : decode (zMb M) pc = .ok (.invokevirtual idx, 3))
    (kk : ∀ (r : Option zV) (h' : zH) (H1 : Heap) (locs1 : List Loc), Qa r h' → zREL E h' H1 → va_S (fun q => zElo E ≤ q) s.heap H1 locs1 → zWV E M P p e s m args below meth c H1 locs1 (k + (zMo M').cells) (n + (zMo M').slots) (pc + 3) ls ((r.map zval).toList ++ rest.map zval)) :
    zWV E M P p e s m args below meth c H locs k n pc ls ((av.reverse ++ .inr b :: rest).map zval) := by
  obtain ⟨h1, h2, h3⟩ := zlkB_spec hB
  obtain ⟨w1, w2, w3, -, w5, -, w7⟩ := zMB_spec h1
  obtain ⟨i1, i2⟩ := w5 hkind
  have hts := F.2.2.2.2.2.1
  have e1 : zval (.inr b) = .ref (b - 1) := zrf_pos hb0
  have hpre := zs_pre F hR hS (.inr b :: av)
  rw [List.map_cons, e1] at hpre
  rcases h3 with ⟨-, h3⟩ | h3
  · refine zs_run (va_runV (As := av.map zval) (b := b - 1) (C := (zMy M').cls) (zs_fix F) hM ⟨zs_callB F h1 h2 (hts _ h3), hts _ i1, hts _ i2⟩ ⟨hpre.1, hrecv, hpre.2⟩ rfl (by rw [List.length_map]; exact hn) hsz (rest := rest.map zval) ?_ (lv_room (by rw [zs_cat]; exact hrest)) hdg hroom) hS kk
    show _ = _
    rw [List.map_append, List.map_reverse, List.map_cons, e1]
  · exact absurd hnest h3.1
theorem zs_callI {M' : zM} {av rest : List zV} {b idx ci : Nat} {lk : zLk} {Qa : Option zV → zH → Prop} (F : zFix E M p s m meth args c) (hR : zREL E h H) (hS : va_S (fun q => zElo E ≤ q) s.heap H locs) (hsz : ls.size = zMl M) (hB : zlkB M M' idx lk = true) (hkind : (zMk M').1 = 2)
    (hb : zk h b = ci + 1) (hn : av.length = zMn M') (hrest : rest.length ≤ 8) (hroom : k + (zMo M').cells ≤ (zMo M).cells ∧ n + (zMo M').slots ≤ (zMo M).slots) (hM : zMet E M' (.inr b :: av) h Qa) (hdg : decode (zMb M) pc = .ok (.invokespecial idx, 3))
    (kk : ∀ (r : Option zV) (h' : zH) (H1 : Heap) (locs1 : List Loc), Qa r h' → zREL E h' H1 → va_S (fun q => zElo E ≤ q) s.heap H1 locs1 → zWV E M P p e s m args below meth c H1 locs1 (k + (zMo M').cells) (n + (zMo M').slots) (pc + 3) ls ((r.map zval).toList ++ rest.map zval)) :
    zWV E M P p e s m args below meth c H locs k n pc ls ((av.reverse ++ .inr b :: rest).map zval) := by
  obtain ⟨h1, h2, h3⟩ := zlkB_spec hB
  obtain ⟨hb0, -⟩ := hR.pos (a := b) (by omega)
  obtain ⟨w1, w2, w3, -, -, w6, w7⟩ := zMB_spec h1
  obtain ⟨i1, i2, i3⟩ := w6 hkind
  have hts := F.2.2.2.2.2.1
  have e1 : zval (.inr b) = .ref (b - 1) := zrf_pos hb0
  have hpre := zs_pre F hR hS (.inr b :: av)
  rw [List.map_cons, e1] at hpre
  have hst : (av.reverse ++ .inr b :: rest).map zval = (av.map zval).reverse ++ .ref (b - 1) :: rest.map zval := by rw [List.map_append, List.map_reverse, List.map_cons, e1]
  rcases h3 with ⟨-, h3⟩ | ⟨-, h3⟩
  · exact zs_run (va_runI (As := av.map zval) (b := b - 1) (zs_fix F) hM ⟨by rw [← i2]; exact zs_callB F h1 h2 (hts _ h3), i3, hts _ i1⟩ hpre rfl (by rw [List.length_map]; exact hn) hsz (rest := rest.map zval) hst (lv_room (by rw [zs_cat]; exact hrest)) hdg hroom) hS kk
  · exact zs_run (va_runIN (As := av.map zval) (b := b - 1) (host := RX8) (zs_fix F) hM ⟨by rw [← i2]; exact zs_CN F h1 h2 h3, i3, hts _ i1⟩ hpre rfl (by rw [List.length_map]; exact hn) hsz (rest := rest.map zval) hst (lv_room (by rw [zs_cat]; exact hrest)) hdg hroom) hS kk
theorem zs_callS {M' : zM} {av rest : List zV} {idx : Nat} {lk : zLk} {Qa : Option zV → zH → Prop} (F : zFix E M p s m meth args c) (hR : zREL E h H) (hS : va_S (fun q => zElo E ≤ q) s.heap H locs) (hsz : ls.size = zMl M) (hB : zlkB M M' idx lk = true) (hkind : (zMk M').1 = 0)
    (hn : av.length = zMn M') (hrest : rest.length ≤ 8) (hroom : k + (zMo M').cells ≤ (zMo M).cells ∧ n + (zMo M').slots ≤ (zMo M).slots) (hM : zMet E M' av h Qa) (hdg : decode (zMb M) pc = .ok (.invokestatic idx, 3))
    (kk : ∀ (r : Option zV) (h' : zH) (H1 : Heap) (locs1 : List Loc), Qa r h' → zREL E h' H1 → va_S (fun q => zElo E ≤ q) s.heap H1 locs1 → zWV E M P p e s m args below meth c H1 locs1 (k + (zMo M').cells) (n + (zMo M').slots) (pc + 3) ls ((r.map zval).toList ++ rest.map zval)) :
    zWV E M P p e s m args below meth c H locs k n pc ls ((av.reverse ++ rest).map zval) := by
  obtain ⟨h1, h2, h3⟩ := zlkB_spec hB
  obtain ⟨w1, w2, w3, w4, -, -, w7⟩ := zMB_spec h1
  have i1 := w4 hkind
  have hts := F.2.2.2.2.2.1
  have hpre := zs_pre F hR hS av
  have hst : (av.reverse ++ rest).map zval = (av.map zval).reverse ++ rest.map zval := by rw [List.map_append, List.map_reverse]
  rcases h3 with ⟨-, h3⟩ | ⟨-, h3⟩
  · exact zs_run (va_runS (As := av.map zval) (zs_fix F) hM ⟨zs_callB F h1 h2 (hts _ h3), hts _ i1⟩ hpre rfl (by rw [List.length_map]; exact hn) hsz (rest := rest.map zval) hst (lv_room (by rw [zs_cat]; exact hrest)) hdg hroom) hS kk
  · exact zs_run (va_runSN (As := av.map zval) (host := RX8) (zs_fix F) hM ⟨zs_CN F h1 h2 h3, hts _ i1, trivial⟩ hpre rfl (by rw [List.length_map]; exact hn) hsz (rest := rest.map zval) hst (lv_room (by rw [zs_cat]; exact hrest)) hdg hroom) hS kk
theorem zs_new (F : zFix E M p s m meth args c) (hR : zREL E h H) (hS : va_S (fun q => zElo E ≤ q) s.heap H locs) {ci idx t1 t2 t3 : Nat} {st : List Value} (hci : ci < 9) (h1 : zw t1 (.classLink (zMy M).cls idx (zC ci)) = true) (h2 : zw t2 (.instantiable (zC ci) (zN ci)) = true) (h3 : zw t3 (.initialized (zC ci)) = true) (hc : k + 1 ≤ (zMo M).cells) (hs : n + zN ci ≤ (zMo M).slots) (hdg : decode (zMb M) pc = .ok (.new idx, 3))
    (kk : ∀ (H' : Heap), zREL E (znew h (ci + 1) 0) H' → va_S (fun q => zElo E ≤ q) s.heap H' locs → zWV E M P p e s m args below meth c H' locs (k + 1) (n + zN ci) (pc + 3) ls (zrf (zsz h) :: st)) : zWV E M P p e s m args below meth c H locs k n pc ls st := by
  obtain ⟨hx, hb, -, -, hown, hts, hKK, -⟩ := F
  have hKn := hKK.1.1 ci _ (zcl ci hci)
  obtain ⟨r1, r3, r4, r5⟩ := id hR
  have hz0 : zsz h ≠ 0 := by omega
  have hzr : zrf (zsz h) = .ref H.size := (zrf_pos hz0).trans (congrArg Value.ref (show zsz h - 1 = H.size by omega))
  refine W.newcK hx hb hown (hts _ (zw_spec h1)) (hts _ (zw_spec h2)) (hts _ (zw_spec h3)) rfl hdg hc hs hKn.2.1 rfl fun H1 kC hkC e1 z1 o1 => ?_
  rw [← hzr]
  refine kk H1 (hR.push z1 rfl o1 (fun b hb => ?_) ⟨fun cj hcj hkj => ?_, fun j hj hkj => ?_⟩) ⟨by rw [z1]; exact Nat.le_succ_of_le hS.1, fun x h1 h2 => (o1 x (by have := hS.1; omega)).trans (hS.2.1 x h1 h2), hS.2.2⟩
  · simp [znew, zk, zn, zi, zr, zup, hb]
  · have hkj' : zup (zk h) (zsz h) (ci + 1) (zsz h) = cj + 1 := hkj
    have : cj = ci := by simp [zup] at hkj'; omega
    subst this
    have e1' : H1[zsz h - 1]? = some (blank ((zED E).1 cj) kC) := by rw [show zsz h - 1 = H.size by omega]; exact e1
    refine (u_born (zty cj) hts (zws_in cj hcj) hKn hkC e1' (ztyok cj hcj)).to (fun f hf => ?_)
    unfold zfld
    cases hzr : zisr (zty cj f) with
    | true =>
      simp only [if_true]
      rw [show zr (znew h (cj + 1) 0) (zsz h) f = 0 by simp [znew, zr, zup]]
      cases hty : zty cj f <;> rw [hty] at hzr <;> first | (simp [zisr] at hzr; done) | rfl
    | false =>
      rw [ztyb cj hcj f hf hzr]
      simp [znew, zi, zup, defaultValue]
  · have hkj' : zup (zk h) (zsz h) (ci + 1) (zsz h) = 20 + j := hkj
    simp [zup] at hkj'
    omega
theorem zs_newa (F : zFix E M p s m meth args c) (hR : zREL E h H) (hS : va_S (fun q => zElo E ≤ q) s.heap H locs) {j t1 : Nat} {at' : ArrayType} {x : Int32} {st : List Value} (hj : j < 2) (hty : newarray.typeOf at' = zAty j) (h1 : zw t1 (.arrayClass (newarray.typeOf at')) = true) (hx0 : ¬ x < 0) (hx1 : x.toNatClampNeg ≤ 10000) (hc : k + 1 ≤ (zMo M).cells) (hs : n + x.toNatClampNeg ≤ (zMo M).slots) (hdg : decode (zMb M) pc = .ok (.newarray at', 2))
    (kk : ∀ (H' : Heap), zREL E (znew h (20 + j) x.toNatClampNeg) H' → va_S (fun q => zElo E ≤ q) s.heap H' locs → zWV E M P p e s m args below meth c H' locs (k + 1) (n + x.toNatClampNeg) (pc + 2) ls (zrf (zsz h) :: st)) : zWV E M P p e s m args below meth c H locs k n pc ls (.int x :: st) := by
  obtain ⟨hx, hb, -, -, hown, hts, hKK, -⟩ := F
  obtain ⟨r1, r3, r4, r5⟩ := id hR
  have hz0 : zsz h ≠ 0 := by omega
  have hzr : zrf (zsz h) = .ref H.size := (zrf_pos hz0).trans (congrArg Value.ref (show zsz h - 1 = H.size by omega))
  have hbytes : x.toNatClampNeg * componentBytes (newarray.typeOf at') ≤ 536870912 := by
    rw [hty]
    rcases (show j = 0 ∨ j = 1 by omega) with rfl | rfl
    · show _ * 4 ≤ _; omega
    · show _ * 2 ≤ _; omega
  refine va_newaK hx hb (hts _ (zw_spec h1)) rfl hdg rfl hx0 rfl hbytes hc hs rfl fun H1 cA e1 z1 o1 hAr hNm => ?_
  have hcA : cA = zEA E j := by
    have h5 := (hKK.1.2 j _ (zTys_get E (by omega))).2
    rw [hty] at hNm
    rcases (show j = 0 ∨ j = 1 by omega) with rfl | rfl
    · exact Option.some.inj (hNm.symm.trans h5)
    · exact Option.some.inj (hNm.symm.trans h5)
  rw [← hzr]
  refine kk H1 (hR.push z1 rfl o1 (fun b hb => ?_) ⟨fun cj hcj hkj => ?_, fun j' hj' hkj => ?_⟩) ⟨by rw [z1]; exact Nat.le_succ_of_le hS.1, fun x h1 h2 => (o1 x (by have := hS.1; omega)).trans (hS.2.1 x h1 h2), hS.2.2⟩
  · simp [znew, zk, zn, zi, zr, zup, hb]
  · have hkj' : zup (zk h) (zsz h) (20 + j) (zsz h) = cj + 1 := hkj
    simp [zup] at hkj'
    omega
  · have hkj' : zup (zk h) (zsz h) (20 + j) (zsz h) = 20 + j' := hkj
    have : j' = j := by simp [zup] at hkj'; omega
    subst this
    rw [zarr_i hj, show zsz h - 1 = H.size by omega, e1, hcA, vp_cell_i]
    congr 1
    rw [show zn (znew h (20 + j') x.toNatClampNeg) (zsz h) = x.toNatClampNeg by simp [znew, zn, zup]]
    congr 1
    funext q
    rw [show zi (znew h (20 + j') x.toNatClampNeg) (zsz h) q = 0 by simp [znew, zi, zup], hty]
    rcases (show j' = 0 ∨ j' = 1 by omega) with rfl | rfl <;> rfl
theorem zs_anewa (F : zFix E M p s m meth args c) (hR : zREL E h H) (hS : va_S (fun q => zElo E ≤ q) s.heap H locs) {j t1 idx : Nat} {x : Int32} {st : List Value} (hj : 2 ≤ j ∧ j < 8) (h1 : zw t1 (.classLink (zMy M).cls idx (zAC j)) = true) (hx0 : ¬ x < 0) (hx1 : x.toNatClampNeg ≤ 10000) (hc : k + 1 ≤ (zMo M).cells) (hs : n + x.toNatClampNeg ≤ (zMo M).slots) (hdg : decode (zMb M) pc = .ok (.anewarray idx, 3))
    (kk : ∀ (H' : Heap), zREL E (znew h (20 + j) x.toNatClampNeg) H' → va_S (fun q => zElo E ≤ q) s.heap H' locs → zWV E M P p e s m args below meth c H' locs (k + 1) (n + x.toNatClampNeg) (pc + 3) ls (zrf (zsz h) :: st)) : zWV E M P p e s m args below meth c H locs k n pc ls (.int x :: st) := by
  obtain ⟨hx, hb, -, -, hown, hts, hKK, -⟩ := F
  obtain ⟨r1, r3, r4, r5⟩ := id hR
  have hz0 : zsz h ≠ 0 := by omega
  have hzr : zrf (zsz h) = .ref H.size := (zrf_pos hz0).trans (congrArg Value.ref (show zsz h - 1 = H.size by omega))
  refine W.anew hx hb hown (hts _ (zw_spec h1)) (va_AO.use (hKK.2.2.1 j hj.1 hj.2)) rfl hdg rfl hx0 (by omega) hc hs fun cA kA comp f1 f2 f3 f4 => ?_
  generalize hH1 : H.push ({ cls := cA, slots := Array.replicate x.toNatClampNeg .null, vm := .none } : Cell) = H1
  have z1 : H1.size = H.size + 1 := by rw [← hH1, Array.size_push]
  have e1 : H1[H.size]? = some (arrV cA x.toNatClampNeg (fun _ => .null)) := by rw [← hH1, Array.getElem?_push_size, ← arrV_new]
  have o1 : ∀ q : Nat, q < H.size → H1[q]? = H[q]? := fun q hq => by rw [← hH1, Array.getElem?_push, if_neg (Nat.ne_of_lt hq)]
  have hcA : cA = zEA E j := by
    have h5 := (hKK.1.2 j _ (zTys_get E (by omega))).2
    rw [zAty_r hj.1 hj.2] at h5
    obtain ⟨_, _, -, -, -, h6⟩ := h5
    exact Option.some.inj (f1.symm.trans h6)
  rw [← hzr]
  refine kk H1 (hR.push z1 rfl o1 (fun b hb => ?_) ⟨fun cj hcj hkj => ?_, fun j' hj' hkj => ?_⟩) ⟨by rw [z1]; exact Nat.le_succ_of_le hS.1, fun x h1 h2 => (o1 x (by have := hS.1; omega)).trans (hS.2.1 x h1 h2), hS.2.2⟩
  · simp [znew, zk, zn, zi, zr, zup, hb]
  · have hkj' : zup (zk h) (zsz h) (20 + j) (zsz h) = cj + 1 := hkj
    simp [zup] at hkj'
    omega
  · have hkj' : zup (zk h) (zsz h) (20 + j) (zsz h) = 20 + j' := hkj
    have : j' = j := by simp [zup] at hkj'; omega
    subst this
    rw [zarr_r (by omega), show zsz h - 1 = H.size by omega, e1, hcA, vp_cell_q]
    congr 1
    rw [show zn (znew h (20 + j') x.toNatClampNeg) (zsz h) = x.toNatClampNeg by simp [znew, zn, zup]]
    congr 1
    funext q
    rw [show zr (znew h (20 + j') x.toNatClampNeg) (zsz h) q = 0 by simp [znew, zr, zup]]
    rfl
theorem zs_copy (F : zFix E M p s m meth args c) (hR : zREL E h H) (hS : va_S (fun q => zElo E ≤ q) s.heap H locs) (hsz : ls.size = zMl M) {a0 a idx t1 t2 t3 t4 : Nat} {sp dp x : Int32} {rest : List Value} (hk0 : zk h a0 = 20) (hk1 : zk h a = 20)
    (g1 : zw t1 (.methodLink (zMy M).cls idx arraycopyName) = true) (g2 : zw t2 (.native arraycopyName) = true) (g3 : zw t3 (.static arraycopyName) = true) (g4 : zw t4 (.initialized "java/lang/System") = true)
    (h1 : ¬ sp < 0) (h2 : ¬ dp < 0) (h3 : ¬ x < 0) (h4 : sp.toNatClampNeg + x.toNatClampNeg ≤ zn h a0) (h5 : dp.toNatClampNeg + x.toNatClampNeg ≤ zn h a) (hframes : 1 ≤ (zMo M).frames) (hlocals : (rest.map fun v => v.category).sum + (nativeFrameWords "java/lang/System" "arraycopy" 5 + 11) ≤ (zMo M).locals) (hdg : decode (zMb M) pc = .ok (.invokestatic idx, 3))
    (kk : ∀ (H' : Heap) (locs' : List Loc), zREL E (zpa h a (va_cpy (zi h a0) (zi h a) sp.toNatClampNeg dp.toNatClampNeg x.toNatClampNeg)) H' → va_S (fun q => zElo E ≤ q) s.heap H' locs' → zWV E M P p e s m args below meth c H' locs' k n (pc + 3) ls rest) : zWV E M P p e s m args below meth c H locs k n pc ls (.int x :: .int dp :: zrf a :: .int sp :: zrf a0 :: rest) := by
  obtain ⟨hx, hb, hml, -, hown, hts, hKK, -⟩ := F
  obtain ⟨ha0, -⟩ := hR.pos (a := a0) (by omega)
  obtain ⟨ha, hlo⟩ := hR.pos (a := a) (by omega)
  rw [zrf_pos ha0, zrf_pos ha]
  have hc0 := (hR.2.2.2 a0).2 0 (by decide) hk0
  have hc1 := (hR.2.2.2 a).2 0 (by decide) hk1
  rw [zarr_i (by decide)] at hc0 hc1
  have nn : ∀ z : Int32, ¬ z < 0 → z.toInt = (z.toNatClampNeg : Int) := by
    intro z hz
    have hz0 : (0 : Int) ≤ z.toInt := by
      have := Int32.not_lt.mp hz
      simpa using Int32.le_iff_toInt_le.mp this
    show z.toInt = ((z.toInt.toNat : Nat) : Int)
    omega
  intro T hT X
  obtain ⟨-, k0, hk0, cm0, hkk0⟩ := (hKK.1.2 0 _ (zTys_get E (j := 0) (by decide))).1 (zn h a0) (fun j => .int (zi h a0 j))
  obtain ⟨-, k1, hk1', cm1, hkk1⟩ := (hKK.1.2 0 _ (zTys_get E (j := 0) (by decide))).1 (zn h a) (fun j => .int (zi h a j))
  obtain ⟨vm', X', step⟩ := X.arraycopy hx hown (hts _ (zw_spec g1)) (hts _ (zw_spec g2)) (hts _ (zw_spec g3)) (hts _ (zw_spec g4)) (src := a0 - 1) (dst := a - 1) (cs := vp_cell (zEA E 0) (zn h a0, .inl (zi h a0))) (cd := vp_cell (zEA E 0) (zn h a, .inl (zi h a))) (srcPos := sp) (destPos := dp) (n := x) (by rw [hT]; exact hc0) (by rw [hT]; exact hc1)
    (fun _ h => by cases h) (fun _ h => by cases h) (fun h => by cases h) (fun h => by cases h) hk0 hk1' hkk0 hkk1 rfl h1 h2 h3
    (by rw [nn sp h1, nn x h3]; show ¬ _ > ((arrV _ _ _).slots.size : Int); rw [arrV_size]; omega)
    (by rw [nn dp h2, nn x h3]; show ¬ _ > ((arrV _ _ _).slots.size : Int); rw [arrV_size]; omega)
    (fun vm₁ _ i hi => by
      have e : (vp_cell (zEA E 0) (zn h a0, .inl (zi h a0))).slots.getD (sp.toNatClampNeg + i) .null = .int (zi h a0 (sp.toNatClampNeg + i)) := by
        show (arrV _ _ _).slots.getD _ _ = _
        rw [Array.getD_eq_getD_getElem?, arrV_read _ _ (by omega)]
        rfl
      refine ⟨?_, ?_⟩
      · rw [e]
        rfl
      · rw [e]
        exact trivial)
    (g := F0 m pc ls (.int x :: .int dp :: .ref (a - 1) :: .int sp :: .ref (a0 - 1) :: rest)) rfl (by rw [hml]; exact hsz) (rest := rest) rfl (by rw [hb]; exact hdg) hframes (by show 2 * 0 + _ + _ ≤ _; omega)
  have e1 : copied (vp_cell (zEA E 0) (zn h a0, .inl (zi h a0))) (vp_cell (zEA E 0) (zn h a, .inl (zi h a))) sp dp x = vp_cell (zEA E 0) (zn h a, .inl (va_cpy (zi h a0) (zi h a) sp.toNatClampNeg dp.toNatClampNeg x.toNatClampNeg)) := va_copied (fun z => .int z) (zEA E 0) (zEA E 0) (zi h a0) (zi h a) h4
  rw [e1] at X' step
  have hl : a - 1 < H.size := (Array.getElem?_eq_some_iff.mp hc1).1
  generalize hcl : vp_cell (zEA E 0) (zn h a, .inl (va_cpy (zi h a0) (zi h a) sp.toNatClampNeg dp.toNatClampNeg x.toNatClampNeg)) = cl at X' step
  have hheap : ((T.setVm vm').setCell (a - 1) cl).heap = H.setIfInBounds (a - 1) cl := by rw [← hT]; rfl
  have oq : ∀ q : Nat, q ≠ a - 1 → (H.setIfInBounds (a - 1) cl)[q]? = H[q]? := fun q hq => by simp [Array.getElem?_setIfInBounds, Ne.symm hq]
  obtain ⟨t, a1, b1⟩ := kk _ _ (hR.upd (H' := H.setIfInBounds (a - 1) cl) (by simp) rfl rfl a ha oq (fun b hb => ⟨rfl, by simp [zpa, zi, zup, hb], rfl⟩) ⟨fun cj hcj hkj => by (have hkj : zk h a = cj + 1 := hkj); omega, fun j hj hkj => by
      have hkj : zk h a = 20 + j := hkj
      have : j = 0 := by omega
      subst this
      rw [zarr_i (by decide)]
      show (H.setIfInBounds (a - 1) cl)[a - 1]? = some (vp_cell (zEA E 0) (zn h a, .inl (zup (zi h) a _ a)))
      rw [show zup (zi h) a (va_cpy (zi h a0) (zi h a) sp.toNatClampNeg dp.toNatClampNeg x.toNatClampNeg) a = va_cpy (zi h a0) (zi h a) sp.toNatClampNeg dp.toNatClampNeg x.toNatClampNeg by simp [zup], hcl]
      simp [Array.getElem?_setIfInBounds, hl]⟩) ⟨by simp; exact hS.1, fun q g1 g2 => by
      rw [oq q (fun e => g2 (by show zElo E ≤ q; rw [e]; exact hlo))]
      exact hS.2.1 q g1 g2, fun q hq => by
      rcases List.mem_append.mp hq with h | h
      · exact hS.2.2 q h
      · obtain ⟨z, -, hz⟩ := List.mem_map.mp h
        rw [← hz]
        exact hlo⟩ _ hheap X'
  exact ⟨t, step t a1, b1⟩
end ZC
end
section
section ZI
variable {E : zE} {M : zM} {Q : Option zV → zH → Prop} {K : zKt} {lk : zLk} {pc len : Nat} {L : List (Option zV)} {st : List zV} {h : zH} {k n : Nat}
theorem zm_at {L : List (Option zV)} {ls : Array Slot} {nL : Nat} (h : zL ls nL L) {i : Nat} {x : Int32} (hi : L[i]? = some (some (.inl x))) : ls[i]? = some (.val (.int x)) := h.at hi
theorem zI_sound {ins : zIns} (hK : ∀ pc L st h k n, K pc L st h k n → zJ E M Q pc L st h k n) (hd : decode (zMb M) pc = .ok (ins, len)) (he : zentB M pc ins len lk = true) (hw : zwpI E M Q K ins lk pc L st h k n) : zJ E M Q pc L st h k n := by
  intro hL hkc hns p e s m args below meth c F H locs ls hR hS hl
  have hx := F.1
  have hb := F.2.1
  have hml := F.2.2.1
  have hrt := F.2.2.2.1
  have hown := F.2.2.2.2.1
  have hts := F.2.2.2.2.2.1
  have hlk := F.2.2.2.2.2.2.2.1
  have hlen := hl.1
  have go : ∀ pc L' st h k n H locs ls, K pc L' st h k n → L'.length = zMl M → k ≤ (zMo M).cells → n ≤ (zMo M).slots → zREL E h H → va_S (fun q => zElo E ≤ q) s.heap H locs → zL ls (zMl M) L' → zWW E M Q p e s m args below meth c H locs k n pc ls (st.map zval) :=
    fun pc L' st h k n H locs ls a b c1 c2 d1 d2 d3 => hK pc L' st h k n a b c1 c2 p e s m args below meth c F H locs ls d1 d2 d3
  cases ins <;> (try (simp only [zwpI] at hw)) <;> (try (simp only [zentB, Bool.and_eq_true, decide_eq_true_eq] at he)) <;> (try (exact hw.elim))
  case iconst i => obtain ⟨rfl, -⟩ := he; exact lv_iconst hx hb hd (zcst_eq i) (go _ _ _ _ _ _ _ _ _ hw hL hkc hns hR hS hl)
  case bipush i => obtain ⟨rfl, he⟩ := he; exact lv_bipush hx hb hd he (go _ _ _ _ _ _ _ _ _ hw hL hkc hns hR hS hl)
  case sipush i => obtain ⟨rfl, he⟩ := he; exact lv_sipush hx hb hd he (go _ _ _ _ _ _ _ _ _ hw hL hkc hns hR hS hl)
  case iload_n j => obtain ⟨rfl, -⟩ := he; obtain ⟨x, h1, h2⟩ := zgi_spec hw; exact lv_iload_n hx hb hd rfl (zm_at hl h1) (go _ _ _ _ _ _ _ _ _ h2 hL hkc hns hR hS hl)
  case iload j => obtain ⟨rfl, -⟩ := he; obtain ⟨x, h1, h2⟩ := zgi_spec hw; exact lv_iload hx hb hd (zm_at hl h1) (go _ _ _ _ _ _ _ _ _ h2 hL hkc hns hR hS hl)
  case aload_n j =>
    obtain ⟨rfl, -⟩ := he
    obtain ⟨x, h1, h2⟩ := zga_spec hw
    have h3 := hl.at h1
    have h4 := go _ _ _ _ _ _ _ _ _ h2 hL hkc hns hR hS hl
    have e1 : zval (.inr x) = zrf x := rfl
    rw [List.map_cons, e1] at h4
    rw [e1] at h3
    rcases zrf_cases x with ⟨-, hx0⟩ | ⟨-, hx0⟩ <;> rw [hx0] at h3 h4
    · exact lv_aload_nN hx hb hd rfl h3 h4
    · exact lv_aload_n hx hb hd rfl h3 h4
  case aload j =>
    obtain ⟨rfl, -⟩ := he
    obtain ⟨x, h1, h2⟩ := zga_spec hw
    have h3 := hl.at h1
    have h4 := go _ _ _ _ _ _ _ _ _ h2 hL hkc hns hR hS hl
    have e1 : zval (.inr x) = zrf x := rfl
    rw [List.map_cons, e1] at h4
    rw [e1] at h3
    rcases zrf_cases x with ⟨-, hx0⟩ | ⟨-, hx0⟩ <;> rw [hx0] at h3 h4
    · exact lv_aloadN hx hb hd h3 h4
    · exact lv_aload hx hb hd h3 h4
  case istore_n j =>
    obtain ⟨rfl, hj⟩ := he
    obtain ⟨x, st', rfl, h2⟩ := z1i_spec hw
    exact lv_istore_n hx hb hd rfl hl hj rfl (fun ls' hl' => go _ _ _ _ _ _ _ _ _ h2 (by rw [List.length_set]; exact hL) hkc hns hR hS (zL.set (v := .inl x) (by rw [hL]; exact hj) hl'))
  case istore j =>
    obtain ⟨rfl, hj⟩ := he
    obtain ⟨x, st', rfl, h2⟩ := z1i_spec hw
    exact lv_istore hx hb hd hl hj rfl (fun ls' hl' => go _ _ _ _ _ _ _ _ _ h2 (by rw [List.length_set]; exact hL) hkc hns hR hS (zL.set (v := .inl x) (by rw [hL]; exact hj) hl'))
  case astore_n j =>
    obtain ⟨rfl, hj⟩ := he
    obtain ⟨x, st', rfl, h2⟩ := z1a_spec hw
    show zWW E M Q p e s m args below meth c H locs k n pc ls (zrf x :: st'.map zval)
    have key := fun ls' hl' => go _ _ _ _ _ _ _ _ ls' h2 (by rw [List.length_set]; exact hL) hkc hns hR hS (zL.set (v := .inr x) (by rw [hL]; exact hj) hl')
    have e1 : zval (.inr x) = zrf x := rfl
    rw [e1] at key
    rcases zrf_cases x with ⟨-, hx0⟩ | ⟨-, hx0⟩ <;> rw [hx0] at key ⊢
    · exact lv_astore_nN hx hb hd rfl hl hj rfl key
    · exact lv_astore_n hx hb hd rfl hl hj rfl key
  case astore j =>
    obtain ⟨rfl, hj⟩ := he
    obtain ⟨x, st', rfl, h2⟩ := z1a_spec hw
    show zWW E M Q p e s m args below meth c H locs k n pc ls (zrf x :: st'.map zval)
    have key := fun ls' hl' => go _ _ _ _ _ _ _ _ ls' h2 (by rw [List.length_set]; exact hL) hkc hns hR hS (zL.set (v := .inr x) (by rw [hL]; exact hj) hl')
    have e1 : zval (.inr x) = zrf x := rfl
    rw [e1] at key
    rcases zrf_cases x with ⟨-, hx0⟩ | ⟨-, hx0⟩ <;> rw [hx0] at key ⊢
    · exact lv_astoreN hx hb hd hl hj rfl key
    · exact lv_astore hx hb hd hl hj rfl key
  case iinc j cc =>
    obtain ⟨rfl, hj⟩ := he
    obtain ⟨x, h1, h2⟩ := zgi_spec hw
    obtain ⟨kk, hkk⟩ := List.getElem?_of_mem ((zLl_mem L 0 (j, .int x)).mpr ⟨j, .inl x, h1, by rw [Nat.zero_add]; rfl⟩)
    exact lv_iinc hx hb hd hl hkk (by rw [zcst_eq]) hj rfl (fun ls' hl' => go _ _ _ _ _ _ _ _ _ h2 (by rw [List.length_set]; exact hL) hkc hns hR hS (zL.set (v := .inl (x + zcst cc)) (by rw [hL]; exact hj) hl'))
  case iadd => obtain ⟨rfl, -⟩ := he; obtain ⟨y, x, st', rfl, h2⟩ := z2i_spec hw; exact lv_iadd hx hb hd (go _ _ _ _ _ _ _ _ _ h2 hL hkc hns hR hS hl)
  case isub => obtain ⟨rfl, -⟩ := he; obtain ⟨y, x, st', rfl, h2⟩ := z2i_spec hw; exact lv_isub hx hb hd (go _ _ _ _ _ _ _ _ _ h2 hL hkc hns hR hS hl)
  case imul => obtain ⟨rfl, -⟩ := he; obtain ⟨y, x, st', rfl, h2⟩ := z2i_spec hw; exact lv_imul hx hb hd (go _ _ _ _ _ _ _ _ _ h2 hL hkc hns hR hS hl)
  case idiv => obtain ⟨rfl, -⟩ := he; obtain ⟨y, x, st', rfl, h1, h2⟩ := z2i_spec hw; exact lv_idiv hx hb hd h1 (go _ _ _ _ _ _ _ _ _ h2 hL hkc hns hR hS hl)
  case irem => obtain ⟨rfl, -⟩ := he; obtain ⟨y, x, st', rfl, h1, h2⟩ := z2i_spec hw; exact lv_irem hx hb hd h1 (go _ _ _ _ _ _ _ _ _ h2 hL hkc hns hR hS hl)
  case iand => obtain ⟨rfl, -⟩ := he; obtain ⟨y, x, st', rfl, h2⟩ := z2i_spec hw; exact lv_iand hx hb hd (go _ _ _ _ _ _ _ _ _ h2 hL hkc hns hR hS hl)
  case ior => obtain ⟨rfl, -⟩ := he; obtain ⟨y, x, st', rfl, h2⟩ := z2i_spec hw; exact lv_ior hx hb hd (go _ _ _ _ _ _ _ _ _ h2 hL hkc hns hR hS hl)
  case ixor => obtain ⟨rfl, -⟩ := he; obtain ⟨y, x, st', rfl, h2⟩ := z2i_spec hw; exact lv_ixor hx hb hd (go _ _ _ _ _ _ _ _ _ h2 hL hkc hns hR hS hl)
  case ishl => obtain ⟨rfl, -⟩ := he; obtain ⟨y, x, st', rfl, h2⟩ := z2i_spec hw; exact lv_ishl hx hb hd (go _ _ _ _ _ _ _ _ _ h2 hL hkc hns hR hS hl)
  case ishr => obtain ⟨rfl, -⟩ := he; obtain ⟨y, x, st', rfl, h2⟩ := z2i_spec hw; exact lv_ishr hx hb hd (go _ _ _ _ _ _ _ _ _ h2 hL hkc hns hR hS hl)
  case i2c => obtain ⟨rfl, -⟩ := he; obtain ⟨x, st', rfl, h2⟩ := z1i_spec hw; exact lv_i2c hx hb hd rfl (go _ _ _ _ _ _ _ _ _ h2 hL hkc hns hR hS hl)
  case dup => obtain ⟨rfl, -⟩ := he; obtain ⟨v, st', rfl, h2⟩ := z1_spec hw; exact lv_dup hx hb hd (zval_cat v) (go _ _ _ _ _ _ _ _ _ h2 hL hkc hns hR hS hl)
  case dup2 => obtain ⟨rfl, -⟩ := he; obtain ⟨v, w, st', rfl, h2⟩ := z2_spec hw; exact lv_dup2_11 hx hb hd (zval_cat v) (zval_cat w) (go _ _ _ _ _ _ _ _ _ h2 hL hkc hns hR hS hl)
  case pop => obtain ⟨rfl, -⟩ := he; obtain ⟨v, st', rfl, h2⟩ := z1_spec hw; exact lv_pop hx hb hd (zval_cat v) (go _ _ _ _ _ _ _ _ _ h2 hL hkc hns hR hS hl)
  case goto off => obtain ⟨rfl, he⟩ := he; exact lv_goto hx hb hd (zt_spec he) (go _ _ _ _ _ _ _ _ _ hw hL hkc hns hR hS hl)
  case ifCond cc off =>
    obtain ⟨rfl, he⟩ := he
    obtain ⟨x, st', rfl, h1, h2⟩ := z1i_spec hw
    have a1 := fun q => go _ _ _ _ _ _ _ _ _ (h1 q) hL hkc hns hR hS hl
    have a2 := fun q => go _ _ _ _ _ _ _ _ _ (h2 q) hL hkc hns hR hS hl
    cases cc
    · exact lv_if_eq hx hb hd (zt_spec he) a1 a2
    · exact lv_if_ne hx hb hd (zt_spec he) a1 a2
    · exact lv_if_lt hx hb hd (zt_spec he) a1 a2
    · exact lv_if_ge hx hb hd (zt_spec he) a1 a2
    · exact lv_if_gt hx hb hd (zt_spec he) a1 a2
    · exact lv_if_le hx hb hd (zt_spec he) a1 a2
  case if_icmp cc off =>
    obtain ⟨rfl, he⟩ := he
    obtain ⟨y, x, st', rfl, h1, h2⟩ := z2i_spec hw
    have a1 := fun q => go _ _ _ _ _ _ _ _ _ (h1 q) hL hkc hns hR hS hl
    have a2 := fun q => go _ _ _ _ _ _ _ _ _ (h2 q) hL hkc hns hR hS hl
    cases cc
    · exact lv_icmp_eq hx hb hd (zt_spec he) a1 a2
    · exact lv_icmp_ne hx hb hd (zt_spec he) a1 a2
    · exact lv_icmp_lt hx hb hd (zt_spec he) a1 a2
    · exact lv_icmp_ge hx hb hd (zt_spec he) a1 a2
    · exact lv_icmp_gt hx hb hd (zt_spec he) a1 a2
    · exact lv_icmp_le hx hb hd (zt_spec he) a1 a2
  case ifnull off =>
    obtain ⟨rfl, he⟩ := he
    obtain ⟨a, st', rfl, h1, h2⟩ := z1a_spec hw
    show zWW E M Q p e s m args below meth c H locs k n pc ls (zrf a :: st'.map zval)
    rcases zrf_cases a with ⟨ha, hx0⟩ | ⟨ha, hx0⟩ <;> rw [hx0]
    · exact lv_ifnullN hx hb hd (zt_spec he) (go _ _ _ _ _ _ _ _ _ (h1 ha) hL hkc hns hR hS hl)
    · exact lv_ifnull hx hb hd (go _ _ _ _ _ _ _ _ _ (h2 ha) hL hkc hns hR hS hl)
  case ifnonnull off =>
    obtain ⟨rfl, he⟩ := he
    obtain ⟨a, st', rfl, h1, h2⟩ := z1a_spec hw
    show zWW E M Q p e s m args below meth c H locs k n pc ls (zrf a :: st'.map zval)
    rcases zrf_cases a with ⟨ha, hx0⟩ | ⟨ha, hx0⟩ <;> rw [hx0]
    · exact lv_ifnonnullN hx hb hd (go _ _ _ _ _ _ _ _ _ (h2 ha) hL hkc hns hR hS hl)
    · exact lv_ifnonnull hx hb hd (zt_spec he) (go _ _ _ _ _ _ _ _ _ (h1 ha) hL hkc hns hR hS hl)
  case tableswitch dflt lo hi offs =>
    obtain ⟨⟨h1, h2⟩, h3⟩ := he
    obtain ⟨x, st', rfl, h4⟩ := z1i_spec hw
    unfold zts at h4
    by_cases ho : x.toInt < lo ∨ hi < x.toInt
    · rw [if_pos ho] at h4
      exact lv_tableOut hx hb hd ho (zt_spec h1) (go _ _ _ _ _ _ _ _ _ h4 hL hkc hns hR hS hl)
    · rw [if_neg ho] at h4
      have hlt : (x.toInt - lo).toNat < offs.toList.length := by omega
      have hget : offs.toList[(x.toInt - lo).toNat]? = some offs.toList[(x.toInt - lo).toNat] := List.getElem?_eq_getElem hlt
      rw [hget] at h4
      have h5 := List.all_eq_true.mp h2 _ (List.getElem_mem hlt)
      simp only [decide_eq_true_eq] at h5
      exact lv_tableIn hx hb hd (fun q => ho (Or.inl q)) (fun q => ho (Or.inr q)) (by rw [← Array.getElem?_toList]; exact hget) (zt_spec h5) (go _ _ _ _ _ _ _ _ _ h4 hL hkc hns hR hS hl)
  case lookupswitch dflt ps =>
    obtain ⟨⟨h1, h2⟩, h3⟩ := he
    obtain ⟨x, st', rfl, h4⟩ := z1i_spec hw
    have hoff : ∀ (l : List (Int × Int)) (x : Int), l.all (fun o => decide (0 ≤ (pc : Int) + o.2)) = true → 0 ≤ (pc : Int) + Op.lookupswitch.offset l dflt x := by
      intro l x
      induction l with
      | nil => intro _; exact h2
      | cons o l ih =>
        intro ha
        simp only [List.all_cons, Bool.and_eq_true, decide_eq_true_eq] at ha
        obtain ⟨o1, o2⟩ := o
        rw [Op.lookupswitch.offset_cons]
        split
        · exact ha.1
        · exact ih (by simpa using ha.2)
    exact lv_lookup hx hb hd h1 rfl (zt_spec (hoff _ _ h3)) (go _ _ _ _ _ _ _ _ _ h4 hL hkc hns hR hS hl)
  case getfield idx =>
    obtain ⟨rfl, ⟨h1, h2⟩, h3⟩ := he
    obtain ⟨a, st', rfl, h4, h5⟩ := z1a_spec hw
    have h6 := go _ _ _ _ _ _ _ _ _ h5 hL hkc hns hR hS hl
    rw [List.map_cons, zfv_spec] at h6
    exact zs_get F hR h1 h2 h3 h4 hd h6
  case putfield idx =>
    obtain ⟨rfl, ⟨⟨h1, h2⟩, h3⟩, h3b⟩ := he
    have hfin : (zT lk.1 lk.2.1).2.2.2 = false ∨ ((zT lk.1 lk.2.1).2.2.2 = true ∧ (zMy M).name = "<init>" ∧ (zT lk.1 lk.2.1).1 = (zMy M).cls) := by
      simp only [Bool.or_eq_true, decide_eq_true_eq] at h3b
      exact h3b
    obtain ⟨v, a, st', rfl, h4, h5⟩ := zva_spec hw
    unfold zput at h5
    split at h5
    · rename_i x hr
      refine zs_put0 (v := .int x) (h' := zpi h a lk.2.1 x) F hR hS h1 h2 h3 h4 hfin ?_ ?_ rfl rfl (zpi_same h a lk.2.1 x) (zfld_upd_i hr) hd (fun H' locs' r1 r2 => go _ _ _ _ _ _ _ _ _ h5 hL hkc hns r1 r2 hl)
      · rw [ztyb _ h1 _ h2 hr]; rfl
      · rw [ztyb _ h1 _ h2 hr]; rfl
    · rename_i x hr
      exact zs_put0 (v := zrf x) (h' := zpr h a lk.2.1 x) F hR hS h1 h2 h3 h4 hfin (zrf_fits _ hr x).1 (zrf_fits _ hr x).2 rfl rfl (zpr_same h a lk.2.1 x) (zfld_upd_r hr) hd (fun H' locs' r1 r2 => go _ _ _ _ _ _ _ _ _ h5 hL hkc hns r1 r2 hl)
    · exact h5.elim
  case iaload =>
    obtain ⟨rfl, -⟩ := he
    obtain ⟨i, a, st', rfl, h4⟩ := zia_spec hw
    split at h4
    · exact zs_iald F hR h4.1 h4.2.1 hd (go _ _ _ _ _ _ _ _ _ h4.2.2 hL hkc hns hR hS hl)
    · obtain ⟨rfl, h5, h6⟩ := h4
      obtain ⟨s1, s2, s3⟩ := F.2.2.2.2.2.2.1.2.2.2
      show zWW E M Q p e s m args below meth c H locs k n pc ls (.int i :: .ref (zEb E) :: st'.map zval)
      exact va_sld hx hb s1 s2 (Nat.not_le.mpr s3) hS h5 hd (go _ _ _ _ _ _ _ _ _ h6 hL hkc hns hR hS hl)
  case arraylength =>
    obtain ⟨rfl, -⟩ := he
    obtain ⟨a, st', rfl, rfl, h6⟩ := z1a_spec hw
    obtain ⟨s1, s2, s3⟩ := F.2.2.2.2.2.2.1.2.2.2
    show zWW E M Q p e s m args below meth c H locs k n pc ls (.ref (zEb E) :: st'.map zval)
    exact va_slen hx hb s1 s2 (Nat.not_le.mpr s3) hS hd (go _ _ _ _ _ _ _ _ _ h6 hL hkc hns hR hS hl)
  case caload =>
    obtain ⟨rfl, -⟩ := he
    obtain ⟨i, a, st', rfl, h4, h5, h6⟩ := zia_spec hw
    exact zs_cald F hR h4 h5 hd (go _ _ _ _ _ _ _ _ _ h6 hL hkc hns hR hS hl)
  case aaload =>
    obtain ⟨rfl, -⟩ := he
    obtain ⟨i, a, st', rfl, h4, h5, h6⟩ := zia_spec hw
    exact zs_aald F hR h4 h5 hd (go _ _ _ _ _ _ _ _ _ h6 hL hkc hns hR hS hl)
  case iastore =>
    obtain ⟨rfl, -⟩ := he
    obtain ⟨x, i, a, st', rfl, h4, h5, h6⟩ := ziia_spec hw
    exact zs_iast F hR hS h4 h5 hd (fun H' locs' r1 r2 => go _ _ _ _ _ _ _ _ _ h6 hL hkc hns r1 r2 hl)
  case castore =>
    obtain ⟨rfl, -⟩ := he
    obtain ⟨x, i, a, st', rfl, h4, h5, h6⟩ := ziia_spec hw
    exact zs_cast F hR hS h4 h5 hd (fun H' locs' r1 r2 => go _ _ _ _ _ _ _ _ _ h6 hL hkc hns r1 r2 hl)
  case aastore =>
    obtain ⟨rfl, -⟩ := he
    obtain ⟨x, i, a, st', rfl, h4, h5, h6, h7⟩ := zaia_spec hw
    exact zs_aast F hR hS h4 h5 h6 hd (fun H' locs' r1 r2 => go _ _ _ _ _ _ _ _ _ h7 hL hkc hns r1 r2 hl)
  case new idx =>
    obtain ⟨rfl, ⟨⟨h1, h2⟩, h3⟩, h4⟩ := he
    obtain ⟨⟨h5, h6⟩, h7⟩ := hw
    exact zs_new F hR hS h1 h2 h3 h4 h5 h6 hd (fun H' r1 r2 => go _ _ _ _ _ _ _ _ _ h7 hL h5 h6 r1 r2 hl)
  case newarray t =>
    obtain ⟨rfl, ⟨h1, h2⟩, h3⟩ := he
    obtain ⟨x, st', rfl, ⟨h4, h5, h6, h7⟩, h8⟩ := z1i_spec hw
    exact zs_newa F hR hS h1 h2 h3 h4 h5 h6 h7 hd (fun H' r1 r2 => go _ _ _ _ _ _ _ _ _ h8 hL h6 h7 r1 r2 hl)
  case anewarray idx =>
    obtain ⟨rfl, h1, h3⟩ := he
    obtain ⟨x, st', rfl, ⟨h4, h5, h6, h7⟩, h8⟩ := z1i_spec hw
    exact zs_anewa F hR hS h1 h3 h4 h5 h6 h7 hd (fun H' r1 r2 => go _ _ _ _ _ _ _ _ _ h8 hL h6 h7 r1 r2 hl)
  case invokespecial idx =>
    obtain ⟨rfl, he⟩ := he
    split at hw
    · rename_i hnone
      rw [hnone] at he
      simp only [Bool.and_eq_true, decide_eq_true_eq] at he
      obtain ⟨⟨⟨h1, h2⟩, h3⟩, h4, h5⟩ := he
      obtain ⟨a, st', rfl, ha, h6⟩ := z1a_spec hw
      obtain ⟨h7, h8⟩ := zshort_spec h6
      show zWW E M Q p e s m args below meth c H locs k n pc ls (zrf a :: st'.map zval)
      rw [zrf_pos ha]
      refine W.objInit hx hb hown (hts _ (zw_spec h1)) (hts _ (zw_spec h2)) (hts _ (zw_spec h3)) rfl (by rw [hml]; exact hlen) rfl hd h4 ?_ (go _ _ _ _ _ _ _ _ _ h8 hL hkc hns hR hS hl)
      have := lv_room (m := m) (pc := pc) (ls := ls) (rest := Value.ref (a - 1) :: st'.map zval) (st := st'.map zval) (by rw [zs_cat]; exact h7)
      omega
    · rename_i M' hsome
      rw [hsome] at he
      simp only [Bool.and_eq_true, decide_eq_true_eq] at he
      obtain ⟨h1, h2, h3⟩ := he
      obtain ⟨av, st1, rfl, hn, h4⟩ := zpop_spec _ _ _ _ hw
      rw [List.append_nil] at h4
      obtain ⟨b, rest, rfl, hb', h5⟩ := z1a_spec h4
      obtain ⟨h6, h7⟩ := zshort_spec h5
      obtain ⟨h8, h9⟩ := zroom_spec hkc hns h7
      exact zs_callI F hR hS hlen h1 h2 hb' hn h6 h8 (zback_spec h9) hd (fun r h' H1 locs1 q r1 r2 => by
        have := go _ _ _ _ _ _ _ _ _ q hL h8.1 h8.2 r1 r2 hl
        rw [List.map_append, ← Option.toList_map] at this
        exact this)
  case invokevirtual idx =>
    obtain ⟨rfl, he⟩ := he
    split at hw
    · exact hw.elim
    · rename_i M' hsome
      rw [hsome] at he
      simp only [Bool.and_eq_true, decide_eq_true_eq] at he
      obtain ⟨h1, h2, hcls, hnest⟩ := he
      obtain ⟨av, st1, rfl, hn, h4⟩ := zpop_spec _ _ _ _ hw
      rw [List.append_nil] at h4
      obtain ⟨b, rest, rfl, h4⟩ := z1a_spec h4
      obtain ⟨h4, h5⟩ := h4
      have hb0 := (hR.pos (a := b) (by omega)).1
      have hrecv : ∃ cell : Cell, H[b - 1]? = some cell ∧ cell.vm.isStatics = false ∧ s.vm.findClass (zMy M').cls = some cell.cls := by
        rw [← hcls.2]
        exact zs_recv F hR hcls.1 h4
      obtain ⟨h6, h7⟩ := zshort_spec h5
      obtain ⟨h8, h9⟩ := zroom_spec hkc hns h7
      exact zs_callV F hR hS hlen h1 h2 hnest hb0 hrecv hn h6 h8 (zback_spec h9) hd (fun r h' H1 locs1 q r1 r2 => by
        have := go _ _ _ _ _ _ _ _ _ q hL h8.1 h8.2 r1 r2 hl
        rw [List.map_append, ← Option.toList_map] at this
        exact this)
  case invokestatic idx =>
    obtain ⟨rfl, he⟩ := he
    split at hw
    · rename_i hnone
      rw [hnone] at he
      simp only at he
      split at hw
      · rename_i h0
        rw [h0] at he
        simp only [Bool.and_eq_true, decide_eq_true_eq] at he
        obtain ⟨⟨⟨⟨h1, h2⟩, h3⟩, h4⟩, h5, h6⟩ := he
        obtain ⟨y, x, st', rfl, h7⟩ := z2i_spec hw
        obtain ⟨h8, h9⟩ := zshort_spec h7
        exact va_mmin hx hb (by rw [hml]; exact hlen.symm) hown (hts _ (zw_spec h1)) (hts _ (zw_spec h2)) (hts _ (zw_spec h3)) (hts _ (zw_spec h4)) h5 (by rw [zs_cat]; omega) hkc hns hd (go _ _ _ _ _ _ _ _ _ h9 hL hkc hns hR hS hl)
      · rename_i h0
        rw [h0] at he
        simp only [Bool.and_eq_true, decide_eq_true_eq] at he
        obtain ⟨⟨⟨⟨h1, h2⟩, h3⟩, h4⟩, h5, h6⟩ := he
        obtain ⟨y, x, st', rfl, h7⟩ := z2i_spec hw
        obtain ⟨h8, h9⟩ := zshort_spec h7
        exact va_mmax hx hb (by rw [hml]; exact hlen.symm) hown (hts _ (zw_spec h1)) (hts _ (zw_spec h2)) (hts _ (zw_spec h3)) (hts _ (zw_spec h4)) h5 (by rw [zs_cat]; omega) hkc hns hd (go _ _ _ _ _ _ _ _ _ h9 hL hkc hns hR hS hl)
      · rename_i h0
        rw [h0] at he
        simp only [Bool.and_eq_true, decide_eq_true_eq] at he
        obtain ⟨⟨⟨⟨h1, h2⟩, h3⟩, h4⟩, h5, h6⟩ := he
        obtain ⟨y, x, st', rfl, ⟨q1, q2⟩, h7⟩ := z2i_spec hw
        obtain ⟨h8, h9⟩ := zshort_spec h7
        exact zs_fmod F hlen hkc hns h1 h2 h3 h4 q1 q2 h5 (by rw [zs_cat]; omega) hd (go _ _ _ _ _ _ _ _ _ h9 hL hkc hns hR hS hl)
      · rename_i h0 h1' h2'
        have he : (((zw lk.2.1 (.methodLink (zMy M).cls idx arraycopyName) = true ∧ zw lk.2.2.1 (.native arraycopyName) = true) ∧ zw lk.2.2.2.1 (.static arraycopyName) = true) ∧ zw lk.2.2.2.2.1 (.initialized "java/lang/System") = true) ∧ (1 ≤ (zMo M).frames ∧ 26 ≤ (zMo M).locals) := by
          split at he
          · exact absurd (by assumption) h0
          · exact absurd (by assumption) h1'
          · exact absurd (by assumption) h2'
          · simpa only [Bool.and_eq_true, decide_eq_true_eq] using he
        obtain ⟨⟨⟨⟨h1, h2⟩, h3⟩, h4⟩, h5, h6⟩ := he
        obtain ⟨x, dp, d, sp, s', st', rfl, ⟨q1, q2, q3, q4, q5, q6, q7⟩, h7⟩ := zcp_spec hw
        obtain ⟨h8, h9⟩ := zshort_spec h7
        exact zs_copy F hR hS hlen q1 q2 h1 h2 h3 h4 q3 q4 q5 q6 q7 h5 (by rw [zs_cat]; show st'.length + 18 ≤ _; omega) hd (fun H' locs' r1 r2 => go _ _ _ _ _ _ _ _ _ h9 hL hkc hns r1 r2 hl)
    · rename_i M' hsome
      rw [hsome] at he
      simp only [Bool.and_eq_true, decide_eq_true_eq] at he
      obtain ⟨h1, h2⟩ := he
      obtain ⟨av, rest, rfl, hn, h5⟩ := zpop_spec _ _ _ _ hw
      rw [List.append_nil] at h5
      obtain ⟨h6, h7⟩ := zshort_spec h5
      obtain ⟨h8, h9⟩ := zroom_spec hkc hns h7
      exact zs_callS F hR hS hlen h1 h2 hn h6 h8 (zback_spec h9) hd (fun r h' H1 locs1 q r1 r2 => by
        have := go _ _ _ _ _ _ _ _ _ q hL h8.1 h8.2 r1 r2 hl
        rw [List.map_append, ← Option.toList_map] at this
        exact this)
  case ireturn =>
    obtain ⟨rfl, -⟩ := he
    obtain ⟨x, st', rfl, h0⟩ := z1i_spec hw
    obtain ⟨rfl, h1⟩ := zemp_spec h0
    refine W.widen (k := (zMo M).cells) (n := (zMo M).slots) hkc hns ?_
    have fin : Q (some (.inl x)) h → ∀ t : State, t.heap = H → s.WarmedH t.vm → zQc E Q args s (.returned (some (.int x))) t := fun h2 t ht hW => ⟨⟨some (.inl x), h, rfl, h2, by rw [ht]; exact hR⟩, hS.F ht⟩
    unfold znar at h1
    split at h1
    · rename_i h0
      exact W.iret hx hb (by rw [hrt, h0]) (fin h1) hS.2.2 hd
    · rename_i h0
      exact W.zret hx hb (by rw [hrt, h0]) (by rcases h1.1 with rfl | rfl <;> rfl) (fin h1.2) hS.2.2 hd
    · rename_i t _ _ h0
      exact W.zret hx hb (by rw [hrt, h0]) h1.1 (fin h1.2) hS.2.2 hd
    · exact h1.elim
  case areturn =>
    obtain ⟨rfl, he⟩ := he
    obtain ⟨x, st', rfl, h0⟩ := z1a_spec hw
    obtain ⟨rfl, h2⟩ := zemp_spec h0
    refine W.widen (k := (zMo M).cells) (n := (zMo M).slots) hkc hns ?_
    split at he
    · rename_i t h0
      refine W.aret (v := zrf x) (rt := t) hx hb (by rw [hrt, h0]) (by cases t <;> first | (simp [zisr] at he; done) | exact Or.inl ⟨_, rfl⟩ | exact Or.inr ⟨_, rfl⟩) (by rcases zrf_cases x with ⟨-, hx0⟩ | ⟨-, hx0⟩ <;> rw [hx0]; exact Or.inl rfl; exact Or.inr ⟨_, rfl⟩) (fun t ht hW => ⟨⟨some (.inr x), h, rfl, h2, by rw [ht]; exact hR⟩, hS.F ht⟩) hS.2.2 hd
    · cases he
  case return_ =>
    obtain ⟨rfl, he⟩ := he
    obtain ⟨rfl, h2⟩ := zemp_spec hw
    refine W.widen (k := (zMo M).cells) (n := (zMo M).slots) hkc hns ?_
    exact W.vret hx hb (by rw [hrt, he]) (fun t ht hW => ⟨⟨none, h, rfl, h2, by rw [ht]; exact hR⟩, hS.F ht⟩) hS.2.2 hd
end ZI
/-- a method's code: its rows (pc, instruction, its length, what it links), the heads of its loops -/
abbrev zK : Type := zM × List (Nat × zIns × Nat × zLk) × List Nat
def zrow (C : zK) (pc : Nat) : Option (Nat × zIns × Nat × zLk) := C.2.1.find? (fun r => Nat.beq r.1 pc)
def zhd (C : zK) (pc : Nat) : Bool := C.2.2.any (fun q => Nat.beq q pc)
def znx (E : zE) (C : zK) (Q : Option zV → zH → Prop) (w : zKt) : zKt := fun pc L st h k n => match zhd C pc with
  | true => zJ E C.1 Q pc L st h k n
  | false => w pc L st h k n
def zwp (E : zE) (C : zK) (Q : Option zV → zH → Prop) : Nat → zKt
  | 0 => fun pc L st h k n => zJ E C.1 Q pc L st h k n
  | f + 1 => fun pc L st h k n => match zrow C pc with
    | some r => zwpI E C.1 Q (znx E C Q (zwp E C Q f)) r.2.1 r.2.2.2 pc L st h k n
    | none => False
def zOKB (C : zK) : Bool := C.2.1.all (fun r => zentB C.1 r.1 r.2.1 r.2.2.1 r.2.2.2 && decide (decode (zMb C.1) r.1 = .ok (r.2.1, r.2.2.1)))
theorem zwp_sound {E : zE} {C : zK} {Q : Option zV → zH → Prop} (hC : zOKB C = true) : ∀ f pc L st h k n, zwp E C Q f pc L st h k n → zJ E C.1 Q pc L st h k n
  | 0, _, _, _, _, _, _, hw => hw
  | f + 1, pc, L, st, h, k, n, hw => by
    simp only [zwp] at hw
    split at hw
    · rename_i r hr
      have h1 := List.find?_some hr
      have h2 := List.mem_of_find?_eq_some hr
      have h3 := List.all_eq_true.mp hC r h2
      simp only [Bool.and_eq_true, decide_eq_true_eq] at h3
      have h4 : r.1 = pc := Nat.eq_of_beq_eq_true h1
      rw [h4] at h3
      refine zI_sound (fun pc L st h k n hk => ?_) h3.2 h3.1 hw
      unfold znx at hk
      split at hk
      · exact hk
      · exact zwp_sound hC f _ _ _ _ _ _ hk
    · exact hw.elim
/-- from a method's head: its contract -/
theorem zwp_met {E : zE} {C : zK} {av : List zV} {h : zH} {Q : Option zV → zH → Prop} (hM : zMB C.1 = true) (hC : zOKB C = true) (hlen : av.length ≤ zMl C.1) (f : Nat) (hw : zwp E C Q f 0 (av.map some ++ List.replicate (zMl C.1 - av.length) none) [] h 0 0) : zMet E C.1 av h Q := by
  obtain ⟨w1, w2, -⟩ := zMB_spec hM
  refine Met.ofW (cc := zMb C.1) (maxL := zMl C.1) (ret := zMr C.1) w1 rfl ?_
  intro p e s m args below meth c s₁ B hml hv
  obtain ⟨rfl, hR, hKK⟩ := hv
  have hts := atoms_spec (ws := zws C.1) B.pre
  have hown : s.vm.findClass (zMy C.1).cls = some m.cls := findClass_of_methodNamed B.named
  have F : zFix E C.1 p s m meth (av.map zval).toArray c := ⟨B.exec, B.bytes, hml, B.returns, hown, fun w hw => hts w (List.mem_cons_of_mem _ hw), hKK, B.notSynchronized, (name_of_methodNamed B.named B.method).1⟩
  have hl := lv_entry (av.map zval) (n := zMl C.1) (by rw [zlg_len]; exact hlen)
  rw [lg_entry_eq]
  rw [zL_entry av 0, ← zLl_pad (av.map some) (zMl C.1 - av.length) 0] at hl
  exact zwp_sound hC f 0 _ _ _ _ _ hw (by rw [List.length_append, List.length_map, List.length_replicate]; omega) (Nat.zero_le _) (Nat.zero_le _) p e s m _ below meth c F s.heap [] _ hR va_S.rf hl
def zQi (Q : Int32 → zH → Prop) : Option zV → zH → Prop := fun r h => match r with
  | some (.inl x) => Q x h
  | _ => False
def zQa (Q : Nat → zH → Prop) : Option zV → zH → Prop := fun r h => match r with
  | some (.inr x) => Q x h
  | _ => False
def zQv (Q : zH → Prop) : Option zV → zH → Prop := fun r h => match r with
  | none => Q h
  | _ => False
theorem zQi_def (Q : Int32 → zH → Prop) (x : Int32) (h : zH) : zQi Q (some (.inl x)) h = Q x h := rfl
theorem zQa_def (Q : Nat → zH → Prop) (x : Nat) (h : zH) : zQa Q (some (.inr x)) h = Q x h := rfl
theorem zQv_def (Q : zH → Prop) (h : zH) : zQv Q none h = Q h := rfl
theorem zmi_of {E : zE} {M : zM} {av : List zV} {h : zH} {Q : Int32 → zH → Prop} (hM : zMet E M av h (zQi Q)) : zMi E M av h Q := hM.mono fun r h' q => by
  unfold zQi at q; split at q
  · exact ⟨_, rfl, q⟩
  · exact q.elim
theorem zma_of {E : zE} {M : zM} {av : List zV} {h : zH} {Q : Nat → zH → Prop} (hM : zMet E M av h (zQa Q)) : zMa E M av h Q := hM.mono fun r h' q => by
  unfold zQa at q; split at q
  · exact ⟨_, rfl, q⟩
  · exact q.elim
theorem zmv_of {E : zE} {M : zM} {av : List zV} {h : zH} {Q : zH → Prop} (hM : zMet E M av h (zQv Q)) : zMv E M av h Q := hM.mono fun r h' q => by
  unfold zQv at q; split at q
  · exact ⟨rfl, q⟩
  · exact q.elim
def ztall (P : Nat → Prop) (pc : Nat) (x : Int) : List Int → Int → Prop
  | [], _ => True
  | o :: os, lo => (x = lo → P (zt pc o)) ∧ ztall P pc x os (lo + 1)
theorem ztall_spec (P : Nat → Prop) (pc : Nat) (x : Int) : ∀ (os : List Int) (lo : Int), ztall P pc x os lo ↔ ∀ i : Nat, i < os.length → x = lo + i → P (zt pc (os[i]?.getD 0))
  | [], lo => by simp [ztall]
  | o :: os, lo => by
    rw [ztall, ztall_spec P pc x os (lo + 1)]
    constructor
    · rintro ⟨h1, h2⟩ i hi hx
      cases i with
      | zero => exact h1 (by simpa using hx)
      | succ i => simpa using h2 i (by simpa using hi) (by rw [hx]; push_cast; omega)
    · intro h
      exact ⟨fun hx => by simpa using h 0 (by simp) (by simpa using hx), fun i hi hx => by simpa using h (i + 1) (by simpa using hi) (by rw [hx]; push_cast; omega)⟩
theorem zts_all (P : Nat → Prop) (pc : Nat) (d lo hi : Int) (offs : List Int) (x : Int32) (hl : hi - lo + 1 = (offs.length : Int)) : P (zts pc d lo hi offs x) = ((x.toInt < lo ∨ hi < x.toInt → P (zt pc d)) ∧ ztall P pc x.toInt offs lo) := by
  apply propext
  rw [ztall_spec]
  unfold zts
  constructor
  · intro h
    refine ⟨fun ho => by rw [if_pos ho] at h; exact h, fun i hi hx => ?_⟩
    rw [if_neg (by omega), show (x.toInt - lo).toNat = i by omega] at h
    exact h
  · rintro ⟨h1, h2⟩
    by_cases ho : x.toInt < lo ∨ hi < x.toInt
    · rw [if_pos ho]; exact h1 ho
    · rw [if_neg ho]
      exact h2 _ (by omega) (by omega)
def zlall (P : Nat → Prop) (pc : Nat) (d x : Int) : List (Int × Int) → Prop
  | [] => P (zt pc d)
  | o :: os => (x = o.1 → P (zt pc o.2)) ∧ (¬ x = o.1 → zlall P pc d x os)
theorem zls_all (P : Nat → Prop) (pc : Nat) (d x : Int) : ∀ (ps : List (Int × Int)), P (zt pc (Op.lookupswitch.offset ps d x)) = zlall P pc d x ps
  | [] => by rw [Op.lookupswitch.offset_nil]; rfl
  | (a, o) :: r => by
    apply propext
    rw [Op.lookupswitch.offset_cons, zlall, ← zls_all P pc d x r]
    by_cases h : x = a
    · simp [h]
    · rw [if_neg (Ne.symm h)]
      simp [h]
theorem zwp_at {E : zE} {C : zK} {Q : Option zV → zH → Prop} {f pc : Nat} {L : List (Option zV)} {st : List zV} {h : zH} {k n : Nat} {r : Nat × zIns × Nat × zLk} (hr : zrow C pc = some r) : zwp E C Q (f + 1) pc L st h k n = zwpI E C.1 Q (znx E C Q (zwp E C Q f)) r.2.1 r.2.2.2 pc L st h k n := by
  simp only [zwp, hr]
end
