-- ===== PART A: goes FIRST, ahead of the names: the tables' words, and 'selects' of the private methods out of them =====
/-- a private method of a class that the tables say can be made, by its rows of tables_1 -/
def lw_okq (q : MethodName × Nat) : Prop := (q.1.cls ≠ "java/lang/invoke/MethodHandle" ∧ q.1.cls ≠ "java/lang/invoke/VarHandle") ∧ Cond.instantiable q.1.cls q.2 ∈ tables_1 ∧ Cond.privateMethod q.1 ∈ tables_1 ∧ Cond.instanceMethod q.1 ∈ tables_1
theorem lw_p0 : lw_okq (⟨"RockWatches", "prepare", "()V"⟩, 4) := ⟨⟨by decide +kernel, by decide +kernel⟩, List.mem_of_getElem? (i := 18) (by decide +kernel), List.mem_of_getElem? (i := 294) (by decide +kernel), List.mem_of_getElem? (i := 295) (by decide +kernel)⟩
theorem lw_p1 : lw_okq (⟨"RockWatches", "conclude", "(I)I"⟩, 4) := ⟨⟨by decide +kernel, by decide +kernel⟩, List.mem_of_getElem? (i := 18) (by decide +kernel), List.mem_of_getElem? (i := 339) (by decide +kernel), List.mem_of_getElem? (i := 340) (by decide +kernel)⟩
theorem lw_p2 : lw_okq (⟨"RockWatches", "obey", "(I)I"⟩, 4) := ⟨⟨by decide +kernel, by decide +kernel⟩, List.mem_of_getElem? (i := 18) (by decide +kernel), List.mem_of_getElem? (i := 656) (by decide +kernel), List.mem_of_getElem? (i := 657) (by decide +kernel)⟩
theorem lw_p3 : lw_okq (⟨"RockWatchesModel", "act", "()V"⟩, 14) := ⟨⟨by decide +kernel, by decide +kernel⟩, List.mem_of_getElem? (i := 808) (by decide +kernel), List.mem_of_getElem? (i := 864) (by decide +kernel), List.mem_of_getElem? (i := 865) (by decide +kernel)⟩
theorem lw_p4 : lw_okq (⟨"RockWatchesModel", "swellCode", "(II)I"⟩, 14) := ⟨⟨by decide +kernel, by decide +kernel⟩, List.mem_of_getElem? (i := 808) (by decide +kernel), List.mem_of_getElem? (i := 872) (by decide +kernel), List.mem_of_getElem? (i := 873) (by decide +kernel)⟩
theorem lw_p5 : lw_okq (⟨"RockWatchesModel", "swellNow", "(II)I"⟩, 14) := ⟨⟨by decide +kernel, by decide +kernel⟩, List.mem_of_getElem? (i := 808) (by decide +kernel), List.mem_of_getElem? (i := 879) (by decide +kernel), List.mem_of_getElem? (i := 880) (by decide +kernel)⟩
theorem lw_p6 : lw_okq (⟨"RockWatchesModel", "rockCode", "(III)I"⟩, 14) := ⟨⟨by decide +kernel, by decide +kernel⟩, List.mem_of_getElem? (i := 808) (by decide +kernel), List.mem_of_getElem? (i := 887) (by decide +kernel), List.mem_of_getElem? (i := 888) (by decide +kernel)⟩
theorem lw_p7 : lw_okq (⟨"RockWatchesModel", "rockNow", "(III)I"⟩, 14) := ⟨⟨by decide +kernel, by decide +kernel⟩, List.mem_of_getElem? (i := 808) (by decide +kernel), List.mem_of_getElem? (i := 891) (by decide +kernel), List.mem_of_getElem? (i := 892) (by decide +kernel)⟩
theorem lw_p8 : lw_okq (⟨"RockWatchesModel", "isStore", "(II)Z"⟩, 14) := ⟨⟨by decide +kernel, by decide +kernel⟩, List.mem_of_getElem? (i := 808) (by decide +kernel), List.mem_of_getElem? (i := 899) (by decide +kernel), List.mem_of_getElem? (i := 900) (by decide +kernel)⟩
theorem lw_p9 : lw_okq (⟨"RockWatchesModel", "isRock", "(I)Z"⟩, 14) := ⟨⟨by decide +kernel, by decide +kernel⟩, List.mem_of_getElem? (i := 808) (by decide +kernel), List.mem_of_getElem? (i := 903) (by decide +kernel), List.mem_of_getElem? (i := 904) (by decide +kernel)⟩
theorem lw_p10 : lw_okq (⟨"RockWatchesModel", "comeCode", "(I)I"⟩, 14) := ⟨⟨by decide +kernel, by decide +kernel⟩, List.mem_of_getElem? (i := 808) (by decide +kernel), List.mem_of_getElem? (i := 914) (by decide +kernel), List.mem_of_getElem? (i := 915) (by decide +kernel)⟩
theorem lw_p11 : lw_okq (⟨"RockWatchesModel", "comeNow", "(I)I"⟩, 14) := ⟨⟨by decide +kernel, by decide +kernel⟩, List.mem_of_getElem? (i := 808) (by decide +kernel), List.mem_of_getElem? (i := 918) (by decide +kernel), List.mem_of_getElem? (i := 919) (by decide +kernel)⟩
theorem lw_p12 : lw_okq (⟨"RockWatchesModel", "reliefCode", "(IIII)I"⟩, 14) := ⟨⟨by decide +kernel, by decide +kernel⟩, List.mem_of_getElem? (i := 808) (by decide +kernel), List.mem_of_getElem? (i := 929) (by decide +kernel), List.mem_of_getElem? (i := 930) (by decide +kernel)⟩
theorem lw_p13 : lw_okq (⟨"RockWatchesModel", "isKeeper", "(I)Z"⟩, 14) := ⟨⟨by decide +kernel, by decide +kernel⟩, List.mem_of_getElem? (i := 808) (by decide +kernel), List.mem_of_getElem? (i := 933) (by decide +kernel), List.mem_of_getElem? (i := 934) (by decide +kernel)⟩
theorem lw_p14 : lw_okq (⟨"RockWatchesModel", "turnCode", "(ZI)I"⟩, 14) := ⟨⟨by decide +kernel, by decide +kernel⟩, List.mem_of_getElem? (i := 808) (by decide +kernel), List.mem_of_getElem? (i := 937) (by decide +kernel), List.mem_of_getElem? (i := 938) (by decide +kernel)⟩
theorem lw_p15 : lw_okq (⟨"RockWatchesModel", "planNow", "(IIIIIII)I"⟩, 14) := ⟨⟨by decide +kernel, by decide +kernel⟩, List.mem_of_getElem? (i := 808) (by decide +kernel), List.mem_of_getElem? (i := 941) (by decide +kernel), List.mem_of_getElem? (i := 942) (by decide +kernel)⟩
def lw_privs_1 : List (MethodName × Nat) := [(⟨"RockWatches", "prepare", "()V"⟩, 4), (⟨"RockWatches", "conclude", "(I)I"⟩, 4), (⟨"RockWatches", "obey", "(I)I"⟩, 4), (⟨"RockWatchesModel", "act", "()V"⟩, 14), (⟨"RockWatchesModel", "swellCode", "(II)I"⟩, 14), (⟨"RockWatchesModel", "swellNow", "(II)I"⟩, 14), (⟨"RockWatchesModel", "rockCode", "(III)I"⟩, 14), (⟨"RockWatchesModel", "rockNow", "(III)I"⟩, 14), (⟨"RockWatchesModel", "isStore", "(II)Z"⟩, 14), (⟨"RockWatchesModel", "isRock", "(I)Z"⟩, 14), (⟨"RockWatchesModel", "comeCode", "(I)I"⟩, 14), (⟨"RockWatchesModel", "comeNow", "(I)I"⟩, 14), (⟨"RockWatchesModel", "reliefCode", "(IIII)I"⟩, 14), (⟨"RockWatchesModel", "isKeeper", "(I)Z"⟩, 14), (⟨"RockWatchesModel", "turnCode", "(ZI)I"⟩, 14), (⟨"RockWatchesModel", "planNow", "(IIIIIII)I"⟩, 14)]
theorem lw_r1 : ∀ q ∈ lw_privs_1, lw_okq q := List.forall_mem_cons.mpr ⟨lw_p0, List.forall_mem_cons.mpr ⟨lw_p1, List.forall_mem_cons.mpr ⟨lw_p2, List.forall_mem_cons.mpr ⟨lw_p3, List.forall_mem_cons.mpr ⟨lw_p4, List.forall_mem_cons.mpr ⟨lw_p5, List.forall_mem_cons.mpr ⟨lw_p6, List.forall_mem_cons.mpr ⟨lw_p7, List.forall_mem_cons.mpr ⟨lw_p8, List.forall_mem_cons.mpr ⟨lw_p9, List.forall_mem_cons.mpr ⟨lw_p10, List.forall_mem_cons.mpr ⟨lw_p11, List.forall_mem_cons.mpr ⟨lw_p12, List.forall_mem_cons.mpr ⟨lw_p13, List.forall_mem_cons.mpr ⟨lw_p14, List.forall_mem_cons.mpr ⟨lw_p15, fun _ h => absurd h List.not_mem_nil⟩⟩⟩⟩⟩⟩⟩⟩⟩⟩⟩⟩⟩⟩⟩⟩
theorem lw_p16 : lw_okq (⟨"RockWatchesModel", "changeCode", "(IIII)I"⟩, 14) := ⟨⟨by decide +kernel, by decide +kernel⟩, List.mem_of_getElem? (i := 808) (by decide +kernel), List.mem_of_getElem? (i := 952) (by decide +kernel), List.mem_of_getElem? (i := 953) (by decide +kernel)⟩
theorem lw_p17 : lw_okq (⟨"RockWatchesModel", "changeNow", "(IIII)I"⟩, 14) := ⟨⟨by decide +kernel, by decide +kernel⟩, List.mem_of_getElem? (i := 808) (by decide +kernel), List.mem_of_getElem? (i := 956) (by decide +kernel), List.mem_of_getElem? (i := 957) (by decide +kernel)⟩
theorem lw_p18 : lw_okq (⟨"RockWatchesModel", "bringCode", "(IIII)I"⟩, 14) := ⟨⟨by decide +kernel, by decide +kernel⟩, List.mem_of_getElem? (i := 808) (by decide +kernel), List.mem_of_getElem? (i := 964) (by decide +kernel), List.mem_of_getElem? (i := 965) (by decide +kernel)⟩
theorem lw_p19 : lw_okq (⟨"RockWatchesModel", "isTurn", "(I)Z"⟩, 14) := ⟨⟨by decide +kernel, by decide +kernel⟩, List.mem_of_getElem? (i := 808) (by decide +kernel), List.mem_of_getElem? (i := 972) (by decide +kernel), List.mem_of_getElem? (i := 973) (by decide +kernel)⟩
theorem lw_p20 : lw_okq (⟨"RockWatchesModel", "passCode", "(I)I"⟩, 14) := ⟨⟨by decide +kernel, by decide +kernel⟩, List.mem_of_getElem? (i := 808) (by decide +kernel), List.mem_of_getElem? (i := 990) (by decide +kernel), List.mem_of_getElem? (i := 991) (by decide +kernel)⟩
theorem lw_p21 : lw_okq (⟨"RockWatchesModel", "passNow", "(I)I"⟩, 14) := ⟨⟨by decide +kernel, by decide +kernel⟩, List.mem_of_getElem? (i := 808) (by decide +kernel), List.mem_of_getElem? (i := 994) (by decide +kernel), List.mem_of_getElem? (i := 995) (by decide +kernel)⟩
theorem lw_p22 : lw_okq (⟨"RockWatchesModel", "passDay", "([I)I"⟩, 14) := ⟨⟨by decide +kernel, by decide +kernel⟩, List.mem_of_getElem? (i := 808) (by decide +kernel), List.mem_of_getElem? (i := 998) (by decide +kernel), List.mem_of_getElem? (i := 999) (by decide +kernel)⟩
theorem lw_p23 : lw_okq (⟨"RockWatchesModel", "goThrough", "([I)I"⟩, 14) := ⟨⟨by decide +kernel, by decide +kernel⟩, List.mem_of_getElem? (i := 808) (by decide +kernel), List.mem_of_getElem? (i := 1002) (by decide +kernel), List.mem_of_getElem? (i := 1003) (by decide +kernel)⟩
theorem lw_p24 : lw_okq (⟨"RockWatchesModel", "next", "()V"⟩, 14) := ⟨⟨by decide +kernel, by decide +kernel⟩, List.mem_of_getElem? (i := 808) (by decide +kernel), List.mem_of_getElem? (i := 1063) (by decide +kernel), List.mem_of_getElem? (i := 1064) (by decide +kernel)⟩
theorem lw_p25 : lw_okq (⟨"RockWatchesModel", "at", "(I)I"⟩, 14) := ⟨⟨by decide +kernel, by decide +kernel⟩, List.mem_of_getElem? (i := 808) (by decide +kernel), List.mem_of_getElem? (i := 1067) (by decide +kernel), List.mem_of_getElem? (i := 1068) (by decide +kernel)⟩
theorem lw_p26 : lw_okq (⟨"RockWatchesModel", "command", "()V"⟩, 14) := ⟨⟨by decide +kernel, by decide +kernel⟩, List.mem_of_getElem? (i := 808) (by decide +kernel), List.mem_of_getElem? (i := 1071) (by decide +kernel), List.mem_of_getElem? (i := 1072) (by decide +kernel)⟩
theorem lw_p27 : lw_okq (⟨"RockWatchesModel", "wordHere", "()I"⟩, 14) := ⟨⟨by decide +kernel, by decide +kernel⟩, List.mem_of_getElem? (i := 808) (by decide +kernel), List.mem_of_getElem? (i := 1075) (by decide +kernel), List.mem_of_getElem? (i := 1076) (by decide +kernel)⟩
theorem lw_p28 : lw_okq (⟨"RockWatchesModel", "isWord", "(I)Z"⟩, 14) := ⟨⟨by decide +kernel, by decide +kernel⟩, List.mem_of_getElem? (i := 808) (by decide +kernel), List.mem_of_getElem? (i := 1079) (by decide +kernel), List.mem_of_getElem? (i := 1080) (by decide +kernel)⟩
theorem lw_p29 : lw_okq (⟨"RockWatchesModel", "fail", "(I)V"⟩, 14) := ⟨⟨by decide +kernel, by decide +kernel⟩, List.mem_of_getElem? (i := 808) (by decide +kernel), List.mem_of_getElem? (i := 1089) (by decide +kernel), List.mem_of_getElem? (i := 1090) (by decide +kernel)⟩
theorem lw_p30 : lw_okq (⟨"RockWatchesModel", "readNumber", "(I)V"⟩, 14) := ⟨⟨by decide +kernel, by decide +kernel⟩, List.mem_of_getElem? (i := 808) (by decide +kernel), List.mem_of_getElem? (i := 1096) (by decide +kernel), List.mem_of_getElem? (i := 1097) (by decide +kernel)⟩
theorem lw_p31 : lw_okq (⟨"RockWatchesModel", "carry", "(I)I"⟩, 14) := ⟨⟨by decide +kernel, by decide +kernel⟩, List.mem_of_getElem? (i := 808) (by decide +kernel), List.mem_of_getElem? (i := 1100) (by decide +kernel), List.mem_of_getElem? (i := 1101) (by decide +kernel)⟩
def lw_privs_2 : List (MethodName × Nat) := [(⟨"RockWatchesModel", "changeCode", "(IIII)I"⟩, 14), (⟨"RockWatchesModel", "changeNow", "(IIII)I"⟩, 14), (⟨"RockWatchesModel", "bringCode", "(IIII)I"⟩, 14), (⟨"RockWatchesModel", "isTurn", "(I)Z"⟩, 14), (⟨"RockWatchesModel", "passCode", "(I)I"⟩, 14), (⟨"RockWatchesModel", "passNow", "(I)I"⟩, 14), (⟨"RockWatchesModel", "passDay", "([I)I"⟩, 14), (⟨"RockWatchesModel", "goThrough", "([I)I"⟩, 14), (⟨"RockWatchesModel", "next", "()V"⟩, 14), (⟨"RockWatchesModel", "at", "(I)I"⟩, 14), (⟨"RockWatchesModel", "command", "()V"⟩, 14), (⟨"RockWatchesModel", "wordHere", "()I"⟩, 14), (⟨"RockWatchesModel", "isWord", "(I)Z"⟩, 14), (⟨"RockWatchesModel", "fail", "(I)V"⟩, 14), (⟨"RockWatchesModel", "readNumber", "(I)V"⟩, 14), (⟨"RockWatchesModel", "carry", "(I)I"⟩, 14)]
theorem lw_r2 : ∀ q ∈ lw_privs_2, lw_okq q := List.forall_mem_cons.mpr ⟨lw_p16, List.forall_mem_cons.mpr ⟨lw_p17, List.forall_mem_cons.mpr ⟨lw_p18, List.forall_mem_cons.mpr ⟨lw_p19, List.forall_mem_cons.mpr ⟨lw_p20, List.forall_mem_cons.mpr ⟨lw_p21, List.forall_mem_cons.mpr ⟨lw_p22, List.forall_mem_cons.mpr ⟨lw_p23, List.forall_mem_cons.mpr ⟨lw_p24, List.forall_mem_cons.mpr ⟨lw_p25, List.forall_mem_cons.mpr ⟨lw_p26, List.forall_mem_cons.mpr ⟨lw_p27, List.forall_mem_cons.mpr ⟨lw_p28, List.forall_mem_cons.mpr ⟨lw_p29, List.forall_mem_cons.mpr ⟨lw_p30, List.forall_mem_cons.mpr ⟨lw_p31, fun _ h => absurd h List.not_mem_nil⟩⟩⟩⟩⟩⟩⟩⟩⟩⟩⟩⟩⟩⟩⟩⟩
theorem lw_p32 : lw_okq (⟨"RockWatchesModel", "codeOf", "(IIIII)I"⟩, 14) := ⟨⟨by decide +kernel, by decide +kernel⟩, List.mem_of_getElem? (i := 808) (by decide +kernel), List.mem_of_getElem? (i := 1104) (by decide +kernel), List.mem_of_getElem? (i := 1105) (by decide +kernel)⟩
theorem lw_p33 : lw_okq (⟨"RockWatchesModel", "turnsFor", "(I)I"⟩, 14) := ⟨⟨by decide +kernel, by decide +kernel⟩, List.mem_of_getElem? (i := 808) (by decide +kernel), List.mem_of_getElem? (i := 1116) (by decide +kernel), List.mem_of_getElem? (i := 1117) (by decide +kernel)⟩
theorem lw_p34 : lw_okq (⟨"RockWatchesModel", "firstOn", "(I)I"⟩, 14) := ⟨⟨by decide +kernel, by decide +kernel⟩, List.mem_of_getElem? (i := 808) (by decide +kernel), List.mem_of_getElem? (i := 1120) (by decide +kernel), List.mem_of_getElem? (i := 1121) (by decide +kernel)⟩
theorem lw_p35 : lw_okq (⟨"RockWatchesModel", "tryNow", "()V"⟩, 14) := ⟨⟨by decide +kernel, by decide +kernel⟩, List.mem_of_getElem? (i := 808) (by decide +kernel), List.mem_of_getElem? (i := 1160) (by decide +kernel), List.mem_of_getElem? (i := 1161) (by decide +kernel)⟩
theorem lw_p36 : lw_okq (⟨"RockWatchesModel", "hasTurn", "(II)Z"⟩, 14) := ⟨⟨by decide +kernel, by decide +kernel⟩, List.mem_of_getElem? (i := 808) (by decide +kernel), List.mem_of_getElem? (i := 1172) (by decide +kernel), List.mem_of_getElem? (i := 1173) (by decide +kernel)⟩
def lw_privs_3 : List (MethodName × Nat) := [(⟨"RockWatchesModel", "codeOf", "(IIIII)I"⟩, 14), (⟨"RockWatchesModel", "turnsFor", "(I)I"⟩, 14), (⟨"RockWatchesModel", "firstOn", "(I)I"⟩, 14), (⟨"RockWatchesModel", "tryNow", "()V"⟩, 14), (⟨"RockWatchesModel", "hasTurn", "(II)Z"⟩, 14)]
theorem lw_r3 : ∀ q ∈ lw_privs_3, lw_okq q := List.forall_mem_cons.mpr ⟨lw_p32, List.forall_mem_cons.mpr ⟨lw_p33, List.forall_mem_cons.mpr ⟨lw_p34, List.forall_mem_cons.mpr ⟨lw_p35, List.forall_mem_cons.mpr ⟨lw_p36, fun _ h => absurd h List.not_mem_nil⟩⟩⟩⟩⟩
def lw_privs : List (MethodName × Nat) := lw_privs_1 ++ (lw_privs_2 ++ (lw_privs_3))
def lw_tbl : List Cond := k2_sels lw_privs ++ tables_1
theorem lw_privs_ok : ∀ q ∈ lw_privs, lw_okq q := by
  show ∀ q ∈ lw_privs_1 ++ (lw_privs_2 ++ (lw_privs_3)), lw_okq q
  exact List.forall_mem_append.mpr ⟨lw_r1, List.forall_mem_append.mpr ⟨lw_r2, lw_r3⟩⟩
def RX0 : String := "RockWatches$History"
def TX0 : u_T := fun k => match k with
  | 0 => ("RockWatches$History", "states", "[LRockWatches$State;", true)
  | 1 => ("RockWatches$History", "oldest", "I", false)
  | _ => ("RockWatches$History", "size", "I", false)
def tyX0 : Nat → FieldType := fun k => match k with
  | 0 => .array (.object "RockWatches$State")
  | 1 => .int
  | _ => .int
abbrev wsX00 : List Cond := u_ws RX0 TX0 3
theorem nmX0 : ∀ a, a < 3 → ∀ b, b < 3 → a ≠ b → (TX0 a).2.1 ≠ (TX0 b).2.1 := by decide +kernel
theorem tyX0_ok : ∀ k, k < 3 → parseFieldDescriptor (TX0 k).2.2.1 = some (tyX0 k) := by decide +kernel
abbrev cX0_init : ByteArray := prog_2_method_1_code
def yX0_init : MethodName := ⟨RX0, "<init>", "()V"⟩
abbrev cX0_spare : ByteArray := prog_2_method_2_code
def yX0_spare : MethodName := ⟨RX0, "spare", "()LRockWatches$State;"⟩
abbrev cX0_recordSpare : ByteArray := prog_2_method_3_code
def yX0_recordSpare : MethodName := ⟨RX0, "recordSpare", "()V"⟩
abbrev cX0_makeLatestSpare : ByteArray := prog_2_method_4_code
def yX0_makeLatestSpare : MethodName := ⟨RX0, "makeLatestSpare", "()V"⟩
def RX1 : String := "RockWatches$Keeper"
def TX1 : u_T := fun k => match k with
  | 0 => ("RockWatches$Keeper", "rank", "I", false)
  | 1 => ("RockWatches$Keeper", "rock", "I", false)
  | 2 => ("RockWatches$Keeper", "owed", "I", false)
  | 3 => ("RockWatches$Keeper", "daysOut", "I", false)
  | 4 => ("RockWatches$Keeper", "doubledDays", "I", false)
  | 5 => ("RockWatches$Keeper", "leaveDays", "I", false)
  | _ => ("RockWatches$Keeper", "idleDays", "I", false)
def tyX1 : Nat → FieldType := fun k => match k with
  | 0 => .int
  | 1 => .int
  | 2 => .int
  | 3 => .int
  | 4 => .int
  | 5 => .int
  | _ => .int
abbrev wsX10 : List Cond := u_ws RX1 TX1 7
theorem nmX1 : ∀ a, a < 7 → ∀ b, b < 7 → a ≠ b → (TX1 a).2.1 ≠ (TX1 b).2.1 := by decide +kernel
theorem tyX1_ok : ∀ k, k < 7 → parseFieldDescriptor (TX1 k).2.2.1 = some (tyX1 k) := by decide +kernel
abbrev cX1_init : ByteArray := prog_3_method_1_code
def yX1_init : MethodName := ⟨RX1, "<init>", "()V"⟩
abbrev cX1_copyFrom : ByteArray := prog_3_method_2_code
def yX1_copyFrom : MethodName := ⟨RX1, "copyFrom", "(LRockWatches$Keeper;)V"⟩
abbrev cX1_spendDayOut : ByteArray := prog_3_method_3_code
def yX1_spendDayOut : MethodName := ⟨RX1, "spendDayOut", "(Z)V"⟩
abbrev cX1_spendDayAshore : ByteArray := prog_3_method_4_code
def yX1_spendDayAshore : MethodName := ⟨RX1, "spendDayAshore", "()V"⟩
abbrev cX1_goesOutBefore : ByteArray := prog_3_method_5_code
def yX1_goesOutBefore : MethodName := ⟨RX1, "goesOutBefore", "(LRockWatches$Keeper;)Z"⟩
abbrev cX1_comesInBefore : ByteArray := prog_3_method_6_code
def yX1_comesInBefore : MethodName := ⟨RX1, "comesInBefore", "(LRockWatches$Keeper;)Z"⟩
abbrev cX1_unitsOfADay : ByteArray := prog_3_method_7_code
def yX1_unitsOfADay : MethodName := ⟨RX1, "unitsOfADay", "(I)I"⟩
def RX2 : String := "RockWatches$Rock"
def TX2 : u_T := fun k => match k with
  | 0 => ("RockWatches$Rock", "height", "I", false)
  | 1 => ("RockWatches$Rock", "swell", "I", false)
  | 2 => ("RockWatches$Rock", "posts", "I", false)
  | 3 => ("RockWatches$Rock", "doubledDays", "I", false)
  | 4 => ("RockWatches$Rock", "lastDoubled", "I", false)
  | _ => ("RockWatches$Rock", "stores", "[LRockWatches$Store;", true)
def tyX2 : Nat → FieldType := fun k => match k with
  | 0 => .int
  | 1 => .int
  | 2 => .int
  | 3 => .int
  | 4 => .int
  | _ => .array (.object "RockWatches$Store")
abbrev wsX20 : List Cond := u_ws RX2 TX2 6
theorem nmX2 : ∀ a, a < 6 → ∀ b, b < 6 → a ≠ b → (TX2 a).2.1 ≠ (TX2 b).2.1 := by decide +kernel
theorem tyX2_ok : ∀ k, k < 6 → parseFieldDescriptor (TX2 k).2.2.1 = some (tyX2 k) := by decide +kernel
abbrev cX2_init : ByteArray := prog_4_method_1_code
def yX2_init : MethodName := ⟨RX2, "<init>", "()V"⟩
abbrev cX2_start : ByteArray := prog_4_method_2_code
def yX2_start : MethodName := ⟨RX2, "start", "(III)V"⟩
abbrev cX2_copyFrom : ByteArray := prog_4_method_3_code
def yX2_copyFrom : MethodName := ⟨RX2, "copyFrom", "(LRockWatches$Rock;)V"⟩
abbrev cX2_doubleDay : ByteArray := prog_4_method_4_code
def yX2_doubleDay : MethodName := ⟨RX2, "doubleDay", "(I)V"⟩
def RX3 : String := "RockWatches$State"
def TX3 : u_T := fun k => match k with
  | 0 => ("RockWatches$State", "world", "LRockWatches$World;", true)
  | _ => ("RockWatches$State", "snapshots", "[LRockWatches$World;", true)
def tyX3 : Nat → FieldType := fun k => match k with
  | 0 => .object "RockWatches$World"
  | _ => .array (.object "RockWatches$World")
abbrev wsX30 : List Cond := u_ws RX3 TX3 2
theorem nmX3 : ∀ a, a < 2 → ∀ b, b < 2 → a ≠ b → (TX3 a).2.1 ≠ (TX3 b).2.1 := by decide +kernel
theorem tyX3_ok : ∀ k, k < 2 → parseFieldDescriptor (TX3 k).2.2.1 = some (tyX3 k) := by decide +kernel
abbrev cX3_init : ByteArray := prog_5_method_1_code
def yX3_init : MethodName := ⟨RX3, "<init>", "()V"⟩
abbrev cX3_copyFrom : ByteArray := prog_5_method_2_code
def yX3_copyFrom : MethodName := ⟨RX3, "copyFrom", "(LRockWatches$State;)V"⟩
abbrev cX3_keepSnapshot : ByteArray := prog_5_method_3_code
def yX3_keepSnapshot : MethodName := ⟨RX3, "keepSnapshot", "(I)I"⟩
abbrev cX3_returnToSnapshot : ByteArray := prog_5_method_4_code
def yX3_returnToSnapshot : MethodName := ⟨RX3, "returnToSnapshot", "(I)I"⟩
abbrev cX3_snapshotCount : ByteArray := prog_5_method_5_code
def yX3_snapshotCount : MethodName := ⟨RX3, "snapshotCount", "()I"⟩
def RX4 : String := "RockWatches$Store"
def TX4 : u_T := fun k => match k with
  | 0 => ("RockWatches$Store", "amount", "I", false)
  | 1 => ("RockWatches$Store", "keep", "I", false)
  | 2 => ("RockWatches$Store", "eaten", "I", false)
  | 3 => ("RockWatches$Store", "lacking", "I", false)
  | _ => ("RockWatches$Store", "delivered", "I", false)
def tyX4 : Nat → FieldType := fun k => match k with
  | 0 => .int
  | 1 => .int
  | 2 => .int
  | 3 => .int
  | _ => .int
abbrev wsX40 : List Cond := u_ws RX4 TX4 5
theorem nmX4 : ∀ a, a < 5 → ∀ b, b < 5 → a ≠ b → (TX4 a).2.1 ≠ (TX4 b).2.1 := by decide +kernel
theorem tyX4_ok : ∀ k, k < 5 → parseFieldDescriptor (TX4 k).2.2.1 = some (tyX4 k) := by decide +kernel
abbrev cX4_init : ByteArray := prog_6_method_1_code
def yX4_init : MethodName := ⟨RX4, "<init>", "()V"⟩
abbrev cX4_copyFrom : ByteArray := prog_6_method_2_code
def yX4_copyFrom : MethodName := ⟨RX4, "copyFrom", "(LRockWatches$Store;)V"⟩
abbrev cX4_receive : ByteArray := prog_6_method_3_code
def yX4_receive : MethodName := ⟨RX4, "receive", "(I)V"⟩
abbrev cX4_feed : ByteArray := prog_6_method_4_code
def yX4_feed : MethodName := ⟨RX4, "feed", "(I)V"⟩
abbrev cX4_need : ByteArray := prog_6_method_5_code
def yX4_need : MethodName := ⟨RX4, "need", "(II)I"⟩
def RX5 : String := "RockWatches$Text"
def TX5 : u_T := fun k => match k with
  | 0 => ("RockWatches$Text", "characters", "[C", true)
  | 1 => ("RockWatches$Text", "numbers", "[I", true)
  | 2 => ("RockWatches$Text", "length", "I", false)
  | 3 => ("RockWatches$Text", "start", "I", false)
  | _ => ("RockWatches$Text", "end", "I", false)
def tyX5 : Nat → FieldType := fun k => match k with
  | 0 => .array .char
  | 1 => .array .int
  | 2 => .int
  | 3 => .int
  | _ => .int
abbrev wsX50 : List Cond := u_ws RX5 TX5 5
theorem nmX5 : ∀ a, a < 5 → ∀ b, b < 5 → a ≠ b → (TX5 a).2.1 ≠ (TX5 b).2.1 := by decide +kernel
theorem tyX5_ok : ∀ k, k < 5 → parseFieldDescriptor (TX5 k).2.2.1 = some (tyX5 k) := by decide +kernel
abbrev cX5_init : ByteArray := prog_7_method_1_code
def yX5_init : MethodName := ⟨RX5, "<init>", "()V"⟩
abbrev cX5_add : ByteArray := prog_7_method_2_code
def yX5_add : MethodName := ⟨RX5, "add", "(C)Z"⟩
abbrev cX5_rewind : ByteArray := prog_7_method_3_code
def yX5_rewind : MethodName := ⟨RX5, "rewind", "()V"⟩
abbrev cX5_readToken : ByteArray := prog_7_method_4_code
def yX5_readToken : MethodName := ⟨RX5, "readToken", "()Z"⟩
abbrev cX5_goesOn : ByteArray := prog_7_method_5_code
def yX5_goesOn : MethodName := ⟨RX5, "goesOn", "(CC)Z"⟩
abbrev cX5_isLetter : ByteArray := prog_7_method_6_code
def yX5_isLetter : MethodName := ⟨RX5, "isLetter", "(C)Z"⟩
abbrev cX5_isDigit : ByteArray := prog_7_method_7_code
def yX5_isDigit : MethodName := ⟨RX5, "isDigit", "(C)Z"⟩
abbrev cX5_word : ByteArray := prog_7_method_8_code
def yX5_word : MethodName := ⟨RX5, "word", "()I"⟩
abbrev cX5_is : ByteArray := prog_7_method_9_code
def yX5_is : MethodName := ⟨RX5, "is", "(Ljava/lang/String;)Z"⟩
abbrev cX5_numbersBehind : ByteArray := prog_7_method_10_code
def yX5_numbersBehind : MethodName := ⟨RX5, "numbersBehind", "(I)I"⟩
abbrev cX5_readRest : ByteArray := prog_7_method_11_code
def yX5_readRest : MethodName := ⟨RX5, "readRest", "(I)Z"⟩
abbrev cX5_number : ByteArray := prog_7_method_12_code
def yX5_number : MethodName := ⟨RX5, "number", "()I"⟩
def RX6 : String := "RockWatches$Turn"
def TX6 : u_T := fun k => match k with
  | 0 => ("RockWatches$Turn", "kind", "I", false)
  | 1 => ("RockWatches$Turn", "rock", "I", false)
  | 2 => ("RockWatches$Turn", "day", "I", false)
  | 3 => ("RockWatches$Turn", "in", "I", false)
  | 4 => ("RockWatches$Turn", "out", "I", false)
  | 5 => ("RockWatches$Turn", "store", "I", false)
  | 6 => ("RockWatches$Turn", "amount", "I", false)
  | _ => ("RockWatches$Turn", "doneOn", "I", false)
def tyX6 : Nat → FieldType := fun k => match k with
  | 0 => .int
  | 1 => .int
  | 2 => .int
  | 3 => .int
  | 4 => .int
  | 5 => .int
  | 6 => .int
  | _ => .int
abbrev wsX60 : List Cond := u_ws RX6 TX6 8
theorem nmX6 : ∀ a, a < 8 → ∀ b, b < 8 → a ≠ b → (TX6 a).2.1 ≠ (TX6 b).2.1 := by decide +kernel
theorem tyX6_ok : ∀ k, k < 8 → parseFieldDescriptor (TX6 k).2.2.1 = some (tyX6 k) := by decide +kernel
abbrev cX6_init : ByteArray := prog_8_method_1_code
def yX6_init : MethodName := ⟨RX6, "<init>", "()V"⟩
abbrev cX6_start : ByteArray := prog_8_method_2_code
def yX6_start : MethodName := ⟨RX6, "start", "(III)V"⟩
abbrev cX6_copyFrom : ByteArray := prog_8_method_3_code
def yX6_copyFrom : MethodName := ⟨RX6, "copyFrom", "(LRockWatches$Turn;)V"⟩
def RX7 : String := "RockWatches$World"
def TX7 : u_T := fun k => match k with
  | 0 => ("RockWatches$World", "today", "I", false)
  | 1 => ("RockWatches$World", "done", "I", false)
  | 2 => ("RockWatches$World", "dropped", "I", false)
  | 3 => ("RockWatches$World", "missed", "I", false)
  | 4 => ("RockWatches$World", "rockCount", "I", false)
  | 5 => ("RockWatches$World", "keeperCount", "I", false)
  | 6 => ("RockWatches$World", "turnCount", "I", false)
  | 7 => ("RockWatches$World", "tides", "[I", true)
  | 8 => ("RockWatches$World", "swells", "[I", true)
  | 9 => ("RockWatches$World", "rocks", "[LRockWatches$Rock;", true)
  | 10 => ("RockWatches$World", "keepers", "[LRockWatches$Keeper;", true)
  | _ => ("RockWatches$World", "turns", "[LRockWatches$Turn;", true)
def tyX7 : Nat → FieldType := fun k => match k with
  | 0 => .int
  | 1 => .int
  | 2 => .int
  | 3 => .int
  | 4 => .int
  | 5 => .int
  | 6 => .int
  | 7 => .array .int
  | 8 => .array .int
  | 9 => .array (.object "RockWatches$Rock")
  | 10 => .array (.object "RockWatches$Keeper")
  | _ => .array (.object "RockWatches$Turn")
abbrev wsX70 : List Cond := u_ws RX7 TX7 12
theorem nmX7 : ∀ a, a < 12 → ∀ b, b < 12 → a ≠ b → (TX7 a).2.1 ≠ (TX7 b).2.1 := by decide +kernel
theorem tyX7_ok : ∀ k, k < 12 → parseFieldDescriptor (TX7 k).2.2.1 = some (tyX7 k) := by decide +kernel
abbrev cX7_init : ByteArray := prog_9_method_1_code
def yX7_init : MethodName := ⟨RX7, "<init>", "()V"⟩
abbrev cX7_copyFrom : ByteArray := prog_9_method_2_code
def yX7_copyFrom : MethodName := ⟨RX7, "copyFrom", "(LRockWatches$World;)V"⟩
abbrev cX7_hasRock : ByteArray := prog_9_method_3_code
def yX7_hasRock : MethodName := ⟨RX7, "hasRock", "(I)Z"⟩
abbrev cX7_hasStore : ByteArray := prog_9_method_4_code
def yX7_hasStore : MethodName := ⟨RX7, "hasStore", "(II)Z"⟩
abbrev cX7_hasKeeper : ByteArray := prog_9_method_5_code
def yX7_hasKeeper : MethodName := ⟨RX7, "hasKeeper", "(I)Z"⟩
abbrev cX7_hasTurn : ByteArray := prog_9_method_6_code
def yX7_hasTurn : MethodName := ⟨RX7, "hasTurn", "(I)Z"⟩
abbrev cX7_isDay : ByteArray := prog_9_method_7_code
def yX7_isDay : MethodName := ⟨RX7, "isDay", "(I)Z"⟩
abbrev cX7_putTide : ByteArray := prog_9_method_8_code
def yX7_putTide : MethodName := ⟨RX7, "putTide", "(II)I"⟩
abbrev cX7_putSwell : ByteArray := prog_9_method_9_code
def yX7_putSwell : MethodName := ⟨RX7, "putSwell", "(II)I"⟩
abbrev cX7_seaPart : ByteArray := prog_9_method_10_code
def yX7_seaPart : MethodName := ⟨RX7, "seaPart", "(II)I"⟩
abbrev cX7_allowsLanding : ByteArray := prog_9_method_11_code
def yX7_allowsLanding : MethodName := ⟨RX7, "allowsLanding", "(LRockWatches$Rock;I)Z"⟩
abbrev cX7_firstLanding : ByteArray := prog_9_method_12_code
def yX7_firstLanding : MethodName := ⟨RX7, "firstLanding", "(II)I"⟩
abbrev cX7_landingDays : ByteArray := prog_9_method_13_code
def yX7_landingDays : MethodName := ⟨RX7, "landingDays", "(III)I"⟩
abbrev cX7_longestCutOff : ByteArray := prog_9_method_14_code
def yX7_longestCutOff : MethodName := ⟨RX7, "longestCutOff", "(III)I"⟩
abbrev cX7_allowsLandingOnAny : ByteArray := prog_9_method_15_code
def yX7_allowsLandingOnAny : MethodName := ⟨RX7, "allowsLandingOnAny", "(II)Z"⟩
abbrev cX7_placeRock : ByteArray := prog_9_method_16_code
def yX7_placeRock : MethodName := ⟨RX7, "placeRock", "(III)I"⟩
abbrev cX7_rockPart : ByteArray := prog_9_method_17_code
def yX7_rockPart : MethodName := ⟨RX7, "rockPart", "(II)I"⟩
abbrev cX7_turnsFor : ByteArray := prog_9_method_18_code
def yX7_turnsFor : MethodName := ⟨RX7, "turnsFor", "(I)I"⟩
abbrev cX7_firstKeeperOn : ByteArray := prog_9_method_19_code
def yX7_firstKeeperOn : MethodName := ⟨RX7, "firstKeeperOn", "(I)I"⟩
abbrev cX7_putKeep : ByteArray := prog_9_method_20_code
def yX7_putKeep : MethodName := ⟨RX7, "putKeep", "(III)I"⟩
abbrev cX7_storePart : ByteArray := prog_9_method_21_code
def yX7_storePart : MethodName := ⟨RX7, "storePart", "(III)I"⟩
abbrev cX7_daysEnough : ByteArray := prog_9_method_22_code
def yX7_daysEnough : MethodName := ⟨RX7, "daysEnough", "(II)I"⟩
abbrev cX7_addKeeper : ByteArray := prog_9_method_23_code
def yX7_addKeeper : MethodName := ⟨RX7, "addKeeper", "(I)I"⟩
abbrev cX7_keeperPart : ByteArray := prog_9_method_24_code
def yX7_keeperPart : MethodName := ⟨RX7, "keeperPart", "(II)I"⟩
abbrev cX7_keepersAt : ByteArray := prog_9_method_25_code
def yX7_keepersAt : MethodName := ⟨RX7, "keepersAt", "(I)I"⟩
abbrev cX7_isAt : ByteArray := prog_9_method_26_code
def yX7_isAt : MethodName := ⟨RX7, "isAt", "(II)Z"⟩
abbrev cX7_moveTo : ByteArray := prog_9_method_27_code
def yX7_moveTo : MethodName := ⟨RX7, "moveTo", "(II)V"⟩
abbrev cX7_nextToGoOut : ByteArray := prog_9_method_28_code
def yX7_nextToGoOut : MethodName := ⟨RX7, "nextToGoOut", "()I"⟩
abbrev cX7_isToGoOut : ByteArray := prog_9_method_29_code
def yX7_isToGoOut : MethodName := ⟨RX7, "isToGoOut", "(I)Z"⟩
abbrev cX7_nextToComeIn : ByteArray := prog_9_method_30_code
def yX7_nextToComeIn : MethodName := ⟨RX7, "nextToComeIn", "()I"⟩
abbrev cX7_isToComeIn : ByteArray := prog_9_method_31_code
def yX7_isToComeIn : MethodName := ⟨RX7, "isToComeIn", "(I)Z"⟩
abbrev cX7_planRelief : ByteArray := prog_9_method_32_code
def yX7_planRelief : MethodName := ⟨RX7, "planRelief", "(IIII)I"⟩
abbrev cX7_planChange : ByteArray := prog_9_method_33_code
def yX7_planChange : MethodName := ⟨RX7, "planChange", "(IIII)I"⟩
abbrev cX7_planDelivery : ByteArray := prog_9_method_34_code
def yX7_planDelivery : MethodName := ⟨RX7, "planDelivery", "(IIII)I"⟩
abbrev cX7_plan : ByteArray := prog_9_method_35_code
def yX7_plan : MethodName := ⟨RX7, "plan", "(III)I"⟩
abbrev cX7_removeTurn : ByteArray := prog_9_method_36_code
def yX7_removeTurn : MethodName := ⟨RX7, "removeTurn", "(I)I"⟩
abbrev cX7_swapKeepersOut : ByteArray := prog_9_method_37_code
def yX7_swapKeepersOut : MethodName := ⟨RX7, "swapKeepersOut", "(II)I"⟩
abbrev cX7_turnPart : ByteArray := prog_9_method_38_code
def yX7_turnPart : MethodName := ⟨RX7, "turnPart", "(II)I"⟩
abbrev cX7_passDays : ByteArray := prog_9_method_39_code
def yX7_passDays : MethodName := ⟨RX7, "passDays", "(I)I"⟩
abbrev cX7_keeperPartBehind : ByteArray := prog_9_method_40_code
def yX7_keeperPartBehind : MethodName := ⟨RX7, "keeperPartBehind", "(III)I"⟩
abbrev cX7_passUntilDone : ByteArray := prog_9_method_41_code
def yX7_passUntilDone : MethodName := ⟨RX7, "passUntilDone", "(I)I"⟩
abbrev cX7_goThroughTurns : ByteArray := prog_9_method_42_code
def yX7_goThroughTurns : MethodName := ⟨RX7, "goThroughTurns", "()V"⟩
abbrev cX7_carryOut : ByteArray := prog_9_method_43_code
def yX7_carryOut : MethodName := ⟨RX7, "carryOut", "(LRockWatches$Turn;LRockWatches$Rock;)Z"⟩
abbrev cX7_eat : ByteArray := prog_9_method_44_code
def yX7_eat : MethodName := ⟨RX7, "eat", "()V"⟩
abbrev cX7_earn : ByteArray := prog_9_method_45_code
def yX7_earn : MethodName := ⟨RX7, "earn", "()V"⟩
def RX8 : String := "RockWatches"
def TX8 : u_T := fun k => match k with
  | 0 => ("RockWatches", "state", "LRockWatches$State;", true)
  | 1 => ("RockWatches", "history", "LRockWatches$History;", true)
  | 2 => ("RockWatches", "text", "LRockWatches$Text;", true)
  | _ => ("RockWatches", "forecast", "LRockWatches$World;", true)
def tyX8 : Nat → FieldType := fun k => match k with
  | 0 => .object "RockWatches$State"
  | 1 => .object "RockWatches$History"
  | 2 => .object "RockWatches$Text"
  | _ => .object "RockWatches$World"
abbrev wsX80 : List Cond := u_ws RX8 TX8 4
theorem nmX8 : ∀ a, a < 4 → ∀ b, b < 4 → a ≠ b → (TX8 a).2.1 ≠ (TX8 b).2.1 := by decide +kernel
theorem tyX8_ok : ∀ k, k < 4 → parseFieldDescriptor (TX8 k).2.2.1 = some (tyX8 k) := by decide +kernel
abbrev cX8_init : ByteArray := prog_1_method_1_code
def yX8_init : MethodName := ⟨RX8, "<init>", "()V"⟩
abbrev cX8_setTide : ByteArray := prog_1_method_2_code
def yX8_setTide : MethodName := ⟨RX8, "setTide", "(II)I"⟩
abbrev cX8_setSwell : ByteArray := prog_1_method_3_code
def yX8_setSwell : MethodName := ⟨RX8, "setSwell", "(II)I"⟩
abbrev cX8_addRock : ByteArray := prog_1_method_4_code
def yX8_addRock : MethodName := ⟨RX8, "addRock", "(III)I"⟩
abbrev cX8_setKeep : ByteArray := prog_1_method_5_code
def yX8_setKeep : MethodName := ⟨RX8, "setKeep", "(III)I"⟩
abbrev cX8_come : ByteArray := prog_1_method_6_code
def yX8_come : MethodName := ⟨RX8, "come", "(I)I"⟩
abbrev cX8_relieve : ByteArray := prog_1_method_7_code
def yX8_relieve : MethodName := ⟨RX8, "relieve", "(IIII)I"⟩
abbrev cX8_change : ByteArray := prog_1_method_8_code
def yX8_change : MethodName := ⟨RX8, "change", "(IIII)I"⟩
abbrev cX8_bring : ByteArray := prog_1_method_9_code
def yX8_bring : MethodName := ⟨RX8, "bring", "(IIII)I"⟩
abbrev cX8_cancel : ByteArray := prog_1_method_10_code
def yX8_cancel : MethodName := ⟨RX8, "cancel", "(I)I"⟩
abbrev cX8_exchange : ByteArray := prog_1_method_11_code
def yX8_exchange : MethodName := ⟨RX8, "exchange", "(II)I"⟩
abbrev cX8_pass : ByteArray := prog_1_method_12_code
def yX8_pass : MethodName := ⟨RX8, "pass", "(I)I"⟩
abbrev cX8_take : ByteArray := prog_1_method_13_code
def yX8_take : MethodName := ⟨RX8, "take", "(I)I"⟩
abbrev cX8_restore : ByteArray := prog_1_method_14_code
def yX8_restore : MethodName := ⟨RX8, "restore", "(I)I"⟩
abbrev cX8_undo : ByteArray := prog_1_method_15_code
def yX8_undo : MethodName := ⟨RX8, "undo", "()I"⟩
abbrev cX8_append : ByteArray := prog_1_method_16_code
def yX8_append : MethodName := ⟨RX8, "append", "(I)I"⟩
abbrev cX8_clearText : ByteArray := prog_1_method_17_code
def yX8_clearText : MethodName := ⟨RX8, "clearText", "()I"⟩
abbrev cX8_run : ByteArray := prog_1_method_18_code
def yX8_run : MethodName := ⟨RX8, "run", "()I"⟩
abbrev cX8_count : ByteArray := prog_1_method_19_code
def yX8_count : MethodName := ⟨RX8, "count", "(I)I"⟩
abbrev cX8_rock : ByteArray := prog_1_method_20_code
def yX8_rock : MethodName := ⟨RX8, "rock", "(II)I"⟩
abbrev cX8_store : ByteArray := prog_1_method_21_code
def yX8_store : MethodName := ⟨RX8, "store", "(III)I"⟩
abbrev cX8_keeper : ByteArray := prog_1_method_22_code
def yX8_keeper : MethodName := ⟨RX8, "keeper", "(II)I"⟩
abbrev cX8_turn : ByteArray := prog_1_method_23_code
def yX8_turn : MethodName := ⟨RX8, "turn", "(II)I"⟩
abbrev cX8_sea : ByteArray := prog_1_method_24_code
def yX8_sea : MethodName := ⟨RX8, "sea", "(II)I"⟩
abbrev cX8_landing : ByteArray := prog_1_method_25_code
def yX8_landing : MethodName := ⟨RX8, "landing", "(II)I"⟩
abbrev cX8_landings : ByteArray := prog_1_method_26_code
def yX8_landings : MethodName := ⟨RX8, "landings", "(III)I"⟩
abbrev cX8_cutOff : ByteArray := prog_1_method_27_code
def yX8_cutOff : MethodName := ⟨RX8, "cutOff", "(III)I"⟩
abbrev cX8_lasts : ByteArray := prog_1_method_28_code
def yX8_lasts : MethodName := ⟨RX8, "lasts", "(II)I"⟩
abbrev cX8_doneOn : ByteArray := prog_1_method_29_code
def yX8_doneOn : MethodName := ⟨RX8, "doneOn", "(I)I"⟩
abbrev cX8_later : ByteArray := prog_1_method_30_code
def yX8_later : MethodName := ⟨RX8, "later", "(III)I"⟩
abbrev cX8_nextOut : ByteArray := prog_1_method_31_code
def yX8_nextOut : MethodName := ⟨RX8, "nextOut", "()I"⟩
abbrev cX8_nextIn : ByteArray := prog_1_method_32_code
def yX8_nextIn : MethodName := ⟨RX8, "nextIn", "()I"⟩
abbrev cX8_prepare : ByteArray := prog_1_method_33_code
def yX8_prepare : MethodName := ⟨RX8, "prepare", "()V"⟩
abbrev cX8_conclude : ByteArray := prog_1_method_34_code
def yX8_conclude : MethodName := ⟨RX8, "conclude", "(I)I"⟩
abbrev cX8_obey : ByteArray := prog_1_method_35_code
def yX8_obey : MethodName := ⟨RX8, "obey", "(I)I"⟩
abbrev cX8_within : ByteArray := prog_1_method_36_code
def yX8_within : MethodName := ⟨RX8, "within", "(III)Z"⟩
def RX9 : String := "RockWatchesModel"
def TX9 : u_T := fun k => match k with
  | 0 => ("RockWatchesModel", "thrown", "I", false)
  | 1 => ("RockWatchesModel", "s", "[I", true)
  | 2 => ("RockWatchesModel", "aside", "[I", true)
  | 3 => ("RockWatchesModel", "w", "[I", true)
  | 4 => ("RockWatchesModel", "saved", "[I", true)
  | 5 => ("RockWatchesModel", "savedMany", "I", false)
  | 6 => ("RockWatchesModel", "text", "[I", true)
  | 7 => ("RockWatchesModel", "length", "I", false)
  | 8 => ("RockWatchesModel", "numbers", "[I", true)
  | 9 => ("RockWatchesModel", "doneTags", "I", false)
  | 10 => ("RockWatchesModel", "token", "I", false)
  | 11 => ("RockWatchesModel", "from", "I", false)
  | 12 => ("RockWatchesModel", "till", "I", false)
  | _ => ("RockWatchesModel", "fault", "I", false)
def tyX9 : Nat → FieldType := fun k => match k with
  | 0 => .int
  | 1 => .array .int
  | 2 => .array .int
  | 3 => .array .int
  | 4 => .array .int
  | 5 => .int
  | 6 => .array .int
  | 7 => .int
  | 8 => .array .int
  | 9 => .int
  | 10 => .int
  | 11 => .int
  | 12 => .int
  | _ => .int
abbrev wsX90 : List Cond := u_ws RX9 TX9 14
theorem nmX9 : ∀ a, a < 14 → ∀ b, b < 14 → a ≠ b → (TX9 a).2.1 ≠ (TX9 b).2.1 := by decide +kernel
theorem tyX9_ok : ∀ k, k < 14 → parseFieldDescriptor (TX9 k).2.2.1 = some (tyX9 k) := by decide +kernel
abbrev cX9_init : ByteArray := prog_11_method_1_code
def yX9_init : MethodName := ⟨RX9, "<init>", "()V"⟩
abbrev cX9_in : ByteArray := prog_11_method_3_code
def yX9_in : MethodName := ⟨RX9, "in", "(III)Z"⟩
abbrev cX9_less : ByteArray := prog_11_method_4_code
def yX9_less : MethodName := ⟨RX9, "less", "(II)I"⟩
abbrev cX9_act : ByteArray := prog_11_method_5_code
def yX9_act : MethodName := ⟨RX9, "act", "()V"⟩
abbrev cX9_ofRock : ByteArray := prog_11_method_6_code
def yX9_ofRock : MethodName := ⟨RX9, "ofRock", "([III)I"⟩
abbrev cX9_storeAt : ByteArray := prog_11_method_7_code
def yX9_storeAt : MethodName := ⟨RX9, "storeAt", "(III)I"⟩
abbrev cX9_ofKeeper : ByteArray := prog_11_method_8_code
def yX9_ofKeeper : MethodName := ⟨RX9, "ofKeeper", "([III)I"⟩
abbrev cX9_setKeeper : ByteArray := prog_11_method_9_code
def yX9_setKeeper : MethodName := ⟨RX9, "setKeeper", "([IIII)V"⟩
abbrev cX9_ofTurn : ByteArray := prog_11_method_10_code
def yX9_ofTurn : MethodName := ⟨RX9, "ofTurn", "([III)I"⟩
abbrev cX9_setTurn : ByteArray := prog_11_method_11_code
def yX9_setTurn : MethodName := ⟨RX9, "setTurn", "([IIII)V"⟩
abbrev cX9_isRock : ByteArray := prog_11_method_12_code
def yX9_isRock : MethodName := ⟨RX9, "isRock", "(I)Z"⟩
abbrev cX9_isKeeper : ByteArray := prog_11_method_13_code
def yX9_isKeeper : MethodName := ⟨RX9, "isKeeper", "(I)Z"⟩
abbrev cX9_isTurn : ByteArray := prog_11_method_14_code
def yX9_isTurn : MethodName := ⟨RX9, "isTurn", "(I)Z"⟩
abbrev cX9_isDay : ByteArray := prog_11_method_15_code
def yX9_isDay : MethodName := ⟨RX9, "isDay", "(I)Z"⟩
abbrev cX9_canLand : ByteArray := prog_11_method_16_code
def yX9_canLand : MethodName := ⟨RX9, "canLand", "([III)Z"⟩
abbrev cX9_keepersOn : ByteArray := prog_11_method_17_code
def yX9_keepersOn : MethodName := ⟨RX9, "keepersOn", "([II)I"⟩
abbrev cX9_need : ByteArray := prog_11_method_18_code
def yX9_need : MethodName := ⟨RX9, "need", "([III)I"⟩
abbrev cX9_removeTurn : ByteArray := prog_11_method_19_code
def yX9_removeTurn : MethodName := ⟨RX9, "removeTurn", "([II)V"⟩
abbrev cX9_canBeDone : ByteArray := prog_11_method_20_code
def yX9_canBeDone : MethodName := ⟨RX9, "canBeDone", "([II)Z"⟩
abbrev cX9_doTurn : ByteArray := prog_11_method_21_code
def yX9_doTurn : MethodName := ⟨RX9, "doTurn", "([II)V"⟩
abbrev cX9_goThrough : ByteArray := prog_11_method_22_code
def yX9_goThrough : MethodName := ⟨RX9, "goThrough", "([I)I"⟩
abbrev cX9_eat : ByteArray := prog_11_method_23_code
def yX9_eat : MethodName := ⟨RX9, "eat", "([II)V"⟩
abbrev cX9_reckon : ByteArray := prog_11_method_24_code
def yX9_reckon : MethodName := ⟨RX9, "reckon", "([II)V"⟩
abbrev cX9_passDay : ByteArray := prog_11_method_25_code
def yX9_passDay : MethodName := ⟨RX9, "passDay", "([I)I"⟩
abbrev cX9_setTide : ByteArray := prog_11_method_26_code
def yX9_setTide : MethodName := ⟨RX9, "setTide", "(II)I"⟩
abbrev cX9_swellCode : ByteArray := prog_11_method_27_code
def yX9_swellCode : MethodName := ⟨RX9, "swellCode", "(II)I"⟩
abbrev cX9_swellNow : ByteArray := prog_11_method_28_code
def yX9_swellNow : MethodName := ⟨RX9, "swellNow", "(II)I"⟩
abbrev cX9_setSwell : ByteArray := prog_11_method_29_code
def yX9_setSwell : MethodName := ⟨RX9, "setSwell", "(II)I"⟩
abbrev cX9_rockCode : ByteArray := prog_11_method_30_code
def yX9_rockCode : MethodName := ⟨RX9, "rockCode", "(III)I"⟩
abbrev cX9_rockNow : ByteArray := prog_11_method_31_code
def yX9_rockNow : MethodName := ⟨RX9, "rockNow", "(III)I"⟩
abbrev cX9_addRock : ByteArray := prog_11_method_32_code
def yX9_addRock : MethodName := ⟨RX9, "addRock", "(III)I"⟩
abbrev cX9_isStore : ByteArray := prog_11_method_33_code
def yX9_isStore : MethodName := ⟨RX9, "isStore", "(II)Z"⟩
abbrev cX9_setKeep : ByteArray := prog_11_method_34_code
def yX9_setKeep : MethodName := ⟨RX9, "setKeep", "(III)I"⟩
abbrev cX9_comeCode : ByteArray := prog_11_method_35_code
def yX9_comeCode : MethodName := ⟨RX9, "comeCode", "(I)I"⟩
abbrev cX9_comeNow : ByteArray := prog_11_method_36_code
def yX9_comeNow : MethodName := ⟨RX9, "comeNow", "(I)I"⟩
abbrev cX9_come : ByteArray := prog_11_method_37_code
def yX9_come : MethodName := ⟨RX9, "come", "(I)I"⟩
abbrev cX9_turnCode : ByteArray := prog_11_method_38_code
def yX9_turnCode : MethodName := ⟨RX9, "turnCode", "(ZI)I"⟩
abbrev cX9_planNow : ByteArray := prog_11_method_39_code
def yX9_planNow : MethodName := ⟨RX9, "planNow", "(IIIIIII)I"⟩
abbrev cX9_reliefCode : ByteArray := prog_11_method_40_code
def yX9_reliefCode : MethodName := ⟨RX9, "reliefCode", "(IIII)I"⟩
abbrev cX9_relieve : ByteArray := prog_11_method_41_code
def yX9_relieve : MethodName := ⟨RX9, "relieve", "(IIII)I"⟩
abbrev cX9_changeCode : ByteArray := prog_11_method_42_code
def yX9_changeCode : MethodName := ⟨RX9, "changeCode", "(IIII)I"⟩
abbrev cX9_changeNow : ByteArray := prog_11_method_43_code
def yX9_changeNow : MethodName := ⟨RX9, "changeNow", "(IIII)I"⟩
abbrev cX9_change : ByteArray := prog_11_method_44_code
def yX9_change : MethodName := ⟨RX9, "change", "(IIII)I"⟩
abbrev cX9_bringCode : ByteArray := prog_11_method_45_code
def yX9_bringCode : MethodName := ⟨RX9, "bringCode", "(IIII)I"⟩
abbrev cX9_bring : ByteArray := prog_11_method_46_code
def yX9_bring : MethodName := ⟨RX9, "bring", "(IIII)I"⟩
abbrev cX9_cancel : ByteArray := prog_11_method_47_code
def yX9_cancel : MethodName := ⟨RX9, "cancel", "(I)I"⟩
abbrev cX9_exchange : ByteArray := prog_11_method_48_code
def yX9_exchange : MethodName := ⟨RX9, "exchange", "(II)I"⟩
abbrev cX9_passCode : ByteArray := prog_11_method_49_code
def yX9_passCode : MethodName := ⟨RX9, "passCode", "(I)I"⟩
abbrev cX9_passNow : ByteArray := prog_11_method_50_code
def yX9_passNow : MethodName := ⟨RX9, "passNow", "(I)I"⟩
abbrev cX9_pass : ByteArray := prog_11_method_51_code
def yX9_pass : MethodName := ⟨RX9, "pass", "(I)I"⟩
abbrev cX9_slotAt : ByteArray := prog_11_method_52_code
def yX9_slotAt : MethodName := ⟨RX9, "slotAt", "(I)I"⟩
abbrev cX9_take : ByteArray := prog_11_method_53_code
def yX9_take : MethodName := ⟨RX9, "take", "(I)I"⟩
abbrev cX9_restore : ByteArray := prog_11_method_54_code
def yX9_restore : MethodName := ⟨RX9, "restore", "(I)I"⟩
abbrev cX9_undo : ByteArray := prog_11_method_55_code
def yX9_undo : MethodName := ⟨RX9, "undo", "()I"⟩
abbrev cX9_append : ByteArray := prog_11_method_56_code
def yX9_append : MethodName := ⟨RX9, "append", "(I)I"⟩
abbrev cX9_clearText : ByteArray := prog_11_method_57_code
def yX9_clearText : MethodName := ⟨RX9, "clearText", "()I"⟩
abbrev cX9_at : ByteArray := prog_11_method_58_code
def yX9_at : MethodName := ⟨RX9, "at", "(I)I"⟩
abbrev cX9_next : ByteArray := prog_11_method_59_code
def yX9_next : MethodName := ⟨RX9, "next", "()V"⟩
abbrev cX9_fail : ByteArray := prog_11_method_60_code
def yX9_fail : MethodName := ⟨RX9, "fail", "(I)V"⟩
abbrev cX9_spelled : ByteArray := prog_11_method_61_code
def yX9_spelled : MethodName := ⟨RX9, "spelled", "(IIIIIII)I"⟩
abbrev cX9_letterOf : ByteArray := prog_11_method_62_code
def yX9_letterOf : MethodName := ⟨RX9, "letterOf", "(II)I"⟩
abbrev cX9_isWord : ByteArray := prog_11_method_63_code
def yX9_isWord : MethodName := ⟨RX9, "isWord", "(I)Z"⟩
abbrev cX9_wordHere : ByteArray := prog_11_method_64_code
def yX9_wordHere : MethodName := ⟨RX9, "wordHere", "()I"⟩
abbrev cX9_numbersOf : ByteArray := prog_11_method_65_code
def yX9_numbersOf : MethodName := ⟨RX9, "numbersOf", "(I)I"⟩
abbrev cX9_readNumber : ByteArray := prog_11_method_66_code
def yX9_readNumber : MethodName := ⟨RX9, "readNumber", "(I)V"⟩
abbrev cX9_carry : ByteArray := prog_11_method_67_code
def yX9_carry : MethodName := ⟨RX9, "carry", "(I)I"⟩
abbrev cX9_codeOf : ByteArray := prog_11_method_68_code
def yX9_codeOf : MethodName := ⟨RX9, "codeOf", "(IIIII)I"⟩
abbrev cX9_command : ByteArray := prog_11_method_69_code
def yX9_command : MethodName := ⟨RX9, "command", "()V"⟩
abbrev cX9_run : ByteArray := prog_11_method_70_code
def yX9_run : MethodName := ⟨RX9, "run", "()I"⟩
abbrev cX9_count : ByteArray := prog_11_method_71_code
def yX9_count : MethodName := ⟨RX9, "count", "(I)I"⟩
abbrev cX9_firstOn : ByteArray := prog_11_method_72_code
def yX9_firstOn : MethodName := ⟨RX9, "firstOn", "(I)I"⟩
abbrev cX9_turnsFor : ByteArray := prog_11_method_73_code
def yX9_turnsFor : MethodName := ⟨RX9, "turnsFor", "(I)I"⟩
abbrev cX9_rock : ByteArray := prog_11_method_74_code
def yX9_rock : MethodName := ⟨RX9, "rock", "(II)I"⟩
abbrev cX9_store : ByteArray := prog_11_method_75_code
def yX9_store : MethodName := ⟨RX9, "store", "(III)I"⟩
abbrev cX9_keeper : ByteArray := prog_11_method_76_code
def yX9_keeper : MethodName := ⟨RX9, "keeper", "(II)I"⟩
abbrev cX9_turn : ByteArray := prog_11_method_77_code
def yX9_turn : MethodName := ⟨RX9, "turn", "(II)I"⟩
abbrev cX9_sea : ByteArray := prog_11_method_78_code
def yX9_sea : MethodName := ⟨RX9, "sea", "(II)I"⟩
abbrev cX9_landing : ByteArray := prog_11_method_79_code
def yX9_landing : MethodName := ⟨RX9, "landing", "(II)I"⟩
abbrev cX9_landings : ByteArray := prog_11_method_80_code
def yX9_landings : MethodName := ⟨RX9, "landings", "(III)I"⟩
abbrev cX9_cutOff : ByteArray := prog_11_method_81_code
def yX9_cutOff : MethodName := ⟨RX9, "cutOff", "(III)I"⟩
abbrev cX9_lasts : ByteArray := prog_11_method_82_code
def yX9_lasts : MethodName := ⟨RX9, "lasts", "(II)I"⟩
abbrev cX9_tryNow : ByteArray := prog_11_method_83_code
def yX9_tryNow : MethodName := ⟨RX9, "tryNow", "()V"⟩
abbrev cX9_doneOn : ByteArray := prog_11_method_84_code
def yX9_doneOn : MethodName := ⟨RX9, "doneOn", "(I)I"⟩
abbrev cX9_later : ByteArray := prog_11_method_85_code
def yX9_later : MethodName := ⟨RX9, "later", "(III)I"⟩
abbrev cX9_hasTurn : ByteArray := prog_11_method_86_code
def yX9_hasTurn : MethodName := ⟨RX9, "hasTurn", "(II)Z"⟩
abbrev cX9_nextOut : ByteArray := prog_11_method_87_code
def yX9_nextOut : MethodName := ⟨RX9, "nextOut", "()I"⟩
abbrev cX9_nextIn : ByteArray := prog_11_method_88_code
def yX9_nextIn : MethodName := ⟨RX9, "nextIn", "()I"⟩
def RJ9 : String := "java/lang/Math"
def TJ9 : u_T := fun k => match k with
  | _ => ("", "", "", false)
def tyJ9 : Nat → FieldType := fun k => match k with
  | _ => .int
abbrev wsJ90 : List Cond := u_ws RJ9 TJ9 0
theorem nmJ9 : ∀ a, a < 0 → ∀ b, b < 0 → a ≠ b → (TJ9 a).2.1 ≠ (TJ9 b).2.1 := by decide +kernel
theorem tyJ9_ok : ∀ k, k < 0 → parseFieldDescriptor (TJ9 k).2.2.1 = some (tyJ9 k) := by decide +kernel
abbrev cJ9_floorMod_7cf53 : ByteArray := prog_12_method_50_code
def yJ9_floorMod_7cf53 : MethodName := ⟨RJ9, "floorMod", "(II)I"⟩
abbrev cJ9_max_7cf53 : ByteArray := prog_12_method_65_code
def yJ9_max_7cf53 : MethodName := ⟨RJ9, "max", "(II)I"⟩
abbrev cJ9_min_7cf53 : ByteArray := prog_12_method_69_code
def yJ9_min_7cf53 : MethodName := ⟨RJ9, "min", "(II)I"⟩
def RJ0 : String := "java/lang/String"
def TJ0 : u_T := fun k => match k with
  | _ => ("", "", "", false)
def tyJ0 : Nat → FieldType := fun k => match k with
  | _ => .int
abbrev wsJ00 : List Cond := u_ws RJ0 TJ0 0
theorem nmJ0 : ∀ a, a < 0 → ∀ b, b < 0 → a ≠ b → (TJ0 a).2.1 ≠ (TJ0 b).2.1 := by decide +kernel
theorem tyJ0_ok : ∀ k, k < 0 → parseFieldDescriptor (TJ0 k).2.2.1 = some (tyJ0 k) := by decide +kernel
abbrev cJ0_length_8abf5 : ByteArray := prog_13_method_54_code
def yJ0_length_8abf5 : MethodName := ⟨RJ0, "length", "()I"⟩
abbrev cJ0_charAt_5068e : ByteArray := prog_13_method_56_code
def yJ0_charAt_5068e : MethodName := ⟨RJ0, "charAt", "(I)C"⟩
abbrev cJ0_coder_7d493 : ByteArray := prog_13_method_152_code
def yJ0_coder_7d493 : MethodName := ⟨RJ0, "coder", "()B"⟩
abbrev cJ0_isLatin1_aae02 : ByteArray := prog_13_method_154_code
def yJ0_isLatin1_aae02 : MethodName := ⟨RJ0, "isLatin1", "()Z"⟩
abbrev cJ0_checkIndex_df160 : ByteArray := prog_13_method_155_code
def yJ0_checkIndex_df160 : MethodName := ⟨RJ0, "checkIndex", "(II)V"⟩
def RJ1 : String := "java/lang/StringLatin1"
def TJ1 : u_T := fun k => match k with
  | _ => ("", "", "", false)
def tyJ1 : Nat → FieldType := fun k => match k with
  | _ => .int
abbrev wsJ10 : List Cond := u_ws RJ1 TJ1 0
theorem nmJ1 : ∀ a, a < 0 → ∀ b, b < 0 → a ≠ b → (TJ1 a).2.1 ≠ (TJ1 b).2.1 := by decide +kernel
theorem tyJ1_ok : ∀ k, k < 0 → parseFieldDescriptor (TJ1 k).2.2.1 = some (tyJ1 k) := by decide +kernel
abbrev cJ1_charAt_3b067 : ByteArray := prog_14_method_2_code
def yJ1_charAt_3b067 : MethodName := ⟨RJ1, "charAt", "([BI)C"⟩
def RJ2 : String := "java/lang/StringUTF16"
def TJ2 : u_T := fun k => match k with
  | _ => ("", "", "", false)
def tyJ2 : Nat → FieldType := fun k => match k with
  | _ => .int
abbrev wsJ20 : List Cond := u_ws RJ2 TJ2 0
theorem nmJ2 : ∀ a, a < 0 → ∀ b, b < 0 → a ≠ b → (TJ2 a).2.1 ≠ (TJ2 b).2.1 := by decide +kernel
theorem tyJ2_ok : ∀ k, k < 0 → parseFieldDescriptor (TJ2 k).2.2.1 = some (tyJ2 k) := by decide +kernel
abbrev cJ2_getChar_3b067 : ByteArray := prog_15_method_5_code
def yJ2_getChar_3b067 : MethodName := ⟨RJ2, "getChar", "([BI)C"⟩
abbrev cJ2_length_9d52b : ByteArray := prog_15_method_6_code
def yJ2_length_9d52b : MethodName := ⟨RJ2, "length", "([B)I"⟩
abbrev cJ2_charAt_3b067 : ByteArray := prog_15_method_83_code
def yJ2_charAt_3b067 : MethodName := ⟨RJ2, "charAt", "([BI)C"⟩
abbrev cJ2_checkIndex_2214a : ByteArray := prog_15_method_91_code
def yJ2_checkIndex_2214a : MethodName := ⟨RJ2, "checkIndex", "(I[B)V"⟩
def RJ10 : String := "java/lang/System"
def TJ10 : u_T := fun k => match k with
  | _ => ("", "", "", false)
def tyJ10 : Nat → FieldType := fun k => match k with
  | _ => .int
abbrev wsJ100 : List Cond := u_ws RJ10 TJ10 0
theorem nmJ10 : ∀ a, a < 0 → ∀ b, b < 0 → a ≠ b → (TJ10 a).2.1 ≠ (TJ10 b).2.1 := by decide +kernel
theorem tyJ10_ok : ∀ k, k < 0 → parseFieldDescriptor (TJ10 k).2.2.1 = some (tyJ10 k) := by decide +kernel
def RJ3 : String := "jdk/internal/util/Preconditions"
def TJ3 : u_T := fun k => match k with
  | _ => ("", "", "", false)
def tyJ3 : Nat → FieldType := fun k => match k with
  | _ => .int
abbrev wsJ30 : List Cond := u_ws RJ3 TJ3 0
theorem nmJ3 : ∀ a, a < 0 → ∀ b, b < 0 → a ≠ b → (TJ3 a).2.1 ≠ (TJ3 b).2.1 := by decide +kernel
theorem tyJ3_ok : ∀ k, k < 0 → parseFieldDescriptor (TJ3 k).2.2.1 = some (tyJ3 k) := by decide +kernel
abbrev cJ3_checkIndex_8e157 : ByteArray := prog_17_method_11_code
def yJ3_checkIndex_8e157 : MethodName := ⟨RJ3, "checkIndex", "(IILjava/util/function/BiFunction;)I"⟩
def RL : String := "RockWatchesLaw"
abbrev cL_law : ByteArray := code
def yL_law : MethodName := ⟨RL, "law", "([I)Z"⟩
abbrev vwCl : List vw_C := [(RX0, TX0, 3), (RX1, TX1, 7), (RX2, TX2, 6), (RX3, TX3, 2), (RX4, TX4, 5), (RX5, TX5, 5), (RX6, TX6, 8), (RX7, TX7, 12), (RX8, TX8, 4), (RX9, TX9, 14)]
