-- ===== PART A: goes FIRST, ahead of the names: the tables' words, and 'selects' of the private methods out of them =====
/-- a private method of a class that the tables say can be made, by its rows of tables_1 -/
def lw_okq (q : MethodName × Nat) : Prop := (q.1.cls ≠ "java/lang/invoke/MethodHandle" ∧ q.1.cls ≠ "java/lang/invoke/VarHandle") ∧ Cond.instantiable q.1.cls q.2 ∈ tables_1 ∧ Cond.privateMethod q.1 ∈ tables_1 ∧ Cond.instanceMethod q.1 ∈ tables_1
theorem lw_p0 : lw_okq (⟨"TownFolk", "wasEver", "(I)Z"⟩, 17) := ⟨⟨by decide +kernel, by decide +kernel⟩, List.mem_of_getElem? (i := 19) (by decide +kernel), List.mem_of_getElem? (i := 17) (by decide +kernel), List.mem_of_getElem? (i := 18) (by decide +kernel)⟩
theorem lw_p1 : lw_okq (⟨"TownFolk", "countHere", "()I"⟩, 17) := ⟨⟨by decide +kernel, by decide +kernel⟩, List.mem_of_getElem? (i := 19) (by decide +kernel), List.mem_of_getElem? (i := 29) (by decide +kernel), List.mem_of_getElem? (i := 30) (by decide +kernel)⟩
theorem lw_p2 : lw_okq (⟨"TownFolk", "countBent", "()I"⟩, 17) := ⟨⟨by decide +kernel, by decide +kernel⟩, List.mem_of_getElem? (i := 19) (by decide +kernel), List.mem_of_getElem? (i := 33) (by decide +kernel), List.mem_of_getElem? (i := 34) (by decide +kernel)⟩
theorem lw_p3 : lw_okq (⟨"TownFolk", "refusalsOf", "(I)I"⟩, 17) := ⟨⟨by decide +kernel, by decide +kernel⟩, List.mem_of_getElem? (i := 19) (by decide +kernel), List.mem_of_getElem? (i := 43) (by decide +kernel), List.mem_of_getElem? (i := 44) (by decide +kernel)⟩
theorem lw_p4 : lw_okq (⟨"TownFolk", "refuse", "(I)I"⟩, 17) := ⟨⟨by decide +kernel, by decide +kernel⟩, List.mem_of_getElem? (i := 19) (by decide +kernel), List.mem_of_getElem? (i := 330) (by decide +kernel), List.mem_of_getElem? (i := 331) (by decide +kernel)⟩
theorem lw_p5 : lw_okq (⟨"TownFolk$Town", "shorten", "(IIIII)V"⟩, 7) := ⟨⟨by decide +kernel, by decide +kernel⟩, List.mem_of_getElem? (i := 60) (by decide +kernel), List.mem_of_getElem? (i := 354) (by decide +kernel), List.mem_of_getElem? (i := 355) (by decide +kernel)⟩
theorem lw_p6 : lw_okq (⟨"TownFolk", "isHere", "(I)Z"⟩, 17) := ⟨⟨by decide +kernel, by decide +kernel⟩, List.mem_of_getElem? (i := 19) (by decide +kernel), List.mem_of_getElem? (i := 366) (by decide +kernel), List.mem_of_getElem? (i := 367) (by decide +kernel)⟩
theorem lw_p7 : lw_okq (⟨"TownFolk", "refusalOfRow", "(I)I"⟩, 17) := ⟨⟨by decide +kernel, by decide +kernel⟩, List.mem_of_getElem? (i := 19) (by decide +kernel), List.mem_of_getElem? (i := 392) (by decide +kernel), List.mem_of_getElem? (i := 393) (by decide +kernel)⟩
theorem lw_p8 : lw_okq (⟨"TownFolk", "areAllHere", "(I)Z"⟩, 17) := ⟨⟨by decide +kernel, by decide +kernel⟩, List.mem_of_getElem? (i := 19) (by decide +kernel), List.mem_of_getElem? (i := 460) (by decide +kernel), List.mem_of_getElem? (i := 461) (by decide +kernel)⟩
theorem lw_p9 : lw_okq (⟨"TownFolk", "beginDay", "()I"⟩, 17) := ⟨⟨by decide +kernel, by decide +kernel⟩, List.mem_of_getElem? (i := 19) (by decide +kernel), List.mem_of_getElem? (i := 473) (by decide +kernel), List.mem_of_getElem? (i := 474) (by decide +kernel)⟩
theorem lw_p10 : lw_okq (⟨"TownFolk", "replan", "(I)I"⟩, 17) := ⟨⟨by decide +kernel, by decide +kernel⟩, List.mem_of_getElem? (i := 19) (by decide +kernel), List.mem_of_getElem? (i := 490) (by decide +kernel), List.mem_of_getElem? (i := 491) (by decide +kernel)⟩
theorem lw_p11 : lw_okq (⟨"TownFolk$Seats", "add", "([III)V"⟩, 1) := ⟨⟨by decide +kernel, by decide +kernel⟩, List.mem_of_getElem? (i := 99) (by decide +kernel), List.mem_of_getElem? (i := 498) (by decide +kernel), List.mem_of_getElem? (i := 499) (by decide +kernel)⟩
theorem lw_p12 : lw_okq (⟨"TownFolk$Planner", "stay", "(LTownFolk$Resident;IIZ)V"⟩, 5) := ⟨⟨by decide +kernel, by decide +kernel⟩, List.mem_of_getElem? (i := 109) (by decide +kernel), List.mem_of_getElem? (i := 546) (by decide +kernel), List.mem_of_getElem? (i := 547) (by decide +kernel)⟩
theorem lw_p13 : lw_okq (⟨"TownFolk$Planner", "goOn", "(LTownFolk$Town;II)V"⟩, 5) := ⟨⟨by decide +kernel, by decide +kernel⟩, List.mem_of_getElem? (i := 109) (by decide +kernel), List.mem_of_getElem? (i := 550) (by decide +kernel), List.mem_of_getElem? (i := 551) (by decide +kernel)⟩
theorem lw_p14 : lw_okq (⟨"TownFolk$Planner", "costOfWay", "(III)I"⟩, 5) := ⟨⟨by decide +kernel, by decide +kernel⟩, List.mem_of_getElem? (i := 109) (by decide +kernel), List.mem_of_getElem? (i := 558) (by decide +kernel), List.mem_of_getElem? (i := 559) (by decide +kernel)⟩
theorem lw_p15 : lw_okq (⟨"TownFolk", "moment", "()I"⟩, 17) := ⟨⟨by decide +kernel, by decide +kernel⟩, List.mem_of_getElem? (i := 19) (by decide +kernel), List.mem_of_getElem? (i := 577) (by decide +kernel), List.mem_of_getElem? (i := 578) (by decide +kernel)⟩
def lw_privs_1 : List (MethodName × Nat) := [(⟨"TownFolk", "wasEver", "(I)Z"⟩, 17), (⟨"TownFolk", "countHere", "()I"⟩, 17), (⟨"TownFolk", "countBent", "()I"⟩, 17), (⟨"TownFolk", "refusalsOf", "(I)I"⟩, 17), (⟨"TownFolk", "refuse", "(I)I"⟩, 17), (⟨"TownFolk$Town", "shorten", "(IIIII)V"⟩, 7), (⟨"TownFolk", "isHere", "(I)Z"⟩, 17), (⟨"TownFolk", "refusalOfRow", "(I)I"⟩, 17), (⟨"TownFolk", "areAllHere", "(I)Z"⟩, 17), (⟨"TownFolk", "beginDay", "()I"⟩, 17), (⟨"TownFolk", "replan", "(I)I"⟩, 17), (⟨"TownFolk$Seats", "add", "([III)V"⟩, 1), (⟨"TownFolk$Planner", "stay", "(LTownFolk$Resident;IIZ)V"⟩, 5), (⟨"TownFolk$Planner", "goOn", "(LTownFolk$Town;II)V"⟩, 5), (⟨"TownFolk$Planner", "costOfWay", "(III)I"⟩, 5), (⟨"TownFolk", "moment", "()I"⟩, 17)]
theorem lw_r1 : ∀ q ∈ lw_privs_1, lw_okq q := List.forall_mem_cons.mpr ⟨lw_p0, List.forall_mem_cons.mpr ⟨lw_p1, List.forall_mem_cons.mpr ⟨lw_p2, List.forall_mem_cons.mpr ⟨lw_p3, List.forall_mem_cons.mpr ⟨lw_p4, List.forall_mem_cons.mpr ⟨lw_p5, List.forall_mem_cons.mpr ⟨lw_p6, List.forall_mem_cons.mpr ⟨lw_p7, List.forall_mem_cons.mpr ⟨lw_p8, List.forall_mem_cons.mpr ⟨lw_p9, List.forall_mem_cons.mpr ⟨lw_p10, List.forall_mem_cons.mpr ⟨lw_p11, List.forall_mem_cons.mpr ⟨lw_p12, List.forall_mem_cons.mpr ⟨lw_p13, List.forall_mem_cons.mpr ⟨lw_p14, List.forall_mem_cons.mpr ⟨lw_p15, fun _ h => absurd h List.not_mem_nil⟩⟩⟩⟩⟩⟩⟩⟩⟩⟩⟩⟩⟩⟩⟩⟩
theorem lw_p16 : lw_okq (⟨"TownFolk", "liveTick", "()V"⟩, 17) := ⟨⟨by decide +kernel, by decide +kernel⟩, List.mem_of_getElem? (i := 19) (by decide +kernel), List.mem_of_getElem? (i := 581) (by decide +kernel), List.mem_of_getElem? (i := 582) (by decide +kernel)⟩
theorem lw_p17 : lw_okq (⟨"TownFolk", "tellFacts", "()V"⟩, 17) := ⟨⟨by decide +kernel, by decide +kernel⟩, List.mem_of_getElem? (i := 19) (by decide +kernel), List.mem_of_getElem? (i := 585) (by decide +kernel), List.mem_of_getElem? (i := 586) (by decide +kernel)⟩
theorem lw_p18 : lw_okq (⟨"TownFolk", "replanThoseDueIn", "(I)I"⟩, 17) := ⟨⟨by decide +kernel, by decide +kernel⟩, List.mem_of_getElem? (i := 19) (by decide +kernel), List.mem_of_getElem? (i := 612) (by decide +kernel), List.mem_of_getElem? (i := 613) (by decide +kernel)⟩
def lw_privs_2 : List (MethodName × Nat) := [(⟨"TownFolk", "liveTick", "()V"⟩, 17), (⟨"TownFolk", "tellFacts", "()V"⟩, 17), (⟨"TownFolk", "replanThoseDueIn", "(I)I"⟩, 17)]
theorem lw_r2 : ∀ q ∈ lw_privs_2, lw_okq q := List.forall_mem_cons.mpr ⟨lw_p16, List.forall_mem_cons.mpr ⟨lw_p17, List.forall_mem_cons.mpr ⟨lw_p18, fun _ h => absurd h List.not_mem_nil⟩⟩⟩
def lw_privs : List (MethodName × Nat) := lw_privs_1 ++ (lw_privs_2)
def lw_tbl : List Cond := k2_sels lw_privs ++ tables_1
theorem lw_privs_ok : ∀ q ∈ lw_privs, lw_okq q := by
  show ∀ q ∈ lw_privs_1 ++ (lw_privs_2), lw_okq q
  exact List.forall_mem_append.mpr ⟨lw_r1, lw_r2⟩
def RX0 : String := "TownFolk$DutyCheck"
def TX0 : u_T := fun k => match k with
  | 0 => ("TownFolk$DutyCheck", "found", "I", false)
  | _ => ("TownFolk$DutyCheck", "number", "I", false)
def tyX0 : Nat → FieldType := fun k => match k with
  | 0 => .int
  | _ => .int
theorem nmX0 : ∀ a, a < 2 → ∀ b, b < 2 → a ≠ b → (TX0 a).2.1 ≠ (TX0 b).2.1 := by decide +kernel
theorem tyX0_ok : ∀ k, k < 2 → parseFieldDescriptor (TX0 k).2.2.1 = some (tyX0 k) := by decide +kernel
abbrev cX0_init : ByteArray := prog_2_method_1_code
def yX0_init : MethodName := ⟨RX0, "<init>", "()V"⟩
abbrev cX0_examine : ByteArray := prog_2_method_2_code
def yX0_examine : MethodName := ⟨RX0, "examine", "(LTownFolk$Shelf;LTownFolk$Town;)V"⟩
abbrev cX0_placeOf : ByteArray := prog_2_method_3_code
def yX0_placeOf : MethodName := ⟨RX0, "placeOf", "(LTownFolk$Shelf;I)I"⟩
abbrev cX0_startOf : ByteArray := prog_2_method_4_code
def yX0_startOf : MethodName := ⟨RX0, "startOf", "(LTownFolk$Shelf;I)I"⟩
abbrev cX0_endOf : ByteArray := prog_2_method_5_code
def yX0_endOf : MethodName := ⟨RX0, "endOf", "(LTownFolk$Shelf;I)I"⟩
abbrev cX0_faultOf : ByteArray := prog_2_method_6_code
def yX0_faultOf : MethodName := ⟨RX0, "faultOf", "(LTownFolk$Shelf;ILTownFolk$Town;)I"⟩
abbrev cX0_meetsEarlier : ByteArray := prog_2_method_7_code
def yX0_meetsEarlier : MethodName := ⟨RX0, "meetsEarlier", "(LTownFolk$Shelf;I)Z"⟩
abbrev cX0_isReachable : ByteArray := prog_2_method_8_code
def yX0_isReachable : MethodName := ⟨RX0, "isReachable", "(LTownFolk$Shelf;ILTownFolk$Town;)Z"⟩
abbrev cX0_isInTime : ByteArray := prog_2_method_9_code
def yX0_isInTime : MethodName := ⟨RX0, "isInTime", "(LTownFolk$Shelf;IILTownFolk$Town;)Z"⟩
def RX1 : String := "TownFolk$Gathering"
def TX1 : u_T := fun k => match k with
  | 0 => ("TownFolk$Gathering", "members", "I", false)
  | 1 => ("TownFolk$Gathering", "place", "I", false)
  | 2 => ("TownFolk$Gathering", "from", "I", false)
  | 3 => ("TownFolk$Gathering", "to", "I", false)
  | 4 => ("TownFolk$Gathering", "weight", "I", false)
  | 5 => ("TownFolk$Gathering", "ticksToday", "I", false)
  | 6 => ("TownFolk$Gathering", "ticksEver", "I", false)
  | _ => ("TownFolk$Gathering", "seenToday", "I", false)
def tyX1 : Nat → FieldType := fun k => match k with
  | 0 => .int
  | 1 => .int
  | 2 => .int
  | 3 => .int
  | 4 => .int
  | 5 => .int
  | 6 => .int
  | _ => .int
theorem nmX1 : ∀ a, a < 8 → ∀ b, b < 8 → a ≠ b → (TX1 a).2.1 ≠ (TX1 b).2.1 := by decide +kernel
theorem tyX1_ok : ∀ k, k < 8 → parseFieldDescriptor (TX1 k).2.2.1 = some (tyX1 k) := by decide +kernel
abbrev cX1_init : ByteArray := prog_3_method_1_code
def yX1_init : MethodName := ⟨RX1, "<init>", "()V"⟩
abbrev cX1_arrange : ByteArray := prog_3_method_2_code
def yX1_arrange : MethodName := ⟨RX1, "arrange", "(IIIII)V"⟩
abbrev cX1_isOf : ByteArray := prog_3_method_3_code
def yX1_isOf : MethodName := ⟨RX1, "isOf", "(I)Z"⟩
abbrev cX1_beginDay : ByteArray := prog_3_method_4_code
def yX1_beginDay : MethodName := ⟨RX1, "beginDay", "()V"⟩
abbrev cX1_live : ByteArray := prog_3_method_5_code
def yX1_live : MethodName := ⟨RX1, "live", "([LTownFolk$Resident;I)V"⟩
def RX2 : String := "TownFolk$Planner"
def TX2 : u_T := fun k => match k with
  | 0 => ("TownFolk$Planner", "claimed", "[I", true)
  | 1 => ("TownFolk$Planner", "spared", "[I", true)
  | 2 => ("TownFolk$Planner", "onWays", "[I", true)
  | 3 => ("TownFolk$Planner", "least", "[I", true)
  | _ => ("TownFolk$Planner", "choice", "[I", true)
def tyX2 : Nat → FieldType := fun k => match k with
  | 0 => .array .int
  | 1 => .array .int
  | 2 => .array .int
  | 3 => .array .int
  | _ => .array .int
theorem nmX2 : ∀ a, a < 5 → ∀ b, b < 5 → a ≠ b → (TX2 a).2.1 ≠ (TX2 b).2.1 := by decide +kernel
theorem tyX2_ok : ∀ k, k < 5 → parseFieldDescriptor (TX2 k).2.2.1 = some (tyX2 k) := by decide +kernel
abbrev cX2_init : ByteArray := prog_4_method_1_code
def yX2_init : MethodName := ⟨RX2, "<init>", "()V"⟩
abbrev cX2_weigh : ByteArray := prog_4_method_2_code
def yX2_weigh : MethodName := ⟨RX2, "weigh", "(LTownFolk$Resident;)V"⟩
abbrev cX2_claim : ByteArray := prog_4_method_3_code
def yX2_claim : MethodName := ⟨RX2, "claim", "(IIII)V"⟩
abbrev cX2_search : ByteArray := prog_4_method_4_code
def yX2_search : MethodName := ⟨RX2, "search", "(LTownFolk$Resident;LTownFolk$Town;LTownFolk$Seats;II)V"⟩
abbrev cX2_mayBeIn : ByteArray := prog_4_method_5_code
def yX2_mayBeIn : MethodName := ⟨RX2, "mayBeIn", "(LTownFolk$Resident;IILTownFolk$Town;LTownFolk$Seats;I)Z"⟩
abbrev cX2_stay : ByteArray := prog_4_method_6_code
def yX2_stay : MethodName := ⟨RX2, "stay", "(LTownFolk$Resident;IIZ)V"⟩
abbrev cX2_goOn : ByteArray := prog_4_method_7_code
def yX2_goOn : MethodName := ⟨RX2, "goOn", "(LTownFolk$Town;II)V"⟩
abbrev cX2_costOfWay : ByteArray := prog_4_method_8_code
def yX2_costOfWay : MethodName := ⟨RX2, "costOfWay", "(III)I"⟩
abbrev cX2_write : ByteArray := prog_4_method_9_code
def yX2_write : MethodName := ⟨RX2, "write", "(LTownFolk$Resident;LTownFolk$Town;III)I"⟩
def RX3 : String := "TownFolk$Resident"
def TX3 : u_T := fun k => match k with
  | 0 => ("TownFolk$Resident", "likings", "[I", true)
  | 1 => ("TownFolk$Resident", "duty", "[I", true)
  | 2 => ("TownFolk$Resident", "plan", "[I", true)
  | 3 => ("TownFolk$Resident", "learned", "[I", true)
  | 4 => ("TownFolk$Resident", "home", "I", false)
  | 5 => ("TownFolk$Resident", "keys", "I", false)
  | 6 => ("TownFolk$Resident", "dutyCells", "I", false)
  | 7 => ("TownFolk$Resident", "bendPlace", "I", false)
  | 8 => ("TownFolk$Resident", "bendFrom", "I", false)
  | 9 => ("TownFolk$Resident", "bendTo", "I", false)
  | 10 => ("TownFolk$Resident", "planCost", "I", false)
  | 11 => ("TownFolk$Resident", "known", "I", false)
  | 12 => ("TownFolk$Resident", "bent", "Z", false)
  | _ => ("TownFolk$Resident", "left", "Z", false)
def tyX3 : Nat → FieldType := fun k => match k with
  | 0 => .array .int
  | 1 => .array .int
  | 2 => .array .int
  | 3 => .array .int
  | 4 => .int
  | 5 => .int
  | 6 => .int
  | 7 => .int
  | 8 => .int
  | 9 => .int
  | 10 => .int
  | 11 => .int
  | 12 => .boolean
  | _ => .boolean
theorem nmX3 : ∀ a, a < 14 → ∀ b, b < 14 → a ≠ b → (TX3 a).2.1 ≠ (TX3 b).2.1 := by decide +kernel
theorem tyX3_ok : ∀ k, k < 14 → parseFieldDescriptor (TX3 k).2.2.1 = some (tyX3 k) := by decide +kernel
abbrev cX3_init : ByteArray := prog_5_method_1_code
def yX3_init : MethodName := ⟨RX3, "<init>", "()V"⟩
abbrev cX3_takeDuties : ByteArray := prog_5_method_2_code
def yX3_takeDuties : MethodName := ⟨RX3, "takeDuties", "(LTownFolk$Shelf;)I"⟩
abbrev cX3_hasKey : ByteArray := prog_5_method_4_code
def yX3_hasKey : MethodName := ⟨RX3, "hasKey", "(I)Z"⟩
abbrev cX3_beginDay : ByteArray := prog_5_method_5_code
def yX3_beginDay : MethodName := ⟨RX3, "beginDay", "()V"⟩
abbrev cX3_takeBend : ByteArray := prog_5_method_6_code
def yX3_takeBend : MethodName := ⟨RX3, "takeBend", "(III)V"⟩
abbrev cX3_leave : ByteArray := prog_5_method_7_code
def yX3_leave : MethodName := ⟨RX3, "leave", "(I)V"⟩
abbrev cX3_isDueIn : ByteArray := prog_5_method_8_code
def yX3_isDueIn : MethodName := ⟨RX3, "isDueIn", "(II)Z"⟩
abbrev cX3_freeFrom : ByteArray := prog_5_method_9_code
def yX3_freeFrom : MethodName := ⟨RX3, "freeFrom", "(I)I"⟩
abbrev cX3_standsAt : ByteArray := prog_5_method_10_code
def yX3_standsAt : MethodName := ⟨RX3, "standsAt", "(I)I"⟩
abbrev cX3_learn : ByteArray := prog_5_method_11_code
def yX3_learn : MethodName := ⟨RX3, "learn", "(II)V"⟩
def RX4 : String := "TownFolk$Seats"
def TX4 : u_T := fun k => match k with
  | _ => ("TownFolk$Seats", "count", "[I", true)
def tyX4 : Nat → FieldType := fun k => match k with
  | _ => .array .int
theorem nmX4 : ∀ a, a < 1 → ∀ b, b < 1 → a ≠ b → (TX4 a).2.1 ≠ (TX4 b).2.1 := by decide +kernel
theorem tyX4_ok : ∀ k, k < 1 → parseFieldDescriptor (TX4 k).2.2.1 = some (tyX4 k) := by decide +kernel
abbrev cX4_init : ByteArray := prog_6_method_1_code
def yX4_init : MethodName := ⟨RX4, "<init>", "()V"⟩
abbrev cX4_clear : ByteArray := prog_6_method_2_code
def yX4_clear : MethodName := ⟨RX4, "clear", "()V"⟩
abbrev cX4_taken : ByteArray := prog_6_method_3_code
def yX4_taken : MethodName := ⟨RX4, "taken", "(II)I"⟩
abbrev cX4_take : ByteArray := prog_6_method_4_code
def yX4_take : MethodName := ⟨RX4, "take", "([II)V"⟩
abbrev cX4_release : ByteArray := prog_6_method_5_code
def yX4_release : MethodName := ⟨RX4, "release", "([II)V"⟩
abbrev cX4_add : ByteArray := prog_6_method_6_code
def yX4_add : MethodName := ⟨RX4, "add", "([III)V"⟩
def RX5 : String := "TownFolk$Shelf"
def TX5 : u_T := fun k => match k with
  | 0 => ("TownFolk$Shelf", "cells", "[J", true)
  | 1 => ("TownFolk$Shelf", "person", "I", false)
  | 2 => ("TownFolk$Shelf", "sort", "I", false)
  | _ => ("TownFolk$Shelf", "size", "I", false)
def tyX5 : Nat → FieldType := fun k => match k with
  | 0 => .array .long
  | 1 => .int
  | 2 => .int
  | _ => .int
theorem nmX5 : ∀ a, a < 4 → ∀ b, b < 4 → a ≠ b → (TX5 a).2.1 ≠ (TX5 b).2.1 := by decide +kernel
theorem tyX5_ok : ∀ k, k < 4 → parseFieldDescriptor (TX5 k).2.2.1 = some (tyX5 k) := by decide +kernel
abbrev cX5_init : ByteArray := prog_7_method_1_code
def yX5_init : MethodName := ⟨RX5, "<init>", "()V"⟩
abbrev cX5_isRow : ByteArray := prog_7_method_2_code
def yX5_isRow : MethodName := ⟨RX5, "isRow", "()Z"⟩
abbrev cX5_isPerson : ByteArray := prog_7_method_3_code
def yX5_isPerson : MethodName := ⟨RX5, "isPerson", "()Z"⟩
abbrev cX5_clear : ByteArray := prog_7_method_4_code
def yX5_clear : MethodName := ⟨RX5, "clear", "()V"⟩
abbrev cX5_putRow : ByteArray := prog_7_method_6_code
def yX5_putRow : MethodName := ⟨RX5, "putRow", "(II)V"⟩
abbrev cX5_write : ByteArray := prog_7_method_9_code
def yX5_write : MethodName := ⟨RX5, "write", "(IJ)V"⟩
abbrev cX5_asInt : ByteArray := prog_7_method_10_code
def yX5_asInt : MethodName := ⟨RX5, "asInt", "(I)I"⟩
def RX6 : String := "TownFolk$Town"
def TX6 : u_T := fun k => match k with
  | 0 => ("TownFolk$Town", "seatsOf", "[I", true)
  | 1 => ("TownFolk$Town", "opens", "[I", true)
  | 2 => ("TownFolk$Town", "closes", "[I", true)
  | 3 => ("TownFolk$Town", "joined", "[I", true)
  | 4 => ("TownFolk$Town", "least", "[I", true)
  | 5 => ("TownFolk$Town", "places", "I", false)
  | _ => ("TownFolk$Town", "ways", "I", false)
def tyX6 : Nat → FieldType := fun k => match k with
  | 0 => .array .int
  | 1 => .array .int
  | 2 => .array .int
  | 3 => .array .int
  | 4 => .array .int
  | 5 => .int
  | _ => .int
theorem nmX6 : ∀ a, a < 7 → ∀ b, b < 7 → a ≠ b → (TX6 a).2.1 ≠ (TX6 b).2.1 := by decide +kernel
theorem tyX6_ok : ∀ k, k < 7 → parseFieldDescriptor (TX6 k).2.2.1 = some (tyX6 k) := by decide +kernel
abbrev cX6_init : ByteArray := prog_8_method_1_code
def yX6_init : MethodName := ⟨RX6, "<init>", "()V"⟩
abbrev cX6_has : ByteArray := prog_8_method_2_code
def yX6_has : MethodName := ⟨RX6, "has", "(I)Z"⟩
abbrev cX6_addPlace : ByteArray := prog_8_method_3_code
def yX6_addPlace : MethodName := ⟨RX6, "addPlace", "(III)I"⟩
abbrev cX6_addWay : ByteArray := prog_8_method_4_code
def yX6_addWay : MethodName := ⟨RX6, "addWay", "(III)V"⟩
abbrev cX6_shorten : ByteArray := prog_8_method_5_code
def yX6_shorten : MethodName := ⟨RX6, "shorten", "(IIIII)V"⟩
abbrev cX6_apart : ByteArray := prog_8_method_6_code
def yX6_apart : MethodName := ⟨RX6, "apart", "(II)I"⟩
abbrev cX6_isReached : ByteArray := prog_8_method_7_code
def yX6_isReached : MethodName := ⟨RX6, "isReached", "(III)Z"⟩
abbrev cX6_wayTicks : ByteArray := prog_8_method_8_code
def yX6_wayTicks : MethodName := ⟨RX6, "wayTicks", "(II)I"⟩
abbrev cX6_isOpen : ByteArray := prog_8_method_9_code
def yX6_isOpen : MethodName := ⟨RX6, "isOpen", "(II)Z"⟩
def RX7 : String := "TownFolk"
def TX7 : u_T := fun k => match k with
  | 0 => ("TownFolk", "town", "LTownFolk$Town;", true)
  | 1 => ("TownFolk", "shelves", "[LTownFolk$Shelf;", true)
  | 2 => ("TownFolk", "people", "[LTownFolk$Resident;", true)
  | 3 => ("TownFolk", "gatherings", "[LTownFolk$Gathering;", true)
  | 4 => ("TownFolk", "takenSeats", "LTownFolk$Seats;", true)
  | 5 => ("TownFolk", "planner", "LTownFolk$Planner;", true)
  | 6 => ("TownFolk", "dutyCheck", "LTownFolk$DutyCheck;", true)
  | 7 => ("TownFolk", "told", "[I", true)
  | 8 => ("TownFolk", "refusals", "[I", true)
  | 9 => ("TownFolk", "peopleEver", "I", false)
  | 10 => ("TownFolk", "gatheringCount", "I", false)
  | 11 => ("TownFolk", "factCount", "I", false)
  | 12 => ("TownFolk", "plansMade", "I", false)
  | 13 => ("TownFolk", "lockedPlaces", "I", false)
  | 14 => ("TownFolk", "now", "I", false)
  | 15 => ("TownFolk", "daysLived", "I", false)
  | _ => ("TownFolk", "begun", "Z", false)
def tyX7 : Nat → FieldType := fun k => match k with
  | 0 => .object "TownFolk$Town"
  | 1 => .array (.object "TownFolk$Shelf")
  | 2 => .array (.object "TownFolk$Resident")
  | 3 => .array (.object "TownFolk$Gathering")
  | 4 => .object "TownFolk$Seats"
  | 5 => .object "TownFolk$Planner"
  | 6 => .object "TownFolk$DutyCheck"
  | 7 => .array .int
  | 8 => .array .int
  | 9 => .int
  | 10 => .int
  | 11 => .int
  | 12 => .int
  | 13 => .int
  | 14 => .int
  | 15 => .int
  | _ => .boolean
theorem nmX7 : ∀ a, a < 17 → ∀ b, b < 17 → a ≠ b → (TX7 a).2.1 ≠ (TX7 b).2.1 := by decide +kernel
theorem tyX7_ok : ∀ k, k < 17 → parseFieldDescriptor (TX7 k).2.2.1 = some (tyX7 k) := by decide +kernel
abbrev cX7_init : ByteArray := prog_1_method_1_code
def yX7_init : MethodName := ⟨RX7, "<init>", "()V"⟩
abbrev cX7_place : ByteArray := prog_1_method_2_code
def yX7_place : MethodName := ⟨RX7, "place", "(III)I"⟩
abbrev cX7_way : ByteArray := prog_1_method_3_code
def yX7_way : MethodName := ⟨RX7, "way", "(III)I"⟩
abbrev cX7_folk : ByteArray := prog_1_method_4_code
def yX7_folk : MethodName := ⟨RX7, "folk", "(I)I"⟩
abbrev cX7_meeting : ByteArray := prog_1_method_5_code
def yX7_meeting : MethodName := ⟨RX7, "meeting", "(IIIII)I"⟩
abbrev cX7_row : ByteArray := prog_1_method_6_code
def yX7_row : MethodName := ⟨RX7, "row", "(III)I"⟩
abbrev cX7_set : ByteArray := prog_1_method_7_code
def yX7_set : MethodName := ⟨RX7, "set", "(IIJ)I"⟩
abbrev cX7_duties : ByteArray := prog_1_method_13_code
def yX7_duties : MethodName := ⟨RX7, "duties", "(II)I"⟩
abbrev cX7_key : ByteArray := prog_1_method_16_code
def yX7_key : MethodName := ⟨RX7, "key", "(IIZ)I"⟩
abbrev cX7_begin : ByteArray := prog_1_method_17_code
def yX7_begin : MethodName := ⟨RX7, "begin", "()I"⟩
abbrev cX7_tick : ByteArray := prog_1_method_18_code
def yX7_tick : MethodName := ⟨RX7, "tick", "(I)I"⟩
abbrev cX7_bend : ByteArray := prog_1_method_19_code
def yX7_bend : MethodName := ⟨RX7, "bend", "(IIII)I"⟩
abbrev cX7_lock : ByteArray := prog_1_method_20_code
def yX7_lock : MethodName := ⟨RX7, "lock", "(IZ)I"⟩
abbrev cX7_again : ByteArray := prog_1_method_21_code
def yX7_again : MethodName := ⟨RX7, "again", "(I)I"⟩
abbrev cX7_gone : ByteArray := prog_1_method_22_code
def yX7_gone : MethodName := ⟨RX7, "gone", "(I)I"⟩
abbrev cX7_happen : ByteArray := prog_1_method_23_code
def yX7_happen : MethodName := ⟨RX7, "happen", "(I)I"⟩
abbrev cX7_where : ByteArray := prog_1_method_24_code
def yX7_where : MethodName := ⟨RX7, "where", "(II)I"⟩
abbrev cX7_status : ByteArray := prog_1_method_30_code
def yX7_status : MethodName := ⟨RX7, "status", "(I)I"⟩
abbrev cX7_refuse : ByteArray := prog_1_method_31_code
def yX7_refuse : MethodName := ⟨RX7, "refuse", "(I)I"⟩
abbrev cX7_refusalsOf : ByteArray := prog_1_method_32_code
def yX7_refusalsOf : MethodName := ⟨RX7, "refusalsOf", "(I)I"⟩
abbrev cX7_refusalOfRow : ByteArray := prog_1_method_33_code
def yX7_refusalOfRow : MethodName := ⟨RX7, "refusalOfRow", "(I)I"⟩
abbrev cX7_isShelf : ByteArray := prog_1_method_34_code
def yX7_isShelf : MethodName := ⟨RX7, "isShelf", "(I)Z"⟩
abbrev cX7_isSpan : ByteArray := prog_1_method_35_code
def yX7_isSpan : MethodName := ⟨RX7, "isSpan", "(II)Z"⟩
abbrev cX7_isTick : ByteArray := prog_1_method_36_code
def yX7_isTick : MethodName := ⟨RX7, "isTick", "(I)Z"⟩
abbrev cX7_isWeight : ByteArray := prog_1_method_37_code
def yX7_isWeight : MethodName := ⟨RX7, "isWeight", "(I)Z"⟩
abbrev cX7_wasEver : ByteArray := prog_1_method_38_code
def yX7_wasEver : MethodName := ⟨RX7, "wasEver", "(I)Z"⟩
abbrev cX7_isHere : ByteArray := prog_1_method_39_code
def yX7_isHere : MethodName := ⟨RX7, "isHere", "(I)Z"⟩
abbrev cX7_areAllHere : ByteArray := prog_1_method_40_code
def yX7_areAllHere : MethodName := ⟨RX7, "areAllHere", "(I)Z"⟩
abbrev cX7_countHere : ByteArray := prog_1_method_41_code
def yX7_countHere : MethodName := ⟨RX7, "countHere", "()I"⟩
abbrev cX7_countBent : ByteArray := prog_1_method_42_code
def yX7_countBent : MethodName := ⟨RX7, "countBent", "()I"⟩
abbrev cX7_moment : ByteArray := prog_1_method_43_code
def yX7_moment : MethodName := ⟨RX7, "moment", "()I"⟩
abbrev cX7_beginDay : ByteArray := prog_1_method_44_code
def yX7_beginDay : MethodName := ⟨RX7, "beginDay", "()I"⟩
abbrev cX7_liveTick : ByteArray := prog_1_method_45_code
def yX7_liveTick : MethodName := ⟨RX7, "liveTick", "()V"⟩
abbrev cX7_tellFacts : ByteArray := prog_1_method_46_code
def yX7_tellFacts : MethodName := ⟨RX7, "tellFacts", "()V"⟩
abbrev cX7_isIn : ByteArray := prog_1_method_47_code
def yX7_isIn : MethodName := ⟨RX7, "isIn", "(I)Z"⟩
abbrev cX7_replanThoseDueIn : ByteArray := prog_1_method_48_code
def yX7_replanThoseDueIn : MethodName := ⟨RX7, "replanThoseDueIn", "(I)I"⟩
abbrev cX7_replan : ByteArray := prog_1_method_49_code
def yX7_replan : MethodName := ⟨RX7, "replan", "(I)I"⟩
def RX8 : String := "TownFolkModel"
def TX8 : u_T := fun k => match k with
  | _ => ("", "", "", false)
def tyX8 : Nat → FieldType := fun k => match k with
  | _ => .int
theorem nmX8 : ∀ a, a < 0 → ∀ b, b < 0 → a ≠ b → (TX8 a).2.1 ≠ (TX8 b).2.1 := by decide +kernel
theorem tyX8_ok : ∀ k, k < 0 → parseFieldDescriptor (TX8 k).2.2.1 = some (tyX8 k) := by decide +kernel
def RJ6 : String := "java/lang/Integer"
abbrev cJ6_bitCount_0f7a4 : ByteArray := prog_11_method_49_code
def yJ6_bitCount_0f7a4 : MethodName := ⟨RJ6, "bitCount", "(I)I"⟩
def RJ9 : String := "java/lang/Math"
abbrev cJ9_min_7cf53 : ByteArray := prog_12_method_69_code
def yJ9_min_7cf53 : MethodName := ⟨RJ9, "min", "(II)I"⟩
def RJ7 : String := "java/util/Arrays"
abbrev cJ7_fill_d0a16 : ByteArray := prog_13_method_101_code
def yJ7_fill_d0a16 : MethodName := ⟨RJ7, "fill", "([JJ)V"⟩
abbrev cJ7_fill_53178 : ByteArray := prog_13_method_103_code
def yJ7_fill_53178 : MethodName := ⟨RJ7, "fill", "([II)V"⟩
def RL : String := "TownFolkLaw"
abbrev cL_at : ByteArray := method_2_code
def yL_at : MethodName := ⟨RL, "at", "([II)I"⟩
abbrev cL_build : ByteArray := method_3_code
def yL_build : MethodName := ⟨RL, "build", "([I)LTownFolk;"⟩
abbrev cL_acts : ByteArray := method_4_code
def yL_acts : MethodName := ⟨RL, "acts", "(LTownFolk;I)V"⟩
abbrev cL_law : ByteArray := code
def yL_law : MethodName := ⟨RL, "law", "([I)Z"⟩
abbrev vwCl : List vw_C := [(RX0, TX0, 2), (RX1, TX1, 8), (RX2, TX2, 5), (RX3, TX3, 14), (RX4, TX4, 1), (RX5, TX5, 4), (RX6, TX6, 7), (RX7, TX7, 17)]
/-- the words that stay when the machine warms up -/
def TB : List Cond := lw_tbl.filter goodWord
theorem tb_0 {w : Cond} (h : w ∈ tables_1) (g : goodWord w = true) : w ∈ TB := List.mem_filter.mpr ⟨List.mem_append_right _ h, g⟩
theorem tb_1 {w : Cond} (i : Nat) (h : tables_1_1[i]? = some w) (g : goodWord w = true) : w ∈ TB := tb_0 (List.mem_append_left _ (List.mem_of_getElem? h)) g
theorem tb_2 {w : Cond} (i : Nat) (h : tables_1_2[i]? = some w) (g : goodWord w = true) : w ∈ TB := tb_0 (List.mem_append_right _ (List.mem_append_left _ (List.mem_of_getElem? h))) g
theorem tb_3 {w : Cond} (i : Nat) (h : tables_1_3[i]? = some w) (g : goodWord w = true) : w ∈ TB := tb_0 (List.mem_append_right _ (List.mem_append_right _ (List.mem_of_getElem? h))) g
theorem tbs_1 (y : MethodName) (n i : Nat) (h : lw_privs_1[i]? = some (y, n)) : Cond.selects y.cls y y ∈ TB := List.mem_filter.mpr ⟨List.mem_append_left _ (List.mem_map.mpr ⟨(y, n), (List.mem_append_left _ (List.mem_of_getElem? h) : (y, n) ∈ lw_privs), rfl⟩), rfl⟩
theorem tbs_2 (y : MethodName) (n i : Nat) (h : lw_privs_2[i]? = some (y, n)) : Cond.selects y.cls y y ∈ TB := List.mem_filter.mpr ⟨List.mem_append_left _ (List.mem_map.mpr ⟨(y, n), (List.mem_append_right _ (List.mem_of_getElem? h) : (y, n) ∈ lw_privs), rfl⟩), rfl⟩
theorem tb_hts {args : Array Value} {s : State} (h : ∀ w ∈ lw_tbl, w.before args s = true) : ∀ w ∈ TB, w.before args s = true := fun w hw => h w (List.mem_filter.mp hw).1
theorem tb_good : GoodIn TB TB := fun w hw => ⟨hw, good_of_word (List.mem_filter.mp hw).2⟩
theorem inX0 : ∀ w ∈ u_ws RX0 TX0 2, w ∈ TB := by
  show ∀ w ∈ [u_lay RX0 TX0 0, u_lay RX0 TX0 1], w ∈ TB
  exact List.forall_mem_cons.mpr ⟨tb_1 139 (by decide +kernel) (by decide +kernel), List.forall_mem_cons.mpr ⟨tb_1 141 (by decide +kernel) (by decide +kernel), fun _ h => absurd h List.not_mem_nil⟩⟩
theorem inX1 : ∀ w ∈ u_ws RX1 TX1 8, w ∈ TB := by
  show ∀ w ∈ [u_lay RX1 TX1 0, u_lay RX1 TX1 1, u_lay RX1 TX1 2, u_lay RX1 TX1 3, u_lay RX1 TX1 4, u_lay RX1 TX1 5, u_lay RX1 TX1 6, u_lay RX1 TX1 7], w ∈ TB
  exact List.forall_mem_cons.mpr ⟨tb_2 10 (by decide +kernel) (by decide +kernel), List.forall_mem_cons.mpr ⟨tb_2 12 (by decide +kernel) (by decide +kernel), List.forall_mem_cons.mpr ⟨tb_2 14 (by decide +kernel) (by decide +kernel), List.forall_mem_cons.mpr ⟨tb_2 16 (by decide +kernel) (by decide +kernel), List.forall_mem_cons.mpr ⟨tb_2 18 (by decide +kernel) (by decide +kernel), List.forall_mem_cons.mpr ⟨tb_2 20 (by decide +kernel) (by decide +kernel), List.forall_mem_cons.mpr ⟨tb_2 22 (by decide +kernel) (by decide +kernel), List.forall_mem_cons.mpr ⟨tb_2 24 (by decide +kernel) (by decide +kernel), fun _ h => absurd h List.not_mem_nil⟩⟩⟩⟩⟩⟩⟩⟩
theorem inX2 : ∀ w ∈ u_ws RX2 TX2 5, w ∈ TB := by
  show ∀ w ∈ [u_lay RX2 TX2 0, u_lay RX2 TX2 1, u_lay RX2 TX2 2, u_lay RX2 TX2 3, u_lay RX2 TX2 4], w ∈ TB
  exact List.forall_mem_cons.mpr ⟨tb_1 119 (by decide +kernel) (by decide +kernel), List.forall_mem_cons.mpr ⟨tb_1 121 (by decide +kernel) (by decide +kernel), List.forall_mem_cons.mpr ⟨tb_1 123 (by decide +kernel) (by decide +kernel), List.forall_mem_cons.mpr ⟨tb_1 125 (by decide +kernel) (by decide +kernel), List.forall_mem_cons.mpr ⟨tb_1 127 (by decide +kernel) (by decide +kernel), fun _ h => absurd h List.not_mem_nil⟩⟩⟩⟩⟩
theorem inX3 : ∀ w ∈ u_ws RX3 TX3 14, w ∈ TB := by
  show ∀ w ∈ [u_lay RX3 TX3 0, u_lay RX3 TX3 1, u_lay RX3 TX3 2, u_lay RX3 TX3 3, u_lay RX3 TX3 4, u_lay RX3 TX3 5, u_lay RX3 TX3 6, u_lay RX3 TX3 7, u_lay RX3 TX3 8, u_lay RX3 TX3 9, u_lay RX3 TX3 10, u_lay RX3 TX3 11, u_lay RX3 TX3 12, u_lay RX3 TX3 13], w ∈ TB
  exact List.forall_mem_cons.mpr ⟨tb_1 204 (by decide +kernel) (by decide +kernel), List.forall_mem_cons.mpr ⟨tb_1 206 (by decide +kernel) (by decide +kernel), List.forall_mem_cons.mpr ⟨tb_1 208 (by decide +kernel) (by decide +kernel), List.forall_mem_cons.mpr ⟨tb_1 210 (by decide +kernel) (by decide +kernel), List.forall_mem_cons.mpr ⟨tb_1 212 (by decide +kernel) (by decide +kernel), List.forall_mem_cons.mpr ⟨tb_1 214 (by decide +kernel) (by decide +kernel), List.forall_mem_cons.mpr ⟨tb_1 216 (by decide +kernel) (by decide +kernel), List.forall_mem_cons.mpr ⟨tb_1 218 (by decide +kernel) (by decide +kernel), List.forall_mem_cons.mpr ⟨tb_1 220 (by decide +kernel) (by decide +kernel), List.forall_mem_cons.mpr ⟨tb_1 222 (by decide +kernel) (by decide +kernel), List.forall_mem_cons.mpr ⟨tb_1 224 (by decide +kernel) (by decide +kernel), List.forall_mem_cons.mpr ⟨tb_1 226 (by decide +kernel) (by decide +kernel), List.forall_mem_cons.mpr ⟨tb_1 228 (by decide +kernel) (by decide +kernel), List.forall_mem_cons.mpr ⟨tb_1 230 (by decide +kernel) (by decide +kernel), fun _ h => absurd h List.not_mem_nil⟩⟩⟩⟩⟩⟩⟩⟩⟩⟩⟩⟩⟩⟩
theorem inX4 : ∀ w ∈ u_ws RX4 TX4 1, w ∈ TB := by
  show ∀ w ∈ [u_lay RX4 TX4 0], w ∈ TB
  exact List.forall_mem_cons.mpr ⟨tb_1 105 (by decide +kernel) (by decide +kernel), fun _ h => absurd h List.not_mem_nil⟩
theorem inX5 : ∀ w ∈ u_ws RX5 TX5 4, w ∈ TB := by
  show ∀ w ∈ [u_lay RX5 TX5 0, u_lay RX5 TX5 1, u_lay RX5 TX5 2, u_lay RX5 TX5 3], w ∈ TB
  exact List.forall_mem_cons.mpr ⟨tb_1 156 (by decide +kernel) (by decide +kernel), List.forall_mem_cons.mpr ⟨tb_1 158 (by decide +kernel) (by decide +kernel), List.forall_mem_cons.mpr ⟨tb_1 160 (by decide +kernel) (by decide +kernel), List.forall_mem_cons.mpr ⟨tb_1 162 (by decide +kernel) (by decide +kernel), fun _ h => absurd h List.not_mem_nil⟩⟩⟩⟩
theorem inX6 : ∀ w ∈ u_ws RX6 TX6 7, w ∈ TB := by
  show ∀ w ∈ [u_lay RX6 TX6 0, u_lay RX6 TX6 1, u_lay RX6 TX6 2, u_lay RX6 TX6 3, u_lay RX6 TX6 4, u_lay RX6 TX6 5, u_lay RX6 TX6 6], w ∈ TB
  exact List.forall_mem_cons.mpr ⟨tb_1 76 (by decide +kernel) (by decide +kernel), List.forall_mem_cons.mpr ⟨tb_1 78 (by decide +kernel) (by decide +kernel), List.forall_mem_cons.mpr ⟨tb_1 80 (by decide +kernel) (by decide +kernel), List.forall_mem_cons.mpr ⟨tb_1 82 (by decide +kernel) (by decide +kernel), List.forall_mem_cons.mpr ⟨tb_1 84 (by decide +kernel) (by decide +kernel), List.forall_mem_cons.mpr ⟨tb_1 86 (by decide +kernel) (by decide +kernel), List.forall_mem_cons.mpr ⟨tb_1 88 (by decide +kernel) (by decide +kernel), fun _ h => absurd h List.not_mem_nil⟩⟩⟩⟩⟩⟩⟩
theorem inX7 : ∀ w ∈ u_ws RX7 TX7 17, w ∈ TB := by
  show ∀ w ∈ [u_lay RX7 TX7 0, u_lay RX7 TX7 1, u_lay RX7 TX7 2, u_lay RX7 TX7 3, u_lay RX7 TX7 4, u_lay RX7 TX7 5, u_lay RX7 TX7 6, u_lay RX7 TX7 7, u_lay RX7 TX7 8, u_lay RX7 TX7 9, u_lay RX7 TX7 10, u_lay RX7 TX7 11, u_lay RX7 TX7 12, u_lay RX7 TX7 13, u_lay RX7 TX7 14, u_lay RX7 TX7 15, u_lay RX7 TX7 16], w ∈ TB
  exact List.forall_mem_cons.mpr ⟨tb_2 44 (by decide +kernel) (by decide +kernel), List.forall_mem_cons.mpr ⟨tb_2 46 (by decide +kernel) (by decide +kernel), List.forall_mem_cons.mpr ⟨tb_2 48 (by decide +kernel) (by decide +kernel), List.forall_mem_cons.mpr ⟨tb_2 50 (by decide +kernel) (by decide +kernel), List.forall_mem_cons.mpr ⟨tb_2 52 (by decide +kernel) (by decide +kernel), List.forall_mem_cons.mpr ⟨tb_2 54 (by decide +kernel) (by decide +kernel), List.forall_mem_cons.mpr ⟨tb_2 56 (by decide +kernel) (by decide +kernel), List.forall_mem_cons.mpr ⟨tb_2 58 (by decide +kernel) (by decide +kernel), List.forall_mem_cons.mpr ⟨tb_2 60 (by decide +kernel) (by decide +kernel), List.forall_mem_cons.mpr ⟨tb_2 62 (by decide +kernel) (by decide +kernel), List.forall_mem_cons.mpr ⟨tb_2 64 (by decide +kernel) (by decide +kernel), List.forall_mem_cons.mpr ⟨tb_2 66 (by decide +kernel) (by decide +kernel), List.forall_mem_cons.mpr ⟨tb_2 68 (by decide +kernel) (by decide +kernel), List.forall_mem_cons.mpr ⟨tb_2 70 (by decide +kernel) (by decide +kernel), List.forall_mem_cons.mpr ⟨tb_2 72 (by decide +kernel) (by decide +kernel), List.forall_mem_cons.mpr ⟨tb_2 74 (by decide +kernel) (by decide +kernel), List.forall_mem_cons.mpr ⟨tb_2 76 (by decide +kernel) (by decide +kernel), fun _ h => absurd h List.not_mem_nil⟩⟩⟩⟩⟩⟩⟩⟩⟩⟩⟩⟩⟩⟩⟩⟩⟩
