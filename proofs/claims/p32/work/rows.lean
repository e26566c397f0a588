section
-- ===== PART A: goes FIRST, ahead of the names: the tables' words, and 'selects' of the private methods out of them =====
/-- a private method of a class that the tables say can be made, by its rows of tables_1 -/
def lw_okq (q : MethodName × Nat) : Prop := (q.1.cls ≠ "java/lang/invoke/MethodHandle" ∧ q.1.cls ≠ "java/lang/invoke/VarHandle") ∧ Cond.instantiable q.1.cls q.2 ∈ tables_1 ∧ Cond.privateMethod q.1 ∈ tables_1 ∧ Cond.instanceMethod q.1 ∈ tables_1
theorem lw_p0 : lw_okq (⟨"TownFolk", "wasEver", "(I)Z"⟩, 17) := ⟨⟨by decide +kernel, by decide +kernel⟩, List.mem_of_getElem? (i := 19) (by decide +kernel), List.mem_of_getElem? (i := 17) (by decide +kernel), List.mem_of_getElem? (i := 18) (by decide +kernel)⟩
theorem lw_p1 : lw_okq (⟨"TownFolk", "countHere", "()I"⟩, 17) := ⟨⟨by decide +kernel, by decide +kernel⟩, List.mem_of_getElem? (i := 19) (by decide +kernel), List.mem_of_getElem? (i := 29) (by decide +kernel), List.mem_of_getElem? (i := 30) (by decide +kernel)⟩
theorem lw_p2 : lw_okq (⟨"TownFolk", "countBent", "()I"⟩, 17) := ⟨⟨by decide +kernel, by decide +kernel⟩, List.mem_of_getElem? (i := 19) (by decide +kernel), List.mem_of_getElem? (i := 33) (by decide +kernel), List.mem_of_getElem? (i := 34) (by decide +kernel)⟩
theorem lw_p3 : lw_okq (⟨"TownFolk", "refusalsOf", "(I)I"⟩, 17) := ⟨⟨by decide +kernel, by decide +kernel⟩, List.mem_of_getElem? (i := 19) (by decide +kernel), List.mem_of_getElem? (i := 43) (by decide +kernel), List.mem_of_getElem? (i := 44) (by decide +kernel)⟩
theorem lw_p4 : lw_okq (⟨"TownFolk", "refuse", "(I)I"⟩, 17) := ⟨⟨by decide +kernel, by decide +kernel⟩, List.mem_of_getElem? (i := 19) (by decide +kernel), List.mem_of_getElem? (i := 330) (by decide +kernel), List.mem_of_getElem? (i := 331) (by decide +kernel)⟩
theorem lw_p5 : lw_okq (⟨"TownFolk$Town", "shorten", "(IIIII)V"⟩, 7) := ⟨⟨by decide +kernel, by decide +kernel⟩, List.mem_of_getElem? (i := 60) (by decide +kernel), List.mem_of_getElem? (i := 354) (by decide +kernel), List.mem_of_getElem? (i := 355) (by decide +kernel)⟩
theorem lw_p6 : lw_okq (⟨"TownFolk", "isHere", "(I)Z"⟩, 17) := ⟨⟨by decide +kernel, by decide +kernel⟩, List.mem_of_getElem? (i := 19) (by decide +kernel), List.mem_of_getElem? (i := 366) (by decide +kernel), List.mem_of_getElem? (i := 367) (by decide +kernel)⟩
theorem lw_p7 : lw_okq (⟨"TownFolk", "refusalOfRow", "(I)I"⟩, 17) := ⟨⟨by decide +kernel, by decide +kernel⟩, List.mem_of_getElem? (i := 19) (by decide +kernel), List.mem_of_getElem? (i := 392) (by decide +kernel), List.mem_of_getElem? (i := 393) (by decide +kernel)⟩
theorem lw_p8 : lw_okq (⟨"TownFolk", "areAllHere", "(I)Z"⟩, 17) := ⟨⟨by decide +kernel, by decide +kernel⟩, List.mem_of_getElem? (i := 19) (by decide +kernel), List.mem_of_getElem? (i := 460) (by decide +kernel), List.mem_of_getElem? (i := 461) (by decide +kernel)⟩
theorem lw_p9 : lw_okq (⟨"TownFolk", "beginDay", "()I"⟩, 17) := ⟨⟨by decide +kernel, by decide +kernel⟩, List.mem_of_getElem? (i := 19) (by decide +kernel), List.mem_of_getElem? (i := 473) (by decide +kernel), List.mem_of_getElem? (i := 474) (by decide +kernel)⟩
theorem lw_p10 : lw_okq (⟨"TownFolk", "replan", "(I)I"⟩, 17) := ⟨⟨by decide +kernel, by decide +kernel⟩, List.mem_of_getElem? (i := 19) (by decide +kernel), List.mem_of_getElem? (i := 490) (by decide +kernel), List.mem_of_getElem? (i := 491) (by decide +kernel)⟩
theorem lw_p11 : lw_okq (⟨"TownFolk$Seats", "add", "([III)V"⟩, 1) := ⟨⟨by decide +kernel, by decide +kernel⟩, List.mem_of_getElem? (i := 99) (by decide +kernel), List.mem_of_getElem? (i := 498) (by decide +kernel), List.mem_of_getElem? (i := 499) (by decide +kernel)⟩
theorem lw_p12 : lw_okq (⟨"TownFolk$Planner", "stay", "(LTownFolk$Resident;IIZ)V"⟩, 5) := ⟨⟨by decide +kernel, by decide +kernel⟩, List.mem_of_getElem? (i := 109) (by decide +kernel), List.mem_of_getElem? (i := 546) (by decide +kernel), List.mem_of_getElem? (i := 547) (by decide +kernel)⟩
theorem lw_p13 : lw_okq (⟨"TownFolk$Planner", "goOn", "(LTownFolk$Town;II)V"⟩, 5) := ⟨⟨by decide +kernel, by decide +kernel⟩, List.mem_of_getElem? (i := 109) (by decide +kernel), List.mem_of_getElem? (i := 550) (by decide +kernel), List.mem_of_getElem? (i := 551) (by decide +kernel)⟩
theorem lw_p14 : lw_okq (⟨"TownFolk$Planner", "costOfWay", "(III)I"⟩, 5) := ⟨⟨by decide +kernel, by decide +kernel⟩, List.mem_of_getElem? (i := 109) (by decide +kernel), List.mem_of_getElem? (i := 558) (by decide +kernel), List.mem_of_getElem? (i := 559) (by decide +kernel)⟩
theorem lw_p15 : lw_okq (⟨"TownFolk", "moment", "()I"⟩, 17) := ⟨⟨by decide +kernel, by decide +kernel⟩, List.mem_of_getElem? (i := 19) (by decide +kernel), List.mem_of_getElem? (i := 577) (by decide +kernel), List.mem_of_getElem? (i := 578) (by decide +kernel)⟩
def lw_privs_1 : List (MethodName × Nat) := [(⟨"TownFolk", "wasEver", "(I)Z"⟩, 17), (⟨"TownFolk", "countHere", "()I"⟩, 17), (⟨"TownFolk", "countBent", "()I"⟩, 17), (⟨"TownFolk", "refusalsOf", "(I)I"⟩, 17), (⟨"TownFolk", "refuse", "(I)I"⟩, 17), (⟨"TownFolk$Town", "shorten", "(IIIII)V"⟩, 7), (⟨"TownFolk", "isHere", "(I)Z"⟩, 17), (⟨"TownFolk", "refusalOfRow", "(I)I"⟩, 17), (⟨"TownFolk", "areAllHere", "(I)Z"⟩, 17), (⟨"TownFolk", "beginDay", "()I"⟩, 17), (⟨"TownFolk", "replan", "(I)I"⟩, 17), (⟨"TownFolk$Seats", "add", "([III)V"⟩, 1), (⟨"TownFolk$Planner", "stay", "(LTownFolk$Resident;IIZ)V"⟩, 5), (⟨"TownFolk$Planner", "goOn", "(LTownFolk$Town;II)V"⟩, 5), (⟨"TownFolk$Planner", "costOfWay", "(III)I"⟩, 5), (⟨"TownFolk", "moment", "()I"⟩, 17)]
theorem lw_r1 : ∀ q ∈ lw_privs_1, lw_okq q := List.forall_mem_cons.mpr ⟨lw_p0, List.forall_mem_cons.mpr ⟨lw_p1, List.forall_mem_cons.mpr ⟨lw_p2, List.forall_mem_cons.mpr ⟨lw_p3, List.forall_mem_cons.mpr ⟨lw_p4, List.forall_mem_cons.mpr ⟨lw_p5, List.forall_mem_cons.mpr ⟨lw_p6, List.forall_mem_cons.mpr ⟨lw_p7, List.forall_mem_cons.mpr ⟨lw_p8, List.forall_mem_cons.mpr ⟨lw_p9, List.forall_mem_cons.mpr ⟨lw_p10, List.forall_mem_cons.mpr ⟨lw_p11, List.forall_mem_cons.mpr ⟨lw_p12, List.forall_mem_cons.mpr ⟨lw_p13, List.forall_mem_cons.mpr ⟨lw_p14, List.forall_mem_cons.mpr ⟨lw_p15, fun _ h => absurd h List.not_mem_nil⟩⟩⟩⟩⟩⟩⟩⟩⟩⟩⟩⟩⟩⟩⟩⟩
theorem lw_p16 : lw_okq (⟨"TownFolk", "liveTick", "()V"⟩, 17) := ⟨⟨by decide +kernel, by decide +kernel⟩, List.mem_of_getElem? (i := 19) (by decide +kernel), List.mem_of_getElem? (i := 581) (by decide +kernel), List.mem_of_getElem? (i := 582) (by decide +kernel)⟩
theorem lw_p17 : lw_okq (⟨"TownFolk", "tellFacts", "()V"⟩, 17) := ⟨⟨by decide +kernel, by decide +kernel⟩, List.mem_of_getElem? (i := 19) (by decide +kernel), List.mem_of_getElem? (i := 585) (by decide +kernel), List.mem_of_getElem? (i := 586) (by decide +kernel)⟩
theorem lw_p18 : lw_okq (⟨"TownFolk", "replanThoseDueIn", "(I)I"⟩, 17) := ⟨⟨by decide +kernel, by decide +kernel⟩, List.mem_of_getElem? (i := 19) (by decide +kernel), List.mem_of_getElem? (i := 612) (by decide +kernel), List.mem_of_getElem? (i := 613) (by decide +kernel)⟩
def lw_privs_2 : List (MethodName × Nat) := [(⟨"TownFolk", "liveTick", "()V"⟩, 17), (⟨"TownFolk", "tellFacts", "()V"⟩, 17), (⟨"TownFolk", "replanThoseDueIn", "(I)I"⟩, 17)]
theorem lw_r2 : ∀ q ∈ lw_privs_2, lw_okq q := List.forall_mem_cons.mpr ⟨lw_p16, List.forall_mem_cons.mpr ⟨lw_p17, List.forall_mem_cons.mpr ⟨lw_p18, fun _ h => absurd h List.not_mem_nil⟩⟩⟩
def lw_privs : List (MethodName × Nat) := lw_privs_1 ++ (lw_privs_2)
def lw_tbl : List Cond := k2_sels lw_privs ++ tables_1
theorem lw_privs_ok : ∀ q ∈ lw_privs, lw_okq q := by
  show ∀ q ∈ lw_privs_1 ++ (lw_privs_2), lw_okq q
  exact List.forall_mem_append.mpr ⟨lw_r1, lw_r2⟩
def RX0 : String := "TownFolk$DutyCheck"
def TX0 : u_T := fun k => match k with
  | 0 => ("TownFolk$DutyCheck", "found", "I", false)
  | _ => ("TownFolk$DutyCheck", "number", "I", false)
def tyX0 : Nat → FieldType := fun k => match k with
  | 0 => .int
  | _ => .int
theorem nmX0 : ∀ a, a < 2 → ∀ b, b < 2 → a ≠ b → (TX0 a).2.1 ≠ (TX0 b).2.1 := by decide +kernel
theorem tyX0_ok : ∀ k, k < 2 → parseFieldDescriptor (TX0 k).2.2.1 = some (tyX0 k) := by decide +kernel
abbrev cX0_init : ByteArray := prog_2_method_1_code
def yX0_init : MethodName := ⟨RX0, "<init>", "()V"⟩
abbrev cX0_examine : ByteArray := prog_2_method_2_code
def yX0_examine : MethodName := ⟨RX0, "examine", "(LTownFolk$Shelf;LTownFolk$Town;)V"⟩
abbrev cX0_placeOf : ByteArray := prog_2_method_3_code
def yX0_placeOf : MethodName := ⟨RX0, "placeOf", "(LTownFolk$Shelf;I)I"⟩
abbrev cX0_startOf : ByteArray := prog_2_method_4_code
def yX0_startOf : MethodName := ⟨RX0, "startOf", "(LTownFolk$Shelf;I)I"⟩
abbrev cX0_endOf : ByteArray := prog_2_method_5_code
def yX0_endOf : MethodName := ⟨RX0, "endOf", "(LTownFolk$Shelf;I)I"⟩
abbrev cX0_faultOf : ByteArray := prog_2_method_6_code
def yX0_faultOf : MethodName := ⟨RX0, "faultOf", "(LTownFolk$Shelf;ILTownFolk$Town;)I"⟩
abbrev cX0_meetsEarlier : ByteArray := prog_2_method_7_code
def yX0_meetsEarlier : MethodName := ⟨RX0, "meetsEarlier", "(LTownFolk$Shelf;I)Z"⟩
abbrev cX0_isReachable : ByteArray := prog_2_method_8_code
def yX0_isReachable : MethodName := ⟨RX0, "isReachable", "(LTownFolk$Shelf;ILTownFolk$Town;)Z"⟩
abbrev cX0_isInTime : ByteArray := prog_2_method_9_code
def yX0_isInTime : MethodName := ⟨RX0, "isInTime", "(LTownFolk$Shelf;IILTownFolk$Town;)Z"⟩
def RX1 : String := "TownFolk$Gathering"
def TX1 : u_T := fun k => match k with
  | 0 => ("TownFolk$Gathering", "members", "I", false)
  | 1 => ("TownFolk$Gathering", "place", "I", false)
  | 2 => ("TownFolk$Gathering", "from", "I", false)
  | 3 => ("TownFolk$Gathering", "to", "I", false)
  | 4 => ("TownFolk$Gathering", "weight", "I", false)
  | 5 => ("TownFolk$Gathering", "ticksToday", "I", false)
  | 6 => ("TownFolk$Gathering", "ticksEver", "I", false)
  | _ => ("TownFolk$Gathering", "seenToday", "I", false)
def tyX1 : Nat → FieldType := fun k => match k with
  | 0 => .int
  | 1 => .int
  | 2 => .int
  | 3 => .int
  | 4 => .int
  | 5 => .int
  | 6 => .int
  | _ => .int
theorem nmX1 : ∀ a, a < 8 → ∀ b, b < 8 → a ≠ b → (TX1 a).2.1 ≠ (TX1 b).2.1 := by decide +kernel
theorem tyX1_ok : ∀ k, k < 8 → parseFieldDescriptor (TX1 k).2.2.1 = some (tyX1 k) := by decide +kernel
abbrev cX1_init : ByteArray := prog_3_method_1_code
def yX1_init : MethodName := ⟨RX1, "<init>", "()V"⟩
abbrev cX1_arrange : ByteArray := prog_3_method_2_code
def yX1_arrange : MethodName := ⟨RX1, "arrange", "(IIIII)V"⟩
abbrev cX1_isOf : ByteArray := prog_3_method_3_code
def yX1_isOf : MethodName := ⟨RX1, "isOf", "(I)Z"⟩
abbrev cX1_beginDay : ByteArray := prog_3_method_4_code
def yX1_beginDay : MethodName := ⟨RX1, "beginDay", "()V"⟩
abbrev cX1_live : ByteArray := prog_3_method_5_code
def yX1_live : MethodName := ⟨RX1, "live", "([LTownFolk$Resident;I)V"⟩
def RX2 : String := "TownFolk$Planner"
def TX2 : u_T := fun k => match k with
  | 0 => ("TownFolk$Planner", "claimed", "[I", true)
  | 1 => ("TownFolk$Planner", "spared", "[I", true)
  | 2 => ("TownFolk$Planner", "onWays", "[I", true)
  | 3 => ("TownFolk$Planner", "least", "[I", true)
  | _ => ("TownFolk$Planner", "choice", "[I", true)
def tyX2 : Nat → FieldType := fun k => match k with
  | 0 => .array .int
  | 1 => .array .int
  | 2 => .array .int
  | 3 => .array .int
  | _ => .array .int
theorem nmX2 : ∀ a, a < 5 → ∀ b, b < 5 → a ≠ b → (TX2 a).2.1 ≠ (TX2 b).2.1 := by decide +kernel
theorem tyX2_ok : ∀ k, k < 5 → parseFieldDescriptor (TX2 k).2.2.1 = some (tyX2 k) := by decide +kernel
abbrev cX2_init : ByteArray := prog_4_method_1_code
def yX2_init : MethodName := ⟨RX2, "<init>", "()V"⟩
abbrev cX2_weigh : ByteArray := prog_4_method_2_code
def yX2_weigh : MethodName := ⟨RX2, "weigh", "(LTownFolk$Resident;)V"⟩
abbrev cX2_claim : ByteArray := prog_4_method_3_code
def yX2_claim : MethodName := ⟨RX2, "claim", "(IIII)V"⟩
abbrev cX2_search : ByteArray := prog_4_method_4_code
def yX2_search : MethodName := ⟨RX2, "search", "(LTownFolk$Resident;LTownFolk$Town;LTownFolk$Seats;II)V"⟩
abbrev cX2_mayBeIn : ByteArray := prog_4_method_5_code
def yX2_mayBeIn : MethodName := ⟨RX2, "mayBeIn", "(LTownFolk$Resident;IILTownFolk$Town;LTownFolk$Seats;I)Z"⟩
abbrev cX2_stay : ByteArray := prog_4_method_6_code
def yX2_stay : MethodName := ⟨RX2, "stay", "(LTownFolk$Resident;IIZ)V"⟩
abbrev cX2_goOn : ByteArray := prog_4_method_7_code
def yX2_goOn : MethodName := ⟨RX2, "goOn", "(LTownFolk$Town;II)V"⟩
abbrev cX2_costOfWay : ByteArray := prog_4_method_8_code
def yX2_costOfWay : MethodName := ⟨RX2, "costOfWay", "(III)I"⟩
abbrev cX2_write : ByteArray := prog_4_method_9_code
def yX2_write : MethodName := ⟨RX2, "write", "(LTownFolk$Resident;LTownFolk$Town;III)I"⟩
def RX3 : String := "TownFolk$Resident"
def TX3 : u_T := fun k => match k with
  | 0 => ("TownFolk$Resident", "likings", "[I", true)
  | 1 => ("TownFolk$Resident", "duty", "[I", true)
  | 2 => ("TownFolk$Resident", "plan", "[I", true)
  | 3 => ("TownFolk$Resident", "learned", "[I", true)
  | 4 => ("TownFolk$Resident", "home", "I", false)
  | 5 => ("TownFolk$Resident", "keys", "I", false)
  | 6 => ("TownFolk$Resident", "dutyCells", "I", false)
  | 7 => ("TownFolk$Resident", "bendPlace", "I", false)
  | 8 => ("TownFolk$Resident", "bendFrom", "I", false)
  | 9 => ("TownFolk$Resident", "bendTo", "I", false)
  | 10 => ("TownFolk$Resident", "planCost", "I", false)
  | 11 => ("TownFolk$Resident", "known", "I", false)
  | 12 => ("TownFolk$Resident", "bent", "Z", false)
  | _ => ("TownFolk$Resident", "left", "Z", false)
def tyX3 : Nat → FieldType := fun k => match k with
  | 0 => .array .int
  | 1 => .array .int
  | 2 => .array .int
  | 3 => .array .int
  | 4 => .int
  | 5 => .int
  | 6 => .int
  | 7 => .int
  | 8 => .int
  | 9 => .int
  | 10 => .int
  | 11 => .int
  | 12 => .boolean
  | _ => .boolean
theorem nmX3 : ∀ a, a < 14 → ∀ b, b < 14 → a ≠ b → (TX3 a).2.1 ≠ (TX3 b).2.1 := by decide +kernel
theorem tyX3_ok : ∀ k, k < 14 → parseFieldDescriptor (TX3 k).2.2.1 = some (tyX3 k) := by decide +kernel
abbrev cX3_init : ByteArray := prog_5_method_1_code
def yX3_init : MethodName := ⟨RX3, "<init>", "()V"⟩
abbrev cX3_takeDuties : ByteArray := prog_5_method_2_code
def yX3_takeDuties : MethodName := ⟨RX3, "takeDuties", "(LTownFolk$Shelf;)I"⟩
abbrev cX3_hasKey : ByteArray := prog_5_method_4_code
def yX3_hasKey : MethodName := ⟨RX3, "hasKey", "(I)Z"⟩
abbrev cX3_beginDay : ByteArray := prog_5_method_5_code
def yX3_beginDay : MethodName := ⟨RX3, "beginDay", "()V"⟩
abbrev cX3_takeBend : ByteArray := prog_5_method_6_code
def yX3_takeBend : MethodName := ⟨RX3, "takeBend", "(III)V"⟩
abbrev cX3_leave : ByteArray := prog_5_method_7_code
def yX3_leave : MethodName := ⟨RX3, "leave", "(I)V"⟩
abbrev cX3_isDueIn : ByteArray := prog_5_method_8_code
def yX3_isDueIn : MethodName := ⟨RX3, "isDueIn", "(II)Z"⟩
abbrev cX3_freeFrom : ByteArray := prog_5_method_9_code
def yX3_freeFrom : MethodName := ⟨RX3, "freeFrom", "(I)I"⟩
abbrev cX3_standsAt : ByteArray := prog_5_method_10_code
def yX3_standsAt : MethodName := ⟨RX3, "standsAt", "(I)I"⟩
abbrev cX3_learn : ByteArray := prog_5_method_11_code
def yX3_learn : MethodName := ⟨RX3, "learn", "(II)V"⟩
def RX4 : String := "TownFolk$Seats"
def TX4 : u_T := fun k => match k with
  | _ => ("TownFolk$Seats", "count", "[I", true)
def tyX4 : Nat → FieldType := fun k => match k with
  | _ => .array .int
theorem nmX4 : ∀ a, a < 1 → ∀ b, b < 1 → a ≠ b → (TX4 a).2.1 ≠ (TX4 b).2.1 := by decide +kernel
theorem tyX4_ok : ∀ k, k < 1 → parseFieldDescriptor (TX4 k).2.2.1 = some (tyX4 k) := by decide +kernel
abbrev cX4_init : ByteArray := prog_6_method_1_code
def yX4_init : MethodName := ⟨RX4, "<init>", "()V"⟩
abbrev cX4_clear : ByteArray := prog_6_method_2_code
def yX4_clear : MethodName := ⟨RX4, "clear", "()V"⟩
abbrev cX4_taken : ByteArray := prog_6_method_3_code
def yX4_taken : MethodName := ⟨RX4, "taken", "(II)I"⟩
abbrev cX4_take : ByteArray := prog_6_method_4_code
def yX4_take : MethodName := ⟨RX4, "take", "([II)V"⟩
abbrev cX4_release : ByteArray := prog_6_method_5_code
def yX4_release : MethodName := ⟨RX4, "release", "([II)V"⟩
abbrev cX4_add : ByteArray := prog_6_method_6_code
def yX4_add : MethodName := ⟨RX4, "add", "([III)V"⟩
def RX5 : String := "TownFolk$Shelf"
def TX5 : u_T := fun k => match k with
  | 0 => ("TownFolk$Shelf", "cells", "[J", true)
  | 1 => ("TownFolk$Shelf", "person", "I", false)
  | 2 => ("TownFolk$Shelf", "sort", "I", false)
  | _ => ("TownFolk$Shelf", "size", "I", false)
def tyX5 : Nat → FieldType := fun k => match k with
  | 0 => .array .long
  | 1 => .int
  | 2 => .int
  | _ => .int
theorem nmX5 : ∀ a, a < 4 → ∀ b, b < 4 → a ≠ b → (TX5 a).2.1 ≠ (TX5 b).2.1 := by decide +kernel
theorem tyX5_ok : ∀ k, k < 4 → parseFieldDescriptor (TX5 k).2.2.1 = some (tyX5 k) := by decide +kernel
abbrev cX5_init : ByteArray := prog_7_method_1_code
def yX5_init : MethodName := ⟨RX5, "<init>", "()V"⟩
abbrev cX5_isRow : ByteArray := prog_7_method_2_code
def yX5_isRow : MethodName := ⟨RX5, "isRow", "()Z"⟩
abbrev cX5_isPerson : ByteArray := prog_7_method_3_code
def yX5_isPerson : MethodName := ⟨RX5, "isPerson", "()Z"⟩
abbrev cX5_clear : ByteArray := prog_7_method_4_code
def yX5_clear : MethodName := ⟨RX5, "clear", "()V"⟩
abbrev cX5_putRow : ByteArray := prog_7_method_6_code
def yX5_putRow : MethodName := ⟨RX5, "putRow", "(II)V"⟩
abbrev cX5_write : ByteArray := prog_7_method_9_code
def yX5_write : MethodName := ⟨RX5, "write", "(IJ)V"⟩
abbrev cX5_asInt : ByteArray := prog_7_method_10_code
def yX5_asInt : MethodName := ⟨RX5, "asInt", "(I)I"⟩
def RX6 : String := "TownFolk$Town"
def TX6 : u_T := fun k => match k with
  | 0 => ("TownFolk$Town", "seatsOf", "[I", true)
  | 1 => ("TownFolk$Town", "opens", "[I", true)
  | 2 => ("TownFolk$Town", "closes", "[I", true)
  | 3 => ("TownFolk$Town", "joined", "[I", true)
  | 4 => ("TownFolk$Town", "least", "[I", true)
  | 5 => ("TownFolk$Town", "places", "I", false)
  | _ => ("TownFolk$Town", "ways", "I", false)
def tyX6 : Nat → FieldType := fun k => match k with
  | 0 => .array .int
  | 1 => .array .int
  | 2 => .array .int
  | 3 => .array .int
  | 4 => .array .int
  | 5 => .int
  | _ => .int
theorem nmX6 : ∀ a, a < 7 → ∀ b, b < 7 → a ≠ b → (TX6 a).2.1 ≠ (TX6 b).2.1 := by decide +kernel
theorem tyX6_ok : ∀ k, k < 7 → parseFieldDescriptor (TX6 k).2.2.1 = some (tyX6 k) := by decide +kernel
abbrev cX6_init : ByteArray := prog_8_method_1_code
def yX6_init : MethodName := ⟨RX6, "<init>", "()V"⟩
abbrev cX6_has : ByteArray := prog_8_method_2_code
def yX6_has : MethodName := ⟨RX6, "has", "(I)Z"⟩
abbrev cX6_addPlace : ByteArray := prog_8_method_3_code
def yX6_addPlace : MethodName := ⟨RX6, "addPlace", "(III)I"⟩
abbrev cX6_addWay : ByteArray := prog_8_method_4_code
def yX6_addWay : MethodName := ⟨RX6, "addWay", "(III)V"⟩
abbrev cX6_shorten : ByteArray := prog_8_method_5_code
def yX6_shorten : MethodName := ⟨RX6, "shorten", "(IIIII)V"⟩
abbrev cX6_apart : ByteArray := prog_8_method_6_code
def yX6_apart : MethodName := ⟨RX6, "apart", "(II)I"⟩
abbrev cX6_isReached : ByteArray := prog_8_method_7_code
def yX6_isReached : MethodName := ⟨RX6, "isReached", "(III)Z"⟩
abbrev cX6_wayTicks : ByteArray := prog_8_method_8_code
def yX6_wayTicks : MethodName := ⟨RX6, "wayTicks", "(II)I"⟩
abbrev cX6_isOpen : ByteArray := prog_8_method_9_code
def yX6_isOpen : MethodName := ⟨RX6, "isOpen", "(II)Z"⟩
def RX7 : String := "TownFolk"
def TX7 : u_T := fun k => match k with
  | 0 => ("TownFolk", "town", "LTownFolk$Town;", true)
  | 1 => ("TownFolk", "shelves", "[LTownFolk$Shelf;", true)
  | 2 => ("TownFolk", "people", "[LTownFolk$Resident;", true)
  | 3 => ("TownFolk", "gatherings", "[LTownFolk$Gathering;", true)
  | 4 => ("TownFolk", "takenSeats", "LTownFolk$Seats;", true)
  | 5 => ("TownFolk", "planner", "LTownFolk$Planner;", true)
  | 6 => ("TownFolk", "dutyCheck", "LTownFolk$DutyCheck;", true)
  | 7 => ("TownFolk", "told", "[I", true)
  | 8 => ("TownFolk", "refusals", "[I", true)
  | 9 => ("TownFolk", "peopleEver", "I", false)
  | 10 => ("TownFolk", "gatheringCount", "I", false)
  | 11 => ("TownFolk", "factCount", "I", false)
  | 12 => ("TownFolk", "plansMade", "I", false)
  | 13 => ("TownFolk", "lockedPlaces", "I", false)
  | 14 => ("TownFolk", "now", "I", false)
  | 15 => ("TownFolk", "daysLived", "I", false)
  | _ => ("TownFolk", "begun", "Z", false)
def tyX7 : Nat → FieldType := fun k => match k with
  | 0 => .object "TownFolk$Town"
  | 1 => .array (.object "TownFolk$Shelf")
  | 2 => .array (.object "TownFolk$Resident")
  | 3 => .array (.object "TownFolk$Gathering")
  | 4 => .object "TownFolk$Seats"
  | 5 => .object "TownFolk$Planner"
  | 6 => .object "TownFolk$DutyCheck"
  | 7 => .array .int
  | 8 => .array .int
  | 9 => .int
  | 10 => .int
  | 11 => .int
  | 12 => .int
  | 13 => .int
  | 14 => .int
  | 15 => .int
  | _ => .boolean
theorem nmX7 : ∀ a, a < 17 → ∀ b, b < 17 → a ≠ b → (TX7 a).2.1 ≠ (TX7 b).2.1 := by decide +kernel
theorem tyX7_ok : ∀ k, k < 17 → parseFieldDescriptor (TX7 k).2.2.1 = some (tyX7 k) := by decide +kernel
abbrev cX7_init : ByteArray := prog_1_method_1_code
def yX7_init : MethodName := ⟨RX7, "<init>", "()V"⟩
abbrev cX7_place : ByteArray := prog_1_method_2_code
def yX7_place : MethodName := ⟨RX7, "place", "(III)I"⟩
abbrev cX7_way : ByteArray := prog_1_method_3_code
def yX7_way : MethodName := ⟨RX7, "way", "(III)I"⟩
abbrev cX7_folk : ByteArray := prog_1_method_4_code
def yX7_folk : MethodName := ⟨RX7, "folk", "(I)I"⟩
abbrev cX7_meeting : ByteArray := prog_1_method_5_code
def yX7_meeting : MethodName := ⟨RX7, "meeting", "(IIIII)I"⟩
abbrev cX7_row : ByteArray := prog_1_method_6_code
def yX7_row : MethodName := ⟨RX7, "row", "(III)I"⟩
abbrev cX7_set : ByteArray := prog_1_method_7_code
def yX7_set : MethodName := ⟨RX7, "set", "(IIJ)I"⟩
abbrev cX7_duties : ByteArray := prog_1_method_13_code
def yX7_duties : MethodName := ⟨RX7, "duties", "(II)I"⟩
abbrev cX7_key : ByteArray := prog_1_method_16_code
def yX7_key : MethodName := ⟨RX7, "key", "(IIZ)I"⟩
abbrev cX7_begin : ByteArray := prog_1_method_17_code
def yX7_begin : MethodName := ⟨RX7, "begin", "()I"⟩
abbrev cX7_tick : ByteArray := prog_1_method_18_code
def yX7_tick : MethodName := ⟨RX7, "tick", "(I)I"⟩
abbrev cX7_bend : ByteArray := prog_1_method_19_code
def yX7_bend : MethodName := ⟨RX7, "bend", "(IIII)I"⟩
abbrev cX7_lock : ByteArray := prog_1_method_20_code
def yX7_lock : MethodName := ⟨RX7, "lock", "(IZ)I"⟩
abbrev cX7_again : ByteArray := prog_1_method_21_code
def yX7_again : MethodName := ⟨RX7, "again", "(I)I"⟩
abbrev cX7_gone : ByteArray := prog_1_method_22_code
def yX7_gone : MethodName := ⟨RX7, "gone", "(I)I"⟩
abbrev cX7_happen : ByteArray := prog_1_method_23_code
def yX7_happen : MethodName := ⟨RX7, "happen", "(I)I"⟩
abbrev cX7_where : ByteArray := prog_1_method_24_code
def yX7_where : MethodName := ⟨RX7, "where", "(II)I"⟩
abbrev cX7_status : ByteArray := prog_1_method_30_code
def yX7_status : MethodName := ⟨RX7, "status", "(I)I"⟩
abbrev cX7_refuse : ByteArray := prog_1_method_31_code
def yX7_refuse : MethodName := ⟨RX7, "refuse", "(I)I"⟩
abbrev cX7_refusalsOf : ByteArray := prog_1_method_32_code
def yX7_refusalsOf : MethodName := ⟨RX7, "refusalsOf", "(I)I"⟩
abbrev cX7_refusalOfRow : ByteArray := prog_1_method_33_code
def yX7_refusalOfRow : MethodName := ⟨RX7, "refusalOfRow", "(I)I"⟩
abbrev cX7_isShelf : ByteArray := prog_1_method_34_code
def yX7_isShelf : MethodName := ⟨RX7, "isShelf", "(I)Z"⟩
abbrev cX7_isSpan : ByteArray := prog_1_method_35_code
def yX7_isSpan : MethodName := ⟨RX7, "isSpan", "(II)Z"⟩
abbrev cX7_isTick : ByteArray := prog_1_method_36_code
def yX7_isTick : MethodName := ⟨RX7, "isTick", "(I)Z"⟩
abbrev cX7_isWeight : ByteArray := prog_1_method_37_code
def yX7_isWeight : MethodName := ⟨RX7, "isWeight", "(I)Z"⟩
abbrev cX7_wasEver : ByteArray := prog_1_method_38_code
def yX7_wasEver : MethodName := ⟨RX7, "wasEver", "(I)Z"⟩
abbrev cX7_isHere : ByteArray := prog_1_method_39_code
def yX7_isHere : MethodName := ⟨RX7, "isHere", "(I)Z"⟩
abbrev cX7_areAllHere : ByteArray := prog_1_method_40_code
def yX7_areAllHere : MethodName := ⟨RX7, "areAllHere", "(I)Z"⟩
abbrev cX7_countHere : ByteArray := prog_1_method_41_code
def yX7_countHere : MethodName := ⟨RX7, "countHere", "()I"⟩
abbrev cX7_countBent : ByteArray := prog_1_method_42_code
def yX7_countBent : MethodName := ⟨RX7, "countBent", "()I"⟩
abbrev cX7_moment : ByteArray := prog_1_method_43_code
def yX7_moment : MethodName := ⟨RX7, "moment", "()I"⟩
abbrev cX7_beginDay : ByteArray := prog_1_method_44_code
def yX7_beginDay : MethodName := ⟨RX7, "beginDay", "()I"⟩
abbrev cX7_liveTick : ByteArray := prog_1_method_45_code
def yX7_liveTick : MethodName := ⟨RX7, "liveTick", "()V"⟩
abbrev cX7_tellFacts : ByteArray := prog_1_method_46_code
def yX7_tellFacts : MethodName := ⟨RX7, "tellFacts", "()V"⟩
abbrev cX7_isIn : ByteArray := prog_1_method_47_code
def yX7_isIn : MethodName := ⟨RX7, "isIn", "(I)Z"⟩
abbrev cX7_replanThoseDueIn : ByteArray := prog_1_method_48_code
def yX7_replanThoseDueIn : MethodName := ⟨RX7, "replanThoseDueIn", "(I)I"⟩
abbrev cX7_replan : ByteArray := prog_1_method_49_code
def yX7_replan : MethodName := ⟨RX7, "replan", "(I)I"⟩
def RX8 : String := "TownFolkModel"
def TX8 : u_T := fun k => match k with
  | _ => ("", "", "", false)
def tyX8 : Nat → FieldType := fun k => match k with
  | _ => .int
theorem nmX8 : ∀ a, a < 0 → ∀ b, b < 0 → a ≠ b → (TX8 a).2.1 ≠ (TX8 b).2.1 := by decide +kernel
theorem tyX8_ok : ∀ k, k < 0 → parseFieldDescriptor (TX8 k).2.2.1 = some (tyX8 k) := by decide +kernel
def RJ6 : String := "java/lang/Integer"
abbrev cJ6_bitCount_0f7a4 : ByteArray := prog_11_method_49_code
def yJ6_bitCount_0f7a4 : MethodName := ⟨RJ6, "bitCount", "(I)I"⟩
def RJ9 : String := "java/lang/Math"
abbrev cJ9_min_7cf53 : ByteArray := prog_12_method_69_code
def yJ9_min_7cf53 : MethodName := ⟨RJ9, "min", "(II)I"⟩
def RJ7 : String := "java/util/Arrays"
abbrev cJ7_fill_d0a16 : ByteArray := prog_13_method_101_code
def yJ7_fill_d0a16 : MethodName := ⟨RJ7, "fill", "([JJ)V"⟩
abbrev cJ7_fill_53178 : ByteArray := prog_13_method_103_code
def yJ7_fill_53178 : MethodName := ⟨RJ7, "fill", "([II)V"⟩
def RL : String := "TownFolkLaw"
abbrev cL_at : ByteArray := method_2_code
def yL_at : MethodName := ⟨RL, "at", "([II)I"⟩
abbrev cL_build : ByteArray := method_3_code
def yL_build : MethodName := ⟨RL, "build", "([I)LTownFolk;"⟩
abbrev cL_acts : ByteArray := method_4_code
def yL_acts : MethodName := ⟨RL, "acts", "(LTownFolk;I)V"⟩
abbrev cL_law : ByteArray := code
def yL_law : MethodName := ⟨RL, "law", "([I)Z"⟩
abbrev vwCl : List vw_C := [(RX0, TX0, 2), (RX1, TX1, 8), (RX2, TX2, 5), (RX3, TX3, 14), (RX4, TX4, 1), (RX5, TX5, 4), (RX6, TX6, 7), (RX7, TX7, 17)]
/-- the words that stay when the machine warms up -/
def TB : List Cond := lw_tbl.filter goodWord
theorem tb_0 {w : Cond} (h : w ∈ tables_1) (g : goodWord w = true) : w ∈ TB := List.mem_filter.mpr ⟨List.mem_append_right _ h, g⟩
theorem tb_1 {w : Cond} (i : Nat) (h : tables_1_1[i]? = some w) (g : goodWord w = true) : w ∈ TB := tb_0 (List.mem_append_left _ (List.mem_of_getElem? h)) g
theorem tb_2 {w : Cond} (i : Nat) (h : tables_1_2[i]? = some w) (g : goodWord w = true) : w ∈ TB := tb_0 (List.mem_append_right _ (List.mem_append_left _ (List.mem_of_getElem? h))) g
theorem tb_3 {w : Cond} (i : Nat) (h : tables_1_3[i]? = some w) (g : goodWord w = true) : w ∈ TB := tb_0 (List.mem_append_right _ (List.mem_append_right _ (List.mem_of_getElem? h))) g
theorem tbs_1 (y : MethodName) (n i : Nat) (h : lw_privs_1[i]? = some (y, n)) : Cond.selects y.cls y y ∈ TB := List.mem_filter.mpr ⟨List.mem_append_left _ (List.mem_map.mpr ⟨(y, n), (List.mem_append_left _ (List.mem_of_getElem? h) : (y, n) ∈ lw_privs), rfl⟩), rfl⟩
theorem tbs_2 (y : MethodName) (n i : Nat) (h : lw_privs_2[i]? = some (y, n)) : Cond.selects y.cls y y ∈ TB := List.mem_filter.mpr ⟨List.mem_append_left _ (List.mem_map.mpr ⟨(y, n), (List.mem_append_right _ (List.mem_of_getElem? h) : (y, n) ∈ lw_privs), rfl⟩), rfl⟩
theorem tb_hts {args : Array Value} {s : State} (h : ∀ w ∈ lw_tbl, w.before args s = true) : ∀ w ∈ TB, w.before args s = true := fun w hw => h w (List.mem_filter.mp hw).1
theorem tb_good : GoodIn TB TB := fun w hw => ⟨hw, good_of_word (List.mem_filter.mp hw).2⟩
theorem inX0 : ∀ w ∈ u_ws RX0 TX0 2, w ∈ TB := by
  show ∀ w ∈ [u_lay RX0 TX0 0, u_lay RX0 TX0 1], w ∈ TB
  exact List.forall_mem_cons.mpr ⟨tb_1 139 (by decide +kernel) (by decide +kernel), List.forall_mem_cons.mpr ⟨tb_1 141 (by decide +kernel) (by decide +kernel), fun _ h => absurd h List.not_mem_nil⟩⟩
theorem inX1 : ∀ w ∈ u_ws RX1 TX1 8, w ∈ TB := by
  show ∀ w ∈ [u_lay RX1 TX1 0, u_lay RX1 TX1 1, u_lay RX1 TX1 2, u_lay RX1 TX1 3, u_lay RX1 TX1 4, u_lay RX1 TX1 5, u_lay RX1 TX1 6, u_lay RX1 TX1 7], w ∈ TB
  exact List.forall_mem_cons.mpr ⟨tb_2 10 (by decide +kernel) (by decide +kernel), List.forall_mem_cons.mpr ⟨tb_2 12 (by decide +kernel) (by decide +kernel), List.forall_mem_cons.mpr ⟨tb_2 14 (by decide +kernel) (by decide +kernel), List.forall_mem_cons.mpr ⟨tb_2 16 (by decide +kernel) (by decide +kernel), List.forall_mem_cons.mpr ⟨tb_2 18 (by decide +kernel) (by decide +kernel), List.forall_mem_cons.mpr ⟨tb_2 20 (by decide +kernel) (by decide +kernel), List.forall_mem_cons.mpr ⟨tb_2 22 (by decide +kernel) (by decide +kernel), List.forall_mem_cons.mpr ⟨tb_2 24 (by decide +kernel) (by decide +kernel), fun _ h => absurd h List.not_mem_nil⟩⟩⟩⟩⟩⟩⟩⟩
theorem inX2 : ∀ w ∈ u_ws RX2 TX2 5, w ∈ TB := by
  show ∀ w ∈ [u_lay RX2 TX2 0, u_lay RX2 TX2 1, u_lay RX2 TX2 2, u_lay RX2 TX2 3, u_lay RX2 TX2 4], w ∈ TB
  exact List.forall_mem_cons.mpr ⟨tb_1 119 (by decide +kernel) (by decide +kernel), List.forall_mem_cons.mpr ⟨tb_1 121 (by decide +kernel) (by decide +kernel), List.forall_mem_cons.mpr ⟨tb_1 123 (by decide +kernel) (by decide +kernel), List.forall_mem_cons.mpr ⟨tb_1 125 (by decide +kernel) (by decide +kernel), List.forall_mem_cons.mpr ⟨tb_1 127 (by decide +kernel) (by decide +kernel), fun _ h => absurd h List.not_mem_nil⟩⟩⟩⟩⟩
theorem inX3 : ∀ w ∈ u_ws RX3 TX3 14, w ∈ TB := by
  show ∀ w ∈ [u_lay RX3 TX3 0, u_lay RX3 TX3 1, u_lay RX3 TX3 2, u_lay RX3 TX3 3, u_lay RX3 TX3 4, u_lay RX3 TX3 5, u_lay RX3 TX3 6, u_lay RX3 TX3 7, u_lay RX3 TX3 8, u_lay RX3 TX3 9, u_lay RX3 TX3 10, u_lay RX3 TX3 11, u_lay RX3 TX3 12, u_lay RX3 TX3 13], w ∈ TB
  exact List.forall_mem_cons.mpr ⟨tb_1 204 (by decide +kernel) (by decide +kernel), List.forall_mem_cons.mpr ⟨tb_1 206 (by decide +kernel) (by decide +kernel), List.forall_mem_cons.mpr ⟨tb_1 208 (by decide +kernel) (by decide +kernel), List.forall_mem_cons.mpr ⟨tb_1 210 (by decide +kernel) (by decide +kernel), List.forall_mem_cons.mpr ⟨tb_1 212 (by decide +kernel) (by decide +kernel), List.forall_mem_cons.mpr ⟨tb_1 214 (by decide +kernel) (by decide +kernel), List.forall_mem_cons.mpr ⟨tb_1 216 (by decide +kernel) (by decide +kernel), List.forall_mem_cons.mpr ⟨tb_1 218 (by decide +kernel) (by decide +kernel), List.forall_mem_cons.mpr ⟨tb_1 220 (by decide +kernel) (by decide +kernel), List.forall_mem_cons.mpr ⟨tb_1 222 (by decide +kernel) (by decide +kernel), List.forall_mem_cons.mpr ⟨tb_1 224 (by decide +kernel) (by decide +kernel), List.forall_mem_cons.mpr ⟨tb_1 226 (by decide +kernel) (by decide +kernel), List.forall_mem_cons.mpr ⟨tb_1 228 (by decide +kernel) (by decide +kernel), List.forall_mem_cons.mpr ⟨tb_1 230 (by decide +kernel) (by decide +kernel), fun _ h => absurd h List.not_mem_nil⟩⟩⟩⟩⟩⟩⟩⟩⟩⟩⟩⟩⟩⟩
theorem inX4 : ∀ w ∈ u_ws RX4 TX4 1, w ∈ TB := by
  show ∀ w ∈ [u_lay RX4 TX4 0], w ∈ TB
  exact List.forall_mem_cons.mpr ⟨tb_1 105 (by decide +kernel) (by decide +kernel), fun _ h => absurd h List.not_mem_nil⟩
theorem inX5 : ∀ w ∈ u_ws RX5 TX5 4, w ∈ TB := by
  show ∀ w ∈ [u_lay RX5 TX5 0, u_lay RX5 TX5 1, u_lay RX5 TX5 2, u_lay RX5 TX5 3], w ∈ TB
  exact List.forall_mem_cons.mpr ⟨tb_1 156 (by decide +kernel) (by decide +kernel), List.forall_mem_cons.mpr ⟨tb_1 158 (by decide +kernel) (by decide +kernel), List.forall_mem_cons.mpr ⟨tb_1 160 (by decide +kernel) (by decide +kernel), List.forall_mem_cons.mpr ⟨tb_1 162 (by decide +kernel) (by decide +kernel), fun _ h => absurd h List.not_mem_nil⟩⟩⟩⟩
theorem inX6 : ∀ w ∈ u_ws RX6 TX6 7, w ∈ TB := by
  show ∀ w ∈ [u_lay RX6 TX6 0, u_lay RX6 TX6 1, u_lay RX6 TX6 2, u_lay RX6 TX6 3, u_lay RX6 TX6 4, u_lay RX6 TX6 5, u_lay RX6 TX6 6], w ∈ TB
  exact List.forall_mem_cons.mpr ⟨tb_1 76 (by decide +kernel) (by decide +kernel), List.forall_mem_cons.mpr ⟨tb_1 78 (by decide +kernel) (by decide +kernel), List.forall_mem_cons.mpr ⟨tb_1 80 (by decide +kernel) (by decide +kernel), List.forall_mem_cons.mpr ⟨tb_1 82 (by decide +kernel) (by decide +kernel), List.forall_mem_cons.mpr ⟨tb_1 84 (by decide +kernel) (by decide +kernel), List.forall_mem_cons.mpr ⟨tb_1 86 (by decide +kernel) (by decide +kernel), List.forall_mem_cons.mpr ⟨tb_1 88 (by decide +kernel) (by decide +kernel), fun _ h => absurd h List.not_mem_nil⟩⟩⟩⟩⟩⟩⟩
theorem inX7 : ∀ w ∈ u_ws RX7 TX7 17, w ∈ TB := by
  show ∀ w ∈ [u_lay RX7 TX7 0, u_lay RX7 TX7 1, u_lay RX7 TX7 2, u_lay RX7 TX7 3, u_lay RX7 TX7 4, u_lay RX7 TX7 5, u_lay RX7 TX7 6, u_lay RX7 TX7 7, u_lay RX7 TX7 8, u_lay RX7 TX7 9, u_lay RX7 TX7 10, u_lay RX7 TX7 11, u_lay RX7 TX7 12, u_lay RX7 TX7 13, u_lay RX7 TX7 14, u_lay RX7 TX7 15, u_lay RX7 TX7 16], w ∈ TB
  exact List.forall_mem_cons.mpr ⟨tb_2 44 (by decide +kernel) (by decide +kernel), List.forall_mem_cons.mpr ⟨tb_2 46 (by decide +kernel) (by decide +kernel), List.forall_mem_cons.mpr ⟨tb_2 48 (by decide +kernel) (by decide +kernel), List.forall_mem_cons.mpr ⟨tb_2 50 (by decide +kernel) (by decide +kernel), List.forall_mem_cons.mpr ⟨tb_2 52 (by decide +kernel) (by decide +kernel), List.forall_mem_cons.mpr ⟨tb_2 54 (by decide +kernel) (by decide +kernel), List.forall_mem_cons.mpr ⟨tb_2 56 (by decide +kernel) (by decide +kernel), List.forall_mem_cons.mpr ⟨tb_2 58 (by decide +kernel) (by decide +kernel), List.forall_mem_cons.mpr ⟨tb_2 60 (by decide +kernel) (by decide +kernel), List.forall_mem_cons.mpr ⟨tb_2 62 (by decide +kernel) (by decide +kernel), List.forall_mem_cons.mpr ⟨tb_2 64 (by decide +kernel) (by decide +kernel), List.forall_mem_cons.mpr ⟨tb_2 66 (by decide +kernel) (by decide +kernel), List.forall_mem_cons.mpr ⟨tb_2 68 (by decide +kernel) (by decide +kernel), List.forall_mem_cons.mpr ⟨tb_2 70 (by decide +kernel) (by decide +kernel), List.forall_mem_cons.mpr ⟨tb_2 72 (by decide +kernel) (by decide +kernel), List.forall_mem_cons.mpr ⟨tb_2 74 (by decide +kernel) (by decide +kernel), List.forall_mem_cons.mpr ⟨tb_2 76 (by decide +kernel) (by decide +kernel), fun _ h => absurd h List.not_mem_nil⟩⟩⟩⟩⟩⟩⟩⟩⟩⟩⟩⟩⟩⟩⟩⟩⟩
end
section
/-! ===== the machine under an abstract memory: ids (kind, index), a memory of ints and longs by kind, index and slot; a verified step ===== -/
abbrev KI : Type := Nat × Nat
abbrev AV : Type := Value ⊕ KI
abbrev ai (x : Int32) : AV := .inl (.int x)
abbrev al (x : Int64) : AV := .inl (.long x)
abbrev ar (k i : Nat) : AV := .inr (k, i)
abbrev Mem : Type := (Nat → Nat → Nat → Int32) × (Nat → Nat → Nat → Int64)
abbrev Loc2 : Type := List (Nat × AV)
/-- a kind's shape: an object (its class, its slots: an int, or a cell of a kind at the same index), or an array (0 int, 1 long, 2 boolean, from 3 on of cells; its length; the kind of its cells) -/
abbrev Sh : Type := (Nat × List (Option Nat)) ⊕ (Nat × Nat × Nat)
def wI (σ : Mem) (k i j : Nat) (v : Int32) : Mem := (fun k' i' j' => bif Nat.beq k' k && (Nat.beq i' i && Nat.beq j' j) then v else σ.1 k' i' j', σ.2)
def wL (σ : Mem) (k i j : Nat) (v : Int64) : Mem := (σ.1, fun k' i' j' => bif Nat.beq k' k && (Nat.beq i' i && Nat.beq j' j) then v else σ.2 k' i' j')
def cpL (σ : Mem) (k0 i0 k i sp dp n : Nat) : Mem := (σ.1, fun k' i' j' => bif Nat.beq k' k && Nat.beq i' i then va_cpy (σ.2 k0 i0) (σ.2 k i) sp dp n j' else σ.2 k' i' j')
theorem beq3 {a b c d e f : Nat} : (Nat.beq a b && (Nat.beq c d && Nat.beq e f)) = decide (a = b ∧ c = d ∧ e = f) := by
  rw [Bool.eq_iff_iff]
  simp [Nat.beq_eq]
theorem beq2 {a b c d : Nat} : (Nat.beq a b && Nat.beq c d) = decide (a = b ∧ c = d) := by
  rw [Bool.eq_iff_iff]
  simp [Nat.beq_eq]
theorem bif_dec {α : Type} (p : Prop) [Decidable p] (x y : α) : (bif decide p then x else y) = if p then x else y := by
  by_cases h : p <;> simp [h]
theorem wI_r (σ : Mem) (k i j : Nat) (v : Int32) (k' i' j' : Nat) : (wI σ k i j v).1 k' i' j' = if k' = k ∧ i' = i ∧ j' = j then v else σ.1 k' i' j' := by
  show (bif Nat.beq k' k && (Nat.beq i' i && Nat.beq j' j) then v else σ.1 k' i' j') = _
  rw [beq3, bif_dec]
theorem wL_r (σ : Mem) (k i j : Nat) (v : Int64) (k' i' j' : Nat) : (wL σ k i j v).2 k' i' j' = if k' = k ∧ i' = i ∧ j' = j then v else σ.2 k' i' j' := by
  show (bif Nat.beq k' k && (Nat.beq i' i && Nat.beq j' j) then v else σ.2 k' i' j') = _
  rw [beq3, bif_dec]
theorem cpL_r (σ : Mem) (k0 i0 k i sp dp n k' i' j' : Nat) : (cpL σ k0 i0 k i sp dp n).2 k' i' j' = if k' = k ∧ i' = i then va_cpy (σ.2 k0 i0) (σ.2 k i) sp dp n j' else σ.2 k' i' j' := by
  show (bif Nat.beq k' k && Nat.beq i' i then va_cpy (σ.2 k0 i0) (σ.2 k i) sp dp n j' else σ.2 k' i' j') = _
  rw [beq2, bif_dec]
theorem wI_2 (σ : Mem) (k i j : Nat) (v : Int32) : (wI σ k i j v).2 = σ.2 := rfl
theorem wL_1 (σ : Mem) (k i j : Nat) (v : Int64) : (wL σ k i j v).1 = σ.1 := rfl
theorem cpL_1 (σ : Mem) (k0 i0 k i sp dp n : Nat) : (cpL σ k0 i0 k i sp dp n).1 = σ.1 := rfl
section Shapes
variable (ks : Nat → Sh) (cy : Nat → ClassId) (ρ : Nat → Nat → Nat)
def entF (σ : Mem) (k i : Nat) : Nat → List (Option Nat) → List Value
  | _, [] => []
  | j, none :: l => .int (σ.1 k i j) :: entF σ k i (j + 1) l
  | j, some rk :: l => .ref (ρ rk i) :: entF σ k i (j + 1) l
def ent (σ : Mem) (k i : Nat) : va_E := match ks k with
  | .inl (ci, fl) => .inr (ci, entF ρ σ k i 0 fl)
  | .inr (0, n, _) => .inl (cy 0, n, .inl (σ.1 k i))
  | .inr (1, n, _) => .inl (cy 1, n, .inr (.inl (σ.2 k i)))
  | .inr (2, n, _) => .inl (cy 2, n, .inl (σ.1 k i))
  | .inr (t + 3, n, rk) => .inl (cy (t + 3), n, .inr (.inr (.inr (.inr (fun j => some (ρ rk j))))))
def wl (I : List KI) (σ : Mem) : va_W := I.map (fun q => (ρ q.1 q.2, ent ks cy ρ σ q.1 q.2))
end Shapes
theorem entF_congr {ρ : Nat → Nat → Nat} {σ σ' : Mem} {k i : Nat} (h : ∀ j, σ.1 k i j = σ'.1 k i j) : ∀ (l : List (Option Nat)) (j : Nat), entF ρ σ k i j l = entF ρ σ' k i j l
  | [], _ => rfl
  | none :: l, j => by simp only [entF, h j, entF_congr h l (j + 1)]
  | some rk :: l, j => by simp only [entF, entF_congr h l (j + 1)]
theorem ent_congr {ks : Nat → Sh} {cy : Nat → ClassId} {ρ : Nat → Nat → Nat} {σ σ' : Mem} {k i : Nat} (h : ∀ j, σ.1 k i j = σ'.1 k i j) (h2 : ∀ j, σ.2 k i j = σ'.2 k i j) : ent ks cy ρ σ k i = ent ks cy ρ σ' k i := by
  have e1 : σ.1 k i = σ'.1 k i := funext h
  have e2 : σ.2 k i = σ'.2 k i := funext h2
  unfold ent
  rw [e1, e2]
  split <;> first | rfl | (rw [entF_congr h])
theorem entF_get {ρ : Nat → Nat → Nat} {σ : Mem} {k i : Nat} : ∀ (l : List (Option Nat)) (j n : Nat), (entF ρ σ k i j l)[n]? = (l[n]?).map (fun o => match o with | none => Value.int (σ.1 k i (j + n)) | some rk => Value.ref (ρ rk i))
  | [], _, _ => by simp [entF]
  | none :: l, j, 0 => by simp [entF]
  | some rk :: l, j, 0 => by simp [entF]
  | none :: l, j, n + 1 => by
    simp only [entF, List.getElem?_cons_succ, entF_get l (j + 1) n]
    rw [show j + 1 + n = j + (n + 1) by omega]
  | some rk :: l, j, n + 1 => by
    simp only [entF, List.getElem?_cons_succ, entF_get l (j + 1) n]
    rw [show j + 1 + n = j + (n + 1) by omega]
theorem entF_len {ρ : Nat → Nat → Nat} {σ : Mem} {k i : Nat} : ∀ (l : List (Option Nat)) (j : Nat), (entF ρ σ k i j l).length = l.length
  | [], _ => rfl
  | none :: l, j => by simp only [entF, List.length_cons, entF_len l (j + 1)]
  | some rk :: l, j => by simp only [entF, List.length_cons, entF_len l (j + 1)]
theorem entF_set {ρ : Nat → Nat → Nat} {σ : Mem} {k i n : Nat} {v : Int32} {l : List (Option Nat)} (h : l[n]? = some none) : (entF ρ σ k i 0 l).set n (.int v) = entF ρ (wI σ k i n v) k i 0 l := by
  apply List.ext_getElem?
  intro m
  rw [List.getElem?_set, entF_get, entF_get, entF_len]
  have hl : n < l.length := (List.getElem?_eq_some_iff.mp h).1
  by_cases hm : n = m
  · subst hm
    rw [if_pos rfl, if_pos hl, h]
    simp [wI_r]
  · rw [if_neg hm]
    have hm' : ¬ m = n := fun q => hm q.symm
    simp [wI_r, hm']
theorem wl_get {ks : Nat → Sh} {cy : Nat → ClassId} {ρ : Nat → Nat → Nat} {I : List KI} {k i n : Nat} (h : I[n]? = some (k, i)) (σ : Mem) : (wl ks cy ρ I σ)[n]? = some (ρ k i, ent ks cy ρ σ k i) := by
  simp [wl, h]
theorem wl_set {ks : Nat → Sh} {cy : Nat → ClassId} {ρ : Nat → Nat → Nat} {I : List KI} (hN : I.Nodup) {k i n : Nat} (h : I[n]? = some (k, i)) {σ σ' : Mem} {e : va_E} (he : e = ent ks cy ρ σ' k i) (ho : ∀ k' i', ¬ (k' = k ∧ i' = i) → ent ks cy ρ σ k' i' = ent ks cy ρ σ' k' i') : (wl ks cy ρ I σ).set n (ρ k i, e) = wl ks cy ρ I σ' := by
  apply List.ext_getElem?
  intro m
  have hl : n < I.length := (List.getElem?_eq_some_iff.mp h).1
  rw [List.getElem?_set]
  by_cases hm : n = m
  · subst hm
    have hlw : n < (wl ks cy ρ I σ).length := by simp [wl, hl]
    rw [if_pos rfl, if_pos hlw, wl_get h, he]
  · rw [if_neg hm]
    cases hq : I[m]? with
    | none => simp [wl, hq]
    | some q =>
      have hne : ¬ (q.1 = k ∧ q.2 = i) := by
        intro hk
        have hq' : I[m]? = some (k, i) := by rw [hq]; congr 1; exact Prod.ext hk.1 hk.2
        have hlm : m < I.length := (List.getElem?_eq_some_iff.mp hq').1
        have := (List.getElem?_inj hlm hN).mp (hq'.trans h.symm)
        exact hm this.symm
      simp [wl, hq, ho q.1 q.2 hne]
/-! the layout: what each kind is -/
def kSL : List Sh := [.inl (7, [some 1, some 24, some 25, some 26, some 15, some 17, some 23, some 27, some 28, none, none, none, none, none, none, none, none]), .inl (6, [some 2, some 3, some 4, some 5, some 6, none, none]), .inr (0, 12, 0), .inr (0, 12, 0), .inr (0, 12, 0), .inr (0, 144, 0), .inr (0, 144, 0), .inl (5, [some 8, none, none, none]), .inr (1, 60, 0), .inl (3, [some 10, some 11, some 12, some 13, none, none, none, none, none, none, none, none, none, none]), .inr (0, 12, 0), .inr (0, 48, 0), .inr (0, 48, 0), .inr (0, 12, 0), .inl (1, [none, none, none, none, none, none, none, none]), .inl (4, [some 16]), .inr (0, 576, 0), .inl (2, [some 18, some 19, some 20, some 21, some 22]), .inr (0, 48, 0), .inr (0, 576, 0), .inr (0, 49, 0), .inr (0, 588, 0), .inr (0, 576, 0), .inl (0, [none, none]), .inr (3, 8, 7), .inr (4, 20, 9), .inr (5, 10, 14), .inr (0, 12, 0), .inr (0, 8, 0), .inr (9, 0, 0), .inl (8, [some 31, none, none, none, none, none, some 32, some 33, some 34, some 35, none, some 36, some 37, none, some 38, some 39, some 40, some 41, some 42, some 43, some 44, some 45, some 46, some 47, some 48, none, some 49, some 50, some 51, some 52, some 53, none, some 54, some 55, some 56, some 57, some 58, some 59, some 60, none, none, some 61, some 62, some 63, some 64]), .inr (0, 8, 0), .inr (0, 12, 0), .inr (0, 12, 0), .inr (0, 12, 0), .inr (2, 12, 0), .inr (0, 144, 0), .inr (0, 144, 0), .inr (0, 20, 0), .inr (0, 20, 0), .inr (0, 240, 0), .inr (0, 20, 0), .inr (0, 960, 0), .inr (2, 20, 0), .inr (2, 20, 0), .inr (0, 60, 0), .inr (0, 960, 0), .inr (0, 20, 0), .inr (0, 576, 0), .inr (0, 10, 0), .inr (0, 40, 0), .inr (0, 10, 0), .inr (0, 10, 0), .inr (0, 10, 0), .inr (0, 240, 0), .inr (2, 240, 0), .inr (0, 144, 0), .inr (0, 8, 0), .inr (0, 8, 0), .inr (1, 480, 0), .inr (1, 60, 0), .inr (0, 48, 0), .inr (1, 192, 0), .inr (0, 588, 0), .inr (0, 576, 0)]
def kS (k : Nat) : Sh := kSL.getD k (.inr (0, 0, 0))
/-- the ids of the class, and of the reference -/
def IX : List KI := [(0, 0), (1, 0), (2, 0), (3, 0), (4, 0), (5, 0), (6, 0), (7, 0), (7, 1), (7, 2), (7, 3), (7, 4), (7, 5), (7, 6), (7, 7), (8, 0), (8, 1), (8, 2), (8, 3), (8, 4), (8, 5), (8, 6), (8, 7), (9, 0), (9, 1), (9, 2), (9, 3), (9, 4), (9, 5), (9, 6), (9, 7), (9, 8), (9, 9), (9, 10), (9, 11), (9, 12), (9, 13), (9, 14), (9, 15), (9, 16), (9, 17), (9, 18), (9, 19), (10, 0), (10, 1), (10, 2), (10, 3), (10, 4), (10, 5), (10, 6), (10, 7), (10, 8), (10, 9), (10, 10), (10, 11), (10, 12), (10, 13), (10, 14), (10, 15), (10, 16), (10, 17), (10, 18), (10, 19), (11, 0), (11, 1), (11, 2), (11, 3), (11, 4), (11, 5), (11, 6), (11, 7), (11, 8), (11, 9), (11, 10), (11, 11), (11, 12), (11, 13), (11, 14), (11, 15), (11, 16), (11, 17), (11, 18), (11, 19), (12, 0), (12, 1), (12, 2), (12, 3), (12, 4), (12, 5), (12, 6), (12, 7), (12, 8), (12, 9), (12, 10), (12, 11), (12, 12), (12, 13), (12, 14), (12, 15), (12, 16), (12, 17), (12, 18), (12, 19), (13, 0), (13, 1), (13, 2), (13, 3), (13, 4), (13, 5), (13, 6), (13, 7), (13, 8), (13, 9), (13, 10), (13, 11), (13, 12), (13, 13), (13, 14), (13, 15), (13, 16), (13, 17), (13, 18), (13, 19), (14, 0), (14, 1), (14, 2), (14, 3), (14, 4), (14, 5), (14, 6), (14, 7), (14, 8), (14, 9), (15, 0), (16, 0), (17, 0), (18, 0), (19, 0), (20, 0), (21, 0), (22, 0), (23, 0), (24, 0), (25, 0), (26, 0), (27, 0), (28, 0)]
def IM : List KI := [(30, 0), (31, 0), (32, 0), (33, 0), (34, 0), (35, 0), (36, 0), (37, 0), (38, 0), (39, 0), (40, 0), (41, 0), (42, 0), (43, 0), (44, 0), (45, 0), (46, 0), (47, 0), (48, 0), (49, 0), (50, 0), (51, 0), (52, 0), (53, 0), (54, 0), (55, 0), (56, 0), (57, 0), (58, 0), (59, 0), (60, 0), (61, 0), (62, 0), (63, 0), (64, 0)]
def tysOf (cy : Nat → ClassId) : List (ClassId × FieldType) := [(cy 0, .int), (cy 1, .long), (cy 2, .boolean), (cy 3, .object "TownFolk$Shelf"), (cy 4, .object "TownFolk$Resident"), (cy 5, .object "TownFolk$Gathering")]
/-- the type of an array's cells by its tag -/
def tyT : Nat → FieldType
  | 0 => .int
  | 1 => .long
  | 2 => .boolean
  | 3 => .object "TownFolk$Shelf"
  | 4 => .object "TownFolk$Resident"
  | _ => .object "TownFolk$Gathering"
def catA : AV → Nat
  | .inl v => v.category
  | .inr _ => 1
def toV (ρ : Nat → Nat → Nat) : AV → Value
  | .inl v => v
  | .inr q => .ref (ρ q.1 q.2)
def toL (ρ : Nat → Nat → Nat) (l : Loc2) : List (Nat × Value) := l.map (fun q => (q.1, toV ρ q.2))
def okV (I : List KI) (v : AV) : Prop := match v with
  | .inl _ => True
  | .inr q => q ∈ I ∨ q = (29, 0)
theorem okM {I : List KI} {k i : Nat} (h : okV I (.inr (k, i))) (hk : kS k ≠ .inr (9, 0, 0)) : (k, i) ∈ I := by
  rcases h with h | h
  · exact h
  · cases h
    exact absurd rfl hk
/-- of the machine nothing is said about these ids -/
def Off (I : List KI) : Prop := (30, 0) ∈ I
/-- the script, read only, at the address of kind 29 -/
def SC (ρ : Nat → Nat → Nat) (A : Nat → Prop) (U : State) : Prop := ∃ (L : Nat) (xs : Nat → Int32), L ≤ 260 ∧ va_X (ρ 29 0) L xs U U.heap ∧ ρ 29 0 < U.heap.size ∧ ¬ A (ρ 29 0)
def okS (I : List KI) (l : List AV) : Prop := ∀ v ∈ l, okV I v
def okL (I : List KI) (l : Loc2) : Prop := ∀ q ∈ l, okV I q.2
/-- a method: its name, code, locals, answer, how many arguments, its class's place (none: static) -/
abbrev SR : Type := MethodName × ByteArray × Nat × Option FieldType × Nat × Option Nat
/-- what a constant pool's place is: a field (class, slot; 0 read only, 1 an int, 2 a boolean), a method, an int, a long, System.arraycopy (0) or Math.min (1) -/
abbrev PE : Type := (Nat × Nat × Nat) ⊕ (SR ⊕ (Int32 ⊕ (Int64 ⊕ Nat)))
abbrev MR : Type := SR × List (Nat × PE) × (Nat → Option (Instr × Nat))
/-- methods whose frame knows the script -/
def scM (M : MR) : Bool := M.1.1.name == "build" || M.1.1.name == "law"
def noAt (l : List (Nat × PE)) : Bool := l.all (fun q => match q.2 with | .inr (.inr (.inr (.inr 2))) => false | _ => true)
/-- the links between nest mates, which the start gives -/
def NWf : List (String × Nat × String × String × String × String) := [("TownFolk$Planner", 90, "TownFolk$Town", "seatsOf", "[I", "TownFolk"), ("TownFolk", 77, "TownFolk$Town", "places", "I", "TownFolk"), ("TownFolk$Planner", 59, "TownFolk$Town", "places", "I", "TownFolk"), ("TownFolk", 89, "TownFolk$Town", "ways", "I", "TownFolk"), ("TownFolk", 184, "TownFolk$DutyCheck", "found", "I", "TownFolk"), ("TownFolk$Resident", 30, "TownFolk$Shelf", "size", "I", "TownFolk"), ("TownFolk$DutyCheck", 18, "TownFolk$Shelf", "size", "I", "TownFolk"), ("TownFolk", 130, "TownFolk$Shelf", "size", "I", "TownFolk"), ("TownFolk$Planner", 96, "TownFolk$Resident", "likings", "[I", "TownFolk"), ("TownFolk$Planner", 39, "TownFolk$Resident", "duty", "[I", "TownFolk"), ("TownFolk$Gathering", 35, "TownFolk$Resident", "plan", "[I", "TownFolk"), ("TownFolk$Planner", 106, "TownFolk$Resident", "plan", "[I", "TownFolk"), ("TownFolk", 234, "TownFolk$Resident", "plan", "[I", "TownFolk"), ("TownFolk", 99, "TownFolk$Resident", "home", "I", "TownFolk"), ("TownFolk$Planner", 93, "TownFolk$Resident", "home", "I", "TownFolk"), ("TownFolk", 207, "TownFolk$Resident", "keys", "I", "TownFolk"), ("TownFolk$Planner", 33, "TownFolk$Resident", "dutyCells", "I", "TownFolk"), ("TownFolk$Planner", 50, "TownFolk$Resident", "bendPlace", "I", "TownFolk"), ("TownFolk$Planner", 53, "TownFolk$Resident", "bendFrom", "I", "TownFolk"), ("TownFolk$Planner", 56, "TownFolk$Resident", "bendTo", "I", "TownFolk"), ("TownFolk", 256, "TownFolk$Resident", "planCost", "I", "TownFolk"), ("TownFolk", 314, "TownFolk$Resident", "known", "I", "TownFolk"), ("TownFolk$Planner", 46, "TownFolk$Resident", "bent", "Z", "TownFolk"), ("TownFolk", 292, "TownFolk$Resident", "bent", "Z", "TownFolk"), ("TownFolk", 289, "TownFolk$Resident", "left", "Z", "TownFolk"), ("TownFolk", 327, "TownFolk$Gathering", "place", "I", "TownFolk"), ("TownFolk", 330, "TownFolk$Gathering", "from", "I", "TownFolk"), ("TownFolk", 333, "TownFolk$Gathering", "to", "I", "TownFolk"), ("TownFolk", 336, "TownFolk$Gathering", "weight", "I", "TownFolk")]
def NWm : List (String × Nat × MethodName × String) := [("TownFolk", 11, ⟨"TownFolk$Town", "<init>", "()V"⟩, "TownFolk"), ("TownFolk", 36, ⟨"TownFolk$Seats", "<init>", "()V"⟩, "TownFolk"), ("TownFolk", 43, ⟨"TownFolk$Planner", "<init>", "()V"⟩, "TownFolk"), ("TownFolk", 50, ⟨"TownFolk$DutyCheck", "<init>", "()V"⟩, "TownFolk"), ("TownFolk", 62, ⟨"TownFolk$Shelf", "<init>", "()V"⟩, "TownFolk"), ("TownFolk", 64, ⟨"TownFolk$Gathering", "<init>", "()V"⟩, "TownFolk"), ("TownFolk$DutyCheck", 47, ⟨"TownFolk", "isSpan", "(II)Z"⟩, "TownFolk"), ("TownFolk$DutyCheck", 51, ⟨"TownFolk", "isWeight", "(I)Z"⟩, "TownFolk"), ("TownFolk$Seats", 25, ⟨"TownFolk", "isIn", "(I)Z"⟩, "TownFolk")]
def NwOK (U : State) : Prop := (∀ q ∈ NWf, va_Nw (.fieldLinkNest q.1 q.2.1 q.2.2.1 q.2.2.2.1 q.2.2.2.2.1 q.2.2.2.2.2) U) ∧ ∀ q ∈ NWm, va_Nw (.methodLinkNest q.1 q.2.1 q.2.2.1 q.2.2.2) U
theorem NwOK.warm {s U : State} (hW : s.WarmedH U.vm) (h : NwOK s) : NwOK U := ⟨fun q hq => va_Nw.warmF hW (h.1 q hq), fun q hq => va_Nw.warmM hW (h.2 q hq)⟩
theorem NwOK.same {u U : State} (hv : u.vm = U.vm) (h : NwOK u) : NwOK U := ⟨fun q hq => va_Nw.same rfl hv (h.1 q hq), fun q hq => va_Nw.same rfl hv (h.2 q hq)⟩
abbrev Kt : Type := Nat → Loc2 → List AV → Mem → Prop
def Cx (M : MR) (d : Nat) (p : Program) (R : Room) (s : State) (m : MethodId) (args : Array Value) (meth : Method) (c : Code) (D : va_G) (cy : Nat → ClassId) (A : Nat → Prop) (ρ : Nat → Nat → Nat) : Prop :=
  p.tables.exec = Jvm.exec ∧ c.code = M.1.2.1 ∧ c.maxLocals = M.1.2.2.1 ∧ meth.sig.returnType = M.1.2.2.2.1 ∧ meth.locks = false ∧ s.vm.findClass M.1.1.cls = some m.cls ∧ (∀ w ∈ TB, w.before args s = true) ∧ (∀ q : Nat, s.heap.size ≤ q → A q) ∧ d ≤ R.frames ∧ 40 * d ≤ R.locals ∧ NwOK s ∧ va_K D vwCl (tysOf cy) s ∧ (scM M = true → SC ρ A s)
def QQ (I : List KI) (D : va_G) (cy : Nat → ClassId) (ρ : Nat → Nat → Nat) (A : Nat → Prop) (Q : Option AV → Mem → Prop) : Array Value → State → Outcome → State → Prop := fun _ st oc t =>
  (∃ (v : Option AV) (σ' : Mem), oc = .returned (v.map (toV ρ)) ∧ Q v σ' ∧ va_P D vwCl (wl kS cy ρ I σ') t.heap ∧ va_K D vwCl (tysOf cy) t ∧ va_D A (wl kS cy ρ I σ') ∧ okS I v.toList) ∧ va_F A st t
def J (I : List KI) (M : MR) (d : Nat) (pc : Nat) (loc : Loc2) (stk : List AV) (σ : Mem) (Q : Option AV → Mem → Prop) : Prop :=
  ¬ Off I → ∀ (p : Program) (l : Launch) (e : Env) (R : Room) (s : State) (m : MethodId) (args : Array Value) (below : List Frame) (meth : Method) (c : Code) (D : va_G) (cy : Nat → ClassId) (ρ : Nat → Nat → Nat) (A : Nat → Prop) (cells slots : Nat) (H : Heap) (locs : List Loc) (ls : Array Slot),
    Cx M d p R s m args meth c D cy A ρ → cells ≤ R.cells → slots ≤ R.slots → va_P D vwCl (wl kS cy ρ I σ) H → va_D A (wl kS cy ρ I σ) → va_S A s.heap H locs → lv_has ls M.1.2.2.1 (toL ρ loc) → okL I loc → okS I stk →
    W p l e R s m args below meth c H locs cells slots (MQ below (QQ I D cy ρ A Q) args s cells slots A) (F0 m pc ls (stk.map (toV ρ)))
def rmD (d : Nat) : Room := { frames := d, cells := 0, slots := 0, locals := 40 * d }
def Cal (I : List KI) (d : Nat) (S : SR) (av : List AV) (σ : Mem) (Q : Option AV → Mem → Prop) : Prop :=
  ¬ Off I → ∀ (l : Launch) (D : va_G) (cy : Nat → ClassId) (ρ : Nat → Nat → Nat) (sz : Nat), okS I av →
    Met l S.1 (Jvm.Cond.code S.1 S.2.1 S.2.2.1 S.2.2.2.1 :: TB) (rmD d) (va_Pc (av.map (toV ρ)) (fun U => U.heap.size = sz ∧ va_P D vwCl (wl kS cy ρ I σ) U.heap ∧ va_K D vwCl (tysOf cy) U ∧ va_D (fun _ => True) (wl kS cy ρ I σ) ∧ NwOK U)) (QQ I D cy ρ (va_A (wl kS cy ρ I σ) sz) Q) 0 0 (va_A (wl kS cy ρ I σ) sz)
def CalI (I : List KI) (d : Nat) (S : SR) (av : List AV) (σ : Mem) (Q : Int32 → Mem → Prop) : Prop := Cal I d S av σ (fun v σ' => ∃ x, v = some (ai x) ∧ Q x σ')
def CalL (I : List KI) (d : Nat) (S : SR) (av : List AV) (σ : Mem) (Q : Int64 → Mem → Prop) : Prop := Cal I d S av σ (fun v σ' => ∃ x, v = some (al x) ∧ Q x σ')
def CalV (I : List KI) (d : Nat) (S : SR) (av : List AV) (σ : Mem) (Q : Mem → Prop) : Prop := Cal I d S av σ (fun v σ' => v = none ∧ Q σ')
/-! one instruction, as a transformer of what must hold behind it -/
def plk : List (Nat × PE) → Nat → Option PE
  | [], _ => none
  | (j, e) :: l, i => bif Nat.beq j i then some e else plk l i
def lk : Loc2 → Nat → Option AV
  | [], _ => none
  | (j, v) :: l, i => bif Nat.beq j i then some v else lk l i
def st1 (i : Nat) (v : AV) (l : Loc2) : Loc2 := (i, v) :: l.filter (fun q => !(q.1 == i) && !(q.1 + 1 == i && catA q.2 == 2))
def tg (pc : Nat) (off : Int) : Option Nat := match (pc : Int) + off with
  | .ofNat n => some n
  | _ => none
def cmpP : Jvm.ClassFile.Cond → Int32 → Int32 → Prop
  | .eq, x, y => x = y
  | .ne, x, y => ¬ x = y
  | .lt, x, y => x < y
  | .ge, x, y => y ≤ x
  | .gt, x, y => y < x
  | .le, x, y => x ≤ y
def cmpN : Jvm.ClassFile.Cond → Int32 → Int32 → Prop
  | .eq, x, y => ¬ x = y
  | .ne, x, y => x = y
  | .lt, x, y => ¬ x < y
  | .ge, x, y => ¬ y ≤ x
  | .gt, x, y => ¬ y < x
  | .le, x, y => ¬ x ≤ y
def sI (K : Int32 → Prop) : Option AV → Prop
  | some (.inl (.int x)) => K x
  | _ => False
def sJ (K : Int64 → Prop) : Option AV → Prop
  | some (.inl (.long x)) => K x
  | _ => False
def sA (K : KI → Prop) : Option AV → Prop
  | some (.inr q) => K q
  | _ => False
def s1 (K : Int32 → List AV → Prop) : List AV → Prop
  | .inl (.int x) :: r => K x r
  | _ => False
def s2 (K : Int32 → Int32 → List AV → Prop) : List AV → Prop
  | .inl (.int y) :: .inl (.int x) :: r => K x y r
  | _ => False
def sAI (K : Int32 → Nat → Nat → List AV → Prop) : List AV → Prop
  | .inl (.int x) :: .inr (k, i) :: r => K x k i r
  | _ => False
def sAII (K : Int32 → Int32 → Nat → Nat → List AV → Prop) : List AV → Prop
  | .inl (.int v) :: .inl (.int x) :: .inr (k, i) :: r => K v x k i r
  | _ => False
def opS (I : List KI) (d : Nat) (S : SR) (av : List AV) (σ : Mem) (K : List AV → Mem → Prop) : Prop := match S.2.2.2.1 with
  | none => CalV I d S av σ (fun σ' => K [] σ')
  | some .long => CalL I d S av σ (fun x σ' => K [al x] σ')
  | some _ => CalI I d S av σ (fun x σ' => K [ai x] σ')
def sumC : List AV → Nat
  | [] => 0
  | v :: l => catA v + sumC l
def tsw (pc : Nat) (K : Nat → Prop) (x : Int32) : List Int → Int → Prop
  | [], _ => True
  | o :: l, n => (x.toInt = n → match tg pc o with | some t => K t | none => False) ∧ tsw pc K x l (n + 1)
def opI (I : List KI) (d nL : Nat) (pl : List (Nat × PE)) (ret : Option FieldType) (Q : Option AV → Mem → Prop) (K : Kt) (pc : Nat) (loc : Loc2) (stk : List AV) (σ : Mem) : Instr → Prop
  | .iconst n => K (pc + 1) loc (ai (Int32.ofInt n) :: stk) σ
  | .bipush n => K (pc + 2) loc (ai (Int8.ofInt n).toInt32 :: stk) σ
  | .sipush n => K (pc + 3) loc (ai (Int16.ofInt n).toInt32 :: stk) σ
  | .lconst n => K (pc + 1) loc (al (Int64.ofNat (n : Nat)) :: stk) σ
  | .iload i => sI (fun x => K (pc + 2) loc (ai x :: stk) σ) (lk loc i)
  | .iload_n i => sI (fun x => K (pc + 1) loc (ai x :: stk) σ) (lk loc (i : Nat))
  | .lload i => sJ (fun x => K (pc + 2) loc (al x :: stk) σ) (lk loc i)
  | .lload_n i => sJ (fun x => K (pc + 1) loc (al x :: stk) σ) (lk loc (i : Nat))
  | .aload i => sA (fun q => K (pc + 2) loc (.inr q :: stk) σ) (lk loc i)
  | .aload_n i => sA (fun q => K (pc + 1) loc (.inr q :: stk) σ) (lk loc (i : Nat))
  | .istore i => bif Nat.blt i nL then s1 (fun x r => K (pc + 2) (st1 i (ai x) loc) r σ) stk else False
  | .istore_n i => bif Nat.blt (i : Nat) nL then s1 (fun x r => K (pc + 1) (st1 (i : Nat) (ai x) loc) r σ) stk else False
  | .astore i => match stk with
    | .inr q :: r => bif Nat.blt i nL then K (pc + 2) (st1 i (.inr q) loc) r σ else False
    | _ => False
  | .astore_n i => match stk with
    | .inr q :: r => bif Nat.blt (i : Nat) nL then K (pc + 1) (st1 (i : Nat) (.inr q) loc) r σ else False
    | _ => False
  | .iinc i n => sI (fun x => K (pc + 3) (st1 i (ai (x + Int32.ofInt n)) loc) stk σ) (lk loc i)
  | .iadd => s2 (fun x y r => K (pc + 1) loc (ai (x + y) :: r) σ) stk
  | .isub => s2 (fun x y r => K (pc + 1) loc (ai (x - y) :: r) σ) stk
  | .imul => s2 (fun x y r => K (pc + 1) loc (ai (x * y) :: r) σ) stk
  | .idiv => s2 (fun x y r => ¬ y = 0 ∧ K (pc + 1) loc (ai (x / y) :: r) σ) stk
  | .irem => s2 (fun x y r => ¬ y = 0 ∧ K (pc + 1) loc (ai (x - x / y * y) :: r) σ) stk
  | .iand => s2 (fun x y r => K (pc + 1) loc (ai (x &&& y) :: r) σ) stk
  | .ior => s2 (fun x y r => K (pc + 1) loc (ai (x ||| y) :: r) σ) stk
  | .ixor => s2 (fun x y r => K (pc + 1) loc (ai (x ^^^ y) :: r) σ) stk
  | .ishl => s2 (fun x y r => K (pc + 1) loc (ai (x <<< (y &&& 31)) :: r) σ) stk
  | .ishr => s2 (fun x y r => K (pc + 1) loc (ai (x >>> (y &&& 31)) :: r) σ) stk
  | .iushr => s2 (fun x y r => K (pc + 1) loc (ai (x.toUInt32 >>> (y.toUInt32 &&& Int32.toUInt32 31)).toInt32 :: r) σ) stk
  | .ineg => s1 (fun x r => K (pc + 1) loc (ai (-x) :: r) σ) stk
  | .i2b => s1 (fun x r => K (pc + 1) loc (ai x.toInt8.toInt32 :: r) σ) stk
  | .i2s => s1 (fun x r => K (pc + 1) loc (ai x.toInt16.toInt32 :: r) σ) stk
  | .i2l => s1 (fun x r => K (pc + 1) loc (al x.toInt64 :: r) σ) stk
  | .l2i => match stk with
    | .inl (.long x) :: r => K (pc + 1) loc (ai x.toInt32 :: r) σ
    | _ => False
  | .dup => match stk with
    | v :: r => bif Nat.beq (catA v) 1 then K (pc + 1) loc (v :: v :: r) σ else False
    | _ => False
  | .dup2 => match stk with
    | v :: u :: r => bif Nat.beq (catA v) 1 && Nat.beq (catA u) 1 then K (pc + 1) loc (v :: u :: v :: u :: r) σ else False
    | _ => False
  | .pop => match stk with
    | v :: r => bif Nat.beq (catA v) 1 then K (pc + 1) loc r σ else False
    | _ => False
  | .lcmp => match stk with
    | .inl (.long y) :: .inl (.long x) :: r => K (pc + 1) loc (ai (lg_cmp x y) :: r) σ
    | _ => False
  | .goto off => match tg pc off with
    | some t => K t loc stk σ
    | none => False
  | .if_icmp c off => match tg pc off with
    | some t => s2 (fun x y r => (cmpP c x y → K t loc r σ) ∧ (cmpN c x y → K (pc + 3) loc r σ)) stk
    | none => False
  | .ifCond c off => match tg pc off with
    | some t => s1 (fun x r => (cmpP c x 0 → K t loc r σ) ∧ (cmpN c x 0 → K (pc + 3) loc r σ)) stk
    | none => False
  | .tableswitch dflt lo hi offs => bif Nat.beq offs.size (hi - lo + 1).toNat then
      s1 (fun x r => (x.toInt < lo ∨ hi < x.toInt → match tg pc dflt with | some t => K t loc r σ | none => False) ∧ tsw pc (fun t => K t loc r σ) x offs.toList lo) stk
    else False
  | .ldc idx => match plk pl idx with
    | some (.inr (.inr (.inl v))) => K (pc + 2) loc (ai v :: stk) σ
    | _ => False
  | .ldc_w idx => match plk pl idx with
    | some (.inr (.inr (.inl v))) => K (pc + 3) loc (ai v :: stk) σ
    | _ => False
  | .getfield idx => match plk pl idx with
    | some (.inl (ci, j, _)) => match stk with
      | .inr (k, i) :: r => match kS k with
        | .inl (ci', fl) => bif Nat.beq ci ci' then (match fl[j]? with
          | some none => K (pc + 3) loc (ai (σ.1 k i j) :: r) σ
          | some (some rk) => K (pc + 3) loc (ar rk i :: r) σ
          | none => False) else False
        | _ => False
      | _ => False
    | _ => False
  | .putfield idx => match plk pl idx with
    | some (.inl (ci, j, 1)) => match stk with
      | .inl (.int v) :: .inr (k, i) :: r => match kS k with
        | .inl (ci', fl) => bif Nat.beq ci ci' then (match fl[j]? with
          | some none => K (pc + 3) loc r (wI σ k i j v)
          | _ => False) else False
        | _ => False
      | _ => False
    | some (.inl (ci, j, 2)) => match stk with
      | .inl (.int v) :: .inr (k, i) :: r => match kS k with
        | .inl (ci', fl) => bif Nat.beq ci ci' then (match fl[j]? with
          | some none => (v = 0 ∨ v = 1) ∧ K (pc + 3) loc r (wI σ k i j v)
          | _ => False) else False
        | _ => False
      | _ => False
    | _ => False
  | .iaload => sAI (fun x k i r => match kS k with
    | .inr (0, n, _) => vp_in x n ∧ K (pc + 1) loc (ai (σ.1 k i x.toNatClampNeg) :: r) σ
    | _ => False) stk
  | .baload => sAI (fun x k i r => match kS k with
    | .inr (2, n, _) => vp_in x n ∧ K (pc + 1) loc (ai (σ.1 k i x.toNatClampNeg) :: r) σ
    | _ => False) stk
  | .laload => sAI (fun x k i r => match kS k with
    | .inr (1, n, _) => vp_in x n ∧ K (pc + 1) loc (al (σ.2 k i x.toNatClampNeg) :: r) σ
    | _ => False) stk
  | .aaload => sAI (fun x k _ r => match kS k with
    | .inr (t + 3, n, rk) => bif Nat.ble t 2 then (vp_in x n ∧ K (pc + 1) loc (ar rk x.toNatClampNeg :: r) σ) else False
    | _ => False) stk
  | .iastore => sAII (fun v x k i r => match kS k with
    | .inr (0, n, _) => vp_in x n ∧ K (pc + 1) loc r (wI σ k i x.toNatClampNeg v)
    | _ => False) stk
  | .bastore => sAII (fun v x k i r => match kS k with
    | .inr (2, n, _) => vp_in x n ∧ (v = 0 ∨ v = 1) ∧ K (pc + 1) loc r (wI σ k i x.toNatClampNeg v)
    | _ => False) stk
  | .lastore => match stk with
    | .inl (.long v) :: .inl (.int x) :: .inr (k, i) :: r => match kS k with
      | .inr (1, n, _) => vp_in x n ∧ K (pc + 1) loc r (wL σ k i x.toNatClampNeg v)
      | _ => False
    | _ => False
  | .arraylength => match stk with
    | .inr (k, _) :: r => match kS k with
      | .inr (t, n, _) => bif Nat.ble t 5 then K (pc + 1) loc (ai (Int32.ofNat n) :: r) σ else False
      | _ => False
    | _ => False
  | .invokevirtual idx => match plk pl idx with
    | some (.inr (.inl S)) => match S.2.2.2.2.2 with
      | some ci => match stk.drop S.2.2.2.2.1 with
        | .inr (k, i) :: r => match kS k with
          | .inl (ci', _) => bif Nat.beq ci ci' && Nat.ble (sumC r) 8 then
              opS I d S (.inr (k, i) :: (stk.take S.2.2.2.2.1).reverse) σ (fun v σ' => K (pc + 3) loc (v ++ r) σ') else False
          | _ => False
        | _ => False
      | none => False
    | _ => False
  | .invokestatic idx => match plk pl idx with
    | some (.inr (.inl S)) => match S.2.2.2.2.2 with
      | none => bif Nat.beq (stk.take S.2.2.2.2.1).length S.2.2.2.2.1 && Nat.ble (sumC (stk.drop S.2.2.2.2.1)) 8 then
          opS I d S (stk.take S.2.2.2.2.1).reverse σ (fun v σ' => K (pc + 3) loc (v ++ stk.drop S.2.2.2.2.1) σ') else False
      | some _ => False
    | some (.inr (.inr (.inr (.inr 2)))) => match stk with
      | .inl (.int x) :: .inr (k, i) :: r => bif Nat.ble (sumC r) 8 && (Nat.beq k 29 && Nat.beq i 0) then (¬ x < 0 ∧ ∀ v, K (pc + 3) loc (ai v :: r) σ) else False
      | _ => False
    | some (.inr (.inr (.inr (.inr 1)))) => s2 (fun x y r => bif Nat.ble (sumC r) 8 then K (pc + 3) loc (ai (if y < x then y else x) :: r) σ else False) stk
    | some (.inr (.inr (.inr (.inr 0)))) => match stk with
      | .inl (.int n) :: .inl (.int dp) :: .inr (k, i) :: .inl (.int sp) :: .inr (k0, i0) :: r => match kS k, kS k0 with
        | .inr (1, n1, _), .inr (1, n0, _) => bif Nat.ble (sumC r) 8 then
            (¬ sp < 0 ∧ ¬ dp < 0 ∧ ¬ n < 0 ∧ sp.toNatClampNeg + n.toNatClampNeg ≤ n0 ∧ dp.toNatClampNeg + n.toNatClampNeg ≤ n1 ∧ K (pc + 3) loc r (cpL σ k0 i0 k i sp.toNatClampNeg dp.toNatClampNeg n.toNatClampNeg)) else False
        | _, _ => False
      | _ => False
    | _ => False
  | .ireturn => match stk with
    | [.inl (.int v)] => match ret with
      | some .int => Q (some (ai v)) σ
      | some .boolean => (v = 0 ∨ v = 1) ∧ Q (some (ai v)) σ
      | _ => False
    | _ => False
  | .lreturn => match stk with
    | [.inl (.long v)] => match ret with
      | some .long => Q (some (al v)) σ
      | _ => False
    | _ => False
  | .areturn => match stk with
    | [.inr q] => match ret with
      | some (.object _) => Q (some (.inr q)) σ
      | _ => False
    | _ => False
  | .return_ => match stk with
    | [] => match ret with
      | none => Q none σ
      | _ => False
    | _ => False
  | _ => False
/-- how many bytes an instruction of a plain kind takes -/
def ilen : Instr → Nat
  | .bipush _ | .iload _ | .lload _ | .aload _ | .istore _ | .astore _ | .ldc _ => 2
  | .sipush _ | .iinc _ _ | .goto _ | .if_icmp _ _ | .ifCond _ _ | .ldc_w _ | .getfield _ | .putfield _ | .invokevirtual _ | .invokestatic _ => 3
  | _ => 1
def isTs : Instr → Bool
  | .tableswitch _ _ _ _ => true
  | _ => false
/-- the locals that a cut keeps -/
def pickL (loc : Loc2) : List Nat → Loc2
  | [] => []
  | i :: l => match lk loc i with
    | some v => (i, v) :: pickL loc l
    | none => pickL loc l
def cutN : List (Nat × List Nat) → Nat → Option (List Nat)
  | [], _ => none
  | (a, l) :: r, n => bif Nat.beq a n then some l else cutN r n
def wp (I : List KI) (M : MR) (d : Nat) (cuts : List (Nat × List Nat)) (Q : Option AV → Mem → Prop) : Nat → Kt
  | 0 => fun _ _ _ _ => False
  | n + 1 => fun pc loc stk σ => match M.2.2 pc with
    | some (ins, len) => bif Nat.beq len (ilen ins) || isTs ins then
        opI I d M.1.2.2.1 M.2.1 M.1.2.2.2.1 Q (fun pc' loc' stk' σ' => match cutN cuts pc' with
          | some l => J I M (d + 1) pc' (pickL loc' l) stk' σ' Q
          | none => wp I M d cuts Q n pc' loc' stk' σ') pc loc stk σ ins else False
    | none => False
/-! soundness: each instruction's transformer leads to the machine's judgement -/
theorem catA_toV (ρ : Nat → Nat → Nat) : ∀ v : AV, (toV ρ v).category = catA v
  | .inl _ => rfl
  | .inr _ => rfl
theorem toL_st1 (ρ : Nat → Nat → Nat) (i : Nat) (v : AV) (l : Loc2) : (i, toV ρ v) :: (toL ρ l).filter (fun q => !(q.1 == i) && !(q.1 + 1 == i && q.2.category == 2)) = toL ρ (st1 i v l) := by
  simp [st1, toL, List.filter_map, Function.comp_def, catA_toV]
theorem lk_mem : ∀ {l : Loc2} {i : Nat} {v : AV}, lk l i = some v → (i, v) ∈ l
  | [], _, _, h => by cases h
  | (j, u) :: l, i, v, h => by
    unfold lk at h
    cases hb : Nat.beq j i with
    | true =>
      rw [hb] at h
      have e := Nat.eq_of_beq_eq_true hb
      cases h
      rw [e]
      exact List.mem_cons_self
    | false =>
      rw [hb] at h
      exact List.mem_cons_of_mem _ (lk_mem h)
theorem lk_at {ρ : Nat → Nat → Nat} {ls : Array Slot} {nL i : Nat} {loc : Loc2} {v : AV} (hl : lv_has ls nL (toL ρ loc)) (h : lk loc i = some v) : ls[i]? = some (.val (toV ρ v)) :=
  hl.2.2 (i, toV ρ v) (List.mem_map.mpr ⟨(i, v), lk_mem h, rfl⟩)
theorem okL_lk {I : List KI} {loc : Loc2} {i : Nat} {v : AV} (h : okL I loc) (hk : lk loc i = some v) : okV I v := h (i, v) (lk_mem hk)
theorem okL_st1 {I : List KI} {loc : Loc2} {i : Nat} {v : AV} (h : okL I loc) (hv : okV I v) : okL I (st1 i v loc) := by
  intro q hq
  rcases List.mem_cons.mp hq with rfl | hq
  · exact hv
  · exact h q (List.mem_filter.mp hq).1
theorem okS_c {I : List KI} {v : AV} {l : List AV} (h : okV I v) (hl : okS I l) : okS I (v :: l) := fun u hu => (List.mem_cons.mp hu).elim (fun e => e ▸ h) (hl u)
theorem okI {I : List KI} {x : Value} : okV I (.inl x) := trivial
theorem okS_i {I : List KI} {x : Value} {l : List AV} (hl : okS I l) : okS I (.inl x :: l) := okS_c okI hl
theorem okS_t {I : List KI} {v : AV} {l : List AV} (h : okS I (v :: l)) : okS I l := fun u hu => h u (List.mem_cons_of_mem _ hu)
theorem okS_h {I : List KI} {v : AV} {l : List AV} (h : okS I (v :: l)) : okV I v := h v List.mem_cons_self
theorem okS_app {I : List KI} {a b : List AV} (h : okS I a) (h2 : okS I b) : okS I (a ++ b) := fun u hu => (List.mem_append.mp hu).elim (h u) (h2 u)
theorem sI_inv {K : Int32 → Prop} {o : Option AV} (h : sI K o) : ∃ x, o = some (ai x) ∧ K x := by
  unfold sI at h
  split at h
  · exact ⟨_, rfl, h⟩
  · exact h.elim
theorem sJ_inv {K : Int64 → Prop} {o : Option AV} (h : sJ K o) : ∃ x, o = some (al x) ∧ K x := by
  unfold sJ at h
  split at h
  · exact ⟨_, rfl, h⟩
  · exact h.elim
theorem sA_inv {K : KI → Prop} {o : Option AV} (h : sA K o) : ∃ q, o = some (.inr q) ∧ K q := by
  unfold sA at h
  split at h
  · exact ⟨_, rfl, h⟩
  · exact h.elim
theorem s1_inv {K : Int32 → List AV → Prop} {l : List AV} (h : s1 K l) : ∃ x r, l = ai x :: r ∧ K x r := by
  unfold s1 at h
  split at h
  · exact ⟨_, _, rfl, h⟩
  · exact h.elim
theorem s2_inv {K : Int32 → Int32 → List AV → Prop} {l : List AV} (h : s2 K l) : ∃ x y r, l = ai y :: ai x :: r ∧ K x y r := by
  unfold s2 at h
  split at h
  · exact ⟨_, _, _, rfl, h⟩
  · exact h.elim
theorem sAI_inv {K : Int32 → Nat → Nat → List AV → Prop} {l : List AV} (h : sAI K l) : ∃ x k i r, l = ai x :: ar k i :: r ∧ K x k i r := by
  unfold sAI at h
  split at h
  · exact ⟨_, _, _, _, rfl, h⟩
  · exact h.elim
theorem sAII_inv {K : Int32 → Int32 → Nat → Nat → List AV → Prop} {l : List AV} (h : sAII K l) : ∃ v x k i r, l = ai v :: ai x :: ar k i :: r ∧ K v x k i r := by
  unfold sAII at h
  split at h
  · exact ⟨_, _, _, _, _, rfl, h⟩
  · exact h.elim
theorem tg_eq {pc t : Nat} {off : Int} (h : tg pc off = some t) : (pc : Int) + off = (t : Int) := by
  unfold tg at h
  split at h
  next n e => cases h; exact e
  next => cases h
theorem bif_inv {b : Bool} {P : Prop} (h : bif b then P else False) : b = true ∧ P := by
  cases b
  · exact h.elim
  · exact ⟨rfl, h⟩
theorem sumC_eq (ρ : Nat → Nat → Nat) : ∀ l : List AV, ((l.map (toV ρ)).map fun v => v.category).sum = sumC l
  | [] => rfl
  | v :: l => by
    simp only [List.map_cons, List.sum_cons, sumC, catA_toV]
    rw [← sumC_eq ρ l]
section Sound
variable {I : List KI} {M : MR} {d pc : Nat} {loc : Loc2} {stk : List AV} {σ : Mem} {Q : Option AV → Mem → Prop}
/-- a step that changes neither memory nor locals -/
theorem J_pure {pc' : Nat} {stk' : List AV} (hs : ∀ (ρ : Nat → Nat → Nat) (p : Program) (l : Launch) (e : Env) (R : Room) (s : State) (m : MethodId) (args : Array Value) (below : List Frame) (meth : Method) (c : Code) (H : Heap) (locs : List Loc) (cells slots : Nat) (Qf : State → Prop) (ls : Array Slot), p.tables.exec = Jvm.exec → c.code = M.1.2.1 → s.vm.findClass M.1.1.cls = some m.cls → (∀ w ∈ TB, w.before args s = true) → lv_has ls M.1.2.2.1 (toL ρ loc) →
      W p l e R s m args below meth c H locs cells slots Qf (F0 m pc' ls (stk'.map (toV ρ))) → W p l e R s m args below meth c H locs cells slots Qf (F0 m pc ls (stk.map (toV ρ))))
    (hok : okL I loc → okS I stk → okS I stk') (k : J I M d pc' loc stk' σ Q) : J I M d pc loc stk σ Q := by
  intro hX p l e R s m args below meth c D cy ρ A cells slots H locs ls C h1 h2 hP hD hS hl hokl hoks
  exact hs ρ p l e R s m args below meth c H locs cells slots _ ls C.1 C.2.1 C.2.2.2.2.2.1 C.2.2.2.2.2.2.1 hl (k hX p l e R s m args below meth c D cy ρ A cells slots H locs ls C h1 h2 hP hD hS hl hokl (hok hokl hoks))
/-- a step that writes a local -/
theorem J_loc {pc' i : Nat} {v : AV} {stk' : List AV} (hs : ∀ (ρ : Nat → Nat → Nat) (p : Program) (l : Launch) (e : Env) (R : Room) (s : State) (m : MethodId) (args : Array Value) (below : List Frame) (meth : Method) (c : Code) (H : Heap) (locs : List Loc) (cells slots : Nat) (Qf : State → Prop) (ls : Array Slot), p.tables.exec = Jvm.exec → c.code = M.1.2.1 → lv_has ls M.1.2.2.1 (toL ρ loc) →
      (∀ ls' : Array Slot, lv_has ls' M.1.2.2.1 (toL ρ (st1 i v loc)) → W p l e R s m args below meth c H locs cells slots Qf (F0 m pc' ls' (stk'.map (toV ρ)))) → W p l e R s m args below meth c H locs cells slots Qf (F0 m pc ls (stk.map (toV ρ))))
    (hok : okL I loc → okS I stk → okV I v ∧ okS I stk') (k : J I M d pc' (st1 i v loc) stk' σ Q) : J I M d pc loc stk σ Q := by
  intro hX p l e R s m args below meth c D cy ρ A cells slots H locs ls C h1 h2 hP hD hS hl hokl hoks
  exact hs ρ p l e R s m args below meth c H locs cells slots _ ls C.1 C.2.1 hl (fun ls' hl' => k hX p l e R s m args below meth c D cy ρ A cells slots H locs ls' C h1 h2 hP hD hS hl' (okL_st1 hokl (hok hokl hoks).1) (hok hokl hoks).2)
/-- a branch -/
theorem J_br {t : Nat} {stk' : List AV} {P N : Prop} (hs : ∀ (ρ : Nat → Nat → Nat) (p : Program) (l : Launch) (e : Env) (R : Room) (s : State) (m : MethodId) (args : Array Value) (below : List Frame) (meth : Method) (c : Code) (H : Heap) (locs : List Loc) (cells slots : Nat) (Qf : State → Prop) (ls : Array Slot), p.tables.exec = Jvm.exec → c.code = M.1.2.1 →
      (P → W p l e R s m args below meth c H locs cells slots Qf (F0 m t ls (stk'.map (toV ρ)))) → (N → W p l e R s m args below meth c H locs cells slots Qf (F0 m (pc + 3) ls (stk'.map (toV ρ)))) → W p l e R s m args below meth c H locs cells slots Qf (F0 m pc ls (stk.map (toV ρ))))
    (hok : okS I stk → okS I stk') (k1 : P → J I M d t loc stk' σ Q) (k2 : N → J I M d (pc + 3) loc stk' σ Q) : J I M d pc loc stk σ Q := by
  intro hX p l e R s m args below meth c D cy ρ A cells slots H locs ls C h1 h2 hP hD hS hl hokl hoks
  exact hs ρ p l e R s m args below meth c H locs cells slots _ ls C.1 C.2.1 (fun h => k1 h hX p l e R s m args below meth c D cy ρ A cells slots H locs ls C h1 h2 hP hD hS hl hokl (hok hoks)) (fun h => k2 h hX p l e R s m args below meth c D cy ρ A cells slots H locs ls C h1 h2 hP hD hS hl hokl (hok hoks))
theorem J_cmp {K : Kt} {cd : Jvm.ClassFile.Cond} {off : Int} {t : Nat} (hdg : decode M.1.2.1 pc = .ok (.if_icmp cd off, 3)) (ht : tg pc off = some t) {x y : Int32} {r : List AV} (k1 : cmpP cd x y → J I M d t loc r σ Q) (k2 : cmpN cd x y → J I M d (pc + 3) loc r σ Q) : J I M d pc loc (ai y :: ai x :: r) σ Q := by
  have ht' := tg_eq ht
  refine J_br (P := cmpP cd x y) (N := cmpN cd x y) (t := t) (stk' := r) ?_ (fun h => okS_t (okS_t h)) k1 k2
  intro ρ p l e R s m args below meth c H locs cells slots Qf ls hx hb q1 q2
  cases cd
  · exact lv_icmp_eq (tgt := t) hx hb hdg ht' q1 q2
  · exact lv_icmp_ne (tgt := t) hx hb hdg ht' q1 q2
  · exact lv_icmp_lt (tgt := t) hx hb hdg ht' q1 q2
  · exact lv_icmp_ge (tgt := t) hx hb hdg ht' q1 q2
  · exact lv_icmp_gt (tgt := t) hx hb hdg ht' q1 q2
  · exact lv_icmp_le (tgt := t) hx hb hdg ht' q1 q2
theorem J_if0 {cd : Jvm.ClassFile.Cond} {off : Int} {t : Nat} (hdg : decode M.1.2.1 pc = .ok (.ifCond cd off, 3)) (ht : tg pc off = some t) {x : Int32} {r : List AV} (k1 : cmpP cd x 0 → J I M d t loc r σ Q) (k2 : cmpN cd x 0 → J I M d (pc + 3) loc r σ Q) : J I M d pc loc (ai x :: r) σ Q := by
  have ht' := tg_eq ht
  refine J_br (P := cmpP cd x 0) (N := cmpN cd x 0) (t := t) (stk' := r) ?_ (fun h => okS_t h) k1 k2
  intro ρ p l e R s m args below meth c H locs cells slots Qf ls hx hb q1 q2
  cases cd
  · exact lv_if_eq (tgt := t) hx hb hdg ht' q1 q2
  · exact lv_if_ne (tgt := t) hx hb hdg ht' q1 q2
  · exact lv_if_lt (tgt := t) hx hb hdg ht' q1 q2
  · exact lv_if_ge (tgt := t) hx hb hdg ht' q1 q2
  · exact lv_if_gt (tgt := t) hx hb hdg ht' q1 q2
  · exact lv_if_le (tgt := t) hx hb hdg ht' q1 q2
/-- two ints into one -/
theorem J_bin {x y : Int32} {f : Int32 → Int32 → Int32} (hs : ∀ (p : Program) (l : Launch) (e : Env) (R : Room) (s : State) (m : MethodId) (args : Array Value) (below : List Frame) (meth : Method) (c : Code) (H : Heap) (locs : List Loc) (cells slots : Nat) (Qf : State → Prop) (ls : Array Slot) (rest : List Value), p.tables.exec = Jvm.exec → c.code = M.1.2.1 →
      W p l e R s m args below meth c H locs cells slots Qf (F0 m (pc + 1) ls (.int (f x y) :: rest)) → W p l e R s m args below meth c H locs cells slots Qf (F0 m pc ls (.int y :: .int x :: rest))) {r : List AV} (k : J I M d (pc + 1) loc (ai (f x y) :: r) σ Q) : J I M d pc loc (ai y :: ai x :: r) σ Q :=
  J_pure (fun ρ p l e R s m args below meth c H locs cells slots Qf ls hx hb _ _ _ k => hs p l e R s m args below meth c H locs cells slots Qf ls (r.map (toV ρ)) hx hb k) (fun _ h => okS_i (okS_t (okS_t h))) k
end Sound
/-! what a method and its pool must be -/
def Sok (S : SR) : Prop := Jvm.Cond.code S.1 S.2.1 S.2.2.1 S.2.2.2.1 ∈ TB ∧ Jvm.Cond.initialized S.1.cls ∈ TB ∧ (S.1.cls ≠ "java/lang/invoke/MethodHandle" ∧ S.1.cls ≠ "java/lang/invoke/VarHandle" ∧ (parseMethodDescriptor S.1.desc).map (fun d => d.parameters.length) = some S.2.2.2.2.1) ∧ S.2.2.1 ≤ 21 ∧ plainName S.1.cls = true ∧ (match S.2.2.2.2.2 with
  | none => Jvm.Cond.static S.1 ∈ TB
  | some ci => Jvm.Cond.instanceMethod S.1 ∈ TB ∧ Jvm.Cond.selects S.1.cls S.1 S.1 ∈ TB ∧ (vwCl[ci]?).map (fun q => q.1) = some S.1.cls)
def PEok (own : String) (idx : Nat) : PE → Prop
  | .inl (ci, j, w) => ∃ (C : String) (T : u_T) (N : Nat), vwCl[ci]? = some (C, T, N) ∧ (∀ x ∈ u_ws C T N, x ∈ TB) ∧ j < N ∧ (Jvm.Cond.fieldLink own idx (T j).1 (T j).2.1 (T j).2.2.1 ∈ TB ∨ ∃ host, (own, idx, (T j).1, (T j).2.1, (T j).2.2.1, host) ∈ NWf) ∧ (∃ ty : Nat → FieldType, (∀ k, k < N → parseFieldDescriptor (T k).2.2.1 = some (ty k)) ∧ (w = 1 → ty j = .int) ∧ (w = 2 → ty j = .boolean)) ∧ (∀ a, a < N → ∀ b, b < N → a ≠ b → (T a).2.1 ≠ (T b).2.1) ∧ (0 < w → (T j).2.2.2 = false)
  | .inr (.inl S) => Sok S ∧ (Jvm.Cond.methodLink own idx S.1 ∈ TB ∨ ∃ host, (own, idx, S.1, host) ∈ NWm)
  | .inr (.inr (.inl v)) => Jvm.Cond.constant own idx v ∈ TB
  | .inr (.inr (.inr (.inl v))) => Jvm.Cond.constantLong own idx v ∈ TB
  | .inr (.inr (.inr (.inr 0))) => Jvm.Cond.methodLink own idx arraycopyName ∈ TB ∧ Jvm.Cond.native arraycopyName ∈ TB ∧ Jvm.Cond.static arraycopyName ∈ TB ∧ Jvm.Cond.initialized "java/lang/System" ∈ TB
  | .inr (.inr (.inr (.inr 2))) => Jvm.Cond.methodLink own idx yL_at ∈ TB ∧ Jvm.Cond.static yL_at ∈ TB ∧ Jvm.Cond.initialized "TownFolkLaw" ∈ TB ∧ Jvm.Cond.code yL_at cL_at 2 (some .int) ∈ TB
  | .inr (.inr (.inr (.inr 1))) => Jvm.Cond.methodLink own idx Lib.Math.min.name ∈ TB ∧ Jvm.Cond.static Lib.Math.min.name ∈ TB ∧ Jvm.Cond.initialized "java/lang/Math" ∈ TB ∧ Jvm.Cond.code Lib.Math.min.name Lib.Math.min.code 2 (some .int) ∈ TB
  | _ => False
def MOK (M : MR) : Prop := (∀ pc q, M.2.2 pc = some q → decode M.1.2.1 pc = .ok q) ∧ (∀ q ∈ M.2.1, PEok M.1.1.cls q.1 q.2) ∧ (noAt M.2.1 || scM M) = true
def LC (I : List KI) : Prop := ∀ q ∈ I, match kS q.1 with
  | .inl (_, fl) => ∀ rk, some rk ∈ fl → (rk, q.2) ∈ I
  | .inr (t, n, rk) => 3 ≤ t → ∀ j, j < n → (rk, j) ∈ I
def OKI (I : List KI) : Prop := I.Nodup ∧ LC I
theorem plk_mem : ∀ {l : List (Nat × PE)} {i : Nat} {e : PE}, plk l i = some e → (i, e) ∈ l
  | [], _, _, h => by cases h
  | (j, u) :: l, i, e, h => by
    unfold plk at h
    cases hb : Nat.beq j i with
    | true =>
      rw [hb] at h
      have e := Nat.eq_of_beq_eq_true hb
      cases h
      rw [e]
      exact List.mem_cons_self
    | false =>
      rw [hb] at h
      exact List.mem_cons_of_mem _ (plk_mem h)
theorem tys_at (cy : Nat → ClassId) {t : Nat} (h : t ≤ 5) : (tysOf cy)[t]? = some (cy t, tyT t) := by
  match t, h with
  | 0, _ => rfl
  | 1, _ => rfl
  | 2, _ => rfl
  | 3, _ => rfl
  | 4, _ => rfl
  | 5, _ => rfl
  | n + 6, h => omega
theorem ent_obj {cy : Nat → ClassId} {ρ : Nat → Nat → Nat} {σ : Mem} {k i ci : Nat} {fl : List (Option Nat)} (h : kS k = .inl (ci, fl)) : ent kS cy ρ σ k i = .inr (ci, entF ρ σ k i 0 fl) := by
  unfold ent
  rw [h]
theorem ent_a0 {cy : Nat → ClassId} {ρ : Nat → Nat → Nat} {σ : Mem} {k i n r : Nat} (h : kS k = .inr (0, n, r)) : ent kS cy ρ σ k i = .inl (cy 0, n, .inl (σ.1 k i)) := by
  unfold ent
  rw [h]
theorem ent_a1 {cy : Nat → ClassId} {ρ : Nat → Nat → Nat} {σ : Mem} {k i n r : Nat} (h : kS k = .inr (1, n, r)) : ent kS cy ρ σ k i = .inl (cy 1, n, .inr (.inl (σ.2 k i))) := by
  unfold ent
  rw [h]
theorem ent_a2 {cy : Nat → ClassId} {ρ : Nat → Nat → Nat} {σ : Mem} {k i n r : Nat} (h : kS k = .inr (2, n, r)) : ent kS cy ρ σ k i = .inl (cy 2, n, .inl (σ.1 k i)) := by
  unfold ent
  rw [h]
theorem ent_a3 {cy : Nat → ClassId} {ρ : Nat → Nat → Nat} {σ : Mem} {k i n r t : Nat} (h : kS k = .inr (t + 3, n, r)) : ent kS cy ρ σ k i = .inl (cy (t + 3), n, .inr (.inr (.inr (.inr (fun j => some (ρ r j)))))) := by
  unfold ent
  rw [h]
theorem wI_k {σ : Mem} {k i j : Nat} {v : Int32} (f : Nat → Int32) (hf : f = σ.1 k i) : upd f j v = (wI σ k i j v).1 k i := by
  funext q
  by_cases h : q = j <;> simp [wI_r, upd, h, hf]
theorem wL_k {σ : Mem} {k i j : Nat} {v : Int64} (f : Nat → Int64) (hf : f = σ.2 k i) : vp_updL f j v = (wL σ k i j v).2 k i := by
  funext q
  by_cases h : q = j <;> simp [wL_r, vp_updL, h, hf]
theorem wI_o {cy : Nat → ClassId} {ρ : Nat → Nat → Nat} {σ : Mem} {k i j : Nat} {v : Int32} (k' i' : Nat) (h : ¬ (k' = k ∧ i' = i)) : ent kS cy ρ σ k' i' = ent kS cy ρ (wI σ k i j v) k' i' := by
  refine ent_congr (fun q => ?_) (fun q => rfl)
  rw [wI_r, if_neg (fun z => h ⟨z.1, z.2.1⟩)]
theorem wL_o {cy : Nat → ClassId} {ρ : Nat → Nat → Nat} {σ : Mem} {k i j : Nat} {v : Int64} (k' i' : Nat) (h : ¬ (k' = k ∧ i' = i)) : ent kS cy ρ σ k' i' = ent kS cy ρ (wL σ k i j v) k' i' := by
  refine ent_congr (fun q => rfl) (fun q => ?_)
  rw [wL_r, if_neg (fun z => h ⟨z.1, z.2.1⟩)]
theorem cpL_o {cy : Nat → ClassId} {ρ : Nat → Nat → Nat} {σ : Mem} {k0 i0 k i sp dp n : Nat} (k' i' : Nat) (h : ¬ (k' = k ∧ i' = i)) : ent kS cy ρ σ k' i' = ent kS cy ρ (cpL σ k0 i0 k i sp dp n) k' i' := by
  refine ent_congr (fun q => rfl) (fun q => ?_)
  rw [cpL_r, if_neg h]
section Sound2
variable {I : List KI} {M : MR} {d pc : Nat} {loc : Loc2} {σ : Mem} {Q : Option AV → Mem → Prop} {r : List AV}
theorem place_of {k i : Nat} (h : (k, i) ∈ I) : ∃ n : Nat, I[n]? = some (k, i) := List.getElem?_of_mem h
theorem J_getI (hM : MOK M) {idx ci j w k i : Nat} {fl : List (Option Nat)} (hp : plk M.2.1 idx = some (.inl (ci, j, w))) (hk : kS k = .inl (ci, fl)) (hj : fl[j]? = some none) (hdg : decode M.1.2.1 pc = .ok (.getfield idx, 3)) (k1 : J I M d (pc + 3) loc (ai (σ.1 k i j) :: r) σ Q) : J I M d pc loc (ar k i :: r) σ Q := by
  obtain ⟨C, T, N, hc, hin, hjN, hw, -⟩ := hM.2.1 _ (plk_mem hp)
  intro hX p l e R s m args below meth c D cy ρ A cells slots H locs ls Cx h1 h2 hP hD hS hl hokl hoks
  obtain ⟨n, hn⟩ := place_of (okM (okS_h hoks) (by rw [hk]; nofun))
  obtain ⟨hx, hb, hml, hr, hlocks, hown, hts, hA, hfr, hlo, hNw, hK, hSC⟩ := id Cx
  have he := wl_get (ks := kS) (cy := cy) (ρ := ρ) hn σ
  rw [ent_obj hk] at he
  have kk := k1 hX p l e R s m args below meth c D cy ρ A cells slots H locs ls Cx h1 h2 hP hD hS hl hokl (okS_i (okS_t hoks))
  rcases hw with hw | ⟨host, hw⟩
  · exact va_get (D := D) (ci := ci) (v := .int (σ.1 k i j)) hx hb hts hin hown hK hP n he hc j hjN (hts _ hw) (fun _ h => h) (by rw [entF_get, hj]; simp) hdg kk
  · exact va_getN (D := D) (host := host) (ci := ci) (v := .int (σ.1 k i j)) hx hb hts hin hown hK hP n he hc j hjN (va_Nw.use rfl (hNw.1 _ hw)) (fun _ h => h) (by rw [entF_get, hj]; simp) hdg kk
theorem J_getR (hI : OKI I) (hM : MOK M) {idx ci j w k i rk : Nat} {fl : List (Option Nat)} (hp : plk M.2.1 idx = some (.inl (ci, j, w))) (hk : kS k = .inl (ci, fl)) (hj : fl[j]? = some (some rk)) (hdg : decode M.1.2.1 pc = .ok (.getfield idx, 3)) (k1 : J I M d (pc + 3) loc (ar rk i :: r) σ Q) : J I M d pc loc (ar k i :: r) σ Q := by
  obtain ⟨C, T, N, hc, hin, hjN, hw, -⟩ := hM.2.1 _ (plk_mem hp)
  intro hX p l e R s m args below meth c D cy ρ A cells slots H locs ls Cx h1 h2 hP hD hS hl hokl hoks
  have hki : (k, i) ∈ I := okM (okS_h hoks) (by rw [hk]; nofun)
  obtain ⟨n, hn⟩ := place_of hki
  obtain ⟨hx, hb, hml, hr, hlocks, hown, hts, hA, hfr, hlo, hNw, hK, hSC⟩ := id Cx
  have he := wl_get (ks := kS) (cy := cy) (ρ := ρ) hn σ
  rw [ent_obj hk] at he
  have hrk : (rk, i) ∈ I := by
    have := hI.2 _ hki
    rw [hk] at this
    exact this rk (List.mem_of_getElem? hj)
  have kk := k1 hX p l e R s m args below meth c D cy ρ A cells slots H locs ls Cx h1 h2 hP hD hS hl hokl (okS_c (Or.inl hrk) (okS_t hoks))
  rcases hw with hw | ⟨host, hw⟩
  · exact va_get (D := D) (ci := ci) (v := .ref (ρ rk i)) hx hb hts hin hown hK hP n he hc j hjN (hts _ hw) (fun _ h => h) (by rw [entF_get, hj]; simp) hdg kk
  · exact va_getN (D := D) (host := host) (ci := ci) (v := .ref (ρ rk i)) hx hb hts hin hown hK hP n he hc j hjN (va_Nw.use rfl (hNw.1 _ hw)) (fun _ h => h) (by rw [entF_get, hj]; simp) hdg kk
theorem nar_bool {v : Int32} (h : v = 0 ∨ v = 1) : narrow .boolean (.int v) = .int v ∧ fits .boolean (.int v) = true := by
  rcases h with rfl | rfl <;> exact ⟨rfl, rfl⟩
theorem J_putI (hI : OKI I) (hM : MOK M) {idx ci j w k i : Nat} {fl : List (Option Nat)} {v : Int32} (hp : plk M.2.1 idx = some (.inl (ci, j, w))) (hw12 : w = 1 ∨ (w = 2 ∧ (v = 0 ∨ v = 1))) (hk : kS k = .inl (ci, fl)) (hj : fl[j]? = some none) (hdg : decode M.1.2.1 pc = .ok (.putfield idx, 3)) (k1 : J I M d (pc + 3) loc r (wI σ k i j v) Q) : J I M d pc loc (ai v :: ar k i :: r) σ Q := by
  obtain ⟨C, T, N, hc, hin, hjN, hw, ⟨ty, hty, ht1, ht2⟩, hnm, hfin⟩ := hM.2.1 _ (plk_mem hp)
  intro hX p l e R s m args below meth c D cy ρ A cells slots H locs ls Cx h1 h2 hP hD hS hl hokl hoks
  have hki : (k, i) ∈ I := okM (okS_h (okS_t hoks)) (by rw [hk]; intro z; simp at z; try omega)
  obtain ⟨n, hn⟩ := place_of hki
  obtain ⟨hx, hb, hml, hr, hlocks, hown, hts, hA, hfr, hlo, hNw, hK, hSC⟩ := id Cx
  have he := wl_get (ks := kS) (cy := cy) (ρ := ρ) hn σ
  rw [ent_obj hk] at he
  have hnf : narrow (ty j) (.int v) = .int v ∧ fits (ty j) (.int v) = true := by
    rcases hw12 with h | ⟨h, hv⟩
    · rw [ht1 h]; exact ⟨rfl, rfl⟩
    · rw [ht2 h]; exact nar_bool hv
  have kk : ∀ (H1 : Heap) (locs1 : List Loc), va_P D vwCl ((wl kS cy ρ I σ).set n (ρ k i, .inr (ci, (entF ρ σ k i 0 fl).set j (.int v)))) H1 → va_D A ((wl kS cy ρ I σ).set n (ρ k i, .inr (ci, (entF ρ σ k i 0 fl).set j (.int v)))) → va_S A s.heap H1 locs1 → W p l e R s m args below meth c H1 locs1 cells slots (MQ below (QQ I D cy ρ A Q) args s cells slots A) (F0 m (pc + 3) ls (r.map (toV ρ))) := by
    intro H1 locs1 hP1 hD1 hS1
    have e1 := wl_set (ks := kS) (cy := cy) (ρ := ρ) hI.1 hn (σ := σ) (σ' := wI σ k i j v) (e := .inr (ci, (entF ρ σ k i 0 fl).set j (.int v))) (by rw [ent_obj hk, entF_set hj]) (fun k' i' h => wI_o k' i' h)
    rw [e1] at hP1 hD1
    exact k1 hX p l e R s m args below meth c D cy ρ A cells slots H1 locs1 ls Cx h1 h2 hP1 hD1 hS1 hl hokl (okS_t (okS_t hoks))
  rcases hw with hw | ⟨host, hw⟩
  · exact va_put (D := D) (ci := ci) (v := .int v) (ty := ty j) hx hb hts hin ty hty hnm hown hK hP hD hS n he hc j hjN (hts _ hw) (fun _ h => h) (hfin (by rcases hw12 with h | ⟨h, -⟩ <;> omega)) (hty j hjN) hnf.1 hnf.2 (by rw [entF_len]; exact (List.getElem?_eq_some_iff.mp hj).1) hdg kk
  · exact va_putN (D := D) (host := host) (ci := ci) (v := .int v) (ty := ty j) hx hb hts hin ty hty hnm hown hK hP hD hS n he hc j hjN (va_Nw.use rfl (hNw.1 _ hw)) (fun _ h => h) (hfin (by rcases hw12 with h | ⟨h, -⟩ <;> omega)) (hty j hjN) hnf.1 hnf.2 (by rw [entF_len]; exact (List.getElem?_eq_some_iff.mp hj).1) hdg kk
theorem J_iald {k i n q : Nat} {x : Int32} (hk : kS k = .inr (0, n, q)) (hx0 : vp_in x n) (hdg : decode M.1.2.1 pc = .ok (.iaload, 1)) (k1 : J I M d (pc + 1) loc (ai (σ.1 k i x.toNatClampNeg) :: r) σ Q) : J I M d pc loc (ai x :: ar k i :: r) σ Q := by
  intro hX p l e R s m args below meth c D cy ρ A cells slots H locs ls Cx h1 h2 hP hD hS hl hokl hoks
  obtain ⟨z, hn⟩ := place_of (okM (okS_h (okS_t hoks)) (by rw [hk]; nofun))
  obtain ⟨hx, hb, hml, hr, hlocks, hown, hts, hA, hfr, hlo, hNw, hK, hSC⟩ := id Cx
  have he := wl_get (ks := kS) (cy := cy) (ρ := ρ) hn σ
  rw [ent_a0 hk] at he
  exact va_iald hx hb hK hP z 0 he (tys_at cy (by decide)) hx0 hdg (k1 hX p l e R s m args below meth c D cy ρ A cells slots H locs ls Cx h1 h2 hP hD hS hl hokl (okS_i (okS_t (okS_t hoks))))
theorem J_zald {k i n q : Nat} {x : Int32} (hk : kS k = .inr (2, n, q)) (hx0 : vp_in x n) (hdg : decode M.1.2.1 pc = .ok (.baload, 1)) (k1 : J I M d (pc + 1) loc (ai (σ.1 k i x.toNatClampNeg) :: r) σ Q) : J I M d pc loc (ai x :: ar k i :: r) σ Q := by
  intro hX p l e R s m args below meth c D cy ρ A cells slots H locs ls Cx h1 h2 hP hD hS hl hokl hoks
  obtain ⟨z, hn⟩ := place_of (okM (okS_h (okS_t hoks)) (by rw [hk]; nofun))
  obtain ⟨hx, hb, hml, hr, hlocks, hown, hts, hA, hfr, hlo, hNw, hK, hSC⟩ := id Cx
  have he := wl_get (ks := kS) (cy := cy) (ρ := ρ) hn σ
  rw [ent_a2 hk] at he
  exact va_zald hx hb hK hP z 2 he (tys_at cy (by decide)) hx0 hdg (k1 hX p l e R s m args below meth c D cy ρ A cells slots H locs ls Cx h1 h2 hP hD hS hl hokl (okS_i (okS_t (okS_t hoks))))
theorem J_lald {k i n q : Nat} {x : Int32} (hk : kS k = .inr (1, n, q)) (hx0 : vp_in x n) (hdg : decode M.1.2.1 pc = .ok (.laload, 1)) (k1 : J I M d (pc + 1) loc (al (σ.2 k i x.toNatClampNeg) :: r) σ Q) : J I M d pc loc (ai x :: ar k i :: r) σ Q := by
  intro hX p l e R s m args below meth c D cy ρ A cells slots H locs ls Cx h1 h2 hP hD hS hl hokl hoks
  obtain ⟨z, hn⟩ := place_of (okM (okS_h (okS_t hoks)) (by rw [hk]; nofun))
  obtain ⟨hx, hb, hml, hr, hlocks, hown, hts, hA, hfr, hlo, hNw, hK, hSC⟩ := id Cx
  have he := wl_get (ks := kS) (cy := cy) (ρ := ρ) hn σ
  rw [ent_a1 hk] at he
  exact va_lald hx hb hK hP z 1 he (tys_at cy (by decide)) hx0 hdg (k1 hX p l e R s m args below meth c D cy ρ A cells slots H locs ls Cx h1 h2 hP hD hS hl hokl (okS_i (okS_t (okS_t hoks))))
theorem J_aald (hI : OKI I) {k i n q t : Nat} {x : Int32} (hk : kS k = .inr (t + 3, n, q)) (ht : t ≤ 2) (hx0 : vp_in x n) (hdg : decode M.1.2.1 pc = .ok (.aaload, 1)) (k1 : J I M d (pc + 1) loc (ar q x.toNatClampNeg :: r) σ Q) : J I M d pc loc (ai x :: ar k i :: r) σ Q := by
  intro hX p l e R s m args below meth c D cy ρ A cells slots H locs ls Cx h1 h2 hP hD hS hl hokl hoks
  have hki : (k, i) ∈ I := okM (okS_h (okS_t hoks)) (by rw [hk]; intro z; simp at z; try omega)
  obtain ⟨z, hn⟩ := place_of hki
  obtain ⟨hx, hb, hml, hr, hlocks, hown, hts, hA, hfr, hlo, hNw, hK, hSC⟩ := id Cx
  have he := wl_get (ks := kS) (cy := cy) (ρ := ρ) hn σ
  rw [ent_a3 hk] at he
  have hrk : (q, x.toNatClampNeg) ∈ I := by
    have := hI.2 _ hki
    rw [hk] at this
    exact this (by omega) _ (Nat.not_le.mp fun z => hx0 (Or.inr z))
  have hty := tys_at cy (t := t + 3) (by omega)
  have kk := k1 hX p l e R s m args below meth c D cy ρ A cells slots H locs ls Cx h1 h2 hP hD hS hl hokl (okS_c (Or.inl hrk) (okS_t (okS_t hoks)))
  match t, ht, hty, he with
  | 0, _, hty, he => exact va_aldq hx hb hK hP z 3 he hty hx0 hdg kk
  | 1, _, hty, he => exact va_aldq hx hb hK hP z 4 he hty hx0 hdg kk
  | 2, _, hty, he => exact va_aldq hx hb hK hP z 5 he hty hx0 hdg kk
theorem J_iast (hI : OKI I) {k i n q : Nat} {x v : Int32} (hk : kS k = .inr (0, n, q)) (hx0 : vp_in x n) (hdg : decode M.1.2.1 pc = .ok (.iastore, 1)) (k1 : J I M d (pc + 1) loc r (wI σ k i x.toNatClampNeg v) Q) : J I M d pc loc (ai v :: ai x :: ar k i :: r) σ Q := by
  intro hX p l e R s m args below meth c D cy ρ A cells slots H locs ls Cx h1 h2 hP hD hS hl hokl hoks
  obtain ⟨z, hn⟩ := place_of (okM (okS_h (okS_t (okS_t hoks))) (by rw [hk]; nofun))
  obtain ⟨hx, hb, hml, hr, hlocks, hown, hts, hA, hfr, hlo, hNw, hK, hSC⟩ := id Cx
  have he := wl_get (ks := kS) (cy := cy) (ρ := ρ) hn σ
  rw [ent_a0 hk] at he
  refine va_iast hx hb hK hP hD hS z 0 he (tys_at cy (by decide)) hx0 hdg (fun H1 locs1 hP1 hD1 hS1 => ?_)
  have e1 := wl_set (ks := kS) (cy := cy) (ρ := ρ) hI.1 hn (σ := σ) (σ' := wI σ k i x.toNatClampNeg v) (by rw [ent_a0 hk, ← wI_k (σ.1 k i) rfl]) (fun k' i' h => wI_o k' i' h)
  rw [e1] at hP1 hD1
  exact k1 hX p l e R s m args below meth c D cy ρ A cells slots H1 locs1 ls Cx h1 h2 hP1 hD1 hS1 hl hokl (okS_t (okS_t (okS_t hoks)))
theorem vpnar_bool {v : Int32} (h : v = 0 ∨ v = 1) : vp_nar .boolean v = v := by
  rcases h with rfl | rfl <;> rfl
theorem J_zast (hI : OKI I) {k i n q : Nat} {x v : Int32} (hk : kS k = .inr (2, n, q)) (hx0 : vp_in x n) (hv : v = 0 ∨ v = 1) (hdg : decode M.1.2.1 pc = .ok (.bastore, 1)) (k1 : J I M d (pc + 1) loc r (wI σ k i x.toNatClampNeg v) Q) : J I M d pc loc (ai v :: ai x :: ar k i :: r) σ Q := by
  intro hX p l e R s m args below meth c D cy ρ A cells slots H locs ls Cx h1 h2 hP hD hS hl hokl hoks
  obtain ⟨z, hn⟩ := place_of (okM (okS_h (okS_t (okS_t hoks))) (by rw [hk]; nofun))
  obtain ⟨hx, hb, hml, hr, hlocks, hown, hts, hA, hfr, hlo, hNw, hK, hSC⟩ := id Cx
  have he := wl_get (ks := kS) (cy := cy) (ρ := ρ) hn σ
  rw [ent_a2 hk] at he
  refine va_zast hx hb hK hP hD hS z 2 he (tys_at cy (by decide)) hx0 hdg (fun H1 locs1 hP1 hD1 hS1 => ?_)
  rw [vpnar_bool hv] at hP1 hD1
  have e1 := wl_set (ks := kS) (cy := cy) (ρ := ρ) hI.1 hn (σ := σ) (σ' := wI σ k i x.toNatClampNeg v) (by rw [ent_a2 hk, ← wI_k (σ.1 k i) rfl]) (fun k' i' h => wI_o k' i' h)
  rw [e1] at hP1 hD1
  exact k1 hX p l e R s m args below meth c D cy ρ A cells slots H1 locs1 ls Cx h1 h2 hP1 hD1 hS1 hl hokl (okS_t (okS_t (okS_t hoks)))
theorem J_last (hI : OKI I) {k i n q : Nat} {x : Int32} {v : Int64} (hk : kS k = .inr (1, n, q)) (hx0 : vp_in x n) (hdg : decode M.1.2.1 pc = .ok (.lastore, 1)) (k1 : J I M d (pc + 1) loc r (wL σ k i x.toNatClampNeg v) Q) : J I M d pc loc (al v :: ai x :: ar k i :: r) σ Q := by
  intro hX p l e R s m args below meth c D cy ρ A cells slots H locs ls Cx h1 h2 hP hD hS hl hokl hoks
  obtain ⟨z, hn⟩ := place_of (okM (okS_h (okS_t (okS_t hoks))) (by rw [hk]; nofun))
  obtain ⟨hx, hb, hml, hr, hlocks, hown, hts, hA, hfr, hlo, hNw, hK, hSC⟩ := id Cx
  have he := wl_get (ks := kS) (cy := cy) (ρ := ρ) hn σ
  rw [ent_a1 hk] at he
  refine va_last hx hb hK hP hD hS z 1 he (tys_at cy (by decide)) hx0 hdg (fun H1 locs1 hP1 hD1 hS1 => ?_)
  have e1 := wl_set (ks := kS) (cy := cy) (ρ := ρ) hI.1 hn (σ := σ) (σ' := wL σ k i x.toNatClampNeg v) (by rw [ent_a1 hk, ← wL_k (σ.2 k i) rfl]) (fun k' i' h => wL_o k' i' h)
  rw [e1] at hP1 hD1
  exact k1 hX p l e R s m args below meth c D cy ρ A cells slots H1 locs1 ls Cx h1 h2 hP1 hD1 hS1 hl hokl (okS_t (okS_t (okS_t hoks)))
theorem J_alen {k i t n q : Nat} (hk : kS k = .inr (t, n, q)) (ht : t ≤ 5) (hdg : decode M.1.2.1 pc = .ok (.arraylength, 1)) (k1 : J I M d (pc + 1) loc (ai (Int32.ofNat n) :: r) σ Q) : J I M d pc loc (ar k i :: r) σ Q := by
  intro hX p l e R s m args below meth c D cy ρ A cells slots H locs ls Cx h1 h2 hP hD hS hl hokl hoks
  obtain ⟨z, hn⟩ := place_of (okM (okS_h hoks) (by rw [hk]; intro z; cases z; omega))
  obtain ⟨hx, hb, hml, hr, hlocks, hown, hts, hA, hfr, hlo, hNw, hK, hSC⟩ := id Cx
  have he := wl_get (ks := kS) (cy := cy) (ρ := ρ) hn σ
  have kk := k1 hX p l e R s m args below meth c D cy ρ A cells slots H locs ls Cx h1 h2 hP hD hS hl hokl (okS_i (okS_t hoks))
  match t, ht, hk with
  | 0, _, hk => rw [ent_a0 hk] at he; exact va_alen hx hb hK hP z 0 he (tys_at cy (by decide)) rfl hdg kk
  | 1, _, hk => rw [ent_a1 hk] at he; exact va_alen hx hb hK hP z 1 he (tys_at cy (by decide)) rfl hdg kk
  | 2, _, hk => rw [ent_a2 hk] at he; exact va_alen hx hb hK hP z 2 he (tys_at cy (by decide)) rfl hdg kk
  | t + 3, ht, hk => rw [ent_a3 hk] at he; exact va_alen hx hb hK hP z (t + 3) he (tys_at cy ht) rfl hdg kk
end Sound2
def gd (n : Nat) (f : Nat → Option (Instr × Nat)) (pc : Nat) : Option (Instr × Nat) := bif Nat.blt pc n then f pc else none
theorem gd_ok {b : ByteArray} {n : Nat} {f : Nat → Option (Instr × Nat)} (h : (List.range n).all (fun pc => match f pc with | none => true | some q => decide (decode b pc = .ok q)) = true) : ∀ pc q, gd n f pc = some q → decode b pc = .ok q := by
  intro pc q hg
  unfold gd at hg
  cases hb : Nat.blt pc n with
  | false => rw [hb] at hg; cases hg
  | true =>
    rw [hb] at hg
    have h1 := List.all_eq_true.mp h pc (List.mem_range.mpr (Nat.le_of_ble_eq_true hb))
    have hg' : f pc = some q := hg
    rw [hg'] at h1
    exact of_decide_eq_true h1
theorem lc_of {I : List KI} (h : I.all (fun q => match kS q.1 with | .inl (_, fl) => fl.all (fun o => match o with | none => true | some rk => I.contains (rk, q.2)) | .inr (t, n, rk) => Nat.blt t 3 || (List.range n).all (fun j => I.contains (rk, j))) = true) {q : KI} (hq : q ∈ I) : match kS q.1 with
    | .inl (_, fl) => ∀ rk, some rk ∈ fl → (rk, q.2) ∈ I
    | .inr (t, n, rk) => 3 ≤ t → ∀ j, j < n → (rk, j) ∈ I := by
  have h1 := List.all_eq_true.mp h q hq
  revert h1
  cases kS q.1 with
  | inl x =>
    intro h1 rk hrk
    have h2 := List.all_eq_true.mp h1 _ hrk
    simpa using h2
  | inr x =>
    intro h1 ht j hj
    rw [Bool.or_eq_true] at h1
    rcases h1 with h1 | h1
    · have := Nat.le_of_ble_eq_true h1
      exact absurd ht (by omega)
    · have h2 := List.all_eq_true.mp h1 j (List.mem_range.mpr hj)
      simpa using h2
section Calls3
variable {I : List KI} {M : MR} {d pc : Nat} {loc : Loc2} {σ : Mem} {Q : Option AV → Mem → Prop} {r : List AV}
theorem map_ret (ρ : Nat → Nat → Nat) (v : Option AV) (r : List AV) : (v.map (toV ρ)).toList ++ r.map (toV ρ) = (v.toList ++ r).map (toV ρ) := by
  cases v <;> simp
theorem blindC {I : List KI} {D : va_G} {cy : Nat → ClassId} {ρ : Nat → Nat → Nat} {sz : Nat} {σ : Mem} {av : List Value} : FrameBlind (va_Pc av (fun U => U.heap.size = sz ∧ va_P D vwCl (wl kS cy ρ I σ) U.heap ∧ va_K D vwCl (tysOf cy) U ∧ va_D (fun _ => True) (wl kS cy ρ I σ) ∧ NwOK U)) := by
  intro a U g mk q
  obtain ⟨q0, q1, qP, qK, qD, qN⟩ := q
  exact ⟨q0, q1, qP, va_K.moved (u := U) (U := U.calling g mk a) (Vm.Alike.refl U.vm) qK, qD, qN.same rfl⟩
/-- behind a call's run: go on with what it left -/
theorem J_back {S : SR} {av : List AV} {Q' : Option AV → Mem → Prop} {stk : List AV} (hav : okS I stk → okS I av) (hr : okS I stk → okS I r) (hC : Cal I d S av σ Q')
    (run : ∀ (p : Program) (l : Launch) (e : Env) (R : Room) (s : State) (m : MethodId) (args : Array Value) (below : List Frame) (meth : Method) (c : Code) (D : va_G) (cy : Nat → ClassId) (ρ : Nat → Nat → Nat) (A : Nat → Prop) (cells slots : Nat) (H : Heap) (locs : List Loc) (ls : Array Slot), Cx M (d + 1) p R s m args meth c D cy A ρ → cells ≤ R.cells → slots ≤ R.slots → va_P D vwCl (wl kS cy ρ I σ) H → va_D A (wl kS cy ρ I σ) → lv_has ls M.1.2.2.1 (toL ρ loc) → okS I stk →
      Met l S.1 (Jvm.Cond.code S.1 S.2.1 S.2.2.1 S.2.2.2.1 :: TB) (rmD d) (va_Pc (av.map (toV ρ)) (fun U => U.heap.size = H.size ∧ va_P D vwCl (wl kS cy ρ I σ) U.heap ∧ va_K D vwCl (tysOf cy) U ∧ va_D (fun _ => True) (wl kS cy ρ I σ) ∧ NwOK U)) (QQ I D cy ρ (va_A (wl kS cy ρ I σ) H.size) Q') 0 0 (va_A (wl kS cy ρ I σ) H.size) →
      va_Run p l e R s m args below meth c H locs cells slots 0 0 (F0 m pc ls (stk.map (toV ρ))) (r.map (toV ρ)) (QQ I D cy ρ (va_A (wl kS cy ρ I σ) H.size) Q' (av.map (toV ρ)).toArray) (va_A (wl kS cy ρ I σ) H.size))
    (kk : ∀ v σ', Q' v σ' → J I M (d + 1) (pc + 3) loc (v.toList ++ r) σ' Q) : J I M (d + 1) pc loc stk σ Q := by
  intro hX p l e R s m args below meth c D cy ρ A cells slots H locs ls Cx h1 h2 hP hD hS hl hokl hoks
  have hM := hC hX l D cy ρ H.size (hav hoks)
  have hrun := run p l e R s m args below meth c D cy ρ A cells slots H locs ls Cx h1 h2 hP hD hl hoks hM
  have hA := Cx.2.2.2.2.2.2.2.1
  have hFc : ∀ q, va_A (wl kS cy ρ I σ) H.size q → A q := by
    intro q h
    rcases h with ⟨k, e, h⟩ | h
    · exact hD.2 k (q, e) h
    · exact hA q (Nat.le_trans hS.1 h)
  intro T hT X
  obtain ⟨v, st₀, t, T', L, h0, X', hL, e1, e2, ⟨⟨v', σ', hv, hq, hP1, hK1, hD1, hok1⟩, hz, hkp⟩, st⟩ := hrun T hT X
  cases hv
  rw [h0] at hz hkp
  have hS1 : va_S A s.heap T'.heap (locs ++ L) := ⟨Nat.le_trans hS.1 (by rw [e1]; exact hz), fun q g1 g2 => by
      rw [e1, hkp q (Nat.lt_of_lt_of_le g1 hS.1) (fun z => g2 (hFc q z))]; exact hS.2.1 q g1 g2, fun q hq2 => by
      rcases List.mem_append.mp hq2 with h | h
      · exact hS.2.2 q h
      · exact hFc _ (hL q h)⟩
  obtain ⟨t2, a1, b1⟩ := kk v' σ' hq hX p l e R s m args below meth c D cy ρ A cells slots T'.heap (locs ++ L) ls Cx h1 h2 (by rw [e1]; exact hP1) (hD1.weaken (fun _ q _ h => hFc q.1 h)) hS1 hl hokl (okS_app hok1 (hr hoks)) T' rfl X'
  refine ⟨t2, st t2 ?_, b1⟩
  have e3 := map_ret ρ v' r
  have a2 : Steps p.tables e below (T'.setTop (F0 m (pc + 3) ls ((v'.map (toV ρ)).toList ++ r.map (toV ρ)))) t2 := by rw [e3]; exact a1
  exact a2
theorem goodC {S : SR} (hS : Sok S) : GoodIn TB (Jvm.Cond.code S.1 S.2.1 S.2.2.1 S.2.2.2.1 :: TB) := by
  intro w hw
  rcases List.mem_cons.mp hw with rfl | hw
  · exact tb_good _ hS.1
  · exact tb_good _ hw
theorem J_virt {S : SR} {idx ci k i : Nat} {as : List AV} {fl : List (Option Nat)} {Q' : Option AV → Mem → Prop} (hM : MOK M) (hp : plk M.2.1 idx = some (.inr (.inl S))) (hci : S.2.2.2.2.2 = some ci) (hdg : decode M.1.2.1 pc = .ok (.invokevirtual idx, 3)) (hlen : as.length = S.2.2.2.2.1) (hk : kS k = .inl (ci, fl)) (hr8 : sumC r ≤ 8) (hC : Cal I d S (ar k i :: as) σ Q')
    (kk : ∀ v σ', Q' v σ' → J I M (d + 1) (pc + 3) loc (v.toList ++ r) σ' Q) : J I M (d + 1) pc loc (as.reverse ++ ar k i :: r) σ Q := by
  obtain ⟨hS, hlink⟩ := hM.2.1 _ (plk_mem hp)
  obtain ⟨hcode, hini, hd, h21, hpl, hsel⟩ := id hS
  rw [hci] at hsel
  obtain ⟨hinst, hsel, hcl⟩ := hsel
  refine J_back (S := S) (av := ar k i :: as) (r := r) (Q' := Q') ?_ ?_ hC ?_ kk
  · intro h v hv
    refine h v ?_
    rcases List.mem_cons.mp hv with rfl | hv
    · exact List.mem_append_right _ List.mem_cons_self
    · exact List.mem_append_left _ (List.mem_reverse.mpr hv)
  · exact fun h v hv => h v (List.mem_append_right _ (List.mem_cons_of_mem _ hv))
  · intro p l e R s m args below meth c D cy ρ A cells slots H locs ls Cx h1 h2 hP hD hl hoks hMet
    obtain ⟨hx, hb, hml, hr, hlocks, hown, hts, hA, hfr, hlo, hNw, hK, hSC⟩ := id Cx
    have hki : (k, i) ∈ I := okM (hoks (ar k i) (List.mem_append_right _ List.mem_cons_self)) (by rw [hk]; nofun)
    obtain ⟨n, hn⟩ := place_of hki
    have he := wl_get (ks := kS) (cy := cy) (ρ := ρ) hn σ
    rw [ent_obj hk] at he
    obtain ⟨q, hq1, hq2⟩ : ∃ q, vwCl[ci]? = some q ∧ q.1 = S.1.cls := by
      cases hq : vwCl[ci]? with
      | none => rw [hq] at hcl; cases hcl
      | some q => rw [hq] at hcl; exact ⟨q, rfl, Option.some.inj hcl⟩
    have hrecv := va_recv hK hP hq1 he
    rw [hq2] at hrecv
    have hroom : (rmD d).frames + 1 ≤ R.frames ∧ 8 + (S.2.2.1 + 11) + (rmD d).locals ≤ R.locals := by
      show d + 1 ≤ R.frames ∧ 8 + (S.2.2.1 + 11) + 40 * d ≤ R.locals
      omega
    have pre : PreV s H S.1.cls (ρ k i) (va_Pc ((ar k i :: as).map (toV ρ)) (fun U => U.heap.size = H.size ∧ va_P D vwCl (wl kS cy ρ I σ) U.heap ∧ va_K D vwCl (tysOf cy) U ∧ va_D (fun _ => True) (wl kS cy ρ I σ) ∧ NwOK U)) (as.map (toV ρ)) := ⟨blindC, hrecv, fun U hU hW => ⟨rfl, by rw [hU], by rw [hU]; exact hP, va_K.moved hW.alike hK, hD.weaken (fun _ _ _ _ => trivial), hNw.warm hW⟩⟩
    rcases hlink with hlink | ⟨host, hlink⟩
    · exact va_runV (As := as.map (toV ρ)) (rest := r.map (toV ρ)) (b := ρ k i) (C := S.1.cls) (Ts := TB) (own := M.1.1.cls) (index := idx) (n := S.2.2.2.2.1) (g := F0 m pc ls ((as.reverse ++ ar k i :: r).map (toV ρ))) (locs := locs) (cells := cells) (slots := slots) (H := H) (args := args) (below := below) (meth := meth) (e := e) ⟨hx, hb, hml, hown, hts⟩ hMet
        ⟨callB_of S.2.2.2.2.1 hts (goodC hS) rfl rfl rfl (hts _ hini) (hts _ hlink) hd hroom, hts _ hinst, hts _ hsel⟩
        pre rfl (by simp [hlen]) hl.1 (by simp [toV, List.map_reverse]) (lv_room (by rw [sumC_eq]; exact hr8)) hdg ⟨by simpa using h1, by simpa using h2⟩
    · exact va_runVN (As := as.map (toV ρ)) (rest := r.map (toV ρ)) (b := ρ k i) (C := S.1.cls) (host := host) (Ts := TB) (own := M.1.1.cls) (index := idx) (n := S.2.2.2.2.1) (g := F0 m pc ls ((as.reverse ++ ar k i :: r).map (toV ρ))) (locs := locs) (cells := cells) (slots := slots) (H := H) (args := args) (below := below) (meth := meth) (e := e) ⟨hx, hb, hml, hown, hts⟩ hMet
        ⟨va_cnB S.2.2.2.2.1 hts (goodC hS) rfl rfl rfl (hNw.2 _ hlink) (hts _ hini) hd hroom, hts _ hinst, hts _ hsel⟩
        pre rfl (by simp [hlen]) hl.1 (by simp [toV, List.map_reverse]) (lv_room (by rw [sumC_eq]; exact hr8)) hdg ⟨by simpa using h1, by simpa using h2⟩
theorem J_stat {S : SR} {idx : Nat} {as : List AV} {Q' : Option AV → Mem → Prop} (hM : MOK M) (hp : plk M.2.1 idx = some (.inr (.inl S))) (hci : S.2.2.2.2.2 = none) (hdg : decode M.1.2.1 pc = .ok (.invokestatic idx, 3)) (hlen : as.length = S.2.2.2.2.1) (hr8 : sumC r ≤ 8) (hC : Cal I d S as σ Q')
    (kk : ∀ v σ', Q' v σ' → J I M (d + 1) (pc + 3) loc (v.toList ++ r) σ' Q) : J I M (d + 1) pc loc (as.reverse ++ r) σ Q := by
  obtain ⟨hS, hlink⟩ := hM.2.1 _ (plk_mem hp)
  obtain ⟨hcode, hini, hd, h21, hpl, hsel⟩ := id hS
  rw [hci] at hsel
  refine J_back (S := S) (av := as) (r := r) (Q' := Q') ?_ ?_ hC ?_ kk
  · exact fun h v hv => h v (List.mem_append_left _ (List.mem_reverse.mpr hv))
  · exact fun h v hv => h v (List.mem_append_right _ hv)
  · intro p l e R s m args below meth c D cy ρ A cells slots H locs ls Cx h1 h2 hP hD hl hoks hMet
    obtain ⟨hx, hb, hml, hr, hlocks, hown, hts, hA, hfr, hlo, hNw, hK, hSC⟩ := id Cx
    have hroom : (rmD d).frames + 1 ≤ R.frames ∧ 8 + (S.2.2.1 + 11) + (rmD d).locals ≤ R.locals := by
      show d + 1 ≤ R.frames ∧ 8 + (S.2.2.1 + 11) + 40 * d ≤ R.locals
      omega
    have pre : PreS s H (va_Pc (as.map (toV ρ)) (fun U => U.heap.size = H.size ∧ va_P D vwCl (wl kS cy ρ I σ) U.heap ∧ va_K D vwCl (tysOf cy) U ∧ va_D (fun _ => True) (wl kS cy ρ I σ) ∧ NwOK U)) (as.map (toV ρ)) := ⟨blindC, fun U hU hW => ⟨rfl, by rw [hU], by rw [hU]; exact hP, va_K.moved hW.alike hK, hD.weaken (fun _ _ _ _ => trivial), hNw.warm hW⟩⟩
    rcases hlink with hlink | ⟨host, hlink⟩
    · exact va_runS (As := as.map (toV ρ)) (rest := r.map (toV ρ)) (Ts := TB) (own := M.1.1.cls) (index := idx) (n := S.2.2.2.2.1) (g := F0 m pc ls ((as.reverse ++ r).map (toV ρ))) (locs := locs) (cells := cells) (slots := slots) (H := H) (args := args) (below := below) (meth := meth) (e := e) ⟨hx, hb, hml, hown, hts⟩ hMet
        ⟨callB_of S.2.2.2.2.1 hts (goodC hS) rfl rfl rfl (hts _ hini) (hts _ hlink) hd hroom, hts _ hsel⟩
        pre rfl (by simp [hlen]) hl.1 (by simp [List.map_reverse]) (lv_room (by rw [sumC_eq]; exact hr8)) hdg ⟨by simpa using h1, by simpa using h2⟩
    · exact va_runSN (As := as.map (toV ρ)) (rest := r.map (toV ρ)) (Ts := TB) (host := host) (own := M.1.1.cls) (index := idx) (n := S.2.2.2.2.1) (g := F0 m pc ls ((as.reverse ++ r).map (toV ρ))) (locs := locs) (cells := cells) (slots := slots) (H := H) (args := args) (below := below) (meth := meth) (e := e) ⟨hx, hb, hml, hown, hts⟩ hMet
        ⟨va_cnB S.2.2.2.2.1 hts (goodC hS) rfl rfl rfl (hNw.2 _ hlink) (hts _ hini) hd hroom, hts _ hsel, trivial⟩
        pre rfl (by simp [hlen]) hl.1 (by simp [List.map_reverse]) (lv_room (by rw [sumC_eq]; exact hr8)) hdg ⟨by simpa using h1, by simpa using h2⟩
theorem J_copy (hI : OKI I) (hM : MOK M) {idx k0 i0 k i n0 n1 z0 z1 : Nat} {sp dp n : Int32} (hp : plk M.2.1 idx = some (.inr (.inr (.inr (.inr 0))))) (hdg : decode M.1.2.1 pc = .ok (.invokestatic idx, 3)) (hk : kS k = .inr (1, n1, z1)) (hk0 : kS k0 = .inr (1, n0, z0)) (hr8 : sumC r ≤ 8) (g1 : ¬ sp < 0) (g2 : ¬ dp < 0) (g3 : ¬ n < 0) (g4 : sp.toNatClampNeg + n.toNatClampNeg ≤ n0) (g5 : dp.toNatClampNeg + n.toNatClampNeg ≤ n1)
    (k1 : J I M (d + 1) (pc + 3) loc r (cpL σ k0 i0 k i sp.toNatClampNeg dp.toNatClampNeg n.toNatClampNeg) Q) : J I M (d + 1) pc loc (ai n :: ai dp :: ar k i :: ai sp :: ar k0 i0 :: r) σ Q := by
  obtain ⟨hlink, hnat, hstat, hini⟩ := hM.2.1 _ (plk_mem hp)
  intro hX p l e R s m args below meth c D cy ρ A cells slots H locs ls Cx h1 h2 hP hD hS hl hokl hoks
  obtain ⟨z, hn⟩ := place_of (okM (okS_h (okS_t (okS_t hoks))) (by rw [hk]; nofun))
  obtain ⟨y, hn0⟩ := place_of (okM (okS_h (okS_t (okS_t (okS_t (okS_t hoks))))) (by rw [hk0]; nofun))
  obtain ⟨hx, hb, hml, hr, hlocks, hown, hts, hA, hfr, hlo, hNw, hK, hSC⟩ := id Cx
  have he := wl_get (ks := kS) (cy := cy) (ρ := ρ) hn σ
  rw [ent_a1 hk] at he
  have he0 := wl_get (ks := kS) (cy := cy) (ρ := ρ) hn0 σ
  rw [ent_a1 hk0] at he0
  refine va_copyl hx hb (hml.trans hl.1.symm) hown (hts _ hlink) (hts _ hnat) (hts _ hstat) (hts _ hini) hK hP hD hS y z 1 1 he0 he (tys_at cy (by decide)) (tys_at cy (by decide)) rfl g1 g2 g3 g4 g5 (fun i _ => rfl) (by omega) ?_ hdg (fun H1 locs1 hP1 hD1 hS1 => ?_)
  · rw [sumC_eq]
    have : nativeFrameWords "java/lang/System" "arraycopy" 5 + 11 ≤ 32 := by decide +kernel
    omega
  · have e1 := wl_set (ks := kS) (cy := cy) (ρ := ρ) hI.1 hn (σ := σ) (σ' := cpL σ k0 i0 k i sp.toNatClampNeg dp.toNatClampNeg n.toNatClampNeg) (e := .inl (cy 1, n1, .inr (.inl (va_cpy (σ.2 k0 i0) (σ.2 k i) sp.toNatClampNeg dp.toNatClampNeg n.toNatClampNeg)))) (by
      have e2 : va_cpy (σ.2 k0 i0) (σ.2 k i) sp.toNatClampNeg dp.toNatClampNeg n.toNatClampNeg = (cpL σ k0 i0 k i sp.toNatClampNeg dp.toNatClampNeg n.toNatClampNeg).2 k i := by
        funext q
        simp [cpL_r]
      rw [ent_a1 hk, e2]) (fun k' i' h => cpL_o k' i' h)
    rw [e1] at hP1 hD1
    exact k1 hX p l e R s m args below meth c D cy ρ A cells slots H1 locs1 ls Cx h1 h2 hP1 hD1 hS1 hl hokl (okS_t (okS_t (okS_t (okS_t (okS_t hoks)))))
theorem J_min (hM : MOK M) {idx : Nat} {x y : Int32} (hp : plk M.2.1 idx = some (.inr (.inr (.inr (.inr 1))))) (hdg : decode M.1.2.1 pc = .ok (.invokestatic idx, 3)) (hr8 : sumC r ≤ 8) (k1 : J I M (d + 1) (pc + 3) loc (ai (if y < x then y else x) :: r) σ Q) : J I M (d + 1) pc loc (ai y :: ai x :: r) σ Q := by
  obtain ⟨hlink, hstat, hini, hcode⟩ := hM.2.1 _ (plk_mem hp)
  intro hX p l e R s m args below meth c D cy ρ A cells slots H locs ls Cx h1 h2 hP hD hS hl hokl hoks
  obtain ⟨hx, hb, hml, hr, hlocks, hown, hts, hA, hfr, hlo, hNw, hK, hSC⟩ := id Cx
  refine va_mmin hx hb (hml.trans hl.1.symm) hown (hts _ hlink) (hts _ hstat) (hts _ hini) (hts _ hcode) (by omega) ?_ h1 h2 hdg (k1 hX p l e R s m args below meth c D cy ρ A cells slots H locs ls Cx h1 h2 hP hD hS hl hokl (okS_i (okS_t (okS_t hoks))))
  rw [sumC_eq]
  omega
theorem retQ {D : va_G} {cy : Nat → ClassId} {ρ : Nat → Nat → Nat} {A : Nat → Prop} {s : State} {args : Array Value} {H : Heap} {locs : List Loc} {v : Option AV} (hq : Q v σ) (hok : okS I v.toList) (hP : va_P D vwCl (wl kS cy ρ I σ) H) (hD : va_D A (wl kS cy ρ I σ)) (hS : va_S A s.heap H locs) (hK : va_K D vwCl (tysOf cy) s) : ∀ t : State, t.heap = H → s.WarmedH t.vm → QQ I D cy ρ A Q args s (.returned (v.map (toV ρ))) t :=
  fun _ ht hW => ⟨⟨v, σ, rfl, hq, by rw [ht]; exact hP, va_K.moved hW.alike hK, hD, hok⟩, hS.F ht⟩
theorem J_iret {v : Int32} {ty : FieldType} (hret : M.1.2.2.2.1 = some ty) (hn : narrow ty (.int v) = .int v) (hdg : decode M.1.2.1 pc = .ok (.ireturn, 1)) (hq : Q (some (ai v)) σ) : J I M d pc loc [ai v] σ Q := by
  intro hX p l e R s m args below meth c D cy ρ A cells slots H locs ls Cx h1 h2 hP hD hS hl hokl hoks
  obtain ⟨hx, hb, hml, hr, hlocks, hown, hts, hA, hfr, hlo, hNw, hK, hSC⟩ := id Cx
  exact W.zret (v := v) (ty := ty) hx hb (hr.trans hret) hn (retQ hq (fun u hu => by simp at hu; subst hu; trivial) hP hD hS hK) hS.2.2 hdg hlocks
theorem J_lret {v : Int64} (hret : M.1.2.2.2.1 = some .long) (hdg : decode M.1.2.1 pc = .ok (.lreturn, 1)) (hq : Q (some (al v)) σ) : J I M d pc loc [al v] σ Q := by
  intro hX p l e R s m args below meth c D cy ρ A cells slots H locs ls Cx h1 h2 hP hD hS hl hokl hoks
  obtain ⟨hx, hb, hml, hr, hlocks, hown, hts, hA, hfr, hlo, hNw, hK, hSC⟩ := id Cx
  exact W.lret (v := v) hx hb (hr.trans hret) (retQ hq (fun u hu => by simp at hu; subst hu; trivial) hP hD hS hK) hS.2.2 hdg hlocks
theorem J_aret {q : KI} {cn : String} (hret : M.1.2.2.2.1 = some (.object cn)) (hdg : decode M.1.2.1 pc = .ok (.areturn, 1)) (hq : Q (some (.inr q)) σ) : J I M d pc loc [.inr q] σ Q := by
  intro hX p l e R s m args below meth c D cy ρ A cells slots H locs ls Cx h1 h2 hP hD hS hl hokl hoks
  obtain ⟨hx, hb, hml, hr, hlocks, hown, hts, hA, hfr, hlo, hNw, hK, hSC⟩ := id Cx
  exact W.aret (v := .ref (ρ q.1 q.2)) (rt := .object cn) hx hb (hr.trans hret) (Or.inl ⟨_, rfl⟩) (Or.inr ⟨_, rfl⟩) (retQ (v := some (.inr q)) hq (fun u hu => by simp at hu; subst hu; exact okS_h hoks) hP hD hS hK) hS.2.2 hdg hlocks
/-- at(script, k): some int, nothing changes -/
theorem at_met (l : Launch) (b L : Nat) (xs : Nat → Int32) (k : Int32) (sz : Nat) (hL : L ≤ 260) (hk : ¬ k < 0) : Met l yL_at (Jvm.Cond.code yL_at cL_at 2 (some .int) :: TB) (rmD 0) (va_Pc [.ref b, .int k] (fun U => U.heap.size = sz ∧ va_X b L xs U U.heap ∧ b < U.heap.size)) (fun _ st oc t => (∃ v : Int32, oc = .returned (some (.int v))) ∧ va_F (fun q => sz ≤ q) st t) 0 0 (fun q => sz ≤ q) := by
  refine Met.ofW (cc := cL_at) (maxL := 2) (ret := some .int) (by decide) rfl ?_
  intro p e s m args below meth c s₁ B hml hv
  obtain ⟨rfl, hsz, hX, hbl⟩ := hv
  have hx := B.exec
  have hb := B.bytes
  have hr := B.returns
  have hlocks := B.notSynchronized
  subst hsz
  have hS : va_S (fun q : Nat => s.heap.size ≤ q) s.heap s.heap [] := va_S.rf
  have hbA : ¬ (fun q : Nat => s.heap.size ≤ q) b := Nat.not_le.mpr hbl
  have hl := lv_entry ([.ref b, .int k]) (n := 2) (Nat.le_of_ble_eq_true rfl)
  rw [lg_entry_eq]
  generalize (lg_sl ([.ref b, .int k]) ++ List.replicate (2 - (lg_sl ([.ref b, .int k])).length) Slot.unset).toArray = ls at hl ⊢
  have hl : lv_has ls 2 [(0, .ref b), (1, .int k)] := hl
  have fin : ∀ (y : Int32) (t : State), t.heap = s.heap → s.WarmedH t.vm → (∃ v : Int32, Outcome.returned (some (Value.int y)) = .returned (some (.int v))) ∧ va_F (fun q => s.heap.size ≤ q) s t := fun y t ht _ => ⟨⟨y, rfl⟩, hS.F ht⟩
  have d0 : decode cL_at 0 = .ok (.iload_n 1, 1) := by decide +kernel
  have d1 : decode cL_at 1 = .ok (.aload_n 0, 1) := by decide +kernel
  have d2 : decode cL_at 2 = .ok (.arraylength, 1) := by decide +kernel
  have d3 : decode cL_at 3 = .ok (.if_icmp .ge 9, 3) := by decide +kernel
  have d6 : decode cL_at 6 = .ok (.aload_n 0, 1) := by decide +kernel
  have d7 : decode cL_at 7 = .ok (.iload_n 1, 1) := by decide +kernel
  have d8 : decode cL_at 8 = .ok (.iaload, 1) := by decide +kernel
  have d9 : decode cL_at 9 = .ok (.goto 4, 3) := by decide +kernel
  have d12 : decode cL_at 12 = .ok (.iconst 0, 1) := by decide +kernel
  have d13 : decode cL_at 13 = .ok (.ireturn, 1) := by decide +kernel
  refine lv_iload_n hx hb d0 rfl (lv_at hl 1 rfl) ?_
  refine lv_aload_n hx hb d1 rfl (lv_at hl 0 rfl) ?_
  refine va_slen hx hb hX hbl hbA hS d2 ?_
  refine lv_icmp_ge (tgt := 12) hx hb d3 (by omega) (fun _ => ?_) (fun hlt => ?_)
  · refine lv_iconst (v := 0) hx hb d12 (by decide) ?_
    exact W.iret (v := 0) hx hb hr (fin 0) hS.2.2 d13
  · refine lv_aload_n hx hb d6 rfl (lv_at hl 0 rfl) ?_
    refine lv_iload_n hx hb d7 rfl (lv_at hl 1 rfl) ?_
    have hin : vp_in k L := by
      have e1 : (Int32.ofNat L).toInt = (L : Int) := by
        exact nI_toInt (by omega)
      rw [Int32.le_iff_toInt_le, e1] at hlt
      rw [Int32.lt_iff_toInt_lt] at hk
      have e2 : (0 : Int32).toInt = 0 := rfl
      intro hq
      rcases hq with hq | hq
      · rw [Int32.lt_iff_toInt_lt] at hq
        omega
      · have := Int32.toNat_toInt k
        omega
    refine va_sld hx hb hX hbl hbA hS hin d8 ?_
    refine lv_goto (tgt := 13) hx hb d9 (by omega) ?_
    exact W.iret hx hb hr (fin _) hS.2.2 d13
theorem J_at (hM : MOK M) {idx : Nat} {x : Int32} (hp : plk M.2.1 idx = some (.inr (.inr (.inr (.inr 2))))) (hdg : decode M.1.2.1 pc = .ok (.invokestatic idx, 3)) (hr8 : sumC r ≤ 8) (hx0 : ¬ x < 0) (k1 : ∀ v, J I M (d + 1) (pc + 3) loc (ai v :: r) σ Q) : J I M (d + 1) pc loc (ai x :: ar 29 0 :: r) σ Q := by
  have hsc : scM M = true := by
    have h := hM.2.2
    rw [Bool.or_eq_true] at h
    rcases h with h | h
    · have := List.all_eq_true.mp h _ (plk_mem hp)
      cases this
    · exact h
  obtain ⟨hlink, hstat, hini, hcode⟩ := hM.2.1 _ (plk_mem hp)
  intro hX p l e R s m args below meth c D cy ρ A cells slots H locs ls Cx h1 h2 hP hD hS hl hokl hoks
  obtain ⟨hx, hb, hml, hr, hlocks, hown, hts, hA, hfr, hlo, hNw, hK, hSC⟩ := id Cx
  obtain ⟨L, xs, hL, hXs, hbl, hbA⟩ := hSC hsc
  have hXH := hXs.kept (hS.2.1 _ hbl hbA)
  have hblH : ρ 29 0 < H.size := Nat.lt_of_lt_of_le hbl hS.1
  have blind : FrameBlind (va_Pc [.ref (ρ 29 0), .int x] (fun U => U.heap.size = H.size ∧ va_X (ρ 29 0) L xs U U.heap ∧ ρ 29 0 < U.heap.size)) := by
    intro a U g mk q
    obtain ⟨q0, q1, q2, q3⟩ := q
    exact ⟨q0, q1, va_X.moved (u := U) (U := U.calling g mk a) (Vm.Alike.refl U.vm) q2, q3⟩
  have pre : PreS s H (va_Pc [.ref (ρ 29 0), .int x] (fun U => U.heap.size = H.size ∧ va_X (ρ 29 0) L xs U U.heap ∧ ρ 29 0 < U.heap.size)) [.ref (ρ 29 0), .int x] := ⟨blind, fun U hU hW => ⟨rfl, by rw [hU], by rw [hU]; exact va_X.moved hW.alike hXH, by rw [hU]; exact hblH⟩⟩
  have hGood : GoodIn TB (Jvm.Cond.code yL_at cL_at 2 (some .int) :: TB) := by
    intro w hw
    rcases List.mem_cons.mp hw with rfl | hw
    · exact tb_good _ hcode
    · exact tb_good _ hw
  have hroom : (rmD 0).frames + 1 ≤ R.frames ∧ 8 + (2 + 11) + (rmD 0).locals ≤ R.locals := by
    show 0 + 1 ≤ R.frames ∧ 8 + (2 + 11) + 40 * 0 ≤ R.locals
    omega
  have run := va_runS (As := [.ref (ρ 29 0), .int x]) (rest := r.map (toV ρ)) (Ts := TB) (own := M.1.1.cls) (index := idx) (n := 2) (g := F0 m pc ls ((ai x :: ar 29 0 :: r).map (toV ρ))) (locs := locs) (cells := cells) (slots := slots) (H := H) (args := args) (below := below) (meth := meth) (e := e) ⟨hx, hb, hml, hown, hts⟩ (at_met l (ρ 29 0) L xs x H.size hL hx0)
    ⟨callB_of 2 hts hGood rfl rfl rfl (hts _ hini) (hts _ hlink) (by decide) hroom, hts _ hstat⟩
    pre rfl rfl hl.1 rfl (lv_room (by rw [sumC_eq]; exact hr8)) hdg ⟨by simpa using h1, by simpa using h2⟩
  intro T hT X
  obtain ⟨v, st₀, t, T', L', h0, X', hL', e1, e2, ⟨⟨y, hv⟩, hz, hkp⟩, stp⟩ := run T hT X
  cases hv
  rw [h0] at hz hkp
  have hS1 : va_S A s.heap T'.heap (locs ++ L') := ⟨Nat.le_trans hS.1 (by rw [e1]; exact hz), fun q g1 g2 => by
      rw [e1, hkp q (Nat.lt_of_lt_of_le g1 hS.1) (fun z => by
        have z : H.size ≤ q := z
        have := Nat.lt_of_lt_of_le g1 hS.1
        omega)]; exact hS.2.1 q g1 g2, fun q hq2 => by
      rcases List.mem_append.mp hq2 with h | h
      · exact hS.2.2 q h
      · exact hA _ (Nat.le_trans hS.1 (hL' q h))⟩
  have hP1 : va_P D vwCl (wl kS cy ρ I σ) T'.heap := fun k q hq => by
    have hlt := (hP k q hq).lt
    refine (hP k q hq).kept ?_
    rw [e1]
    exact hkp q.1 hlt (fun z => by
      have z : H.size ≤ q.1 := z
      omega)
  obtain ⟨t2, a1, b1⟩ := k1 y hX p l e R s m args below meth c D cy ρ A cells slots T'.heap (locs ++ L') ls Cx h1 h2 hP1 hD hS1 hl hokl (okS_i (okS_t (okS_t hoks))) T' rfl X'
  exact ⟨t2, stp t2 a1, b1⟩
theorem J_vret (hret : M.1.2.2.2.1 = none) (hdg : decode M.1.2.1 pc = .ok (.return_, 1)) (hq : Q none σ) : J I M d pc loc [] σ Q := by
  intro hX p l e R s m args below meth c D cy ρ A cells slots H locs ls Cx h1 h2 hP hD hS hl hokl hoks
  obtain ⟨hx, hb, hml, hr, hlocks, hown, hts, hA, hfr, hlo, hNw, hK, hSC⟩ := id Cx
  exact W.vret hx hb (hr.trans hret) (retQ hq (fun u hu => by simp at hu) hP hD hS hK) hS.2.2 hdg hlocks
/-! the locals with which a method begins -/
def locOf : Nat → List AV → Loc2
  | _, [] => []
  | i, v :: vs => (i, v) :: locOf (bif Nat.beq (catA v) 2 then i + 2 else i + 1) vs
theorem locOf_eq (ρ : Nat → Nat → Nat) : ∀ (vs : List AV) (i : Nat), lv_args i (vs.map (toV ρ)) = toL ρ (locOf i vs)
  | [], _ => rfl
  | v :: vs, i => by
    simp only [List.map_cons, lv_args, locOf, toL, catA_toV]
    rw [locOf_eq ρ vs]
    rcases h : Nat.beq (catA v) 2 with _ | _
    · have : ¬ catA v = 2 := fun e => by rw [e] at h; cases h
      simp [this, toL]
    · have : catA v = 2 := Nat.eq_of_beq_eq_true h
      simp [this, toL]
def wordsC : List AV → Nat
  | [] => 0
  | v :: l => (bif Nat.beq (catA v) 2 then 2 else 1) + wordsC l
theorem lgsl_len (ρ : Nat → Nat → Nat) : ∀ l : List AV, (lg_sl (l.map (toV ρ))).length ≤ wordsC l + 0
  | [] => by simp [lg_sl, wordsC]
  | v :: l => by
    have ih := lgsl_len ρ l
    simp only [lg_sl, List.map_cons, List.flatMap_cons, List.length_append] at ih ⊢
    rcases h : Nat.beq (catA v) 2 with _ | _
    · have : ¬ catA v = 2 := fun e => by rw [e] at h; cases h
      have hw : wordsC (v :: l) = 1 + wordsC l := by show (bif Nat.beq (catA v) 2 then 2 else 1) + wordsC l = _; rw [h]; rfl
      rw [hw, catA_toV, if_neg this]
      simp only [List.length_cons, List.length_nil]
      omega
    · have : catA v = 2 := Nat.eq_of_beq_eq_true h
      have hw : wordsC (v :: l) = 2 + wordsC l := by show (bif Nat.beq (catA v) 2 then 2 else 1) + wordsC l = _; rw [h]; rfl
      rw [hw, catA_toV, if_pos this]
      simp only [List.length_cons, List.length_nil]
      omega
theorem okL_locOf {I : List KI} : ∀ {vs : List AV} {i : Nat}, okS I vs → okL I (locOf i vs)
  | [], _, _ => fun _ h => by cases h
  | v :: vs, i, h => fun q hq => by
    rcases List.mem_cons.mp hq with rfl | hq
    · exact okS_h h
    · exact okL_locOf (okS_t h) q hq
theorem Cal.mono {S : SR} {av : List AV} {Q Q' : Option AV → Mem → Prop} (h : ∀ v σ', Q v σ' → Q' v σ') (hC : Cal I d S av σ Q) : Cal I d S av σ Q' := by
  intro hX l D cy ρ sz hok
  have h1 := hC hX l D cy ρ sz hok
  unfold Met at h1 ⊢
  refine MetFree.mono h1 (fun _ _ hp => hp) (fun _ _ _ _ _ _ => trivial) (fun a st o t _ hq => ?_)
  obtain ⟨⟨⟨v, σ', e1, e2, e3⟩, e4⟩, e5⟩ := hq
  exact ⟨⟨⟨v, σ', e1, h v σ' e2, e3⟩, e4⟩, e5⟩
theorem CalI.mono {S : SR} {av : List AV} {Q Q' : Int32 → Mem → Prop} (h : ∀ v σ', Q v σ' → Q' v σ') (hC : CalI I d S av σ Q) : CalI I d S av σ Q' := Cal.mono (fun _ _ hq => hq.elim fun x hx => ⟨x, hx.1, h _ _ hx.2⟩) hC
theorem CalL.mono {S : SR} {av : List AV} {Q Q' : Int64 → Mem → Prop} (h : ∀ v σ', Q v σ' → Q' v σ') (hC : CalL I d S av σ Q) : CalL I d S av σ Q' := Cal.mono (fun _ _ hq => hq.elim fun x hx => ⟨x, hx.1, h _ _ hx.2⟩) hC
theorem CalV.mono {S : SR} {av : List AV} {Q Q' : Mem → Prop} (h : ∀ σ', Q σ' → Q' σ') (hC : CalV I d S av σ Q) : CalV I d S av σ Q' := Cal.mono (fun _ _ hq => ⟨hq.1, h _ hq.2⟩) hC
/-- what an int, a long, nothing answered must be -/
abbrev KQ (K : Int32 → Mem → Prop) : Option AV → Mem → Prop := fun v σ' => ∃ x, v = some (ai x) ∧ K x σ'
abbrev KL (K : Int64 → Mem → Prop) : Option AV → Mem → Prop := fun v σ' => ∃ x, v = some (al x) ∧ K x σ'
abbrev KV (K : Mem → Prop) : Option AV → Mem → Prop := fun v σ' => v = none ∧ K σ'
theorem vpd {x : Int32} {n : Nat} (h : (decide (¬ x < 0) && Nat.blt x.toNatClampNeg n) = true) : vp_in x n := by
  rw [Bool.and_eq_true] at h
  have h1 := of_decide_eq_true h.1
  have h2 := Nat.le_of_ble_eq_true h.2
  intro hq
  rcases hq with hq | hq
  · exact h1 hq
  · omega
/-- a method's contract, out of its body -/
theorem Cal_of {av : List AV} (hS : Sok M.1) (hsc : scM M = false) (hw : Nat.ble (wordsC av) M.1.2.2.1 = true) (h : J I M d 0 (locOf 0 av) [] σ Q) : Cal I d M.1 av σ Q := by
  intro hX l D cy ρ sz hok
  obtain ⟨hcode, hini, hd, h21, hpl, hsel⟩ := hS
  refine Met.ofW (cc := M.1.2.1) (maxL := M.1.2.2.1) (ret := M.1.2.2.2.1) hpl rfl ?_
  intro p e s m args below meth c s₁ B hml hv
  obtain ⟨rfl, hsz, hP, hK, hD0, hNw⟩ := hv
  have hx := B.exec
  have hb := B.bytes
  have hr := B.returns
  have hts := atoms_spec (ws := Jvm.Cond.code M.1.1 M.1.2.1 M.1.2.2.1 M.1.2.2.2.1 :: TB) B.pre
  have hown : s.vm.findClass M.1.1.cls = some m.cls := findClass_of_methodNamed B.named
  have hlocks := B.notSynchronized
  subst hsz
  have hD := hD0.self (sz := s.heap.size)
  have hl := lv_entry (av.map (toV ρ)) (n := M.1.2.2.1) (Nat.le_trans (lgsl_len ρ av) (Nat.le_of_ble_eq_true hw))
  rw [lg_entry_eq]
  rw [locOf_eq] at hl
  exact h hX p l e (headSpec (Jvm.Cond.code M.1.1 M.1.2.1 M.1.2.2.1 M.1.2.2.2.1 :: TB) (rmD d)).room s m _ below meth c D cy ρ (va_A (wl kS cy ρ I σ) s.heap.size) 0 0 s.heap [] _ ⟨hx, hb, hml, hr, hlocks, hown, fun w hw => hts w (List.mem_cons_of_mem _ hw), fun q hq => Or.inr hq, Nat.le_refl _, Nat.le_refl _, hNw, hK, fun z => by rw [hsc] at z; cases z⟩ (Nat.zero_le _) (Nat.zero_le _) hP hD va_S.rf hl (okL_locOf hok) (fun _ h => by cases h)
end Calls3
section Main4
variable {I : List KI} {M : MR} {d pc : Nat} {loc : Loc2} {stk : List AV} {σ : Mem} {Q : Option AV → Mem → Prop} {K : Kt}
theorem len_of {len : Nat} {ins : Instr} (h : (Nat.beq len (ilen ins) || isTs ins) = true) (h2 : isTs ins = false) : len = ilen ins := by
  rw [h2, Bool.or_false] at h
  exact Nat.eq_of_beq_eq_true h
theorem opS_inv {S : SR} {av : List AV} {K1 : List AV → Mem → Prop} (h : opS I d S av σ K1) : ∃ Q' : Option AV → Mem → Prop, Cal I d S av σ Q' ∧ ∀ v σ', Q' v σ' → K1 v.toList σ' := by
  unfold opS at h
  split at h
  · exact ⟨_, h, fun v σ' hq => by obtain ⟨rfl, hq⟩ := hq; exact hq⟩
  · exact ⟨_, h, fun v σ' hq => by obtain ⟨x, rfl, hq⟩ := hq; exact hq⟩
  · exact ⟨_, h, fun v σ' hq => by obtain ⟨x, rfl, hq⟩ := hq; exact hq⟩
theorem J_tsw (hK : ∀ pc loc stk σ, K pc loc stk σ → J I M (d + 1) pc loc stk σ Q) {dflt lo hi : Int} {offs : Array Int} {len : Nat} {x : Int32} {r : List AV} (hdg : decode M.1.2.1 pc = .ok (.tableswitch dflt lo hi offs, len)) (hsz : offs.size = (hi - lo + 1).toNat)
    (h1 : x.toInt < lo ∨ hi < x.toInt → match tg pc dflt with | some t => K t loc r σ | none => False) (h2 : tsw pc (fun t => K t loc r σ) x offs.toList lo) : J I M (d + 1) pc loc (ai x :: r) σ Q := by
  have key : ∀ (l : List Int) (n : Int) (j : Nat) (o : Int), tsw pc (fun t => K t loc r σ) x l n → l[j]? = some o → x.toInt = n + j → ∃ t, tg pc o = some t ∧ K t loc r σ := by
    intro l
    induction l with
    | nil => intro n j o _ h; simp at h
    | cons a l ih =>
      intro n j o ht ho hx
      cases j with
      | zero =>
        simp only [List.getElem?_cons_zero, Option.some.injEq] at ho
        subst ho
        have := ht.1 (by omega)
        revert this
        cases tg pc a with
        | none => exact fun h => h.elim
        | some t => exact fun h => ⟨t, rfl, h⟩
      | succ j =>
        rw [List.getElem?_cons_succ] at ho
        exact ih (n + 1) j o ht.2 ho (by omega)
  by_cases hout : x.toInt < lo ∨ hi < x.toInt
  · have h3 := h1 hout
    cases ht : tg pc dflt with
    | none => rw [ht] at h3; exact h3.elim
    | some t =>
      rw [ht] at h3
      exact J_pure (pc' := t) (stk' := r) (fun ρ p l e R s m args below meth c H locs cells slots Qf ls hx hb _ _ _ k => lv_tableOut hx hb hdg hout (tg_eq ht) k) (fun _ h => okS_t h) (hK _ _ _ _ h3)
  · have h3 : ¬ x.toInt < lo := fun h => hout (Or.inl h)
    have h4 : ¬ hi < x.toInt := fun h => hout (Or.inr h)
    have hj : (x.toInt - lo).toNat < offs.size := by rw [hsz]; omega
    obtain ⟨o, ho⟩ : ∃ o, offs[(x.toInt - lo).toNat]? = some o := ⟨_, Array.getElem?_eq_getElem hj⟩
    obtain ⟨t, ht, hk⟩ := key offs.toList lo (x.toInt - lo).toNat o h2 (by rw [Array.getElem?_toList]; exact ho) (by omega)
    exact J_pure (pc' := t) (stk' := r) (fun ρ p l e R s m args below meth c H locs cells slots Qf ls hx hb _ _ _ k => lv_tableIn hx hb hdg h3 h4 ho (tg_eq ht) k) (fun _ h => okS_t h) (hK _ _ _ _ hk)
set_option maxHeartbeats 4000000 in
theorem opI_sound (hI : OKI I) (hM : MOK M) (hK : ∀ pc loc stk σ, K pc loc stk σ → J I M (d + 1) pc loc stk σ Q) : ∀ (ins : Instr) (len : Nat), decode M.1.2.1 pc = .ok (ins, len) → (Nat.beq len (ilen ins) || isTs ins) = true → opI I d M.1.2.2.1 M.2.1 M.1.2.2.2.1 Q K pc loc stk σ ins → J I M (d + 1) pc loc stk σ Q := by
  intro ins len hdg hlen h
  cases ins
  case iconst n =>
    obtain rfl := len_of hlen rfl
    exact J_pure (fun ρ p l e R s m args below meth c H locs cells slots Qf ls hx hb _ _ _ k => lv_iconst hx hb hdg rfl k) (fun _ h => okS_i h) (hK _ _ _ _ h)
  case bipush n =>
    obtain rfl := len_of hlen rfl
    exact J_pure (fun ρ p l e R s m args below meth c H locs cells slots Qf ls hx hb _ _ _ k => lv_bipush hx hb hdg rfl k) (fun _ h => okS_i h) (hK _ _ _ _ h)
  case sipush n =>
    obtain rfl := len_of hlen rfl
    exact J_pure (fun ρ p l e R s m args below meth c H locs cells slots Qf ls hx hb _ _ _ k => lv_sipush hx hb hdg rfl k) (fun _ h => okS_i h) (hK _ _ _ _ h)
  case lconst n =>
    obtain rfl := len_of hlen rfl
    exact J_pure (fun ρ p l e R s m args below meth c H locs cells slots Qf ls hx hb _ _ _ k => lv_lconst hx hb hdg rfl k) (fun _ h => okS_i h) (hK _ _ _ _ h)
  case iload i =>
    obtain rfl := len_of hlen rfl
    obtain ⟨x, e, h⟩ := sI_inv h
    exact J_pure (fun ρ p l e2 R s m args below meth c H locs cells slots Qf ls hx hb _ _ hl k => lv_iload hx hb hdg (lk_at hl e) k) (fun _ h => okS_i h) (hK _ _ _ _ h)
  case iload_n i =>
    obtain rfl := len_of hlen rfl
    obtain ⟨x, e, h⟩ := sI_inv h
    exact J_pure (fun ρ p l e2 R s m args below meth c H locs cells slots Qf ls hx hb _ _ hl k => lv_iload_n hx hb hdg rfl (lk_at hl e) k) (fun _ h => okS_i h) (hK _ _ _ _ h)
  case lload i =>
    obtain rfl := len_of hlen rfl
    obtain ⟨x, e, h⟩ := sJ_inv h
    exact J_pure (fun ρ p l e2 R s m args below meth c H locs cells slots Qf ls hx hb _ _ hl k => lv_lload hx hb hdg (lk_at hl e) k) (fun _ h => okS_i h) (hK _ _ _ _ h)
  case lload_n i =>
    obtain rfl := len_of hlen rfl
    obtain ⟨x, e, h⟩ := sJ_inv h
    exact J_pure (fun ρ p l e2 R s m args below meth c H locs cells slots Qf ls hx hb _ _ hl k => lv_lload_n hx hb hdg rfl (lk_at hl e) k) (fun _ h => okS_i h) (hK _ _ _ _ h)
  case aload i =>
    obtain rfl := len_of hlen rfl
    obtain ⟨x, e, h⟩ := sA_inv h
    exact J_pure (fun ρ p l e2 R s m args below meth c H locs cells slots Qf ls hx hb _ _ hl k => lv_aload hx hb hdg (lk_at hl e) k) (fun hokl h => okS_c (okL_lk hokl e) h) (hK _ _ _ _ h)
  case aload_n i =>
    obtain rfl := len_of hlen rfl
    obtain ⟨x, e, h⟩ := sA_inv h
    exact J_pure (fun ρ p l e2 R s m args below meth c H locs cells slots Qf ls hx hb _ _ hl k => lv_aload_n hx hb hdg rfl (lk_at hl e) k) (fun hokl h => okS_c (okL_lk hokl e) h) (hK _ _ _ _ h)
  case istore i =>
    obtain rfl := len_of hlen rfl
    obtain ⟨hi, h⟩ := bif_inv h
    obtain ⟨x, r, rfl, h⟩ := s1_inv h
    exact J_loc (i := i) (v := ai x) (fun ρ p l e2 R s m args below meth c H locs cells slots Qf ls hx hb hl k => lv_istore hx hb hdg hl (Nat.le_of_ble_eq_true hi) (toL_st1 ρ i (ai x) loc) k) (fun _ h => ⟨okI, okS_t h⟩) (hK _ _ _ _ h)
  case istore_n i =>
    obtain rfl := len_of hlen rfl
    obtain ⟨hi, h⟩ := bif_inv h
    obtain ⟨x, r, rfl, h⟩ := s1_inv h
    exact J_loc (i := (i : Nat)) (v := ai x) (fun ρ p l e2 R s m args below meth c H locs cells slots Qf ls hx hb hl k => lv_istore_n hx hb hdg rfl hl (Nat.le_of_ble_eq_true hi) (toL_st1 ρ i (ai x) loc) k) (fun _ h => ⟨okI, okS_t h⟩) (hK _ _ _ _ h)
  case astore i =>
    obtain rfl := len_of hlen rfl
    simp only [opI] at h
    split at h
    next q r =>
      obtain ⟨hi, h⟩ := bif_inv h
      exact J_loc (i := i) (v := .inr q) (fun ρ p l e2 R s m args below meth c H locs cells slots Qf ls hx hb hl k => lv_astore hx hb hdg hl (Nat.le_of_ble_eq_true hi) (toL_st1 ρ i (.inr q) loc) k) (fun _ h => ⟨okS_h h, okS_t h⟩) (hK _ _ _ _ h)
    next => exact h.elim
  case astore_n i =>
    obtain rfl := len_of hlen rfl
    simp only [opI] at h
    split at h
    next q r =>
      obtain ⟨hi, h⟩ := bif_inv h
      exact J_loc (i := (i : Nat)) (v := .inr q) (fun ρ p l e2 R s m args below meth c H locs cells slots Qf ls hx hb hl k => lv_astore_n hx hb hdg rfl hl (Nat.le_of_ble_eq_true hi) (toL_st1 ρ i (.inr q) loc) k) (fun _ h => ⟨okS_h h, okS_t h⟩) (hK _ _ _ _ h)
    next => exact h.elim
  case iinc i n =>
    obtain rfl := len_of hlen rfl
    obtain ⟨x, e, h⟩ := sI_inv h
    refine J_loc (i := i) (v := ai (x + Int32.ofInt n)) (fun ρ p l e2 R s m args below meth c H locs cells slots Qf ls hx hb hl k => ?_) (fun _ h => ⟨okI, h⟩) (hK _ _ _ _ h)
    obtain ⟨z, hz⟩ := List.getElem?_of_mem (List.mem_map.mpr ⟨(i, ai x), lk_mem e, rfl⟩ : (i, toV ρ (ai x)) ∈ toL ρ loc)
    have hlt : i < M.1.2.2.1 := by
      have := lv_lt (lk_at hl e)
      rw [hl.1] at this
      exact this
    exact lv_iinc hx hb hdg hl (k := z) hz rfl hlt (toL_st1 ρ i (ai (x + Int32.ofInt n)) loc) k
  case iadd =>
    obtain rfl := len_of hlen rfl
    obtain ⟨x, y, r, rfl, h⟩ := s2_inv h
    exact J_bin (f := fun x y => x + y) (fun p l e R s m args below meth c H locs cells slots Qf ls rest hx hb k => lv_iadd hx hb hdg k) (hK _ _ _ _ h)
  case isub =>
    obtain rfl := len_of hlen rfl
    obtain ⟨x, y, r, rfl, h⟩ := s2_inv h
    exact J_bin (f := fun x y => x - y) (fun p l e R s m args below meth c H locs cells slots Qf ls rest hx hb k => lv_isub hx hb hdg k) (hK _ _ _ _ h)
  case imul =>
    obtain rfl := len_of hlen rfl
    obtain ⟨x, y, r, rfl, h⟩ := s2_inv h
    exact J_bin (f := fun x y => x * y) (fun p l e R s m args below meth c H locs cells slots Qf ls rest hx hb k => lv_imul hx hb hdg k) (hK _ _ _ _ h)
  case idiv =>
    obtain rfl := len_of hlen rfl
    obtain ⟨x, y, r, rfl, hy, h⟩ := s2_inv h
    exact J_bin (f := fun x y => x / y) (fun p l e R s m args below meth c H locs cells slots Qf ls rest hx hb k => lv_idiv hx hb hdg hy k) (hK _ _ _ _ h)
  case irem =>
    obtain rfl := len_of hlen rfl
    obtain ⟨x, y, r, rfl, hy, h⟩ := s2_inv h
    exact J_bin (f := fun x y => x - x / y * y) (fun p l e R s m args below meth c H locs cells slots Qf ls rest hx hb k => lv_irem hx hb hdg hy k) (hK _ _ _ _ h)
  case iand =>
    obtain rfl := len_of hlen rfl
    obtain ⟨x, y, r, rfl, h⟩ := s2_inv h
    exact J_bin (f := fun x y => x &&& y) (fun p l e R s m args below meth c H locs cells slots Qf ls rest hx hb k => lv_iand hx hb hdg k) (hK _ _ _ _ h)
  case ior =>
    obtain rfl := len_of hlen rfl
    obtain ⟨x, y, r, rfl, h⟩ := s2_inv h
    exact J_bin (f := fun x y => x ||| y) (fun p l e R s m args below meth c H locs cells slots Qf ls rest hx hb k => lv_ior hx hb hdg k) (hK _ _ _ _ h)
  case ixor =>
    obtain rfl := len_of hlen rfl
    obtain ⟨x, y, r, rfl, h⟩ := s2_inv h
    exact J_bin (f := fun x y => x ^^^ y) (fun p l e R s m args below meth c H locs cells slots Qf ls rest hx hb k => lv_ixor hx hb hdg k) (hK _ _ _ _ h)
  case ishl =>
    obtain rfl := len_of hlen rfl
    obtain ⟨x, y, r, rfl, h⟩ := s2_inv h
    exact J_bin (f := fun x y => x <<< (y &&& 31)) (fun p l e R s m args below meth c H locs cells slots Qf ls rest hx hb k => lv_ishl hx hb hdg k) (hK _ _ _ _ h)
  case ishr =>
    obtain rfl := len_of hlen rfl
    obtain ⟨x, y, r, rfl, h⟩ := s2_inv h
    exact J_bin (f := fun x y => x >>> (y &&& 31)) (fun p l e R s m args below meth c H locs cells slots Qf ls rest hx hb k => lv_ishr hx hb hdg k) (hK _ _ _ _ h)
  case iushr =>
    obtain rfl := len_of hlen rfl
    obtain ⟨x, y, r, rfl, h⟩ := s2_inv h
    exact J_bin (f := fun x y => (x.toUInt32 >>> (y.toUInt32 &&& Int32.toUInt32 31)).toInt32) (fun p l e R s m args below meth c H locs cells slots Qf ls rest hx hb k => lv_iushr hx hb hdg rfl k) (hK _ _ _ _ h)
  case ineg =>
    obtain rfl := len_of hlen rfl
    obtain ⟨x, r, rfl, h⟩ := s1_inv h
    exact J_pure (fun ρ p l e2 R s m args below meth c H locs cells slots Qf ls hx hb _ _ hl k => lv_ineg hx hb hdg k) (fun hokl h => okS_i (okS_t h)) (hK _ _ _ _ h)
  case i2b =>
    obtain rfl := len_of hlen rfl
    obtain ⟨x, r, rfl, h⟩ := s1_inv h
    exact J_pure (fun ρ p l e2 R s m args below meth c H locs cells slots Qf ls hx hb _ _ hl k => lv_i2b hx hb hdg rfl k) (fun hokl h => okS_i (okS_t h)) (hK _ _ _ _ h)
  case i2s =>
    obtain rfl := len_of hlen rfl
    obtain ⟨x, r, rfl, h⟩ := s1_inv h
    exact J_pure (fun ρ p l e2 R s m args below meth c H locs cells slots Qf ls hx hb _ _ hl k => lv_i2s hx hb hdg rfl k) (fun hokl h => okS_i (okS_t h)) (hK _ _ _ _ h)
  case i2l =>
    obtain rfl := len_of hlen rfl
    obtain ⟨x, r, rfl, h⟩ := s1_inv h
    exact J_pure (fun ρ p l e2 R s m args below meth c H locs cells slots Qf ls hx hb _ _ hl k => lv_i2l hx hb hdg rfl k) (fun hokl h => okS_i (okS_t h)) (hK _ _ _ _ h)
  case l2i =>
    obtain rfl := len_of hlen rfl
    simp only [opI] at h
    split at h
    next x r => exact J_pure (fun ρ p l e2 R s m args below meth c H locs cells slots Qf ls hx hb _ _ hl k => lv_l2i hx hb hdg rfl k) (fun hokl h => okS_i (okS_t h)) (hK _ _ _ _ h)
    next => exact h.elim
  case dup =>
    obtain rfl := len_of hlen rfl
    simp only [opI] at h
    split at h
    next v r =>
      obtain ⟨hv, h⟩ := bif_inv h
      exact J_pure (fun ρ p l e2 R s m args below meth c H locs cells slots Qf ls hx hb _ _ hl k => lv_dup hx hb hdg (by rw [catA_toV]; exact Nat.eq_of_beq_eq_true hv) k) (fun hokl h => okS_c (okS_h h) h) (hK _ _ _ _ h)
    next => exact h.elim
  case dup2 =>
    obtain rfl := len_of hlen rfl
    simp only [opI] at h
    split at h
    next v u r =>
      obtain ⟨hv, h⟩ := bif_inv h
      rw [Bool.and_eq_true] at hv
      exact J_pure (fun ρ p l e2 R s m args below meth c H locs cells slots Qf ls hx hb _ _ hl k => lv_dup2_11 hx hb hdg (by rw [catA_toV]; exact Nat.eq_of_beq_eq_true hv.1) (by rw [catA_toV]; exact Nat.eq_of_beq_eq_true hv.2) k) (fun hokl h => okS_c (okS_h h) (okS_c (okS_h (okS_t h)) h)) (hK _ _ _ _ h)
    next => exact h.elim
  case pop =>
    obtain rfl := len_of hlen rfl
    simp only [opI] at h
    split at h
    next v r =>
      obtain ⟨hv, h⟩ := bif_inv h
      exact J_pure (fun ρ p l e2 R s m args below meth c H locs cells slots Qf ls hx hb _ _ hl k => lv_pop hx hb hdg (by rw [catA_toV]; exact Nat.eq_of_beq_eq_true hv) k) (fun hokl h => okS_t h) (hK _ _ _ _ h)
    next => exact h.elim
  case lcmp =>
    obtain rfl := len_of hlen rfl
    simp only [opI] at h
    split at h
    next y x r => exact J_pure (fun ρ p l e2 R s m args below meth c H locs cells slots Qf ls hx hb _ _ hl k => W.lcmp hx hb hdg k) (fun hokl h => okS_i (okS_t (okS_t h))) (hK _ _ _ _ h)
    next => exact h.elim
  case areturn =>
    obtain rfl := len_of hlen rfl
    simp only [opI] at h
    split at h
    next q =>
      split at h
      next cn hr => exact J_aret hr hdg h
      next => exact h.elim
    next => exact h.elim
  case goto off =>
    obtain rfl := len_of hlen rfl
    simp only [opI] at h
    split at h
    next t ht => exact J_pure (pc' := t) (fun ρ p l e2 R s m args below meth c H locs cells slots Qf ls hx hb _ _ hl k => lv_goto hx hb hdg (tg_eq ht) k) (fun hokl h => h) (hK _ _ _ _ h)
    next => exact h.elim
  case if_icmp cd off =>
    obtain rfl := len_of hlen rfl
    simp only [opI] at h
    split at h
    next t ht =>
      obtain ⟨x, y, r, rfl, h3, h4⟩ := s2_inv h
      exact J_cmp (K := K) hdg ht (fun q => hK _ _ _ _ (h3 q)) (fun q => hK _ _ _ _ (h4 q))
    next => exact h.elim
  case ifCond cd off =>
    obtain rfl := len_of hlen rfl
    simp only [opI] at h
    split at h
    next t ht =>
      obtain ⟨x, r, rfl, h3, h4⟩ := s1_inv h
      exact J_if0 hdg ht (fun q => hK _ _ _ _ (h3 q)) (fun q => hK _ _ _ _ (h4 q))
    next => exact h.elim
  case tableswitch dflt lo hi offs =>
    obtain ⟨hs, h⟩ := bif_inv h
    obtain ⟨x, r, rfl, h1, h2⟩ := s1_inv h
    exact J_tsw hK hdg (Nat.eq_of_beq_eq_true hs) h1 h2
  case ldc idx =>
    obtain rfl := len_of hlen rfl
    simp only [opI] at h
    split at h
    next v hp =>
      have hw := hM.2.1 _ (plk_mem hp)
      exact J_pure (fun ρ p l e2 R s m args below meth c H locs cells slots Qf ls hx hb hown hts hl k => lv_ldc hx hb hown (hts _ hw) hdg k) (fun hokl h => okS_i h) (hK _ _ _ _ h)
    next => exact h.elim
  case ldc_w idx =>
    obtain rfl := len_of hlen rfl
    simp only [opI] at h
    split at h
    next v hp =>
      have hw := hM.2.1 _ (plk_mem hp)
      exact J_pure (fun ρ p l e2 R s m args below meth c H locs cells slots Qf ls hx hb hown hts hl k => lv_ldcw hx hb hown (hts _ hw) hdg k) (fun hokl h => okS_i h) (hK _ _ _ _ h)
    next => exact h.elim
  case getfield idx =>
    obtain rfl := len_of hlen rfl
    simp only [opI] at h
    split at h
    next ci j w hp =>
      split at h
      next k i r =>
        split at h
        next ci' fl hk =>
          have hc := (bif_inv h).1
          replace h := (bif_inv h).2
          obtain rfl := Nat.eq_of_beq_eq_true hc
          split at h
          next hj => exact J_getI hM hp hk hj hdg (hK _ _ _ _ h)
          next rk hj => exact J_getR hI hM hp hk hj hdg (hK _ _ _ _ h)
          next => exact h.elim
        next => exact h.elim
      next => exact h.elim
    next => exact h.elim
  case putfield idx =>
    obtain rfl := len_of hlen rfl
    simp only [opI] at h
    split at h
    next ci j hp =>
      split at h
      next v k i r =>
        split at h
        next ci' fl hk =>
          have hc := (bif_inv h).1
          replace h := (bif_inv h).2
          obtain rfl := Nat.eq_of_beq_eq_true hc
          split at h
          next hj => exact J_putI hI hM hp (Or.inl rfl) hk hj hdg (hK _ _ _ _ h)
          next => exact h.elim
        next => exact h.elim
      next => exact h.elim
    next ci j hp =>
      split at h
      next v k i r =>
        split at h
        next ci' fl hk =>
          have hc := (bif_inv h).1
          replace h := (bif_inv h).2
          obtain rfl := Nat.eq_of_beq_eq_true hc
          split at h
          next hj => exact J_putI hI hM hp (Or.inr ⟨rfl, h.1⟩) hk hj hdg (hK _ _ _ _ h.2)
          next => exact h.elim
        next => exact h.elim
      next => exact h.elim
    next => exact h.elim
  case iaload =>
    obtain rfl := len_of hlen rfl
    have h0 := sAI_inv h
    clear h
    obtain ⟨x, k, i, r, rfl, h⟩ := h0
    split at h
    next n q hk => exact J_iald hk h.1 hdg (hK _ _ _ _ h.2)
    next => exact h.elim
  case baload =>
    obtain rfl := len_of hlen rfl
    have h0 := sAI_inv h
    clear h
    obtain ⟨x, k, i, r, rfl, h⟩ := h0
    split at h
    next n q hk => exact J_zald hk h.1 hdg (hK _ _ _ _ h.2)
    next => exact h.elim
  case laload =>
    obtain rfl := len_of hlen rfl
    have h0 := sAI_inv h
    clear h
    obtain ⟨x, k, i, r, rfl, h⟩ := h0
    split at h
    next n q hk => exact J_lald hk h.1 hdg (hK _ _ _ _ h.2)
    next => exact h.elim
  case aaload =>
    obtain rfl := len_of hlen rfl
    have h0 := sAI_inv h
    clear h
    obtain ⟨x, k, i, r, rfl, h⟩ := h0
    split at h
    next t n q hk =>
      obtain ⟨ht, h⟩ := bif_inv h
      exact J_aald hI hk (Nat.le_of_ble_eq_true ht) h.1 hdg (hK _ _ _ _ h.2)
    next => exact h.elim
  case iastore =>
    obtain rfl := len_of hlen rfl
    have h0 := sAII_inv h
    clear h
    obtain ⟨v, x, k, i, r, rfl, h⟩ := h0
    split at h
    next n q hk => exact J_iast hI hk h.1 hdg (hK _ _ _ _ h.2)
    next => exact h.elim
  case bastore =>
    obtain rfl := len_of hlen rfl
    have h0 := sAII_inv h
    clear h
    obtain ⟨v, x, k, i, r, rfl, h⟩ := h0
    split at h
    next n q hk => exact J_zast hI hk h.1 h.2.1 hdg (hK _ _ _ _ h.2.2)
    next => exact h.elim
  case lastore =>
    obtain rfl := len_of hlen rfl
    simp only [opI] at h
    split at h
    next v x k i r =>
      split at h
      next n q hk => exact J_last hI hk h.1 hdg (hK _ _ _ _ h.2)
      next => exact h.elim
    next => exact h.elim
  case arraylength =>
    obtain rfl := len_of hlen rfl
    simp only [opI] at h
    split at h
    next k i r =>
      split at h
      next t n q hk =>
        obtain ⟨ht, h⟩ := bif_inv h
        exact J_alen hk (Nat.le_of_ble_eq_true ht) hdg (hK _ _ _ _ h)
      next => exact h.elim
    next => exact h.elim
  case invokevirtual idx =>
    obtain rfl := len_of hlen rfl
    simp only [opI] at h
    split at h
    next S hp =>
      split at h
      next ci hci =>
        split at h
        next k i r hdrop =>
          split at h
          next ci' fl hk =>
            have hc := (bif_inv h).1
            replace h := (bif_inv h).2
            rw [Bool.and_eq_true] at hc
            obtain rfl := Nat.eq_of_beq_eq_true hc.1
            obtain ⟨Q', hC, hQ⟩ := opS_inv h
            have e1 : stk = (stk.take S.2.2.2.2.1).reverse.reverse ++ ar k i :: r := by
              rw [List.reverse_reverse]
              exact ((congrArg (fun z => stk.take S.2.2.2.2.1 ++ z) hdrop).symm.trans (List.take_append_drop _ _)).symm
            rw [e1]
            refine J_virt hM hp hci hdg ?_ hk (Nat.le_of_ble_eq_true hc.2) hC (fun v σ' hq => hK _ _ _ _ (hQ v σ' hq))
            rw [List.length_reverse, List.length_take]
            have hl : (stk.drop S.2.2.2.2.1).length ≠ 0 := by rw [hdrop]; simp
            rw [List.length_drop] at hl
            omega
          next => exact h.elim
        next => exact h.elim
      next => exact h.elim
    next => exact h.elim
  case invokestatic idx =>
    obtain rfl := len_of hlen rfl
    simp only [opI] at h
    split at h
    next S hp =>
      split at h
      next hci =>
        obtain ⟨hc, h⟩ := bif_inv h
        rw [Bool.and_eq_true] at hc
        obtain ⟨Q', hC, hQ⟩ := opS_inv h
        have e1 : stk = (stk.take S.2.2.2.2.1).reverse.reverse ++ stk.drop S.2.2.2.2.1 := by
          rw [List.reverse_reverse, List.take_append_drop]
        rw [e1]
        exact J_stat hM hp hci hdg (by rw [List.length_reverse]; exact Nat.eq_of_beq_eq_true hc.1) (Nat.le_of_ble_eq_true hc.2) hC (fun v σ' hq => hK _ _ _ _ (hQ v σ' hq))
      next => exact h.elim
    next hp =>
      split at h
      next x k i r =>
        have hc := (bif_inv h).1
        replace h := (bif_inv h).2
        rw [Bool.and_eq_true, Bool.and_eq_true] at hc
        obtain rfl := Nat.eq_of_beq_eq_true hc.2.1
        obtain rfl := Nat.eq_of_beq_eq_true hc.2.2
        exact J_at hM hp hdg (Nat.le_of_ble_eq_true hc.1) h.1 (fun v => hK _ _ _ _ (h.2 v))
      next => exact h.elim
    next hp =>
      obtain ⟨x, y, r, rfl, h⟩ := s2_inv h
      obtain ⟨hr8, h⟩ := bif_inv h
      exact J_min hM hp hdg (Nat.le_of_ble_eq_true hr8) (hK _ _ _ _ h)
    next hp =>
      split at h
      next n dp k i sp k0 i0 r =>
        split at h
        next n1 z1 n0 z0 hk hk0 =>
          obtain ⟨hr8, g1, g2, g3, g4, g5, h⟩ := bif_inv h
          exact J_copy hI hM hp hdg hk hk0 (Nat.le_of_ble_eq_true hr8) g1 g2 g3 g4 g5 (hK _ _ _ _ h)
        next => exact h.elim
      next => exact h.elim
    next => exact h.elim
  case ireturn =>
    obtain rfl := len_of hlen rfl
    simp only [opI] at h
    split at h
    next v =>
      split at h
      next hr => exact J_iret hr rfl hdg h
      next hr => exact J_iret hr (nar_bool h.1).1 hdg h.2
      next => exact h.elim
    next => exact h.elim
  case lreturn =>
    obtain rfl := len_of hlen rfl
    simp only [opI] at h
    split at h
    next v =>
      split at h
      next hr => exact J_lret hr hdg h
      next => exact h.elim
    next => exact h.elim
  case return_ =>
    obtain rfl := len_of hlen rfl
    simp only [opI] at h
    split at h
    next =>
      split at h
      next hr => exact J_vret hr hdg h
      next => exact h.elim
    next => exact h.elim
  all_goals exact False.elim h
theorem pickL_mem : ∀ {l : List Nat} {loc : Loc2} {q : Nat × AV}, q ∈ pickL loc l → q ∈ loc
  | [], _, _, h => by cases h
  | i :: l, loc, q, h => by
    unfold pickL at h
    split at h
    next v e =>
      rcases List.mem_cons.mp h with rfl | h
      · exact lk_mem e
      · exact pickL_mem h
    next => exact pickL_mem h
theorem J_less {loc' : Loc2} (h : ∀ q ∈ loc', q ∈ loc) (k : J I M d pc loc' stk σ Q) : J I M d pc loc stk σ Q := by
  intro hX p l e R s m args below meth c D cy ρ A cells slots H locs ls C h1 h2 hP hD hS hl hokl hoks
  refine k hX p l e R s m args below meth c D cy ρ A cells slots H locs ls C h1 h2 hP hD hS ⟨hl.1, hl.2.1, fun q hq => ?_⟩ (fun q hq => hokl q (h q hq)) hoks
  obtain ⟨q0, h0, rfl⟩ := List.mem_map.mp hq
  exact hl.2.2 _ (List.mem_map.mpr ⟨q0, h q0 h0, rfl⟩)
theorem wp_J (hI : OKI I) (hM : MOK M) {cuts : List (Nat × List Nat)} : ∀ (n pc : Nat) (loc : Loc2) (stk : List AV) (σ : Mem), wp I M d cuts Q n pc loc stk σ → J I M (d + 1) pc loc stk σ Q
  | 0, _, _, _, _, h => h.elim
  | n + 1, pc, loc, stk, σ, h => by
    unfold wp at h
    split at h
    next ins len hc =>
      obtain ⟨hlen, h⟩ := bif_inv h
      refine opI_sound hI hM (fun pc' loc' stk' σ' h' => ?_) ins len (hM.1 _ _ hc) hlen h
      revert h'
      cases cutN cuts pc' with
      | some l => exact fun h' => J_less (fun q hq => pickL_mem hq) h'
      | none => exact fun h' => wp_J hI hM n pc' loc' stk' σ' h'
    next => exact h.elim
end Main4
end
section
def S_X0_init : SR := (yX0_init, cX0_init, 1, none, 0, some 0)
def S_X0_examine : SR := (yX0_examine, cX0_examine, 4, none, 2, some 0)
def S_X0_placeOf : SR := (yX0_placeOf, cX0_placeOf, 2, (some .int), 2, none)
def S_X0_startOf : SR := (yX0_startOf, cX0_startOf, 2, (some .int), 2, none)
def S_X0_endOf : SR := (yX0_endOf, cX0_endOf, 2, (some .int), 2, none)
def S_X0_faultOf : SR := (yX0_faultOf, cX0_faultOf, 3, (some .int), 3, none)
def S_X0_meetsEarlier : SR := (yX0_meetsEarlier, cX0_meetsEarlier, 3, (some .boolean), 2, none)
def S_X0_isReachable : SR := (yX0_isReachable, cX0_isReachable, 6, (some .boolean), 3, none)
def S_X0_isInTime : SR := (yX0_isInTime, cX0_isInTime, 4, (some .boolean), 4, none)
def S_X1_init : SR := (yX1_init, cX1_init, 1, none, 0, some 1)
def S_X1_arrange : SR := (yX1_arrange, cX1_arrange, 6, none, 5, some 1)
def S_X1_isOf : SR := (yX1_isOf, cX1_isOf, 2, (some .boolean), 1, some 1)
def S_X1_beginDay : SR := (yX1_beginDay, cX1_beginDay, 1, none, 0, some 1)
def S_X1_live : SR := (yX1_live, cX1_live, 5, none, 2, some 1)
def S_X2_init : SR := (yX2_init, cX2_init, 1, none, 0, some 2)
def S_X2_weigh : SR := (yX2_weigh, cX2_weigh, 3, none, 1, some 2)
def S_X2_claim : SR := (yX2_claim, cX2_claim, 6, none, 4, some 2)
def S_X2_search : SR := (yX2_search, cX2_search, 8, none, 5, some 2)
def S_X2_mayBeIn : SR := (yX2_mayBeIn, cX2_mayBeIn, 6, (some .boolean), 6, none)
def S_X2_stay : SR := (yX2_stay, cX2_stay, 7, none, 4, some 2)
def S_X2_goOn : SR := (yX2_goOn, cX2_goOn, 7, none, 3, some 2)
def S_X2_costOfWay : SR := (yX2_costOfWay, cX2_costOfWay, 4, (some .int), 3, some 2)
def S_X2_write : SR := (yX2_write, cX2_write, 12, (some .int), 5, some 2)
def S_X3_init : SR := (yX3_init, cX3_init, 1, none, 0, some 3)
def S_X3_takeDuties : SR := (yX3_takeDuties, cX3_takeDuties, 3, (some .int), 1, some 3)
def S_X3_hasKey : SR := (yX3_hasKey, cX3_hasKey, 2, (some .boolean), 1, some 3)
def S_X3_beginDay : SR := (yX3_beginDay, cX3_beginDay, 1, none, 0, some 3)
def S_X3_takeBend : SR := (yX3_takeBend, cX3_takeBend, 4, none, 3, some 3)
def S_X3_leave : SR := (yX3_leave, cX3_leave, 3, none, 1, some 3)
def S_X3_isDueIn : SR := (yX3_isDueIn, cX3_isDueIn, 4, (some .boolean), 2, some 3)
def S_X3_freeFrom : SR := (yX3_freeFrom, cX3_freeFrom, 3, (some .int), 1, some 3)
def S_X3_standsAt : SR := (yX3_standsAt, cX3_standsAt, 3, (some .int), 1, some 3)
def S_X3_learn : SR := (yX3_learn, cX3_learn, 4, none, 2, some 3)
def S_X4_init : SR := (yX4_init, cX4_init, 1, none, 0, some 4)
def S_X4_clear : SR := (yX4_clear, cX4_clear, 1, none, 0, some 4)
def S_X4_taken : SR := (yX4_taken, cX4_taken, 3, (some .int), 2, some 4)
def S_X4_take : SR := (yX4_take, cX4_take, 3, none, 2, some 4)
def S_X4_release : SR := (yX4_release, cX4_release, 3, none, 2, some 4)
def S_X4_add : SR := (yX4_add, cX4_add, 5, none, 3, some 4)
def S_X5_init : SR := (yX5_init, cX5_init, 1, none, 0, some 5)
def S_X5_isRow : SR := (yX5_isRow, cX5_isRow, 1, (some .boolean), 0, some 5)
def S_X5_isPerson : SR := (yX5_isPerson, cX5_isPerson, 1, (some .boolean), 0, some 5)
def S_X5_clear : SR := (yX5_clear, cX5_clear, 1, none, 0, some 5)
def S_X5_putRow : SR := (yX5_putRow, cX5_putRow, 3, none, 2, some 5)
def S_X5_write : SR := (yX5_write, cX5_write, 4, none, 2, some 5)
def S_X5_asInt : SR := (yX5_asInt, cX5_asInt, 2, (some .int), 1, some 5)
def S_X6_init : SR := (yX6_init, cX6_init, 1, none, 0, some 6)
def S_X6_has : SR := (yX6_has, cX6_has, 2, (some .boolean), 1, some 6)
def S_X6_addPlace : SR := (yX6_addPlace, cX6_addPlace, 6, (some .int), 3, some 6)
def S_X6_addWay : SR := (yX6_addWay, cX6_addWay, 7, none, 3, some 6)
def S_X6_shorten : SR := (yX6_shorten, cX6_shorten, 8, none, 5, some 6)
def S_X6_apart : SR := (yX6_apart, cX6_apart, 3, (some .int), 2, some 6)
def S_X6_isReached : SR := (yX6_isReached, cX6_isReached, 5, (some .boolean), 3, some 6)
def S_X6_wayTicks : SR := (yX6_wayTicks, cX6_wayTicks, 3, (some .int), 2, some 6)
def S_X6_isOpen : SR := (yX6_isOpen, cX6_isOpen, 3, (some .boolean), 2, some 6)
def S_X7_init : SR := (yX7_init, cX7_init, 2, none, 0, some 7)
def S_X7_place : SR := (yX7_place, cX7_place, 4, (some .int), 3, some 7)
def S_X7_way : SR := (yX7_way, cX7_way, 4, (some .int), 3, some 7)
def S_X7_folk : SR := (yX7_folk, cX7_folk, 2, (some .int), 1, some 7)
def S_X7_meeting : SR := (yX7_meeting, cX7_meeting, 6, (some .int), 5, some 7)
def S_X7_row : SR := (yX7_row, cX7_row, 4, (some .int), 3, some 7)
def S_X7_set : SR := (yX7_set, cX7_set, 7, (some .int), 3, some 7)
def S_X7_duties : SR := (yX7_duties, cX7_duties, 4, (some .int), 2, some 7)
def S_X7_key : SR := (yX7_key, cX7_key, 6, (some .int), 3, some 7)
def S_X7_begin : SR := (yX7_begin, cX7_begin, 1, (some .int), 0, some 7)
def S_X7_tick : SR := (yX7_tick, cX7_tick, 3, (some .int), 1, some 7)
def S_X7_bend : SR := (yX7_bend, cX7_bend, 5, (some .int), 4, some 7)
def S_X7_lock : SR := (yX7_lock, cX7_lock, 5, (some .int), 2, some 7)
def S_X7_again : SR := (yX7_again, cX7_again, 2, (some .int), 1, some 7)
def S_X7_gone : SR := (yX7_gone, cX7_gone, 2, (some .int), 1, some 7)
def S_X7_happen : SR := (yX7_happen, cX7_happen, 5, (some .int), 1, some 7)
def S_X7_where : SR := (yX7_where, cX7_where, 3, (some .int), 2, some 7)
def S_X7_status : SR := (yX7_status, cX7_status, 2, (some .int), 1, some 7)
def S_X7_refuse : SR := (yX7_refuse, cX7_refuse, 2, (some .int), 1, some 7)
def S_X7_refusalsOf : SR := (yX7_refusalsOf, cX7_refusalsOf, 2, (some .int), 1, some 7)
def S_X7_refusalOfRow : SR := (yX7_refusalOfRow, cX7_refusalOfRow, 2, (some .int), 1, some 7)
def S_X7_isShelf : SR := (yX7_isShelf, cX7_isShelf, 1, (some .boolean), 1, none)
def S_X7_isSpan : SR := (yX7_isSpan, cX7_isSpan, 2, (some .boolean), 2, none)
def S_X7_isTick : SR := (yX7_isTick, cX7_isTick, 1, (some .boolean), 1, none)
def S_X7_isWeight : SR := (yX7_isWeight, cX7_isWeight, 1, (some .boolean), 1, none)
def S_X7_wasEver : SR := (yX7_wasEver, cX7_wasEver, 2, (some .boolean), 1, some 7)
def S_X7_isHere : SR := (yX7_isHere, cX7_isHere, 2, (some .boolean), 1, some 7)
def S_X7_areAllHere : SR := (yX7_areAllHere, cX7_areAllHere, 3, (some .boolean), 1, some 7)
def S_X7_countHere : SR := (yX7_countHere, cX7_countHere, 3, (some .int), 0, some 7)
def S_X7_countBent : SR := (yX7_countBent, cX7_countBent, 3, (some .int), 0, some 7)
def S_X7_moment : SR := (yX7_moment, cX7_moment, 1, (some .int), 0, some 7)
def S_X7_beginDay : SR := (yX7_beginDay, cX7_beginDay, 3, (some .int), 0, some 7)
def S_X7_liveTick : SR := (yX7_liveTick, cX7_liveTick, 2, none, 0, some 7)
def S_X7_tellFacts : SR := (yX7_tellFacts, cX7_tellFacts, 3, none, 0, some 7)
def S_X7_isIn : SR := (yX7_isIn, cX7_isIn, 1, (some .boolean), 1, none)
def S_X7_replanThoseDueIn : SR := (yX7_replanThoseDueIn, cX7_replanThoseDueIn, 4, (some .int), 1, some 7)
def S_X7_replan : SR := (yX7_replan, cX7_replan, 5, (some .int), 1, some 7)
def S_J6_bitCount_0f7a4 : SR := (yJ6_bitCount_0f7a4, cJ6_bitCount_0f7a4, 1, (some .int), 1, none)
def S_J9_min_7cf53 : SR := (yJ9_min_7cf53, cJ9_min_7cf53, 2, (some .int), 2, none)
def S_J7_fill_d0a16 : SR := (yJ7_fill_d0a16, cJ7_fill_d0a16, 5, none, 2, none)
def S_J7_fill_53178 : SR := (yJ7_fill_53178, cJ7_fill_53178, 4, none, 2, none)
def S_L_at : SR := (yL_at, cL_at, 2, (some .int), 2, none)
def S_L_build : SR := (yL_build, cL_build, 7, (some (.object "TownFolk")), 1, none)
def S_L_acts : SR := (yL_acts, cL_acts, 6, none, 2, none)
def S_L_law : SR := (yL_law, cL_law, 13, (some .boolean), 1, none)
theorem Sok_X0_examine : Sok S_X0_examine := ⟨tb_2 174 (by decide +kernel) (by decide +kernel), tb_1 5 (by decide +kernel) (by decide +kernel), by decide +kernel, by decide, by decide +kernel, ⟨tb_2 172 (by decide +kernel) (by decide +kernel), tb_2 173 (by decide +kernel) (by decide +kernel), by decide +kernel⟩⟩
theorem Sok_X0_placeOf : Sok S_X0_placeOf := ⟨tb_2 180 (by decide +kernel) (by decide +kernel), tb_1 5 (by decide +kernel) (by decide +kernel), by decide +kernel, by decide, by decide +kernel, tb_2 179 (by decide +kernel) (by decide +kernel)⟩
theorem Sok_X0_startOf : Sok S_X0_startOf := ⟨tb_2 188 (by decide +kernel) (by decide +kernel), tb_1 5 (by decide +kernel) (by decide +kernel), by decide +kernel, by decide, by decide +kernel, tb_2 187 (by decide +kernel) (by decide +kernel)⟩
theorem Sok_X0_endOf : Sok S_X0_endOf := ⟨tb_2 191 (by decide +kernel) (by decide +kernel), tb_1 5 (by decide +kernel) (by decide +kernel), by decide +kernel, by decide, by decide +kernel, tb_2 190 (by decide +kernel) (by decide +kernel)⟩
theorem Sok_X0_faultOf : Sok S_X0_faultOf := ⟨tb_2 177 (by decide +kernel) (by decide +kernel), tb_1 5 (by decide +kernel) (by decide +kernel), by decide +kernel, by decide, by decide +kernel, tb_2 176 (by decide +kernel) (by decide +kernel)⟩
theorem Sok_X0_meetsEarlier : Sok S_X0_meetsEarlier := ⟨tb_2 198 (by decide +kernel) (by decide +kernel), tb_1 5 (by decide +kernel) (by decide +kernel), by decide +kernel, by decide, by decide +kernel, tb_2 197 (by decide +kernel) (by decide +kernel)⟩
theorem Sok_X0_isReachable : Sok S_X0_isReachable := ⟨tb_2 201 (by decide +kernel) (by decide +kernel), tb_1 5 (by decide +kernel) (by decide +kernel), by decide +kernel, by decide, by decide +kernel, tb_2 200 (by decide +kernel) (by decide +kernel)⟩
theorem Sok_X0_isInTime : Sok S_X0_isInTime := ⟨tb_2 204 (by decide +kernel) (by decide +kernel), tb_1 5 (by decide +kernel) (by decide +kernel), by decide +kernel, by decide, by decide +kernel, tb_2 203 (by decide +kernel) (by decide +kernel)⟩
theorem Sok_X1_arrange : Sok S_X1_arrange := ⟨tb_2 227 (by decide +kernel) (by decide +kernel), tb_1 9 (by decide +kernel) (by decide +kernel), by decide +kernel, by decide, by decide +kernel, ⟨tb_2 225 (by decide +kernel) (by decide +kernel), tb_2 226 (by decide +kernel) (by decide +kernel), by decide +kernel⟩⟩
theorem Sok_X1_isOf : Sok S_X1_isOf := ⟨tb_3 36 (by decide +kernel) (by decide +kernel), tb_1 9 (by decide +kernel) (by decide +kernel), by decide +kernel, by decide, by decide +kernel, ⟨tb_3 34 (by decide +kernel) (by decide +kernel), tb_3 35 (by decide +kernel) (by decide +kernel), by decide +kernel⟩⟩
theorem Sok_X1_beginDay : Sok S_X1_beginDay := ⟨tb_3 4 (by decide +kernel) (by decide +kernel), tb_1 9 (by decide +kernel) (by decide +kernel), by decide +kernel, by decide, by decide +kernel, ⟨tb_3 2 (by decide +kernel) (by decide +kernel), tb_3 3 (by decide +kernel) (by decide +kernel), by decide +kernel⟩⟩
theorem Sok_X1_live : Sok S_X1_live := ⟨tb_3 117 (by decide +kernel) (by decide +kernel), tb_1 9 (by decide +kernel) (by decide +kernel), by decide +kernel, by decide, by decide +kernel, ⟨tb_3 115 (by decide +kernel) (by decide +kernel), tb_3 116 (by decide +kernel) (by decide +kernel), by decide +kernel⟩⟩
theorem Sok_X2_weigh : Sok S_X2_weigh := ⟨tb_3 27 (by decide +kernel) (by decide +kernel), tb_1 4 (by decide +kernel) (by decide +kernel), by decide +kernel, by decide, by decide +kernel, ⟨tb_3 25 (by decide +kernel) (by decide +kernel), tb_3 26 (by decide +kernel) (by decide +kernel), by decide +kernel⟩⟩
theorem Sok_X2_claim : Sok S_X2_claim := ⟨tb_3 32 (by decide +kernel) (by decide +kernel), tb_1 4 (by decide +kernel) (by decide +kernel), by decide +kernel, by decide, by decide +kernel, ⟨tb_3 30 (by decide +kernel) (by decide +kernel), tb_3 31 (by decide +kernel) (by decide +kernel), by decide +kernel⟩⟩
theorem Sok_X2_search : Sok S_X2_search := ⟨tb_3 49 (by decide +kernel) (by decide +kernel), tb_1 4 (by decide +kernel) (by decide +kernel), by decide +kernel, by decide, by decide +kernel, ⟨tb_3 47 (by decide +kernel) (by decide +kernel), tb_3 48 (by decide +kernel) (by decide +kernel), by decide +kernel⟩⟩
theorem Sok_X2_mayBeIn : Sok S_X2_mayBeIn := ⟨tb_3 52 (by decide +kernel) (by decide +kernel), tb_1 4 (by decide +kernel) (by decide +kernel), by decide +kernel, by decide, by decide +kernel, tb_3 51 (by decide +kernel) (by decide +kernel)⟩
theorem Sok_X2_stay : Sok S_X2_stay := ⟨tb_3 68 (by decide +kernel) (by decide +kernel), tb_1 4 (by decide +kernel) (by decide +kernel), by decide +kernel, by decide, by decide +kernel, ⟨tb_3 67 (by decide +kernel) (by decide +kernel), tbs_1 yX2_stay 5 12 (by decide +kernel), by decide +kernel⟩⟩
theorem Sok_X2_goOn : Sok S_X2_goOn := ⟨tb_3 72 (by decide +kernel) (by decide +kernel), tb_1 4 (by decide +kernel) (by decide +kernel), by decide +kernel, by decide, by decide +kernel, ⟨tb_3 71 (by decide +kernel) (by decide +kernel), tbs_1 yX2_goOn 5 13 (by decide +kernel), by decide +kernel⟩⟩
theorem Sok_X2_costOfWay : Sok S_X2_costOfWay := ⟨tb_3 80 (by decide +kernel) (by decide +kernel), tb_1 4 (by decide +kernel) (by decide +kernel), by decide +kernel, by decide, by decide +kernel, ⟨tb_3 79 (by decide +kernel) (by decide +kernel), tbs_1 yX2_costOfWay 5 14 (by decide +kernel), by decide +kernel⟩⟩
theorem Sok_X2_write : Sok S_X2_write := ⟨tb_3 84 (by decide +kernel) (by decide +kernel), tb_1 4 (by decide +kernel) (by decide +kernel), by decide +kernel, by decide, by decide +kernel, ⟨tb_3 82 (by decide +kernel) (by decide +kernel), tb_3 83 (by decide +kernel) (by decide +kernel), by decide +kernel⟩⟩
theorem Sok_X3_takeDuties : Sok S_X3_takeDuties := ⟨tb_2 212 (by decide +kernel) (by decide +kernel), tb_1 7 (by decide +kernel) (by decide +kernel), by decide +kernel, by decide, by decide +kernel, ⟨tb_2 210 (by decide +kernel) (by decide +kernel), tb_2 211 (by decide +kernel) (by decide +kernel), by decide +kernel⟩⟩
theorem Sok_X3_hasKey : Sok S_X3_hasKey := ⟨tb_3 60 (by decide +kernel) (by decide +kernel), tb_1 7 (by decide +kernel) (by decide +kernel), by decide +kernel, by decide, by decide +kernel, ⟨tb_3 58 (by decide +kernel) (by decide +kernel), tb_3 59 (by decide +kernel) (by decide +kernel), by decide +kernel⟩⟩
theorem Sok_X3_beginDay : Sok S_X3_beginDay := ⟨tb_3 8 (by decide +kernel) (by decide +kernel), tb_1 7 (by decide +kernel) (by decide +kernel), by decide +kernel, by decide, by decide +kernel, ⟨tb_3 6 (by decide +kernel) (by decide +kernel), tb_3 7 (by decide +kernel) (by decide +kernel), by decide +kernel⟩⟩
theorem Sok_X3_takeBend : Sok S_X3_takeBend := ⟨tb_3 126 (by decide +kernel) (by decide +kernel), tb_1 7 (by decide +kernel) (by decide +kernel), by decide +kernel, by decide, by decide +kernel, ⟨tb_3 124 (by decide +kernel) (by decide +kernel), tb_3 125 (by decide +kernel) (by decide +kernel), by decide +kernel⟩⟩
theorem Sok_X3_leave : Sok S_X3_leave := ⟨tb_3 154 (by decide +kernel) (by decide +kernel), tb_1 7 (by decide +kernel) (by decide +kernel), by decide +kernel, by decide, by decide +kernel, ⟨tb_3 152 (by decide +kernel) (by decide +kernel), tb_3 153 (by decide +kernel) (by decide +kernel), by decide +kernel⟩⟩
theorem Sok_X3_isDueIn : Sok S_X3_isDueIn := ⟨tb_3 138 (by decide +kernel) (by decide +kernel), tb_1 7 (by decide +kernel) (by decide +kernel), by decide +kernel, by decide, by decide +kernel, ⟨tb_3 136 (by decide +kernel) (by decide +kernel), tb_3 137 (by decide +kernel) (by decide +kernel), by decide +kernel⟩⟩
theorem Sok_X3_freeFrom : Sok S_X3_freeFrom := ⟨tb_3 41 (by decide +kernel) (by decide +kernel), tb_1 7 (by decide +kernel) (by decide +kernel), by decide +kernel, by decide, by decide +kernel, ⟨tb_3 39 (by decide +kernel) (by decide +kernel), tb_3 40 (by decide +kernel) (by decide +kernel), by decide +kernel⟩⟩
theorem Sok_X3_standsAt : Sok S_X3_standsAt := ⟨tb_3 45 (by decide +kernel) (by decide +kernel), tb_1 7 (by decide +kernel) (by decide +kernel), by decide +kernel, by decide, by decide +kernel, ⟨tb_3 43 (by decide +kernel) (by decide +kernel), tb_3 44 (by decide +kernel) (by decide +kernel), by decide +kernel⟩⟩
theorem Sok_X3_learn : Sok S_X3_learn := ⟨tb_3 113 (by decide +kernel) (by decide +kernel), tb_1 7 (by decide +kernel) (by decide +kernel), by decide +kernel, by decide, by decide +kernel, ⟨tb_3 111 (by decide +kernel) (by decide +kernel), tb_3 112 (by decide +kernel) (by decide +kernel), by decide +kernel⟩⟩
theorem Sok_X4_clear : Sok S_X4_clear := ⟨tb_2 239 (by decide +kernel) (by decide +kernel), tb_1 3 (by decide +kernel) (by decide +kernel), by decide +kernel, by decide, by decide +kernel, ⟨tb_2 237 (by decide +kernel) (by decide +kernel), tb_2 238 (by decide +kernel) (by decide +kernel), by decide +kernel⟩⟩
theorem Sok_X4_taken : Sok S_X4_taken := ⟨tb_3 64 (by decide +kernel) (by decide +kernel), tb_1 3 (by decide +kernel) (by decide +kernel), by decide +kernel, by decide, by decide +kernel, ⟨tb_3 62 (by decide +kernel) (by decide +kernel), tb_3 63 (by decide +kernel) (by decide +kernel), by decide +kernel⟩⟩
theorem Sok_X4_take : Sok S_X4_take := ⟨tb_3 88 (by decide +kernel) (by decide +kernel), tb_1 3 (by decide +kernel) (by decide +kernel), by decide +kernel, by decide, by decide +kernel, ⟨tb_3 86 (by decide +kernel) (by decide +kernel), tb_3 87 (by decide +kernel) (by decide +kernel), by decide +kernel⟩⟩
theorem Sok_X4_release : Sok S_X4_release := ⟨tb_3 16 (by decide +kernel) (by decide +kernel), tb_1 3 (by decide +kernel) (by decide +kernel), by decide +kernel, by decide, by decide +kernel, ⟨tb_3 14 (by decide +kernel) (by decide +kernel), tb_3 15 (by decide +kernel) (by decide +kernel), by decide +kernel⟩⟩
theorem Sok_X4_add : Sok S_X4_add := ⟨tb_3 20 (by decide +kernel) (by decide +kernel), tb_1 3 (by decide +kernel) (by decide +kernel), by decide +kernel, by decide, by decide +kernel, ⟨tb_3 19 (by decide +kernel) (by decide +kernel), tbs_1 yX4_add 1 11 (by decide +kernel), by decide +kernel⟩⟩
theorem Sok_X5_isRow : Sok S_X5_isRow := ⟨tb_2 162 (by decide +kernel) (by decide +kernel), tb_1 6 (by decide +kernel) (by decide +kernel), by decide +kernel, by decide, by decide +kernel, ⟨tb_2 160 (by decide +kernel) (by decide +kernel), tb_2 161 (by decide +kernel) (by decide +kernel), by decide +kernel⟩⟩
theorem Sok_X5_isPerson : Sok S_X5_isPerson := ⟨tb_2 158 (by decide +kernel) (by decide +kernel), tb_1 6 (by decide +kernel) (by decide +kernel), by decide +kernel, by decide, by decide +kernel, ⟨tb_2 156 (by decide +kernel) (by decide +kernel), tb_2 157 (by decide +kernel) (by decide +kernel), by decide +kernel⟩⟩
theorem Sok_X5_clear : Sok S_X5_clear := ⟨tb_2 143 (by decide +kernel) (by decide +kernel), tb_1 6 (by decide +kernel) (by decide +kernel), by decide +kernel, by decide, by decide +kernel, ⟨tb_2 141 (by decide +kernel) (by decide +kernel), tb_2 142 (by decide +kernel) (by decide +kernel), by decide +kernel⟩⟩
theorem Sok_X5_putRow : Sok S_X5_putRow := ⟨tb_2 139 (by decide +kernel) (by decide +kernel), tb_1 6 (by decide +kernel) (by decide +kernel), by decide +kernel, by decide, by decide +kernel, ⟨tb_2 137 (by decide +kernel) (by decide +kernel), tb_2 138 (by decide +kernel) (by decide +kernel), by decide +kernel⟩⟩
theorem Sok_X5_write : Sok S_X5_write := ⟨tb_2 166 (by decide +kernel) (by decide +kernel), tb_1 6 (by decide +kernel) (by decide +kernel), by decide +kernel, by decide, by decide +kernel, ⟨tb_2 164 (by decide +kernel) (by decide +kernel), tb_2 165 (by decide +kernel) (by decide +kernel), by decide +kernel⟩⟩
theorem Sok_X5_asInt : Sok S_X5_asInt := ⟨tb_2 184 (by decide +kernel) (by decide +kernel), tb_1 6 (by decide +kernel) (by decide +kernel), by decide +kernel, by decide, by decide +kernel, ⟨tb_2 182 (by decide +kernel) (by decide +kernel), tb_2 183 (by decide +kernel) (by decide +kernel), by decide +kernel⟩⟩
theorem Sok_X6_has : Sok S_X6_has := ⟨tb_2 104 (by decide +kernel) (by decide +kernel), tb_1 2 (by decide +kernel) (by decide +kernel), by decide +kernel, by decide, by decide +kernel, ⟨tb_2 102 (by decide +kernel) (by decide +kernel), tb_2 103 (by decide +kernel) (by decide +kernel), by decide +kernel⟩⟩
theorem Sok_X6_addPlace : Sok S_X6_addPlace := ⟨tb_2 96 (by decide +kernel) (by decide +kernel), tb_1 2 (by decide +kernel) (by decide +kernel), by decide +kernel, by decide, by decide +kernel, ⟨tb_2 94 (by decide +kernel) (by decide +kernel), tb_2 95 (by decide +kernel) (by decide +kernel), by decide +kernel⟩⟩
theorem Sok_X6_addWay : Sok S_X6_addWay := ⟨tb_2 108 (by decide +kernel) (by decide +kernel), tb_1 2 (by decide +kernel) (by decide +kernel), by decide +kernel, by decide, by decide +kernel, ⟨tb_2 106 (by decide +kernel) (by decide +kernel), tb_2 107 (by decide +kernel) (by decide +kernel), by decide +kernel⟩⟩
theorem Sok_X6_shorten : Sok S_X6_shorten := ⟨tb_2 116 (by decide +kernel) (by decide +kernel), tb_1 2 (by decide +kernel) (by decide +kernel), by decide +kernel, by decide, by decide +kernel, ⟨tb_2 115 (by decide +kernel) (by decide +kernel), tbs_1 yX6_shorten 7 5 (by decide +kernel), by decide +kernel⟩⟩
theorem Sok_X6_apart : Sok S_X6_apart := ⟨tb_2 112 (by decide +kernel) (by decide +kernel), tb_1 2 (by decide +kernel) (by decide +kernel), by decide +kernel, by decide, by decide +kernel, ⟨tb_2 110 (by decide +kernel) (by decide +kernel), tb_2 111 (by decide +kernel) (by decide +kernel), by decide +kernel⟩⟩
theorem Sok_X6_isReached : Sok S_X6_isReached := ⟨tb_2 208 (by decide +kernel) (by decide +kernel), tb_1 2 (by decide +kernel) (by decide +kernel), by decide +kernel, by decide, by decide +kernel, ⟨tb_2 206 (by decide +kernel) (by decide +kernel), tb_2 207 (by decide +kernel) (by decide +kernel), by decide +kernel⟩⟩
theorem Sok_X6_wayTicks : Sok S_X6_wayTicks := ⟨tb_3 76 (by decide +kernel) (by decide +kernel), tb_1 2 (by decide +kernel) (by decide +kernel), by decide +kernel, by decide, by decide +kernel, ⟨tb_3 74 (by decide +kernel) (by decide +kernel), tb_3 75 (by decide +kernel) (by decide +kernel), by decide +kernel⟩⟩
theorem Sok_X6_isOpen : Sok S_X6_isOpen := ⟨tb_3 56 (by decide +kernel) (by decide +kernel), tb_1 2 (by decide +kernel) (by decide +kernel), by decide +kernel, by decide, by decide +kernel, ⟨tb_3 54 (by decide +kernel) (by decide +kernel), tb_3 55 (by decide +kernel) (by decide +kernel), by decide +kernel⟩⟩
theorem Sok_X7_place : Sok S_X7_place := ⟨tb_2 85 (by decide +kernel) (by decide +kernel), tb_1 1 (by decide +kernel) (by decide +kernel), by decide +kernel, by decide, by decide +kernel, ⟨tb_2 83 (by decide +kernel) (by decide +kernel), tb_2 84 (by decide +kernel) (by decide +kernel), by decide +kernel⟩⟩
theorem Sok_X7_way : Sok S_X7_way := ⟨tb_2 100 (by decide +kernel) (by decide +kernel), tb_1 1 (by decide +kernel) (by decide +kernel), by decide +kernel, by decide, by decide +kernel, ⟨tb_2 98 (by decide +kernel) (by decide +kernel), tb_2 99 (by decide +kernel) (by decide +kernel), by decide +kernel⟩⟩
theorem Sok_X7_folk : Sok S_X7_folk := ⟨tb_2 120 (by decide +kernel) (by decide +kernel), tb_1 1 (by decide +kernel) (by decide +kernel), by decide +kernel, by decide, by decide +kernel, ⟨tb_2 118 (by decide +kernel) (by decide +kernel), tb_2 119 (by decide +kernel) (by decide +kernel), by decide +kernel⟩⟩
theorem Sok_X7_meeting : Sok S_X7_meeting := ⟨tb_2 218 (by decide +kernel) (by decide +kernel), tb_1 1 (by decide +kernel) (by decide +kernel), by decide +kernel, by decide, by decide +kernel, ⟨tb_2 216 (by decide +kernel) (by decide +kernel), tb_2 217 (by decide +kernel) (by decide +kernel), by decide +kernel⟩⟩
theorem Sok_X7_row : Sok S_X7_row := ⟨tb_2 132 (by decide +kernel) (by decide +kernel), tb_1 1 (by decide +kernel) (by decide +kernel), by decide +kernel, by decide, by decide +kernel, ⟨tb_2 130 (by decide +kernel) (by decide +kernel), tb_2 131 (by decide +kernel) (by decide +kernel), by decide +kernel⟩⟩
theorem Sok_X7_set : Sok S_X7_set := ⟨tb_2 150 (by decide +kernel) (by decide +kernel), tb_1 1 (by decide +kernel) (by decide +kernel), by decide +kernel, by decide, by decide +kernel, ⟨tb_2 148 (by decide +kernel) (by decide +kernel), tb_2 149 (by decide +kernel) (by decide +kernel), by decide +kernel⟩⟩
theorem Sok_X7_duties : Sok S_X7_duties := ⟨tb_2 170 (by decide +kernel) (by decide +kernel), tb_1 1 (by decide +kernel) (by decide +kernel), by decide +kernel, by decide, by decide +kernel, ⟨tb_2 168 (by decide +kernel) (by decide +kernel), tb_2 169 (by decide +kernel) (by decide +kernel), by decide +kernel⟩⟩
theorem Sok_X7_key : Sok S_X7_key := ⟨tb_2 124 (by decide +kernel) (by decide +kernel), tb_1 1 (by decide +kernel) (by decide +kernel), by decide +kernel, by decide, by decide +kernel, ⟨tb_2 122 (by decide +kernel) (by decide +kernel), tb_2 123 (by decide +kernel) (by decide +kernel), by decide +kernel⟩⟩
theorem Sok_X7_begin : Sok S_X7_begin := ⟨tb_2 231 (by decide +kernel) (by decide +kernel), tb_1 1 (by decide +kernel) (by decide +kernel), by decide +kernel, by decide, by decide +kernel, ⟨tb_2 229 (by decide +kernel) (by decide +kernel), tb_2 230 (by decide +kernel) (by decide +kernel), by decide +kernel⟩⟩
theorem Sok_X7_tick : Sok S_X7_tick := ⟨tb_3 95 (by decide +kernel) (by decide +kernel), tb_1 1 (by decide +kernel) (by decide +kernel), by decide +kernel, by decide, by decide +kernel, ⟨tb_3 93 (by decide +kernel) (by decide +kernel), tb_3 94 (by decide +kernel) (by decide +kernel), by decide +kernel⟩⟩
theorem Sok_X7_bend : Sok S_X7_bend := ⟨tb_3 122 (by decide +kernel) (by decide +kernel), tb_1 1 (by decide +kernel) (by decide +kernel), by decide +kernel, by decide, by decide +kernel, ⟨tb_3 120 (by decide +kernel) (by decide +kernel), tb_3 121 (by decide +kernel) (by decide +kernel), by decide +kernel⟩⟩
theorem Sok_X7_lock : Sok S_X7_lock := ⟨tb_3 130 (by decide +kernel) (by decide +kernel), tb_1 1 (by decide +kernel) (by decide +kernel), by decide +kernel, by decide, by decide +kernel, ⟨tb_3 128 (by decide +kernel) (by decide +kernel), tb_3 129 (by decide +kernel) (by decide +kernel), by decide +kernel⟩⟩
theorem Sok_X7_again : Sok S_X7_again := ⟨tb_3 142 (by decide +kernel) (by decide +kernel), tb_1 1 (by decide +kernel) (by decide +kernel), by decide +kernel, by decide, by decide +kernel, ⟨tb_3 140 (by decide +kernel) (by decide +kernel), tb_3 141 (by decide +kernel) (by decide +kernel), by decide +kernel⟩⟩
theorem Sok_X7_gone : Sok S_X7_gone := ⟨tb_3 150 (by decide +kernel) (by decide +kernel), tb_1 1 (by decide +kernel) (by decide +kernel), by decide +kernel, by decide, by decide +kernel, ⟨tb_3 148 (by decide +kernel) (by decide +kernel), tb_3 149 (by decide +kernel) (by decide +kernel), by decide +kernel⟩⟩
theorem Sok_X7_happen : Sok S_X7_happen := ⟨tb_3 146 (by decide +kernel) (by decide +kernel), tb_1 1 (by decide +kernel) (by decide +kernel), by decide +kernel, by decide, by decide +kernel, ⟨tb_3 144 (by decide +kernel) (by decide +kernel), tb_3 145 (by decide +kernel) (by decide +kernel), by decide +kernel⟩⟩
theorem Sok_X7_where : Sok S_X7_where := ⟨tb_1 15 (by decide +kernel) (by decide +kernel), tb_1 1 (by decide +kernel) (by decide +kernel), by decide +kernel, by decide, by decide +kernel, ⟨tb_1 13 (by decide +kernel) (by decide +kernel), tb_1 14 (by decide +kernel) (by decide +kernel), by decide +kernel⟩⟩
theorem Sok_X7_status : Sok S_X7_status := ⟨tb_1 27 (by decide +kernel) (by decide +kernel), tb_1 1 (by decide +kernel) (by decide +kernel), by decide +kernel, by decide, by decide +kernel, ⟨tb_1 25 (by decide +kernel) (by decide +kernel), tb_1 26 (by decide +kernel) (by decide +kernel), by decide +kernel⟩⟩
theorem Sok_X7_refuse : Sok S_X7_refuse := ⟨tb_2 92 (by decide +kernel) (by decide +kernel), tb_1 1 (by decide +kernel) (by decide +kernel), by decide +kernel, by decide, by decide +kernel, ⟨tb_2 91 (by decide +kernel) (by decide +kernel), tbs_1 yX7_refuse 17 4 (by decide +kernel), by decide +kernel⟩⟩
theorem Sok_X7_refusalsOf : Sok S_X7_refusalsOf := ⟨tb_1 45 (by decide +kernel) (by decide +kernel), tb_1 1 (by decide +kernel) (by decide +kernel), by decide +kernel, by decide, by decide +kernel, ⟨tb_1 44 (by decide +kernel) (by decide +kernel), tbs_1 yX7_refusalsOf 17 3 (by decide +kernel), by decide +kernel⟩⟩
theorem Sok_X7_refusalOfRow : Sok S_X7_refusalOfRow := ⟨tb_2 154 (by decide +kernel) (by decide +kernel), tb_1 1 (by decide +kernel) (by decide +kernel), by decide +kernel, by decide, by decide +kernel, ⟨tb_2 153 (by decide +kernel) (by decide +kernel), tbs_1 yX7_refusalOfRow 17 7 (by decide +kernel), by decide +kernel⟩⟩
theorem Sok_X7_isShelf : Sok S_X7_isShelf := ⟨tb_2 135 (by decide +kernel) (by decide +kernel), tb_1 1 (by decide +kernel) (by decide +kernel), by decide +kernel, by decide, by decide +kernel, tb_2 134 (by decide +kernel) (by decide +kernel)⟩
theorem Sok_X7_isSpan : Sok S_X7_isSpan := ⟨tb_2 88 (by decide +kernel) (by decide +kernel), tb_1 1 (by decide +kernel) (by decide +kernel), by decide +kernel, by decide, by decide +kernel, tb_2 87 (by decide +kernel) (by decide +kernel)⟩
theorem Sok_X7_isTick : Sok S_X7_isTick := ⟨tb_1 23 (by decide +kernel) (by decide +kernel), tb_1 1 (by decide +kernel) (by decide +kernel), by decide +kernel, by decide, by decide +kernel, tb_1 22 (by decide +kernel) (by decide +kernel)⟩
theorem Sok_X7_isWeight : Sok S_X7_isWeight := ⟨tb_2 195 (by decide +kernel) (by decide +kernel), tb_1 1 (by decide +kernel) (by decide +kernel), by decide +kernel, by decide, by decide +kernel, tb_2 194 (by decide +kernel) (by decide +kernel)⟩
theorem Sok_X7_wasEver : Sok S_X7_wasEver := ⟨tb_1 20 (by decide +kernel) (by decide +kernel), tb_1 1 (by decide +kernel) (by decide +kernel), by decide +kernel, by decide, by decide +kernel, ⟨tb_1 18 (by decide +kernel) (by decide +kernel), tbs_1 yX7_wasEver 17 0 (by decide +kernel), by decide +kernel⟩⟩
theorem Sok_X7_isHere : Sok S_X7_isHere := ⟨tb_2 128 (by decide +kernel) (by decide +kernel), tb_1 1 (by decide +kernel) (by decide +kernel), by decide +kernel, by decide, by decide +kernel, ⟨tb_2 127 (by decide +kernel) (by decide +kernel), tbs_1 yX7_isHere 17 6 (by decide +kernel), by decide +kernel⟩⟩
theorem Sok_X7_areAllHere : Sok S_X7_areAllHere := ⟨tb_2 222 (by decide +kernel) (by decide +kernel), tb_1 1 (by decide +kernel) (by decide +kernel), by decide +kernel, by decide, by decide +kernel, ⟨tb_2 221 (by decide +kernel) (by decide +kernel), tbs_1 yX7_areAllHere 17 8 (by decide +kernel), by decide +kernel⟩⟩
theorem Sok_X7_countHere : Sok S_X7_countHere := ⟨tb_1 31 (by decide +kernel) (by decide +kernel), tb_1 1 (by decide +kernel) (by decide +kernel), by decide +kernel, by decide, by decide +kernel, ⟨tb_1 30 (by decide +kernel) (by decide +kernel), tbs_1 yX7_countHere 17 1 (by decide +kernel), by decide +kernel⟩⟩
theorem Sok_X7_countBent : Sok S_X7_countBent := ⟨tb_1 35 (by decide +kernel) (by decide +kernel), tb_1 1 (by decide +kernel) (by decide +kernel), by decide +kernel, by decide, by decide +kernel, ⟨tb_1 34 (by decide +kernel) (by decide +kernel), tbs_1 yX7_countBent 17 2 (by decide +kernel), by decide +kernel⟩⟩
theorem Sok_X7_moment : Sok S_X7_moment := ⟨tb_3 99 (by decide +kernel) (by decide +kernel), tb_1 1 (by decide +kernel) (by decide +kernel), by decide +kernel, by decide, by decide +kernel, ⟨tb_3 98 (by decide +kernel) (by decide +kernel), tbs_1 yX7_moment 17 15 (by decide +kernel), by decide +kernel⟩⟩
theorem Sok_X7_beginDay : Sok S_X7_beginDay := ⟨tb_2 235 (by decide +kernel) (by decide +kernel), tb_1 1 (by decide +kernel) (by decide +kernel), by decide +kernel, by decide, by decide +kernel, ⟨tb_2 234 (by decide +kernel) (by decide +kernel), tbs_1 yX7_beginDay 17 9 (by decide +kernel), by decide +kernel⟩⟩
theorem Sok_X7_liveTick : Sok S_X7_liveTick := ⟨tb_3 103 (by decide +kernel) (by decide +kernel), tb_1 1 (by decide +kernel) (by decide +kernel), by decide +kernel, by decide, by decide +kernel, ⟨tb_3 102 (by decide +kernel) (by decide +kernel), tbs_2 yX7_liveTick 17 0 (by decide +kernel), by decide +kernel⟩⟩
theorem Sok_X7_tellFacts : Sok S_X7_tellFacts := ⟨tb_3 107 (by decide +kernel) (by decide +kernel), tb_1 1 (by decide +kernel) (by decide +kernel), by decide +kernel, by decide, by decide +kernel, ⟨tb_3 106 (by decide +kernel) (by decide +kernel), tbs_2 yX7_tellFacts 17 1 (by decide +kernel), by decide +kernel⟩⟩
theorem Sok_X7_isIn : Sok S_X7_isIn := ⟨tb_3 23 (by decide +kernel) (by decide +kernel), tb_1 1 (by decide +kernel) (by decide +kernel), by decide +kernel, by decide, by decide +kernel, tb_3 22 (by decide +kernel) (by decide +kernel)⟩
theorem Sok_X7_replanThoseDueIn : Sok S_X7_replanThoseDueIn := ⟨tb_3 134 (by decide +kernel) (by decide +kernel), tb_1 1 (by decide +kernel) (by decide +kernel), by decide +kernel, by decide, by decide +kernel, ⟨tb_3 133 (by decide +kernel) (by decide +kernel), tbs_2 yX7_replanThoseDueIn 17 2 (by decide +kernel), by decide +kernel⟩⟩
theorem Sok_X7_replan : Sok S_X7_replan := ⟨tb_3 12 (by decide +kernel) (by decide +kernel), tb_1 1 (by decide +kernel) (by decide +kernel), by decide +kernel, by decide, by decide +kernel, ⟨tb_3 11 (by decide +kernel) (by decide +kernel), tbs_1 yX7_replan 17 10 (by decide +kernel), by decide +kernel⟩⟩
theorem Sok_J6_bitCount_0f7a4 : Sok S_J6_bitCount_0f7a4 := ⟨tb_1 38 (by decide +kernel) (by decide +kernel), tb_1 11 (by decide +kernel) (by decide +kernel), by decide +kernel, by decide, by decide +kernel, tb_1 37 (by decide +kernel) (by decide +kernel)⟩
theorem Sok_J7_fill_d0a16 : Sok S_J7_fill_d0a16 := ⟨tb_2 146 (by decide +kernel) (by decide +kernel), tb_1 8 (by decide +kernel) (by decide +kernel), by decide +kernel, by decide, by decide +kernel, tb_2 145 (by decide +kernel) (by decide +kernel)⟩
theorem Sok_J7_fill_53178 : Sok S_J7_fill_53178 := ⟨tb_1 173 (by decide +kernel) (by decide +kernel), tb_1 8 (by decide +kernel) (by decide +kernel), by decide +kernel, by decide, by decide +kernel, tb_1 172 (by decide +kernel) (by decide +kernel)⟩
theorem Sok_L_acts : Sok S_L_acts := ⟨tb_3 91 (by decide +kernel) (by decide +kernel), tb_1 0 (by decide +kernel) (by decide +kernel), by decide +kernel, by decide, by decide +kernel, tb_3 90 (by decide +kernel) (by decide +kernel)⟩
def P_TownFolkLaw : List (Nat × PE) := [(10, .inr (.inr (.inr (.inr 2)))), (16, .inr (.inr (.inr (.inr 1)))), (22, .inr (.inl S_X7_place)), (26, .inr (.inl S_X7_way)), (29, .inr (.inl S_X7_folk)), (33, .inr (.inl S_X7_key)), (37, .inr (.inl S_X7_row)), (40, .inr (.inl S_X7_set)), (44, .inr (.inl S_X7_duties)), (47, .inr (.inl S_X7_meeting)), (51, .inr (.inl S_X7_begin)), (55, .inr (.inl S_X7_status)), (58, .inr (.inl S_X7_tick)), (61, .inr (.inl S_X7_bend)), (65, .inr (.inl S_X7_lock)), (69, .inr (.inl S_X7_again)), (72, .inr (.inl S_X7_happen)), (75, .inr (.inl S_X7_gone)), (82, .inr (.inl S_X7_where)), (85, .inr (.inl S_L_acts))]
theorem Pe_TownFolkLaw_10 : PEok "TownFolkLaw" 10 (.inr (.inr (.inr (.inr 2)))) := ⟨tb_1 46 (by decide +kernel) (by decide +kernel), tb_1 47 (by decide +kernel) (by decide +kernel), tb_1 0 (by decide +kernel) (by decide +kernel), tb_1 48 (by decide +kernel) (by decide +kernel)⟩
theorem Pe_TownFolkLaw_16 : PEok "TownFolkLaw" 16 (.inr (.inr (.inr (.inr 1)))) := ⟨tb_2 79 (by decide +kernel) (by decide +kernel), tb_2 80 (by decide +kernel) (by decide +kernel), tb_1 10 (by decide +kernel) (by decide +kernel), tb_2 81 (by decide +kernel) (by decide +kernel)⟩
theorem Pe_TownFolkLaw_22 : PEok "TownFolkLaw" 22 (.inr (.inl S_X7_place)) := ⟨Sok_X7_place, Or.inl (tb_2 82 (by decide +kernel) (by decide +kernel))⟩
theorem Pe_TownFolkLaw_26 : PEok "TownFolkLaw" 26 (.inr (.inl S_X7_way)) := ⟨Sok_X7_way, Or.inl (tb_2 97 (by decide +kernel) (by decide +kernel))⟩
theorem Pe_TownFolkLaw_29 : PEok "TownFolkLaw" 29 (.inr (.inl S_X7_folk)) := ⟨Sok_X7_folk, Or.inl (tb_2 117 (by decide +kernel) (by decide +kernel))⟩
theorem Pe_TownFolkLaw_33 : PEok "TownFolkLaw" 33 (.inr (.inl S_X7_key)) := ⟨Sok_X7_key, Or.inl (tb_2 121 (by decide +kernel) (by decide +kernel))⟩
theorem Pe_TownFolkLaw_37 : PEok "TownFolkLaw" 37 (.inr (.inl S_X7_row)) := ⟨Sok_X7_row, Or.inl (tb_2 129 (by decide +kernel) (by decide +kernel))⟩
theorem Pe_TownFolkLaw_40 : PEok "TownFolkLaw" 40 (.inr (.inl S_X7_set)) := ⟨Sok_X7_set, Or.inl (tb_2 147 (by decide +kernel) (by decide +kernel))⟩
theorem Pe_TownFolkLaw_44 : PEok "TownFolkLaw" 44 (.inr (.inl S_X7_duties)) := ⟨Sok_X7_duties, Or.inl (tb_2 167 (by decide +kernel) (by decide +kernel))⟩
theorem Pe_TownFolkLaw_47 : PEok "TownFolkLaw" 47 (.inr (.inl S_X7_meeting)) := ⟨Sok_X7_meeting, Or.inl (tb_2 215 (by decide +kernel) (by decide +kernel))⟩
theorem Pe_TownFolkLaw_51 : PEok "TownFolkLaw" 51 (.inr (.inl S_X7_begin)) := ⟨Sok_X7_begin, Or.inl (tb_2 228 (by decide +kernel) (by decide +kernel))⟩
theorem Pe_TownFolkLaw_55 : PEok "TownFolkLaw" 55 (.inr (.inl S_X7_status)) := ⟨Sok_X7_status, Or.inl (tb_1 24 (by decide +kernel) (by decide +kernel))⟩
theorem Pe_TownFolkLaw_58 : PEok "TownFolkLaw" 58 (.inr (.inl S_X7_tick)) := ⟨Sok_X7_tick, Or.inl (tb_3 92 (by decide +kernel) (by decide +kernel))⟩
theorem Pe_TownFolkLaw_61 : PEok "TownFolkLaw" 61 (.inr (.inl S_X7_bend)) := ⟨Sok_X7_bend, Or.inl (tb_3 119 (by decide +kernel) (by decide +kernel))⟩
theorem Pe_TownFolkLaw_65 : PEok "TownFolkLaw" 65 (.inr (.inl S_X7_lock)) := ⟨Sok_X7_lock, Or.inl (tb_3 127 (by decide +kernel) (by decide +kernel))⟩
theorem Pe_TownFolkLaw_69 : PEok "TownFolkLaw" 69 (.inr (.inl S_X7_again)) := ⟨Sok_X7_again, Or.inl (tb_3 139 (by decide +kernel) (by decide +kernel))⟩
theorem Pe_TownFolkLaw_72 : PEok "TownFolkLaw" 72 (.inr (.inl S_X7_happen)) := ⟨Sok_X7_happen, Or.inl (tb_3 143 (by decide +kernel) (by decide +kernel))⟩
theorem Pe_TownFolkLaw_75 : PEok "TownFolkLaw" 75 (.inr (.inl S_X7_gone)) := ⟨Sok_X7_gone, Or.inl (tb_3 147 (by decide +kernel) (by decide +kernel))⟩
theorem Pe_TownFolkLaw_82 : PEok "TownFolkLaw" 82 (.inr (.inl S_X7_where)) := ⟨Sok_X7_where, Or.inl (tb_1 12 (by decide +kernel) (by decide +kernel))⟩
theorem Pe_TownFolkLaw_85 : PEok "TownFolkLaw" 85 (.inr (.inl S_L_acts)) := ⟨Sok_L_acts, Or.inl (tb_3 89 (by decide +kernel) (by decide +kernel))⟩
theorem Pok_TownFolkLaw : ∀ q ∈ P_TownFolkLaw, PEok "TownFolkLaw" q.1 q.2 := List.forall_mem_cons.mpr ⟨Pe_TownFolkLaw_10, List.forall_mem_cons.mpr ⟨Pe_TownFolkLaw_16, List.forall_mem_cons.mpr ⟨Pe_TownFolkLaw_22, List.forall_mem_cons.mpr ⟨Pe_TownFolkLaw_26, List.forall_mem_cons.mpr ⟨Pe_TownFolkLaw_29, List.forall_mem_cons.mpr ⟨Pe_TownFolkLaw_33, List.forall_mem_cons.mpr ⟨Pe_TownFolkLaw_37, List.forall_mem_cons.mpr ⟨Pe_TownFolkLaw_40, List.forall_mem_cons.mpr ⟨Pe_TownFolkLaw_44, List.forall_mem_cons.mpr ⟨Pe_TownFolkLaw_47, List.forall_mem_cons.mpr ⟨Pe_TownFolkLaw_51, List.forall_mem_cons.mpr ⟨Pe_TownFolkLaw_55, List.forall_mem_cons.mpr ⟨Pe_TownFolkLaw_58, List.forall_mem_cons.mpr ⟨Pe_TownFolkLaw_61, List.forall_mem_cons.mpr ⟨Pe_TownFolkLaw_65, List.forall_mem_cons.mpr ⟨Pe_TownFolkLaw_69, List.forall_mem_cons.mpr ⟨Pe_TownFolkLaw_72, List.forall_mem_cons.mpr ⟨Pe_TownFolkLaw_75, List.forall_mem_cons.mpr ⟨Pe_TownFolkLaw_82, List.forall_mem_cons.mpr ⟨Pe_TownFolkLaw_85, fun _ h => absurd h List.not_mem_nil⟩⟩⟩⟩⟩⟩⟩⟩⟩⟩⟩⟩⟩⟩⟩⟩⟩⟩⟩⟩
def P_TownFolk : List (Nat × PE) := [(12, .inl (7, 0, 0)), (18, .inl (7, 1, 0)), (24, .inl (7, 2, 0)), (30, .inl (7, 3, 0)), (37, .inl (7, 4, 0)), (44, .inl (7, 5, 0)), (51, .inl (7, 6, 0)), (55, .inl (7, 7, 0)), (59, .inl (7, 8, 0)), (65, .inr (.inl S_X7_isSpan)), (69, .inl (7, 16, 2)), (73, .inr (.inl S_X7_refuse)), (77, .inl (6, 5, 1)), (81, .inr (.inl S_X6_addPlace)), (85, .inr (.inl S_X6_has)), (89, .inl (6, 6, 1)), (92, .inr (.inl S_X6_addWay)), (96, .inl (7, 9, 1)), (99, .inl (3, 4, 1)), (102, .inr (.inl S_X7_areAllHere)), (105, .inr (.inl S_J6_bitCount_0f7a4)), (110, .inr (.inl S_X7_isWeight)), (113, .inl (7, 10, 1)), (116, .inr (.inl S_X1_arrange)), (120, .inr (.inl S_X7_isShelf)), (123, .inr (.inl S_X5_putRow)), (127, .inr (.inl S_X7_refusalOfRow)), (130, .inl (5, 3, 1)), (133, .inr (.inl S_X5_write)), (137, .inr (.inl S_X5_isRow)), (141, .inr (.inl S_X5_isPerson)), (160, .inr (.inl S_X7_wasEver)), (177, .inr (.inl S_X7_isHere)), (180, .inr (.inl S_X0_examine)), (184, .inl (0, 0, 1)), (187, .inr (.inl S_X3_takeDuties)), (207, .inl (3, 5, 1)), (210, .inr (.inl S_X7_beginDay)), (213, .inr (.inl S_X7_moment)), (216, .inr (.inl S_X7_liveTick)), (219, .inl (7, 14, 1)), (222, .inr (.inl S_X3_takeBend)), (225, .inr (.inl S_X7_replan)), (228, .inl (7, 13, 1)), (231, .inr (.inl S_X7_replanThoseDueIn)), (234, .inl (3, 2, 0)), (237, .inr (.inl S_X4_release)), (241, .inr (.inl S_X3_leave)), (244, .inr (.inl S_X7_countHere)), (247, .inl (7, 11, 1)), (250, .inr (.inl S_X3_learn)), (253, .inr (.inl S_X7_isTick)), (256, .inl (3, 10, 1)), (277, .inl (7, 15, 1)), (280, .inr (.inl S_X7_countBent)), (283, .inl (7, 12, 1)), (286, .inr (.inl S_X7_refusalsOf)), (289, .inl (3, 13, 2)), (292, .inl (3, 12, 2)), (295, .inr (.inl S_X4_clear)), (296, .inr (.inl S_X1_beginDay)), (298, .inr (.inl S_X3_beginDay)), (299, .inr (.inl S_X7_tellFacts)), (302, .inr (.inl S_X1_live)), (306, .inr (.inl S_J7_fill_53178)), (311, .inr (.inl S_X7_isIn)), (314, .inl (3, 11, 1)), (317, .inr (.inl S_X3_isDueIn)), (320, .inr (.inl S_X2_weigh)), (324, .inr (.inl S_X1_isOf)), (327, .inl (1, 1, 1)), (330, .inl (1, 2, 1)), (333, .inl (1, 3, 1)), (336, .inl (1, 4, 1)), (339, .inr (.inl S_X2_claim)), (343, .inr (.inl S_X3_freeFrom)), (346, .inr (.inl S_X3_standsAt)), (349, .inr (.inl S_X2_search)), (353, .inr (.inl S_X2_write)), (356, .inr (.inl S_X4_take))]
theorem Pe_TownFolk_12 : PEok "TownFolk" 12 (.inl (7, 0, 0)) := ⟨RX7, TX7, 17, rfl, inX7, by decide, Or.inl (tb_2 27 (by decide +kernel) (by decide +kernel)), ⟨tyX7, tyX7_ok, fun h => absurd h (by decide), fun h => absurd h (by decide)⟩, nmX7, fun h => absurd h (by decide)⟩
theorem Pe_TownFolk_18 : PEok "TownFolk" 18 (.inl (7, 1, 0)) := ⟨RX7, TX7, 17, rfl, inX7, by decide, Or.inl (tb_2 28 (by decide +kernel) (by decide +kernel)), ⟨tyX7, tyX7_ok, fun h => absurd h (by decide), fun h => absurd h (by decide)⟩, nmX7, fun h => absurd h (by decide)⟩
theorem Pe_TownFolk_24 : PEok "TownFolk" 24 (.inl (7, 2, 0)) := ⟨RX7, TX7, 17, rfl, inX7, by decide, Or.inl (tb_2 29 (by decide +kernel) (by decide +kernel)), ⟨tyX7, tyX7_ok, fun h => absurd h (by decide), fun h => absurd h (by decide)⟩, nmX7, fun h => absurd h (by decide)⟩
theorem Pe_TownFolk_30 : PEok "TownFolk" 30 (.inl (7, 3, 0)) := ⟨RX7, TX7, 17, rfl, inX7, by decide, Or.inl (tb_2 30 (by decide +kernel) (by decide +kernel)), ⟨tyX7, tyX7_ok, fun h => absurd h (by decide), fun h => absurd h (by decide)⟩, nmX7, fun h => absurd h (by decide)⟩
theorem Pe_TownFolk_37 : PEok "TownFolk" 37 (.inl (7, 4, 0)) := ⟨RX7, TX7, 17, rfl, inX7, by decide, Or.inl (tb_2 31 (by decide +kernel) (by decide +kernel)), ⟨tyX7, tyX7_ok, fun h => absurd h (by decide), fun h => absurd h (by decide)⟩, nmX7, fun h => absurd h (by decide)⟩
theorem Pe_TownFolk_44 : PEok "TownFolk" 44 (.inl (7, 5, 0)) := ⟨RX7, TX7, 17, rfl, inX7, by decide, Or.inl (tb_2 32 (by decide +kernel) (by decide +kernel)), ⟨tyX7, tyX7_ok, fun h => absurd h (by decide), fun h => absurd h (by decide)⟩, nmX7, fun h => absurd h (by decide)⟩
theorem Pe_TownFolk_51 : PEok "TownFolk" 51 (.inl (7, 6, 0)) := ⟨RX7, TX7, 17, rfl, inX7, by decide, Or.inl (tb_2 33 (by decide +kernel) (by decide +kernel)), ⟨tyX7, tyX7_ok, fun h => absurd h (by decide), fun h => absurd h (by decide)⟩, nmX7, fun h => absurd h (by decide)⟩
theorem Pe_TownFolk_55 : PEok "TownFolk" 55 (.inl (7, 7, 0)) := ⟨RX7, TX7, 17, rfl, inX7, by decide, Or.inl (tb_2 34 (by decide +kernel) (by decide +kernel)), ⟨tyX7, tyX7_ok, fun h => absurd h (by decide), fun h => absurd h (by decide)⟩, nmX7, fun h => absurd h (by decide)⟩
theorem Pe_TownFolk_59 : PEok "TownFolk" 59 (.inl (7, 8, 0)) := ⟨RX7, TX7, 17, rfl, inX7, by decide, Or.inl (tb_2 35 (by decide +kernel) (by decide +kernel)), ⟨tyX7, tyX7_ok, fun h => absurd h (by decide), fun h => absurd h (by decide)⟩, nmX7, fun h => absurd h (by decide)⟩
theorem Pe_TownFolk_65 : PEok "TownFolk" 65 (.inr (.inl S_X7_isSpan)) := ⟨Sok_X7_isSpan, Or.inl (tb_2 86 (by decide +kernel) (by decide +kernel))⟩
theorem Pe_TownFolk_69 : PEok "TownFolk" 69 (.inl (7, 16, 2)) := ⟨RX7, TX7, 17, rfl, inX7, by decide, Or.inl (tb_2 43 (by decide +kernel) (by decide +kernel)), ⟨tyX7, tyX7_ok, fun h => absurd h (by decide), fun _ => rfl⟩, nmX7, fun _ => rfl⟩
theorem Pe_TownFolk_73 : PEok "TownFolk" 73 (.inr (.inl S_X7_refuse)) := ⟨Sok_X7_refuse, Or.inl (tb_2 89 (by decide +kernel) (by decide +kernel))⟩
theorem Pe_TownFolk_77 : PEok "TownFolk" 77 (.inl (6, 5, 1)) := ⟨RX6, TX6, 7, rfl, inX6, by decide, Or.inr ⟨"TownFolk", List.mem_of_getElem? (i := 1) (by decide +kernel)⟩, ⟨tyX6, tyX6_ok, fun _ => rfl, fun h => absurd h (by decide)⟩, nmX6, fun _ => rfl⟩
theorem Pe_TownFolk_81 : PEok "TownFolk" 81 (.inr (.inl S_X6_addPlace)) := ⟨Sok_X6_addPlace, Or.inl (tb_2 93 (by decide +kernel) (by decide +kernel))⟩
theorem Pe_TownFolk_85 : PEok "TownFolk" 85 (.inr (.inl S_X6_has)) := ⟨Sok_X6_has, Or.inl (tb_2 101 (by decide +kernel) (by decide +kernel))⟩
theorem Pe_TownFolk_89 : PEok "TownFolk" 89 (.inl (6, 6, 1)) := ⟨RX6, TX6, 7, rfl, inX6, by decide, Or.inr ⟨"TownFolk", List.mem_of_getElem? (i := 3) (by decide +kernel)⟩, ⟨tyX6, tyX6_ok, fun _ => rfl, fun h => absurd h (by decide)⟩, nmX6, fun _ => rfl⟩
theorem Pe_TownFolk_92 : PEok "TownFolk" 92 (.inr (.inl S_X6_addWay)) := ⟨Sok_X6_addWay, Or.inl (tb_2 105 (by decide +kernel) (by decide +kernel))⟩
theorem Pe_TownFolk_96 : PEok "TownFolk" 96 (.inl (7, 9, 1)) := ⟨RX7, TX7, 17, rfl, inX7, by decide, Or.inl (tb_2 36 (by decide +kernel) (by decide +kernel)), ⟨tyX7, tyX7_ok, fun _ => rfl, fun h => absurd h (by decide)⟩, nmX7, fun _ => rfl⟩
theorem Pe_TownFolk_99 : PEok "TownFolk" 99 (.inl (3, 4, 1)) := ⟨RX3, TX3, 14, rfl, inX3, by decide, Or.inr ⟨"TownFolk", List.mem_of_getElem? (i := 13) (by decide +kernel)⟩, ⟨tyX3, tyX3_ok, fun _ => rfl, fun h => absurd h (by decide)⟩, nmX3, fun _ => rfl⟩
theorem Pe_TownFolk_102 : PEok "TownFolk" 102 (.inr (.inl S_X7_areAllHere)) := ⟨Sok_X7_areAllHere, Or.inl (tb_2 219 (by decide +kernel) (by decide +kernel))⟩
theorem Pe_TownFolk_105 : PEok "TownFolk" 105 (.inr (.inl S_J6_bitCount_0f7a4)) := ⟨Sok_J6_bitCount_0f7a4, Or.inl (tb_1 36 (by decide +kernel) (by decide +kernel))⟩
theorem Pe_TownFolk_110 : PEok "TownFolk" 110 (.inr (.inl S_X7_isWeight)) := ⟨Sok_X7_isWeight, Or.inl (tb_2 223 (by decide +kernel) (by decide +kernel))⟩
theorem Pe_TownFolk_113 : PEok "TownFolk" 113 (.inl (7, 10, 1)) := ⟨RX7, TX7, 17, rfl, inX7, by decide, Or.inl (tb_2 37 (by decide +kernel) (by decide +kernel)), ⟨tyX7, tyX7_ok, fun _ => rfl, fun h => absurd h (by decide)⟩, nmX7, fun _ => rfl⟩
theorem Pe_TownFolk_116 : PEok "TownFolk" 116 (.inr (.inl S_X1_arrange)) := ⟨Sok_X1_arrange, Or.inl (tb_2 224 (by decide +kernel) (by decide +kernel))⟩
theorem Pe_TownFolk_120 : PEok "TownFolk" 120 (.inr (.inl S_X7_isShelf)) := ⟨Sok_X7_isShelf, Or.inl (tb_2 133 (by decide +kernel) (by decide +kernel))⟩
theorem Pe_TownFolk_123 : PEok "TownFolk" 123 (.inr (.inl S_X5_putRow)) := ⟨Sok_X5_putRow, Or.inl (tb_2 136 (by decide +kernel) (by decide +kernel))⟩
theorem Pe_TownFolk_127 : PEok "TownFolk" 127 (.inr (.inl S_X7_refusalOfRow)) := ⟨Sok_X7_refusalOfRow, Or.inl (tb_2 151 (by decide +kernel) (by decide +kernel))⟩
theorem Pe_TownFolk_130 : PEok "TownFolk" 130 (.inl (5, 3, 1)) := ⟨RX5, TX5, 4, rfl, inX5, by decide, Or.inr ⟨"TownFolk", List.mem_of_getElem? (i := 7) (by decide +kernel)⟩, ⟨tyX5, tyX5_ok, fun _ => rfl, fun h => absurd h (by decide)⟩, nmX5, fun _ => rfl⟩
theorem Pe_TownFolk_133 : PEok "TownFolk" 133 (.inr (.inl S_X5_write)) := ⟨Sok_X5_write, Or.inl (tb_2 163 (by decide +kernel) (by decide +kernel))⟩
theorem Pe_TownFolk_137 : PEok "TownFolk" 137 (.inr (.inl S_X5_isRow)) := ⟨Sok_X5_isRow, Or.inl (tb_2 159 (by decide +kernel) (by decide +kernel))⟩
theorem Pe_TownFolk_141 : PEok "TownFolk" 141 (.inr (.inl S_X5_isPerson)) := ⟨Sok_X5_isPerson, Or.inl (tb_2 155 (by decide +kernel) (by decide +kernel))⟩
theorem Pe_TownFolk_160 : PEok "TownFolk" 160 (.inr (.inl S_X7_wasEver)) := ⟨Sok_X7_wasEver, Or.inl (tb_1 16 (by decide +kernel) (by decide +kernel))⟩
theorem Pe_TownFolk_177 : PEok "TownFolk" 177 (.inr (.inl S_X7_isHere)) := ⟨Sok_X7_isHere, Or.inl (tb_2 125 (by decide +kernel) (by decide +kernel))⟩
theorem Pe_TownFolk_180 : PEok "TownFolk" 180 (.inr (.inl S_X0_examine)) := ⟨Sok_X0_examine, Or.inl (tb_2 171 (by decide +kernel) (by decide +kernel))⟩
theorem Pe_TownFolk_184 : PEok "TownFolk" 184 (.inl (0, 0, 1)) := ⟨RX0, TX0, 2, rfl, inX0, by decide, Or.inr ⟨"TownFolk", List.mem_of_getElem? (i := 4) (by decide +kernel)⟩, ⟨tyX0, tyX0_ok, fun _ => rfl, fun h => absurd h (by decide)⟩, nmX0, fun _ => rfl⟩
theorem Pe_TownFolk_187 : PEok "TownFolk" 187 (.inr (.inl S_X3_takeDuties)) := ⟨Sok_X3_takeDuties, Or.inl (tb_2 209 (by decide +kernel) (by decide +kernel))⟩
theorem Pe_TownFolk_207 : PEok "TownFolk" 207 (.inl (3, 5, 1)) := ⟨RX3, TX3, 14, rfl, inX3, by decide, Or.inr ⟨"TownFolk", List.mem_of_getElem? (i := 15) (by decide +kernel)⟩, ⟨tyX3, tyX3_ok, fun _ => rfl, fun h => absurd h (by decide)⟩, nmX3, fun _ => rfl⟩
theorem Pe_TownFolk_210 : PEok "TownFolk" 210 (.inr (.inl S_X7_beginDay)) := ⟨Sok_X7_beginDay, Or.inl (tb_2 232 (by decide +kernel) (by decide +kernel))⟩
theorem Pe_TownFolk_213 : PEok "TownFolk" 213 (.inr (.inl S_X7_moment)) := ⟨Sok_X7_moment, Or.inl (tb_3 96 (by decide +kernel) (by decide +kernel))⟩
theorem Pe_TownFolk_216 : PEok "TownFolk" 216 (.inr (.inl S_X7_liveTick)) := ⟨Sok_X7_liveTick, Or.inl (tb_3 100 (by decide +kernel) (by decide +kernel))⟩
theorem Pe_TownFolk_219 : PEok "TownFolk" 219 (.inl (7, 14, 1)) := ⟨RX7, TX7, 17, rfl, inX7, by decide, Or.inl (tb_2 41 (by decide +kernel) (by decide +kernel)), ⟨tyX7, tyX7_ok, fun _ => rfl, fun h => absurd h (by decide)⟩, nmX7, fun _ => rfl⟩
theorem Pe_TownFolk_222 : PEok "TownFolk" 222 (.inr (.inl S_X3_takeBend)) := ⟨Sok_X3_takeBend, Or.inl (tb_3 123 (by decide +kernel) (by decide +kernel))⟩
theorem Pe_TownFolk_225 : PEok "TownFolk" 225 (.inr (.inl S_X7_replan)) := ⟨Sok_X7_replan, Or.inl (tb_3 9 (by decide +kernel) (by decide +kernel))⟩
theorem Pe_TownFolk_228 : PEok "TownFolk" 228 (.inl (7, 13, 1)) := ⟨RX7, TX7, 17, rfl, inX7, by decide, Or.inl (tb_2 40 (by decide +kernel) (by decide +kernel)), ⟨tyX7, tyX7_ok, fun _ => rfl, fun h => absurd h (by decide)⟩, nmX7, fun _ => rfl⟩
theorem Pe_TownFolk_231 : PEok "TownFolk" 231 (.inr (.inl S_X7_replanThoseDueIn)) := ⟨Sok_X7_replanThoseDueIn, Or.inl (tb_3 131 (by decide +kernel) (by decide +kernel))⟩
theorem Pe_TownFolk_234 : PEok "TownFolk" 234 (.inl (3, 2, 0)) := ⟨RX3, TX3, 14, rfl, inX3, by decide, Or.inr ⟨"TownFolk", List.mem_of_getElem? (i := 12) (by decide +kernel)⟩, ⟨tyX3, tyX3_ok, fun h => absurd h (by decide), fun h => absurd h (by decide)⟩, nmX3, fun h => absurd h (by decide)⟩
theorem Pe_TownFolk_237 : PEok "TownFolk" 237 (.inr (.inl S_X4_release)) := ⟨Sok_X4_release, Or.inl (tb_3 13 (by decide +kernel) (by decide +kernel))⟩
theorem Pe_TownFolk_241 : PEok "TownFolk" 241 (.inr (.inl S_X3_leave)) := ⟨Sok_X3_leave, Or.inl (tb_3 151 (by decide +kernel) (by decide +kernel))⟩
theorem Pe_TownFolk_244 : PEok "TownFolk" 244 (.inr (.inl S_X7_countHere)) := ⟨Sok_X7_countHere, Or.inl (tb_1 28 (by decide +kernel) (by decide +kernel))⟩
theorem Pe_TownFolk_247 : PEok "TownFolk" 247 (.inl (7, 11, 1)) := ⟨RX7, TX7, 17, rfl, inX7, by decide, Or.inl (tb_2 38 (by decide +kernel) (by decide +kernel)), ⟨tyX7, tyX7_ok, fun _ => rfl, fun h => absurd h (by decide)⟩, nmX7, fun _ => rfl⟩
theorem Pe_TownFolk_250 : PEok "TownFolk" 250 (.inr (.inl S_X3_learn)) := ⟨Sok_X3_learn, Or.inl (tb_3 110 (by decide +kernel) (by decide +kernel))⟩
theorem Pe_TownFolk_253 : PEok "TownFolk" 253 (.inr (.inl S_X7_isTick)) := ⟨Sok_X7_isTick, Or.inl (tb_1 21 (by decide +kernel) (by decide +kernel))⟩
theorem Pe_TownFolk_256 : PEok "TownFolk" 256 (.inl (3, 10, 1)) := ⟨RX3, TX3, 14, rfl, inX3, by decide, Or.inr ⟨"TownFolk", List.mem_of_getElem? (i := 20) (by decide +kernel)⟩, ⟨tyX3, tyX3_ok, fun _ => rfl, fun h => absurd h (by decide)⟩, nmX3, fun _ => rfl⟩
theorem Pe_TownFolk_277 : PEok "TownFolk" 277 (.inl (7, 15, 1)) := ⟨RX7, TX7, 17, rfl, inX7, by decide, Or.inl (tb_2 42 (by decide +kernel) (by decide +kernel)), ⟨tyX7, tyX7_ok, fun _ => rfl, fun h => absurd h (by decide)⟩, nmX7, fun _ => rfl⟩
theorem Pe_TownFolk_280 : PEok "TownFolk" 280 (.inr (.inl S_X7_countBent)) := ⟨Sok_X7_countBent, Or.inl (tb_1 32 (by decide +kernel) (by decide +kernel))⟩
theorem Pe_TownFolk_283 : PEok "TownFolk" 283 (.inl (7, 12, 1)) := ⟨RX7, TX7, 17, rfl, inX7, by decide, Or.inl (tb_2 39 (by decide +kernel) (by decide +kernel)), ⟨tyX7, tyX7_ok, fun _ => rfl, fun h => absurd h (by decide)⟩, nmX7, fun _ => rfl⟩
theorem Pe_TownFolk_286 : PEok "TownFolk" 286 (.inr (.inl S_X7_refusalsOf)) := ⟨Sok_X7_refusalsOf, Or.inl (tb_1 42 (by decide +kernel) (by decide +kernel))⟩
theorem Pe_TownFolk_289 : PEok "TownFolk" 289 (.inl (3, 13, 2)) := ⟨RX3, TX3, 14, rfl, inX3, by decide, Or.inr ⟨"TownFolk", List.mem_of_getElem? (i := 24) (by decide +kernel)⟩, ⟨tyX3, tyX3_ok, fun h => absurd h (by decide), fun _ => rfl⟩, nmX3, fun _ => rfl⟩
theorem Pe_TownFolk_292 : PEok "TownFolk" 292 (.inl (3, 12, 2)) := ⟨RX3, TX3, 14, rfl, inX3, by decide, Or.inr ⟨"TownFolk", List.mem_of_getElem? (i := 23) (by decide +kernel)⟩, ⟨tyX3, tyX3_ok, fun h => absurd h (by decide), fun _ => rfl⟩, nmX3, fun _ => rfl⟩
theorem Pe_TownFolk_295 : PEok "TownFolk" 295 (.inr (.inl S_X4_clear)) := ⟨Sok_X4_clear, Or.inl (tb_2 236 (by decide +kernel) (by decide +kernel))⟩
theorem Pe_TownFolk_296 : PEok "TownFolk" 296 (.inr (.inl S_X1_beginDay)) := ⟨Sok_X1_beginDay, Or.inl (tb_3 1 (by decide +kernel) (by decide +kernel))⟩
theorem Pe_TownFolk_298 : PEok "TownFolk" 298 (.inr (.inl S_X3_beginDay)) := ⟨Sok_X3_beginDay, Or.inl (tb_3 5 (by decide +kernel) (by decide +kernel))⟩
theorem Pe_TownFolk_299 : PEok "TownFolk" 299 (.inr (.inl S_X7_tellFacts)) := ⟨Sok_X7_tellFacts, Or.inl (tb_3 104 (by decide +kernel) (by decide +kernel))⟩
theorem Pe_TownFolk_302 : PEok "TownFolk" 302 (.inr (.inl S_X1_live)) := ⟨Sok_X1_live, Or.inl (tb_3 114 (by decide +kernel) (by decide +kernel))⟩
theorem Pe_TownFolk_306 : PEok "TownFolk" 306 (.inr (.inl S_J7_fill_53178)) := ⟨Sok_J7_fill_53178, Or.inl (tb_3 108 (by decide +kernel) (by decide +kernel))⟩
theorem Pe_TownFolk_311 : PEok "TownFolk" 311 (.inr (.inl S_X7_isIn)) := ⟨Sok_X7_isIn, Or.inl (tb_3 109 (by decide +kernel) (by decide +kernel))⟩
theorem Pe_TownFolk_314 : PEok "TownFolk" 314 (.inl (3, 11, 1)) := ⟨RX3, TX3, 14, rfl, inX3, by decide, Or.inr ⟨"TownFolk", List.mem_of_getElem? (i := 21) (by decide +kernel)⟩, ⟨tyX3, tyX3_ok, fun _ => rfl, fun h => absurd h (by decide)⟩, nmX3, fun _ => rfl⟩
theorem Pe_TownFolk_317 : PEok "TownFolk" 317 (.inr (.inl S_X3_isDueIn)) := ⟨Sok_X3_isDueIn, Or.inl (tb_3 135 (by decide +kernel) (by decide +kernel))⟩
theorem Pe_TownFolk_320 : PEok "TownFolk" 320 (.inr (.inl S_X2_weigh)) := ⟨Sok_X2_weigh, Or.inl (tb_3 24 (by decide +kernel) (by decide +kernel))⟩
theorem Pe_TownFolk_324 : PEok "TownFolk" 324 (.inr (.inl S_X1_isOf)) := ⟨Sok_X1_isOf, Or.inl (tb_3 33 (by decide +kernel) (by decide +kernel))⟩
theorem Pe_TownFolk_327 : PEok "TownFolk" 327 (.inl (1, 1, 1)) := ⟨RX1, TX1, 8, rfl, inX1, by decide, Or.inr ⟨"TownFolk", List.mem_of_getElem? (i := 25) (by decide +kernel)⟩, ⟨tyX1, tyX1_ok, fun _ => rfl, fun h => absurd h (by decide)⟩, nmX1, fun _ => rfl⟩
theorem Pe_TownFolk_330 : PEok "TownFolk" 330 (.inl (1, 2, 1)) := ⟨RX1, TX1, 8, rfl, inX1, by decide, Or.inr ⟨"TownFolk", List.mem_of_getElem? (i := 26) (by decide +kernel)⟩, ⟨tyX1, tyX1_ok, fun _ => rfl, fun h => absurd h (by decide)⟩, nmX1, fun _ => rfl⟩
theorem Pe_TownFolk_333 : PEok "TownFolk" 333 (.inl (1, 3, 1)) := ⟨RX1, TX1, 8, rfl, inX1, by decide, Or.inr ⟨"TownFolk", List.mem_of_getElem? (i := 27) (by decide +kernel)⟩, ⟨tyX1, tyX1_ok, fun _ => rfl, fun h => absurd h (by decide)⟩, nmX1, fun _ => rfl⟩
theorem Pe_TownFolk_336 : PEok "TownFolk" 336 (.inl (1, 4, 1)) := ⟨RX1, TX1, 8, rfl, inX1, by decide, Or.inr ⟨"TownFolk", List.mem_of_getElem? (i := 28) (by decide +kernel)⟩, ⟨tyX1, tyX1_ok, fun _ => rfl, fun h => absurd h (by decide)⟩, nmX1, fun _ => rfl⟩
theorem Pe_TownFolk_339 : PEok "TownFolk" 339 (.inr (.inl S_X2_claim)) := ⟨Sok_X2_claim, Or.inl (tb_3 37 (by decide +kernel) (by decide +kernel))⟩
theorem Pe_TownFolk_343 : PEok "TownFolk" 343 (.inr (.inl S_X3_freeFrom)) := ⟨Sok_X3_freeFrom, Or.inl (tb_3 38 (by decide +kernel) (by decide +kernel))⟩
theorem Pe_TownFolk_346 : PEok "TownFolk" 346 (.inr (.inl S_X3_standsAt)) := ⟨Sok_X3_standsAt, Or.inl (tb_3 42 (by decide +kernel) (by decide +kernel))⟩
theorem Pe_TownFolk_349 : PEok "TownFolk" 349 (.inr (.inl S_X2_search)) := ⟨Sok_X2_search, Or.inl (tb_3 46 (by decide +kernel) (by decide +kernel))⟩
theorem Pe_TownFolk_353 : PEok "TownFolk" 353 (.inr (.inl S_X2_write)) := ⟨Sok_X2_write, Or.inl (tb_3 81 (by decide +kernel) (by decide +kernel))⟩
theorem Pe_TownFolk_356 : PEok "TownFolk" 356 (.inr (.inl S_X4_take)) := ⟨Sok_X4_take, Or.inl (tb_3 85 (by decide +kernel) (by decide +kernel))⟩
theorem Pok_TownFolk : ∀ q ∈ P_TownFolk, PEok "TownFolk" q.1 q.2 := List.forall_mem_cons.mpr ⟨Pe_TownFolk_12, List.forall_mem_cons.mpr ⟨Pe_TownFolk_18, List.forall_mem_cons.mpr ⟨Pe_TownFolk_24, List.forall_mem_cons.mpr ⟨Pe_TownFolk_30, List.forall_mem_cons.mpr ⟨Pe_TownFolk_37, List.forall_mem_cons.mpr ⟨Pe_TownFolk_44, List.forall_mem_cons.mpr ⟨Pe_TownFolk_51, List.forall_mem_cons.mpr ⟨Pe_TownFolk_55, List.forall_mem_cons.mpr ⟨Pe_TownFolk_59, List.forall_mem_cons.mpr ⟨Pe_TownFolk_65, List.forall_mem_cons.mpr ⟨Pe_TownFolk_69, List.forall_mem_cons.mpr ⟨Pe_TownFolk_73, List.forall_mem_cons.mpr ⟨Pe_TownFolk_77, List.forall_mem_cons.mpr ⟨Pe_TownFolk_81, List.forall_mem_cons.mpr ⟨Pe_TownFolk_85, List.forall_mem_cons.mpr ⟨Pe_TownFolk_89, List.forall_mem_cons.mpr ⟨Pe_TownFolk_92, List.forall_mem_cons.mpr ⟨Pe_TownFolk_96, List.forall_mem_cons.mpr ⟨Pe_TownFolk_99, List.forall_mem_cons.mpr ⟨Pe_TownFolk_102, List.forall_mem_cons.mpr ⟨Pe_TownFolk_105, List.forall_mem_cons.mpr ⟨Pe_TownFolk_110, List.forall_mem_cons.mpr ⟨Pe_TownFolk_113, List.forall_mem_cons.mpr ⟨Pe_TownFolk_116, List.forall_mem_cons.mpr ⟨Pe_TownFolk_120, List.forall_mem_cons.mpr ⟨Pe_TownFolk_123, List.forall_mem_cons.mpr ⟨Pe_TownFolk_127, List.forall_mem_cons.mpr ⟨Pe_TownFolk_130, List.forall_mem_cons.mpr ⟨Pe_TownFolk_133, List.forall_mem_cons.mpr ⟨Pe_TownFolk_137, List.forall_mem_cons.mpr ⟨Pe_TownFolk_141, List.forall_mem_cons.mpr ⟨Pe_TownFolk_160, List.forall_mem_cons.mpr ⟨Pe_TownFolk_177, List.forall_mem_cons.mpr ⟨Pe_TownFolk_180, List.forall_mem_cons.mpr ⟨Pe_TownFolk_184, List.forall_mem_cons.mpr ⟨Pe_TownFolk_187, List.forall_mem_cons.mpr ⟨Pe_TownFolk_207, List.forall_mem_cons.mpr ⟨Pe_TownFolk_210, List.forall_mem_cons.mpr ⟨Pe_TownFolk_213, List.forall_mem_cons.mpr ⟨Pe_TownFolk_216, List.forall_mem_cons.mpr ⟨Pe_TownFolk_219, List.forall_mem_cons.mpr ⟨Pe_TownFolk_222, List.forall_mem_cons.mpr ⟨Pe_TownFolk_225, List.forall_mem_cons.mpr ⟨Pe_TownFolk_228, List.forall_mem_cons.mpr ⟨Pe_TownFolk_231, List.forall_mem_cons.mpr ⟨Pe_TownFolk_234, List.forall_mem_cons.mpr ⟨Pe_TownFolk_237, List.forall_mem_cons.mpr ⟨Pe_TownFolk_241, List.forall_mem_cons.mpr ⟨Pe_TownFolk_244, List.forall_mem_cons.mpr ⟨Pe_TownFolk_247, List.forall_mem_cons.mpr ⟨Pe_TownFolk_250, List.forall_mem_cons.mpr ⟨Pe_TownFolk_253, List.forall_mem_cons.mpr ⟨Pe_TownFolk_256, List.forall_mem_cons.mpr ⟨Pe_TownFolk_277, List.forall_mem_cons.mpr ⟨Pe_TownFolk_280, List.forall_mem_cons.mpr ⟨Pe_TownFolk_283, List.forall_mem_cons.mpr ⟨Pe_TownFolk_286, List.forall_mem_cons.mpr ⟨Pe_TownFolk_289, List.forall_mem_cons.mpr ⟨Pe_TownFolk_292, List.forall_mem_cons.mpr ⟨Pe_TownFolk_295, List.forall_mem_cons.mpr ⟨Pe_TownFolk_296, List.forall_mem_cons.mpr ⟨Pe_TownFolk_298, List.forall_mem_cons.mpr ⟨Pe_TownFolk_299, List.forall_mem_cons.mpr ⟨Pe_TownFolk_302, List.forall_mem_cons.mpr ⟨Pe_TownFolk_306, List.forall_mem_cons.mpr ⟨Pe_TownFolk_311, List.forall_mem_cons.mpr ⟨Pe_TownFolk_314, List.forall_mem_cons.mpr ⟨Pe_TownFolk_317, List.forall_mem_cons.mpr ⟨Pe_TownFolk_320, List.forall_mem_cons.mpr ⟨Pe_TownFolk_324, List.forall_mem_cons.mpr ⟨Pe_TownFolk_327, List.forall_mem_cons.mpr ⟨Pe_TownFolk_330, List.forall_mem_cons.mpr ⟨Pe_TownFolk_333, List.forall_mem_cons.mpr ⟨Pe_TownFolk_336, List.forall_mem_cons.mpr ⟨Pe_TownFolk_339, List.forall_mem_cons.mpr ⟨Pe_TownFolk_343, List.forall_mem_cons.mpr ⟨Pe_TownFolk_346, List.forall_mem_cons.mpr ⟨Pe_TownFolk_349, List.forall_mem_cons.mpr ⟨Pe_TownFolk_353, List.forall_mem_cons.mpr ⟨Pe_TownFolk_356, fun _ h => absurd h List.not_mem_nil⟩⟩⟩⟩⟩⟩⟩⟩⟩⟩⟩⟩⟩⟩⟩⟩⟩⟩⟩⟩⟩⟩⟩⟩⟩⟩⟩⟩⟩⟩⟩⟩⟩⟩⟩⟩⟩⟩⟩⟩⟩⟩⟩⟩⟩⟩⟩⟩⟩⟩⟩⟩⟩⟩⟩⟩⟩⟩⟩⟩⟩⟩⟩⟩⟩⟩⟩⟩⟩⟩⟩⟩⟩⟩⟩⟩⟩⟩⟩⟩
def P_java_lang_Integer : List (Nat × PE) := [(265, .inr (.inr (.inl (1431655765)))), (266, .inr (.inr (.inl (858993459)))), (267, .inr (.inr (.inl (252645135))))]
theorem Pe_java_lang_Integer_265 : PEok "java/lang/Integer" 265 (.inr (.inr (.inl (1431655765)))) := tb_1 39 (by decide +kernel) (by decide +kernel)
theorem Pe_java_lang_Integer_266 : PEok "java/lang/Integer" 266 (.inr (.inr (.inl (858993459)))) := tb_1 40 (by decide +kernel) (by decide +kernel)
theorem Pe_java_lang_Integer_267 : PEok "java/lang/Integer" 267 (.inr (.inr (.inl (252645135)))) := tb_1 41 (by decide +kernel) (by decide +kernel)
theorem Pok_java_lang_Integer : ∀ q ∈ P_java_lang_Integer, PEok "java/lang/Integer" q.1 q.2 := List.forall_mem_cons.mpr ⟨Pe_java_lang_Integer_265, List.forall_mem_cons.mpr ⟨Pe_java_lang_Integer_266, List.forall_mem_cons.mpr ⟨Pe_java_lang_Integer_267, fun _ h => absurd h List.not_mem_nil⟩⟩⟩
def P_TownFolk_Town : List (Nat × PE) := [(9, .inl (6, 0, 0)), (15, .inl (6, 1, 0)), (18, .inl (6, 2, 0)), (21, .inl (6, 3, 0)), (24, .inl (6, 4, 0)), (27, .inl (6, 5, 1)), (31, .inl (6, 6, 1)), (34, .inr (.inl S_X6_apart)), (38, .inr (.inl S_X6_shorten))]
theorem Pe_TownFolk_Town_9 : PEok "TownFolk$Town" 9 (.inl (6, 0, 0)) := ⟨RX6, TX6, 7, rfl, inX6, by decide, Or.inl (tb_1 65 (by decide +kernel) (by decide +kernel)), ⟨tyX6, tyX6_ok, fun h => absurd h (by decide), fun h => absurd h (by decide)⟩, nmX6, fun h => absurd h (by decide)⟩
theorem Pe_TownFolk_Town_15 : PEok "TownFolk$Town" 15 (.inl (6, 1, 0)) := ⟨RX6, TX6, 7, rfl, inX6, by decide, Or.inl (tb_1 67 (by decide +kernel) (by decide +kernel)), ⟨tyX6, tyX6_ok, fun h => absurd h (by decide), fun h => absurd h (by decide)⟩, nmX6, fun h => absurd h (by decide)⟩
theorem Pe_TownFolk_Town_18 : PEok "TownFolk$Town" 18 (.inl (6, 2, 0)) := ⟨RX6, TX6, 7, rfl, inX6, by decide, Or.inl (tb_1 68 (by decide +kernel) (by decide +kernel)), ⟨tyX6, tyX6_ok, fun h => absurd h (by decide), fun h => absurd h (by decide)⟩, nmX6, fun h => absurd h (by decide)⟩
theorem Pe_TownFolk_Town_21 : PEok "TownFolk$Town" 21 (.inl (6, 3, 0)) := ⟨RX6, TX6, 7, rfl, inX6, by decide, Or.inl (tb_1 69 (by decide +kernel) (by decide +kernel)), ⟨tyX6, tyX6_ok, fun h => absurd h (by decide), fun h => absurd h (by decide)⟩, nmX6, fun h => absurd h (by decide)⟩
theorem Pe_TownFolk_Town_24 : PEok "TownFolk$Town" 24 (.inl (6, 4, 0)) := ⟨RX6, TX6, 7, rfl, inX6, by decide, Or.inl (tb_1 70 (by decide +kernel) (by decide +kernel)), ⟨tyX6, tyX6_ok, fun h => absurd h (by decide), fun h => absurd h (by decide)⟩, nmX6, fun h => absurd h (by decide)⟩
theorem Pe_TownFolk_Town_27 : PEok "TownFolk$Town" 27 (.inl (6, 5, 1)) := ⟨RX6, TX6, 7, rfl, inX6, by decide, Or.inl (tb_1 71 (by decide +kernel) (by decide +kernel)), ⟨tyX6, tyX6_ok, fun _ => rfl, fun h => absurd h (by decide)⟩, nmX6, fun _ => rfl⟩
theorem Pe_TownFolk_Town_31 : PEok "TownFolk$Town" 31 (.inl (6, 6, 1)) := ⟨RX6, TX6, 7, rfl, inX6, by decide, Or.inl (tb_1 75 (by decide +kernel) (by decide +kernel)), ⟨tyX6, tyX6_ok, fun _ => rfl, fun h => absurd h (by decide)⟩, nmX6, fun _ => rfl⟩
theorem Pe_TownFolk_Town_34 : PEok "TownFolk$Town" 34 (.inr (.inl S_X6_apart)) := ⟨Sok_X6_apart, Or.inl (tb_2 109 (by decide +kernel) (by decide +kernel))⟩
theorem Pe_TownFolk_Town_38 : PEok "TownFolk$Town" 38 (.inr (.inl S_X6_shorten)) := ⟨Sok_X6_shorten, Or.inl (tb_2 113 (by decide +kernel) (by decide +kernel))⟩
theorem Pok_TownFolk_Town : ∀ q ∈ P_TownFolk_Town, PEok "TownFolk$Town" q.1 q.2 := List.forall_mem_cons.mpr ⟨Pe_TownFolk_Town_9, List.forall_mem_cons.mpr ⟨Pe_TownFolk_Town_15, List.forall_mem_cons.mpr ⟨Pe_TownFolk_Town_18, List.forall_mem_cons.mpr ⟨Pe_TownFolk_Town_21, List.forall_mem_cons.mpr ⟨Pe_TownFolk_Town_24, List.forall_mem_cons.mpr ⟨Pe_TownFolk_Town_27, List.forall_mem_cons.mpr ⟨Pe_TownFolk_Town_31, List.forall_mem_cons.mpr ⟨Pe_TownFolk_Town_34, List.forall_mem_cons.mpr ⟨Pe_TownFolk_Town_38, fun _ h => absurd h List.not_mem_nil⟩⟩⟩⟩⟩⟩⟩⟩⟩
def P_TownFolk_Seats : List (Nat × PE) := [(9, .inl (4, 0, 0)), (15, .inr (.inl S_J7_fill_53178)), (21, .inr (.inl S_X4_add)), (25, .inr (.inl S_X7_isIn))]
theorem Pe_TownFolk_Seats_9 : PEok "TownFolk$Seats" 9 (.inl (4, 0, 0)) := ⟨RX4, TX4, 1, rfl, inX4, by decide, Or.inl (tb_1 104 (by decide +kernel) (by decide +kernel)), ⟨tyX4, tyX4_ok, fun h => absurd h (by decide), fun h => absurd h (by decide)⟩, nmX4, fun h => absurd h (by decide)⟩
theorem Pe_TownFolk_Seats_15 : PEok "TownFolk$Seats" 15 (.inr (.inl S_J7_fill_53178)) := ⟨Sok_J7_fill_53178, Or.inl (tb_3 0 (by decide +kernel) (by decide +kernel))⟩
theorem Pe_TownFolk_Seats_21 : PEok "TownFolk$Seats" 21 (.inr (.inl S_X4_add)) := ⟨Sok_X4_add, Or.inl (tb_3 17 (by decide +kernel) (by decide +kernel))⟩
theorem Pe_TownFolk_Seats_25 : PEok "TownFolk$Seats" 25 (.inr (.inl S_X7_isIn)) := ⟨Sok_X7_isIn, Or.inr ⟨"TownFolk", List.mem_of_getElem? (i := 8) (by decide +kernel)⟩⟩
theorem Pok_TownFolk_Seats : ∀ q ∈ P_TownFolk_Seats, PEok "TownFolk$Seats" q.1 q.2 := List.forall_mem_cons.mpr ⟨Pe_TownFolk_Seats_9, List.forall_mem_cons.mpr ⟨Pe_TownFolk_Seats_15, List.forall_mem_cons.mpr ⟨Pe_TownFolk_Seats_21, List.forall_mem_cons.mpr ⟨Pe_TownFolk_Seats_25, fun _ h => absurd h List.not_mem_nil⟩⟩⟩⟩
def P_TownFolk_Planner : List (Nat × PE) := [(9, .inl (2, 0, 0)), (15, .inl (2, 1, 0)), (18, .inl (2, 2, 0)), (21, .inl (2, 3, 0)), (24, .inl (2, 4, 0)), (27, .inr (.inl S_J7_fill_53178)), (33, .inl (3, 6, 1)), (39, .inl (3, 1, 0)), (42, .inr (.inl S_X2_claim)), (46, .inl (3, 12, 2)), (50, .inl (3, 7, 1)), (53, .inl (3, 8, 1)), (56, .inl (3, 9, 1)), (59, .inl (6, 5, 1)), (64, .inr (.inl S_X2_mayBeIn)), (68, .inr (.inl S_X2_stay)), (72, .inr (.inl S_X2_goOn)), (76, .inr (.inl S_X6_isOpen)), (80, .inr (.inl S_X3_hasKey)), (84, .inr (.inl S_X4_taken)), (90, .inl (6, 0, 0)), (93, .inl (3, 4, 1)), (96, .inl (3, 0, 0)), (99, .inr (.inl S_X6_wayTicks)), (102, .inr (.inl S_X2_costOfWay)), (106, .inl (3, 2, 0))]
theorem Pe_TownFolk_Planner_9 : PEok "TownFolk$Planner" 9 (.inl (2, 0, 0)) := ⟨RX2, TX2, 5, rfl, inX2, by decide, Or.inl (tb_1 114 (by decide +kernel) (by decide +kernel)), ⟨tyX2, tyX2_ok, fun h => absurd h (by decide), fun h => absurd h (by decide)⟩, nmX2, fun h => absurd h (by decide)⟩
theorem Pe_TownFolk_Planner_15 : PEok "TownFolk$Planner" 15 (.inl (2, 1, 0)) := ⟨RX2, TX2, 5, rfl, inX2, by decide, Or.inl (tb_1 115 (by decide +kernel) (by decide +kernel)), ⟨tyX2, tyX2_ok, fun h => absurd h (by decide), fun h => absurd h (by decide)⟩, nmX2, fun h => absurd h (by decide)⟩
theorem Pe_TownFolk_Planner_18 : PEok "TownFolk$Planner" 18 (.inl (2, 2, 0)) := ⟨RX2, TX2, 5, rfl, inX2, by decide, Or.inl (tb_1 116 (by decide +kernel) (by decide +kernel)), ⟨tyX2, tyX2_ok, fun h => absurd h (by decide), fun h => absurd h (by decide)⟩, nmX2, fun h => absurd h (by decide)⟩
theorem Pe_TownFolk_Planner_21 : PEok "TownFolk$Planner" 21 (.inl (2, 3, 0)) := ⟨RX2, TX2, 5, rfl, inX2, by decide, Or.inl (tb_1 117 (by decide +kernel) (by decide +kernel)), ⟨tyX2, tyX2_ok, fun h => absurd h (by decide), fun h => absurd h (by decide)⟩, nmX2, fun h => absurd h (by decide)⟩
theorem Pe_TownFolk_Planner_24 : PEok "TownFolk$Planner" 24 (.inl (2, 4, 0)) := ⟨RX2, TX2, 5, rfl, inX2, by decide, Or.inl (tb_1 118 (by decide +kernel) (by decide +kernel)), ⟨tyX2, tyX2_ok, fun h => absurd h (by decide), fun h => absurd h (by decide)⟩, nmX2, fun h => absurd h (by decide)⟩
theorem Pe_TownFolk_Planner_27 : PEok "TownFolk$Planner" 27 (.inr (.inl S_J7_fill_53178)) := ⟨Sok_J7_fill_53178, Or.inl (tb_3 28 (by decide +kernel) (by decide +kernel))⟩
theorem Pe_TownFolk_Planner_33 : PEok "TownFolk$Planner" 33 (.inl (3, 6, 1)) := ⟨RX3, TX3, 14, rfl, inX3, by decide, Or.inr ⟨"TownFolk", List.mem_of_getElem? (i := 16) (by decide +kernel)⟩, ⟨tyX3, tyX3_ok, fun _ => rfl, fun h => absurd h (by decide)⟩, nmX3, fun _ => rfl⟩
theorem Pe_TownFolk_Planner_39 : PEok "TownFolk$Planner" 39 (.inl (3, 1, 0)) := ⟨RX3, TX3, 14, rfl, inX3, by decide, Or.inr ⟨"TownFolk", List.mem_of_getElem? (i := 9) (by decide +kernel)⟩, ⟨tyX3, tyX3_ok, fun h => absurd h (by decide), fun h => absurd h (by decide)⟩, nmX3, fun h => absurd h (by decide)⟩
theorem Pe_TownFolk_Planner_42 : PEok "TownFolk$Planner" 42 (.inr (.inl S_X2_claim)) := ⟨Sok_X2_claim, Or.inl (tb_3 29 (by decide +kernel) (by decide +kernel))⟩
theorem Pe_TownFolk_Planner_46 : PEok "TownFolk$Planner" 46 (.inl (3, 12, 2)) := ⟨RX3, TX3, 14, rfl, inX3, by decide, Or.inr ⟨"TownFolk", List.mem_of_getElem? (i := 22) (by decide +kernel)⟩, ⟨tyX3, tyX3_ok, fun h => absurd h (by decide), fun _ => rfl⟩, nmX3, fun _ => rfl⟩
theorem Pe_TownFolk_Planner_50 : PEok "TownFolk$Planner" 50 (.inl (3, 7, 1)) := ⟨RX3, TX3, 14, rfl, inX3, by decide, Or.inr ⟨"TownFolk", List.mem_of_getElem? (i := 17) (by decide +kernel)⟩, ⟨tyX3, tyX3_ok, fun _ => rfl, fun h => absurd h (by decide)⟩, nmX3, fun _ => rfl⟩
theorem Pe_TownFolk_Planner_53 : PEok "TownFolk$Planner" 53 (.inl (3, 8, 1)) := ⟨RX3, TX3, 14, rfl, inX3, by decide, Or.inr ⟨"TownFolk", List.mem_of_getElem? (i := 18) (by decide +kernel)⟩, ⟨tyX3, tyX3_ok, fun _ => rfl, fun h => absurd h (by decide)⟩, nmX3, fun _ => rfl⟩
theorem Pe_TownFolk_Planner_56 : PEok "TownFolk$Planner" 56 (.inl (3, 9, 1)) := ⟨RX3, TX3, 14, rfl, inX3, by decide, Or.inr ⟨"TownFolk", List.mem_of_getElem? (i := 19) (by decide +kernel)⟩, ⟨tyX3, tyX3_ok, fun _ => rfl, fun h => absurd h (by decide)⟩, nmX3, fun _ => rfl⟩
theorem Pe_TownFolk_Planner_59 : PEok "TownFolk$Planner" 59 (.inl (6, 5, 1)) := ⟨RX6, TX6, 7, rfl, inX6, by decide, Or.inr ⟨"TownFolk", List.mem_of_getElem? (i := 2) (by decide +kernel)⟩, ⟨tyX6, tyX6_ok, fun _ => rfl, fun h => absurd h (by decide)⟩, nmX6, fun _ => rfl⟩
theorem Pe_TownFolk_Planner_64 : PEok "TownFolk$Planner" 64 (.inr (.inl S_X2_mayBeIn)) := ⟨Sok_X2_mayBeIn, Or.inl (tb_3 50 (by decide +kernel) (by decide +kernel))⟩
theorem Pe_TownFolk_Planner_68 : PEok "TownFolk$Planner" 68 (.inr (.inl S_X2_stay)) := ⟨Sok_X2_stay, Or.inl (tb_3 65 (by decide +kernel) (by decide +kernel))⟩
theorem Pe_TownFolk_Planner_72 : PEok "TownFolk$Planner" 72 (.inr (.inl S_X2_goOn)) := ⟨Sok_X2_goOn, Or.inl (tb_3 69 (by decide +kernel) (by decide +kernel))⟩
theorem Pe_TownFolk_Planner_76 : PEok "TownFolk$Planner" 76 (.inr (.inl S_X6_isOpen)) := ⟨Sok_X6_isOpen, Or.inl (tb_3 53 (by decide +kernel) (by decide +kernel))⟩
theorem Pe_TownFolk_Planner_80 : PEok "TownFolk$Planner" 80 (.inr (.inl S_X3_hasKey)) := ⟨Sok_X3_hasKey, Or.inl (tb_3 57 (by decide +kernel) (by decide +kernel))⟩
theorem Pe_TownFolk_Planner_84 : PEok "TownFolk$Planner" 84 (.inr (.inl S_X4_taken)) := ⟨Sok_X4_taken, Or.inl (tb_3 61 (by decide +kernel) (by decide +kernel))⟩
theorem Pe_TownFolk_Planner_90 : PEok "TownFolk$Planner" 90 (.inl (6, 0, 0)) := ⟨RX6, TX6, 7, rfl, inX6, by decide, Or.inr ⟨"TownFolk", List.mem_of_getElem? (i := 0) (by decide +kernel)⟩, ⟨tyX6, tyX6_ok, fun h => absurd h (by decide), fun h => absurd h (by decide)⟩, nmX6, fun h => absurd h (by decide)⟩
theorem Pe_TownFolk_Planner_93 : PEok "TownFolk$Planner" 93 (.inl (3, 4, 1)) := ⟨RX3, TX3, 14, rfl, inX3, by decide, Or.inr ⟨"TownFolk", List.mem_of_getElem? (i := 14) (by decide +kernel)⟩, ⟨tyX3, tyX3_ok, fun _ => rfl, fun h => absurd h (by decide)⟩, nmX3, fun _ => rfl⟩
theorem Pe_TownFolk_Planner_96 : PEok "TownFolk$Planner" 96 (.inl (3, 0, 0)) := ⟨RX3, TX3, 14, rfl, inX3, by decide, Or.inr ⟨"TownFolk", List.mem_of_getElem? (i := 8) (by decide +kernel)⟩, ⟨tyX3, tyX3_ok, fun h => absurd h (by decide), fun h => absurd h (by decide)⟩, nmX3, fun h => absurd h (by decide)⟩
theorem Pe_TownFolk_Planner_99 : PEok "TownFolk$Planner" 99 (.inr (.inl S_X6_wayTicks)) := ⟨Sok_X6_wayTicks, Or.inl (tb_3 73 (by decide +kernel) (by decide +kernel))⟩
theorem Pe_TownFolk_Planner_102 : PEok "TownFolk$Planner" 102 (.inr (.inl S_X2_costOfWay)) := ⟨Sok_X2_costOfWay, Or.inl (tb_3 77 (by decide +kernel) (by decide +kernel))⟩
theorem Pe_TownFolk_Planner_106 : PEok "TownFolk$Planner" 106 (.inl (3, 2, 0)) := ⟨RX3, TX3, 14, rfl, inX3, by decide, Or.inr ⟨"TownFolk", List.mem_of_getElem? (i := 11) (by decide +kernel)⟩, ⟨tyX3, tyX3_ok, fun h => absurd h (by decide), fun h => absurd h (by decide)⟩, nmX3, fun h => absurd h (by decide)⟩
theorem Pok_TownFolk_Planner : ∀ q ∈ P_TownFolk_Planner, PEok "TownFolk$Planner" q.1 q.2 := List.forall_mem_cons.mpr ⟨Pe_TownFolk_Planner_9, List.forall_mem_cons.mpr ⟨Pe_TownFolk_Planner_15, List.forall_mem_cons.mpr ⟨Pe_TownFolk_Planner_18, List.forall_mem_cons.mpr ⟨Pe_TownFolk_Planner_21, List.forall_mem_cons.mpr ⟨Pe_TownFolk_Planner_24, List.forall_mem_cons.mpr ⟨Pe_TownFolk_Planner_27, List.forall_mem_cons.mpr ⟨Pe_TownFolk_Planner_33, List.forall_mem_cons.mpr ⟨Pe_TownFolk_Planner_39, List.forall_mem_cons.mpr ⟨Pe_TownFolk_Planner_42, List.forall_mem_cons.mpr ⟨Pe_TownFolk_Planner_46, List.forall_mem_cons.mpr ⟨Pe_TownFolk_Planner_50, List.forall_mem_cons.mpr ⟨Pe_TownFolk_Planner_53, List.forall_mem_cons.mpr ⟨Pe_TownFolk_Planner_56, List.forall_mem_cons.mpr ⟨Pe_TownFolk_Planner_59, List.forall_mem_cons.mpr ⟨Pe_TownFolk_Planner_64, List.forall_mem_cons.mpr ⟨Pe_TownFolk_Planner_68, List.forall_mem_cons.mpr ⟨Pe_TownFolk_Planner_72, List.forall_mem_cons.mpr ⟨Pe_TownFolk_Planner_76, List.forall_mem_cons.mpr ⟨Pe_TownFolk_Planner_80, List.forall_mem_cons.mpr ⟨Pe_TownFolk_Planner_84, List.forall_mem_cons.mpr ⟨Pe_TownFolk_Planner_90, List.forall_mem_cons.mpr ⟨Pe_TownFolk_Planner_93, List.forall_mem_cons.mpr ⟨Pe_TownFolk_Planner_96, List.forall_mem_cons.mpr ⟨Pe_TownFolk_Planner_99, List.forall_mem_cons.mpr ⟨Pe_TownFolk_Planner_102, List.forall_mem_cons.mpr ⟨Pe_TownFolk_Planner_106, fun _ h => absurd h List.not_mem_nil⟩⟩⟩⟩⟩⟩⟩⟩⟩⟩⟩⟩⟩⟩⟩⟩⟩⟩⟩⟩⟩⟩⟩⟩⟩⟩
def P_TownFolk_DutyCheck : List (Nat × PE) := [(9, .inl (0, 1, 1)), (15, .inl (0, 0, 1)), (18, .inl (5, 3, 1)), (23, .inr (.inl S_X0_faultOf)), (27, .inr (.inl S_X5_asInt)), (31, .inr (.inl S_X0_placeOf)), (35, .inr (.inl S_X6_has)), (41, .inr (.inl S_X0_startOf)), (44, .inr (.inl S_X0_endOf)), (47, .inr (.inl S_X7_isSpan)), (51, .inr (.inl S_X7_isWeight)), (54, .inr (.inl S_X0_meetsEarlier)), (58, .inr (.inl S_X0_isReachable)), (62, .inr (.inl S_X0_isInTime)), (66, .inr (.inl S_X6_isReached))]
theorem Pe_TownFolk_DutyCheck_9 : PEok "TownFolk$DutyCheck" 9 (.inl (0, 1, 1)) := ⟨RX0, TX0, 2, rfl, inX0, by decide, Or.inl (tb_1 138 (by decide +kernel) (by decide +kernel)), ⟨tyX0, tyX0_ok, fun _ => rfl, fun h => absurd h (by decide)⟩, nmX0, fun _ => rfl⟩
theorem Pe_TownFolk_DutyCheck_15 : PEok "TownFolk$DutyCheck" 15 (.inl (0, 0, 1)) := ⟨RX0, TX0, 2, rfl, inX0, by decide, Or.inl (tb_1 136 (by decide +kernel) (by decide +kernel)), ⟨tyX0, tyX0_ok, fun _ => rfl, fun h => absurd h (by decide)⟩, nmX0, fun _ => rfl⟩
theorem Pe_TownFolk_DutyCheck_18 : PEok "TownFolk$DutyCheck" 18 (.inl (5, 3, 1)) := ⟨RX5, TX5, 4, rfl, inX5, by decide, Or.inr ⟨"TownFolk", List.mem_of_getElem? (i := 6) (by decide +kernel)⟩, ⟨tyX5, tyX5_ok, fun _ => rfl, fun h => absurd h (by decide)⟩, nmX5, fun _ => rfl⟩
theorem Pe_TownFolk_DutyCheck_23 : PEok "TownFolk$DutyCheck" 23 (.inr (.inl S_X0_faultOf)) := ⟨Sok_X0_faultOf, Or.inl (tb_2 175 (by decide +kernel) (by decide +kernel))⟩
theorem Pe_TownFolk_DutyCheck_27 : PEok "TownFolk$DutyCheck" 27 (.inr (.inl S_X5_asInt)) := ⟨Sok_X5_asInt, Or.inl (tb_2 181 (by decide +kernel) (by decide +kernel))⟩
theorem Pe_TownFolk_DutyCheck_31 : PEok "TownFolk$DutyCheck" 31 (.inr (.inl S_X0_placeOf)) := ⟨Sok_X0_placeOf, Or.inl (tb_2 178 (by decide +kernel) (by decide +kernel))⟩
theorem Pe_TownFolk_DutyCheck_35 : PEok "TownFolk$DutyCheck" 35 (.inr (.inl S_X6_has)) := ⟨Sok_X6_has, Or.inl (tb_2 185 (by decide +kernel) (by decide +kernel))⟩
theorem Pe_TownFolk_DutyCheck_41 : PEok "TownFolk$DutyCheck" 41 (.inr (.inl S_X0_startOf)) := ⟨Sok_X0_startOf, Or.inl (tb_2 186 (by decide +kernel) (by decide +kernel))⟩
theorem Pe_TownFolk_DutyCheck_44 : PEok "TownFolk$DutyCheck" 44 (.inr (.inl S_X0_endOf)) := ⟨Sok_X0_endOf, Or.inl (tb_2 189 (by decide +kernel) (by decide +kernel))⟩
theorem Pe_TownFolk_DutyCheck_47 : PEok "TownFolk$DutyCheck" 47 (.inr (.inl S_X7_isSpan)) := ⟨Sok_X7_isSpan, Or.inr ⟨"TownFolk", List.mem_of_getElem? (i := 6) (by decide +kernel)⟩⟩
theorem Pe_TownFolk_DutyCheck_51 : PEok "TownFolk$DutyCheck" 51 (.inr (.inl S_X7_isWeight)) := ⟨Sok_X7_isWeight, Or.inr ⟨"TownFolk", List.mem_of_getElem? (i := 7) (by decide +kernel)⟩⟩
theorem Pe_TownFolk_DutyCheck_54 : PEok "TownFolk$DutyCheck" 54 (.inr (.inl S_X0_meetsEarlier)) := ⟨Sok_X0_meetsEarlier, Or.inl (tb_2 196 (by decide +kernel) (by decide +kernel))⟩
theorem Pe_TownFolk_DutyCheck_58 : PEok "TownFolk$DutyCheck" 58 (.inr (.inl S_X0_isReachable)) := ⟨Sok_X0_isReachable, Or.inl (tb_2 199 (by decide +kernel) (by decide +kernel))⟩
theorem Pe_TownFolk_DutyCheck_62 : PEok "TownFolk$DutyCheck" 62 (.inr (.inl S_X0_isInTime)) := ⟨Sok_X0_isInTime, Or.inl (tb_2 202 (by decide +kernel) (by decide +kernel))⟩
theorem Pe_TownFolk_DutyCheck_66 : PEok "TownFolk$DutyCheck" 66 (.inr (.inl S_X6_isReached)) := ⟨Sok_X6_isReached, Or.inl (tb_2 205 (by decide +kernel) (by decide +kernel))⟩
theorem Pok_TownFolk_DutyCheck : ∀ q ∈ P_TownFolk_DutyCheck, PEok "TownFolk$DutyCheck" q.1 q.2 := List.forall_mem_cons.mpr ⟨Pe_TownFolk_DutyCheck_9, List.forall_mem_cons.mpr ⟨Pe_TownFolk_DutyCheck_15, List.forall_mem_cons.mpr ⟨Pe_TownFolk_DutyCheck_18, List.forall_mem_cons.mpr ⟨Pe_TownFolk_DutyCheck_23, List.forall_mem_cons.mpr ⟨Pe_TownFolk_DutyCheck_27, List.forall_mem_cons.mpr ⟨Pe_TownFolk_DutyCheck_31, List.forall_mem_cons.mpr ⟨Pe_TownFolk_DutyCheck_35, List.forall_mem_cons.mpr ⟨Pe_TownFolk_DutyCheck_41, List.forall_mem_cons.mpr ⟨Pe_TownFolk_DutyCheck_44, List.forall_mem_cons.mpr ⟨Pe_TownFolk_DutyCheck_47, List.forall_mem_cons.mpr ⟨Pe_TownFolk_DutyCheck_51, List.forall_mem_cons.mpr ⟨Pe_TownFolk_DutyCheck_54, List.forall_mem_cons.mpr ⟨Pe_TownFolk_DutyCheck_58, List.forall_mem_cons.mpr ⟨Pe_TownFolk_DutyCheck_62, List.forall_mem_cons.mpr ⟨Pe_TownFolk_DutyCheck_66, fun _ h => absurd h List.not_mem_nil⟩⟩⟩⟩⟩⟩⟩⟩⟩⟩⟩⟩⟩⟩⟩
def P_TownFolk_Shelf : List (Nat × PE) := [(9, .inl (5, 0, 0)), (15, .inl (5, 1, 1)), (19, .inl (5, 2, 1)), (22, .inl (5, 3, 1)), (25, .inr (.inl S_X5_clear)), (28, .inr (.inl S_J7_fill_d0a16))]
theorem Pe_TownFolk_Shelf_9 : PEok "TownFolk$Shelf" 9 (.inl (5, 0, 0)) := ⟨RX5, TX5, 4, rfl, inX5, by decide, Or.inl (tb_1 149 (by decide +kernel) (by decide +kernel)), ⟨tyX5, tyX5_ok, fun h => absurd h (by decide), fun h => absurd h (by decide)⟩, nmX5, fun h => absurd h (by decide)⟩
theorem Pe_TownFolk_Shelf_15 : PEok "TownFolk$Shelf" 15 (.inl (5, 1, 1)) := ⟨RX5, TX5, 4, rfl, inX5, by decide, Or.inl (tb_1 150 (by decide +kernel) (by decide +kernel)), ⟨tyX5, tyX5_ok, fun _ => rfl, fun h => absurd h (by decide)⟩, nmX5, fun _ => rfl⟩
theorem Pe_TownFolk_Shelf_19 : PEok "TownFolk$Shelf" 19 (.inl (5, 2, 1)) := ⟨RX5, TX5, 4, rfl, inX5, by decide, Or.inl (tb_1 151 (by decide +kernel) (by decide +kernel)), ⟨tyX5, tyX5_ok, fun _ => rfl, fun h => absurd h (by decide)⟩, nmX5, fun _ => rfl⟩
theorem Pe_TownFolk_Shelf_22 : PEok "TownFolk$Shelf" 22 (.inl (5, 3, 1)) := ⟨RX5, TX5, 4, rfl, inX5, by decide, Or.inl (tb_1 154 (by decide +kernel) (by decide +kernel)), ⟨tyX5, tyX5_ok, fun _ => rfl, fun h => absurd h (by decide)⟩, nmX5, fun _ => rfl⟩
theorem Pe_TownFolk_Shelf_25 : PEok "TownFolk$Shelf" 25 (.inr (.inl S_X5_clear)) := ⟨Sok_X5_clear, Or.inl (tb_2 140 (by decide +kernel) (by decide +kernel))⟩
theorem Pe_TownFolk_Shelf_28 : PEok "TownFolk$Shelf" 28 (.inr (.inl S_J7_fill_d0a16)) := ⟨Sok_J7_fill_d0a16, Or.inl (tb_2 144 (by decide +kernel) (by decide +kernel))⟩
theorem Pok_TownFolk_Shelf : ∀ q ∈ P_TownFolk_Shelf, PEok "TownFolk$Shelf" q.1 q.2 := List.forall_mem_cons.mpr ⟨Pe_TownFolk_Shelf_9, List.forall_mem_cons.mpr ⟨Pe_TownFolk_Shelf_15, List.forall_mem_cons.mpr ⟨Pe_TownFolk_Shelf_19, List.forall_mem_cons.mpr ⟨Pe_TownFolk_Shelf_22, List.forall_mem_cons.mpr ⟨Pe_TownFolk_Shelf_25, List.forall_mem_cons.mpr ⟨Pe_TownFolk_Shelf_28, fun _ h => absurd h List.not_mem_nil⟩⟩⟩⟩⟩⟩
def P_TownFolk_Resident : List (Nat × PE) := [(9, .inl (3, 0, 0)), (15, .inl (3, 1, 0)), (18, .inl (3, 2, 0)), (21, .inl (3, 3, 0)), (24, .inr (.inl S_J7_fill_53178)), (30, .inl (5, 3, 1)), (36, .inr (.inr (.inr (.inr 1)))), (42, .inl (3, 6, 1)), (45, .inr (.inl S_X5_asInt)), (49, .inl (3, 5, 1)), (52, .inl (3, 12, 2)), (56, .inl (3, 7, 1)), (59, .inl (3, 8, 1)), (62, .inl (3, 9, 1)), (65, .inl (3, 13, 2)), (68, .inl (3, 4, 1)), (71, .inl (3, 11, 1))]
theorem Pe_TownFolk_Resident_9 : PEok "TownFolk$Resident" 9 (.inl (3, 0, 0)) := ⟨RX3, TX3, 14, rfl, inX3, by decide, Or.inl (tb_1 174 (by decide +kernel) (by decide +kernel)), ⟨tyX3, tyX3_ok, fun h => absurd h (by decide), fun h => absurd h (by decide)⟩, nmX3, fun h => absurd h (by decide)⟩
theorem Pe_TownFolk_Resident_15 : PEok "TownFolk$Resident" 15 (.inl (3, 1, 0)) := ⟨RX3, TX3, 14, rfl, inX3, by decide, Or.inl (tb_1 176 (by decide +kernel) (by decide +kernel)), ⟨tyX3, tyX3_ok, fun h => absurd h (by decide), fun h => absurd h (by decide)⟩, nmX3, fun h => absurd h (by decide)⟩
theorem Pe_TownFolk_Resident_18 : PEok "TownFolk$Resident" 18 (.inl (3, 2, 0)) := ⟨RX3, TX3, 14, rfl, inX3, by decide, Or.inl (tb_1 178 (by decide +kernel) (by decide +kernel)), ⟨tyX3, tyX3_ok, fun h => absurd h (by decide), fun h => absurd h (by decide)⟩, nmX3, fun h => absurd h (by decide)⟩
theorem Pe_TownFolk_Resident_21 : PEok "TownFolk$Resident" 21 (.inl (3, 3, 0)) := ⟨RX3, TX3, 14, rfl, inX3, by decide, Or.inl (tb_1 182 (by decide +kernel) (by decide +kernel)), ⟨tyX3, tyX3_ok, fun h => absurd h (by decide), fun h => absurd h (by decide)⟩, nmX3, fun h => absurd h (by decide)⟩
theorem Pe_TownFolk_Resident_24 : PEok "TownFolk$Resident" 24 (.inr (.inl S_J7_fill_53178)) := ⟨Sok_J7_fill_53178, Or.inl (tb_1 171 (by decide +kernel) (by decide +kernel))⟩
theorem Pe_TownFolk_Resident_30 : PEok "TownFolk$Resident" 30 (.inl (5, 3, 1)) := ⟨RX5, TX5, 4, rfl, inX5, by decide, Or.inr ⟨"TownFolk", List.mem_of_getElem? (i := 5) (by decide +kernel)⟩, ⟨tyX5, tyX5_ok, fun _ => rfl, fun h => absurd h (by decide)⟩, nmX5, fun _ => rfl⟩
theorem Pe_TownFolk_Resident_36 : PEok "TownFolk$Resident" 36 (.inr (.inr (.inr (.inr 1)))) := ⟨tb_2 213 (by decide +kernel) (by decide +kernel), tb_2 80 (by decide +kernel) (by decide +kernel), tb_1 10 (by decide +kernel) (by decide +kernel), tb_2 81 (by decide +kernel) (by decide +kernel)⟩
theorem Pe_TownFolk_Resident_42 : PEok "TownFolk$Resident" 42 (.inl (3, 6, 1)) := ⟨RX3, TX3, 14, rfl, inX3, by decide, Or.inl (tb_1 188 (by decide +kernel) (by decide +kernel)), ⟨tyX3, tyX3_ok, fun _ => rfl, fun h => absurd h (by decide)⟩, nmX3, fun _ => rfl⟩
theorem Pe_TownFolk_Resident_45 : PEok "TownFolk$Resident" 45 (.inr (.inl S_X5_asInt)) := ⟨Sok_X5_asInt, Or.inl (tb_2 214 (by decide +kernel) (by decide +kernel))⟩
theorem Pe_TownFolk_Resident_49 : PEok "TownFolk$Resident" 49 (.inl (3, 5, 1)) := ⟨RX3, TX3, 14, rfl, inX3, by decide, Or.inl (tb_1 186 (by decide +kernel) (by decide +kernel)), ⟨tyX3, tyX3_ok, fun _ => rfl, fun h => absurd h (by decide)⟩, nmX3, fun _ => rfl⟩
theorem Pe_TownFolk_Resident_52 : PEok "TownFolk$Resident" 52 (.inl (3, 12, 2)) := ⟨RX3, TX3, 14, rfl, inX3, by decide, Or.inl (tb_1 200 (by decide +kernel) (by decide +kernel)), ⟨tyX3, tyX3_ok, fun h => absurd h (by decide), fun _ => rfl⟩, nmX3, fun _ => rfl⟩
theorem Pe_TownFolk_Resident_56 : PEok "TownFolk$Resident" 56 (.inl (3, 7, 1)) := ⟨RX3, TX3, 14, rfl, inX3, by decide, Or.inl (tb_1 191 (by decide +kernel) (by decide +kernel)), ⟨tyX3, tyX3_ok, fun _ => rfl, fun h => absurd h (by decide)⟩, nmX3, fun _ => rfl⟩
theorem Pe_TownFolk_Resident_59 : PEok "TownFolk$Resident" 59 (.inl (3, 8, 1)) := ⟨RX3, TX3, 14, rfl, inX3, by decide, Or.inl (tb_1 193 (by decide +kernel) (by decide +kernel)), ⟨tyX3, tyX3_ok, fun _ => rfl, fun h => absurd h (by decide)⟩, nmX3, fun _ => rfl⟩
theorem Pe_TownFolk_Resident_62 : PEok "TownFolk$Resident" 62 (.inl (3, 9, 1)) := ⟨RX3, TX3, 14, rfl, inX3, by decide, Or.inl (tb_1 195 (by decide +kernel) (by decide +kernel)), ⟨tyX3, tyX3_ok, fun _ => rfl, fun h => absurd h (by decide)⟩, nmX3, fun _ => rfl⟩
theorem Pe_TownFolk_Resident_65 : PEok "TownFolk$Resident" 65 (.inl (3, 13, 2)) := ⟨RX3, TX3, 14, rfl, inX3, by decide, Or.inl (tb_1 202 (by decide +kernel) (by decide +kernel)), ⟨tyX3, tyX3_ok, fun h => absurd h (by decide), fun _ => rfl⟩, nmX3, fun _ => rfl⟩
theorem Pe_TownFolk_Resident_68 : PEok "TownFolk$Resident" 68 (.inl (3, 4, 1)) := ⟨RX3, TX3, 14, rfl, inX3, by decide, Or.inl (tb_1 185 (by decide +kernel) (by decide +kernel)), ⟨tyX3, tyX3_ok, fun _ => rfl, fun h => absurd h (by decide)⟩, nmX3, fun _ => rfl⟩
theorem Pe_TownFolk_Resident_71 : PEok "TownFolk$Resident" 71 (.inl (3, 11, 1)) := ⟨RX3, TX3, 14, rfl, inX3, by decide, Or.inl (tb_1 197 (by decide +kernel) (by decide +kernel)), ⟨tyX3, tyX3_ok, fun _ => rfl, fun h => absurd h (by decide)⟩, nmX3, fun _ => rfl⟩
theorem Pok_TownFolk_Resident : ∀ q ∈ P_TownFolk_Resident, PEok "TownFolk$Resident" q.1 q.2 := List.forall_mem_cons.mpr ⟨Pe_TownFolk_Resident_9, List.forall_mem_cons.mpr ⟨Pe_TownFolk_Resident_15, List.forall_mem_cons.mpr ⟨Pe_TownFolk_Resident_18, List.forall_mem_cons.mpr ⟨Pe_TownFolk_Resident_21, List.forall_mem_cons.mpr ⟨Pe_TownFolk_Resident_24, List.forall_mem_cons.mpr ⟨Pe_TownFolk_Resident_30, List.forall_mem_cons.mpr ⟨Pe_TownFolk_Resident_36, List.forall_mem_cons.mpr ⟨Pe_TownFolk_Resident_42, List.forall_mem_cons.mpr ⟨Pe_TownFolk_Resident_45, List.forall_mem_cons.mpr ⟨Pe_TownFolk_Resident_49, List.forall_mem_cons.mpr ⟨Pe_TownFolk_Resident_52, List.forall_mem_cons.mpr ⟨Pe_TownFolk_Resident_56, List.forall_mem_cons.mpr ⟨Pe_TownFolk_Resident_59, List.forall_mem_cons.mpr ⟨Pe_TownFolk_Resident_62, List.forall_mem_cons.mpr ⟨Pe_TownFolk_Resident_65, List.forall_mem_cons.mpr ⟨Pe_TownFolk_Resident_68, List.forall_mem_cons.mpr ⟨Pe_TownFolk_Resident_71, fun _ h => absurd h List.not_mem_nil⟩⟩⟩⟩⟩⟩⟩⟩⟩⟩⟩⟩⟩⟩⟩⟩⟩
def P_TownFolk_Gathering : List (Nat × PE) := [(7, .inl (1, 0, 1)), (13, .inl (1, 1, 1)), (16, .inl (1, 2, 1)), (19, .inl (1, 3, 1)), (22, .inl (1, 4, 1)), (25, .inl (1, 5, 1)), (28, .inl (1, 7, 1)), (31, .inr (.inl S_X1_isOf)), (35, .inl (3, 2, 0)), (41, .inl (1, 6, 1))]
theorem Pe_TownFolk_Gathering_7 : PEok "TownFolk$Gathering" 7 (.inl (1, 0, 1)) := ⟨RX1, TX1, 8, rfl, inX1, by decide, Or.inl (tb_1 238 (by decide +kernel) (by decide +kernel)), ⟨tyX1, tyX1_ok, fun _ => rfl, fun h => absurd h (by decide)⟩, nmX1, fun _ => rfl⟩
theorem Pe_TownFolk_Gathering_13 : PEok "TownFolk$Gathering" 13 (.inl (1, 1, 1)) := ⟨RX1, TX1, 8, rfl, inX1, by decide, Or.inl (tb_1 239 (by decide +kernel) (by decide +kernel)), ⟨tyX1, tyX1_ok, fun _ => rfl, fun h => absurd h (by decide)⟩, nmX1, fun _ => rfl⟩
theorem Pe_TownFolk_Gathering_16 : PEok "TownFolk$Gathering" 16 (.inl (1, 2, 1)) := ⟨RX1, TX1, 8, rfl, inX1, by decide, Or.inl (tb_2 1 (by decide +kernel) (by decide +kernel)), ⟨tyX1, tyX1_ok, fun _ => rfl, fun h => absurd h (by decide)⟩, nmX1, fun _ => rfl⟩
theorem Pe_TownFolk_Gathering_19 : PEok "TownFolk$Gathering" 19 (.inl (1, 3, 1)) := ⟨RX1, TX1, 8, rfl, inX1, by decide, Or.inl (tb_2 3 (by decide +kernel) (by decide +kernel)), ⟨tyX1, tyX1_ok, fun _ => rfl, fun h => absurd h (by decide)⟩, nmX1, fun _ => rfl⟩
theorem Pe_TownFolk_Gathering_22 : PEok "TownFolk$Gathering" 22 (.inl (1, 4, 1)) := ⟨RX1, TX1, 8, rfl, inX1, by decide, Or.inl (tb_2 5 (by decide +kernel) (by decide +kernel)), ⟨tyX1, tyX1_ok, fun _ => rfl, fun h => absurd h (by decide)⟩, nmX1, fun _ => rfl⟩
theorem Pe_TownFolk_Gathering_25 : PEok "TownFolk$Gathering" 25 (.inl (1, 5, 1)) := ⟨RX1, TX1, 8, rfl, inX1, by decide, Or.inl (tb_2 7 (by decide +kernel) (by decide +kernel)), ⟨tyX1, tyX1_ok, fun _ => rfl, fun h => absurd h (by decide)⟩, nmX1, fun _ => rfl⟩
theorem Pe_TownFolk_Gathering_28 : PEok "TownFolk$Gathering" 28 (.inl (1, 7, 1)) := ⟨RX1, TX1, 8, rfl, inX1, by decide, Or.inl (tb_2 9 (by decide +kernel) (by decide +kernel)), ⟨tyX1, tyX1_ok, fun _ => rfl, fun h => absurd h (by decide)⟩, nmX1, fun _ => rfl⟩
theorem Pe_TownFolk_Gathering_31 : PEok "TownFolk$Gathering" 31 (.inr (.inl S_X1_isOf)) := ⟨Sok_X1_isOf, Or.inl (tb_3 118 (by decide +kernel) (by decide +kernel))⟩
theorem Pe_TownFolk_Gathering_35 : PEok "TownFolk$Gathering" 35 (.inl (3, 2, 0)) := ⟨RX3, TX3, 14, rfl, inX3, by decide, Or.inr ⟨"TownFolk", List.mem_of_getElem? (i := 10) (by decide +kernel)⟩, ⟨tyX3, tyX3_ok, fun h => absurd h (by decide), fun h => absurd h (by decide)⟩, nmX3, fun h => absurd h (by decide)⟩
theorem Pe_TownFolk_Gathering_41 : PEok "TownFolk$Gathering" 41 (.inl (1, 6, 1)) := ⟨RX1, TX1, 8, rfl, inX1, by decide, Or.inl (tb_2 8 (by decide +kernel) (by decide +kernel)), ⟨tyX1, tyX1_ok, fun _ => rfl, fun h => absurd h (by decide)⟩, nmX1, fun _ => rfl⟩
theorem Pok_TownFolk_Gathering : ∀ q ∈ P_TownFolk_Gathering, PEok "TownFolk$Gathering" q.1 q.2 := List.forall_mem_cons.mpr ⟨Pe_TownFolk_Gathering_7, List.forall_mem_cons.mpr ⟨Pe_TownFolk_Gathering_13, List.forall_mem_cons.mpr ⟨Pe_TownFolk_Gathering_16, List.forall_mem_cons.mpr ⟨Pe_TownFolk_Gathering_19, List.forall_mem_cons.mpr ⟨Pe_TownFolk_Gathering_22, List.forall_mem_cons.mpr ⟨Pe_TownFolk_Gathering_25, List.forall_mem_cons.mpr ⟨Pe_TownFolk_Gathering_28, List.forall_mem_cons.mpr ⟨Pe_TownFolk_Gathering_31, List.forall_mem_cons.mpr ⟨Pe_TownFolk_Gathering_35, List.forall_mem_cons.mpr ⟨Pe_TownFolk_Gathering_41, fun _ h => absurd h List.not_mem_nil⟩⟩⟩⟩⟩⟩⟩⟩⟩⟩
def P_acts : List (Nat × PE) := [(55, .inr (.inl S_X7_status)), (58, .inr (.inl S_X7_tick)), (61, .inr (.inl S_X7_bend)), (65, .inr (.inl S_X7_lock)), (69, .inr (.inl S_X7_again)), (72, .inr (.inl S_X7_happen)), (75, .inr (.inl S_X7_gone)), (33, .inr (.inl S_X7_key))]
theorem Pok_acts : ∀ q ∈ P_acts, PEok "TownFolkLaw" q.1 q.2 := List.forall_mem_cons.mpr ⟨Pe_TownFolkLaw_55, List.forall_mem_cons.mpr ⟨Pe_TownFolkLaw_58, List.forall_mem_cons.mpr ⟨Pe_TownFolkLaw_61, List.forall_mem_cons.mpr ⟨Pe_TownFolkLaw_65, List.forall_mem_cons.mpr ⟨Pe_TownFolkLaw_69, List.forall_mem_cons.mpr ⟨Pe_TownFolkLaw_72, List.forall_mem_cons.mpr ⟨Pe_TownFolkLaw_75, List.forall_mem_cons.mpr ⟨Pe_TownFolkLaw_33, fun _ h => absurd h List.not_mem_nil⟩⟩⟩⟩⟩⟩⟩⟩
def C_X0_init (pc : Nat) : Option (Instr × Nat) := (bif Nat.blt pc 5 then (bif Nat.blt pc 1 then (bif Nat.beq pc 0 then some (.aload_n 0, 1) else none) else (bif Nat.blt pc 4 then (bif Nat.beq pc 1 then some (.invokespecial 3, 3) else none) else (bif Nat.beq pc 4 then some (.aload_n 0, 1) else none))) else (bif Nat.blt pc 6 then (bif Nat.beq pc 5 then some (.iconst (-1), 1) else none) else (bif Nat.blt pc 9 then (bif Nat.beq pc 6 then some (.putfield 9, 3) else none) else (bif Nat.beq pc 9 then some (.return_, 1) else none))))
def M_X0_init : MR := (S_X0_init, P_TownFolk_DutyCheck, gd 10 C_X0_init)
set_option maxRecDepth 100000 in
theorem Mok_X0_init : MOK M_X0_init := ⟨gd_ok (by decide +kernel), Pok_TownFolk_DutyCheck, by decide +kernel⟩
def C_X0_examine (pc : Nat) : Option (Instr × Nat) := (bif Nat.blt pc 40 then (bif Nat.blt pc 19 then (bif Nat.blt pc 7 then (bif Nat.blt pc 2 then (bif Nat.blt pc 1 then (bif Nat.beq pc 0 then some (.aload_n 0, 1) else none) else (bif Nat.beq pc 1 then some (.iconst 0, 1) else none)) else (bif Nat.blt pc 5 then (bif Nat.beq pc 2 then some (.putfield 15, 3) else none) else (bif Nat.blt pc 6 then (bif Nat.beq pc 5 then some (.aload_n 0, 1) else none) else (bif Nat.beq pc 6 then some (.iconst (-1), 1) else none)))) else (bif Nat.blt pc 14 then (bif Nat.blt pc 10 then (bif Nat.beq pc 7 then some (.putfield 9, 3) else none) else (bif Nat.blt pc 11 then (bif Nat.beq pc 10 then some (.aload_n 1, 1) else none) else (bif Nat.beq pc 11 then some (.getfield 18, 3) else none))) else (bif Nat.blt pc 15 then (bif Nat.beq pc 14 then some (.iconst 4, 1) else none) else (bif Nat.blt pc 16 then (bif Nat.beq pc 15 then some (.irem, 1) else none) else (bif Nat.beq pc 16 then some (.ifCond .ne 12, 3) else none))))) else (bif Nat.blt pc 30 then (bif Nat.blt pc 25 then (bif Nat.blt pc 20 then (bif Nat.beq pc 19 then some (.aload_n 1, 1) else none) else (bif Nat.blt pc 23 then (bif Nat.beq pc 20 then some (.getfield 18, 3) else none) else (bif Nat.beq pc 23 then some (.bipush 48, 2) else none))) else (bif Nat.blt pc 28 then (bif Nat.beq pc 25 then some (.if_icmp .le 14, 3) else none) else (bif Nat.blt pc 29 then (bif Nat.beq pc 28 then some (.aload_n 0, 1) else none) else (bif Nat.beq pc 29 then some (.iconst 1, 1) else none)))) else (bif Nat.blt pc 35 then (bif Nat.blt pc 33 then (bif Nat.beq pc 30 then some (.putfield 15, 3) else none) else (bif Nat.blt pc 34 then (bif Nat.beq pc 33 then some (.aload_n 0, 1) else none) else (bif Nat.beq pc 34 then some (.iconst 0, 1) else none))) else (bif Nat.blt pc 38 then (bif Nat.beq pc 35 then some (.putfield 9, 3) else none) else (bif Nat.blt pc 39 then (bif Nat.beq pc 38 then some (.return_, 1) else none) else (bif Nat.beq pc 39 then some (.iconst 0, 1) else none)))))) else (bif Nat.blt pc 55 then (bif Nat.blt pc 47 then (bif Nat.blt pc 42 then (bif Nat.blt pc 41 then (bif Nat.beq pc 40 then some (.istore_n 3, 1) else none) else (bif Nat.beq pc 41 then some (.iload_n 3, 1) else none)) else (bif Nat.blt pc 43 then (bif Nat.beq pc 42 then some (.aload_n 1, 1) else none) else (bif Nat.blt pc 46 then (bif Nat.beq pc 43 then some (.getfield 18, 3) else none) else (bif Nat.beq pc 46 then some (.iconst 4, 1) else none)))) else (bif Nat.blt pc 52 then (bif Nat.blt pc 48 then (bif Nat.beq pc 47 then some (.idiv, 1) else none) else (bif Nat.blt pc 51 then (bif Nat.beq pc 48 then some (.if_icmp .ge 32, 3) else none) else (bif Nat.beq pc 51 then some (.aload_n 0, 1) else none))) else (bif Nat.blt pc 53 then (bif Nat.beq pc 52 then some (.aload_n 1, 1) else none) else (bif Nat.blt pc 54 then (bif Nat.beq pc 53 then some (.iload_n 3, 1) else none) else (bif Nat.beq pc 54 then some (.aload_n 2, 1) else none))))) else (bif Nat.blt pc 69 then (bif Nat.blt pc 62 then (bif Nat.blt pc 58 then (bif Nat.beq pc 55 then some (.invokestatic 23, 3) else none) else (bif Nat.blt pc 61 then (bif Nat.beq pc 58 then some (.putfield 15, 3) else none) else (bif Nat.beq pc 61 then some (.aload_n 0, 1) else none))) else (bif Nat.blt pc 65 then (bif Nat.beq pc 62 then some (.getfield 15, 3) else none) else (bif Nat.blt pc 68 then (bif Nat.beq pc 65 then some (.ifCond .eq 9, 3) else none) else (bif Nat.beq pc 68 then some (.aload_n 0, 1) else none)))) else (bif Nat.blt pc 74 then (bif Nat.blt pc 70 then (bif Nat.beq pc 69 then some (.iload_n 3, 1) else none) else (bif Nat.blt pc 73 then (bif Nat.beq pc 70 then some (.putfield 9, 3) else none) else (bif Nat.beq pc 73 then some (.return_, 1) else none))) else (bif Nat.blt pc 77 then (bif Nat.beq pc 74 then some (.iinc 3 1, 3) else none) else (bif Nat.blt pc 80 then (bif Nat.beq pc 77 then some (.goto (-36), 3) else none) else (bif Nat.beq pc 80 then some (.return_, 1) else none)))))))
def M_X0_examine : MR := (S_X0_examine, P_TownFolk_DutyCheck, gd 81 C_X0_examine)
set_option maxRecDepth 100000 in
theorem Mok_X0_examine : MOK M_X0_examine := ⟨gd_ok (by decide +kernel), Pok_TownFolk_DutyCheck, by decide +kernel⟩
def C_X0_placeOf (pc : Nat) : Option (Instr × Nat) := (bif Nat.blt pc 3 then (bif Nat.blt pc 1 then (bif Nat.beq pc 0 then some (.aload_n 0, 1) else none) else (bif Nat.blt pc 2 then (bif Nat.beq pc 1 then some (.iload_n 1, 1) else none) else (bif Nat.beq pc 2 then some (.iconst 4, 1) else none))) else (bif Nat.blt pc 4 then (bif Nat.beq pc 3 then some (.imul, 1) else none) else (bif Nat.blt pc 7 then (bif Nat.beq pc 4 then some (.invokevirtual 27, 3) else none) else (bif Nat.beq pc 7 then some (.ireturn, 1) else none))))
def M_X0_placeOf : MR := (S_X0_placeOf, P_TownFolk_DutyCheck, gd 8 C_X0_placeOf)
set_option maxRecDepth 100000 in
theorem Mok_X0_placeOf : MOK M_X0_placeOf := ⟨gd_ok (by decide +kernel), Pok_TownFolk_DutyCheck, by decide +kernel⟩
def C_X0_startOf (pc : Nat) : Option (Instr × Nat) := (bif Nat.blt pc 4 then (bif Nat.blt pc 2 then (bif Nat.blt pc 1 then (bif Nat.beq pc 0 then some (.aload_n 0, 1) else none) else (bif Nat.beq pc 1 then some (.iload_n 1, 1) else none)) else (bif Nat.blt pc 3 then (bif Nat.beq pc 2 then some (.iconst 4, 1) else none) else (bif Nat.beq pc 3 then some (.imul, 1) else none))) else (bif Nat.blt pc 6 then (bif Nat.blt pc 5 then (bif Nat.beq pc 4 then some (.iconst 1, 1) else none) else (bif Nat.beq pc 5 then some (.iadd, 1) else none)) else (bif Nat.blt pc 9 then (bif Nat.beq pc 6 then some (.invokevirtual 27, 3) else none) else (bif Nat.beq pc 9 then some (.ireturn, 1) else none))))
def M_X0_startOf : MR := (S_X0_startOf, P_TownFolk_DutyCheck, gd 10 C_X0_startOf)
set_option maxRecDepth 100000 in
theorem Mok_X0_startOf : MOK M_X0_startOf := ⟨gd_ok (by decide +kernel), Pok_TownFolk_DutyCheck, by decide +kernel⟩
def C_X0_endOf (pc : Nat) : Option (Instr × Nat) := (bif Nat.blt pc 4 then (bif Nat.blt pc 2 then (bif Nat.blt pc 1 then (bif Nat.beq pc 0 then some (.aload_n 0, 1) else none) else (bif Nat.beq pc 1 then some (.iload_n 1, 1) else none)) else (bif Nat.blt pc 3 then (bif Nat.beq pc 2 then some (.iconst 4, 1) else none) else (bif Nat.beq pc 3 then some (.imul, 1) else none))) else (bif Nat.blt pc 6 then (bif Nat.blt pc 5 then (bif Nat.beq pc 4 then some (.iconst 2, 1) else none) else (bif Nat.beq pc 5 then some (.iadd, 1) else none)) else (bif Nat.blt pc 9 then (bif Nat.beq pc 6 then some (.invokevirtual 27, 3) else none) else (bif Nat.beq pc 9 then some (.ireturn, 1) else none))))
def M_X0_endOf : MR := (S_X0_endOf, P_TownFolk_DutyCheck, gd 10 C_X0_endOf)
set_option maxRecDepth 100000 in
theorem Mok_X0_endOf : MOK M_X0_endOf := ⟨gd_ok (by decide +kernel), Pok_TownFolk_DutyCheck, by decide +kernel⟩
def C_X0_faultOf (pc : Nat) : Option (Instr × Nat) := (bif Nat.blt pc 36 then (bif Nat.blt pc 19 then (bif Nat.blt pc 9 then (bif Nat.blt pc 2 then (bif Nat.blt pc 1 then (bif Nat.beq pc 0 then some (.aload_n 2, 1) else none) else (bif Nat.beq pc 1 then some (.aload_n 0, 1) else none)) else (bif Nat.blt pc 3 then (bif Nat.beq pc 2 then some (.iload_n 1, 1) else none) else (bif Nat.blt pc 6 then (bif Nat.beq pc 3 then some (.invokestatic 31, 3) else none) else (bif Nat.beq pc 6 then some (.invokevirtual 35, 3) else none)))) else (bif Nat.blt pc 14 then (bif Nat.blt pc 12 then (bif Nat.beq pc 9 then some (.ifCond .ne 5, 3) else none) else (bif Nat.blt pc 13 then (bif Nat.beq pc 12 then some (.iconst 2, 1) else none) else (bif Nat.beq pc 13 then some (.ireturn, 1) else none))) else (bif Nat.blt pc 15 then (bif Nat.beq pc 14 then some (.aload_n 0, 1) else none) else (bif Nat.blt pc 16 then (bif Nat.beq pc 15 then some (.iload_n 1, 1) else none) else (bif Nat.beq pc 16 then some (.invokestatic 41, 3) else none))))) else (bif Nat.blt pc 30 then (bif Nat.blt pc 21 then (bif Nat.blt pc 20 then (bif Nat.beq pc 19 then some (.aload_n 0, 1) else none) else (bif Nat.beq pc 20 then some (.iload_n 1, 1) else none)) else (bif Nat.blt pc 24 then (bif Nat.beq pc 21 then some (.invokestatic 44, 3) else none) else (bif Nat.blt pc 27 then (bif Nat.beq pc 24 then some (.invokestatic 47, 3) else none) else (bif Nat.beq pc 27 then some (.ifCond .ne 5, 3) else none)))) else (bif Nat.blt pc 33 then (bif Nat.blt pc 31 then (bif Nat.beq pc 30 then some (.iconst 3, 1) else none) else (bif Nat.blt pc 32 then (bif Nat.beq pc 31 then some (.ireturn, 1) else none) else (bif Nat.beq pc 32 then some (.aload_n 0, 1) else none))) else (bif Nat.blt pc 34 then (bif Nat.beq pc 33 then some (.iload_n 1, 1) else none) else (bif Nat.blt pc 35 then (bif Nat.beq pc 34 then some (.iconst 4, 1) else none) else (bif Nat.beq pc 35 then some (.imul, 1) else none)))))) else (bif Nat.blt pc 57 then (bif Nat.blt pc 47 then (bif Nat.blt pc 38 then (bif Nat.blt pc 37 then (bif Nat.beq pc 36 then some (.iconst 3, 1) else none) else (bif Nat.beq pc 37 then some (.iadd, 1) else none)) else (bif Nat.blt pc 41 then (bif Nat.beq pc 38 then some (.invokevirtual 27, 3) else none) else (bif Nat.blt pc 44 then (bif Nat.beq pc 41 then some (.invokestatic 51, 3) else none) else (bif Nat.beq pc 44 then some (.ifCond .ne 5, 3) else none)))) else (bif Nat.blt pc 50 then (bif Nat.blt pc 48 then (bif Nat.beq pc 47 then some (.iconst 4, 1) else none) else (bif Nat.blt pc 49 then (bif Nat.beq pc 48 then some (.ireturn, 1) else none) else (bif Nat.beq pc 49 then some (.aload_n 0, 1) else none))) else (bif Nat.blt pc 51 then (bif Nat.beq pc 50 then some (.iload_n 1, 1) else none) else (bif Nat.blt pc 54 then (bif Nat.beq pc 51 then some (.invokestatic 54, 3) else none) else (bif Nat.beq pc 54 then some (.ifCond .eq 5, 3) else none))))) else (bif Nat.blt pc 62 then (bif Nat.blt pc 59 then (bif Nat.blt pc 58 then (bif Nat.beq pc 57 then some (.iconst 5, 1) else none) else (bif Nat.beq pc 58 then some (.ireturn, 1) else none)) else (bif Nat.blt pc 60 then (bif Nat.beq pc 59 then some (.aload_n 0, 1) else none) else (bif Nat.blt pc 61 then (bif Nat.beq pc 60 then some (.iload_n 1, 1) else none) else (bif Nat.beq pc 61 then some (.aload_n 2, 1) else none)))) else (bif Nat.blt pc 69 then (bif Nat.blt pc 65 then (bif Nat.beq pc 62 then some (.invokestatic 58, 3) else none) else (bif Nat.blt pc 68 then (bif Nat.beq pc 65 then some (.ifCond .eq 7, 3) else none) else (bif Nat.beq pc 68 then some (.iconst 0, 1) else none))) else (bif Nat.blt pc 72 then (bif Nat.beq pc 69 then some (.goto 5, 3) else none) else (bif Nat.blt pc 74 then (bif Nat.beq pc 72 then some (.bipush 6, 2) else none) else (bif Nat.beq pc 74 then some (.ireturn, 1) else none)))))))
def M_X0_faultOf : MR := (S_X0_faultOf, P_TownFolk_DutyCheck, gd 75 C_X0_faultOf)
set_option maxRecDepth 100000 in
theorem Mok_X0_faultOf : MOK M_X0_faultOf := ⟨gd_ok (by decide +kernel), Pok_TownFolk_DutyCheck, by decide +kernel⟩
def C_X0_meetsEarlier (pc : Nat) : Option (Instr × Nat) := (bif Nat.blt pc 20 then (bif Nat.blt pc 8 then (bif Nat.blt pc 3 then (bif Nat.blt pc 1 then (bif Nat.beq pc 0 then some (.iconst 0, 1) else none) else (bif Nat.blt pc 2 then (bif Nat.beq pc 1 then some (.istore_n 2, 1) else none) else (bif Nat.beq pc 2 then some (.iload_n 2, 1) else none))) else (bif Nat.blt pc 4 then (bif Nat.beq pc 3 then some (.iload_n 1, 1) else none) else (bif Nat.blt pc 7 then (bif Nat.beq pc 4 then some (.if_icmp .ge 37, 3) else none) else (bif Nat.beq pc 7 then some (.aload_n 0, 1) else none)))) else (bif Nat.blt pc 13 then (bif Nat.blt pc 9 then (bif Nat.beq pc 8 then some (.iload_n 2, 1) else none) else (bif Nat.blt pc 12 then (bif Nat.beq pc 9 then some (.invokestatic 41, 3) else none) else (bif Nat.beq pc 12 then some (.aload_n 0, 1) else none))) else (bif Nat.blt pc 14 then (bif Nat.beq pc 13 then some (.iload_n 1, 1) else none) else (bif Nat.blt pc 17 then (bif Nat.beq pc 14 then some (.invokestatic 44, 3) else none) else (bif Nat.beq pc 17 then some (.if_icmp .ge 18, 3) else none))))) else (bif Nat.blt pc 30 then (bif Nat.blt pc 25 then (bif Nat.blt pc 21 then (bif Nat.beq pc 20 then some (.aload_n 0, 1) else none) else (bif Nat.blt pc 22 then (bif Nat.beq pc 21 then some (.iload_n 1, 1) else none) else (bif Nat.beq pc 22 then some (.invokestatic 41, 3) else none))) else (bif Nat.blt pc 26 then (bif Nat.beq pc 25 then some (.aload_n 0, 1) else none) else (bif Nat.blt pc 27 then (bif Nat.beq pc 26 then some (.iload_n 2, 1) else none) else (bif Nat.beq pc 27 then some (.invokestatic 44, 3) else none)))) else (bif Nat.blt pc 35 then (bif Nat.blt pc 33 then (bif Nat.beq pc 30 then some (.if_icmp .ge 5, 3) else none) else (bif Nat.blt pc 34 then (bif Nat.beq pc 33 then some (.iconst 1, 1) else none) else (bif Nat.beq pc 34 then some (.ireturn, 1) else none))) else (bif Nat.blt pc 41 then (bif Nat.blt pc 38 then (bif Nat.beq pc 35 then some (.iinc 2 1, 3) else none) else (bif Nat.beq pc 38 then some (.goto (-36), 3) else none)) else (bif Nat.blt pc 42 then (bif Nat.beq pc 41 then some (.iconst 0, 1) else none) else (bif Nat.beq pc 42 then some (.ireturn, 1) else none))))))
def M_X0_meetsEarlier : MR := (S_X0_meetsEarlier, P_TownFolk_DutyCheck, gd 43 C_X0_meetsEarlier)
set_option maxRecDepth 100000 in
theorem Mok_X0_meetsEarlier : MOK M_X0_meetsEarlier := ⟨gd_ok (by decide +kernel), Pok_TownFolk_DutyCheck, by decide +kernel⟩
def C_X0_isReachable (pc : Nat) : Option (Instr × Nat) := (bif Nat.blt pc 64 then (bif Nat.blt pc 29 then (bif Nat.blt pc 11 then (bif Nat.blt pc 5 then (bif Nat.blt pc 2 then (bif Nat.blt pc 1 then (bif Nat.beq pc 0 then some (.iconst (-1), 1) else none) else (bif Nat.beq pc 1 then some (.istore_n 3, 1) else none)) else (bif Nat.blt pc 3 then (bif Nat.beq pc 2 then some (.iconst (-1), 1) else none) else (bif Nat.beq pc 3 then some (.istore 4, 2) else none))) else (bif Nat.blt pc 8 then (bif Nat.blt pc 6 then (bif Nat.beq pc 5 then some (.iconst 0, 1) else none) else (bif Nat.beq pc 6 then some (.istore 5, 2) else none)) else (bif Nat.blt pc 10 then (bif Nat.beq pc 8 then some (.iload 5, 2) else none) else (bif Nat.beq pc 10 then some (.iload_n 1, 1) else none)))) else (bif Nat.blt pc 20 then (bif Nat.blt pc 15 then (bif Nat.blt pc 14 then (bif Nat.beq pc 11 then some (.if_icmp .ge 84, 3) else none) else (bif Nat.beq pc 14 then some (.aload_n 0, 1) else none)) else (bif Nat.blt pc 17 then (bif Nat.beq pc 15 then some (.iload 5, 2) else none) else (bif Nat.beq pc 17 then some (.invokestatic 44, 3) else none))) else (bif Nat.blt pc 22 then (bif Nat.blt pc 21 then (bif Nat.beq pc 20 then some (.aload_n 0, 1) else none) else (bif Nat.beq pc 21 then some (.iload_n 1, 1) else none)) else (bif Nat.blt pc 25 then (bif Nat.beq pc 22 then some (.invokestatic 41, 3) else none) else (bif Nat.blt pc 28 then (bif Nat.beq pc 25 then some (.if_icmp .gt 25, 3) else none) else (bif Nat.beq pc 28 then some (.iload_n 3, 1) else none)))))) else (bif Nat.blt pc 47 then (bif Nat.blt pc 36 then (bif Nat.blt pc 33 then (bif Nat.blt pc 30 then (bif Nat.beq pc 29 then some (.iconst (-1), 1) else none) else (bif Nat.beq pc 30 then some (.if_icmp .eq 17, 3) else none)) else (bif Nat.blt pc 34 then (bif Nat.beq pc 33 then some (.aload_n 0, 1) else none) else (bif Nat.beq pc 34 then some (.iload 5, 2) else none))) else (bif Nat.blt pc 40 then (bif Nat.blt pc 39 then (bif Nat.beq pc 36 then some (.invokestatic 44, 3) else none) else (bif Nat.beq pc 39 then some (.aload_n 0, 1) else none)) else (bif Nat.blt pc 41 then (bif Nat.beq pc 40 then some (.iload_n 3, 1) else none) else (bif Nat.blt pc 44 then (bif Nat.beq pc 41 then some (.invokestatic 44, 3) else none) else (bif Nat.beq pc 44 then some (.if_icmp .le 6, 3) else none))))) else (bif Nat.blt pc 53 then (bif Nat.blt pc 50 then (bif Nat.blt pc 49 then (bif Nat.beq pc 47 then some (.iload 5, 2) else none) else (bif Nat.beq pc 49 then some (.istore_n 3, 1) else none)) else (bif Nat.blt pc 51 then (bif Nat.beq pc 50 then some (.aload_n 0, 1) else none) else (bif Nat.beq pc 51 then some (.iload 5, 2) else none))) else (bif Nat.blt pc 57 then (bif Nat.blt pc 56 then (bif Nat.beq pc 53 then some (.invokestatic 41, 3) else none) else (bif Nat.beq pc 56 then some (.aload_n 0, 1) else none)) else (bif Nat.blt pc 58 then (bif Nat.beq pc 57 then some (.iload_n 1, 1) else none) else (bif Nat.blt pc 61 then (bif Nat.beq pc 58 then some (.invokestatic 44, 3) else none) else (bif Nat.beq pc 61 then some (.if_icmp .lt 28, 3) else none))))))) else (bif Nat.blt pc 101 then (bif Nat.blt pc 82 then (bif Nat.blt pc 71 then (bif Nat.blt pc 67 then (bif Nat.blt pc 66 then (bif Nat.beq pc 64 then some (.iload 4, 2) else none) else (bif Nat.beq pc 66 then some (.iconst (-1), 1) else none)) else (bif Nat.blt pc 70 then (bif Nat.beq pc 67 then some (.if_icmp .eq 18, 3) else none) else (bif Nat.beq pc 70 then some (.aload_n 0, 1) else none))) else (bif Nat.blt pc 76 then (bif Nat.blt pc 73 then (bif Nat.beq pc 71 then some (.iload 5, 2) else none) else (bif Nat.beq pc 73 then some (.invokestatic 41, 3) else none)) else (bif Nat.blt pc 77 then (bif Nat.beq pc 76 then some (.aload_n 0, 1) else none) else (bif Nat.blt pc 79 then (bif Nat.beq pc 77 then some (.iload 4, 2) else none) else (bif Nat.beq pc 79 then some (.invokestatic 41, 3) else none))))) else (bif Nat.blt pc 92 then (bif Nat.blt pc 87 then (bif Nat.blt pc 85 then (bif Nat.beq pc 82 then some (.if_icmp .ge 7, 3) else none) else (bif Nat.beq pc 85 then some (.iload 5, 2) else none)) else (bif Nat.blt pc 89 then (bif Nat.beq pc 87 then some (.istore 4, 2) else none) else (bif Nat.beq pc 89 then some (.iinc 5 1, 3) else none))) else (bif Nat.blt pc 96 then (bif Nat.blt pc 95 then (bif Nat.beq pc 92 then some (.goto (-84), 3) else none) else (bif Nat.beq pc 95 then some (.iload_n 3, 1) else none)) else (bif Nat.blt pc 97 then (bif Nat.beq pc 96 then some (.iconst (-1), 1) else none) else (bif Nat.blt pc 100 then (bif Nat.beq pc 97 then some (.if_icmp .eq 13, 3) else none) else (bif Nat.beq pc 100 then some (.aload_n 0, 1) else none)))))) else (bif Nat.blt pc 117 then (bif Nat.blt pc 107 then (bif Nat.blt pc 103 then (bif Nat.blt pc 102 then (bif Nat.beq pc 101 then some (.iload_n 3, 1) else none) else (bif Nat.beq pc 102 then some (.iload_n 1, 1) else none)) else (bif Nat.blt pc 104 then (bif Nat.beq pc 103 then some (.aload_n 2, 1) else none) else (bif Nat.beq pc 104 then some (.invokestatic 62, 3) else none))) else (bif Nat.blt pc 112 then (bif Nat.blt pc 110 then (bif Nat.beq pc 107 then some (.ifCond .eq 24, 3) else none) else (bif Nat.beq pc 110 then some (.iload 4, 2) else none)) else (bif Nat.blt pc 113 then (bif Nat.beq pc 112 then some (.iconst (-1), 1) else none) else (bif Nat.blt pc 116 then (bif Nat.beq pc 113 then some (.if_icmp .eq 14, 3) else none) else (bif Nat.beq pc 116 then some (.aload_n 0, 1) else none))))) else (bif Nat.blt pc 124 then (bif Nat.blt pc 120 then (bif Nat.blt pc 118 then (bif Nat.beq pc 117 then some (.iload_n 1, 1) else none) else (bif Nat.beq pc 118 then some (.iload 4, 2) else none)) else (bif Nat.blt pc 121 then (bif Nat.beq pc 120 then some (.aload_n 2, 1) else none) else (bif Nat.beq pc 121 then some (.invokestatic 62, 3) else none))) else (bif Nat.blt pc 128 then (bif Nat.blt pc 127 then (bif Nat.beq pc 124 then some (.ifCond .eq 7, 3) else none) else (bif Nat.beq pc 127 then some (.iconst 1, 1) else none)) else (bif Nat.blt pc 131 then (bif Nat.beq pc 128 then some (.goto 4, 3) else none) else (bif Nat.blt pc 132 then (bif Nat.beq pc 131 then some (.iconst 0, 1) else none) else (bif Nat.beq pc 132 then some (.ireturn, 1) else none))))))))
def M_X0_isReachable : MR := (S_X0_isReachable, P_TownFolk_DutyCheck, gd 133 C_X0_isReachable)
set_option maxRecDepth 100000 in
theorem Mok_X0_isReachable : MOK M_X0_isReachable := ⟨gd_ok (by decide +kernel), Pok_TownFolk_DutyCheck, by decide +kernel⟩
def C_X0_isInTime (pc : Nat) : Option (Instr × Nat) := (bif Nat.blt pc 12 then (bif Nat.blt pc 6 then (bif Nat.blt pc 2 then (bif Nat.blt pc 1 then (bif Nat.beq pc 0 then some (.aload_n 3, 1) else none) else (bif Nat.beq pc 1 then some (.aload_n 0, 1) else none)) else (bif Nat.blt pc 3 then (bif Nat.beq pc 2 then some (.iload_n 1, 1) else none) else (bif Nat.beq pc 3 then some (.invokestatic 31, 3) else none))) else (bif Nat.blt pc 8 then (bif Nat.blt pc 7 then (bif Nat.beq pc 6 then some (.aload_n 0, 1) else none) else (bif Nat.beq pc 7 then some (.iload_n 2, 1) else none)) else (bif Nat.blt pc 11 then (bif Nat.beq pc 8 then some (.invokestatic 31, 3) else none) else (bif Nat.beq pc 11 then some (.aload_n 0, 1) else none)))) else (bif Nat.blt pc 18 then (bif Nat.blt pc 16 then (bif Nat.blt pc 13 then (bif Nat.beq pc 12 then some (.iload_n 2, 1) else none) else (bif Nat.beq pc 13 then some (.invokestatic 41, 3) else none)) else (bif Nat.blt pc 17 then (bif Nat.beq pc 16 then some (.aload_n 0, 1) else none) else (bif Nat.beq pc 17 then some (.iload_n 1, 1) else none))) else (bif Nat.blt pc 22 then (bif Nat.blt pc 21 then (bif Nat.beq pc 18 then some (.invokestatic 44, 3) else none) else (bif Nat.beq pc 21 then some (.isub, 1) else none)) else (bif Nat.blt pc 25 then (bif Nat.beq pc 22 then some (.invokevirtual 66, 3) else none) else (bif Nat.beq pc 25 then some (.ireturn, 1) else none)))))
def M_X0_isInTime : MR := (S_X0_isInTime, P_TownFolk_DutyCheck, gd 26 C_X0_isInTime)
set_option maxRecDepth 100000 in
theorem Mok_X0_isInTime : MOK M_X0_isInTime := ⟨gd_ok (by decide +kernel), Pok_TownFolk_DutyCheck, by decide +kernel⟩
def C_X1_init (pc : Nat) : Option (Instr × Nat) := (bif Nat.blt pc 1 then (bif Nat.beq pc 0 then some (.aload_n 0, 1) else none) else (bif Nat.blt pc 4 then (bif Nat.beq pc 1 then some (.invokespecial 1, 3) else none) else (bif Nat.beq pc 4 then some (.return_, 1) else none)))
def M_X1_init : MR := (S_X1_init, P_TownFolk_Gathering, gd 5 C_X1_init)
set_option maxRecDepth 100000 in
theorem Mok_X1_init : MOK M_X1_init := ⟨gd_ok (by decide +kernel), Pok_TownFolk_Gathering, by decide +kernel⟩
def C_X1_arrange (pc : Nat) : Option (Instr × Nat) := (bif Nat.blt pc 12 then (bif Nat.blt pc 6 then (bif Nat.blt pc 2 then (bif Nat.blt pc 1 then (bif Nat.beq pc 0 then some (.aload_n 0, 1) else none) else (bif Nat.beq pc 1 then some (.iload_n 1, 1) else none)) else (bif Nat.blt pc 5 then (bif Nat.beq pc 2 then some (.putfield 7, 3) else none) else (bif Nat.beq pc 5 then some (.aload_n 0, 1) else none))) else (bif Nat.blt pc 10 then (bif Nat.blt pc 7 then (bif Nat.beq pc 6 then some (.iload_n 2, 1) else none) else (bif Nat.beq pc 7 then some (.putfield 13, 3) else none)) else (bif Nat.blt pc 11 then (bif Nat.beq pc 10 then some (.aload_n 0, 1) else none) else (bif Nat.beq pc 11 then some (.iload_n 3, 1) else none)))) else (bif Nat.blt pc 21 then (bif Nat.blt pc 16 then (bif Nat.blt pc 15 then (bif Nat.beq pc 12 then some (.putfield 16, 3) else none) else (bif Nat.beq pc 15 then some (.aload_n 0, 1) else none)) else (bif Nat.blt pc 18 then (bif Nat.beq pc 16 then some (.iload 4, 2) else none) else (bif Nat.beq pc 18 then some (.putfield 19, 3) else none))) else (bif Nat.blt pc 24 then (bif Nat.blt pc 22 then (bif Nat.beq pc 21 then some (.aload_n 0, 1) else none) else (bif Nat.beq pc 22 then some (.iload 5, 2) else none)) else (bif Nat.blt pc 27 then (bif Nat.beq pc 24 then some (.putfield 22, 3) else none) else (bif Nat.beq pc 27 then some (.return_, 1) else none)))))
def M_X1_arrange : MR := (S_X1_arrange, P_TownFolk_Gathering, gd 28 C_X1_arrange)
set_option maxRecDepth 100000 in
theorem Mok_X1_arrange : MOK M_X1_arrange := ⟨gd_ok (by decide +kernel), Pok_TownFolk_Gathering, by decide +kernel⟩
def C_X1_isOf (pc : Nat) : Option (Instr × Nat) := (bif Nat.blt pc 7 then (bif Nat.blt pc 4 then (bif Nat.blt pc 1 then (bif Nat.beq pc 0 then some (.aload_n 0, 1) else none) else (bif Nat.beq pc 1 then some (.getfield 7, 3) else none)) else (bif Nat.blt pc 5 then (bif Nat.beq pc 4 then some (.iload_n 1, 1) else none) else (bif Nat.blt pc 6 then (bif Nat.beq pc 5 then some (.iushr, 1) else none) else (bif Nat.beq pc 6 then some (.iconst 1, 1) else none)))) else (bif Nat.blt pc 12 then (bif Nat.blt pc 8 then (bif Nat.beq pc 7 then some (.iand, 1) else none) else (bif Nat.blt pc 11 then (bif Nat.beq pc 8 then some (.ifCond .eq 7, 3) else none) else (bif Nat.beq pc 11 then some (.iconst 1, 1) else none))) else (bif Nat.blt pc 15 then (bif Nat.beq pc 12 then some (.goto 4, 3) else none) else (bif Nat.blt pc 16 then (bif Nat.beq pc 15 then some (.iconst 0, 1) else none) else (bif Nat.beq pc 16 then some (.ireturn, 1) else none)))))
def M_X1_isOf : MR := (S_X1_isOf, P_TownFolk_Gathering, gd 17 C_X1_isOf)
set_option maxRecDepth 100000 in
theorem Mok_X1_isOf : MOK M_X1_isOf := ⟨gd_ok (by decide +kernel), Pok_TownFolk_Gathering, by decide +kernel⟩
def C_X1_beginDay (pc : Nat) : Option (Instr × Nat) := (bif Nat.blt pc 5 then (bif Nat.blt pc 1 then (bif Nat.beq pc 0 then some (.aload_n 0, 1) else none) else (bif Nat.blt pc 2 then (bif Nat.beq pc 1 then some (.iconst 0, 1) else none) else (bif Nat.beq pc 2 then some (.putfield 25, 3) else none))) else (bif Nat.blt pc 7 then (bif Nat.blt pc 6 then (bif Nat.beq pc 5 then some (.aload_n 0, 1) else none) else (bif Nat.beq pc 6 then some (.iconst 0, 1) else none)) else (bif Nat.blt pc 10 then (bif Nat.beq pc 7 then some (.putfield 28, 3) else none) else (bif Nat.beq pc 10 then some (.return_, 1) else none))))
def M_X1_beginDay : MR := (S_X1_beginDay, P_TownFolk_Gathering, gd 11 C_X1_beginDay)
set_option maxRecDepth 100000 in
theorem Mok_X1_beginDay : MOK M_X1_beginDay := ⟨gd_ok (by decide +kernel), Pok_TownFolk_Gathering, by decide +kernel⟩
def C_X1_live (pc : Nat) : Option (Instr × Nat) := (bif Nat.blt pc 54 then (bif Nat.blt pc 25 then (bif Nat.blt pc 13 then (bif Nat.blt pc 5 then (bif Nat.blt pc 1 then (bif Nat.beq pc 0 then some (.iload_n 2, 1) else none) else (bif Nat.blt pc 2 then (bif Nat.beq pc 1 then some (.aload_n 0, 1) else none) else (bif Nat.beq pc 2 then some (.getfield 16, 3) else none))) else (bif Nat.blt pc 9 then (bif Nat.blt pc 8 then (bif Nat.beq pc 5 then some (.if_icmp .lt 11, 3) else none) else (bif Nat.beq pc 8 then some (.iload_n 2, 1) else none)) else (bif Nat.blt pc 10 then (bif Nat.beq pc 9 then some (.aload_n 0, 1) else none) else (bif Nat.beq pc 10 then some (.getfield 19, 3) else none)))) else (bif Nat.blt pc 19 then (bif Nat.blt pc 17 then (bif Nat.blt pc 16 then (bif Nat.beq pc 13 then some (.if_icmp .lt 4, 3) else none) else (bif Nat.beq pc 16 then some (.return_, 1) else none)) else (bif Nat.blt pc 18 then (bif Nat.beq pc 17 then some (.iconst 0, 1) else none) else (bif Nat.beq pc 18 then some (.istore_n 3, 1) else none))) else (bif Nat.blt pc 22 then (bif Nat.blt pc 20 then (bif Nat.beq pc 19 then some (.iconst 0, 1) else none) else (bif Nat.beq pc 20 then some (.istore 4, 2) else none)) else (bif Nat.blt pc 24 then (bif Nat.beq pc 22 then some (.iload 4, 2) else none) else (bif Nat.beq pc 24 then some (.aload_n 1, 1) else none))))) else (bif Nat.blt pc 39 then (bif Nat.blt pc 30 then (bif Nat.blt pc 26 then (bif Nat.beq pc 25 then some (.arraylength, 1) else none) else (bif Nat.blt pc 29 then (bif Nat.beq pc 26 then some (.if_icmp .ge 41, 3) else none) else (bif Nat.beq pc 29 then some (.aload_n 0, 1) else none))) else (bif Nat.blt pc 35 then (bif Nat.blt pc 32 then (bif Nat.beq pc 30 then some (.iload 4, 2) else none) else (bif Nat.beq pc 32 then some (.invokevirtual 31, 3) else none)) else (bif Nat.blt pc 38 then (bif Nat.beq pc 35 then some (.ifCond .eq 26, 3) else none) else (bif Nat.beq pc 38 then some (.aload_n 1, 1) else none)))) else (bif Nat.blt pc 46 then (bif Nat.blt pc 42 then (bif Nat.blt pc 41 then (bif Nat.beq pc 39 then some (.iload 4, 2) else none) else (bif Nat.beq pc 41 then some (.aaload, 1) else none)) else (bif Nat.blt pc 45 then (bif Nat.beq pc 42 then some (.getfield 35, 3) else none) else (bif Nat.beq pc 45 then some (.iload_n 2, 1) else none))) else (bif Nat.blt pc 48 then (bif Nat.blt pc 47 then (bif Nat.beq pc 46 then some (.iaload, 1) else none) else (bif Nat.beq pc 47 then some (.aload_n 0, 1) else none)) else (bif Nat.blt pc 51 then (bif Nat.beq pc 48 then some (.getfield 13, 3) else none) else (bif Nat.beq pc 51 then some (.if_icmp .ne 10, 3) else none)))))) else (bif Nat.blt pc 78 then (bif Nat.blt pc 64 then (bif Nat.blt pc 58 then (bif Nat.blt pc 55 then (bif Nat.beq pc 54 then some (.iload_n 3, 1) else none) else (bif Nat.blt pc 56 then (bif Nat.beq pc 55 then some (.iconst 1, 1) else none) else (bif Nat.beq pc 56 then some (.iload 4, 2) else none))) else (bif Nat.blt pc 60 then (bif Nat.blt pc 59 then (bif Nat.beq pc 58 then some (.ishl, 1) else none) else (bif Nat.beq pc 59 then some (.ior, 1) else none)) else (bif Nat.blt pc 61 then (bif Nat.beq pc 60 then some (.istore_n 3, 1) else none) else (bif Nat.beq pc 61 then some (.iinc 4 1, 3) else none)))) else (bif Nat.blt pc 72 then (bif Nat.blt pc 68 then (bif Nat.blt pc 67 then (bif Nat.beq pc 64 then some (.goto (-42), 3) else none) else (bif Nat.beq pc 67 then some (.aload_n 0, 1) else none)) else (bif Nat.blt pc 69 then (bif Nat.beq pc 68 then some (.dup, 1) else none) else (bif Nat.beq pc 69 then some (.getfield 28, 3) else none))) else (bif Nat.blt pc 74 then (bif Nat.blt pc 73 then (bif Nat.beq pc 72 then some (.iload_n 3, 1) else none) else (bif Nat.beq pc 73 then some (.ior, 1) else none)) else (bif Nat.blt pc 77 then (bif Nat.beq pc 74 then some (.putfield 28, 3) else none) else (bif Nat.beq pc 77 then some (.iload_n 3, 1) else none))))) else (bif Nat.blt pc 92 then (bif Nat.blt pc 86 then (bif Nat.blt pc 82 then (bif Nat.blt pc 79 then (bif Nat.beq pc 78 then some (.aload_n 0, 1) else none) else (bif Nat.beq pc 79 then some (.getfield 7, 3) else none)) else (bif Nat.blt pc 85 then (bif Nat.beq pc 82 then some (.if_icmp .ne 23, 3) else none) else (bif Nat.beq pc 85 then some (.aload_n 0, 1) else none))) else (bif Nat.blt pc 90 then (bif Nat.blt pc 87 then (bif Nat.beq pc 86 then some (.dup, 1) else none) else (bif Nat.beq pc 87 then some (.getfield 25, 3) else none)) else (bif Nat.blt pc 91 then (bif Nat.beq pc 90 then some (.iconst 1, 1) else none) else (bif Nat.beq pc 91 then some (.iadd, 1) else none)))) else (bif Nat.blt pc 100 then (bif Nat.blt pc 96 then (bif Nat.blt pc 95 then (bif Nat.beq pc 92 then some (.putfield 25, 3) else none) else (bif Nat.beq pc 95 then some (.aload_n 0, 1) else none)) else (bif Nat.blt pc 97 then (bif Nat.beq pc 96 then some (.dup, 1) else none) else (bif Nat.beq pc 97 then some (.getfield 41, 3) else none))) else (bif Nat.blt pc 102 then (bif Nat.blt pc 101 then (bif Nat.beq pc 100 then some (.iconst 1, 1) else none) else (bif Nat.beq pc 101 then some (.iadd, 1) else none)) else (bif Nat.blt pc 105 then (bif Nat.beq pc 102 then some (.putfield 41, 3) else none) else (bif Nat.beq pc 105 then some (.return_, 1) else none)))))))
def M_X1_live : MR := (S_X1_live, P_TownFolk_Gathering, gd 106 C_X1_live)
set_option maxRecDepth 100000 in
theorem Mok_X1_live : MOK M_X1_live := ⟨gd_ok (by decide +kernel), Pok_TownFolk_Gathering, by decide +kernel⟩
def C_X2_init (pc : Nat) : Option (Instr × Nat) := (bif Nat.blt pc 22 then (bif Nat.blt pc 9 then (bif Nat.blt pc 4 then (bif Nat.blt pc 1 then (bif Nat.beq pc 0 then some (.aload_n 0, 1) else none) else (bif Nat.beq pc 1 then some (.invokespecial 3, 3) else none)) else (bif Nat.blt pc 5 then (bif Nat.beq pc 4 then some (.aload_n 0, 1) else none) else (bif Nat.blt pc 7 then (bif Nat.beq pc 5 then some (.bipush 48, 2) else none) else (bif Nat.beq pc 7 then some (.newarray .int, 2) else none)))) else (bif Nat.blt pc 16 then (bif Nat.blt pc 12 then (bif Nat.beq pc 9 then some (.putfield 9, 3) else none) else (bif Nat.blt pc 13 then (bif Nat.beq pc 12 then some (.aload_n 0, 1) else none) else (bif Nat.beq pc 13 then some (.sipush 576, 3) else none))) else (bif Nat.blt pc 18 then (bif Nat.beq pc 16 then some (.newarray .int, 2) else none) else (bif Nat.blt pc 21 then (bif Nat.beq pc 18 then some (.putfield 15, 3) else none) else (bif Nat.beq pc 21 then some (.aload_n 0, 1) else none))))) else (bif Nat.blt pc 35 then (bif Nat.blt pc 29 then (bif Nat.blt pc 24 then (bif Nat.beq pc 22 then some (.bipush 49, 2) else none) else (bif Nat.blt pc 26 then (bif Nat.beq pc 24 then some (.newarray .int, 2) else none) else (bif Nat.beq pc 26 then some (.putfield 18, 3) else none))) else (bif Nat.blt pc 30 then (bif Nat.beq pc 29 then some (.aload_n 0, 1) else none) else (bif Nat.blt pc 33 then (bif Nat.beq pc 30 then some (.sipush 588, 3) else none) else (bif Nat.beq pc 33 then some (.newarray .int, 2) else none)))) else (bif Nat.blt pc 42 then (bif Nat.blt pc 38 then (bif Nat.beq pc 35 then some (.putfield 21, 3) else none) else (bif Nat.blt pc 39 then (bif Nat.beq pc 38 then some (.aload_n 0, 1) else none) else (bif Nat.beq pc 39 then some (.sipush 576, 3) else none))) else (bif Nat.blt pc 44 then (bif Nat.beq pc 42 then some (.newarray .int, 2) else none) else (bif Nat.blt pc 47 then (bif Nat.beq pc 44 then some (.putfield 24, 3) else none) else (bif Nat.beq pc 47 then some (.return_, 1) else none))))))
def M_X2_init : MR := (S_X2_init, P_TownFolk_Planner, gd 48 C_X2_init)
set_option maxRecDepth 100000 in
theorem Mok_X2_init : MOK M_X2_init := ⟨gd_ok (by decide +kernel), Pok_TownFolk_Planner, by decide +kernel⟩
def C_X2_weigh (pc : Nat) : Option (Instr × Nat) := (bif Nat.blt pc 43 then (bif Nat.blt pc 21 then (bif Nat.blt pc 12 then (bif Nat.blt pc 5 then (bif Nat.blt pc 1 then (bif Nat.beq pc 0 then some (.aload_n 0, 1) else none) else (bif Nat.blt pc 4 then (bif Nat.beq pc 1 then some (.getfield 9, 3) else none) else (bif Nat.beq pc 4 then some (.iconst 0, 1) else none))) else (bif Nat.blt pc 8 then (bif Nat.beq pc 5 then some (.invokestatic 27, 3) else none) else (bif Nat.blt pc 9 then (bif Nat.beq pc 8 then some (.aload_n 0, 1) else none) else (bif Nat.beq pc 9 then some (.getfield 15, 3) else none)))) else (bif Nat.blt pc 17 then (bif Nat.blt pc 13 then (bif Nat.beq pc 12 then some (.iconst 0, 1) else none) else (bif Nat.blt pc 16 then (bif Nat.beq pc 13 then some (.invokestatic 27, 3) else none) else (bif Nat.beq pc 16 then some (.iconst 0, 1) else none))) else (bif Nat.blt pc 19 then (bif Nat.blt pc 18 then (bif Nat.beq pc 17 then some (.istore_n 2, 1) else none) else (bif Nat.beq pc 18 then some (.iload_n 2, 1) else none)) else (bif Nat.blt pc 20 then (bif Nat.beq pc 19 then some (.iconst 4, 1) else none) else (bif Nat.beq pc 20 then some (.iadd, 1) else none))))) else (bif Nat.blt pc 34 then (bif Nat.blt pc 28 then (bif Nat.blt pc 22 then (bif Nat.beq pc 21 then some (.aload_n 1, 1) else none) else (bif Nat.blt pc 25 then (bif Nat.beq pc 22 then some (.getfield 33, 3) else none) else (bif Nat.beq pc 25 then some (.if_icmp .gt 43, 3) else none))) else (bif Nat.blt pc 30 then (bif Nat.blt pc 29 then (bif Nat.beq pc 28 then some (.aload_n 0, 1) else none) else (bif Nat.beq pc 29 then some (.aload_n 1, 1) else none)) else (bif Nat.blt pc 33 then (bif Nat.beq pc 30 then some (.getfield 39, 3) else none) else (bif Nat.beq pc 33 then some (.iload_n 2, 1) else none)))) else (bif Nat.blt pc 39 then (bif Nat.blt pc 35 then (bif Nat.beq pc 34 then some (.iaload, 1) else none) else (bif Nat.blt pc 36 then (bif Nat.beq pc 35 then some (.aload_n 1, 1) else none) else (bif Nat.beq pc 36 then some (.getfield 39, 3) else none))) else (bif Nat.blt pc 41 then (bif Nat.blt pc 40 then (bif Nat.beq pc 39 then some (.iload_n 2, 1) else none) else (bif Nat.beq pc 40 then some (.iconst 1, 1) else none)) else (bif Nat.blt pc 42 then (bif Nat.beq pc 41 then some (.iadd, 1) else none) else (bif Nat.beq pc 42 then some (.iaload, 1) else none)))))) else (bif Nat.blt pc 65 then (bif Nat.blt pc 52 then (bif Nat.blt pc 48 then (bif Nat.blt pc 44 then (bif Nat.beq pc 43 then some (.aload_n 1, 1) else none) else (bif Nat.blt pc 47 then (bif Nat.beq pc 44 then some (.getfield 39, 3) else none) else (bif Nat.beq pc 47 then some (.iload_n 2, 1) else none))) else (bif Nat.blt pc 50 then (bif Nat.blt pc 49 then (bif Nat.beq pc 48 then some (.iconst 2, 1) else none) else (bif Nat.beq pc 49 then some (.iadd, 1) else none)) else (bif Nat.blt pc 51 then (bif Nat.beq pc 50 then some (.iaload, 1) else none) else (bif Nat.beq pc 51 then some (.aload_n 1, 1) else none)))) else (bif Nat.blt pc 57 then (bif Nat.blt pc 55 then (bif Nat.beq pc 52 then some (.getfield 39, 3) else none) else (bif Nat.blt pc 56 then (bif Nat.beq pc 55 then some (.iload_n 2, 1) else none) else (bif Nat.beq pc 56 then some (.iconst 3, 1) else none))) else (bif Nat.blt pc 59 then (bif Nat.blt pc 58 then (bif Nat.beq pc 57 then some (.iadd, 1) else none) else (bif Nat.beq pc 58 then some (.iaload, 1) else none)) else (bif Nat.blt pc 62 then (bif Nat.beq pc 59 then some (.invokevirtual 42, 3) else none) else (bif Nat.beq pc 62 then some (.iinc 2 4, 3) else none))))) else (bif Nat.blt pc 80 then (bif Nat.blt pc 72 then (bif Nat.blt pc 68 then (bif Nat.beq pc 65 then some (.goto (-47), 3) else none) else (bif Nat.blt pc 69 then (bif Nat.beq pc 68 then some (.aload_n 1, 1) else none) else (bif Nat.beq pc 69 then some (.getfield 46, 3) else none))) else (bif Nat.blt pc 76 then (bif Nat.blt pc 75 then (bif Nat.beq pc 72 then some (.ifCond .eq 22, 3) else none) else (bif Nat.beq pc 75 then some (.aload_n 0, 1) else none)) else (bif Nat.blt pc 77 then (bif Nat.beq pc 76 then some (.aload_n 1, 1) else none) else (bif Nat.beq pc 77 then some (.getfield 50, 3) else none)))) else (bif Nat.blt pc 85 then (bif Nat.blt pc 81 then (bif Nat.beq pc 80 then some (.aload_n 1, 1) else none) else (bif Nat.blt pc 84 then (bif Nat.beq pc 81 then some (.getfield 53, 3) else none) else (bif Nat.beq pc 84 then some (.aload_n 1, 1) else none))) else (bif Nat.blt pc 91 then (bif Nat.blt pc 88 then (bif Nat.beq pc 85 then some (.getfield 56, 3) else none) else (bif Nat.beq pc 88 then some (.sipush 200, 3) else none)) else (bif Nat.blt pc 94 then (bif Nat.beq pc 91 then some (.invokevirtual 42, 3) else none) else (bif Nat.beq pc 94 then some (.return_, 1) else none)))))))
def M_X2_weigh : MR := (S_X2_weigh, P_TownFolk_Planner, gd 95 C_X2_weigh)
set_option maxRecDepth 100000 in
theorem Mok_X2_weigh : MOK M_X2_weigh := ⟨gd_ok (by decide +kernel), Pok_TownFolk_Planner, by decide +kernel⟩
def C_X2_claim (pc : Nat) : Option (Instr × Nat) := (bif Nat.blt pc 22 then (bif Nat.blt pc 13 then (bif Nat.blt pc 5 then (bif Nat.blt pc 1 then (bif Nat.beq pc 0 then some (.iload_n 2, 1) else none) else (bif Nat.blt pc 3 then (bif Nat.beq pc 1 then some (.istore 5, 2) else none) else (bif Nat.beq pc 3 then some (.iload 5, 2) else none))) else (bif Nat.blt pc 9 then (bif Nat.blt pc 6 then (bif Nat.beq pc 5 then some (.iload_n 3, 1) else none) else (bif Nat.beq pc 6 then some (.if_icmp .ge 38, 3) else none)) else (bif Nat.blt pc 10 then (bif Nat.beq pc 9 then some (.aload_n 0, 1) else none) else (bif Nat.beq pc 10 then some (.getfield 9, 3) else none)))) else (bif Nat.blt pc 17 then (bif Nat.blt pc 15 then (bif Nat.beq pc 13 then some (.iload 5, 2) else none) else (bif Nat.blt pc 16 then (bif Nat.beq pc 15 then some (.dup2, 1) else none) else (bif Nat.beq pc 16 then some (.iaload, 1) else none))) else (bif Nat.blt pc 20 then (bif Nat.blt pc 19 then (bif Nat.beq pc 17 then some (.iload 4, 2) else none) else (bif Nat.beq pc 19 then some (.iadd, 1) else none)) else (bif Nat.blt pc 21 then (bif Nat.beq pc 20 then some (.iastore, 1) else none) else (bif Nat.beq pc 21 then some (.aload_n 0, 1) else none))))) else (bif Nat.blt pc 33 then (bif Nat.blt pc 28 then (bif Nat.blt pc 25 then (bif Nat.beq pc 22 then some (.getfield 15, 3) else none) else (bif Nat.blt pc 26 then (bif Nat.beq pc 25 then some (.iload_n 1, 1) else none) else (bif Nat.beq pc 26 then some (.bipush 48, 2) else none))) else (bif Nat.blt pc 31 then (bif Nat.blt pc 29 then (bif Nat.beq pc 28 then some (.imul, 1) else none) else (bif Nat.beq pc 29 then some (.iload 5, 2) else none)) else (bif Nat.blt pc 32 then (bif Nat.beq pc 31 then some (.iadd, 1) else none) else (bif Nat.beq pc 32 then some (.dup2, 1) else none)))) else (bif Nat.blt pc 37 then (bif Nat.blt pc 34 then (bif Nat.beq pc 33 then some (.iaload, 1) else none) else (bif Nat.blt pc 36 then (bif Nat.beq pc 34 then some (.iload 4, 2) else none) else (bif Nat.beq pc 36 then some (.iadd, 1) else none))) else (bif Nat.blt pc 41 then (bif Nat.blt pc 38 then (bif Nat.beq pc 37 then some (.iastore, 1) else none) else (bif Nat.beq pc 38 then some (.iinc 5 1, 3) else none)) else (bif Nat.blt pc 44 then (bif Nat.beq pc 41 then some (.goto (-38), 3) else none) else (bif Nat.beq pc 44 then some (.return_, 1) else none))))))
def M_X2_claim : MR := (S_X2_claim, P_TownFolk_Planner, gd 45 C_X2_claim)
set_option maxRecDepth 100000 in
theorem Mok_X2_claim : MOK M_X2_claim := ⟨gd_ok (by decide +kernel), Pok_TownFolk_Planner, by decide +kernel⟩
def C_X2_search (pc : Nat) : Option (Instr × Nat) := (bif Nat.blt pc 50 then (bif Nat.blt pc 25 then (bif Nat.blt pc 14 then (bif Nat.blt pc 5 then (bif Nat.blt pc 1 then (bif Nat.beq pc 0 then some (.iconst 0, 1) else none) else (bif Nat.blt pc 3 then (bif Nat.beq pc 1 then some (.istore 6, 2) else none) else (bif Nat.beq pc 3 then some (.iload 6, 2) else none))) else (bif Nat.blt pc 10 then (bif Nat.blt pc 7 then (bif Nat.beq pc 5 then some (.bipush 48, 2) else none) else (bif Nat.beq pc 7 then some (.if_icmp .ge 35, 3) else none)) else (bif Nat.blt pc 11 then (bif Nat.beq pc 10 then some (.aload_n 0, 1) else none) else (bif Nat.beq pc 11 then some (.getfield 18, 3) else none)))) else (bif Nat.blt pc 18 then (bif Nat.blt pc 16 then (bif Nat.beq pc 14 then some (.iload 6, 2) else none) else (bif Nat.blt pc 17 then (bif Nat.beq pc 16 then some (.iconst 1, 1) else none) else (bif Nat.beq pc 17 then some (.iadd, 1) else none))) else (bif Nat.blt pc 22 then (bif Nat.blt pc 19 then (bif Nat.beq pc 18 then some (.aload_n 0, 1) else none) else (bif Nat.beq pc 19 then some (.getfield 18, 3) else none)) else (bif Nat.blt pc 24 then (bif Nat.beq pc 22 then some (.iload 6, 2) else none) else (bif Nat.beq pc 24 then some (.iaload, 1) else none))))) else (bif Nat.blt pc 35 then (bif Nat.blt pc 28 then (bif Nat.blt pc 26 then (bif Nat.beq pc 25 then some (.iconst 3, 1) else none) else (bif Nat.blt pc 27 then (bif Nat.beq pc 26 then some (.iadd, 1) else none) else (bif Nat.beq pc 27 then some (.aload_n 0, 1) else none))) else (bif Nat.blt pc 33 then (bif Nat.blt pc 31 then (bif Nat.beq pc 28 then some (.getfield 9, 3) else none) else (bif Nat.beq pc 31 then some (.iload 6, 2) else none)) else (bif Nat.blt pc 34 then (bif Nat.beq pc 33 then some (.iaload, 1) else none) else (bif Nat.beq pc 34 then some (.iadd, 1) else none)))) else (bif Nat.blt pc 42 then (bif Nat.blt pc 36 then (bif Nat.beq pc 35 then some (.iastore, 1) else none) else (bif Nat.blt pc 39 then (bif Nat.beq pc 36 then some (.iinc 6 1, 3) else none) else (bif Nat.beq pc 39 then some (.goto (-36), 3) else none))) else (bif Nat.blt pc 46 then (bif Nat.blt pc 44 then (bif Nat.beq pc 42 then some (.bipush 47, 2) else none) else (bif Nat.beq pc 44 then some (.istore 6, 2) else none)) else (bif Nat.blt pc 48 then (bif Nat.beq pc 46 then some (.iload 6, 2) else none) else (bif Nat.beq pc 48 then some (.iload 5, 2) else none)))))) else (bif Nat.blt pc 76 then (bif Nat.blt pc 65 then (bif Nat.blt pc 56 then (bif Nat.blt pc 53 then (bif Nat.beq pc 50 then some (.if_icmp .lt 57, 3) else none) else (bif Nat.blt pc 54 then (bif Nat.beq pc 53 then some (.iconst 0, 1) else none) else (bif Nat.beq pc 54 then some (.istore 7, 2) else none))) else (bif Nat.blt pc 59 then (bif Nat.blt pc 58 then (bif Nat.beq pc 56 then some (.iload 7, 2) else none) else (bif Nat.beq pc 58 then some (.aload_n 2, 1) else none)) else (bif Nat.blt pc 62 then (bif Nat.beq pc 59 then some (.getfield 59, 3) else none) else (bif Nat.beq pc 62 then some (.if_icmp .ge 39, 3) else none)))) else (bif Nat.blt pc 69 then (bif Nat.blt pc 66 then (bif Nat.beq pc 65 then some (.aload_n 0, 1) else none) else (bif Nat.blt pc 67 then (bif Nat.beq pc 66 then some (.aload_n 1, 1) else none) else (bif Nat.beq pc 67 then some (.iload 7, 2) else none))) else (bif Nat.blt pc 72 then (bif Nat.blt pc 71 then (bif Nat.beq pc 69 then some (.iload 6, 2) else none) else (bif Nat.beq pc 71 then some (.aload_n 1, 1) else none)) else (bif Nat.blt pc 74 then (bif Nat.beq pc 72 then some (.iload 7, 2) else none) else (bif Nat.beq pc 74 then some (.iload 6, 2) else none))))) else (bif Nat.blt pc 88 then (bif Nat.blt pc 80 then (bif Nat.blt pc 77 then (bif Nat.beq pc 76 then some (.aload_n 2, 1) else none) else (bif Nat.blt pc 78 then (bif Nat.beq pc 77 then some (.aload_n 3, 1) else none) else (bif Nat.beq pc 78 then some (.iload 4, 2) else none))) else (bif Nat.blt pc 86 then (bif Nat.blt pc 83 then (bif Nat.beq pc 80 then some (.invokestatic 64, 3) else none) else (bif Nat.beq pc 83 then some (.invokevirtual 68, 3) else none)) else (bif Nat.blt pc 87 then (bif Nat.beq pc 86 then some (.aload_n 0, 1) else none) else (bif Nat.beq pc 87 then some (.aload_n 2, 1) else none)))) else (bif Nat.blt pc 98 then (bif Nat.blt pc 92 then (bif Nat.blt pc 90 then (bif Nat.beq pc 88 then some (.iload 7, 2) else none) else (bif Nat.beq pc 90 then some (.iload 6, 2) else none)) else (bif Nat.blt pc 95 then (bif Nat.beq pc 92 then some (.invokevirtual 72, 3) else none) else (bif Nat.beq pc 95 then some (.iinc 7 1, 3) else none))) else (bif Nat.blt pc 104 then (bif Nat.blt pc 101 then (bif Nat.beq pc 98 then some (.goto (-42), 3) else none) else (bif Nat.beq pc 101 then some (.iinc 6 (-1), 3) else none)) else (bif Nat.blt pc 107 then (bif Nat.beq pc 104 then some (.goto (-58), 3) else none) else (bif Nat.beq pc 107 then some (.return_, 1) else none)))))))
def M_X2_search : MR := (S_X2_search, P_TownFolk_Planner, gd 108 C_X2_search)
set_option maxRecDepth 100000 in
theorem Mok_X2_search : MOK M_X2_search := ⟨gd_ok (by decide +kernel), Pok_TownFolk_Planner, by decide +kernel⟩
def C_X2_mayBeIn (pc : Nat) : Option (Instr × Nat) := (bif Nat.blt pc 23 then (bif Nat.blt pc 11 then (bif Nat.blt pc 3 then (bif Nat.blt pc 1 then (bif Nat.beq pc 0 then some (.aload_n 3, 1) else none) else (bif Nat.blt pc 2 then (bif Nat.beq pc 1 then some (.iload_n 1, 1) else none) else (bif Nat.beq pc 2 then some (.iload_n 2, 1) else none))) else (bif Nat.blt pc 9 then (bif Nat.blt pc 6 then (bif Nat.beq pc 3 then some (.invokevirtual 76, 3) else none) else (bif Nat.beq pc 6 then some (.ifCond .ne 11, 3) else none)) else (bif Nat.blt pc 10 then (bif Nat.beq pc 9 then some (.aload_n 0, 1) else none) else (bif Nat.beq pc 10 then some (.iload_n 1, 1) else none)))) else (bif Nat.blt pc 19 then (bif Nat.blt pc 14 then (bif Nat.beq pc 11 then some (.invokevirtual 80, 3) else none) else (bif Nat.blt pc 17 then (bif Nat.beq pc 14 then some (.ifCond .eq 32, 3) else none) else (bif Nat.beq pc 17 then some (.iload 5, 2) else none))) else (bif Nat.blt pc 21 then (bif Nat.blt pc 20 then (bif Nat.beq pc 19 then some (.iload_n 1, 1) else none) else (bif Nat.beq pc 20 then some (.iushr, 1) else none)) else (bif Nat.blt pc 22 then (bif Nat.beq pc 21 then some (.iconst 1, 1) else none) else (bif Nat.beq pc 22 then some (.iand, 1) else none))))) else (bif Nat.blt pc 37 then (bif Nat.blt pc 29 then (bif Nat.blt pc 26 then (bif Nat.beq pc 23 then some (.ifCond .ne 23, 3) else none) else (bif Nat.blt pc 28 then (bif Nat.beq pc 26 then some (.aload 4, 2) else none) else (bif Nat.beq pc 28 then some (.iload_n 1, 1) else none))) else (bif Nat.blt pc 33 then (bif Nat.blt pc 30 then (bif Nat.beq pc 29 then some (.iload_n 2, 1) else none) else (bif Nat.beq pc 30 then some (.invokevirtual 84, 3) else none)) else (bif Nat.blt pc 34 then (bif Nat.beq pc 33 then some (.aload_n 3, 1) else none) else (bif Nat.beq pc 34 then some (.getfield 90, 3) else none)))) else (bif Nat.blt pc 42 then (bif Nat.blt pc 38 then (bif Nat.beq pc 37 then some (.iload_n 1, 1) else none) else (bif Nat.blt pc 39 then (bif Nat.beq pc 38 then some (.iaload, 1) else none) else (bif Nat.beq pc 39 then some (.if_icmp .ge 7, 3) else none))) else (bif Nat.blt pc 46 then (bif Nat.blt pc 43 then (bif Nat.beq pc 42 then some (.iconst 1, 1) else none) else (bif Nat.beq pc 43 then some (.goto 4, 3) else none)) else (bif Nat.blt pc 47 then (bif Nat.beq pc 46 then some (.iconst 0, 1) else none) else (bif Nat.beq pc 47 then some (.ireturn, 1) else none))))))
def M_X2_mayBeIn : MR := (S_X2_mayBeIn, P_TownFolk_Planner, gd 48 C_X2_mayBeIn)
set_option maxRecDepth 100000 in
theorem Mok_X2_mayBeIn : MOK M_X2_mayBeIn := ⟨gd_ok (by decide +kernel), Pok_TownFolk_Planner, by decide +kernel⟩
def C_X2_stay (pc : Nat) : Option (Instr × Nat) := (bif Nat.blt pc 60 then (bif Nat.blt pc 26 then (bif Nat.blt pc 12 then (bif Nat.blt pc 6 then (bif Nat.blt pc 4 then (bif Nat.blt pc 1 then (bif Nat.beq pc 0 then some (.aload_n 0, 1) else none) else (bif Nat.beq pc 1 then some (.getfield 21, 3) else none)) else (bif Nat.blt pc 5 then (bif Nat.beq pc 4 then some (.iload_n 3, 1) else none) else (bif Nat.beq pc 5 then some (.iconst 1, 1) else none))) else (bif Nat.blt pc 9 then (bif Nat.blt pc 7 then (bif Nat.beq pc 6 then some (.iadd, 1) else none) else (bif Nat.beq pc 7 then some (.bipush 12, 2) else none)) else (bif Nat.blt pc 10 then (bif Nat.beq pc 9 then some (.imul, 1) else none) else (bif Nat.blt pc 11 then (bif Nat.beq pc 10 then some (.iload_n 2, 1) else none) else (bif Nat.beq pc 11 then some (.iadd, 1) else none))))) else (bif Nat.blt pc 18 then (bif Nat.blt pc 14 then (bif Nat.blt pc 13 then (bif Nat.beq pc 12 then some (.iaload, 1) else none) else (bif Nat.beq pc 13 then some (.aload_n 0, 1) else none)) else (bif Nat.blt pc 17 then (bif Nat.beq pc 14 then some (.getfield 9, 3) else none) else (bif Nat.beq pc 17 then some (.iload_n 3, 1) else none))) else (bif Nat.blt pc 20 then (bif Nat.blt pc 19 then (bif Nat.beq pc 18 then some (.iaload, 1) else none) else (bif Nat.beq pc 19 then some (.iadd, 1) else none)) else (bif Nat.blt pc 21 then (bif Nat.beq pc 20 then some (.iload_n 3, 1) else none) else (bif Nat.blt pc 23 then (bif Nat.beq pc 21 then some (.bipush 47, 2) else none) else (bif Nat.beq pc 23 then some (.if_icmp .ne 17, 3) else none)))))) else (bif Nat.blt pc 44 then (bif Nat.blt pc 34 then (bif Nat.blt pc 28 then (bif Nat.blt pc 27 then (bif Nat.beq pc 26 then some (.iload_n 2, 1) else none) else (bif Nat.beq pc 27 then some (.aload_n 1, 1) else none)) else (bif Nat.blt pc 31 then (bif Nat.beq pc 28 then some (.getfield 93, 3) else none) else (bif Nat.beq pc 31 then some (.if_icmp .eq 9, 3) else none))) else (bif Nat.blt pc 40 then (bif Nat.blt pc 37 then (bif Nat.beq pc 34 then some (.sipush 300, 3) else none) else (bif Nat.beq pc 37 then some (.goto 4, 3) else none)) else (bif Nat.blt pc 41 then (bif Nat.beq pc 40 then some (.iconst 0, 1) else none) else (bif Nat.blt pc 42 then (bif Nat.beq pc 41 then some (.iadd, 1) else none) else (bif Nat.beq pc 42 then some (.istore 5, 2) else none))))) else (bif Nat.blt pc 52 then (bif Nat.blt pc 47 then (bif Nat.blt pc 46 then (bif Nat.beq pc 44 then some (.bipush 9, 2) else none) else (bif Nat.beq pc 46 then some (.aload_n 1, 1) else none)) else (bif Nat.blt pc 50 then (bif Nat.beq pc 47 then some (.getfield 96, 3) else none) else (bif Nat.blt pc 51 then (bif Nat.beq pc 50 then some (.iload_n 2, 1) else none) else (bif Nat.beq pc 51 then some (.iaload, 1) else none)))) else (bif Nat.blt pc 54 then (bif Nat.blt pc 53 then (bif Nat.beq pc 52 then some (.isub, 1) else none) else (bif Nat.beq pc 53 then some (.aload_n 0, 1) else none)) else (bif Nat.blt pc 57 then (bif Nat.beq pc 54 then some (.getfield 15, 3) else none) else (bif Nat.blt pc 58 then (bif Nat.beq pc 57 then some (.iload_n 2, 1) else none) else (bif Nat.beq pc 58 then some (.bipush 48, 2) else none))))))) else (bif Nat.blt pc 89 then (bif Nat.blt pc 72 then (bif Nat.blt pc 64 then (bif Nat.blt pc 62 then (bif Nat.blt pc 61 then (bif Nat.beq pc 60 then some (.imul, 1) else none) else (bif Nat.beq pc 61 then some (.iload_n 3, 1) else none)) else (bif Nat.blt pc 63 then (bif Nat.beq pc 62 then some (.iadd, 1) else none) else (bif Nat.beq pc 63 then some (.iaload, 1) else none))) else (bif Nat.blt pc 67 then (bif Nat.blt pc 65 then (bif Nat.beq pc 64 then some (.isub, 1) else none) else (bif Nat.beq pc 65 then some (.istore 6, 2) else none)) else (bif Nat.blt pc 68 then (bif Nat.beq pc 67 then some (.aload_n 0, 1) else none) else (bif Nat.blt pc 71 then (bif Nat.beq pc 68 then some (.getfield 21, 3) else none) else (bif Nat.beq pc 71 then some (.iload_n 3, 1) else none))))) else (bif Nat.blt pc 77 then (bif Nat.blt pc 75 then (bif Nat.blt pc 74 then (bif Nat.beq pc 72 then some (.bipush 12, 2) else none) else (bif Nat.beq pc 74 then some (.imul, 1) else none)) else (bif Nat.blt pc 76 then (bif Nat.beq pc 75 then some (.iload_n 2, 1) else none) else (bif Nat.beq pc 76 then some (.iadd, 1) else none))) else (bif Nat.blt pc 81 then (bif Nat.blt pc 79 then (bif Nat.beq pc 77 then some (.iload 5, 2) else none) else (bif Nat.beq pc 79 then some (.iload 4, 2) else none)) else (bif Nat.blt pc 84 then (bif Nat.beq pc 81 then some (.ifCond .eq 8, 3) else none) else (bif Nat.blt pc 86 then (bif Nat.beq pc 84 then some (.iload 6, 2) else none) else (bif Nat.beq pc 86 then some (.goto 5, 3) else none)))))) else (bif Nat.blt pc 102 then (bif Nat.blt pc 94 then (bif Nat.blt pc 92 then (bif Nat.blt pc 91 then (bif Nat.beq pc 89 then some (.bipush 20, 2) else none) else (bif Nat.beq pc 91 then some (.iadd, 1) else none)) else (bif Nat.blt pc 93 then (bif Nat.beq pc 92 then some (.iastore, 1) else none) else (bif Nat.beq pc 93 then some (.aload_n 0, 1) else none))) else (bif Nat.blt pc 98 then (bif Nat.blt pc 97 then (bif Nat.beq pc 94 then some (.getfield 24, 3) else none) else (bif Nat.beq pc 97 then some (.iload_n 3, 1) else none)) else (bif Nat.blt pc 100 then (bif Nat.beq pc 98 then some (.bipush 12, 2) else none) else (bif Nat.blt pc 101 then (bif Nat.beq pc 100 then some (.imul, 1) else none) else (bif Nat.beq pc 101 then some (.iload_n 2, 1) else none))))) else (bif Nat.blt pc 112 then (bif Nat.blt pc 105 then (bif Nat.blt pc 103 then (bif Nat.beq pc 102 then some (.iadd, 1) else none) else (bif Nat.beq pc 103 then some (.iload 4, 2) else none)) else (bif Nat.blt pc 108 then (bif Nat.beq pc 105 then some (.ifCond .eq 7, 3) else none) else (bif Nat.blt pc 109 then (bif Nat.beq pc 108 then some (.iload_n 2, 1) else none) else (bif Nat.beq pc 109 then some (.goto 7, 3) else none)))) else (bif Nat.blt pc 115 then (bif Nat.blt pc 114 then (bif Nat.beq pc 112 then some (.bipush 100, 2) else none) else (bif Nat.beq pc 114 then some (.iload_n 2, 1) else none)) else (bif Nat.blt pc 116 then (bif Nat.beq pc 115 then some (.iadd, 1) else none) else (bif Nat.blt pc 117 then (bif Nat.beq pc 116 then some (.iastore, 1) else none) else (bif Nat.beq pc 117 then some (.return_, 1) else none))))))))
def M_X2_stay : MR := (S_X2_stay, P_TownFolk_Planner, gd 118 C_X2_stay)
set_option maxRecDepth 100000 in
theorem Mok_X2_stay : MOK M_X2_stay := ⟨gd_ok (by decide +kernel), Pok_TownFolk_Planner, by decide +kernel⟩
def C_X2_goOn (pc : Nat) : Option (Instr × Nat) := (bif Nat.blt pc 53 then (bif Nat.blt pc 29 then (bif Nat.blt pc 13 then (bif Nat.blt pc 5 then (bif Nat.blt pc 1 then (bif Nat.beq pc 0 then some (.iconst 0, 1) else none) else (bif Nat.blt pc 3 then (bif Nat.beq pc 1 then some (.istore 4, 2) else none) else (bif Nat.beq pc 3 then some (.iload 4, 2) else none))) else (bif Nat.blt pc 9 then (bif Nat.blt pc 6 then (bif Nat.beq pc 5 then some (.aload_n 1, 1) else none) else (bif Nat.beq pc 6 then some (.getfield 59, 3) else none)) else (bif Nat.blt pc 12 then (bif Nat.beq pc 9 then some (.if_icmp .ge 90, 3) else none) else (bif Nat.beq pc 12 then some (.aload_n 1, 1) else none)))) else (bif Nat.blt pc 19 then (bif Nat.blt pc 14 then (bif Nat.beq pc 13 then some (.iload_n 2, 1) else none) else (bif Nat.blt pc 16 then (bif Nat.beq pc 14 then some (.iload 4, 2) else none) else (bif Nat.beq pc 16 then some (.invokevirtual 99, 3) else none))) else (bif Nat.blt pc 23 then (bif Nat.blt pc 21 then (bif Nat.beq pc 19 then some (.istore 5, 2) else none) else (bif Nat.beq pc 21 then some (.iload 5, 2) else none)) else (bif Nat.blt pc 26 then (bif Nat.beq pc 23 then some (.ifCond .ne 6, 3) else none) else (bif Nat.beq pc 26 then some (.goto 67, 3) else none))))) else (bif Nat.blt pc 40 then (bif Nat.blt pc 32 then (bif Nat.blt pc 30 then (bif Nat.beq pc 29 then some (.aload_n 0, 1) else none) else (bif Nat.blt pc 31 then (bif Nat.beq pc 30 then some (.iload_n 3, 1) else none) else (bif Nat.beq pc 31 then some (.iload_n 3, 1) else none))) else (bif Nat.blt pc 35 then (bif Nat.blt pc 34 then (bif Nat.beq pc 32 then some (.iload 5, 2) else none) else (bif Nat.beq pc 34 then some (.iadd, 1) else none)) else (bif Nat.blt pc 37 then (bif Nat.beq pc 35 then some (.iload 4, 2) else none) else (bif Nat.beq pc 37 then some (.invokevirtual 102, 3) else none)))) else (bif Nat.blt pc 48 then (bif Nat.blt pc 44 then (bif Nat.blt pc 42 then (bif Nat.beq pc 40 then some (.istore 6, 2) else none) else (bif Nat.beq pc 42 then some (.iload 6, 2) else none)) else (bif Nat.blt pc 45 then (bif Nat.beq pc 44 then some (.aload_n 0, 1) else none) else (bif Nat.beq pc 45 then some (.getfield 21, 3) else none))) else (bif Nat.blt pc 51 then (bif Nat.blt pc 49 then (bif Nat.beq pc 48 then some (.iload_n 3, 1) else none) else (bif Nat.beq pc 49 then some (.bipush 12, 2) else none)) else (bif Nat.blt pc 52 then (bif Nat.beq pc 51 then some (.imul, 1) else none) else (bif Nat.beq pc 52 then some (.iload_n 2, 1) else none)))))) else (bif Nat.blt pc 76 then (bif Nat.blt pc 65 then (bif Nat.blt pc 58 then (bif Nat.blt pc 54 then (bif Nat.beq pc 53 then some (.iadd, 1) else none) else (bif Nat.blt pc 55 then (bif Nat.beq pc 54 then some (.iaload, 1) else none) else (bif Nat.beq pc 55 then some (.if_icmp .ge 38, 3) else none))) else (bif Nat.blt pc 62 then (bif Nat.blt pc 59 then (bif Nat.beq pc 58 then some (.aload_n 0, 1) else none) else (bif Nat.beq pc 59 then some (.getfield 21, 3) else none)) else (bif Nat.blt pc 63 then (bif Nat.beq pc 62 then some (.iload_n 3, 1) else none) else (bif Nat.beq pc 63 then some (.bipush 12, 2) else none)))) else (bif Nat.blt pc 70 then (bif Nat.blt pc 67 then (bif Nat.blt pc 66 then (bif Nat.beq pc 65 then some (.imul, 1) else none) else (bif Nat.beq pc 66 then some (.iload_n 2, 1) else none)) else (bif Nat.blt pc 68 then (bif Nat.beq pc 67 then some (.iadd, 1) else none) else (bif Nat.beq pc 68 then some (.iload 6, 2) else none))) else (bif Nat.blt pc 72 then (bif Nat.blt pc 71 then (bif Nat.beq pc 70 then some (.iastore, 1) else none) else (bif Nat.beq pc 71 then some (.aload_n 0, 1) else none)) else (bif Nat.blt pc 75 then (bif Nat.beq pc 72 then some (.getfield 24, 3) else none) else (bif Nat.beq pc 75 then some (.iload_n 3, 1) else none))))) else (bif Nat.blt pc 87 then (bif Nat.blt pc 80 then (bif Nat.blt pc 78 then (bif Nat.beq pc 76 then some (.bipush 12, 2) else none) else (bif Nat.blt pc 79 then (bif Nat.beq pc 78 then some (.imul, 1) else none) else (bif Nat.beq pc 79 then some (.iload_n 2, 1) else none))) else (bif Nat.blt pc 84 then (bif Nat.blt pc 81 then (bif Nat.beq pc 80 then some (.iadd, 1) else none) else (bif Nat.beq pc 81 then some (.sipush 200, 3) else none)) else (bif Nat.blt pc 86 then (bif Nat.beq pc 84 then some (.bipush 12, 2) else none) else (bif Nat.beq pc 86 then some (.iload_n 2, 1) else none)))) else (bif Nat.blt pc 92 then (bif Nat.blt pc 89 then (bif Nat.blt pc 88 then (bif Nat.beq pc 87 then some (.imul, 1) else none) else (bif Nat.beq pc 88 then some (.iadd, 1) else none)) else (bif Nat.blt pc 91 then (bif Nat.beq pc 89 then some (.iload 4, 2) else none) else (bif Nat.beq pc 91 then some (.iadd, 1) else none))) else (bif Nat.blt pc 96 then (bif Nat.blt pc 93 then (bif Nat.beq pc 92 then some (.iastore, 1) else none) else (bif Nat.beq pc 93 then some (.iinc 4 1, 3) else none)) else (bif Nat.blt pc 99 then (bif Nat.beq pc 96 then some (.goto (-93), 3) else none) else (bif Nat.beq pc 99 then some (.return_, 1) else none)))))))
def M_X2_goOn : MR := (S_X2_goOn, P_TownFolk_Planner, gd 100 C_X2_goOn)
set_option maxRecDepth 100000 in
theorem Mok_X2_goOn : MOK M_X2_goOn := ⟨gd_ok (by decide +kernel), Pok_TownFolk_Planner, by decide +kernel⟩
def C_X2_costOfWay (pc : Nat) : Option (Instr × Nat) := (bif Nat.blt pc 29 then (bif Nat.blt pc 14 then (bif Nat.blt pc 7 then (bif Nat.blt pc 3 then (bif Nat.blt pc 1 then (bif Nat.beq pc 0 then some (.iload_n 2, 1) else none) else (bif Nat.beq pc 1 then some (.bipush 48, 2) else none)) else (bif Nat.blt pc 6 then (bif Nat.beq pc 3 then some (.if_icmp .lt 22, 3) else none) else (bif Nat.beq pc 6 then some (.aload_n 0, 1) else none))) else (bif Nat.blt pc 12 then (bif Nat.blt pc 10 then (bif Nat.beq pc 7 then some (.getfield 18, 3) else none) else (bif Nat.beq pc 10 then some (.bipush 48, 2) else none)) else (bif Nat.blt pc 13 then (bif Nat.beq pc 12 then some (.iaload, 1) else none) else (bif Nat.beq pc 13 then some (.aload_n 0, 1) else none)))) else (bif Nat.blt pc 20 then (bif Nat.blt pc 18 then (bif Nat.blt pc 17 then (bif Nat.beq pc 14 then some (.getfield 18, 3) else none) else (bif Nat.beq pc 17 then some (.iload_n 1, 1) else none)) else (bif Nat.blt pc 19 then (bif Nat.beq pc 18 then some (.iaload, 1) else none) else (bif Nat.beq pc 19 then some (.isub, 1) else none))) else (bif Nat.blt pc 24 then (bif Nat.blt pc 23 then (bif Nat.beq pc 20 then some (.sipush 300, 3) else none) else (bif Nat.beq pc 23 then some (.iadd, 1) else none)) else (bif Nat.blt pc 25 then (bif Nat.beq pc 24 then some (.ireturn, 1) else none) else (bif Nat.blt pc 26 then (bif Nat.beq pc 25 then some (.aload_n 0, 1) else none) else (bif Nat.beq pc 26 then some (.getfield 18, 3) else none)))))) else (bif Nat.blt pc 39 then (bif Nat.blt pc 35 then (bif Nat.blt pc 31 then (bif Nat.blt pc 30 then (bif Nat.beq pc 29 then some (.iload_n 2, 1) else none) else (bif Nat.beq pc 30 then some (.iaload, 1) else none)) else (bif Nat.blt pc 32 then (bif Nat.beq pc 31 then some (.aload_n 0, 1) else none) else (bif Nat.beq pc 32 then some (.getfield 18, 3) else none))) else (bif Nat.blt pc 37 then (bif Nat.blt pc 36 then (bif Nat.beq pc 35 then some (.iload_n 1, 1) else none) else (bif Nat.beq pc 36 then some (.iaload, 1) else none)) else (bif Nat.blt pc 38 then (bif Nat.beq pc 37 then some (.isub, 1) else none) else (bif Nat.beq pc 38 then some (.aload_n 0, 1) else none)))) else (bif Nat.blt pc 46 then (bif Nat.blt pc 43 then (bif Nat.blt pc 42 then (bif Nat.beq pc 39 then some (.getfield 21, 3) else none) else (bif Nat.beq pc 42 then some (.iload_n 2, 1) else none)) else (bif Nat.blt pc 45 then (bif Nat.beq pc 43 then some (.bipush 12, 2) else none) else (bif Nat.beq pc 45 then some (.imul, 1) else none))) else (bif Nat.blt pc 48 then (bif Nat.blt pc 47 then (bif Nat.beq pc 46 then some (.iload_n 3, 1) else none) else (bif Nat.beq pc 47 then some (.iadd, 1) else none)) else (bif Nat.blt pc 49 then (bif Nat.beq pc 48 then some (.iaload, 1) else none) else (bif Nat.blt pc 50 then (bif Nat.beq pc 49 then some (.iadd, 1) else none) else (bif Nat.beq pc 50 then some (.ireturn, 1) else none)))))))
def M_X2_costOfWay : MR := (S_X2_costOfWay, P_TownFolk_Planner, gd 51 C_X2_costOfWay)
set_option maxRecDepth 100000 in
theorem Mok_X2_costOfWay : MOK M_X2_costOfWay := ⟨gd_ok (by decide +kernel), Pok_TownFolk_Planner, by decide +kernel⟩
def C_X2_write (pc : Nat) : Option (Instr × Nat) := (bif Nat.blt pc 70 then (bif Nat.blt pc 33 then (bif Nat.blt pc 18 then (bif Nat.blt pc 7 then (bif Nat.blt pc 3 then (bif Nat.blt pc 2 then (bif Nat.beq pc 0 then some (.iload 4, 2) else none) else (bif Nat.beq pc 2 then some (.iload_n 3, 1) else none)) else (bif Nat.blt pc 6 then (bif Nat.beq pc 3 then some (.if_icmp .le 15, 3) else none) else (bif Nat.beq pc 6 then some (.aload_n 0, 1) else none))) else (bif Nat.blt pc 10 then (bif Nat.blt pc 8 then (bif Nat.beq pc 7 then some (.iload_n 3, 1) else none) else (bif Nat.beq pc 8 then some (.iload 4, 2) else none)) else (bif Nat.blt pc 12 then (bif Nat.beq pc 10 then some (.iload 5, 2) else none) else (bif Nat.blt pc 15 then (bif Nat.beq pc 12 then some (.invokevirtual 102, 3) else none) else (bif Nat.beq pc 15 then some (.goto 16, 3) else none))))) else (bif Nat.blt pc 26 then (bif Nat.blt pc 22 then (bif Nat.blt pc 19 then (bif Nat.beq pc 18 then some (.aload_n 0, 1) else none) else (bif Nat.beq pc 19 then some (.getfield 21, 3) else none)) else (bif Nat.blt pc 24 then (bif Nat.beq pc 22 then some (.iload 4, 2) else none) else (bif Nat.beq pc 24 then some (.bipush 12, 2) else none))) else (bif Nat.blt pc 29 then (bif Nat.blt pc 27 then (bif Nat.beq pc 26 then some (.imul, 1) else none) else (bif Nat.beq pc 27 then some (.iload 5, 2) else none)) else (bif Nat.blt pc 30 then (bif Nat.beq pc 29 then some (.iadd, 1) else none) else (bif Nat.blt pc 31 then (bif Nat.beq pc 30 then some (.iaload, 1) else none) else (bif Nat.beq pc 31 then some (.istore 6, 2) else none)))))) else (bif Nat.blt pc 50 then (bif Nat.blt pc 40 then (bif Nat.blt pc 37 then (bif Nat.blt pc 35 then (bif Nat.beq pc 33 then some (.iload 5, 2) else none) else (bif Nat.beq pc 35 then some (.istore 7, 2) else none)) else (bif Nat.blt pc 38 then (bif Nat.beq pc 37 then some (.iconst (-1), 1) else none) else (bif Nat.beq pc 38 then some (.istore 8, 2) else none))) else (bif Nat.blt pc 44 then (bif Nat.blt pc 42 then (bif Nat.beq pc 40 then some (.iload 4, 2) else none) else (bif Nat.beq pc 42 then some (.istore 9, 2) else none)) else (bif Nat.blt pc 46 then (bif Nat.beq pc 44 then some (.iload 4, 2) else none) else (bif Nat.blt pc 48 then (bif Nat.beq pc 46 then some (.istore 10, 2) else none) else (bif Nat.beq pc 48 then some (.iload 10, 2) else none))))) else (bif Nat.blt pc 59 then (bif Nat.blt pc 55 then (bif Nat.blt pc 52 then (bif Nat.beq pc 50 then some (.bipush 48, 2) else none) else (bif Nat.beq pc 52 then some (.if_icmp .ge 82, 3) else none)) else (bif Nat.blt pc 57 then (bif Nat.beq pc 55 then some (.iload 10, 2) else none) else (bif Nat.beq pc 57 then some (.iload 9, 2) else none))) else (bif Nat.blt pc 63 then (bif Nat.blt pc 62 then (bif Nat.beq pc 59 then some (.if_icmp .lt 60, 3) else none) else (bif Nat.beq pc 62 then some (.aload_n 0, 1) else none)) else (bif Nat.blt pc 66 then (bif Nat.beq pc 63 then some (.getfield 24, 3) else none) else (bif Nat.blt pc 68 then (bif Nat.beq pc 66 then some (.iload 10, 2) else none) else (bif Nat.beq pc 68 then some (.bipush 12, 2) else none))))))) else (bif Nat.blt pc 102 then (bif Nat.blt pc 83 then (bif Nat.blt pc 75 then (bif Nat.blt pc 73 then (bif Nat.blt pc 71 then (bif Nat.beq pc 70 then some (.imul, 1) else none) else (bif Nat.beq pc 71 then some (.iload 7, 2) else none)) else (bif Nat.blt pc 74 then (bif Nat.beq pc 73 then some (.iadd, 1) else none) else (bif Nat.beq pc 74 then some (.iaload, 1) else none))) else (bif Nat.blt pc 79 then (bif Nat.blt pc 77 then (bif Nat.beq pc 75 then some (.istore 8, 2) else none) else (bif Nat.beq pc 77 then some (.iload 10, 2) else none)) else (bif Nat.blt pc 80 then (bif Nat.beq pc 79 then some (.iconst 1, 1) else none) else (bif Nat.blt pc 81 then (bif Nat.beq pc 80 then some (.iadd, 1) else none) else (bif Nat.beq pc 81 then some (.istore 9, 2) else none))))) else (bif Nat.blt pc 93 then (bif Nat.blt pc 88 then (bif Nat.blt pc 85 then (bif Nat.beq pc 83 then some (.iload 8, 2) else none) else (bif Nat.beq pc 85 then some (.sipush 200, 3) else none)) else (bif Nat.blt pc 91 then (bif Nat.beq pc 88 then some (.if_icmp .lt 31, 3) else none) else (bif Nat.beq pc 91 then some (.iload 8, 2) else none))) else (bif Nat.blt pc 97 then (bif Nat.blt pc 96 then (bif Nat.beq pc 93 then some (.sipush 200, 3) else none) else (bif Nat.beq pc 96 then some (.isub, 1) else none)) else (bif Nat.blt pc 99 then (bif Nat.beq pc 97 then some (.bipush 12, 2) else none) else (bif Nat.blt pc 100 then (bif Nat.beq pc 99 then some (.irem, 1) else none) else (bif Nat.beq pc 100 then some (.istore 11, 2) else none)))))) else (bif Nat.blt pc 119 then (bif Nat.blt pc 109 then (bif Nat.blt pc 105 then (bif Nat.blt pc 104 then (bif Nat.beq pc 102 then some (.iload 10, 2) else none) else (bif Nat.beq pc 104 then some (.aload_n 2, 1) else none)) else (bif Nat.blt pc 107 then (bif Nat.beq pc 105 then some (.iload 7, 2) else none) else (bif Nat.beq pc 107 then some (.iload 11, 2) else none))) else (bif Nat.blt pc 113 then (bif Nat.blt pc 112 then (bif Nat.beq pc 109 then some (.invokevirtual 99, 3) else none) else (bif Nat.beq pc 112 then some (.iadd, 1) else none)) else (bif Nat.blt pc 115 then (bif Nat.beq pc 113 then some (.istore 9, 2) else none) else (bif Nat.blt pc 117 then (bif Nat.beq pc 115 then some (.iload 11, 2) else none) else (bif Nat.beq pc 117 then some (.istore 7, 2) else none))))) else (bif Nat.blt pc 127 then (bif Nat.blt pc 123 then (bif Nat.blt pc 120 then (bif Nat.beq pc 119 then some (.aload_n 1, 1) else none) else (bif Nat.beq pc 120 then some (.getfield 106, 3) else none)) else (bif Nat.blt pc 125 then (bif Nat.beq pc 123 then some (.iload 10, 2) else none) else (bif Nat.beq pc 125 then some (.iload 8, 2) else none))) else (bif Nat.blt pc 131 then (bif Nat.blt pc 128 then (bif Nat.beq pc 127 then some (.iastore, 1) else none) else (bif Nat.beq pc 128 then some (.iinc 10 1, 3) else none)) else (bif Nat.blt pc 134 then (bif Nat.beq pc 131 then some (.goto (-83), 3) else none) else (bif Nat.blt pc 136 then (bif Nat.beq pc 134 then some (.iload 6, 2) else none) else (bif Nat.beq pc 136 then some (.ireturn, 1) else none))))))))
def M_X2_write : MR := (S_X2_write, P_TownFolk_Planner, gd 137 C_X2_write)
set_option maxRecDepth 100000 in
theorem Mok_X2_write : MOK M_X2_write := ⟨gd_ok (by decide +kernel), Pok_TownFolk_Planner, by decide +kernel⟩
def C_X3_init (pc : Nat) : Option (Instr × Nat) := (bif Nat.blt pc 25 then (bif Nat.blt pc 12 then (bif Nat.blt pc 5 then (bif Nat.blt pc 1 then (bif Nat.beq pc 0 then some (.aload_n 0, 1) else none) else (bif Nat.blt pc 4 then (bif Nat.beq pc 1 then some (.invokespecial 3, 3) else none) else (bif Nat.beq pc 4 then some (.aload_n 0, 1) else none))) else (bif Nat.blt pc 7 then (bif Nat.beq pc 5 then some (.bipush 12, 2) else none) else (bif Nat.blt pc 9 then (bif Nat.beq pc 7 then some (.newarray .int, 2) else none) else (bif Nat.beq pc 9 then some (.putfield 9, 3) else none)))) else (bif Nat.blt pc 17 then (bif Nat.blt pc 13 then (bif Nat.beq pc 12 then some (.aload_n 0, 1) else none) else (bif Nat.blt pc 15 then (bif Nat.beq pc 13 then some (.bipush 48, 2) else none) else (bif Nat.beq pc 15 then some (.newarray .int, 2) else none))) else (bif Nat.blt pc 21 then (bif Nat.blt pc 20 then (bif Nat.beq pc 17 then some (.putfield 15, 3) else none) else (bif Nat.beq pc 20 then some (.aload_n 0, 1) else none)) else (bif Nat.blt pc 23 then (bif Nat.beq pc 21 then some (.bipush 48, 2) else none) else (bif Nat.beq pc 23 then some (.newarray .int, 2) else none))))) else (bif Nat.blt pc 40 then (bif Nat.blt pc 31 then (bif Nat.blt pc 28 then (bif Nat.beq pc 25 then some (.putfield 18, 3) else none) else (bif Nat.blt pc 29 then (bif Nat.beq pc 28 then some (.aload_n 0, 1) else none) else (bif Nat.beq pc 29 then some (.bipush 12, 2) else none))) else (bif Nat.blt pc 36 then (bif Nat.blt pc 33 then (bif Nat.beq pc 31 then some (.newarray .int, 2) else none) else (bif Nat.beq pc 33 then some (.putfield 21, 3) else none)) else (bif Nat.blt pc 37 then (bif Nat.beq pc 36 then some (.aload_n 0, 1) else none) else (bif Nat.beq pc 37 then some (.getfield 9, 3) else none)))) else (bif Nat.blt pc 45 then (bif Nat.blt pc 41 then (bif Nat.beq pc 40 then some (.iconst 5, 1) else none) else (bif Nat.blt pc 44 then (bif Nat.beq pc 41 then some (.invokestatic 24, 3) else none) else (bif Nat.beq pc 44 then some (.aload_n 0, 1) else none))) else (bif Nat.blt pc 49 then (bif Nat.blt pc 48 then (bif Nat.beq pc 45 then some (.getfield 18, 3) else none) else (bif Nat.beq pc 48 then some (.iconst (-1), 1) else none)) else (bif Nat.blt pc 52 then (bif Nat.beq pc 49 then some (.invokestatic 24, 3) else none) else (bif Nat.beq pc 52 then some (.return_, 1) else none))))))
def M_X3_init : MR := (S_X3_init, P_TownFolk_Resident, gd 53 C_X3_init)
set_option maxRecDepth 100000 in
theorem Mok_X3_init : MOK M_X3_init := ⟨gd_ok (by decide +kernel), Pok_TownFolk_Resident, by decide +kernel⟩
def C_X3_takeDuties (pc : Nat) : Option (Instr × Nat) := (bif Nat.blt pc 24 then (bif Nat.blt pc 13 then (bif Nat.blt pc 5 then (bif Nat.blt pc 1 then (bif Nat.beq pc 0 then some (.aload_n 0, 1) else none) else (bif Nat.blt pc 2 then (bif Nat.beq pc 1 then some (.aload_n 1, 1) else none) else (bif Nat.beq pc 2 then some (.getfield 30, 3) else none))) else (bif Nat.blt pc 7 then (bif Nat.beq pc 5 then some (.bipush 48, 2) else none) else (bif Nat.blt pc 10 then (bif Nat.beq pc 7 then some (.invokestatic 36, 3) else none) else (bif Nat.beq pc 10 then some (.putfield 42, 3) else none)))) else (bif Nat.blt pc 16 then (bif Nat.blt pc 14 then (bif Nat.beq pc 13 then some (.iconst 0, 1) else none) else (bif Nat.blt pc 15 then (bif Nat.beq pc 14 then some (.istore_n 2, 1) else none) else (bif Nat.beq pc 15 then some (.iload_n 2, 1) else none))) else (bif Nat.blt pc 20 then (bif Nat.blt pc 17 then (bif Nat.beq pc 16 then some (.aload_n 0, 1) else none) else (bif Nat.beq pc 17 then some (.getfield 42, 3) else none)) else (bif Nat.blt pc 23 then (bif Nat.beq pc 20 then some (.if_icmp .ge 20, 3) else none) else (bif Nat.beq pc 23 then some (.aload_n 0, 1) else none))))) else (bif Nat.blt pc 34 then (bif Nat.blt pc 29 then (bif Nat.blt pc 27 then (bif Nat.beq pc 24 then some (.getfield 15, 3) else none) else (bif Nat.blt pc 28 then (bif Nat.beq pc 27 then some (.iload_n 2, 1) else none) else (bif Nat.beq pc 28 then some (.aload_n 1, 1) else none))) else (bif Nat.blt pc 30 then (bif Nat.beq pc 29 then some (.iload_n 2, 1) else none) else (bif Nat.blt pc 33 then (bif Nat.beq pc 30 then some (.invokevirtual 45, 3) else none) else (bif Nat.beq pc 33 then some (.iastore, 1) else none)))) else (bif Nat.blt pc 41 then (bif Nat.blt pc 37 then (bif Nat.beq pc 34 then some (.iinc 2 1, 3) else none) else (bif Nat.blt pc 40 then (bif Nat.beq pc 37 then some (.goto (-22), 3) else none) else (bif Nat.beq pc 40 then some (.aload_n 0, 1) else none))) else (bif Nat.blt pc 45 then (bif Nat.blt pc 44 then (bif Nat.beq pc 41 then some (.getfield 42, 3) else none) else (bif Nat.beq pc 44 then some (.iconst 4, 1) else none)) else (bif Nat.blt pc 46 then (bif Nat.beq pc 45 then some (.idiv, 1) else none) else (bif Nat.beq pc 46 then some (.ireturn, 1) else none))))))
def M_X3_takeDuties : MR := (S_X3_takeDuties, P_TownFolk_Resident, gd 47 C_X3_takeDuties)
set_option maxRecDepth 100000 in
theorem Mok_X3_takeDuties : MOK M_X3_takeDuties := ⟨gd_ok (by decide +kernel), Pok_TownFolk_Resident, by decide +kernel⟩
def C_X3_hasKey (pc : Nat) : Option (Instr × Nat) := (bif Nat.blt pc 7 then (bif Nat.blt pc 4 then (bif Nat.blt pc 1 then (bif Nat.beq pc 0 then some (.aload_n 0, 1) else none) else (bif Nat.beq pc 1 then some (.getfield 49, 3) else none)) else (bif Nat.blt pc 5 then (bif Nat.beq pc 4 then some (.iload_n 1, 1) else none) else (bif Nat.blt pc 6 then (bif Nat.beq pc 5 then some (.iushr, 1) else none) else (bif Nat.beq pc 6 then some (.iconst 1, 1) else none)))) else (bif Nat.blt pc 12 then (bif Nat.blt pc 8 then (bif Nat.beq pc 7 then some (.iand, 1) else none) else (bif Nat.blt pc 11 then (bif Nat.beq pc 8 then some (.ifCond .eq 7, 3) else none) else (bif Nat.beq pc 11 then some (.iconst 1, 1) else none))) else (bif Nat.blt pc 15 then (bif Nat.beq pc 12 then some (.goto 4, 3) else none) else (bif Nat.blt pc 16 then (bif Nat.beq pc 15 then some (.iconst 0, 1) else none) else (bif Nat.beq pc 16 then some (.ireturn, 1) else none)))))
def M_X3_hasKey : MR := (S_X3_hasKey, P_TownFolk_Resident, gd 17 C_X3_hasKey)
set_option maxRecDepth 100000 in
theorem Mok_X3_hasKey : MOK M_X3_hasKey := ⟨gd_ok (by decide +kernel), Pok_TownFolk_Resident, by decide +kernel⟩
def C_X3_beginDay (pc : Nat) : Option (Instr × Nat) := (bif Nat.blt pc 6 then (bif Nat.blt pc 2 then (bif Nat.blt pc 1 then (bif Nat.beq pc 0 then some (.aload_n 0, 1) else none) else (bif Nat.beq pc 1 then some (.iconst 0, 1) else none)) else (bif Nat.blt pc 5 then (bif Nat.beq pc 2 then some (.putfield 52, 3) else none) else (bif Nat.beq pc 5 then some (.aload_n 0, 1) else none))) else (bif Nat.blt pc 10 then (bif Nat.blt pc 9 then (bif Nat.beq pc 6 then some (.getfield 18, 3) else none) else (bif Nat.beq pc 9 then some (.iconst (-1), 1) else none)) else (bif Nat.blt pc 13 then (bif Nat.beq pc 10 then some (.invokestatic 24, 3) else none) else (bif Nat.beq pc 13 then some (.return_, 1) else none))))
def M_X3_beginDay : MR := (S_X3_beginDay, P_TownFolk_Resident, gd 14 C_X3_beginDay)
set_option maxRecDepth 100000 in
theorem Mok_X3_beginDay : MOK M_X3_beginDay := ⟨gd_ok (by decide +kernel), Pok_TownFolk_Resident, by decide +kernel⟩
def C_X3_takeBend (pc : Nat) : Option (Instr × Nat) := (bif Nat.blt pc 10 then (bif Nat.blt pc 5 then (bif Nat.blt pc 1 then (bif Nat.beq pc 0 then some (.aload_n 0, 1) else none) else (bif Nat.blt pc 2 then (bif Nat.beq pc 1 then some (.iconst 1, 1) else none) else (bif Nat.beq pc 2 then some (.putfield 52, 3) else none))) else (bif Nat.blt pc 6 then (bif Nat.beq pc 5 then some (.aload_n 0, 1) else none) else (bif Nat.blt pc 7 then (bif Nat.beq pc 6 then some (.iload_n 1, 1) else none) else (bif Nat.beq pc 7 then some (.putfield 56, 3) else none)))) else (bif Nat.blt pc 15 then (bif Nat.blt pc 11 then (bif Nat.beq pc 10 then some (.aload_n 0, 1) else none) else (bif Nat.blt pc 12 then (bif Nat.beq pc 11 then some (.iload_n 2, 1) else none) else (bif Nat.beq pc 12 then some (.putfield 59, 3) else none))) else (bif Nat.blt pc 17 then (bif Nat.blt pc 16 then (bif Nat.beq pc 15 then some (.aload_n 0, 1) else none) else (bif Nat.beq pc 16 then some (.iload_n 3, 1) else none)) else (bif Nat.blt pc 20 then (bif Nat.beq pc 17 then some (.putfield 62, 3) else none) else (bif Nat.beq pc 20 then some (.return_, 1) else none)))))
def M_X3_takeBend : MR := (S_X3_takeBend, P_TownFolk_Resident, gd 21 C_X3_takeBend)
set_option maxRecDepth 100000 in
theorem Mok_X3_takeBend : MOK M_X3_takeBend := ⟨gd_ok (by decide +kernel), Pok_TownFolk_Resident, by decide +kernel⟩
def C_X3_leave (pc : Nat) : Option (Instr × Nat) := (bif Nat.blt pc 13 then (bif Nat.blt pc 6 then (bif Nat.blt pc 2 then (bif Nat.blt pc 1 then (bif Nat.beq pc 0 then some (.aload_n 0, 1) else none) else (bif Nat.beq pc 1 then some (.iconst 1, 1) else none)) else (bif Nat.blt pc 5 then (bif Nat.beq pc 2 then some (.putfield 65, 3) else none) else (bif Nat.beq pc 5 then some (.aload_n 0, 1) else none))) else (bif Nat.blt pc 10 then (bif Nat.blt pc 7 then (bif Nat.beq pc 6 then some (.iconst 0, 1) else none) else (bif Nat.beq pc 7 then some (.putfield 52, 3) else none)) else (bif Nat.blt pc 11 then (bif Nat.beq pc 10 then some (.iload_n 1, 1) else none) else (bif Nat.blt pc 12 then (bif Nat.beq pc 11 then some (.istore_n 2, 1) else none) else (bif Nat.beq pc 12 then some (.iload_n 2, 1) else none))))) else (bif Nat.blt pc 23 then (bif Nat.blt pc 18 then (bif Nat.blt pc 15 then (bif Nat.beq pc 13 then some (.bipush 48, 2) else none) else (bif Nat.beq pc 15 then some (.if_icmp .ge 16, 3) else none)) else (bif Nat.blt pc 19 then (bif Nat.beq pc 18 then some (.aload_n 0, 1) else none) else (bif Nat.blt pc 22 then (bif Nat.beq pc 19 then some (.getfield 18, 3) else none) else (bif Nat.beq pc 22 then some (.iload_n 2, 1) else none)))) else (bif Nat.blt pc 25 then (bif Nat.blt pc 24 then (bif Nat.beq pc 23 then some (.iconst (-1), 1) else none) else (bif Nat.beq pc 24 then some (.iastore, 1) else none)) else (bif Nat.blt pc 28 then (bif Nat.beq pc 25 then some (.iinc 2 1, 3) else none) else (bif Nat.blt pc 31 then (bif Nat.beq pc 28 then some (.goto (-16), 3) else none) else (bif Nat.beq pc 31 then some (.return_, 1) else none))))))
def M_X3_leave : MR := (S_X3_leave, P_TownFolk_Resident, gd 32 C_X3_leave)
set_option maxRecDepth 100000 in
theorem Mok_X3_leave : MOK M_X3_leave := ⟨gd_ok (by decide +kernel), Pok_TownFolk_Resident, by decide +kernel⟩
def C_X3_isDueIn (pc : Nat) : Option (Instr × Nat) := (bif Nat.blt pc 13 then (bif Nat.blt pc 5 then (bif Nat.blt pc 2 then (bif Nat.blt pc 1 then (bif Nat.beq pc 0 then some (.iload_n 2, 1) else none) else (bif Nat.beq pc 1 then some (.istore_n 3, 1) else none)) else (bif Nat.blt pc 3 then (bif Nat.beq pc 2 then some (.iload_n 3, 1) else none) else (bif Nat.beq pc 3 then some (.bipush 48, 2) else none))) else (bif Nat.blt pc 9 then (bif Nat.blt pc 8 then (bif Nat.beq pc 5 then some (.if_icmp .ge 21, 3) else none) else (bif Nat.beq pc 8 then some (.aload_n 0, 1) else none)) else (bif Nat.blt pc 12 then (bif Nat.beq pc 9 then some (.getfield 18, 3) else none) else (bif Nat.beq pc 12 then some (.iload_n 3, 1) else none)))) else (bif Nat.blt pc 19 then (bif Nat.blt pc 15 then (bif Nat.blt pc 14 then (bif Nat.beq pc 13 then some (.iaload, 1) else none) else (bif Nat.beq pc 14 then some (.iload_n 1, 1) else none)) else (bif Nat.blt pc 18 then (bif Nat.beq pc 15 then some (.if_icmp .ne 5, 3) else none) else (bif Nat.beq pc 18 then some (.iconst 1, 1) else none))) else (bif Nat.blt pc 23 then (bif Nat.blt pc 20 then (bif Nat.beq pc 19 then some (.ireturn, 1) else none) else (bif Nat.beq pc 20 then some (.iinc 3 1, 3) else none)) else (bif Nat.blt pc 26 then (bif Nat.beq pc 23 then some (.goto (-21), 3) else none) else (bif Nat.blt pc 27 then (bif Nat.beq pc 26 then some (.iconst 0, 1) else none) else (bif Nat.beq pc 27 then some (.ireturn, 1) else none))))))
def M_X3_isDueIn : MR := (S_X3_isDueIn, P_TownFolk_Resident, gd 28 C_X3_isDueIn)
set_option maxRecDepth 100000 in
theorem Mok_X3_isDueIn : MOK M_X3_isDueIn := ⟨gd_ok (by decide +kernel), Pok_TownFolk_Resident, by decide +kernel⟩
def C_X3_freeFrom (pc : Nat) : Option (Instr × Nat) := (bif Nat.blt pc 28 then (bif Nat.blt pc 12 then (bif Nat.blt pc 8 then (bif Nat.blt pc 4 then (bif Nat.blt pc 1 then (bif Nat.beq pc 0 then some (.iload_n 1, 1) else none) else (bif Nat.beq pc 1 then some (.ifCond .eq 17, 3) else none)) else (bif Nat.blt pc 5 then (bif Nat.beq pc 4 then some (.aload_n 0, 1) else none) else (bif Nat.beq pc 5 then some (.getfield 18, 3) else none))) else (bif Nat.blt pc 10 then (bif Nat.blt pc 9 then (bif Nat.beq pc 8 then some (.iload_n 1, 1) else none) else (bif Nat.beq pc 9 then some (.iconst 1, 1) else none)) else (bif Nat.blt pc 11 then (bif Nat.beq pc 10 then some (.isub, 1) else none) else (bif Nat.beq pc 11 then some (.iaload, 1) else none)))) else (bif Nat.blt pc 20 then (bif Nat.blt pc 18 then (bif Nat.blt pc 15 then (bif Nat.beq pc 12 then some (.sipush 200, 3) else none) else (bif Nat.beq pc 15 then some (.if_icmp .ge 5, 3) else none)) else (bif Nat.blt pc 19 then (bif Nat.beq pc 18 then some (.iload_n 1, 1) else none) else (bif Nat.beq pc 19 then some (.ireturn, 1) else none))) else (bif Nat.blt pc 22 then (bif Nat.blt pc 21 then (bif Nat.beq pc 20 then some (.iload_n 1, 1) else none) else (bif Nat.beq pc 21 then some (.istore_n 2, 1) else none)) else (bif Nat.blt pc 23 then (bif Nat.beq pc 22 then some (.iload_n 2, 1) else none) else (bif Nat.blt pc 25 then (bif Nat.beq pc 23 then some (.bipush 48, 2) else none) else (bif Nat.beq pc 25 then some (.if_icmp .ge 28, 3) else none)))))) else (bif Nat.blt pc 40 then (bif Nat.blt pc 34 then (bif Nat.blt pc 32 then (bif Nat.blt pc 29 then (bif Nat.beq pc 28 then some (.aload_n 0, 1) else none) else (bif Nat.beq pc 29 then some (.getfield 18, 3) else none)) else (bif Nat.blt pc 33 then (bif Nat.beq pc 32 then some (.iload_n 2, 1) else none) else (bif Nat.beq pc 33 then some (.iaload, 1) else none))) else (bif Nat.blt pc 38 then (bif Nat.blt pc 35 then (bif Nat.beq pc 34 then some (.aload_n 0, 1) else none) else (bif Nat.beq pc 35 then some (.getfield 18, 3) else none)) else (bif Nat.blt pc 39 then (bif Nat.beq pc 38 then some (.iload_n 1, 1) else none) else (bif Nat.beq pc 39 then some (.iconst 1, 1) else none)))) else (bif Nat.blt pc 46 then (bif Nat.blt pc 42 then (bif Nat.blt pc 41 then (bif Nat.beq pc 40 then some (.isub, 1) else none) else (bif Nat.beq pc 41 then some (.iaload, 1) else none)) else (bif Nat.blt pc 45 then (bif Nat.beq pc 42 then some (.if_icmp .eq 5, 3) else none) else (bif Nat.beq pc 45 then some (.iload_n 2, 1) else none))) else (bif Nat.blt pc 50 then (bif Nat.blt pc 47 then (bif Nat.beq pc 46 then some (.ireturn, 1) else none) else (bif Nat.beq pc 47 then some (.iinc 2 1, 3) else none)) else (bif Nat.blt pc 53 then (bif Nat.beq pc 50 then some (.goto (-28), 3) else none) else (bif Nat.blt pc 55 then (bif Nat.beq pc 53 then some (.bipush 48, 2) else none) else (bif Nat.beq pc 55 then some (.ireturn, 1) else none)))))))
def M_X3_freeFrom : MR := (S_X3_freeFrom, P_TownFolk_Resident, gd 56 C_X3_freeFrom)
set_option maxRecDepth 100000 in
theorem Mok_X3_freeFrom : MOK M_X3_freeFrom := ⟨gd_ok (by decide +kernel), Pok_TownFolk_Resident, by decide +kernel⟩
def C_X3_standsAt (pc : Nat) : Option (Instr × Nat) := (bif Nat.blt pc 27 then (bif Nat.blt pc 15 then (bif Nat.blt pc 5 then (bif Nat.blt pc 1 then (bif Nat.beq pc 0 then some (.iload_n 1, 1) else none) else (bif Nat.blt pc 4 then (bif Nat.beq pc 1 then some (.ifCond .ne 10, 3) else none) else (bif Nat.beq pc 4 then some (.aload_n 0, 1) else none))) else (bif Nat.blt pc 11 then (bif Nat.blt pc 8 then (bif Nat.beq pc 5 then some (.getfield 68, 3) else none) else (bif Nat.beq pc 8 then some (.goto 11, 3) else none)) else (bif Nat.blt pc 12 then (bif Nat.beq pc 11 then some (.aload_n 0, 1) else none) else (bif Nat.beq pc 12 then some (.getfield 18, 3) else none)))) else (bif Nat.blt pc 19 then (bif Nat.blt pc 17 then (bif Nat.blt pc 16 then (bif Nat.beq pc 15 then some (.iload_n 1, 1) else none) else (bif Nat.beq pc 16 then some (.iconst 1, 1) else none)) else (bif Nat.blt pc 18 then (bif Nat.beq pc 17 then some (.isub, 1) else none) else (bif Nat.beq pc 18 then some (.iaload, 1) else none))) else (bif Nat.blt pc 21 then (bif Nat.blt pc 20 then (bif Nat.beq pc 19 then some (.istore_n 2, 1) else none) else (bif Nat.beq pc 20 then some (.iload_n 2, 1) else none)) else (bif Nat.blt pc 24 then (bif Nat.beq pc 21 then some (.sipush 200, 3) else none) else (bif Nat.beq pc 24 then some (.if_icmp .lt 12, 3) else none))))) else (bif Nat.blt pc 37 then (bif Nat.blt pc 32 then (bif Nat.blt pc 28 then (bif Nat.beq pc 27 then some (.iload_n 2, 1) else none) else (bif Nat.blt pc 31 then (bif Nat.beq pc 28 then some (.sipush 200, 3) else none) else (bif Nat.beq pc 31 then some (.isub, 1) else none))) else (bif Nat.blt pc 35 then (bif Nat.blt pc 34 then (bif Nat.beq pc 32 then some (.bipush 12, 2) else none) else (bif Nat.beq pc 34 then some (.irem, 1) else none)) else (bif Nat.blt pc 36 then (bif Nat.beq pc 35 then some (.ireturn, 1) else none) else (bif Nat.beq pc 36 then some (.iload_n 2, 1) else none)))) else (bif Nat.blt pc 45 then (bif Nat.blt pc 42 then (bif Nat.blt pc 39 then (bif Nat.beq pc 37 then some (.bipush 100, 2) else none) else (bif Nat.beq pc 39 then some (.if_icmp .lt 10, 3) else none)) else (bif Nat.blt pc 43 then (bif Nat.beq pc 42 then some (.iload_n 2, 1) else none) else (bif Nat.beq pc 43 then some (.bipush 100, 2) else none))) else (bif Nat.blt pc 49 then (bif Nat.blt pc 46 then (bif Nat.beq pc 45 then some (.isub, 1) else none) else (bif Nat.beq pc 46 then some (.goto 4, 3) else none)) else (bif Nat.blt pc 50 then (bif Nat.beq pc 49 then some (.iload_n 2, 1) else none) else (bif Nat.beq pc 50 then some (.ireturn, 1) else none))))))
def M_X3_standsAt : MR := (S_X3_standsAt, P_TownFolk_Resident, gd 51 C_X3_standsAt)
set_option maxRecDepth 100000 in
theorem Mok_X3_standsAt : MOK M_X3_standsAt := ⟨gd_ok (by decide +kernel), Pok_TownFolk_Resident, by decide +kernel⟩
def C_X3_learn (pc : Nat) : Option (Instr × Nat) := (bif Nat.blt pc 23 then (bif Nat.blt pc 11 then (bif Nat.blt pc 5 then (bif Nat.blt pc 2 then (bif Nat.blt pc 1 then (bif Nat.beq pc 0 then some (.iconst 0, 1) else none) else (bif Nat.beq pc 1 then some (.istore_n 3, 1) else none)) else (bif Nat.blt pc 3 then (bif Nat.beq pc 2 then some (.iload_n 3, 1) else none) else (bif Nat.beq pc 3 then some (.bipush 12, 2) else none))) else (bif Nat.blt pc 9 then (bif Nat.blt pc 8 then (bif Nat.beq pc 5 then some (.if_icmp .ge 35, 3) else none) else (bif Nat.beq pc 8 then some (.iload_n 1, 1) else none)) else (bif Nat.blt pc 10 then (bif Nat.beq pc 9 then some (.iload_n 3, 1) else none) else (bif Nat.beq pc 10 then some (.iushr, 1) else none)))) else (bif Nat.blt pc 17 then (bif Nat.blt pc 13 then (bif Nat.blt pc 12 then (bif Nat.beq pc 11 then some (.iconst 1, 1) else none) else (bif Nat.beq pc 12 then some (.iand, 1) else none)) else (bif Nat.blt pc 16 then (bif Nat.beq pc 13 then some (.ifCond .eq 21, 3) else none) else (bif Nat.beq pc 16 then some (.aload_n 0, 1) else none))) else (bif Nat.blt pc 21 then (bif Nat.blt pc 20 then (bif Nat.beq pc 17 then some (.getfield 71, 3) else none) else (bif Nat.beq pc 20 then some (.iload_n 3, 1) else none)) else (bif Nat.blt pc 22 then (bif Nat.beq pc 21 then some (.iushr, 1) else none) else (bif Nat.beq pc 22 then some (.iconst 1, 1) else none))))) else (bif Nat.blt pc 37 then (bif Nat.blt pc 31 then (bif Nat.blt pc 27 then (bif Nat.blt pc 24 then (bif Nat.beq pc 23 then some (.iand, 1) else none) else (bif Nat.beq pc 24 then some (.ifCond .ne 10, 3) else none)) else (bif Nat.blt pc 28 then (bif Nat.beq pc 27 then some (.aload_n 0, 1) else none) else (bif Nat.beq pc 28 then some (.getfield 21, 3) else none))) else (bif Nat.blt pc 33 then (bif Nat.blt pc 32 then (bif Nat.beq pc 31 then some (.iload_n 3, 1) else none) else (bif Nat.beq pc 32 then some (.iload_n 2, 1) else none)) else (bif Nat.blt pc 34 then (bif Nat.beq pc 33 then some (.iastore, 1) else none) else (bif Nat.beq pc 34 then some (.iinc 3 1, 3) else none)))) else (bif Nat.blt pc 45 then (bif Nat.blt pc 41 then (bif Nat.blt pc 40 then (bif Nat.beq pc 37 then some (.goto (-35), 3) else none) else (bif Nat.beq pc 40 then some (.aload_n 0, 1) else none)) else (bif Nat.blt pc 42 then (bif Nat.beq pc 41 then some (.dup, 1) else none) else (bif Nat.beq pc 42 then some (.getfield 71, 3) else none))) else (bif Nat.blt pc 47 then (bif Nat.blt pc 46 then (bif Nat.beq pc 45 then some (.iload_n 1, 1) else none) else (bif Nat.beq pc 46 then some (.ior, 1) else none)) else (bif Nat.blt pc 50 then (bif Nat.beq pc 47 then some (.putfield 71, 3) else none) else (bif Nat.beq pc 50 then some (.return_, 1) else none))))))
def M_X3_learn : MR := (S_X3_learn, P_TownFolk_Resident, gd 51 C_X3_learn)
set_option maxRecDepth 100000 in
theorem Mok_X3_learn : MOK M_X3_learn := ⟨gd_ok (by decide +kernel), Pok_TownFolk_Resident, by decide +kernel⟩
def C_X4_init (pc : Nat) : Option (Instr × Nat) := (bif Nat.blt pc 5 then (bif Nat.blt pc 1 then (bif Nat.beq pc 0 then some (.aload_n 0, 1) else none) else (bif Nat.blt pc 4 then (bif Nat.beq pc 1 then some (.invokespecial 3, 3) else none) else (bif Nat.beq pc 4 then some (.aload_n 0, 1) else none))) else (bif Nat.blt pc 10 then (bif Nat.blt pc 8 then (bif Nat.beq pc 5 then some (.sipush 576, 3) else none) else (bif Nat.beq pc 8 then some (.newarray .int, 2) else none)) else (bif Nat.blt pc 13 then (bif Nat.beq pc 10 then some (.putfield 9, 3) else none) else (bif Nat.beq pc 13 then some (.return_, 1) else none))))
def M_X4_init : MR := (S_X4_init, P_TownFolk_Seats, gd 14 C_X4_init)
set_option maxRecDepth 100000 in
theorem Mok_X4_init : MOK M_X4_init := ⟨gd_ok (by decide +kernel), Pok_TownFolk_Seats, by decide +kernel⟩
def C_X4_clear (pc : Nat) : Option (Instr × Nat) := (bif Nat.blt pc 4 then (bif Nat.blt pc 1 then (bif Nat.beq pc 0 then some (.aload_n 0, 1) else none) else (bif Nat.beq pc 1 then some (.getfield 9, 3) else none)) else (bif Nat.blt pc 5 then (bif Nat.beq pc 4 then some (.iconst 0, 1) else none) else (bif Nat.blt pc 8 then (bif Nat.beq pc 5 then some (.invokestatic 15, 3) else none) else (bif Nat.beq pc 8 then some (.return_, 1) else none))))
def M_X4_clear : MR := (S_X4_clear, P_TownFolk_Seats, gd 9 C_X4_clear)
set_option maxRecDepth 100000 in
theorem Mok_X4_clear : MOK M_X4_clear := ⟨gd_ok (by decide +kernel), Pok_TownFolk_Seats, by decide +kernel⟩
def C_X4_taken (pc : Nat) : Option (Instr × Nat) := (bif Nat.blt pc 7 then (bif Nat.blt pc 4 then (bif Nat.blt pc 1 then (bif Nat.beq pc 0 then some (.aload_n 0, 1) else none) else (bif Nat.beq pc 1 then some (.getfield 9, 3) else none)) else (bif Nat.blt pc 5 then (bif Nat.beq pc 4 then some (.iload_n 1, 1) else none) else (bif Nat.beq pc 5 then some (.bipush 48, 2) else none))) else (bif Nat.blt pc 9 then (bif Nat.blt pc 8 then (bif Nat.beq pc 7 then some (.imul, 1) else none) else (bif Nat.beq pc 8 then some (.iload_n 2, 1) else none)) else (bif Nat.blt pc 10 then (bif Nat.beq pc 9 then some (.iadd, 1) else none) else (bif Nat.blt pc 11 then (bif Nat.beq pc 10 then some (.iaload, 1) else none) else (bif Nat.beq pc 11 then some (.ireturn, 1) else none)))))
def M_X4_taken : MR := (S_X4_taken, P_TownFolk_Seats, gd 12 C_X4_taken)
set_option maxRecDepth 100000 in
theorem Mok_X4_taken : MOK M_X4_taken := ⟨gd_ok (by decide +kernel), Pok_TownFolk_Seats, by decide +kernel⟩
def C_X4_take (pc : Nat) : Option (Instr × Nat) := (bif Nat.blt pc 3 then (bif Nat.blt pc 1 then (bif Nat.beq pc 0 then some (.aload_n 0, 1) else none) else (bif Nat.blt pc 2 then (bif Nat.beq pc 1 then some (.aload_n 1, 1) else none) else (bif Nat.beq pc 2 then some (.iload_n 2, 1) else none))) else (bif Nat.blt pc 4 then (bif Nat.beq pc 3 then some (.iconst 1, 1) else none) else (bif Nat.blt pc 7 then (bif Nat.beq pc 4 then some (.invokevirtual 21, 3) else none) else (bif Nat.beq pc 7 then some (.return_, 1) else none))))
def M_X4_take : MR := (S_X4_take, P_TownFolk_Seats, gd 8 C_X4_take)
set_option maxRecDepth 100000 in
theorem Mok_X4_take : MOK M_X4_take := ⟨gd_ok (by decide +kernel), Pok_TownFolk_Seats, by decide +kernel⟩
def C_X4_release (pc : Nat) : Option (Instr × Nat) := (bif Nat.blt pc 3 then (bif Nat.blt pc 1 then (bif Nat.beq pc 0 then some (.aload_n 0, 1) else none) else (bif Nat.blt pc 2 then (bif Nat.beq pc 1 then some (.aload_n 1, 1) else none) else (bif Nat.beq pc 2 then some (.iload_n 2, 1) else none))) else (bif Nat.blt pc 4 then (bif Nat.beq pc 3 then some (.iconst (-1), 1) else none) else (bif Nat.blt pc 7 then (bif Nat.beq pc 4 then some (.invokevirtual 21, 3) else none) else (bif Nat.beq pc 7 then some (.return_, 1) else none))))
def M_X4_release : MR := (S_X4_release, P_TownFolk_Seats, gd 8 C_X4_release)
set_option maxRecDepth 100000 in
theorem Mok_X4_release : MOK M_X4_release := ⟨gd_ok (by decide +kernel), Pok_TownFolk_Seats, by decide +kernel⟩
def C_X4_add (pc : Nat) : Option (Instr × Nat) := (bif Nat.blt pc 25 then (bif Nat.blt pc 11 then (bif Nat.blt pc 5 then (bif Nat.blt pc 1 then (bif Nat.beq pc 0 then some (.iload_n 2, 1) else none) else (bif Nat.blt pc 3 then (bif Nat.beq pc 1 then some (.istore 4, 2) else none) else (bif Nat.beq pc 3 then some (.iload 4, 2) else none))) else (bif Nat.blt pc 7 then (bif Nat.beq pc 5 then some (.bipush 48, 2) else none) else (bif Nat.blt pc 10 then (bif Nat.beq pc 7 then some (.if_icmp .ge 38, 3) else none) else (bif Nat.beq pc 10 then some (.aload_n 1, 1) else none)))) else (bif Nat.blt pc 17 then (bif Nat.blt pc 13 then (bif Nat.beq pc 11 then some (.iload 4, 2) else none) else (bif Nat.blt pc 14 then (bif Nat.beq pc 13 then some (.iaload, 1) else none) else (bif Nat.beq pc 14 then some (.invokestatic 25, 3) else none))) else (bif Nat.blt pc 21 then (bif Nat.blt pc 20 then (bif Nat.beq pc 17 then some (.ifCond .eq 22, 3) else none) else (bif Nat.beq pc 20 then some (.aload_n 0, 1) else none)) else (bif Nat.blt pc 24 then (bif Nat.beq pc 21 then some (.getfield 9, 3) else none) else (bif Nat.beq pc 24 then some (.aload_n 1, 1) else none))))) else (bif Nat.blt pc 35 then (bif Nat.blt pc 30 then (bif Nat.blt pc 27 then (bif Nat.beq pc 25 then some (.iload 4, 2) else none) else (bif Nat.blt pc 28 then (bif Nat.beq pc 27 then some (.iaload, 1) else none) else (bif Nat.beq pc 28 then some (.bipush 48, 2) else none))) else (bif Nat.blt pc 33 then (bif Nat.blt pc 31 then (bif Nat.beq pc 30 then some (.imul, 1) else none) else (bif Nat.beq pc 31 then some (.iload 4, 2) else none)) else (bif Nat.blt pc 34 then (bif Nat.beq pc 33 then some (.iadd, 1) else none) else (bif Nat.beq pc 34 then some (.dup2, 1) else none)))) else (bif Nat.blt pc 38 then (bif Nat.blt pc 36 then (bif Nat.beq pc 35 then some (.iaload, 1) else none) else (bif Nat.blt pc 37 then (bif Nat.beq pc 36 then some (.iload_n 3, 1) else none) else (bif Nat.beq pc 37 then some (.iadd, 1) else none))) else (bif Nat.blt pc 42 then (bif Nat.blt pc 39 then (bif Nat.beq pc 38 then some (.iastore, 1) else none) else (bif Nat.beq pc 39 then some (.iinc 4 1, 3) else none)) else (bif Nat.blt pc 45 then (bif Nat.beq pc 42 then some (.goto (-39), 3) else none) else (bif Nat.beq pc 45 then some (.return_, 1) else none))))))
def M_X4_add : MR := (S_X4_add, P_TownFolk_Seats, gd 46 C_X4_add)
set_option maxRecDepth 100000 in
theorem Mok_X4_add : MOK M_X4_add := ⟨gd_ok (by decide +kernel), Pok_TownFolk_Seats, by decide +kernel⟩
def C_X5_init (pc : Nat) : Option (Instr × Nat) := (bif Nat.blt pc 12 then (bif Nat.blt pc 5 then (bif Nat.blt pc 1 then (bif Nat.beq pc 0 then some (.aload_n 0, 1) else none) else (bif Nat.blt pc 4 then (bif Nat.beq pc 1 then some (.invokespecial 3, 3) else none) else (bif Nat.beq pc 4 then some (.aload_n 0, 1) else none))) else (bif Nat.blt pc 7 then (bif Nat.beq pc 5 then some (.bipush 60, 2) else none) else (bif Nat.blt pc 9 then (bif Nat.beq pc 7 then some (.newarray .long, 2) else none) else (bif Nat.beq pc 9 then some (.putfield 9, 3) else none)))) else (bif Nat.blt pc 17 then (bif Nat.blt pc 13 then (bif Nat.beq pc 12 then some (.aload_n 0, 1) else none) else (bif Nat.blt pc 14 then (bif Nat.beq pc 13 then some (.iconst (-1), 1) else none) else (bif Nat.beq pc 14 then some (.putfield 15, 3) else none))) else (bif Nat.blt pc 19 then (bif Nat.blt pc 18 then (bif Nat.beq pc 17 then some (.aload_n 0, 1) else none) else (bif Nat.beq pc 18 then some (.iconst (-1), 1) else none)) else (bif Nat.blt pc 22 then (bif Nat.beq pc 19 then some (.putfield 19, 3) else none) else (bif Nat.beq pc 22 then some (.return_, 1) else none)))))
def M_X5_init : MR := (S_X5_init, P_TownFolk_Shelf, gd 23 C_X5_init)
set_option maxRecDepth 100000 in
theorem Mok_X5_init : MOK M_X5_init := ⟨gd_ok (by decide +kernel), Pok_TownFolk_Shelf, by decide +kernel⟩
def C_X5_isRow (pc : Nat) : Option (Instr × Nat) := (bif Nat.blt pc 8 then (bif Nat.blt pc 4 then (bif Nat.blt pc 1 then (bif Nat.beq pc 0 then some (.aload_n 0, 1) else none) else (bif Nat.beq pc 1 then some (.getfield 19, 3) else none)) else (bif Nat.blt pc 5 then (bif Nat.beq pc 4 then some (.iconst (-1), 1) else none) else (bif Nat.beq pc 5 then some (.if_icmp .eq 7, 3) else none))) else (bif Nat.blt pc 12 then (bif Nat.blt pc 9 then (bif Nat.beq pc 8 then some (.iconst 1, 1) else none) else (bif Nat.beq pc 9 then some (.goto 4, 3) else none)) else (bif Nat.blt pc 13 then (bif Nat.beq pc 12 then some (.iconst 0, 1) else none) else (bif Nat.beq pc 13 then some (.ireturn, 1) else none))))
def M_X5_isRow : MR := (S_X5_isRow, P_TownFolk_Shelf, gd 14 C_X5_isRow)
set_option maxRecDepth 100000 in
theorem Mok_X5_isRow : MOK M_X5_isRow := ⟨gd_ok (by decide +kernel), Pok_TownFolk_Shelf, by decide +kernel⟩
def C_X5_isPerson (pc : Nat) : Option (Instr × Nat) := (bif Nat.blt pc 8 then (bif Nat.blt pc 4 then (bif Nat.blt pc 1 then (bif Nat.beq pc 0 then some (.aload_n 0, 1) else none) else (bif Nat.beq pc 1 then some (.getfield 15, 3) else none)) else (bif Nat.blt pc 5 then (bif Nat.beq pc 4 then some (.iconst (-1), 1) else none) else (bif Nat.beq pc 5 then some (.if_icmp .eq 7, 3) else none))) else (bif Nat.blt pc 12 then (bif Nat.blt pc 9 then (bif Nat.beq pc 8 then some (.iconst 1, 1) else none) else (bif Nat.beq pc 9 then some (.goto 4, 3) else none)) else (bif Nat.blt pc 13 then (bif Nat.beq pc 12 then some (.iconst 0, 1) else none) else (bif Nat.beq pc 13 then some (.ireturn, 1) else none))))
def M_X5_isPerson : MR := (S_X5_isPerson, P_TownFolk_Shelf, gd 14 C_X5_isPerson)
set_option maxRecDepth 100000 in
theorem Mok_X5_isPerson : MOK M_X5_isPerson := ⟨gd_ok (by decide +kernel), Pok_TownFolk_Shelf, by decide +kernel⟩
def C_X5_clear (pc : Nat) : Option (Instr × Nat) := (bif Nat.blt pc 7 then (bif Nat.blt pc 2 then (bif Nat.blt pc 1 then (bif Nat.beq pc 0 then some (.aload_n 0, 1) else none) else (bif Nat.beq pc 1 then some (.iconst (-1), 1) else none)) else (bif Nat.blt pc 5 then (bif Nat.beq pc 2 then some (.putfield 15, 3) else none) else (bif Nat.blt pc 6 then (bif Nat.beq pc 5 then some (.aload_n 0, 1) else none) else (bif Nat.beq pc 6 then some (.iconst (-1), 1) else none)))) else (bif Nat.blt pc 11 then (bif Nat.blt pc 10 then (bif Nat.beq pc 7 then some (.putfield 19, 3) else none) else (bif Nat.beq pc 10 then some (.aload_n 0, 1) else none)) else (bif Nat.blt pc 12 then (bif Nat.beq pc 11 then some (.iconst 0, 1) else none) else (bif Nat.blt pc 15 then (bif Nat.beq pc 12 then some (.putfield 22, 3) else none) else (bif Nat.beq pc 15 then some (.return_, 1) else none)))))
def M_X5_clear : MR := (S_X5_clear, P_TownFolk_Shelf, gd 16 C_X5_clear)
set_option maxRecDepth 100000 in
theorem Mok_X5_clear : MOK M_X5_clear := ⟨gd_ok (by decide +kernel), Pok_TownFolk_Shelf, by decide +kernel⟩
def C_X5_putRow (pc : Nat) : Option (Instr × Nat) := (bif Nat.blt pc 10 then (bif Nat.blt pc 5 then (bif Nat.blt pc 1 then (bif Nat.beq pc 0 then some (.aload_n 0, 1) else none) else (bif Nat.blt pc 4 then (bif Nat.beq pc 1 then some (.invokevirtual 25, 3) else none) else (bif Nat.beq pc 4 then some (.aload_n 0, 1) else none))) else (bif Nat.blt pc 6 then (bif Nat.beq pc 5 then some (.iload_n 1, 1) else none) else (bif Nat.blt pc 9 then (bif Nat.beq pc 6 then some (.putfield 19, 3) else none) else (bif Nat.beq pc 9 then some (.aload_n 0, 1) else none)))) else (bif Nat.blt pc 15 then (bif Nat.blt pc 11 then (bif Nat.beq pc 10 then some (.iload_n 2, 1) else none) else (bif Nat.blt pc 14 then (bif Nat.beq pc 11 then some (.putfield 22, 3) else none) else (bif Nat.beq pc 14 then some (.aload_n 0, 1) else none))) else (bif Nat.blt pc 19 then (bif Nat.blt pc 18 then (bif Nat.beq pc 15 then some (.getfield 9, 3) else none) else (bif Nat.beq pc 18 then some (.lconst 0, 1) else none)) else (bif Nat.blt pc 22 then (bif Nat.beq pc 19 then some (.invokestatic 28, 3) else none) else (bif Nat.beq pc 22 then some (.return_, 1) else none)))))
def M_X5_putRow : MR := (S_X5_putRow, P_TownFolk_Shelf, gd 23 C_X5_putRow)
set_option maxRecDepth 100000 in
theorem Mok_X5_putRow : MOK M_X5_putRow := ⟨gd_ok (by decide +kernel), Pok_TownFolk_Shelf, by decide +kernel⟩
def C_X5_write (pc : Nat) : Option (Instr × Nat) := (bif Nat.blt pc 52 then (bif Nat.blt pc 39 then (bif Nat.blt pc 33 then (bif Nat.blt pc 4 then (bif Nat.blt pc 1 then (bif Nat.beq pc 0 then some (.aload_n 0, 1) else none) else (bif Nat.beq pc 1 then some (.getfield 19, 3) else none)) else (bif Nat.blt pc 32 then (bif Nat.beq pc 4 then some (.tableswitch 66 0 2 #[28, 41, 54], 28) else none) else (bif Nat.beq pc 32 then some (.aload_n 0, 1) else none))) else (bif Nat.blt pc 37 then (bif Nat.blt pc 36 then (bif Nat.beq pc 33 then some (.getfield 9, 3) else none) else (bif Nat.beq pc 36 then some (.iload_n 1, 1) else none)) else (bif Nat.blt pc 38 then (bif Nat.beq pc 37 then some (.lload_n 2, 1) else none) else (bif Nat.beq pc 38 then some (.l2i, 1) else none)))) else (bif Nat.blt pc 45 then (bif Nat.blt pc 41 then (bif Nat.blt pc 40 then (bif Nat.beq pc 39 then some (.i2b, 1) else none) else (bif Nat.beq pc 40 then some (.i2l, 1) else none)) else (bif Nat.blt pc 42 then (bif Nat.beq pc 41 then some (.lastore, 1) else none) else (bif Nat.beq pc 42 then some (.goto 35, 3) else none))) else (bif Nat.blt pc 49 then (bif Nat.blt pc 46 then (bif Nat.beq pc 45 then some (.aload_n 0, 1) else none) else (bif Nat.beq pc 46 then some (.getfield 9, 3) else none)) else (bif Nat.blt pc 50 then (bif Nat.beq pc 49 then some (.iload_n 1, 1) else none) else (bif Nat.blt pc 51 then (bif Nat.beq pc 50 then some (.lload_n 2, 1) else none) else (bif Nat.beq pc 51 then some (.l2i, 1) else none)))))) else (bif Nat.blt pc 65 then (bif Nat.blt pc 58 then (bif Nat.blt pc 54 then (bif Nat.blt pc 53 then (bif Nat.beq pc 52 then some (.i2s, 1) else none) else (bif Nat.beq pc 53 then some (.i2l, 1) else none)) else (bif Nat.blt pc 55 then (bif Nat.beq pc 54 then some (.lastore, 1) else none) else (bif Nat.beq pc 55 then some (.goto 22, 3) else none))) else (bif Nat.blt pc 62 then (bif Nat.blt pc 59 then (bif Nat.beq pc 58 then some (.aload_n 0, 1) else none) else (bif Nat.beq pc 59 then some (.getfield 9, 3) else none)) else (bif Nat.blt pc 63 then (bif Nat.beq pc 62 then some (.iload_n 1, 1) else none) else (bif Nat.blt pc 64 then (bif Nat.beq pc 63 then some (.lload_n 2, 1) else none) else (bif Nat.beq pc 64 then some (.l2i, 1) else none))))) else (bif Nat.blt pc 71 then (bif Nat.blt pc 67 then (bif Nat.blt pc 66 then (bif Nat.beq pc 65 then some (.i2l, 1) else none) else (bif Nat.beq pc 66 then some (.lastore, 1) else none)) else (bif Nat.blt pc 70 then (bif Nat.beq pc 67 then some (.goto 10, 3) else none) else (bif Nat.beq pc 70 then some (.aload_n 0, 1) else none))) else (bif Nat.blt pc 75 then (bif Nat.blt pc 74 then (bif Nat.beq pc 71 then some (.getfield 9, 3) else none) else (bif Nat.beq pc 74 then some (.iload_n 1, 1) else none)) else (bif Nat.blt pc 76 then (bif Nat.beq pc 75 then some (.lload_n 2, 1) else none) else (bif Nat.blt pc 77 then (bif Nat.beq pc 76 then some (.lastore, 1) else none) else (bif Nat.beq pc 77 then some (.return_, 1) else none)))))))
def M_X5_write : MR := (S_X5_write, P_TownFolk_Shelf, gd 78 C_X5_write)
set_option maxRecDepth 100000 in
theorem Mok_X5_write : MOK M_X5_write := ⟨gd_ok (by decide +kernel), Pok_TownFolk_Shelf, by decide +kernel⟩
def C_X5_asInt (pc : Nat) : Option (Instr × Nat) := (bif Nat.blt pc 5 then (bif Nat.blt pc 1 then (bif Nat.beq pc 0 then some (.aload_n 0, 1) else none) else (bif Nat.blt pc 4 then (bif Nat.beq pc 1 then some (.getfield 9, 3) else none) else (bif Nat.beq pc 4 then some (.iload_n 1, 1) else none))) else (bif Nat.blt pc 6 then (bif Nat.beq pc 5 then some (.laload, 1) else none) else (bif Nat.blt pc 7 then (bif Nat.beq pc 6 then some (.l2i, 1) else none) else (bif Nat.beq pc 7 then some (.ireturn, 1) else none))))
def M_X5_asInt : MR := (S_X5_asInt, P_TownFolk_Shelf, gd 8 C_X5_asInt)
set_option maxRecDepth 100000 in
theorem Mok_X5_asInt : MOK M_X5_asInt := ⟨gd_ok (by decide +kernel), Pok_TownFolk_Shelf, by decide +kernel⟩
def C_X6_init (pc : Nat) : Option (Instr × Nat) := (bif Nat.blt pc 21 then (bif Nat.blt pc 9 then (bif Nat.blt pc 4 then (bif Nat.blt pc 1 then (bif Nat.beq pc 0 then some (.aload_n 0, 1) else none) else (bif Nat.beq pc 1 then some (.invokespecial 3, 3) else none)) else (bif Nat.blt pc 5 then (bif Nat.beq pc 4 then some (.aload_n 0, 1) else none) else (bif Nat.blt pc 7 then (bif Nat.beq pc 5 then some (.bipush 12, 2) else none) else (bif Nat.beq pc 7 then some (.newarray .int, 2) else none)))) else (bif Nat.blt pc 15 then (bif Nat.blt pc 12 then (bif Nat.beq pc 9 then some (.putfield 9, 3) else none) else (bif Nat.blt pc 13 then (bif Nat.beq pc 12 then some (.aload_n 0, 1) else none) else (bif Nat.beq pc 13 then some (.bipush 12, 2) else none))) else (bif Nat.blt pc 17 then (bif Nat.beq pc 15 then some (.newarray .int, 2) else none) else (bif Nat.blt pc 20 then (bif Nat.beq pc 17 then some (.putfield 15, 3) else none) else (bif Nat.beq pc 20 then some (.aload_n 0, 1) else none))))) else (bif Nat.blt pc 34 then (bif Nat.blt pc 28 then (bif Nat.blt pc 23 then (bif Nat.beq pc 21 then some (.bipush 12, 2) else none) else (bif Nat.blt pc 25 then (bif Nat.beq pc 23 then some (.newarray .int, 2) else none) else (bif Nat.beq pc 25 then some (.putfield 18, 3) else none))) else (bif Nat.blt pc 29 then (bif Nat.beq pc 28 then some (.aload_n 0, 1) else none) else (bif Nat.blt pc 32 then (bif Nat.beq pc 29 then some (.sipush 144, 3) else none) else (bif Nat.beq pc 32 then some (.newarray .int, 2) else none)))) else (bif Nat.blt pc 41 then (bif Nat.blt pc 37 then (bif Nat.beq pc 34 then some (.putfield 21, 3) else none) else (bif Nat.blt pc 38 then (bif Nat.beq pc 37 then some (.aload_n 0, 1) else none) else (bif Nat.beq pc 38 then some (.sipush 144, 3) else none))) else (bif Nat.blt pc 43 then (bif Nat.beq pc 41 then some (.newarray .int, 2) else none) else (bif Nat.blt pc 46 then (bif Nat.beq pc 43 then some (.putfield 24, 3) else none) else (bif Nat.beq pc 46 then some (.return_, 1) else none))))))
def M_X6_init : MR := (S_X6_init, P_TownFolk_Town, gd 47 C_X6_init)
set_option maxRecDepth 100000 in
theorem Mok_X6_init : MOK M_X6_init := ⟨gd_ok (by decide +kernel), Pok_TownFolk_Town, by decide +kernel⟩
def C_X6_has (pc : Nat) : Option (Instr × Nat) := (bif Nat.blt pc 9 then (bif Nat.blt pc 4 then (bif Nat.blt pc 1 then (bif Nat.beq pc 0 then some (.iload_n 1, 1) else none) else (bif Nat.beq pc 1 then some (.ifCond .lt 15, 3) else none)) else (bif Nat.blt pc 5 then (bif Nat.beq pc 4 then some (.iload_n 1, 1) else none) else (bif Nat.blt pc 6 then (bif Nat.beq pc 5 then some (.aload_n 0, 1) else none) else (bif Nat.beq pc 6 then some (.getfield 27, 3) else none)))) else (bif Nat.blt pc 13 then (bif Nat.blt pc 12 then (bif Nat.beq pc 9 then some (.if_icmp .ge 7, 3) else none) else (bif Nat.beq pc 12 then some (.iconst 1, 1) else none)) else (bif Nat.blt pc 16 then (bif Nat.beq pc 13 then some (.goto 4, 3) else none) else (bif Nat.blt pc 17 then (bif Nat.beq pc 16 then some (.iconst 0, 1) else none) else (bif Nat.beq pc 17 then some (.ireturn, 1) else none)))))
def M_X6_has : MR := (S_X6_has, P_TownFolk_Town, gd 18 C_X6_has)
set_option maxRecDepth 100000 in
theorem Mok_X6_has : MOK M_X6_has := ⟨gd_ok (by decide +kernel), Pok_TownFolk_Town, by decide +kernel⟩
def C_X6_addPlace (pc : Nat) : Option (Instr × Nat) := (bif Nat.blt pc 51 then (bif Nat.blt pc 25 then (bif Nat.blt pc 12 then (bif Nat.blt pc 6 then (bif Nat.blt pc 1 then (bif Nat.beq pc 0 then some (.aload_n 0, 1) else none) else (bif Nat.blt pc 4 then (bif Nat.beq pc 1 then some (.getfield 27, 3) else none) else (bif Nat.beq pc 4 then some (.istore 4, 2) else none))) else (bif Nat.blt pc 8 then (bif Nat.blt pc 7 then (bif Nat.beq pc 6 then some (.aload_n 0, 1) else none) else (bif Nat.beq pc 7 then some (.dup, 1) else none)) else (bif Nat.blt pc 11 then (bif Nat.beq pc 8 then some (.getfield 27, 3) else none) else (bif Nat.beq pc 11 then some (.iconst 1, 1) else none)))) else (bif Nat.blt pc 20 then (bif Nat.blt pc 16 then (bif Nat.blt pc 13 then (bif Nat.beq pc 12 then some (.iadd, 1) else none) else (bif Nat.beq pc 13 then some (.putfield 27, 3) else none)) else (bif Nat.blt pc 17 then (bif Nat.beq pc 16 then some (.aload_n 0, 1) else none) else (bif Nat.beq pc 17 then some (.getfield 9, 3) else none))) else (bif Nat.blt pc 23 then (bif Nat.blt pc 22 then (bif Nat.beq pc 20 then some (.iload 4, 2) else none) else (bif Nat.beq pc 22 then some (.iload_n 1, 1) else none)) else (bif Nat.blt pc 24 then (bif Nat.beq pc 23 then some (.iastore, 1) else none) else (bif Nat.beq pc 24 then some (.aload_n 0, 1) else none))))) else (bif Nat.blt pc 38 then (bif Nat.blt pc 31 then (bif Nat.blt pc 28 then (bif Nat.beq pc 25 then some (.getfield 15, 3) else none) else (bif Nat.blt pc 30 then (bif Nat.beq pc 28 then some (.iload 4, 2) else none) else (bif Nat.beq pc 30 then some (.iload_n 2, 1) else none))) else (bif Nat.blt pc 33 then (bif Nat.blt pc 32 then (bif Nat.beq pc 31 then some (.iastore, 1) else none) else (bif Nat.beq pc 32 then some (.aload_n 0, 1) else none)) else (bif Nat.blt pc 36 then (bif Nat.beq pc 33 then some (.getfield 18, 3) else none) else (bif Nat.beq pc 36 then some (.iload 4, 2) else none)))) else (bif Nat.blt pc 43 then (bif Nat.blt pc 40 then (bif Nat.blt pc 39 then (bif Nat.beq pc 38 then some (.iload_n 3, 1) else none) else (bif Nat.beq pc 39 then some (.iastore, 1) else none)) else (bif Nat.blt pc 41 then (bif Nat.beq pc 40 then some (.iconst 0, 1) else none) else (bif Nat.beq pc 41 then some (.istore 5, 2) else none))) else (bif Nat.blt pc 47 then (bif Nat.blt pc 45 then (bif Nat.beq pc 43 then some (.iload 5, 2) else none) else (bif Nat.beq pc 45 then some (.iload 4, 2) else none)) else (bif Nat.blt pc 50 then (bif Nat.beq pc 47 then some (.if_icmp .gt 37, 3) else none) else (bif Nat.beq pc 50 then some (.aload_n 0, 1) else none)))))) else (bif Nat.blt pc 76 then (bif Nat.blt pc 63 then (bif Nat.blt pc 58 then (bif Nat.blt pc 54 then (bif Nat.beq pc 51 then some (.getfield 24, 3) else none) else (bif Nat.blt pc 56 then (bif Nat.beq pc 54 then some (.iload 4, 2) else none) else (bif Nat.beq pc 56 then some (.bipush 12, 2) else none))) else (bif Nat.blt pc 61 then (bif Nat.blt pc 59 then (bif Nat.beq pc 58 then some (.imul, 1) else none) else (bif Nat.beq pc 59 then some (.iload 5, 2) else none)) else (bif Nat.blt pc 62 then (bif Nat.beq pc 61 then some (.iadd, 1) else none) else (bif Nat.beq pc 62 then some (.iconst (-1), 1) else none)))) else (bif Nat.blt pc 70 then (bif Nat.blt pc 65 then (bif Nat.blt pc 64 then (bif Nat.beq pc 63 then some (.iastore, 1) else none) else (bif Nat.beq pc 64 then some (.aload_n 0, 1) else none)) else (bif Nat.blt pc 68 then (bif Nat.beq pc 65 then some (.getfield 24, 3) else none) else (bif Nat.beq pc 68 then some (.iload 5, 2) else none))) else (bif Nat.blt pc 73 then (bif Nat.blt pc 72 then (bif Nat.beq pc 70 then some (.bipush 12, 2) else none) else (bif Nat.beq pc 72 then some (.imul, 1) else none)) else (bif Nat.blt pc 75 then (bif Nat.beq pc 73 then some (.iload 4, 2) else none) else (bif Nat.beq pc 75 then some (.iadd, 1) else none))))) else (bif Nat.blt pc 90 then (bif Nat.blt pc 81 then (bif Nat.blt pc 77 then (bif Nat.beq pc 76 then some (.iconst (-1), 1) else none) else (bif Nat.blt pc 78 then (bif Nat.beq pc 77 then some (.iastore, 1) else none) else (bif Nat.beq pc 78 then some (.iinc 5 1, 3) else none))) else (bif Nat.blt pc 85 then (bif Nat.blt pc 84 then (bif Nat.beq pc 81 then some (.goto (-38), 3) else none) else (bif Nat.beq pc 84 then some (.aload_n 0, 1) else none)) else (bif Nat.blt pc 88 then (bif Nat.beq pc 85 then some (.getfield 24, 3) else none) else (bif Nat.beq pc 88 then some (.iload 4, 2) else none)))) else (bif Nat.blt pc 96 then (bif Nat.blt pc 93 then (bif Nat.blt pc 92 then (bif Nat.beq pc 90 then some (.bipush 12, 2) else none) else (bif Nat.beq pc 92 then some (.imul, 1) else none)) else (bif Nat.blt pc 95 then (bif Nat.beq pc 93 then some (.iload 4, 2) else none) else (bif Nat.beq pc 95 then some (.iadd, 1) else none))) else (bif Nat.blt pc 98 then (bif Nat.blt pc 97 then (bif Nat.beq pc 96 then some (.iconst 0, 1) else none) else (bif Nat.beq pc 97 then some (.iastore, 1) else none)) else (bif Nat.blt pc 100 then (bif Nat.beq pc 98 then some (.iload 4, 2) else none) else (bif Nat.beq pc 100 then some (.ireturn, 1) else none)))))))
def M_X6_addPlace : MR := (S_X6_addPlace, P_TownFolk_Town, gd 101 C_X6_addPlace)
set_option maxRecDepth 100000 in
theorem Mok_X6_addPlace : MOK M_X6_addPlace := ⟨gd_ok (by decide +kernel), Pok_TownFolk_Town, by decide +kernel⟩
def C_X6_addWay (pc : Nat) : Option (Instr × Nat) := (bif Nat.blt pc 62 then (bif Nat.blt pc 34 then (bif Nat.blt pc 17 then (bif Nat.blt pc 7 then (bif Nat.blt pc 2 then (bif Nat.blt pc 1 then (bif Nat.beq pc 0 then some (.aload_n 0, 1) else none) else (bif Nat.beq pc 1 then some (.dup, 1) else none)) else (bif Nat.blt pc 5 then (bif Nat.beq pc 2 then some (.getfield 31, 3) else none) else (bif Nat.blt pc 6 then (bif Nat.beq pc 5 then some (.iconst 1, 1) else none) else (bif Nat.beq pc 6 then some (.iadd, 1) else none)))) else (bif Nat.blt pc 11 then (bif Nat.blt pc 10 then (bif Nat.beq pc 7 then some (.putfield 31, 3) else none) else (bif Nat.beq pc 10 then some (.aload_n 0, 1) else none)) else (bif Nat.blt pc 14 then (bif Nat.beq pc 11 then some (.getfield 21, 3) else none) else (bif Nat.blt pc 15 then (bif Nat.beq pc 14 then some (.iload_n 1, 1) else none) else (bif Nat.beq pc 15 then some (.bipush 12, 2) else none))))) else (bif Nat.blt pc 23 then (bif Nat.blt pc 19 then (bif Nat.blt pc 18 then (bif Nat.beq pc 17 then some (.imul, 1) else none) else (bif Nat.beq pc 18 then some (.iload_n 2, 1) else none)) else (bif Nat.blt pc 20 then (bif Nat.beq pc 19 then some (.iadd, 1) else none) else (bif Nat.blt pc 21 then (bif Nat.beq pc 20 then some (.iaload, 1) else none) else (bif Nat.beq pc 21 then some (.istore 4, 2) else none)))) else (bif Nat.blt pc 28 then (bif Nat.blt pc 25 then (bif Nat.beq pc 23 then some (.iload 4, 2) else none) else (bif Nat.beq pc 25 then some (.ifCond .eq 10, 3) else none)) else (bif Nat.blt pc 30 then (bif Nat.beq pc 28 then some (.iload 4, 2) else none) else (bif Nat.blt pc 31 then (bif Nat.beq pc 30 then some (.iload_n 3, 1) else none) else (bif Nat.beq pc 31 then some (.if_icmp .gt 4, 3) else none)))))) else (bif Nat.blt pc 47 then (bif Nat.blt pc 42 then (bif Nat.blt pc 36 then (bif Nat.blt pc 35 then (bif Nat.beq pc 34 then some (.return_, 1) else none) else (bif Nat.beq pc 35 then some (.aload_n 0, 1) else none)) else (bif Nat.blt pc 39 then (bif Nat.beq pc 36 then some (.getfield 21, 3) else none) else (bif Nat.blt pc 40 then (bif Nat.beq pc 39 then some (.iload_n 1, 1) else none) else (bif Nat.beq pc 40 then some (.bipush 12, 2) else none)))) else (bif Nat.blt pc 44 then (bif Nat.blt pc 43 then (bif Nat.beq pc 42 then some (.imul, 1) else none) else (bif Nat.beq pc 43 then some (.iload_n 2, 1) else none)) else (bif Nat.blt pc 45 then (bif Nat.beq pc 44 then some (.iadd, 1) else none) else (bif Nat.blt pc 46 then (bif Nat.beq pc 45 then some (.iload_n 3, 1) else none) else (bif Nat.beq pc 46 then some (.iastore, 1) else none))))) else (bif Nat.blt pc 55 then (bif Nat.blt pc 51 then (bif Nat.blt pc 48 then (bif Nat.beq pc 47 then some (.aload_n 0, 1) else none) else (bif Nat.beq pc 48 then some (.getfield 21, 3) else none)) else (bif Nat.blt pc 52 then (bif Nat.beq pc 51 then some (.iload_n 2, 1) else none) else (bif Nat.blt pc 54 then (bif Nat.beq pc 52 then some (.bipush 12, 2) else none) else (bif Nat.beq pc 54 then some (.imul, 1) else none)))) else (bif Nat.blt pc 58 then (bif Nat.blt pc 56 then (bif Nat.beq pc 55 then some (.iload_n 1, 1) else none) else (bif Nat.blt pc 57 then (bif Nat.beq pc 56 then some (.iadd, 1) else none) else (bif Nat.beq pc 57 then some (.iload_n 3, 1) else none))) else (bif Nat.blt pc 59 then (bif Nat.beq pc 58 then some (.iastore, 1) else none) else (bif Nat.blt pc 60 then (bif Nat.beq pc 59 then some (.iconst 0, 1) else none) else (bif Nat.beq pc 60 then some (.istore 5, 2) else none))))))) else (bif Nat.blt pc 99 then (bif Nat.blt pc 83 then (bif Nat.blt pc 72 then (bif Nat.blt pc 65 then (bif Nat.blt pc 64 then (bif Nat.beq pc 62 then some (.iload 5, 2) else none) else (bif Nat.beq pc 64 then some (.aload_n 0, 1) else none)) else (bif Nat.blt pc 68 then (bif Nat.beq pc 65 then some (.getfield 27, 3) else none) else (bif Nat.blt pc 71 then (bif Nat.beq pc 68 then some (.if_icmp .ge 73, 3) else none) else (bif Nat.beq pc 71 then some (.iconst 0, 1) else none)))) else (bif Nat.blt pc 76 then (bif Nat.blt pc 74 then (bif Nat.beq pc 72 then some (.istore 6, 2) else none) else (bif Nat.beq pc 74 then some (.iload 6, 2) else none)) else (bif Nat.blt pc 77 then (bif Nat.beq pc 76 then some (.aload_n 0, 1) else none) else (bif Nat.blt pc 80 then (bif Nat.beq pc 77 then some (.getfield 27, 3) else none) else (bif Nat.beq pc 80 then some (.if_icmp .ge 55, 3) else none))))) else (bif Nat.blt pc 91 then (bif Nat.blt pc 86 then (bif Nat.blt pc 84 then (bif Nat.beq pc 83 then some (.aload_n 0, 1) else none) else (bif Nat.beq pc 84 then some (.iload 5, 2) else none)) else (bif Nat.blt pc 88 then (bif Nat.beq pc 86 then some (.iload 6, 2) else none) else (bif Nat.blt pc 89 then (bif Nat.beq pc 88 then some (.aload_n 0, 1) else none) else (bif Nat.beq pc 89 then some (.iload 5, 2) else none)))) else (bif Nat.blt pc 95 then (bif Nat.blt pc 92 then (bif Nat.beq pc 91 then some (.iload_n 1, 1) else none) else (bif Nat.beq pc 92 then some (.invokevirtual 34, 3) else none)) else (bif Nat.blt pc 96 then (bif Nat.beq pc 95 then some (.aload_n 0, 1) else none) else (bif Nat.blt pc 97 then (bif Nat.beq pc 96 then some (.iload_n 2, 1) else none) else (bif Nat.beq pc 97 then some (.iload 6, 2) else none)))))) else (bif Nat.blt pc 118 then (bif Nat.blt pc 109 then (bif Nat.blt pc 103 then (bif Nat.blt pc 102 then (bif Nat.beq pc 99 then some (.invokevirtual 34, 3) else none) else (bif Nat.beq pc 102 then some (.iload_n 3, 1) else none)) else (bif Nat.blt pc 106 then (bif Nat.beq pc 103 then some (.invokevirtual 38, 3) else none) else (bif Nat.blt pc 107 then (bif Nat.beq pc 106 then some (.aload_n 0, 1) else none) else (bif Nat.beq pc 107 then some (.iload 5, 2) else none)))) else (bif Nat.blt pc 112 then (bif Nat.blt pc 111 then (bif Nat.beq pc 109 then some (.iload 6, 2) else none) else (bif Nat.beq pc 111 then some (.aload_n 0, 1) else none)) else (bif Nat.blt pc 114 then (bif Nat.beq pc 112 then some (.iload 5, 2) else none) else (bif Nat.blt pc 115 then (bif Nat.beq pc 114 then some (.iload_n 2, 1) else none) else (bif Nat.beq pc 115 then some (.invokevirtual 34, 3) else none))))) else (bif Nat.blt pc 126 then (bif Nat.blt pc 120 then (bif Nat.blt pc 119 then (bif Nat.beq pc 118 then some (.aload_n 0, 1) else none) else (bif Nat.beq pc 119 then some (.iload_n 1, 1) else none)) else (bif Nat.blt pc 122 then (bif Nat.beq pc 120 then some (.iload 6, 2) else none) else (bif Nat.blt pc 125 then (bif Nat.beq pc 122 then some (.invokevirtual 34, 3) else none) else (bif Nat.beq pc 125 then some (.iload_n 3, 1) else none)))) else (bif Nat.blt pc 135 then (bif Nat.blt pc 129 then (bif Nat.beq pc 126 then some (.invokevirtual 38, 3) else none) else (bif Nat.blt pc 132 then (bif Nat.beq pc 129 then some (.iinc 6 1, 3) else none) else (bif Nat.beq pc 132 then some (.goto (-58), 3) else none))) else (bif Nat.blt pc 138 then (bif Nat.beq pc 135 then some (.iinc 5 1, 3) else none) else (bif Nat.blt pc 141 then (bif Nat.beq pc 138 then some (.goto (-76), 3) else none) else (bif Nat.beq pc 141 then some (.return_, 1) else none))))))))
def M_X6_addWay : MR := (S_X6_addWay, P_TownFolk_Town, gd 142 C_X6_addWay)
set_option maxRecDepth 100000 in
theorem Mok_X6_addWay : MOK M_X6_addWay := ⟨gd_ok (by decide +kernel), Pok_TownFolk_Town, by decide +kernel⟩
def C_X6_shorten (pc : Nat) : Option (Instr × Nat) := (bif Nat.blt pc 29 then (bif Nat.blt pc 16 then (bif Nat.blt pc 7 then (bif Nat.blt pc 2 then (bif Nat.blt pc 1 then (bif Nat.beq pc 0 then some (.iload_n 3, 1) else none) else (bif Nat.beq pc 1 then some (.iconst (-1), 1) else none)) else (bif Nat.blt pc 5 then (bif Nat.beq pc 2 then some (.if_icmp .eq 9, 3) else none) else (bif Nat.beq pc 5 then some (.iload 4, 2) else none))) else (bif Nat.blt pc 11 then (bif Nat.blt pc 8 then (bif Nat.beq pc 7 then some (.iconst (-1), 1) else none) else (bif Nat.beq pc 8 then some (.if_icmp .ne 4, 3) else none)) else (bif Nat.blt pc 12 then (bif Nat.beq pc 11 then some (.return_, 1) else none) else (bif Nat.blt pc 13 then (bif Nat.beq pc 12 then some (.aload_n 0, 1) else none) else (bif Nat.beq pc 13 then some (.getfield 24, 3) else none))))) else (bif Nat.blt pc 22 then (bif Nat.blt pc 19 then (bif Nat.blt pc 17 then (bif Nat.beq pc 16 then some (.iload_n 1, 1) else none) else (bif Nat.beq pc 17 then some (.bipush 12, 2) else none)) else (bif Nat.blt pc 20 then (bif Nat.beq pc 19 then some (.imul, 1) else none) else (bif Nat.blt pc 21 then (bif Nat.beq pc 20 then some (.iload_n 2, 1) else none) else (bif Nat.beq pc 21 then some (.iadd, 1) else none)))) else (bif Nat.blt pc 25 then (bif Nat.blt pc 23 then (bif Nat.beq pc 22 then some (.iaload, 1) else none) else (bif Nat.beq pc 23 then some (.istore 6, 2) else none)) else (bif Nat.blt pc 26 then (bif Nat.beq pc 25 then some (.iload_n 3, 1) else none) else (bif Nat.blt pc 28 then (bif Nat.beq pc 26 then some (.iload 5, 2) else none) else (bif Nat.beq pc 28 then some (.iadd, 1) else none)))))) else (bif Nat.blt pc 47 then (bif Nat.blt pc 36 then (bif Nat.blt pc 32 then (bif Nat.blt pc 31 then (bif Nat.beq pc 29 then some (.iload 4, 2) else none) else (bif Nat.beq pc 31 then some (.iadd, 1) else none)) else (bif Nat.blt pc 34 then (bif Nat.beq pc 32 then some (.istore 7, 2) else none) else (bif Nat.beq pc 34 then some (.iload 6, 2) else none))) else (bif Nat.blt pc 40 then (bif Nat.blt pc 37 then (bif Nat.beq pc 36 then some (.iconst (-1), 1) else none) else (bif Nat.beq pc 37 then some (.if_icmp .eq 10, 3) else none)) else (bif Nat.blt pc 42 then (bif Nat.beq pc 40 then some (.iload 7, 2) else none) else (bif Nat.blt pc 44 then (bif Nat.beq pc 42 then some (.iload 6, 2) else none) else (bif Nat.beq pc 44 then some (.if_icmp .ge 16, 3) else none))))) else (bif Nat.blt pc 55 then (bif Nat.blt pc 51 then (bif Nat.blt pc 48 then (bif Nat.beq pc 47 then some (.aload_n 0, 1) else none) else (bif Nat.beq pc 48 then some (.getfield 24, 3) else none)) else (bif Nat.blt pc 52 then (bif Nat.beq pc 51 then some (.iload_n 1, 1) else none) else (bif Nat.blt pc 54 then (bif Nat.beq pc 52 then some (.bipush 12, 2) else none) else (bif Nat.beq pc 54 then some (.imul, 1) else none)))) else (bif Nat.blt pc 57 then (bif Nat.blt pc 56 then (bif Nat.beq pc 55 then some (.iload_n 2, 1) else none) else (bif Nat.beq pc 56 then some (.iadd, 1) else none)) else (bif Nat.blt pc 59 then (bif Nat.beq pc 57 then some (.iload 7, 2) else none) else (bif Nat.blt pc 60 then (bif Nat.beq pc 59 then some (.iastore, 1) else none) else (bif Nat.beq pc 60 then some (.return_, 1) else none)))))))
def M_X6_shorten : MR := (S_X6_shorten, P_TownFolk_Town, gd 61 C_X6_shorten)
set_option maxRecDepth 100000 in
theorem Mok_X6_shorten : MOK M_X6_shorten := ⟨gd_ok (by decide +kernel), Pok_TownFolk_Town, by decide +kernel⟩
def C_X6_apart (pc : Nat) : Option (Instr × Nat) := (bif Nat.blt pc 7 then (bif Nat.blt pc 4 then (bif Nat.blt pc 1 then (bif Nat.beq pc 0 then some (.aload_n 0, 1) else none) else (bif Nat.beq pc 1 then some (.getfield 24, 3) else none)) else (bif Nat.blt pc 5 then (bif Nat.beq pc 4 then some (.iload_n 1, 1) else none) else (bif Nat.beq pc 5 then some (.bipush 12, 2) else none))) else (bif Nat.blt pc 9 then (bif Nat.blt pc 8 then (bif Nat.beq pc 7 then some (.imul, 1) else none) else (bif Nat.beq pc 8 then some (.iload_n 2, 1) else none)) else (bif Nat.blt pc 10 then (bif Nat.beq pc 9 then some (.iadd, 1) else none) else (bif Nat.blt pc 11 then (bif Nat.beq pc 10 then some (.iaload, 1) else none) else (bif Nat.beq pc 11 then some (.ireturn, 1) else none)))))
def M_X6_apart : MR := (S_X6_apart, P_TownFolk_Town, gd 12 C_X6_apart)
set_option maxRecDepth 100000 in
theorem Mok_X6_apart : MOK M_X6_apart := ⟨gd_ok (by decide +kernel), Pok_TownFolk_Town, by decide +kernel⟩
def C_X6_isReached (pc : Nat) : Option (Instr × Nat) := (bif Nat.blt pc 11 then (bif Nat.blt pc 3 then (bif Nat.blt pc 1 then (bif Nat.beq pc 0 then some (.aload_n 0, 1) else none) else (bif Nat.blt pc 2 then (bif Nat.beq pc 1 then some (.iload_n 1, 1) else none) else (bif Nat.beq pc 2 then some (.iload_n 2, 1) else none))) else (bif Nat.blt pc 8 then (bif Nat.blt pc 6 then (bif Nat.beq pc 3 then some (.invokevirtual 34, 3) else none) else (bif Nat.beq pc 6 then some (.istore 4, 2) else none)) else (bif Nat.blt pc 10 then (bif Nat.beq pc 8 then some (.iload 4, 2) else none) else (bif Nat.beq pc 10 then some (.iconst (-1), 1) else none)))) else (bif Nat.blt pc 20 then (bif Nat.blt pc 16 then (bif Nat.blt pc 14 then (bif Nat.beq pc 11 then some (.if_icmp .eq 13, 3) else none) else (bif Nat.beq pc 14 then some (.iload 4, 2) else none)) else (bif Nat.blt pc 17 then (bif Nat.beq pc 16 then some (.iload_n 3, 1) else none) else (bif Nat.beq pc 17 then some (.if_icmp .gt 7, 3) else none))) else (bif Nat.blt pc 24 then (bif Nat.blt pc 21 then (bif Nat.beq pc 20 then some (.iconst 1, 1) else none) else (bif Nat.beq pc 21 then some (.goto 4, 3) else none)) else (bif Nat.blt pc 25 then (bif Nat.beq pc 24 then some (.iconst 0, 1) else none) else (bif Nat.beq pc 25 then some (.ireturn, 1) else none)))))
def M_X6_isReached : MR := (S_X6_isReached, P_TownFolk_Town, gd 26 C_X6_isReached)
set_option maxRecDepth 100000 in
theorem Mok_X6_isReached : MOK M_X6_isReached := ⟨gd_ok (by decide +kernel), Pok_TownFolk_Town, by decide +kernel⟩
def C_X6_wayTicks (pc : Nat) : Option (Instr × Nat) := (bif Nat.blt pc 7 then (bif Nat.blt pc 4 then (bif Nat.blt pc 1 then (bif Nat.beq pc 0 then some (.aload_n 0, 1) else none) else (bif Nat.beq pc 1 then some (.getfield 21, 3) else none)) else (bif Nat.blt pc 5 then (bif Nat.beq pc 4 then some (.iload_n 1, 1) else none) else (bif Nat.beq pc 5 then some (.bipush 12, 2) else none))) else (bif Nat.blt pc 9 then (bif Nat.blt pc 8 then (bif Nat.beq pc 7 then some (.imul, 1) else none) else (bif Nat.beq pc 8 then some (.iload_n 2, 1) else none)) else (bif Nat.blt pc 10 then (bif Nat.beq pc 9 then some (.iadd, 1) else none) else (bif Nat.blt pc 11 then (bif Nat.beq pc 10 then some (.iaload, 1) else none) else (bif Nat.beq pc 11 then some (.ireturn, 1) else none)))))
def M_X6_wayTicks : MR := (S_X6_wayTicks, P_TownFolk_Town, gd 12 C_X6_wayTicks)
set_option maxRecDepth 100000 in
theorem Mok_X6_wayTicks : MOK M_X6_wayTicks := ⟨gd_ok (by decide +kernel), Pok_TownFolk_Town, by decide +kernel⟩
def C_X6_isOpen (pc : Nat) : Option (Instr × Nat) := (bif Nat.blt pc 12 then (bif Nat.blt pc 6 then (bif Nat.blt pc 4 then (bif Nat.blt pc 1 then (bif Nat.beq pc 0 then some (.aload_n 0, 1) else none) else (bif Nat.beq pc 1 then some (.getfield 15, 3) else none)) else (bif Nat.blt pc 5 then (bif Nat.beq pc 4 then some (.iload_n 1, 1) else none) else (bif Nat.beq pc 5 then some (.iaload, 1) else none))) else (bif Nat.blt pc 10 then (bif Nat.blt pc 7 then (bif Nat.beq pc 6 then some (.iload_n 2, 1) else none) else (bif Nat.beq pc 7 then some (.if_icmp .gt 17, 3) else none)) else (bif Nat.blt pc 11 then (bif Nat.beq pc 10 then some (.iload_n 2, 1) else none) else (bif Nat.beq pc 11 then some (.aload_n 0, 1) else none)))) else (bif Nat.blt pc 20 then (bif Nat.blt pc 16 then (bif Nat.blt pc 15 then (bif Nat.beq pc 12 then some (.getfield 18, 3) else none) else (bif Nat.beq pc 15 then some (.iload_n 1, 1) else none)) else (bif Nat.blt pc 17 then (bif Nat.beq pc 16 then some (.iaload, 1) else none) else (bif Nat.beq pc 17 then some (.if_icmp .ge 7, 3) else none))) else (bif Nat.blt pc 24 then (bif Nat.blt pc 21 then (bif Nat.beq pc 20 then some (.iconst 1, 1) else none) else (bif Nat.beq pc 21 then some (.goto 4, 3) else none)) else (bif Nat.blt pc 25 then (bif Nat.beq pc 24 then some (.iconst 0, 1) else none) else (bif Nat.beq pc 25 then some (.ireturn, 1) else none)))))
def M_X6_isOpen : MR := (S_X6_isOpen, P_TownFolk_Town, gd 26 C_X6_isOpen)
set_option maxRecDepth 100000 in
theorem Mok_X6_isOpen : MOK M_X6_isOpen := ⟨gd_ok (by decide +kernel), Pok_TownFolk_Town, by decide +kernel⟩
def C_X7_init (pc : Nat) : Option (Instr × Nat) := (bif Nat.blt pc 91 then (bif Nat.blt pc 46 then (bif Nat.blt pc 21 then (bif Nat.blt pc 9 then (bif Nat.blt pc 4 then (bif Nat.blt pc 1 then (bif Nat.beq pc 0 then some (.aload_n 0, 1) else none) else (bif Nat.beq pc 1 then some (.invokespecial 3, 3) else none)) else (bif Nat.blt pc 5 then (bif Nat.beq pc 4 then some (.aload_n 0, 1) else none) else (bif Nat.blt pc 8 then (bif Nat.beq pc 5 then some (.new 9, 3) else none) else (bif Nat.beq pc 8 then some (.dup, 1) else none)))) else (bif Nat.blt pc 15 then (bif Nat.blt pc 12 then (bif Nat.beq pc 9 then some (.invokespecial 11, 3) else none) else (bif Nat.beq pc 12 then some (.putfield 12, 3) else none)) else (bif Nat.blt pc 16 then (bif Nat.beq pc 15 then some (.aload_n 0, 1) else none) else (bif Nat.blt pc 18 then (bif Nat.beq pc 16 then some (.bipush 8, 2) else none) else (bif Nat.beq pc 18 then some (.anewarray 16, 3) else none))))) else (bif Nat.blt pc 33 then (bif Nat.blt pc 25 then (bif Nat.blt pc 24 then (bif Nat.beq pc 21 then some (.putfield 18, 3) else none) else (bif Nat.beq pc 24 then some (.aload_n 0, 1) else none)) else (bif Nat.blt pc 27 then (bif Nat.beq pc 25 then some (.bipush 20, 2) else none) else (bif Nat.blt pc 30 then (bif Nat.beq pc 27 then some (.anewarray 22, 3) else none) else (bif Nat.beq pc 30 then some (.putfield 24, 3) else none)))) else (bif Nat.blt pc 39 then (bif Nat.blt pc 34 then (bif Nat.beq pc 33 then some (.aload_n 0, 1) else none) else (bif Nat.blt pc 36 then (bif Nat.beq pc 34 then some (.bipush 10, 2) else none) else (bif Nat.beq pc 36 then some (.anewarray 28, 3) else none))) else (bif Nat.blt pc 42 then (bif Nat.beq pc 39 then some (.putfield 30, 3) else none) else (bif Nat.blt pc 43 then (bif Nat.beq pc 42 then some (.aload_n 0, 1) else none) else (bif Nat.beq pc 43 then some (.new 34, 3) else none)))))) else (bif Nat.blt pc 68 then (bif Nat.blt pc 57 then (bif Nat.blt pc 50 then (bif Nat.blt pc 47 then (bif Nat.beq pc 46 then some (.dup, 1) else none) else (bif Nat.beq pc 47 then some (.invokespecial 36, 3) else none)) else (bif Nat.blt pc 53 then (bif Nat.beq pc 50 then some (.putfield 37, 3) else none) else (bif Nat.blt pc 54 then (bif Nat.beq pc 53 then some (.aload_n 0, 1) else none) else (bif Nat.beq pc 54 then some (.new 41, 3) else none)))) else (bif Nat.blt pc 61 then (bif Nat.blt pc 58 then (bif Nat.beq pc 57 then some (.dup, 1) else none) else (bif Nat.beq pc 58 then some (.invokespecial 43, 3) else none)) else (bif Nat.blt pc 64 then (bif Nat.beq pc 61 then some (.putfield 44, 3) else none) else (bif Nat.blt pc 65 then (bif Nat.beq pc 64 then some (.aload_n 0, 1) else none) else (bif Nat.beq pc 65 then some (.new 48, 3) else none))))) else (bif Nat.blt pc 78 then (bif Nat.blt pc 72 then (bif Nat.blt pc 69 then (bif Nat.beq pc 68 then some (.dup, 1) else none) else (bif Nat.beq pc 69 then some (.invokespecial 50, 3) else none)) else (bif Nat.blt pc 75 then (bif Nat.beq pc 72 then some (.putfield 51, 3) else none) else (bif Nat.blt pc 76 then (bif Nat.beq pc 75 then some (.aload_n 0, 1) else none) else (bif Nat.beq pc 76 then some (.bipush 12, 2) else none)))) else (bif Nat.blt pc 84 then (bif Nat.blt pc 80 then (bif Nat.beq pc 78 then some (.newarray .int, 2) else none) else (bif Nat.blt pc 83 then (bif Nat.beq pc 80 then some (.putfield 55, 3) else none) else (bif Nat.beq pc 83 then some (.aload_n 0, 1) else none))) else (bif Nat.blt pc 86 then (bif Nat.beq pc 84 then some (.bipush 8, 2) else none) else (bif Nat.blt pc 88 then (bif Nat.beq pc 86 then some (.newarray .int, 2) else none) else (bif Nat.beq pc 88 then some (.putfield 59, 3) else none))))))) else (bif Nat.blt pc 130 then (bif Nat.blt pc 108 then (bif Nat.blt pc 99 then (bif Nat.blt pc 93 then (bif Nat.blt pc 92 then (bif Nat.beq pc 91 then some (.iconst 0, 1) else none) else (bif Nat.beq pc 92 then some (.istore_n 1, 1) else none)) else (bif Nat.blt pc 94 then (bif Nat.beq pc 93 then some (.iload_n 1, 1) else none) else (bif Nat.blt pc 96 then (bif Nat.beq pc 94 then some (.bipush 8, 2) else none) else (bif Nat.beq pc 96 then some (.if_icmp .ge 22, 3) else none)))) else (bif Nat.blt pc 103 then (bif Nat.blt pc 100 then (bif Nat.beq pc 99 then some (.aload_n 0, 1) else none) else (bif Nat.beq pc 100 then some (.getfield 18, 3) else none)) else (bif Nat.blt pc 104 then (bif Nat.beq pc 103 then some (.iload_n 1, 1) else none) else (bif Nat.blt pc 107 then (bif Nat.beq pc 104 then some (.new 16, 3) else none) else (bif Nat.beq pc 107 then some (.dup, 1) else none))))) else (bif Nat.blt pc 119 then (bif Nat.blt pc 112 then (bif Nat.blt pc 111 then (bif Nat.beq pc 108 then some (.invokespecial 62, 3) else none) else (bif Nat.beq pc 111 then some (.aastore, 1) else none)) else (bif Nat.blt pc 115 then (bif Nat.beq pc 112 then some (.iinc 1 1, 3) else none) else (bif Nat.blt pc 118 then (bif Nat.beq pc 115 then some (.goto (-22), 3) else none) else (bif Nat.beq pc 118 then some (.iconst 0, 1) else none)))) else (bif Nat.blt pc 123 then (bif Nat.blt pc 120 then (bif Nat.beq pc 119 then some (.istore_n 1, 1) else none) else (bif Nat.blt pc 121 then (bif Nat.beq pc 120 then some (.iload_n 1, 1) else none) else (bif Nat.beq pc 121 then some (.bipush 20, 2) else none))) else (bif Nat.blt pc 126 then (bif Nat.beq pc 123 then some (.if_icmp .ge 22, 3) else none) else (bif Nat.blt pc 127 then (bif Nat.beq pc 126 then some (.aload_n 0, 1) else none) else (bif Nat.beq pc 127 then some (.getfield 24, 3) else none)))))) else (bif Nat.blt pc 150 then (bif Nat.blt pc 139 then (bif Nat.blt pc 134 then (bif Nat.blt pc 131 then (bif Nat.beq pc 130 then some (.iload_n 1, 1) else none) else (bif Nat.beq pc 131 then some (.new 22, 3) else none)) else (bif Nat.blt pc 135 then (bif Nat.beq pc 134 then some (.dup, 1) else none) else (bif Nat.blt pc 138 then (bif Nat.beq pc 135 then some (.invokespecial 63, 3) else none) else (bif Nat.beq pc 138 then some (.aastore, 1) else none)))) else (bif Nat.blt pc 146 then (bif Nat.blt pc 142 then (bif Nat.beq pc 139 then some (.iinc 1 1, 3) else none) else (bif Nat.blt pc 145 then (bif Nat.beq pc 142 then some (.goto (-22), 3) else none) else (bif Nat.beq pc 145 then some (.iconst 0, 1) else none))) else (bif Nat.blt pc 147 then (bif Nat.beq pc 146 then some (.istore_n 1, 1) else none) else (bif Nat.blt pc 148 then (bif Nat.beq pc 147 then some (.iload_n 1, 1) else none) else (bif Nat.beq pc 148 then some (.bipush 10, 2) else none))))) else (bif Nat.blt pc 161 then (bif Nat.blt pc 154 then (bif Nat.blt pc 153 then (bif Nat.beq pc 150 then some (.if_icmp .ge 22, 3) else none) else (bif Nat.beq pc 153 then some (.aload_n 0, 1) else none)) else (bif Nat.blt pc 157 then (bif Nat.beq pc 154 then some (.getfield 30, 3) else none) else (bif Nat.blt pc 158 then (bif Nat.beq pc 157 then some (.iload_n 1, 1) else none) else (bif Nat.beq pc 158 then some (.new 28, 3) else none)))) else (bif Nat.blt pc 166 then (bif Nat.blt pc 162 then (bif Nat.beq pc 161 then some (.dup, 1) else none) else (bif Nat.blt pc 165 then (bif Nat.beq pc 162 then some (.invokespecial 64, 3) else none) else (bif Nat.beq pc 165 then some (.aastore, 1) else none))) else (bif Nat.blt pc 169 then (bif Nat.beq pc 166 then some (.iinc 1 1, 3) else none) else (bif Nat.blt pc 172 then (bif Nat.beq pc 169 then some (.goto (-22), 3) else none) else (bif Nat.beq pc 172 then some (.return_, 1) else none))))))))
def M_X7_init : MR := (S_X7_init, P_TownFolk, gd 173 C_X7_init)
set_option maxRecDepth 100000 in
theorem Mok_X7_init : MOK M_X7_init := ⟨gd_ok (by decide +kernel), Pok_TownFolk, by decide +kernel⟩
def C_X7_place (pc : Nat) : Option (Instr × Nat) := (bif Nat.blt pc 32 then (bif Nat.blt pc 13 then (bif Nat.blt pc 6 then (bif Nat.blt pc 2 then (bif Nat.blt pc 1 then (bif Nat.beq pc 0 then some (.iload_n 1, 1) else none) else (bif Nat.beq pc 1 then some (.iconst 1, 1) else none)) else (bif Nat.blt pc 5 then (bif Nat.beq pc 2 then some (.if_icmp .lt 24, 3) else none) else (bif Nat.beq pc 5 then some (.iload_n 1, 1) else none))) else (bif Nat.blt pc 11 then (bif Nat.blt pc 8 then (bif Nat.beq pc 6 then some (.bipush 9, 2) else none) else (bif Nat.beq pc 8 then some (.if_icmp .gt 18, 3) else none)) else (bif Nat.blt pc 12 then (bif Nat.beq pc 11 then some (.iload_n 2, 1) else none) else (bif Nat.beq pc 12 then some (.iload_n 3, 1) else none)))) else (bif Nat.blt pc 23 then (bif Nat.blt pc 19 then (bif Nat.blt pc 16 then (bif Nat.beq pc 13 then some (.invokestatic 65, 3) else none) else (bif Nat.beq pc 16 then some (.ifCond .eq 10, 3) else none)) else (bif Nat.blt pc 20 then (bif Nat.beq pc 19 then some (.aload_n 0, 1) else none) else (bif Nat.beq pc 20 then some (.getfield 69, 3) else none))) else (bif Nat.blt pc 27 then (bif Nat.blt pc 26 then (bif Nat.beq pc 23 then some (.ifCond .eq 10, 3) else none) else (bif Nat.beq pc 26 then some (.aload_n 0, 1) else none)) else (bif Nat.blt pc 29 then (bif Nat.beq pc 27 then some (.bipush (-6), 2) else none) else (bif Nat.beq pc 29 then some (.invokevirtual 73, 3) else none))))) else (bif Nat.blt pc 48 then (bif Nat.blt pc 40 then (bif Nat.blt pc 34 then (bif Nat.blt pc 33 then (bif Nat.beq pc 32 then some (.ireturn, 1) else none) else (bif Nat.beq pc 33 then some (.aload_n 0, 1) else none)) else (bif Nat.blt pc 37 then (bif Nat.beq pc 34 then some (.getfield 12, 3) else none) else (bif Nat.beq pc 37 then some (.getfield 77, 3) else none))) else (bif Nat.blt pc 45 then (bif Nat.blt pc 42 then (bif Nat.beq pc 40 then some (.bipush 12, 2) else none) else (bif Nat.beq pc 42 then some (.if_icmp .lt 10, 3) else none)) else (bif Nat.blt pc 46 then (bif Nat.beq pc 45 then some (.aload_n 0, 1) else none) else (bif Nat.beq pc 46 then some (.bipush (-7), 2) else none)))) else (bif Nat.blt pc 56 then (bif Nat.blt pc 52 then (bif Nat.blt pc 51 then (bif Nat.beq pc 48 then some (.invokevirtual 73, 3) else none) else (bif Nat.beq pc 51 then some (.ireturn, 1) else none)) else (bif Nat.blt pc 53 then (bif Nat.beq pc 52 then some (.aload_n 0, 1) else none) else (bif Nat.beq pc 53 then some (.getfield 12, 3) else none))) else (bif Nat.blt pc 58 then (bif Nat.blt pc 57 then (bif Nat.beq pc 56 then some (.iload_n 1, 1) else none) else (bif Nat.beq pc 57 then some (.iload_n 2, 1) else none)) else (bif Nat.blt pc 59 then (bif Nat.beq pc 58 then some (.iload_n 3, 1) else none) else (bif Nat.blt pc 62 then (bif Nat.beq pc 59 then some (.invokevirtual 81, 3) else none) else (bif Nat.beq pc 62 then some (.ireturn, 1) else none)))))))
def M_X7_place : MR := (S_X7_place, P_TownFolk, gd 63 C_X7_place)
set_option maxRecDepth 100000 in
theorem Mok_X7_place : MOK M_X7_place := ⟨gd_ok (by decide +kernel), Pok_TownFolk, by decide +kernel⟩
def C_X7_way (pc : Nat) : Option (Instr × Nat) := (bif Nat.blt pc 44 then (bif Nat.blt pc 23 then (bif Nat.blt pc 11 then (bif Nat.blt pc 4 then (bif Nat.blt pc 1 then (bif Nat.beq pc 0 then some (.aload_n 0, 1) else none) else (bif Nat.beq pc 1 then some (.getfield 12, 3) else none)) else (bif Nat.blt pc 5 then (bif Nat.beq pc 4 then some (.iload_n 1, 1) else none) else (bif Nat.blt pc 8 then (bif Nat.beq pc 5 then some (.invokevirtual 85, 3) else none) else (bif Nat.beq pc 8 then some (.ifCond .eq 14, 3) else none)))) else (bif Nat.blt pc 16 then (bif Nat.blt pc 12 then (bif Nat.beq pc 11 then some (.aload_n 0, 1) else none) else (bif Nat.blt pc 15 then (bif Nat.beq pc 12 then some (.getfield 12, 3) else none) else (bif Nat.beq pc 15 then some (.iload_n 2, 1) else none))) else (bif Nat.blt pc 19 then (bif Nat.beq pc 16 then some (.invokevirtual 85, 3) else none) else (bif Nat.blt pc 22 then (bif Nat.beq pc 19 then some (.ifCond .ne 9, 3) else none) else (bif Nat.beq pc 22 then some (.aload_n 0, 1) else none))))) else (bif Nat.blt pc 33 then (bif Nat.blt pc 28 then (bif Nat.blt pc 24 then (bif Nat.beq pc 23 then some (.iconst (-1), 1) else none) else (bif Nat.blt pc 27 then (bif Nat.beq pc 24 then some (.invokevirtual 73, 3) else none) else (bif Nat.beq pc 27 then some (.ireturn, 1) else none))) else (bif Nat.blt pc 29 then (bif Nat.beq pc 28 then some (.iload_n 1, 1) else none) else (bif Nat.blt pc 30 then (bif Nat.beq pc 29 then some (.iload_n 2, 1) else none) else (bif Nat.beq pc 30 then some (.if_icmp .eq 21, 3) else none)))) else (bif Nat.blt pc 38 then (bif Nat.blt pc 34 then (bif Nat.beq pc 33 then some (.iload_n 3, 1) else none) else (bif Nat.blt pc 35 then (bif Nat.beq pc 34 then some (.iconst 1, 1) else none) else (bif Nat.beq pc 35 then some (.if_icmp .lt 16, 3) else none))) else (bif Nat.blt pc 39 then (bif Nat.beq pc 38 then some (.iload_n 3, 1) else none) else (bif Nat.blt pc 41 then (bif Nat.beq pc 39 then some (.bipush 9, 2) else none) else (bif Nat.beq pc 41 then some (.if_icmp .gt 10, 3) else none)))))) else (bif Nat.blt pc 70 then (bif Nat.blt pc 57 then (bif Nat.blt pc 51 then (bif Nat.blt pc 45 then (bif Nat.beq pc 44 then some (.aload_n 0, 1) else none) else (bif Nat.blt pc 48 then (bif Nat.beq pc 45 then some (.getfield 69, 3) else none) else (bif Nat.beq pc 48 then some (.ifCond .eq 10, 3) else none))) else (bif Nat.blt pc 52 then (bif Nat.beq pc 51 then some (.aload_n 0, 1) else none) else (bif Nat.blt pc 54 then (bif Nat.beq pc 52 then some (.bipush (-6), 2) else none) else (bif Nat.beq pc 54 then some (.invokevirtual 73, 3) else none)))) else (bif Nat.blt pc 62 then (bif Nat.blt pc 58 then (bif Nat.beq pc 57 then some (.ireturn, 1) else none) else (bif Nat.blt pc 59 then (bif Nat.beq pc 58 then some (.aload_n 0, 1) else none) else (bif Nat.beq pc 59 then some (.getfield 12, 3) else none))) else (bif Nat.blt pc 65 then (bif Nat.beq pc 62 then some (.getfield 89, 3) else none) else (bif Nat.blt pc 67 then (bif Nat.beq pc 65 then some (.bipush 30, 2) else none) else (bif Nat.beq pc 67 then some (.if_icmp .lt 10, 3) else none))))) else (bif Nat.blt pc 81 then (bif Nat.blt pc 76 then (bif Nat.blt pc 71 then (bif Nat.beq pc 70 then some (.aload_n 0, 1) else none) else (bif Nat.blt pc 73 then (bif Nat.beq pc 71 then some (.bipush (-7), 2) else none) else (bif Nat.beq pc 73 then some (.invokevirtual 73, 3) else none))) else (bif Nat.blt pc 77 then (bif Nat.beq pc 76 then some (.ireturn, 1) else none) else (bif Nat.blt pc 78 then (bif Nat.beq pc 77 then some (.aload_n 0, 1) else none) else (bif Nat.beq pc 78 then some (.getfield 12, 3) else none)))) else (bif Nat.blt pc 84 then (bif Nat.blt pc 82 then (bif Nat.beq pc 81 then some (.iload_n 1, 1) else none) else (bif Nat.blt pc 83 then (bif Nat.beq pc 82 then some (.iload_n 2, 1) else none) else (bif Nat.beq pc 83 then some (.iload_n 3, 1) else none))) else (bif Nat.blt pc 87 then (bif Nat.beq pc 84 then some (.invokevirtual 92, 3) else none) else (bif Nat.blt pc 88 then (bif Nat.beq pc 87 then some (.iconst 1, 1) else none) else (bif Nat.beq pc 88 then some (.ireturn, 1) else none)))))))
def M_X7_way : MR := (S_X7_way, P_TownFolk, gd 89 C_X7_way)
set_option maxRecDepth 100000 in
theorem Mok_X7_way : MOK M_X7_way := ⟨gd_ok (by decide +kernel), Pok_TownFolk, by decide +kernel⟩
def C_X7_folk (pc : Nat) : Option (Instr × Nat) := (bif Nat.blt pc 41 then (bif Nat.blt pc 18 then (bif Nat.blt pc 11 then (bif Nat.blt pc 4 then (bif Nat.blt pc 1 then (bif Nat.beq pc 0 then some (.aload_n 0, 1) else none) else (bif Nat.beq pc 1 then some (.getfield 12, 3) else none)) else (bif Nat.blt pc 5 then (bif Nat.beq pc 4 then some (.iload_n 1, 1) else none) else (bif Nat.blt pc 8 then (bif Nat.beq pc 5 then some (.invokevirtual 85, 3) else none) else (bif Nat.beq pc 8 then some (.ifCond .ne 9, 3) else none)))) else (bif Nat.blt pc 13 then (bif Nat.blt pc 12 then (bif Nat.beq pc 11 then some (.aload_n 0, 1) else none) else (bif Nat.beq pc 12 then some (.iconst (-1), 1) else none)) else (bif Nat.blt pc 16 then (bif Nat.beq pc 13 then some (.invokevirtual 73, 3) else none) else (bif Nat.blt pc 17 then (bif Nat.beq pc 16 then some (.ireturn, 1) else none) else (bif Nat.beq pc 17 then some (.aload_n 0, 1) else none))))) else (bif Nat.blt pc 30 then (bif Nat.blt pc 24 then (bif Nat.blt pc 21 then (bif Nat.beq pc 18 then some (.getfield 69, 3) else none) else (bif Nat.beq pc 21 then some (.ifCond .eq 10, 3) else none)) else (bif Nat.blt pc 25 then (bif Nat.beq pc 24 then some (.aload_n 0, 1) else none) else (bif Nat.blt pc 27 then (bif Nat.beq pc 25 then some (.bipush (-6), 2) else none) else (bif Nat.beq pc 27 then some (.invokevirtual 73, 3) else none)))) else (bif Nat.blt pc 35 then (bif Nat.blt pc 31 then (bif Nat.beq pc 30 then some (.ireturn, 1) else none) else (bif Nat.blt pc 32 then (bif Nat.beq pc 31 then some (.aload_n 0, 1) else none) else (bif Nat.beq pc 32 then some (.getfield 96, 3) else none))) else (bif Nat.blt pc 37 then (bif Nat.beq pc 35 then some (.bipush 20, 2) else none) else (bif Nat.blt pc 40 then (bif Nat.beq pc 37 then some (.if_icmp .lt 10, 3) else none) else (bif Nat.beq pc 40 then some (.aload_n 0, 1) else none)))))) else (bif Nat.blt pc 60 then (bif Nat.blt pc 51 then (bif Nat.blt pc 46 then (bif Nat.blt pc 43 then (bif Nat.beq pc 41 then some (.bipush (-7), 2) else none) else (bif Nat.beq pc 43 then some (.invokevirtual 73, 3) else none)) else (bif Nat.blt pc 47 then (bif Nat.beq pc 46 then some (.ireturn, 1) else none) else (bif Nat.blt pc 48 then (bif Nat.beq pc 47 then some (.aload_n 0, 1) else none) else (bif Nat.beq pc 48 then some (.getfield 24, 3) else none)))) else (bif Nat.blt pc 55 then (bif Nat.blt pc 52 then (bif Nat.beq pc 51 then some (.aload_n 0, 1) else none) else (bif Nat.beq pc 52 then some (.getfield 96, 3) else none)) else (bif Nat.blt pc 56 then (bif Nat.beq pc 55 then some (.aaload, 1) else none) else (bif Nat.blt pc 57 then (bif Nat.beq pc 56 then some (.iload_n 1, 1) else none) else (bif Nat.beq pc 57 then some (.putfield 99, 3) else none))))) else (bif Nat.blt pc 67 then (bif Nat.blt pc 62 then (bif Nat.blt pc 61 then (bif Nat.beq pc 60 then some (.aload_n 0, 1) else none) else (bif Nat.beq pc 61 then some (.dup, 1) else none)) else (bif Nat.blt pc 65 then (bif Nat.beq pc 62 then some (.getfield 96, 3) else none) else (bif Nat.blt pc 66 then (bif Nat.beq pc 65 then some (.iconst 1, 1) else none) else (bif Nat.beq pc 66 then some (.iadd, 1) else none)))) else (bif Nat.blt pc 74 then (bif Nat.blt pc 70 then (bif Nat.beq pc 67 then some (.putfield 96, 3) else none) else (bif Nat.blt pc 71 then (bif Nat.beq pc 70 then some (.aload_n 0, 1) else none) else (bif Nat.beq pc 71 then some (.getfield 96, 3) else none))) else (bif Nat.blt pc 75 then (bif Nat.beq pc 74 then some (.iconst 1, 1) else none) else (bif Nat.blt pc 76 then (bif Nat.beq pc 75 then some (.isub, 1) else none) else (bif Nat.beq pc 76 then some (.ireturn, 1) else none)))))))
def M_X7_folk : MR := (S_X7_folk, P_TownFolk, gd 77 C_X7_folk)
set_option maxRecDepth 100000 in
theorem Mok_X7_folk : MOK M_X7_folk := ⟨gd_ok (by decide +kernel), Pok_TownFolk, by decide +kernel⟩
def C_X7_meeting (pc : Nat) : Option (Instr × Nat) := (bif Nat.blt pc 63 then (bif Nat.blt pc 29 then (bif Nat.blt pc 13 then (bif Nat.blt pc 5 then (bif Nat.blt pc 1 then (bif Nat.beq pc 0 then some (.aload_n 0, 1) else none) else (bif Nat.blt pc 2 then (bif Nat.beq pc 1 then some (.iload_n 1, 1) else none) else (bif Nat.beq pc 2 then some (.invokevirtual 102, 3) else none))) else (bif Nat.blt pc 9 then (bif Nat.blt pc 8 then (bif Nat.beq pc 5 then some (.ifCond .eq 14, 3) else none) else (bif Nat.beq pc 8 then some (.aload_n 0, 1) else none)) else (bif Nat.blt pc 12 then (bif Nat.beq pc 9 then some (.getfield 12, 3) else none) else (bif Nat.beq pc 12 then some (.iload_n 2, 1) else none)))) else (bif Nat.blt pc 21 then (bif Nat.blt pc 19 then (bif Nat.blt pc 16 then (bif Nat.beq pc 13 then some (.invokevirtual 85, 3) else none) else (bif Nat.beq pc 16 then some (.ifCond .ne 9, 3) else none)) else (bif Nat.blt pc 20 then (bif Nat.beq pc 19 then some (.aload_n 0, 1) else none) else (bif Nat.beq pc 20 then some (.iconst (-1), 1) else none))) else (bif Nat.blt pc 25 then (bif Nat.blt pc 24 then (bif Nat.beq pc 21 then some (.invokevirtual 73, 3) else none) else (bif Nat.beq pc 24 then some (.ireturn, 1) else none)) else (bif Nat.blt pc 26 then (bif Nat.beq pc 25 then some (.iload_n 1, 1) else none) else (bif Nat.beq pc 26 then some (.invokestatic 105, 3) else none))))) else (bif Nat.blt pc 44 then (bif Nat.blt pc 34 then (bif Nat.blt pc 30 then (bif Nat.beq pc 29 then some (.iconst 2, 1) else none) else (bif Nat.blt pc 33 then (bif Nat.beq pc 30 then some (.if_icmp .lt 27, 3) else none) else (bif Nat.beq pc 33 then some (.iload_n 3, 1) else none))) else (bif Nat.blt pc 39 then (bif Nat.blt pc 36 then (bif Nat.beq pc 34 then some (.iload 4, 2) else none) else (bif Nat.beq pc 36 then some (.invokestatic 65, 3) else none)) else (bif Nat.blt pc 42 then (bif Nat.beq pc 39 then some (.ifCond .eq 18, 3) else none) else (bif Nat.beq pc 42 then some (.iload 5, 2) else none)))) else (bif Nat.blt pc 54 then (bif Nat.blt pc 50 then (bif Nat.blt pc 47 then (bif Nat.beq pc 44 then some (.invokestatic 110, 3) else none) else (bif Nat.beq pc 47 then some (.ifCond .eq 10, 3) else none)) else (bif Nat.blt pc 51 then (bif Nat.beq pc 50 then some (.aload_n 0, 1) else none) else (bif Nat.beq pc 51 then some (.getfield 69, 3) else none))) else (bif Nat.blt pc 58 then (bif Nat.blt pc 57 then (bif Nat.beq pc 54 then some (.ifCond .eq 10, 3) else none) else (bif Nat.beq pc 57 then some (.aload_n 0, 1) else none)) else (bif Nat.blt pc 60 then (bif Nat.beq pc 58 then some (.bipush (-6), 2) else none) else (bif Nat.beq pc 60 then some (.invokevirtual 73, 3) else none)))))) else (bif Nat.blt pc 90 then (bif Nat.blt pc 76 then (bif Nat.blt pc 68 then (bif Nat.blt pc 64 then (bif Nat.beq pc 63 then some (.ireturn, 1) else none) else (bif Nat.blt pc 65 then (bif Nat.beq pc 64 then some (.aload_n 0, 1) else none) else (bif Nat.beq pc 65 then some (.getfield 113, 3) else none))) else (bif Nat.blt pc 73 then (bif Nat.blt pc 70 then (bif Nat.beq pc 68 then some (.bipush 10, 2) else none) else (bif Nat.beq pc 70 then some (.if_icmp .lt 10, 3) else none)) else (bif Nat.blt pc 74 then (bif Nat.beq pc 73 then some (.aload_n 0, 1) else none) else (bif Nat.beq pc 74 then some (.bipush (-7), 2) else none)))) else (bif Nat.blt pc 84 then (bif Nat.blt pc 80 then (bif Nat.blt pc 79 then (bif Nat.beq pc 76 then some (.invokevirtual 73, 3) else none) else (bif Nat.beq pc 79 then some (.ireturn, 1) else none)) else (bif Nat.blt pc 81 then (bif Nat.beq pc 80 then some (.aload_n 0, 1) else none) else (bif Nat.beq pc 81 then some (.getfield 30, 3) else none))) else (bif Nat.blt pc 88 then (bif Nat.blt pc 85 then (bif Nat.beq pc 84 then some (.aload_n 0, 1) else none) else (bif Nat.beq pc 85 then some (.getfield 113, 3) else none)) else (bif Nat.blt pc 89 then (bif Nat.beq pc 88 then some (.aaload, 1) else none) else (bif Nat.beq pc 89 then some (.iload_n 1, 1) else none))))) else (bif Nat.blt pc 104 then (bif Nat.blt pc 96 then (bif Nat.blt pc 92 then (bif Nat.blt pc 91 then (bif Nat.beq pc 90 then some (.iload_n 2, 1) else none) else (bif Nat.beq pc 91 then some (.iload_n 3, 1) else none)) else (bif Nat.blt pc 94 then (bif Nat.beq pc 92 then some (.iload 4, 2) else none) else (bif Nat.beq pc 94 then some (.iload 5, 2) else none))) else (bif Nat.blt pc 100 then (bif Nat.blt pc 99 then (bif Nat.beq pc 96 then some (.invokevirtual 116, 3) else none) else (bif Nat.beq pc 99 then some (.aload_n 0, 1) else none)) else (bif Nat.blt pc 101 then (bif Nat.beq pc 100 then some (.dup, 1) else none) else (bif Nat.beq pc 101 then some (.getfield 113, 3) else none)))) else (bif Nat.blt pc 110 then (bif Nat.blt pc 106 then (bif Nat.blt pc 105 then (bif Nat.beq pc 104 then some (.iconst 1, 1) else none) else (bif Nat.beq pc 105 then some (.iadd, 1) else none)) else (bif Nat.blt pc 109 then (bif Nat.beq pc 106 then some (.putfield 113, 3) else none) else (bif Nat.beq pc 109 then some (.aload_n 0, 1) else none))) else (bif Nat.blt pc 114 then (bif Nat.blt pc 113 then (bif Nat.beq pc 110 then some (.getfield 113, 3) else none) else (bif Nat.beq pc 113 then some (.iconst 1, 1) else none)) else (bif Nat.blt pc 115 then (bif Nat.beq pc 114 then some (.isub, 1) else none) else (bif Nat.beq pc 115 then some (.ireturn, 1) else none)))))))
def M_X7_meeting : MR := (S_X7_meeting, P_TownFolk, gd 116 C_X7_meeting)
set_option maxRecDepth 100000 in
theorem Mok_X7_meeting : MOK M_X7_meeting := ⟨gd_ok (by decide +kernel), Pok_TownFolk, by decide +kernel⟩
def C_X7_row (pc : Nat) : Option (Instr × Nat) := (bif Nat.blt pc 34 then (bif Nat.blt pc 17 then (bif Nat.blt pc 8 then (bif Nat.blt pc 4 then (bif Nat.blt pc 1 then (bif Nat.beq pc 0 then some (.iload_n 1, 1) else none) else (bif Nat.beq pc 1 then some (.invokestatic 120, 3) else none)) else (bif Nat.blt pc 7 then (bif Nat.beq pc 4 then some (.ifCond .ne 9, 3) else none) else (bif Nat.beq pc 7 then some (.aload_n 0, 1) else none))) else (bif Nat.blt pc 12 then (bif Nat.blt pc 9 then (bif Nat.beq pc 8 then some (.iconst (-1), 1) else none) else (bif Nat.beq pc 9 then some (.invokevirtual 73, 3) else none)) else (bif Nat.blt pc 13 then (bif Nat.beq pc 12 then some (.ireturn, 1) else none) else (bif Nat.blt pc 14 then (bif Nat.beq pc 13 then some (.iload_n 3, 1) else none) else (bif Nat.beq pc 14 then some (.ifCond .ge 10, 3) else none))))) else (bif Nat.blt pc 25 then (bif Nat.blt pc 20 then (bif Nat.blt pc 18 then (bif Nat.beq pc 17 then some (.aload_n 0, 1) else none) else (bif Nat.beq pc 18 then some (.bipush (-4), 2) else none)) else (bif Nat.blt pc 23 then (bif Nat.beq pc 20 then some (.invokevirtual 73, 3) else none) else (bif Nat.blt pc 24 then (bif Nat.beq pc 23 then some (.ireturn, 1) else none) else (bif Nat.beq pc 24 then some (.iload_n 2, 1) else none)))) else (bif Nat.blt pc 29 then (bif Nat.blt pc 28 then (bif Nat.beq pc 25 then some (.ifCond .lt 8, 3) else none) else (bif Nat.beq pc 28 then some (.iload_n 2, 1) else none)) else (bif Nat.blt pc 30 then (bif Nat.beq pc 29 then some (.iconst 3, 1) else none) else (bif Nat.blt pc 33 then (bif Nat.beq pc 30 then some (.if_icmp .le 10, 3) else none) else (bif Nat.beq pc 33 then some (.aload_n 0, 1) else none)))))) else (bif Nat.blt pc 52 then (bif Nat.blt pc 41 then (bif Nat.blt pc 39 then (bif Nat.blt pc 36 then (bif Nat.beq pc 34 then some (.bipush (-6), 2) else none) else (bif Nat.beq pc 36 then some (.invokevirtual 73, 3) else none)) else (bif Nat.blt pc 40 then (bif Nat.beq pc 39 then some (.ireturn, 1) else none) else (bif Nat.beq pc 40 then some (.iload_n 3, 1) else none))) else (bif Nat.blt pc 46 then (bif Nat.blt pc 43 then (bif Nat.beq pc 41 then some (.bipush 60, 2) else none) else (bif Nat.beq pc 43 then some (.if_icmp .le 10, 3) else none)) else (bif Nat.blt pc 47 then (bif Nat.beq pc 46 then some (.aload_n 0, 1) else none) else (bif Nat.blt pc 49 then (bif Nat.beq pc 47 then some (.bipush (-7), 2) else none) else (bif Nat.beq pc 49 then some (.invokevirtual 73, 3) else none))))) else (bif Nat.blt pc 59 then (bif Nat.blt pc 54 then (bif Nat.blt pc 53 then (bif Nat.beq pc 52 then some (.ireturn, 1) else none) else (bif Nat.beq pc 53 then some (.aload_n 0, 1) else none)) else (bif Nat.blt pc 57 then (bif Nat.beq pc 54 then some (.getfield 18, 3) else none) else (bif Nat.blt pc 58 then (bif Nat.beq pc 57 then some (.iload_n 1, 1) else none) else (bif Nat.beq pc 58 then some (.aaload, 1) else none)))) else (bif Nat.blt pc 61 then (bif Nat.blt pc 60 then (bif Nat.beq pc 59 then some (.iload_n 2, 1) else none) else (bif Nat.beq pc 60 then some (.iload_n 3, 1) else none)) else (bif Nat.blt pc 64 then (bif Nat.beq pc 61 then some (.invokevirtual 123, 3) else none) else (bif Nat.blt pc 65 then (bif Nat.beq pc 64 then some (.iconst 1, 1) else none) else (bif Nat.beq pc 65 then some (.ireturn, 1) else none)))))))
def M_X7_row : MR := (S_X7_row, P_TownFolk, gd 66 C_X7_row)
set_option maxRecDepth 100000 in
theorem Mok_X7_row : MOK M_X7_row := ⟨gd_ok (by decide +kernel), Pok_TownFolk, by decide +kernel⟩
def C_X7_set (pc : Nat) : Option (Instr × Nat) := (bif Nat.blt pc 27 then (bif Nat.blt pc 13 then (bif Nat.blt pc 5 then (bif Nat.blt pc 1 then (bif Nat.beq pc 0 then some (.aload_n 0, 1) else none) else (bif Nat.blt pc 2 then (bif Nat.beq pc 1 then some (.iload_n 1, 1) else none) else (bif Nat.beq pc 2 then some (.invokevirtual 127, 3) else none))) else (bif Nat.blt pc 9 then (bif Nat.blt pc 7 then (bif Nat.beq pc 5 then some (.istore 5, 2) else none) else (bif Nat.beq pc 7 then some (.iload 5, 2) else none)) else (bif Nat.blt pc 12 then (bif Nat.beq pc 9 then some (.ifCond .eq 10, 3) else none) else (bif Nat.beq pc 12 then some (.aload_n 0, 1) else none)))) else (bif Nat.blt pc 20 then (bif Nat.blt pc 18 then (bif Nat.blt pc 15 then (bif Nat.beq pc 13 then some (.iload 5, 2) else none) else (bif Nat.beq pc 15 then some (.invokevirtual 73, 3) else none)) else (bif Nat.blt pc 19 then (bif Nat.beq pc 18 then some (.ireturn, 1) else none) else (bif Nat.beq pc 19 then some (.aload_n 0, 1) else none))) else (bif Nat.blt pc 24 then (bif Nat.blt pc 23 then (bif Nat.beq pc 20 then some (.getfield 18, 3) else none) else (bif Nat.beq pc 23 then some (.iload_n 1, 1) else none)) else (bif Nat.blt pc 25 then (bif Nat.beq pc 24 then some (.aaload, 1) else none) else (bif Nat.beq pc 25 then some (.astore 6, 2) else none))))) else (bif Nat.blt pc 43 then (bif Nat.blt pc 34 then (bif Nat.blt pc 31 then (bif Nat.blt pc 28 then (bif Nat.beq pc 27 then some (.iload_n 2, 1) else none) else (bif Nat.beq pc 28 then some (.ifCond .lt 12, 3) else none)) else (bif Nat.blt pc 32 then (bif Nat.beq pc 31 then some (.iload_n 2, 1) else none) else (bif Nat.beq pc 32 then some (.aload 6, 2) else none))) else (bif Nat.blt pc 40 then (bif Nat.blt pc 37 then (bif Nat.beq pc 34 then some (.getfield 130, 3) else none) else (bif Nat.beq pc 37 then some (.if_icmp .lt 10, 3) else none)) else (bif Nat.blt pc 41 then (bif Nat.beq pc 40 then some (.aload_n 0, 1) else none) else (bif Nat.beq pc 41 then some (.bipush (-5), 2) else none)))) else (bif Nat.blt pc 50 then (bif Nat.blt pc 47 then (bif Nat.blt pc 46 then (bif Nat.beq pc 43 then some (.invokevirtual 73, 3) else none) else (bif Nat.beq pc 46 then some (.ireturn, 1) else none)) else (bif Nat.blt pc 49 then (bif Nat.beq pc 47 then some (.aload 6, 2) else none) else (bif Nat.beq pc 49 then some (.iload_n 2, 1) else none))) else (bif Nat.blt pc 54 then (bif Nat.blt pc 51 then (bif Nat.beq pc 50 then some (.lload_n 3, 1) else none) else (bif Nat.beq pc 51 then some (.invokevirtual 133, 3) else none)) else (bif Nat.blt pc 55 then (bif Nat.beq pc 54 then some (.iconst 1, 1) else none) else (bif Nat.beq pc 55 then some (.ireturn, 1) else none))))))
def M_X7_set : MR := (S_X7_set, P_TownFolk, gd 56 C_X7_set)
set_option maxRecDepth 100000 in
theorem Mok_X7_set : MOK M_X7_set := ⟨gd_ok (by decide +kernel), Pok_TownFolk, by decide +kernel⟩
def C_X7_duties (pc : Nat) : Option (Instr × Nat) := (bif Nat.blt pc 37 then (bif Nat.blt pc 18 then (bif Nat.blt pc 9 then (bif Nat.blt pc 2 then (bif Nat.blt pc 1 then (bif Nat.beq pc 0 then some (.aload_n 0, 1) else none) else (bif Nat.beq pc 1 then some (.iload_n 1, 1) else none)) else (bif Nat.blt pc 5 then (bif Nat.beq pc 2 then some (.invokevirtual 177, 3) else none) else (bif Nat.blt pc 8 then (bif Nat.beq pc 5 then some (.ifCond .eq 11, 3) else none) else (bif Nat.beq pc 8 then some (.aload_n 0, 1) else none)))) else (bif Nat.blt pc 13 then (bif Nat.blt pc 10 then (bif Nat.beq pc 9 then some (.iload_n 2, 1) else none) else (bif Nat.beq pc 10 then some (.invokevirtual 127, 3) else none)) else (bif Nat.blt pc 16 then (bif Nat.beq pc 13 then some (.goto 4, 3) else none) else (bif Nat.blt pc 17 then (bif Nat.beq pc 16 then some (.iconst (-1), 1) else none) else (bif Nat.beq pc 17 then some (.istore_n 3, 1) else none))))) else (bif Nat.blt pc 27 then (bif Nat.blt pc 22 then (bif Nat.blt pc 19 then (bif Nat.beq pc 18 then some (.iload_n 3, 1) else none) else (bif Nat.beq pc 19 then some (.ifCond .eq 9, 3) else none)) else (bif Nat.blt pc 23 then (bif Nat.beq pc 22 then some (.aload_n 0, 1) else none) else (bif Nat.blt pc 24 then (bif Nat.beq pc 23 then some (.iload_n 3, 1) else none) else (bif Nat.beq pc 24 then some (.invokevirtual 73, 3) else none)))) else (bif Nat.blt pc 32 then (bif Nat.blt pc 28 then (bif Nat.beq pc 27 then some (.ireturn, 1) else none) else (bif Nat.blt pc 29 then (bif Nat.beq pc 28 then some (.aload_n 0, 1) else none) else (bif Nat.beq pc 29 then some (.getfield 51, 3) else none))) else (bif Nat.blt pc 33 then (bif Nat.beq pc 32 then some (.aload_n 0, 1) else none) else (bif Nat.blt pc 36 then (bif Nat.beq pc 33 then some (.getfield 18, 3) else none) else (bif Nat.beq pc 36 then some (.iload_n 2, 1) else none)))))) else (bif Nat.blt pc 61 then (bif Nat.blt pc 46 then (bif Nat.blt pc 39 then (bif Nat.blt pc 38 then (bif Nat.beq pc 37 then some (.aaload, 1) else none) else (bif Nat.beq pc 38 then some (.aload_n 0, 1) else none)) else (bif Nat.blt pc 42 then (bif Nat.beq pc 39 then some (.getfield 12, 3) else none) else (bif Nat.blt pc 45 then (bif Nat.beq pc 42 then some (.invokevirtual 180, 3) else none) else (bif Nat.beq pc 45 then some (.aload_n 0, 1) else none)))) else (bif Nat.blt pc 55 then (bif Nat.blt pc 49 then (bif Nat.beq pc 46 then some (.getfield 51, 3) else none) else (bif Nat.blt pc 52 then (bif Nat.beq pc 49 then some (.getfield 184, 3) else none) else (bif Nat.beq pc 52 then some (.ifCond .eq 10, 3) else none))) else (bif Nat.blt pc 56 then (bif Nat.beq pc 55 then some (.aload_n 0, 1) else none) else (bif Nat.blt pc 58 then (bif Nat.beq pc 56 then some (.bipush (-6), 2) else none) else (bif Nat.beq pc 58 then some (.invokevirtual 73, 3) else none))))) else (bif Nat.blt pc 68 then (bif Nat.blt pc 63 then (bif Nat.blt pc 62 then (bif Nat.beq pc 61 then some (.ireturn, 1) else none) else (bif Nat.beq pc 62 then some (.aload_n 0, 1) else none)) else (bif Nat.blt pc 66 then (bif Nat.beq pc 63 then some (.getfield 24, 3) else none) else (bif Nat.blt pc 67 then (bif Nat.beq pc 66 then some (.iload_n 1, 1) else none) else (bif Nat.beq pc 67 then some (.aaload, 1) else none)))) else (bif Nat.blt pc 73 then (bif Nat.blt pc 69 then (bif Nat.beq pc 68 then some (.aload_n 0, 1) else none) else (bif Nat.blt pc 72 then (bif Nat.beq pc 69 then some (.getfield 18, 3) else none) else (bif Nat.beq pc 72 then some (.iload_n 2, 1) else none))) else (bif Nat.blt pc 74 then (bif Nat.beq pc 73 then some (.aaload, 1) else none) else (bif Nat.blt pc 77 then (bif Nat.beq pc 74 then some (.invokevirtual 187, 3) else none) else (bif Nat.beq pc 77 then some (.ireturn, 1) else none)))))))
def M_X7_duties : MR := (S_X7_duties, P_TownFolk, gd 78 C_X7_duties)
set_option maxRecDepth 100000 in
theorem Mok_X7_duties : MOK M_X7_duties := ⟨gd_ok (by decide +kernel), Pok_TownFolk, by decide +kernel⟩
def C_X7_key (pc : Nat) : Option (Instr × Nat) := (bif Nat.blt pc 45 then (bif Nat.blt pc 24 then (bif Nat.blt pc 12 then (bif Nat.blt pc 5 then (bif Nat.blt pc 1 then (bif Nat.beq pc 0 then some (.aload_n 0, 1) else none) else (bif Nat.blt pc 2 then (bif Nat.beq pc 1 then some (.iload_n 1, 1) else none) else (bif Nat.beq pc 2 then some (.invokevirtual 177, 3) else none))) else (bif Nat.blt pc 8 then (bif Nat.beq pc 5 then some (.ifCond .eq 14, 3) else none) else (bif Nat.blt pc 9 then (bif Nat.beq pc 8 then some (.aload_n 0, 1) else none) else (bif Nat.beq pc 9 then some (.getfield 12, 3) else none)))) else (bif Nat.blt pc 19 then (bif Nat.blt pc 13 then (bif Nat.beq pc 12 then some (.iload_n 2, 1) else none) else (bif Nat.blt pc 16 then (bif Nat.beq pc 13 then some (.invokevirtual 85, 3) else none) else (bif Nat.beq pc 16 then some (.ifCond .ne 9, 3) else none))) else (bif Nat.blt pc 20 then (bif Nat.beq pc 19 then some (.aload_n 0, 1) else none) else (bif Nat.blt pc 21 then (bif Nat.beq pc 20 then some (.iconst (-1), 1) else none) else (bif Nat.beq pc 21 then some (.invokevirtual 73, 3) else none))))) else (bif Nat.blt pc 34 then (bif Nat.blt pc 29 then (bif Nat.blt pc 25 then (bif Nat.beq pc 24 then some (.ireturn, 1) else none) else (bif Nat.blt pc 26 then (bif Nat.beq pc 25 then some (.aload_n 0, 1) else none) else (bif Nat.beq pc 26 then some (.getfield 24, 3) else none))) else (bif Nat.blt pc 30 then (bif Nat.beq pc 29 then some (.iload_n 1, 1) else none) else (bif Nat.blt pc 31 then (bif Nat.beq pc 30 then some (.aaload, 1) else none) else (bif Nat.beq pc 31 then some (.getfield 207, 3) else none)))) else (bif Nat.blt pc 38 then (bif Nat.blt pc 36 then (bif Nat.beq pc 34 then some (.istore 4, 2) else none) else (bif Nat.blt pc 37 then (bif Nat.beq pc 36 then some (.iconst 1, 1) else none) else (bif Nat.beq pc 37 then some (.iload_n 2, 1) else none))) else (bif Nat.blt pc 41 then (bif Nat.blt pc 39 then (bif Nat.beq pc 38 then some (.ishl, 1) else none) else (bif Nat.beq pc 39 then some (.istore 5, 2) else none)) else (bif Nat.blt pc 42 then (bif Nat.beq pc 41 then some (.aload_n 0, 1) else none) else (bif Nat.beq pc 42 then some (.getfield 24, 3) else none)))))) else (bif Nat.blt pc 65 then (bif Nat.blt pc 55 then (bif Nat.blt pc 48 then (bif Nat.blt pc 46 then (bif Nat.beq pc 45 then some (.iload_n 1, 1) else none) else (bif Nat.blt pc 47 then (bif Nat.beq pc 46 then some (.aaload, 1) else none) else (bif Nat.beq pc 47 then some (.iload_n 3, 1) else none))) else (bif Nat.blt pc 51 then (bif Nat.beq pc 48 then some (.ifCond .eq 11, 3) else none) else (bif Nat.blt pc 53 then (bif Nat.beq pc 51 then some (.iload 4, 2) else none) else (bif Nat.beq pc 53 then some (.iload 5, 2) else none)))) else (bif Nat.blt pc 61 then (bif Nat.blt pc 56 then (bif Nat.beq pc 55 then some (.ior, 1) else none) else (bif Nat.blt pc 59 then (bif Nat.beq pc 56 then some (.goto 10, 3) else none) else (bif Nat.beq pc 59 then some (.iload 4, 2) else none))) else (bif Nat.blt pc 63 then (bif Nat.beq pc 61 then some (.iload 5, 2) else none) else (bif Nat.blt pc 64 then (bif Nat.beq pc 63 then some (.iconst (-1), 1) else none) else (bif Nat.beq pc 64 then some (.ixor, 1) else none))))) else (bif Nat.blt pc 75 then (bif Nat.blt pc 70 then (bif Nat.blt pc 66 then (bif Nat.beq pc 65 then some (.iand, 1) else none) else (bif Nat.blt pc 69 then (bif Nat.beq pc 66 then some (.putfield 207, 3) else none) else (bif Nat.beq pc 69 then some (.aload_n 0, 1) else none))) else (bif Nat.blt pc 73 then (bif Nat.beq pc 70 then some (.getfield 24, 3) else none) else (bif Nat.blt pc 74 then (bif Nat.beq pc 73 then some (.iload_n 1, 1) else none) else (bif Nat.beq pc 74 then some (.aaload, 1) else none)))) else (bif Nat.blt pc 83 then (bif Nat.blt pc 78 then (bif Nat.beq pc 75 then some (.getfield 207, 3) else none) else (bif Nat.blt pc 80 then (bif Nat.beq pc 78 then some (.iload 4, 2) else none) else (bif Nat.beq pc 80 then some (.if_icmp .ne 7, 3) else none))) else (bif Nat.blt pc 87 then (bif Nat.blt pc 84 then (bif Nat.beq pc 83 then some (.iconst 0, 1) else none) else (bif Nat.beq pc 84 then some (.goto 4, 3) else none)) else (bif Nat.blt pc 88 then (bif Nat.beq pc 87 then some (.iconst 1, 1) else none) else (bif Nat.beq pc 88 then some (.ireturn, 1) else none)))))))
def M_X7_key : MR := (S_X7_key, P_TownFolk, gd 89 C_X7_key)
set_option maxRecDepth 100000 in
theorem Mok_X7_key : MOK M_X7_key := ⟨gd_ok (by decide +kernel), Pok_TownFolk, by decide +kernel⟩
def C_X7_begin (pc : Nat) : Option (Instr × Nat) := (bif Nat.blt pc 13 then (bif Nat.blt pc 7 then (bif Nat.blt pc 1 then (bif Nat.beq pc 0 then some (.aload_n 0, 1) else none) else (bif Nat.blt pc 4 then (bif Nat.beq pc 1 then some (.getfield 69, 3) else none) else (bif Nat.beq pc 4 then some (.ifCond .eq 10, 3) else none))) else (bif Nat.blt pc 8 then (bif Nat.beq pc 7 then some (.aload_n 0, 1) else none) else (bif Nat.blt pc 10 then (bif Nat.beq pc 8 then some (.bipush (-6), 2) else none) else (bif Nat.beq pc 10 then some (.invokevirtual 73, 3) else none)))) else (bif Nat.blt pc 16 then (bif Nat.blt pc 14 then (bif Nat.beq pc 13 then some (.ireturn, 1) else none) else (bif Nat.blt pc 15 then (bif Nat.beq pc 14 then some (.aload_n 0, 1) else none) else (bif Nat.beq pc 15 then some (.iconst 1, 1) else none))) else (bif Nat.blt pc 20 then (bif Nat.blt pc 19 then (bif Nat.beq pc 16 then some (.putfield 69, 3) else none) else (bif Nat.beq pc 19 then some (.aload_n 0, 1) else none)) else (bif Nat.blt pc 23 then (bif Nat.beq pc 20 then some (.invokevirtual 210, 3) else none) else (bif Nat.beq pc 23 then some (.ireturn, 1) else none)))))
def M_X7_begin : MR := (S_X7_begin, P_TownFolk, gd 24 C_X7_begin)
set_option maxRecDepth 100000 in
theorem Mok_X7_begin : MOK M_X7_begin := ⟨gd_ok (by decide +kernel), Pok_TownFolk, by decide +kernel⟩
def C_X7_tick (pc : Nat) : Option (Instr × Nat) := (bif Nat.blt pc 31 then (bif Nat.blt pc 15 then (bif Nat.blt pc 6 then (bif Nat.blt pc 2 then (bif Nat.blt pc 1 then (bif Nat.beq pc 0 then some (.iload_n 1, 1) else none) else (bif Nat.beq pc 1 then some (.iconst 1, 1) else none)) else (bif Nat.blt pc 5 then (bif Nat.beq pc 2 then some (.if_icmp .lt 16, 3) else none) else (bif Nat.beq pc 5 then some (.iload_n 1, 1) else none))) else (bif Nat.blt pc 11 then (bif Nat.blt pc 8 then (bif Nat.beq pc 6 then some (.bipush 48, 2) else none) else (bif Nat.beq pc 8 then some (.if_icmp .gt 10, 3) else none)) else (bif Nat.blt pc 12 then (bif Nat.beq pc 11 then some (.aload_n 0, 1) else none) else (bif Nat.beq pc 12 then some (.getfield 69, 3) else none)))) else (bif Nat.blt pc 24 then (bif Nat.blt pc 19 then (bif Nat.blt pc 18 then (bif Nat.beq pc 15 then some (.ifCond .ne 10, 3) else none) else (bif Nat.beq pc 18 then some (.aload_n 0, 1) else none)) else (bif Nat.blt pc 21 then (bif Nat.beq pc 19 then some (.bipush (-6), 2) else none) else (bif Nat.beq pc 21 then some (.invokevirtual 73, 3) else none))) else (bif Nat.blt pc 26 then (bif Nat.blt pc 25 then (bif Nat.beq pc 24 then some (.ireturn, 1) else none) else (bif Nat.beq pc 25 then some (.aload_n 0, 1) else none)) else (bif Nat.blt pc 29 then (bif Nat.beq pc 26 then some (.invokevirtual 213, 3) else none) else (bif Nat.blt pc 30 then (bif Nat.beq pc 29 then some (.iload_n 1, 1) else none) else (bif Nat.beq pc 30 then some (.iadd, 1) else none)))))) else (bif Nat.blt pc 47 then (bif Nat.blt pc 40 then (bif Nat.blt pc 37 then (bif Nat.blt pc 34 then (bif Nat.beq pc 31 then some (.sipush 1008, 3) else none) else (bif Nat.beq pc 34 then some (.if_icmp .lt 10, 3) else none)) else (bif Nat.blt pc 38 then (bif Nat.beq pc 37 then some (.aload_n 0, 1) else none) else (bif Nat.beq pc 38 then some (.bipush (-7), 2) else none))) else (bif Nat.blt pc 44 then (bif Nat.blt pc 43 then (bif Nat.beq pc 40 then some (.invokevirtual 73, 3) else none) else (bif Nat.beq pc 43 then some (.ireturn, 1) else none)) else (bif Nat.blt pc 45 then (bif Nat.beq pc 44 then some (.iconst 0, 1) else none) else (bif Nat.blt pc 46 then (bif Nat.beq pc 45 then some (.istore_n 2, 1) else none) else (bif Nat.beq pc 46 then some (.iload_n 2, 1) else none))))) else (bif Nat.blt pc 55 then (bif Nat.blt pc 51 then (bif Nat.blt pc 48 then (bif Nat.beq pc 47 then some (.iload_n 1, 1) else none) else (bif Nat.beq pc 48 then some (.if_icmp .ge 13, 3) else none)) else (bif Nat.blt pc 52 then (bif Nat.beq pc 51 then some (.aload_n 0, 1) else none) else (bif Nat.beq pc 52 then some (.invokevirtual 216, 3) else none))) else (bif Nat.blt pc 61 then (bif Nat.blt pc 58 then (bif Nat.beq pc 55 then some (.iinc 2 1, 3) else none) else (bif Nat.beq pc 58 then some (.goto (-12), 3) else none)) else (bif Nat.blt pc 62 then (bif Nat.beq pc 61 then some (.aload_n 0, 1) else none) else (bif Nat.blt pc 65 then (bif Nat.beq pc 62 then some (.getfield 219, 3) else none) else (bif Nat.beq pc 65 then some (.ireturn, 1) else none)))))))
def M_X7_tick : MR := (S_X7_tick, P_TownFolk, gd 66 C_X7_tick)
set_option maxRecDepth 100000 in
theorem Mok_X7_tick : MOK M_X7_tick := ⟨gd_ok (by decide +kernel), Pok_TownFolk, by decide +kernel⟩
def C_X7_bend (pc : Nat) : Option (Instr × Nat) := (bif Nat.blt pc 35 then (bif Nat.blt pc 19 then (bif Nat.blt pc 8 then (bif Nat.blt pc 2 then (bif Nat.blt pc 1 then (bif Nat.beq pc 0 then some (.aload_n 0, 1) else none) else (bif Nat.beq pc 1 then some (.iload_n 1, 1) else none)) else (bif Nat.blt pc 5 then (bif Nat.beq pc 2 then some (.invokevirtual 177, 3) else none) else (bif Nat.beq pc 5 then some (.ifCond .eq 14, 3) else none))) else (bif Nat.blt pc 12 then (bif Nat.blt pc 9 then (bif Nat.beq pc 8 then some (.aload_n 0, 1) else none) else (bif Nat.beq pc 9 then some (.getfield 12, 3) else none)) else (bif Nat.blt pc 13 then (bif Nat.beq pc 12 then some (.iload_n 2, 1) else none) else (bif Nat.blt pc 16 then (bif Nat.beq pc 13 then some (.invokevirtual 85, 3) else none) else (bif Nat.beq pc 16 then some (.ifCond .ne 9, 3) else none))))) else (bif Nat.blt pc 25 then (bif Nat.blt pc 21 then (bif Nat.blt pc 20 then (bif Nat.beq pc 19 then some (.aload_n 0, 1) else none) else (bif Nat.beq pc 20 then some (.iconst (-1), 1) else none)) else (bif Nat.blt pc 24 then (bif Nat.beq pc 21 then some (.invokevirtual 73, 3) else none) else (bif Nat.beq pc 24 then some (.ireturn, 1) else none))) else (bif Nat.blt pc 28 then (bif Nat.blt pc 26 then (bif Nat.beq pc 25 then some (.iload_n 3, 1) else none) else (bif Nat.beq pc 26 then some (.iload 4, 2) else none)) else (bif Nat.blt pc 31 then (bif Nat.beq pc 28 then some (.invokestatic 65, 3) else none) else (bif Nat.blt pc 34 then (bif Nat.beq pc 31 then some (.ifCond .eq 10, 3) else none) else (bif Nat.beq pc 34 then some (.aload_n 0, 1) else none)))))) else (bif Nat.blt pc 53 then (bif Nat.blt pc 44 then (bif Nat.blt pc 41 then (bif Nat.blt pc 38 then (bif Nat.beq pc 35 then some (.getfield 69, 3) else none) else (bif Nat.beq pc 38 then some (.ifCond .ne 10, 3) else none)) else (bif Nat.blt pc 42 then (bif Nat.beq pc 41 then some (.aload_n 0, 1) else none) else (bif Nat.beq pc 42 then some (.bipush (-6), 2) else none))) else (bif Nat.blt pc 48 then (bif Nat.blt pc 47 then (bif Nat.beq pc 44 then some (.invokevirtual 73, 3) else none) else (bif Nat.beq pc 47 then some (.ireturn, 1) else none)) else (bif Nat.blt pc 49 then (bif Nat.beq pc 48 then some (.aload_n 0, 1) else none) else (bif Nat.blt pc 52 then (bif Nat.beq pc 49 then some (.getfield 24, 3) else none) else (bif Nat.beq pc 52 then some (.iload_n 1, 1) else none))))) else (bif Nat.blt pc 58 then (bif Nat.blt pc 55 then (bif Nat.blt pc 54 then (bif Nat.beq pc 53 then some (.aaload, 1) else none) else (bif Nat.beq pc 54 then some (.iload_n 2, 1) else none)) else (bif Nat.blt pc 56 then (bif Nat.beq pc 55 then some (.iload_n 3, 1) else none) else (bif Nat.beq pc 56 then some (.iload 4, 2) else none))) else (bif Nat.blt pc 62 then (bif Nat.blt pc 61 then (bif Nat.beq pc 58 then some (.invokevirtual 222, 3) else none) else (bif Nat.beq pc 61 then some (.aload_n 0, 1) else none)) else (bif Nat.blt pc 63 then (bif Nat.beq pc 62 then some (.iload_n 1, 1) else none) else (bif Nat.blt pc 66 then (bif Nat.beq pc 63 then some (.invokevirtual 225, 3) else none) else (bif Nat.beq pc 66 then some (.ireturn, 1) else none)))))))
def M_X7_bend : MR := (S_X7_bend, P_TownFolk, gd 67 C_X7_bend)
set_option maxRecDepth 100000 in
theorem Mok_X7_bend : MOK M_X7_bend := ⟨gd_ok (by decide +kernel), Pok_TownFolk, by decide +kernel⟩
def C_X7_lock (pc : Nat) : Option (Instr × Nat) := (bif Nat.blt pc 48 then (bif Nat.blt pc 25 then (bif Nat.blt pc 12 then (bif Nat.blt pc 5 then (bif Nat.blt pc 1 then (bif Nat.beq pc 0 then some (.aload_n 0, 1) else none) else (bif Nat.blt pc 4 then (bif Nat.beq pc 1 then some (.getfield 12, 3) else none) else (bif Nat.beq pc 4 then some (.iload_n 1, 1) else none))) else (bif Nat.blt pc 8 then (bif Nat.beq pc 5 then some (.invokevirtual 85, 3) else none) else (bif Nat.blt pc 11 then (bif Nat.beq pc 8 then some (.ifCond .ne 9, 3) else none) else (bif Nat.beq pc 11 then some (.aload_n 0, 1) else none)))) else (bif Nat.blt pc 17 then (bif Nat.blt pc 13 then (bif Nat.beq pc 12 then some (.iconst (-1), 1) else none) else (bif Nat.blt pc 16 then (bif Nat.beq pc 13 then some (.invokevirtual 73, 3) else none) else (bif Nat.beq pc 16 then some (.ireturn, 1) else none))) else (bif Nat.blt pc 21 then (bif Nat.blt pc 18 then (bif Nat.beq pc 17 then some (.aload_n 0, 1) else none) else (bif Nat.beq pc 18 then some (.getfield 69, 3) else none)) else (bif Nat.blt pc 24 then (bif Nat.beq pc 21 then some (.ifCond .ne 10, 3) else none) else (bif Nat.beq pc 24 then some (.aload_n 0, 1) else none))))) else (bif Nat.blt pc 35 then (bif Nat.blt pc 31 then (bif Nat.blt pc 27 then (bif Nat.beq pc 25 then some (.bipush (-6), 2) else none) else (bif Nat.blt pc 30 then (bif Nat.beq pc 27 then some (.invokevirtual 73, 3) else none) else (bif Nat.beq pc 30 then some (.ireturn, 1) else none))) else (bif Nat.blt pc 33 then (bif Nat.blt pc 32 then (bif Nat.beq pc 31 then some (.iconst 1, 1) else none) else (bif Nat.beq pc 32 then some (.iload_n 1, 1) else none)) else (bif Nat.blt pc 34 then (bif Nat.beq pc 33 then some (.ishl, 1) else none) else (bif Nat.beq pc 34 then some (.istore_n 3, 1) else none)))) else (bif Nat.blt pc 40 then (bif Nat.blt pc 36 then (bif Nat.beq pc 35 then some (.aload_n 0, 1) else none) else (bif Nat.blt pc 39 then (bif Nat.beq pc 36 then some (.getfield 228, 3) else none) else (bif Nat.beq pc 39 then some (.iload_n 3, 1) else none))) else (bif Nat.blt pc 44 then (bif Nat.blt pc 41 then (bif Nat.beq pc 40 then some (.iand, 1) else none) else (bif Nat.beq pc 41 then some (.ifCond .eq 7, 3) else none)) else (bif Nat.blt pc 45 then (bif Nat.beq pc 44 then some (.iconst 1, 1) else none) else (bif Nat.beq pc 45 then some (.goto 4, 3) else none)))))) else (bif Nat.blt pc 71 then (bif Nat.blt pc 60 then (bif Nat.blt pc 52 then (bif Nat.blt pc 49 then (bif Nat.beq pc 48 then some (.iconst 0, 1) else none) else (bif Nat.blt pc 51 then (bif Nat.beq pc 49 then some (.istore 4, 2) else none) else (bif Nat.beq pc 51 then some (.iload_n 2, 1) else none))) else (bif Nat.blt pc 56 then (bif Nat.blt pc 55 then (bif Nat.beq pc 52 then some (.ifCond .ne 15, 3) else none) else (bif Nat.beq pc 55 then some (.aload_n 0, 1) else none)) else (bif Nat.blt pc 57 then (bif Nat.beq pc 56 then some (.dup, 1) else none) else (bif Nat.beq pc 57 then some (.getfield 228, 3) else none)))) else (bif Nat.blt pc 63 then (bif Nat.blt pc 61 then (bif Nat.beq pc 60 then some (.iload_n 3, 1) else none) else (bif Nat.blt pc 62 then (bif Nat.beq pc 61 then some (.iconst (-1), 1) else none) else (bif Nat.beq pc 62 then some (.ixor, 1) else none))) else (bif Nat.blt pc 67 then (bif Nat.blt pc 64 then (bif Nat.beq pc 63 then some (.iand, 1) else none) else (bif Nat.beq pc 64 then some (.putfield 228, 3) else none)) else (bif Nat.blt pc 68 then (bif Nat.beq pc 67 then some (.iload_n 2, 1) else none) else (bif Nat.beq pc 68 then some (.ifCond .eq 8, 3) else none))))) else (bif Nat.blt pc 83 then (bif Nat.blt pc 77 then (bif Nat.blt pc 73 then (bif Nat.beq pc 71 then some (.iload 4, 2) else none) else (bif Nat.blt pc 76 then (bif Nat.beq pc 73 then some (.ifCond .eq 5, 3) else none) else (bif Nat.beq pc 76 then some (.iconst 0, 1) else none))) else (bif Nat.blt pc 79 then (bif Nat.blt pc 78 then (bif Nat.beq pc 77 then some (.ireturn, 1) else none) else (bif Nat.beq pc 78 then some (.aload_n 0, 1) else none)) else (bif Nat.blt pc 80 then (bif Nat.beq pc 79 then some (.dup, 1) else none) else (bif Nat.beq pc 80 then some (.getfield 228, 3) else none)))) else (bif Nat.blt pc 88 then (bif Nat.blt pc 84 then (bif Nat.beq pc 83 then some (.iload_n 3, 1) else none) else (bif Nat.blt pc 85 then (bif Nat.beq pc 84 then some (.ior, 1) else none) else (bif Nat.beq pc 85 then some (.putfield 228, 3) else none))) else (bif Nat.blt pc 90 then (bif Nat.blt pc 89 then (bif Nat.beq pc 88 then some (.aload_n 0, 1) else none) else (bif Nat.beq pc 89 then some (.iload_n 1, 1) else none)) else (bif Nat.blt pc 93 then (bif Nat.beq pc 90 then some (.invokevirtual 231, 3) else none) else (bif Nat.beq pc 93 then some (.ireturn, 1) else none)))))))
def M_X7_lock : MR := (S_X7_lock, P_TownFolk, gd 94 C_X7_lock)
set_option maxRecDepth 100000 in
theorem Mok_X7_lock : MOK M_X7_lock := ⟨gd_ok (by decide +kernel), Pok_TownFolk, by decide +kernel⟩
def C_X7_again (pc : Nat) : Option (Instr × Nat) := (bif Nat.blt pc 15 then (bif Nat.blt pc 8 then (bif Nat.blt pc 2 then (bif Nat.blt pc 1 then (bif Nat.beq pc 0 then some (.aload_n 0, 1) else none) else (bif Nat.beq pc 1 then some (.iload_n 1, 1) else none)) else (bif Nat.blt pc 5 then (bif Nat.beq pc 2 then some (.invokevirtual 177, 3) else none) else (bif Nat.beq pc 5 then some (.ifCond .ne 9, 3) else none))) else (bif Nat.blt pc 10 then (bif Nat.blt pc 9 then (bif Nat.beq pc 8 then some (.aload_n 0, 1) else none) else (bif Nat.beq pc 9 then some (.iconst (-1), 1) else none)) else (bif Nat.blt pc 13 then (bif Nat.beq pc 10 then some (.invokevirtual 73, 3) else none) else (bif Nat.blt pc 14 then (bif Nat.beq pc 13 then some (.ireturn, 1) else none) else (bif Nat.beq pc 14 then some (.aload_n 0, 1) else none))))) else (bif Nat.blt pc 27 then (bif Nat.blt pc 21 then (bif Nat.blt pc 18 then (bif Nat.beq pc 15 then some (.getfield 69, 3) else none) else (bif Nat.beq pc 18 then some (.ifCond .ne 10, 3) else none)) else (bif Nat.blt pc 22 then (bif Nat.beq pc 21 then some (.aload_n 0, 1) else none) else (bif Nat.blt pc 24 then (bif Nat.beq pc 22 then some (.bipush (-6), 2) else none) else (bif Nat.beq pc 24 then some (.invokevirtual 73, 3) else none)))) else (bif Nat.blt pc 29 then (bif Nat.blt pc 28 then (bif Nat.beq pc 27 then some (.ireturn, 1) else none) else (bif Nat.beq pc 28 then some (.aload_n 0, 1) else none)) else (bif Nat.blt pc 30 then (bif Nat.beq pc 29 then some (.iload_n 1, 1) else none) else (bif Nat.blt pc 33 then (bif Nat.beq pc 30 then some (.invokevirtual 225, 3) else none) else (bif Nat.beq pc 33 then some (.ireturn, 1) else none))))))
def M_X7_again : MR := (S_X7_again, P_TownFolk, gd 34 C_X7_again)
set_option maxRecDepth 100000 in
theorem Mok_X7_again : MOK M_X7_again := ⟨gd_ok (by decide +kernel), Pok_TownFolk, by decide +kernel⟩
def C_X7_gone (pc : Nat) : Option (Instr × Nat) := (bif Nat.blt pc 32 then (bif Nat.blt pc 14 then (bif Nat.blt pc 8 then (bif Nat.blt pc 2 then (bif Nat.blt pc 1 then (bif Nat.beq pc 0 then some (.aload_n 0, 1) else none) else (bif Nat.beq pc 1 then some (.iload_n 1, 1) else none)) else (bif Nat.blt pc 5 then (bif Nat.beq pc 2 then some (.invokevirtual 177, 3) else none) else (bif Nat.beq pc 5 then some (.ifCond .ne 9, 3) else none))) else (bif Nat.blt pc 10 then (bif Nat.blt pc 9 then (bif Nat.beq pc 8 then some (.aload_n 0, 1) else none) else (bif Nat.beq pc 9 then some (.iconst (-1), 1) else none)) else (bif Nat.blt pc 13 then (bif Nat.beq pc 10 then some (.invokevirtual 73, 3) else none) else (bif Nat.beq pc 13 then some (.ireturn, 1) else none)))) else (bif Nat.blt pc 22 then (bif Nat.blt pc 18 then (bif Nat.blt pc 15 then (bif Nat.beq pc 14 then some (.aload_n 0, 1) else none) else (bif Nat.beq pc 15 then some (.getfield 69, 3) else none)) else (bif Nat.blt pc 21 then (bif Nat.beq pc 18 then some (.ifCond .ne 10, 3) else none) else (bif Nat.beq pc 21 then some (.aload_n 0, 1) else none))) else (bif Nat.blt pc 27 then (bif Nat.blt pc 24 then (bif Nat.beq pc 22 then some (.bipush (-6), 2) else none) else (bif Nat.beq pc 24 then some (.invokevirtual 73, 3) else none)) else (bif Nat.blt pc 28 then (bif Nat.beq pc 27 then some (.ireturn, 1) else none) else (bif Nat.blt pc 29 then (bif Nat.beq pc 28 then some (.aload_n 0, 1) else none) else (bif Nat.beq pc 29 then some (.getfield 37, 3) else none)))))) else (bif Nat.blt pc 49 then (bif Nat.blt pc 38 then (bif Nat.blt pc 36 then (bif Nat.blt pc 33 then (bif Nat.beq pc 32 then some (.aload_n 0, 1) else none) else (bif Nat.beq pc 33 then some (.getfield 24, 3) else none)) else (bif Nat.blt pc 37 then (bif Nat.beq pc 36 then some (.iload_n 1, 1) else none) else (bif Nat.beq pc 37 then some (.aaload, 1) else none))) else (bif Nat.blt pc 42 then (bif Nat.blt pc 41 then (bif Nat.beq pc 38 then some (.getfield 234, 3) else none) else (bif Nat.beq pc 41 then some (.aload_n 0, 1) else none)) else (bif Nat.blt pc 45 then (bif Nat.beq pc 42 then some (.getfield 219, 3) else none) else (bif Nat.blt pc 48 then (bif Nat.beq pc 45 then some (.invokevirtual 237, 3) else none) else (bif Nat.beq pc 48 then some (.aload_n 0, 1) else none))))) else (bif Nat.blt pc 55 then (bif Nat.blt pc 53 then (bif Nat.blt pc 52 then (bif Nat.beq pc 49 then some (.getfield 24, 3) else none) else (bif Nat.beq pc 52 then some (.iload_n 1, 1) else none)) else (bif Nat.blt pc 54 then (bif Nat.beq pc 53 then some (.aaload, 1) else none) else (bif Nat.beq pc 54 then some (.aload_n 0, 1) else none))) else (bif Nat.blt pc 61 then (bif Nat.blt pc 58 then (bif Nat.beq pc 55 then some (.getfield 219, 3) else none) else (bif Nat.beq pc 58 then some (.invokevirtual 241, 3) else none)) else (bif Nat.blt pc 62 then (bif Nat.beq pc 61 then some (.aload_n 0, 1) else none) else (bif Nat.blt pc 65 then (bif Nat.beq pc 62 then some (.invokevirtual 244, 3) else none) else (bif Nat.beq pc 65 then some (.ireturn, 1) else none)))))))
def M_X7_gone : MR := (S_X7_gone, P_TownFolk, gd 66 C_X7_gone)
set_option maxRecDepth 100000 in
theorem Mok_X7_gone : MOK M_X7_gone := ⟨gd_ok (by decide +kernel), Pok_TownFolk, by decide +kernel⟩
def C_X7_happen (pc : Nat) : Option (Instr × Nat) := (bif Nat.blt pc 64 then (bif Nat.blt pc 32 then (bif Nat.blt pc 16 then (bif Nat.blt pc 8 then (bif Nat.blt pc 4 then (bif Nat.blt pc 1 then (bif Nat.beq pc 0 then some (.aload_n 0, 1) else none) else (bif Nat.beq pc 1 then some (.getfield 12, 3) else none)) else (bif Nat.blt pc 5 then (bif Nat.beq pc 4 then some (.iload_n 1, 1) else none) else (bif Nat.beq pc 5 then some (.invokevirtual 85, 3) else none))) else (bif Nat.blt pc 12 then (bif Nat.blt pc 11 then (bif Nat.beq pc 8 then some (.ifCond .ne 9, 3) else none) else (bif Nat.beq pc 11 then some (.aload_n 0, 1) else none)) else (bif Nat.blt pc 13 then (bif Nat.beq pc 12 then some (.iconst (-1), 1) else none) else (bif Nat.beq pc 13 then some (.invokevirtual 73, 3) else none)))) else (bif Nat.blt pc 24 then (bif Nat.blt pc 18 then (bif Nat.blt pc 17 then (bif Nat.beq pc 16 then some (.ireturn, 1) else none) else (bif Nat.beq pc 17 then some (.aload_n 0, 1) else none)) else (bif Nat.blt pc 21 then (bif Nat.beq pc 18 then some (.getfield 69, 3) else none) else (bif Nat.beq pc 21 then some (.ifCond .ne 10, 3) else none))) else (bif Nat.blt pc 27 then (bif Nat.blt pc 25 then (bif Nat.beq pc 24 then some (.aload_n 0, 1) else none) else (bif Nat.beq pc 25 then some (.bipush (-6), 2) else none)) else (bif Nat.blt pc 30 then (bif Nat.beq pc 27 then some (.invokevirtual 73, 3) else none) else (bif Nat.blt pc 31 then (bif Nat.beq pc 30 then some (.ireturn, 1) else none) else (bif Nat.beq pc 31 then some (.aload_n 0, 1) else none)))))) else (bif Nat.blt pc 51 then (bif Nat.blt pc 41 then (bif Nat.blt pc 37 then (bif Nat.blt pc 35 then (bif Nat.beq pc 32 then some (.getfield 247, 3) else none) else (bif Nat.beq pc 35 then some (.bipush 12, 2) else none)) else (bif Nat.blt pc 40 then (bif Nat.beq pc 37 then some (.if_icmp .lt 10, 3) else none) else (bif Nat.beq pc 40 then some (.aload_n 0, 1) else none))) else (bif Nat.blt pc 46 then (bif Nat.blt pc 43 then (bif Nat.beq pc 41 then some (.bipush (-7), 2) else none) else (bif Nat.beq pc 43 then some (.invokevirtual 73, 3) else none)) else (bif Nat.blt pc 47 then (bif Nat.beq pc 46 then some (.ireturn, 1) else none) else (bif Nat.blt pc 48 then (bif Nat.beq pc 47 then some (.aload_n 0, 1) else none) else (bif Nat.beq pc 48 then some (.getfield 247, 3) else none))))) else (bif Nat.blt pc 57 then (bif Nat.blt pc 53 then (bif Nat.blt pc 52 then (bif Nat.beq pc 51 then some (.istore_n 2, 1) else none) else (bif Nat.beq pc 52 then some (.aload_n 0, 1) else none)) else (bif Nat.blt pc 54 then (bif Nat.beq pc 53 then some (.dup, 1) else none) else (bif Nat.beq pc 54 then some (.getfield 247, 3) else none))) else (bif Nat.blt pc 59 then (bif Nat.blt pc 58 then (bif Nat.beq pc 57 then some (.iconst 1, 1) else none) else (bif Nat.beq pc 58 then some (.iadd, 1) else none)) else (bif Nat.blt pc 62 then (bif Nat.beq pc 59 then some (.putfield 247, 3) else none) else (bif Nat.blt pc 63 then (bif Nat.beq pc 62 then some (.iconst 0, 1) else none) else (bif Nat.beq pc 63 then some (.istore_n 3, 1) else none))))))) else (bif Nat.blt pc 96 then (bif Nat.blt pc 78 then (bif Nat.blt pc 72 then (bif Nat.blt pc 66 then (bif Nat.blt pc 65 then (bif Nat.beq pc 64 then some (.iload_n 3, 1) else none) else (bif Nat.beq pc 65 then some (.aload_n 0, 1) else none)) else (bif Nat.blt pc 69 then (bif Nat.beq pc 66 then some (.getfield 96, 3) else none) else (bif Nat.beq pc 69 then some (.if_icmp .ge 56, 3) else none))) else (bif Nat.blt pc 76 then (bif Nat.blt pc 73 then (bif Nat.beq pc 72 then some (.aload_n 0, 1) else none) else (bif Nat.beq pc 73 then some (.getfield 24, 3) else none)) else (bif Nat.blt pc 77 then (bif Nat.beq pc 76 then some (.iload_n 3, 1) else none) else (bif Nat.beq pc 77 then some (.aaload, 1) else none)))) else (bif Nat.blt pc 86 then (bif Nat.blt pc 82 then (bif Nat.blt pc 81 then (bif Nat.beq pc 78 then some (.getfield 234, 3) else none) else (bif Nat.beq pc 81 then some (.aload_n 0, 1) else none)) else (bif Nat.blt pc 85 then (bif Nat.beq pc 82 then some (.getfield 219, 3) else none) else (bif Nat.beq pc 85 then some (.iaload, 1) else none))) else (bif Nat.blt pc 90 then (bif Nat.blt pc 88 then (bif Nat.beq pc 86 then some (.istore 4, 2) else none) else (bif Nat.beq pc 88 then some (.iload 4, 2) else none)) else (bif Nat.blt pc 91 then (bif Nat.beq pc 90 then some (.iload_n 1, 1) else none) else (bif Nat.blt pc 94 then (bif Nat.beq pc 91 then some (.if_icmp .eq 12, 3) else none) else (bif Nat.beq pc 94 then some (.iload 4, 2) else none)))))) else (bif Nat.blt pc 110 then (bif Nat.blt pc 103 then (bif Nat.blt pc 99 then (bif Nat.blt pc 98 then (bif Nat.beq pc 96 then some (.bipush 100, 2) else none) else (bif Nat.beq pc 98 then some (.iload_n 1, 1) else none)) else (bif Nat.blt pc 100 then (bif Nat.beq pc 99 then some (.iadd, 1) else none) else (bif Nat.beq pc 100 then some (.if_icmp .ne 19, 3) else none))) else (bif Nat.blt pc 107 then (bif Nat.blt pc 104 then (bif Nat.beq pc 103 then some (.aload_n 0, 1) else none) else (bif Nat.beq pc 104 then some (.getfield 24, 3) else none)) else (bif Nat.blt pc 108 then (bif Nat.beq pc 107 then some (.iload_n 3, 1) else none) else (bif Nat.blt pc 109 then (bif Nat.beq pc 108 then some (.aaload, 1) else none) else (bif Nat.beq pc 109 then some (.iconst 1, 1) else none))))) else (bif Nat.blt pc 116 then (bif Nat.blt pc 112 then (bif Nat.blt pc 111 then (bif Nat.beq pc 110 then some (.iload_n 2, 1) else none) else (bif Nat.beq pc 111 then some (.ishl, 1) else none)) else (bif Nat.blt pc 113 then (bif Nat.beq pc 112 then some (.aload_n 0, 1) else none) else (bif Nat.beq pc 113 then some (.invokevirtual 213, 3) else none))) else (bif Nat.blt pc 122 then (bif Nat.blt pc 119 then (bif Nat.beq pc 116 then some (.invokevirtual 250, 3) else none) else (bif Nat.beq pc 119 then some (.iinc 3 1, 3) else none)) else (bif Nat.blt pc 125 then (bif Nat.beq pc 122 then some (.goto (-58), 3) else none) else (bif Nat.blt pc 126 then (bif Nat.beq pc 125 then some (.iload_n 2, 1) else none) else (bif Nat.beq pc 126 then some (.ireturn, 1) else none))))))))
def M_X7_happen : MR := (S_X7_happen, P_TownFolk, gd 127 C_X7_happen)
set_option maxRecDepth 100000 in
theorem Mok_X7_happen : MOK M_X7_happen := ⟨gd_ok (by decide +kernel), Pok_TownFolk, by decide +kernel⟩
def C_X7_where (pc : Nat) : Option (Instr × Nat) := (bif Nat.blt pc 16 then (bif Nat.blt pc 8 then (bif Nat.blt pc 2 then (bif Nat.blt pc 1 then (bif Nat.beq pc 0 then some (.aload_n 0, 1) else none) else (bif Nat.beq pc 1 then some (.iload_n 1, 1) else none)) else (bif Nat.blt pc 5 then (bif Nat.beq pc 2 then some (.invokevirtual 160, 3) else none) else (bif Nat.beq pc 5 then some (.ifCond .eq 24, 3) else none))) else (bif Nat.blt pc 12 then (bif Nat.blt pc 9 then (bif Nat.beq pc 8 then some (.iload_n 2, 1) else none) else (bif Nat.beq pc 9 then some (.invokestatic 253, 3) else none)) else (bif Nat.blt pc 15 then (bif Nat.beq pc 12 then some (.ifCond .eq 17, 3) else none) else (bif Nat.beq pc 15 then some (.aload_n 0, 1) else none)))) else (bif Nat.blt pc 24 then (bif Nat.blt pc 20 then (bif Nat.blt pc 19 then (bif Nat.beq pc 16 then some (.getfield 24, 3) else none) else (bif Nat.beq pc 19 then some (.iload_n 1, 1) else none)) else (bif Nat.blt pc 21 then (bif Nat.beq pc 20 then some (.aaload, 1) else none) else (bif Nat.beq pc 21 then some (.getfield 234, 3) else none))) else (bif Nat.blt pc 26 then (bif Nat.blt pc 25 then (bif Nat.beq pc 24 then some (.iload_n 2, 1) else none) else (bif Nat.beq pc 25 then some (.iaload, 1) else none)) else (bif Nat.blt pc 29 then (bif Nat.beq pc 26 then some (.goto 4, 3) else none) else (bif Nat.blt pc 30 then (bif Nat.beq pc 29 then some (.iconst (-1), 1) else none) else (bif Nat.beq pc 30 then some (.ireturn, 1) else none))))))
def M_X7_where : MR := (S_X7_where, P_TownFolk, gd 31 C_X7_where)
set_option maxRecDepth 100000 in
theorem Mok_X7_where : MOK M_X7_where := ⟨gd_ok (by decide +kernel), Pok_TownFolk, by decide +kernel⟩
def C_X7_status (pc : Nat) : Option (Instr × Nat) := (bif Nat.blt pc 96 then (bif Nat.blt pc 77 then (bif Nat.blt pc 67 then (bif Nat.blt pc 60 then (bif Nat.blt pc 1 then (bif Nat.beq pc 0 then some (.iload_n 1, 1) else none) else (bif Nat.beq pc 1 then some (.tableswitch 123 0 10 #[59, 67, 75, 80, 85, 90, 95, 100, 105, 110, 118], 59) else none)) else (bif Nat.blt pc 61 then (bif Nat.beq pc 60 then some (.aload_n 0, 1) else none) else (bif Nat.blt pc 64 then (bif Nat.beq pc 61 then some (.getfield 12, 3) else none) else (bif Nat.beq pc 64 then some (.getfield 77, 3) else none)))) else (bif Nat.blt pc 72 then (bif Nat.blt pc 68 then (bif Nat.beq pc 67 then some (.ireturn, 1) else none) else (bif Nat.blt pc 69 then (bif Nat.beq pc 68 then some (.aload_n 0, 1) else none) else (bif Nat.beq pc 69 then some (.getfield 12, 3) else none))) else (bif Nat.blt pc 75 then (bif Nat.beq pc 72 then some (.getfield 89, 3) else none) else (bif Nat.blt pc 76 then (bif Nat.beq pc 75 then some (.ireturn, 1) else none) else (bif Nat.beq pc 76 then some (.aload_n 0, 1) else none))))) else (bif Nat.blt pc 86 then (bif Nat.blt pc 81 then (bif Nat.blt pc 80 then (bif Nat.beq pc 77 then some (.getfield 96, 3) else none) else (bif Nat.beq pc 80 then some (.ireturn, 1) else none)) else (bif Nat.blt pc 82 then (bif Nat.beq pc 81 then some (.aload_n 0, 1) else none) else (bif Nat.blt pc 85 then (bif Nat.beq pc 82 then some (.invokevirtual 244, 3) else none) else (bif Nat.beq pc 85 then some (.ireturn, 1) else none)))) else (bif Nat.blt pc 91 then (bif Nat.blt pc 87 then (bif Nat.beq pc 86 then some (.aload_n 0, 1) else none) else (bif Nat.blt pc 90 then (bif Nat.beq pc 87 then some (.getfield 113, 3) else none) else (bif Nat.beq pc 90 then some (.ireturn, 1) else none))) else (bif Nat.blt pc 92 then (bif Nat.beq pc 91 then some (.aload_n 0, 1) else none) else (bif Nat.blt pc 95 then (bif Nat.beq pc 92 then some (.getfield 219, 3) else none) else (bif Nat.beq pc 95 then some (.ireturn, 1) else none)))))) else (bif Nat.blt pc 115 then (bif Nat.blt pc 105 then (bif Nat.blt pc 100 then (bif Nat.blt pc 97 then (bif Nat.beq pc 96 then some (.aload_n 0, 1) else none) else (bif Nat.beq pc 97 then some (.getfield 277, 3) else none)) else (bif Nat.blt pc 101 then (bif Nat.beq pc 100 then some (.ireturn, 1) else none) else (bif Nat.blt pc 102 then (bif Nat.beq pc 101 then some (.aload_n 0, 1) else none) else (bif Nat.beq pc 102 then some (.getfield 247, 3) else none)))) else (bif Nat.blt pc 110 then (bif Nat.blt pc 106 then (bif Nat.beq pc 105 then some (.ireturn, 1) else none) else (bif Nat.blt pc 107 then (bif Nat.beq pc 106 then some (.aload_n 0, 1) else none) else (bif Nat.beq pc 107 then some (.invokevirtual 280, 3) else none))) else (bif Nat.blt pc 111 then (bif Nat.beq pc 110 then some (.ireturn, 1) else none) else (bif Nat.blt pc 112 then (bif Nat.beq pc 111 then some (.aload_n 0, 1) else none) else (bif Nat.beq pc 112 then some (.getfield 228, 3) else none))))) else (bif Nat.blt pc 124 then (bif Nat.blt pc 119 then (bif Nat.blt pc 118 then (bif Nat.beq pc 115 then some (.invokestatic 105, 3) else none) else (bif Nat.beq pc 118 then some (.ireturn, 1) else none)) else (bif Nat.blt pc 120 then (bif Nat.beq pc 119 then some (.aload_n 0, 1) else none) else (bif Nat.blt pc 123 then (bif Nat.beq pc 120 then some (.getfield 283, 3) else none) else (bif Nat.beq pc 123 then some (.ireturn, 1) else none)))) else (bif Nat.blt pc 128 then (bif Nat.blt pc 125 then (bif Nat.beq pc 124 then some (.aload_n 0, 1) else none) else (bif Nat.blt pc 127 then (bif Nat.beq pc 125 then some (.bipush 10, 2) else none) else (bif Nat.beq pc 127 then some (.iload_n 1, 1) else none))) else (bif Nat.blt pc 129 then (bif Nat.beq pc 128 then some (.isub, 1) else none) else (bif Nat.blt pc 132 then (bif Nat.beq pc 129 then some (.invokevirtual 286, 3) else none) else (bif Nat.beq pc 132 then some (.ireturn, 1) else none)))))))
def M_X7_status : MR := (S_X7_status, P_TownFolk, gd 133 C_X7_status)
set_option maxRecDepth 100000 in
theorem Mok_X7_status : MOK M_X7_status := ⟨gd_ok (by decide +kernel), Pok_TownFolk, by decide +kernel⟩
def C_X7_refuse (pc : Nat) : Option (Instr × Nat) := (bif Nat.blt pc 15 then (bif Nat.blt pc 6 then (bif Nat.blt pc 2 then (bif Nat.blt pc 1 then (bif Nat.beq pc 0 then some (.iload_n 1, 1) else none) else (bif Nat.beq pc 1 then some (.iconst (-1), 1) else none)) else (bif Nat.blt pc 5 then (bif Nat.beq pc 2 then some (.if_icmp .gt 20, 3) else none) else (bif Nat.beq pc 5 then some (.iload_n 1, 1) else none))) else (bif Nat.blt pc 11 then (bif Nat.blt pc 8 then (bif Nat.beq pc 6 then some (.bipush (-7), 2) else none) else (bif Nat.beq pc 8 then some (.if_icmp .lt 14, 3) else none)) else (bif Nat.blt pc 12 then (bif Nat.beq pc 11 then some (.aload_n 0, 1) else none) else (bif Nat.beq pc 12 then some (.getfield 59, 3) else none)))) else (bif Nat.blt pc 19 then (bif Nat.blt pc 17 then (bif Nat.blt pc 16 then (bif Nat.beq pc 15 then some (.iload_n 1, 1) else none) else (bif Nat.beq pc 16 then some (.ineg, 1) else none)) else (bif Nat.blt pc 18 then (bif Nat.beq pc 17 then some (.dup2, 1) else none) else (bif Nat.beq pc 18 then some (.iaload, 1) else none))) else (bif Nat.blt pc 21 then (bif Nat.blt pc 20 then (bif Nat.beq pc 19 then some (.iconst 1, 1) else none) else (bif Nat.beq pc 20 then some (.iadd, 1) else none)) else (bif Nat.blt pc 22 then (bif Nat.beq pc 21 then some (.iastore, 1) else none) else (bif Nat.blt pc 23 then (bif Nat.beq pc 22 then some (.iload_n 1, 1) else none) else (bif Nat.beq pc 23 then some (.ireturn, 1) else none))))))
def M_X7_refuse : MR := (S_X7_refuse, P_TownFolk, gd 24 C_X7_refuse)
set_option maxRecDepth 100000 in
theorem Mok_X7_refuse : MOK M_X7_refuse := ⟨gd_ok (by decide +kernel), Pok_TownFolk, by decide +kernel⟩
def C_X7_refusalsOf (pc : Nat) : Option (Instr × Nat) := (bif Nat.blt pc 12 then (bif Nat.blt pc 5 then (bif Nat.blt pc 1 then (bif Nat.beq pc 0 then some (.iload_n 1, 1) else none) else (bif Nat.blt pc 2 then (bif Nat.beq pc 1 then some (.iconst (-1), 1) else none) else (bif Nat.beq pc 2 then some (.if_icmp .gt 19, 3) else none))) else (bif Nat.blt pc 8 then (bif Nat.blt pc 6 then (bif Nat.beq pc 5 then some (.iload_n 1, 1) else none) else (bif Nat.beq pc 6 then some (.bipush (-7), 2) else none)) else (bif Nat.blt pc 11 then (bif Nat.beq pc 8 then some (.if_icmp .lt 13, 3) else none) else (bif Nat.beq pc 11 then some (.aload_n 0, 1) else none)))) else (bif Nat.blt pc 17 then (bif Nat.blt pc 15 then (bif Nat.beq pc 12 then some (.getfield 59, 3) else none) else (bif Nat.blt pc 16 then (bif Nat.beq pc 15 then some (.iload_n 1, 1) else none) else (bif Nat.beq pc 16 then some (.ineg, 1) else none))) else (bif Nat.blt pc 21 then (bif Nat.blt pc 18 then (bif Nat.beq pc 17 then some (.iaload, 1) else none) else (bif Nat.beq pc 18 then some (.goto 4, 3) else none)) else (bif Nat.blt pc 22 then (bif Nat.beq pc 21 then some (.iconst (-1), 1) else none) else (bif Nat.beq pc 22 then some (.ireturn, 1) else none)))))
def M_X7_refusalsOf : MR := (S_X7_refusalsOf, P_TownFolk, gd 23 C_X7_refusalsOf)
set_option maxRecDepth 100000 in
theorem Mok_X7_refusalsOf : MOK M_X7_refusalsOf := ⟨gd_ok (by decide +kernel), Pok_TownFolk, by decide +kernel⟩
def C_X7_refusalOfRow (pc : Nat) : Option (Instr × Nat) := (bif Nat.blt pc 21 then (bif Nat.blt pc 9 then (bif Nat.blt pc 4 then (bif Nat.blt pc 1 then (bif Nat.beq pc 0 then some (.iload_n 1, 1) else none) else (bif Nat.beq pc 1 then some (.invokestatic 120, 3) else none)) else (bif Nat.blt pc 7 then (bif Nat.beq pc 4 then some (.ifCond .ne 5, 3) else none) else (bif Nat.blt pc 8 then (bif Nat.beq pc 7 then some (.iconst (-1), 1) else none) else (bif Nat.beq pc 8 then some (.ireturn, 1) else none)))) else (bif Nat.blt pc 14 then (bif Nat.blt pc 10 then (bif Nat.beq pc 9 then some (.aload_n 0, 1) else none) else (bif Nat.blt pc 13 then (bif Nat.beq pc 10 then some (.getfield 18, 3) else none) else (bif Nat.beq pc 13 then some (.iload_n 1, 1) else none))) else (bif Nat.blt pc 15 then (bif Nat.beq pc 14 then some (.aaload, 1) else none) else (bif Nat.blt pc 18 then (bif Nat.beq pc 15 then some (.invokevirtual 141, 3) else none) else (bif Nat.beq pc 18 then some (.ifCond .eq 6, 3) else none))))) else (bif Nat.blt pc 30 then (bif Nat.blt pc 25 then (bif Nat.blt pc 23 then (bif Nat.beq pc 21 then some (.bipush (-2), 2) else none) else (bif Nat.blt pc 24 then (bif Nat.beq pc 23 then some (.ireturn, 1) else none) else (bif Nat.beq pc 24 then some (.aload_n 0, 1) else none))) else (bif Nat.blt pc 28 then (bif Nat.beq pc 25 then some (.getfield 18, 3) else none) else (bif Nat.blt pc 29 then (bif Nat.beq pc 28 then some (.iload_n 1, 1) else none) else (bif Nat.beq pc 29 then some (.aaload, 1) else none)))) else (bif Nat.blt pc 37 then (bif Nat.blt pc 33 then (bif Nat.beq pc 30 then some (.invokevirtual 137, 3) else none) else (bif Nat.blt pc 36 then (bif Nat.beq pc 33 then some (.ifCond .eq 7, 3) else none) else (bif Nat.beq pc 36 then some (.iconst 0, 1) else none))) else (bif Nat.blt pc 40 then (bif Nat.beq pc 37 then some (.goto 5, 3) else none) else (bif Nat.blt pc 42 then (bif Nat.beq pc 40 then some (.bipush (-3), 2) else none) else (bif Nat.beq pc 42 then some (.ireturn, 1) else none))))))
def M_X7_refusalOfRow : MR := (S_X7_refusalOfRow, P_TownFolk, gd 43 C_X7_refusalOfRow)
set_option maxRecDepth 100000 in
theorem Mok_X7_refusalOfRow : MOK M_X7_refusalOfRow := ⟨gd_ok (by decide +kernel), Pok_TownFolk, by decide +kernel⟩
def C_X7_isShelf (pc : Nat) : Option (Instr × Nat) := (bif Nat.blt pc 7 then (bif Nat.blt pc 4 then (bif Nat.blt pc 1 then (bif Nat.beq pc 0 then some (.iload_n 0, 1) else none) else (bif Nat.beq pc 1 then some (.ifCond .lt 13, 3) else none)) else (bif Nat.blt pc 5 then (bif Nat.beq pc 4 then some (.iload_n 0, 1) else none) else (bif Nat.beq pc 5 then some (.bipush 8, 2) else none))) else (bif Nat.blt pc 11 then (bif Nat.blt pc 10 then (bif Nat.beq pc 7 then some (.if_icmp .ge 7, 3) else none) else (bif Nat.beq pc 10 then some (.iconst 1, 1) else none)) else (bif Nat.blt pc 14 then (bif Nat.beq pc 11 then some (.goto 4, 3) else none) else (bif Nat.blt pc 15 then (bif Nat.beq pc 14 then some (.iconst 0, 1) else none) else (bif Nat.beq pc 15 then some (.ireturn, 1) else none)))))
def M_X7_isShelf : MR := (S_X7_isShelf, P_TownFolk, gd 16 C_X7_isShelf)
set_option maxRecDepth 100000 in
theorem Mok_X7_isShelf : MOK M_X7_isShelf := ⟨gd_ok (by decide +kernel), Pok_TownFolk, by decide +kernel⟩
def C_X7_isSpan (pc : Nat) : Option (Instr × Nat) := (bif Nat.blt pc 10 then (bif Nat.blt pc 5 then (bif Nat.blt pc 1 then (bif Nat.beq pc 0 then some (.iconst 0, 1) else none) else (bif Nat.blt pc 2 then (bif Nat.beq pc 1 then some (.iload_n 0, 1) else none) else (bif Nat.beq pc 2 then some (.if_icmp .gt 18, 3) else none))) else (bif Nat.blt pc 6 then (bif Nat.beq pc 5 then some (.iload_n 0, 1) else none) else (bif Nat.blt pc 7 then (bif Nat.beq pc 6 then some (.iload_n 1, 1) else none) else (bif Nat.beq pc 7 then some (.if_icmp .ge 13, 3) else none)))) else (bif Nat.blt pc 16 then (bif Nat.blt pc 11 then (bif Nat.beq pc 10 then some (.iload_n 1, 1) else none) else (bif Nat.blt pc 13 then (bif Nat.beq pc 11 then some (.bipush 48, 2) else none) else (bif Nat.beq pc 13 then some (.if_icmp .gt 7, 3) else none))) else (bif Nat.blt pc 20 then (bif Nat.blt pc 17 then (bif Nat.beq pc 16 then some (.iconst 1, 1) else none) else (bif Nat.beq pc 17 then some (.goto 4, 3) else none)) else (bif Nat.blt pc 21 then (bif Nat.beq pc 20 then some (.iconst 0, 1) else none) else (bif Nat.beq pc 21 then some (.ireturn, 1) else none)))))
def M_X7_isSpan : MR := (S_X7_isSpan, P_TownFolk, gd 22 C_X7_isSpan)
set_option maxRecDepth 100000 in
theorem Mok_X7_isSpan : MOK M_X7_isSpan := ⟨gd_ok (by decide +kernel), Pok_TownFolk, by decide +kernel⟩
def C_X7_isTick (pc : Nat) : Option (Instr × Nat) := (bif Nat.blt pc 7 then (bif Nat.blt pc 4 then (bif Nat.blt pc 1 then (bif Nat.beq pc 0 then some (.iload_n 0, 1) else none) else (bif Nat.beq pc 1 then some (.ifCond .lt 13, 3) else none)) else (bif Nat.blt pc 5 then (bif Nat.beq pc 4 then some (.iload_n 0, 1) else none) else (bif Nat.beq pc 5 then some (.bipush 48, 2) else none))) else (bif Nat.blt pc 11 then (bif Nat.blt pc 10 then (bif Nat.beq pc 7 then some (.if_icmp .ge 7, 3) else none) else (bif Nat.beq pc 10 then some (.iconst 1, 1) else none)) else (bif Nat.blt pc 14 then (bif Nat.beq pc 11 then some (.goto 4, 3) else none) else (bif Nat.blt pc 15 then (bif Nat.beq pc 14 then some (.iconst 0, 1) else none) else (bif Nat.beq pc 15 then some (.ireturn, 1) else none)))))
def M_X7_isTick : MR := (S_X7_isTick, P_TownFolk, gd 16 C_X7_isTick)
set_option maxRecDepth 100000 in
theorem Mok_X7_isTick : MOK M_X7_isTick := ⟨gd_ok (by decide +kernel), Pok_TownFolk, by decide +kernel⟩
def C_X7_isWeight (pc : Nat) : Option (Instr × Nat) := (bif Nat.blt pc 8 then (bif Nat.blt pc 2 then (bif Nat.blt pc 1 then (bif Nat.beq pc 0 then some (.iload_n 0, 1) else none) else (bif Nat.beq pc 1 then some (.iconst 1, 1) else none)) else (bif Nat.blt pc 5 then (bif Nat.beq pc 2 then some (.if_icmp .lt 13, 3) else none) else (bif Nat.blt pc 6 then (bif Nat.beq pc 5 then some (.iload_n 0, 1) else none) else (bif Nat.beq pc 6 then some (.bipush 100, 2) else none)))) else (bif Nat.blt pc 12 then (bif Nat.blt pc 11 then (bif Nat.beq pc 8 then some (.if_icmp .gt 7, 3) else none) else (bif Nat.beq pc 11 then some (.iconst 1, 1) else none)) else (bif Nat.blt pc 15 then (bif Nat.beq pc 12 then some (.goto 4, 3) else none) else (bif Nat.blt pc 16 then (bif Nat.beq pc 15 then some (.iconst 0, 1) else none) else (bif Nat.beq pc 16 then some (.ireturn, 1) else none)))))
def M_X7_isWeight : MR := (S_X7_isWeight, P_TownFolk, gd 17 C_X7_isWeight)
set_option maxRecDepth 100000 in
theorem Mok_X7_isWeight : MOK M_X7_isWeight := ⟨gd_ok (by decide +kernel), Pok_TownFolk, by decide +kernel⟩
def C_X7_wasEver (pc : Nat) : Option (Instr × Nat) := (bif Nat.blt pc 9 then (bif Nat.blt pc 4 then (bif Nat.blt pc 1 then (bif Nat.beq pc 0 then some (.iload_n 1, 1) else none) else (bif Nat.beq pc 1 then some (.ifCond .lt 15, 3) else none)) else (bif Nat.blt pc 5 then (bif Nat.beq pc 4 then some (.iload_n 1, 1) else none) else (bif Nat.blt pc 6 then (bif Nat.beq pc 5 then some (.aload_n 0, 1) else none) else (bif Nat.beq pc 6 then some (.getfield 96, 3) else none)))) else (bif Nat.blt pc 13 then (bif Nat.blt pc 12 then (bif Nat.beq pc 9 then some (.if_icmp .ge 7, 3) else none) else (bif Nat.beq pc 12 then some (.iconst 1, 1) else none)) else (bif Nat.blt pc 16 then (bif Nat.beq pc 13 then some (.goto 4, 3) else none) else (bif Nat.blt pc 17 then (bif Nat.beq pc 16 then some (.iconst 0, 1) else none) else (bif Nat.beq pc 17 then some (.ireturn, 1) else none)))))
def M_X7_wasEver : MR := (S_X7_wasEver, P_TownFolk, gd 18 C_X7_wasEver)
set_option maxRecDepth 100000 in
theorem Mok_X7_wasEver : MOK M_X7_wasEver := ⟨gd_ok (by decide +kernel), Pok_TownFolk, by decide +kernel⟩
def C_X7_isHere (pc : Nat) : Option (Instr × Nat) := (bif Nat.blt pc 13 then (bif Nat.blt pc 5 then (bif Nat.blt pc 1 then (bif Nat.beq pc 0 then some (.aload_n 0, 1) else none) else (bif Nat.blt pc 2 then (bif Nat.beq pc 1 then some (.iload_n 1, 1) else none) else (bif Nat.beq pc 2 then some (.invokevirtual 160, 3) else none))) else (bif Nat.blt pc 9 then (bif Nat.blt pc 8 then (bif Nat.beq pc 5 then some (.ifCond .eq 19, 3) else none) else (bif Nat.beq pc 8 then some (.aload_n 0, 1) else none)) else (bif Nat.blt pc 12 then (bif Nat.beq pc 9 then some (.getfield 24, 3) else none) else (bif Nat.beq pc 12 then some (.iload_n 1, 1) else none)))) else (bif Nat.blt pc 20 then (bif Nat.blt pc 14 then (bif Nat.beq pc 13 then some (.aaload, 1) else none) else (bif Nat.blt pc 17 then (bif Nat.beq pc 14 then some (.getfield 289, 3) else none) else (bif Nat.beq pc 17 then some (.ifCond .ne 7, 3) else none))) else (bif Nat.blt pc 24 then (bif Nat.blt pc 21 then (bif Nat.beq pc 20 then some (.iconst 1, 1) else none) else (bif Nat.beq pc 21 then some (.goto 4, 3) else none)) else (bif Nat.blt pc 25 then (bif Nat.beq pc 24 then some (.iconst 0, 1) else none) else (bif Nat.beq pc 25 then some (.ireturn, 1) else none)))))
def M_X7_isHere : MR := (S_X7_isHere, P_TownFolk, gd 26 C_X7_isHere)
set_option maxRecDepth 100000 in
theorem Mok_X7_isHere : MOK M_X7_isHere := ⟨gd_ok (by decide +kernel), Pok_TownFolk, by decide +kernel⟩
def C_X7_areAllHere (pc : Nat) : Option (Instr × Nat) := (bif Nat.blt pc 13 then (bif Nat.blt pc 8 then (bif Nat.blt pc 2 then (bif Nat.blt pc 1 then (bif Nat.beq pc 0 then some (.iconst 0, 1) else none) else (bif Nat.beq pc 1 then some (.istore_n 2, 1) else none)) else (bif Nat.blt pc 3 then (bif Nat.beq pc 2 then some (.iload_n 2, 1) else none) else (bif Nat.blt pc 5 then (bif Nat.beq pc 3 then some (.bipush 32, 2) else none) else (bif Nat.beq pc 5 then some (.if_icmp .ge 27, 3) else none)))) else (bif Nat.blt pc 10 then (bif Nat.blt pc 9 then (bif Nat.beq pc 8 then some (.iload_n 1, 1) else none) else (bif Nat.beq pc 9 then some (.iload_n 2, 1) else none)) else (bif Nat.blt pc 11 then (bif Nat.beq pc 10 then some (.iushr, 1) else none) else (bif Nat.blt pc 12 then (bif Nat.beq pc 11 then some (.iconst 1, 1) else none) else (bif Nat.beq pc 12 then some (.iand, 1) else none))))) else (bif Nat.blt pc 24 then (bif Nat.blt pc 17 then (bif Nat.blt pc 16 then (bif Nat.beq pc 13 then some (.ifCond .eq 13, 3) else none) else (bif Nat.beq pc 16 then some (.aload_n 0, 1) else none)) else (bif Nat.blt pc 18 then (bif Nat.beq pc 17 then some (.iload_n 2, 1) else none) else (bif Nat.blt pc 21 then (bif Nat.beq pc 18 then some (.invokevirtual 177, 3) else none) else (bif Nat.beq pc 21 then some (.ifCond .ne 5, 3) else none)))) else (bif Nat.blt pc 29 then (bif Nat.blt pc 25 then (bif Nat.beq pc 24 then some (.iconst 0, 1) else none) else (bif Nat.blt pc 26 then (bif Nat.beq pc 25 then some (.ireturn, 1) else none) else (bif Nat.beq pc 26 then some (.iinc 2 1, 3) else none))) else (bif Nat.blt pc 32 then (bif Nat.beq pc 29 then some (.goto (-27), 3) else none) else (bif Nat.blt pc 33 then (bif Nat.beq pc 32 then some (.iconst 1, 1) else none) else (bif Nat.beq pc 33 then some (.ireturn, 1) else none))))))
def M_X7_areAllHere : MR := (S_X7_areAllHere, P_TownFolk, gd 34 C_X7_areAllHere)
set_option maxRecDepth 100000 in
theorem Mok_X7_areAllHere : MOK M_X7_areAllHere := ⟨gd_ok (by decide +kernel), Pok_TownFolk, by decide +kernel⟩
def C_X7_countHere (pc : Nat) : Option (Instr × Nat) := (bif Nat.blt pc 18 then (bif Nat.blt pc 6 then (bif Nat.blt pc 3 then (bif Nat.blt pc 1 then (bif Nat.beq pc 0 then some (.iconst 0, 1) else none) else (bif Nat.blt pc 2 then (bif Nat.beq pc 1 then some (.istore_n 1, 1) else none) else (bif Nat.beq pc 2 then some (.iconst 0, 1) else none))) else (bif Nat.blt pc 4 then (bif Nat.beq pc 3 then some (.istore_n 2, 1) else none) else (bif Nat.blt pc 5 then (bif Nat.beq pc 4 then some (.iload_n 2, 1) else none) else (bif Nat.beq pc 5 then some (.aload_n 0, 1) else none)))) else (bif Nat.blt pc 13 then (bif Nat.blt pc 9 then (bif Nat.beq pc 6 then some (.getfield 96, 3) else none) else (bif Nat.blt pc 12 then (bif Nat.beq pc 9 then some (.if_icmp .ge 29, 3) else none) else (bif Nat.beq pc 12 then some (.iload_n 1, 1) else none))) else (bif Nat.blt pc 14 then (bif Nat.beq pc 13 then some (.aload_n 0, 1) else none) else (bif Nat.blt pc 17 then (bif Nat.beq pc 14 then some (.getfield 24, 3) else none) else (bif Nat.beq pc 17 then some (.iload_n 2, 1) else none))))) else (bif Nat.blt pc 30 then (bif Nat.blt pc 25 then (bif Nat.blt pc 19 then (bif Nat.beq pc 18 then some (.aaload, 1) else none) else (bif Nat.blt pc 22 then (bif Nat.beq pc 19 then some (.getfield 289, 3) else none) else (bif Nat.beq pc 22 then some (.ifCond .eq 7, 3) else none))) else (bif Nat.blt pc 26 then (bif Nat.beq pc 25 then some (.iconst 0, 1) else none) else (bif Nat.blt pc 29 then (bif Nat.beq pc 26 then some (.goto 4, 3) else none) else (bif Nat.beq pc 29 then some (.iconst 1, 1) else none)))) else (bif Nat.blt pc 35 then (bif Nat.blt pc 31 then (bif Nat.beq pc 30 then some (.iadd, 1) else none) else (bif Nat.blt pc 32 then (bif Nat.beq pc 31 then some (.istore_n 1, 1) else none) else (bif Nat.beq pc 32 then some (.iinc 2 1, 3) else none))) else (bif Nat.blt pc 38 then (bif Nat.beq pc 35 then some (.goto (-31), 3) else none) else (bif Nat.blt pc 39 then (bif Nat.beq pc 38 then some (.iload_n 1, 1) else none) else (bif Nat.beq pc 39 then some (.ireturn, 1) else none))))))
def M_X7_countHere : MR := (S_X7_countHere, P_TownFolk, gd 40 C_X7_countHere)
set_option maxRecDepth 100000 in
theorem Mok_X7_countHere : MOK M_X7_countHere := ⟨gd_ok (by decide +kernel), Pok_TownFolk, by decide +kernel⟩
def C_X7_countBent (pc : Nat) : Option (Instr × Nat) := (bif Nat.blt pc 18 then (bif Nat.blt pc 6 then (bif Nat.blt pc 3 then (bif Nat.blt pc 1 then (bif Nat.beq pc 0 then some (.iconst 0, 1) else none) else (bif Nat.blt pc 2 then (bif Nat.beq pc 1 then some (.istore_n 1, 1) else none) else (bif Nat.beq pc 2 then some (.iconst 0, 1) else none))) else (bif Nat.blt pc 4 then (bif Nat.beq pc 3 then some (.istore_n 2, 1) else none) else (bif Nat.blt pc 5 then (bif Nat.beq pc 4 then some (.iload_n 2, 1) else none) else (bif Nat.beq pc 5 then some (.aload_n 0, 1) else none)))) else (bif Nat.blt pc 13 then (bif Nat.blt pc 9 then (bif Nat.beq pc 6 then some (.getfield 96, 3) else none) else (bif Nat.blt pc 12 then (bif Nat.beq pc 9 then some (.if_icmp .ge 29, 3) else none) else (bif Nat.beq pc 12 then some (.iload_n 1, 1) else none))) else (bif Nat.blt pc 14 then (bif Nat.beq pc 13 then some (.aload_n 0, 1) else none) else (bif Nat.blt pc 17 then (bif Nat.beq pc 14 then some (.getfield 24, 3) else none) else (bif Nat.beq pc 17 then some (.iload_n 2, 1) else none))))) else (bif Nat.blt pc 30 then (bif Nat.blt pc 25 then (bif Nat.blt pc 19 then (bif Nat.beq pc 18 then some (.aaload, 1) else none) else (bif Nat.blt pc 22 then (bif Nat.beq pc 19 then some (.getfield 292, 3) else none) else (bif Nat.beq pc 22 then some (.ifCond .eq 7, 3) else none))) else (bif Nat.blt pc 26 then (bif Nat.beq pc 25 then some (.iconst 1, 1) else none) else (bif Nat.blt pc 29 then (bif Nat.beq pc 26 then some (.goto 4, 3) else none) else (bif Nat.beq pc 29 then some (.iconst 0, 1) else none)))) else (bif Nat.blt pc 35 then (bif Nat.blt pc 31 then (bif Nat.beq pc 30 then some (.iadd, 1) else none) else (bif Nat.blt pc 32 then (bif Nat.beq pc 31 then some (.istore_n 1, 1) else none) else (bif Nat.beq pc 32 then some (.iinc 2 1, 3) else none))) else (bif Nat.blt pc 38 then (bif Nat.beq pc 35 then some (.goto (-31), 3) else none) else (bif Nat.blt pc 39 then (bif Nat.beq pc 38 then some (.iload_n 1, 1) else none) else (bif Nat.beq pc 39 then some (.ireturn, 1) else none))))))
def M_X7_countBent : MR := (S_X7_countBent, P_TownFolk, gd 40 C_X7_countBent)
set_option maxRecDepth 100000 in
theorem Mok_X7_countBent : MOK M_X7_countBent := ⟨gd_ok (by decide +kernel), Pok_TownFolk, by decide +kernel⟩
def C_X7_moment (pc : Nat) : Option (Instr × Nat) := (bif Nat.blt pc 7 then (bif Nat.blt pc 4 then (bif Nat.blt pc 1 then (bif Nat.beq pc 0 then some (.aload_n 0, 1) else none) else (bif Nat.beq pc 1 then some (.getfield 277, 3) else none)) else (bif Nat.blt pc 6 then (bif Nat.beq pc 4 then some (.bipush 48, 2) else none) else (bif Nat.beq pc 6 then some (.imul, 1) else none))) else (bif Nat.blt pc 11 then (bif Nat.blt pc 8 then (bif Nat.beq pc 7 then some (.aload_n 0, 1) else none) else (bif Nat.beq pc 8 then some (.getfield 219, 3) else none)) else (bif Nat.blt pc 12 then (bif Nat.beq pc 11 then some (.iadd, 1) else none) else (bif Nat.beq pc 12 then some (.ireturn, 1) else none))))
def M_X7_moment : MR := (S_X7_moment, P_TownFolk, gd 13 C_X7_moment)
set_option maxRecDepth 100000 in
theorem Mok_X7_moment : MOK M_X7_moment := ⟨gd_ok (by decide +kernel), Pok_TownFolk, by decide +kernel⟩
def C_X7_beginDay (pc : Nat) : Option (Instr × Nat) := (bif Nat.blt pc 53 then (bif Nat.blt pc 24 then (bif Nat.blt pc 11 then (bif Nat.blt pc 5 then (bif Nat.blt pc 1 then (bif Nat.beq pc 0 then some (.aload_n 0, 1) else none) else (bif Nat.blt pc 2 then (bif Nat.beq pc 1 then some (.iconst 0, 1) else none) else (bif Nat.beq pc 2 then some (.putfield 219, 3) else none))) else (bif Nat.blt pc 7 then (bif Nat.blt pc 6 then (bif Nat.beq pc 5 then some (.aload_n 0, 1) else none) else (bif Nat.beq pc 6 then some (.iconst 0, 1) else none)) else (bif Nat.blt pc 10 then (bif Nat.beq pc 7 then some (.putfield 228, 3) else none) else (bif Nat.beq pc 10 then some (.aload_n 0, 1) else none)))) else (bif Nat.blt pc 18 then (bif Nat.blt pc 14 then (bif Nat.beq pc 11 then some (.getfield 37, 3) else none) else (bif Nat.blt pc 17 then (bif Nat.beq pc 14 then some (.invokevirtual 295, 3) else none) else (bif Nat.beq pc 17 then some (.iconst 0, 1) else none))) else (bif Nat.blt pc 20 then (bif Nat.blt pc 19 then (bif Nat.beq pc 18 then some (.istore_n 1, 1) else none) else (bif Nat.beq pc 19 then some (.iload_n 1, 1) else none)) else (bif Nat.blt pc 21 then (bif Nat.beq pc 20 then some (.aload_n 0, 1) else none) else (bif Nat.beq pc 21 then some (.getfield 113, 3) else none))))) else (bif Nat.blt pc 39 then (bif Nat.blt pc 31 then (bif Nat.blt pc 27 then (bif Nat.beq pc 24 then some (.if_icmp .ge 18, 3) else none) else (bif Nat.blt pc 28 then (bif Nat.beq pc 27 then some (.aload_n 0, 1) else none) else (bif Nat.beq pc 28 then some (.getfield 30, 3) else none))) else (bif Nat.blt pc 33 then (bif Nat.blt pc 32 then (bif Nat.beq pc 31 then some (.iload_n 1, 1) else none) else (bif Nat.beq pc 32 then some (.aaload, 1) else none)) else (bif Nat.blt pc 36 then (bif Nat.beq pc 33 then some (.invokevirtual 296, 3) else none) else (bif Nat.beq pc 36 then some (.iinc 1 1, 3) else none)))) else (bif Nat.blt pc 45 then (bif Nat.blt pc 43 then (bif Nat.blt pc 42 then (bif Nat.beq pc 39 then some (.goto (-20), 3) else none) else (bif Nat.beq pc 42 then some (.iconst 0, 1) else none)) else (bif Nat.blt pc 44 then (bif Nat.beq pc 43 then some (.istore_n 1, 1) else none) else (bif Nat.beq pc 44 then some (.iload_n 1, 1) else none))) else (bif Nat.blt pc 49 then (bif Nat.blt pc 46 then (bif Nat.beq pc 45 then some (.aload_n 0, 1) else none) else (bif Nat.beq pc 46 then some (.getfield 96, 3) else none)) else (bif Nat.blt pc 52 then (bif Nat.beq pc 49 then some (.if_icmp .ge 18, 3) else none) else (bif Nat.beq pc 52 then some (.aload_n 0, 1) else none)))))) else (bif Nat.blt pc 79 then (bif Nat.blt pc 68 then (bif Nat.blt pc 58 then (bif Nat.blt pc 56 then (bif Nat.beq pc 53 then some (.getfield 24, 3) else none) else (bif Nat.blt pc 57 then (bif Nat.beq pc 56 then some (.iload_n 1, 1) else none) else (bif Nat.beq pc 57 then some (.aaload, 1) else none))) else (bif Nat.blt pc 64 then (bif Nat.blt pc 61 then (bif Nat.beq pc 58 then some (.invokevirtual 298, 3) else none) else (bif Nat.beq pc 61 then some (.iinc 1 1, 3) else none)) else (bif Nat.blt pc 67 then (bif Nat.beq pc 64 then some (.goto (-20), 3) else none) else (bif Nat.beq pc 67 then some (.iconst 0, 1) else none)))) else (bif Nat.blt pc 71 then (bif Nat.blt pc 69 then (bif Nat.beq pc 68 then some (.istore_n 1, 1) else none) else (bif Nat.blt pc 70 then (bif Nat.beq pc 69 then some (.iconst 0, 1) else none) else (bif Nat.beq pc 70 then some (.istore_n 2, 1) else none))) else (bif Nat.blt pc 73 then (bif Nat.blt pc 72 then (bif Nat.beq pc 71 then some (.iload_n 2, 1) else none) else (bif Nat.beq pc 72 then some (.aload_n 0, 1) else none)) else (bif Nat.blt pc 76 then (bif Nat.beq pc 73 then some (.getfield 96, 3) else none) else (bif Nat.beq pc 76 then some (.if_icmp .ge 30, 3) else none))))) else (bif Nat.blt pc 92 then (bif Nat.blt pc 84 then (bif Nat.blt pc 80 then (bif Nat.beq pc 79 then some (.aload_n 0, 1) else none) else (bif Nat.blt pc 83 then (bif Nat.beq pc 80 then some (.getfield 24, 3) else none) else (bif Nat.beq pc 83 then some (.iload_n 2, 1) else none))) else (bif Nat.blt pc 88 then (bif Nat.blt pc 85 then (bif Nat.beq pc 84 then some (.aaload, 1) else none) else (bif Nat.beq pc 85 then some (.getfield 289, 3) else none)) else (bif Nat.blt pc 91 then (bif Nat.beq pc 88 then some (.ifCond .ne 12, 3) else none) else (bif Nat.beq pc 91 then some (.aload_n 0, 1) else none)))) else (bif Nat.blt pc 100 then (bif Nat.blt pc 96 then (bif Nat.blt pc 93 then (bif Nat.beq pc 92 then some (.iload_n 2, 1) else none) else (bif Nat.beq pc 93 then some (.invokevirtual 225, 3) else none)) else (bif Nat.blt pc 97 then (bif Nat.beq pc 96 then some (.pop, 1) else none) else (bif Nat.beq pc 97 then some (.iinc 1 1, 3) else none))) else (bif Nat.blt pc 106 then (bif Nat.blt pc 103 then (bif Nat.beq pc 100 then some (.iinc 2 1, 3) else none) else (bif Nat.beq pc 103 then some (.goto (-32), 3) else none)) else (bif Nat.blt pc 107 then (bif Nat.beq pc 106 then some (.iload_n 1, 1) else none) else (bif Nat.beq pc 107 then some (.ireturn, 1) else none)))))))
def M_X7_beginDay : MR := (S_X7_beginDay, P_TownFolk, gd 108 C_X7_beginDay)
set_option maxRecDepth 100000 in
theorem Mok_X7_beginDay : MOK M_X7_beginDay := ⟨gd_ok (by decide +kernel), Pok_TownFolk, by decide +kernel⟩
def C_X7_liveTick (pc : Nat) : Option (Instr × Nat) := (bif Nat.blt pc 37 then (bif Nat.blt pc 15 then (bif Nat.blt pc 6 then (bif Nat.blt pc 4 then (bif Nat.blt pc 1 then (bif Nat.beq pc 0 then some (.aload_n 0, 1) else none) else (bif Nat.beq pc 1 then some (.invokevirtual 299, 3) else none)) else (bif Nat.blt pc 5 then (bif Nat.beq pc 4 then some (.iconst 0, 1) else none) else (bif Nat.beq pc 5 then some (.istore_n 1, 1) else none))) else (bif Nat.blt pc 8 then (bif Nat.blt pc 7 then (bif Nat.beq pc 6 then some (.iload_n 1, 1) else none) else (bif Nat.beq pc 7 then some (.aload_n 0, 1) else none)) else (bif Nat.blt pc 11 then (bif Nat.beq pc 8 then some (.getfield 113, 3) else none) else (bif Nat.blt pc 14 then (bif Nat.beq pc 11 then some (.if_icmp .ge 26, 3) else none) else (bif Nat.beq pc 14 then some (.aload_n 0, 1) else none))))) else (bif Nat.blt pc 24 then (bif Nat.blt pc 19 then (bif Nat.blt pc 18 then (bif Nat.beq pc 15 then some (.getfield 30, 3) else none) else (bif Nat.beq pc 18 then some (.iload_n 1, 1) else none)) else (bif Nat.blt pc 20 then (bif Nat.beq pc 19 then some (.aaload, 1) else none) else (bif Nat.blt pc 21 then (bif Nat.beq pc 20 then some (.aload_n 0, 1) else none) else (bif Nat.beq pc 21 then some (.getfield 24, 3) else none)))) else (bif Nat.blt pc 28 then (bif Nat.blt pc 25 then (bif Nat.beq pc 24 then some (.aload_n 0, 1) else none) else (bif Nat.beq pc 25 then some (.getfield 219, 3) else none)) else (bif Nat.blt pc 31 then (bif Nat.beq pc 28 then some (.invokevirtual 302, 3) else none) else (bif Nat.blt pc 34 then (bif Nat.beq pc 31 then some (.iinc 1 1, 3) else none) else (bif Nat.beq pc 34 then some (.goto (-28), 3) else none)))))) else (bif Nat.blt pc 56 then (bif Nat.blt pc 44 then (bif Nat.blt pc 39 then (bif Nat.blt pc 38 then (bif Nat.beq pc 37 then some (.aload_n 0, 1) else none) else (bif Nat.beq pc 38 then some (.dup, 1) else none)) else (bif Nat.blt pc 42 then (bif Nat.beq pc 39 then some (.getfield 219, 3) else none) else (bif Nat.blt pc 43 then (bif Nat.beq pc 42 then some (.iconst 1, 1) else none) else (bif Nat.beq pc 43 then some (.iadd, 1) else none)))) else (bif Nat.blt pc 48 then (bif Nat.blt pc 47 then (bif Nat.beq pc 44 then some (.putfield 219, 3) else none) else (bif Nat.beq pc 47 then some (.aload_n 0, 1) else none)) else (bif Nat.blt pc 51 then (bif Nat.beq pc 48 then some (.getfield 219, 3) else none) else (bif Nat.blt pc 53 then (bif Nat.beq pc 51 then some (.bipush 48, 2) else none) else (bif Nat.beq pc 53 then some (.if_icmp .ne 18, 3) else none))))) else (bif Nat.blt pc 63 then (bif Nat.blt pc 58 then (bif Nat.blt pc 57 then (bif Nat.beq pc 56 then some (.aload_n 0, 1) else none) else (bif Nat.beq pc 57 then some (.dup, 1) else none)) else (bif Nat.blt pc 61 then (bif Nat.beq pc 58 then some (.getfield 277, 3) else none) else (bif Nat.blt pc 62 then (bif Nat.beq pc 61 then some (.iconst 1, 1) else none) else (bif Nat.beq pc 62 then some (.iadd, 1) else none)))) else (bif Nat.blt pc 67 then (bif Nat.blt pc 66 then (bif Nat.beq pc 63 then some (.putfield 277, 3) else none) else (bif Nat.beq pc 66 then some (.aload_n 0, 1) else none)) else (bif Nat.blt pc 70 then (bif Nat.beq pc 67 then some (.invokevirtual 210, 3) else none) else (bif Nat.blt pc 71 then (bif Nat.beq pc 70 then some (.pop, 1) else none) else (bif Nat.beq pc 71 then some (.return_, 1) else none)))))))
def M_X7_liveTick : MR := (S_X7_liveTick, P_TownFolk, gd 72 C_X7_liveTick)
set_option maxRecDepth 100000 in
theorem Mok_X7_liveTick : MOK M_X7_liveTick := ⟨gd_ok (by decide +kernel), Pok_TownFolk, by decide +kernel⟩
def C_X7_tellFacts (pc : Nat) : Option (Instr × Nat) := (bif Nat.blt pc 58 then (bif Nat.blt pc 31 then (bif Nat.blt pc 12 then (bif Nat.blt pc 8 then (bif Nat.blt pc 4 then (bif Nat.blt pc 1 then (bif Nat.beq pc 0 then some (.aload_n 0, 1) else none) else (bif Nat.beq pc 1 then some (.getfield 55, 3) else none)) else (bif Nat.blt pc 5 then (bif Nat.beq pc 4 then some (.iconst 0, 1) else none) else (bif Nat.beq pc 5 then some (.invokestatic 306, 3) else none))) else (bif Nat.blt pc 10 then (bif Nat.blt pc 9 then (bif Nat.beq pc 8 then some (.iconst 0, 1) else none) else (bif Nat.beq pc 9 then some (.istore_n 1, 1) else none)) else (bif Nat.blt pc 11 then (bif Nat.beq pc 10 then some (.iload_n 1, 1) else none) else (bif Nat.beq pc 11 then some (.aload_n 0, 1) else none)))) else (bif Nat.blt pc 22 then (bif Nat.blt pc 18 then (bif Nat.blt pc 15 then (bif Nat.beq pc 12 then some (.getfield 96, 3) else none) else (bif Nat.beq pc 15 then some (.if_icmp .ge 49, 3) else none)) else (bif Nat.blt pc 19 then (bif Nat.beq pc 18 then some (.aload_n 0, 1) else none) else (bif Nat.beq pc 19 then some (.getfield 24, 3) else none))) else (bif Nat.blt pc 24 then (bif Nat.blt pc 23 then (bif Nat.beq pc 22 then some (.iload_n 1, 1) else none) else (bif Nat.beq pc 23 then some (.aaload, 1) else none)) else (bif Nat.blt pc 27 then (bif Nat.beq pc 24 then some (.getfield 234, 3) else none) else (bif Nat.blt pc 28 then (bif Nat.beq pc 27 then some (.aload_n 0, 1) else none) else (bif Nat.beq pc 28 then some (.getfield 219, 3) else none)))))) else (bif Nat.blt pc 45 then (bif Nat.blt pc 37 then (bif Nat.blt pc 33 then (bif Nat.blt pc 32 then (bif Nat.beq pc 31 then some (.iaload, 1) else none) else (bif Nat.beq pc 32 then some (.istore_n 2, 1) else none)) else (bif Nat.blt pc 34 then (bif Nat.beq pc 33 then some (.iload_n 2, 1) else none) else (bif Nat.beq pc 34 then some (.invokestatic 311, 3) else none))) else (bif Nat.blt pc 41 then (bif Nat.blt pc 40 then (bif Nat.beq pc 37 then some (.ifCond .eq 21, 3) else none) else (bif Nat.beq pc 40 then some (.aload_n 0, 1) else none)) else (bif Nat.blt pc 44 then (bif Nat.beq pc 41 then some (.getfield 55, 3) else none) else (bif Nat.beq pc 44 then some (.iload_n 2, 1) else none)))) else (bif Nat.blt pc 51 then (bif Nat.blt pc 47 then (bif Nat.blt pc 46 then (bif Nat.beq pc 45 then some (.dup2, 1) else none) else (bif Nat.beq pc 46 then some (.iaload, 1) else none)) else (bif Nat.blt pc 48 then (bif Nat.beq pc 47 then some (.aload_n 0, 1) else none) else (bif Nat.beq pc 48 then some (.getfield 24, 3) else none))) else (bif Nat.blt pc 53 then (bif Nat.blt pc 52 then (bif Nat.beq pc 51 then some (.iload_n 1, 1) else none) else (bif Nat.beq pc 52 then some (.aaload, 1) else none)) else (bif Nat.blt pc 56 then (bif Nat.beq pc 53 then some (.getfield 314, 3) else none) else (bif Nat.blt pc 57 then (bif Nat.beq pc 56 then some (.ior, 1) else none) else (bif Nat.beq pc 57 then some (.iastore, 1) else none))))))) else (bif Nat.blt pc 89 then (bif Nat.blt pc 74 then (bif Nat.blt pc 66 then (bif Nat.blt pc 64 then (bif Nat.blt pc 61 then (bif Nat.beq pc 58 then some (.iinc 1 1, 3) else none) else (bif Nat.beq pc 61 then some (.goto (-51), 3) else none)) else (bif Nat.blt pc 65 then (bif Nat.beq pc 64 then some (.iconst 0, 1) else none) else (bif Nat.beq pc 65 then some (.istore_n 1, 1) else none))) else (bif Nat.blt pc 68 then (bif Nat.blt pc 67 then (bif Nat.beq pc 66 then some (.iload_n 1, 1) else none) else (bif Nat.beq pc 67 then some (.aload_n 0, 1) else none)) else (bif Nat.blt pc 71 then (bif Nat.beq pc 68 then some (.getfield 96, 3) else none) else (bif Nat.beq pc 71 then some (.if_icmp .ge 50, 3) else none)))) else (bif Nat.blt pc 80 then (bif Nat.blt pc 78 then (bif Nat.blt pc 75 then (bif Nat.beq pc 74 then some (.aload_n 0, 1) else none) else (bif Nat.beq pc 75 then some (.getfield 24, 3) else none)) else (bif Nat.blt pc 79 then (bif Nat.beq pc 78 then some (.iload_n 1, 1) else none) else (bif Nat.beq pc 79 then some (.aaload, 1) else none))) else (bif Nat.blt pc 84 then (bif Nat.blt pc 83 then (bif Nat.beq pc 80 then some (.getfield 234, 3) else none) else (bif Nat.beq pc 83 then some (.aload_n 0, 1) else none)) else (bif Nat.blt pc 87 then (bif Nat.beq pc 84 then some (.getfield 219, 3) else none) else (bif Nat.blt pc 88 then (bif Nat.beq pc 87 then some (.iaload, 1) else none) else (bif Nat.beq pc 88 then some (.istore_n 2, 1) else none)))))) else (bif Nat.blt pc 103 then (bif Nat.blt pc 97 then (bif Nat.blt pc 93 then (bif Nat.blt pc 90 then (bif Nat.beq pc 89 then some (.iload_n 2, 1) else none) else (bif Nat.beq pc 90 then some (.invokestatic 311, 3) else none)) else (bif Nat.blt pc 96 then (bif Nat.beq pc 93 then some (.ifCond .eq 22, 3) else none) else (bif Nat.beq pc 96 then some (.aload_n 0, 1) else none))) else (bif Nat.blt pc 101 then (bif Nat.blt pc 100 then (bif Nat.beq pc 97 then some (.getfield 24, 3) else none) else (bif Nat.beq pc 100 then some (.iload_n 1, 1) else none)) else (bif Nat.blt pc 102 then (bif Nat.beq pc 101 then some (.aaload, 1) else none) else (bif Nat.beq pc 102 then some (.aload_n 0, 1) else none)))) else (bif Nat.blt pc 109 then (bif Nat.blt pc 107 then (bif Nat.blt pc 106 then (bif Nat.beq pc 103 then some (.getfield 55, 3) else none) else (bif Nat.beq pc 106 then some (.iload_n 2, 1) else none)) else (bif Nat.blt pc 108 then (bif Nat.beq pc 107 then some (.iaload, 1) else none) else (bif Nat.beq pc 108 then some (.aload_n 0, 1) else none))) else (bif Nat.blt pc 115 then (bif Nat.blt pc 112 then (bif Nat.beq pc 109 then some (.invokevirtual 213, 3) else none) else (bif Nat.beq pc 112 then some (.invokevirtual 250, 3) else none)) else (bif Nat.blt pc 118 then (bif Nat.beq pc 115 then some (.iinc 1 1, 3) else none) else (bif Nat.blt pc 121 then (bif Nat.beq pc 118 then some (.goto (-52), 3) else none) else (bif Nat.beq pc 121 then some (.return_, 1) else none))))))))
def M_X7_tellFacts : MR := (S_X7_tellFacts, P_TownFolk, gd 122 C_X7_tellFacts)
set_option maxRecDepth 100000 in
theorem Mok_X7_tellFacts : MOK M_X7_tellFacts := ⟨gd_ok (by decide +kernel), Pok_TownFolk, by decide +kernel⟩
def C_X7_isIn (pc : Nat) : Option (Instr × Nat) := (bif Nat.blt pc 7 then (bif Nat.blt pc 4 then (bif Nat.blt pc 1 then (bif Nat.beq pc 0 then some (.iload_n 0, 1) else none) else (bif Nat.beq pc 1 then some (.ifCond .lt 13, 3) else none)) else (bif Nat.blt pc 5 then (bif Nat.beq pc 4 then some (.iload_n 0, 1) else none) else (bif Nat.beq pc 5 then some (.bipush 12, 2) else none))) else (bif Nat.blt pc 11 then (bif Nat.blt pc 10 then (bif Nat.beq pc 7 then some (.if_icmp .ge 7, 3) else none) else (bif Nat.beq pc 10 then some (.iconst 1, 1) else none)) else (bif Nat.blt pc 14 then (bif Nat.beq pc 11 then some (.goto 4, 3) else none) else (bif Nat.blt pc 15 then (bif Nat.beq pc 14 then some (.iconst 0, 1) else none) else (bif Nat.beq pc 15 then some (.ireturn, 1) else none)))))
def M_X7_isIn : MR := (S_X7_isIn, P_TownFolk, gd 16 C_X7_isIn)
set_option maxRecDepth 100000 in
theorem Mok_X7_isIn : MOK M_X7_isIn := ⟨gd_ok (by decide +kernel), Pok_TownFolk, by decide +kernel⟩
def C_X7_replanThoseDueIn (pc : Nat) : Option (Instr × Nat) := (bif Nat.blt pc 19 then (bif Nat.blt pc 6 then (bif Nat.blt pc 3 then (bif Nat.blt pc 1 then (bif Nat.beq pc 0 then some (.iconst 0, 1) else none) else (bif Nat.blt pc 2 then (bif Nat.beq pc 1 then some (.istore_n 2, 1) else none) else (bif Nat.beq pc 2 then some (.iconst 0, 1) else none))) else (bif Nat.blt pc 4 then (bif Nat.beq pc 3 then some (.istore_n 3, 1) else none) else (bif Nat.blt pc 5 then (bif Nat.beq pc 4 then some (.iload_n 3, 1) else none) else (bif Nat.beq pc 5 then some (.aload_n 0, 1) else none)))) else (bif Nat.blt pc 13 then (bif Nat.blt pc 9 then (bif Nat.beq pc 6 then some (.getfield 96, 3) else none) else (bif Nat.blt pc 12 then (bif Nat.beq pc 9 then some (.if_icmp .ge 35, 3) else none) else (bif Nat.beq pc 12 then some (.aload_n 0, 1) else none))) else (bif Nat.blt pc 17 then (bif Nat.blt pc 16 then (bif Nat.beq pc 13 then some (.getfield 24, 3) else none) else (bif Nat.beq pc 16 then some (.iload_n 3, 1) else none)) else (bif Nat.blt pc 18 then (bif Nat.beq pc 17 then some (.aaload, 1) else none) else (bif Nat.beq pc 18 then some (.iload_n 1, 1) else none))))) else (bif Nat.blt pc 31 then (bif Nat.blt pc 26 then (bif Nat.blt pc 20 then (bif Nat.beq pc 19 then some (.aload_n 0, 1) else none) else (bif Nat.blt pc 23 then (bif Nat.beq pc 20 then some (.getfield 219, 3) else none) else (bif Nat.beq pc 23 then some (.invokevirtual 317, 3) else none))) else (bif Nat.blt pc 29 then (bif Nat.beq pc 26 then some (.ifCond .eq 12, 3) else none) else (bif Nat.blt pc 30 then (bif Nat.beq pc 29 then some (.aload_n 0, 1) else none) else (bif Nat.beq pc 30 then some (.iload_n 3, 1) else none)))) else (bif Nat.blt pc 38 then (bif Nat.blt pc 34 then (bif Nat.beq pc 31 then some (.invokevirtual 225, 3) else none) else (bif Nat.blt pc 35 then (bif Nat.beq pc 34 then some (.pop, 1) else none) else (bif Nat.beq pc 35 then some (.iinc 2 1, 3) else none))) else (bif Nat.blt pc 44 then (bif Nat.blt pc 41 then (bif Nat.beq pc 38 then some (.iinc 3 1, 3) else none) else (bif Nat.beq pc 41 then some (.goto (-37), 3) else none)) else (bif Nat.blt pc 45 then (bif Nat.beq pc 44 then some (.iload_n 2, 1) else none) else (bif Nat.beq pc 45 then some (.ireturn, 1) else none))))))
def M_X7_replanThoseDueIn : MR := (S_X7_replanThoseDueIn, P_TownFolk, gd 46 C_X7_replanThoseDueIn)
set_option maxRecDepth 100000 in
theorem Mok_X7_replanThoseDueIn : MOK M_X7_replanThoseDueIn := ⟨gd_ok (by decide +kernel), Pok_TownFolk, by decide +kernel⟩
def C_X7_replan (pc : Nat) : Option (Instr × Nat) := (bif Nat.blt pc 91 then (bif Nat.blt pc 43 then (bif Nat.blt pc 18 then (bif Nat.blt pc 8 then (bif Nat.blt pc 5 then (bif Nat.blt pc 1 then (bif Nat.beq pc 0 then some (.aload_n 0, 1) else none) else (bif Nat.blt pc 4 then (bif Nat.beq pc 1 then some (.getfield 24, 3) else none) else (bif Nat.beq pc 4 then some (.iload_n 1, 1) else none))) else (bif Nat.blt pc 6 then (bif Nat.beq pc 5 then some (.aaload, 1) else none) else (bif Nat.blt pc 7 then (bif Nat.beq pc 6 then some (.astore_n 2, 1) else none) else (bif Nat.beq pc 7 then some (.aload_n 0, 1) else none)))) else (bif Nat.blt pc 13 then (bif Nat.blt pc 9 then (bif Nat.beq pc 8 then some (.dup, 1) else none) else (bif Nat.blt pc 12 then (bif Nat.beq pc 9 then some (.getfield 283, 3) else none) else (bif Nat.beq pc 12 then some (.iconst 1, 1) else none))) else (bif Nat.blt pc 14 then (bif Nat.beq pc 13 then some (.iadd, 1) else none) else (bif Nat.blt pc 17 then (bif Nat.beq pc 14 then some (.putfield 283, 3) else none) else (bif Nat.beq pc 17 then some (.aload_n 0, 1) else none))))) else (bif Nat.blt pc 32 then (bif Nat.blt pc 25 then (bif Nat.blt pc 21 then (bif Nat.beq pc 18 then some (.getfield 37, 3) else none) else (bif Nat.blt pc 22 then (bif Nat.beq pc 21 then some (.aload_n 2, 1) else none) else (bif Nat.beq pc 22 then some (.getfield 234, 3) else none))) else (bif Nat.blt pc 26 then (bif Nat.beq pc 25 then some (.aload_n 0, 1) else none) else (bif Nat.blt pc 29 then (bif Nat.beq pc 26 then some (.getfield 219, 3) else none) else (bif Nat.beq pc 29 then some (.invokevirtual 237, 3) else none)))) else (bif Nat.blt pc 37 then (bif Nat.blt pc 33 then (bif Nat.beq pc 32 then some (.aload_n 0, 1) else none) else (bif Nat.blt pc 36 then (bif Nat.beq pc 33 then some (.getfield 44, 3) else none) else (bif Nat.beq pc 36 then some (.aload_n 2, 1) else none))) else (bif Nat.blt pc 41 then (bif Nat.blt pc 40 then (bif Nat.beq pc 37 then some (.invokevirtual 320, 3) else none) else (bif Nat.beq pc 40 then some (.iconst 0, 1) else none)) else (bif Nat.blt pc 42 then (bif Nat.beq pc 41 then some (.istore_n 3, 1) else none) else (bif Nat.beq pc 42 then some (.iload_n 3, 1) else none)))))) else (bif Nat.blt pc 68 then (bif Nat.blt pc 55 then (bif Nat.blt pc 50 then (bif Nat.blt pc 44 then (bif Nat.beq pc 43 then some (.aload_n 0, 1) else none) else (bif Nat.blt pc 47 then (bif Nat.beq pc 44 then some (.getfield 113, 3) else none) else (bif Nat.beq pc 47 then some (.if_icmp .ge 65, 3) else none))) else (bif Nat.blt pc 51 then (bif Nat.beq pc 50 then some (.aload_n 0, 1) else none) else (bif Nat.blt pc 54 then (bif Nat.beq pc 51 then some (.getfield 30, 3) else none) else (bif Nat.beq pc 54 then some (.iload_n 3, 1) else none)))) else (bif Nat.blt pc 60 then (bif Nat.blt pc 56 then (bif Nat.beq pc 55 then some (.aaload, 1) else none) else (bif Nat.blt pc 57 then (bif Nat.beq pc 56 then some (.iload_n 1, 1) else none) else (bif Nat.beq pc 57 then some (.invokevirtual 324, 3) else none))) else (bif Nat.blt pc 64 then (bif Nat.blt pc 63 then (bif Nat.beq pc 60 then some (.ifCond .eq 46, 3) else none) else (bif Nat.beq pc 63 then some (.aload_n 0, 1) else none)) else (bif Nat.blt pc 67 then (bif Nat.beq pc 64 then some (.getfield 44, 3) else none) else (bif Nat.beq pc 67 then some (.aload_n 0, 1) else none))))) else (bif Nat.blt pc 80 then (bif Nat.blt pc 73 then (bif Nat.blt pc 71 then (bif Nat.beq pc 68 then some (.getfield 30, 3) else none) else (bif Nat.blt pc 72 then (bif Nat.beq pc 71 then some (.iload_n 3, 1) else none) else (bif Nat.beq pc 72 then some (.aaload, 1) else none))) else (bif Nat.blt pc 76 then (bif Nat.beq pc 73 then some (.getfield 327, 3) else none) else (bif Nat.blt pc 77 then (bif Nat.beq pc 76 then some (.aload_n 0, 1) else none) else (bif Nat.beq pc 77 then some (.getfield 30, 3) else none)))) else (bif Nat.blt pc 85 then (bif Nat.blt pc 81 then (bif Nat.beq pc 80 then some (.iload_n 3, 1) else none) else (bif Nat.blt pc 82 then (bif Nat.beq pc 81 then some (.aaload, 1) else none) else (bif Nat.beq pc 82 then some (.getfield 330, 3) else none))) else (bif Nat.blt pc 89 then (bif Nat.blt pc 86 then (bif Nat.beq pc 85 then some (.aload_n 0, 1) else none) else (bif Nat.beq pc 86 then some (.getfield 30, 3) else none)) else (bif Nat.blt pc 90 then (bif Nat.beq pc 89 then some (.iload_n 3, 1) else none) else (bif Nat.beq pc 90 then some (.aaload, 1) else none))))))) else (bif Nat.blt pc 141 then (bif Nat.blt pc 117 then (bif Nat.blt pc 103 then (bif Nat.blt pc 98 then (bif Nat.blt pc 94 then (bif Nat.beq pc 91 then some (.getfield 333, 3) else none) else (bif Nat.blt pc 95 then (bif Nat.beq pc 94 then some (.aload_n 0, 1) else none) else (bif Nat.beq pc 95 then some (.getfield 30, 3) else none))) else (bif Nat.blt pc 99 then (bif Nat.beq pc 98 then some (.iload_n 3, 1) else none) else (bif Nat.blt pc 100 then (bif Nat.beq pc 99 then some (.aaload, 1) else none) else (bif Nat.beq pc 100 then some (.getfield 336, 3) else none)))) else (bif Nat.blt pc 112 then (bif Nat.blt pc 106 then (bif Nat.beq pc 103 then some (.invokevirtual 339, 3) else none) else (bif Nat.blt pc 109 then (bif Nat.beq pc 106 then some (.iinc 3 1, 3) else none) else (bif Nat.beq pc 109 then some (.goto (-67), 3) else none))) else (bif Nat.blt pc 113 then (bif Nat.beq pc 112 then some (.aload_n 2, 1) else none) else (bif Nat.blt pc 114 then (bif Nat.beq pc 113 then some (.aload_n 0, 1) else none) else (bif Nat.beq pc 114 then some (.getfield 219, 3) else none))))) else (bif Nat.blt pc 128 then (bif Nat.blt pc 122 then (bif Nat.blt pc 120 then (bif Nat.beq pc 117 then some (.invokevirtual 343, 3) else none) else (bif Nat.blt pc 121 then (bif Nat.beq pc 120 then some (.istore_n 3, 1) else none) else (bif Nat.beq pc 121 then some (.aload_n 2, 1) else none))) else (bif Nat.blt pc 123 then (bif Nat.beq pc 122 then some (.iload_n 3, 1) else none) else (bif Nat.blt pc 126 then (bif Nat.beq pc 123 then some (.invokevirtual 346, 3) else none) else (bif Nat.beq pc 126 then some (.istore 4, 2) else none)))) else (bif Nat.blt pc 133 then (bif Nat.blt pc 129 then (bif Nat.beq pc 128 then some (.aload_n 0, 1) else none) else (bif Nat.blt pc 132 then (bif Nat.beq pc 129 then some (.getfield 44, 3) else none) else (bif Nat.beq pc 132 then some (.aload_n 2, 1) else none))) else (bif Nat.blt pc 137 then (bif Nat.blt pc 134 then (bif Nat.beq pc 133 then some (.aload_n 0, 1) else none) else (bif Nat.beq pc 134 then some (.getfield 12, 3) else none)) else (bif Nat.blt pc 138 then (bif Nat.beq pc 137 then some (.aload_n 0, 1) else none) else (bif Nat.beq pc 138 then some (.getfield 37, 3) else none)))))) else (bif Nat.blt pc 164 then (bif Nat.blt pc 151 then (bif Nat.blt pc 146 then (bif Nat.blt pc 142 then (bif Nat.beq pc 141 then some (.aload_n 0, 1) else none) else (bif Nat.blt pc 145 then (bif Nat.beq pc 142 then some (.getfield 228, 3) else none) else (bif Nat.beq pc 145 then some (.iload_n 3, 1) else none))) else (bif Nat.blt pc 149 then (bif Nat.beq pc 146 then some (.invokevirtual 349, 3) else none) else (bif Nat.blt pc 150 then (bif Nat.beq pc 149 then some (.aload_n 2, 1) else none) else (bif Nat.beq pc 150 then some (.aload_n 0, 1) else none)))) else (bif Nat.blt pc 156 then (bif Nat.blt pc 154 then (bif Nat.beq pc 151 then some (.getfield 44, 3) else none) else (bif Nat.blt pc 155 then (bif Nat.beq pc 154 then some (.aload_n 2, 1) else none) else (bif Nat.beq pc 155 then some (.aload_n 0, 1) else none))) else (bif Nat.blt pc 160 then (bif Nat.blt pc 159 then (bif Nat.beq pc 156 then some (.getfield 12, 3) else none) else (bif Nat.beq pc 159 then some (.aload_n 0, 1) else none)) else (bif Nat.blt pc 163 then (bif Nat.beq pc 160 then some (.getfield 219, 3) else none) else (bif Nat.beq pc 163 then some (.iload_n 3, 1) else none))))) else (bif Nat.blt pc 177 then (bif Nat.blt pc 172 then (bif Nat.blt pc 166 then (bif Nat.beq pc 164 then some (.iload 4, 2) else none) else (bif Nat.blt pc 169 then (bif Nat.beq pc 166 then some (.invokevirtual 353, 3) else none) else (bif Nat.beq pc 169 then some (.putfield 256, 3) else none))) else (bif Nat.blt pc 173 then (bif Nat.beq pc 172 then some (.aload_n 0, 1) else none) else (bif Nat.blt pc 176 then (bif Nat.beq pc 173 then some (.getfield 37, 3) else none) else (bif Nat.beq pc 176 then some (.aload_n 2, 1) else none)))) else (bif Nat.blt pc 184 then (bif Nat.blt pc 180 then (bif Nat.beq pc 177 then some (.getfield 234, 3) else none) else (bif Nat.blt pc 181 then (bif Nat.beq pc 180 then some (.aload_n 0, 1) else none) else (bif Nat.beq pc 181 then some (.getfield 219, 3) else none))) else (bif Nat.blt pc 188 then (bif Nat.blt pc 187 then (bif Nat.beq pc 184 then some (.invokevirtual 356, 3) else none) else (bif Nat.beq pc 187 then some (.aload_n 2, 1) else none)) else (bif Nat.blt pc 191 then (bif Nat.beq pc 188 then some (.getfield 256, 3) else none) else (bif Nat.beq pc 191 then some (.ireturn, 1) else none))))))))
def M_X7_replan : MR := (S_X7_replan, P_TownFolk, gd 192 C_X7_replan)
set_option maxRecDepth 100000 in
theorem Mok_X7_replan : MOK M_X7_replan := ⟨gd_ok (by decide +kernel), Pok_TownFolk, by decide +kernel⟩
def C_J6_bitCount_0f7a4 (pc : Nat) : Option (Instr × Nat) := (bif Nat.blt pc 27 then (bif Nat.blt pc 14 then (bif Nat.blt pc 7 then (bif Nat.blt pc 2 then (bif Nat.blt pc 1 then (bif Nat.beq pc 0 then some (.iload_n 0, 1) else none) else (bif Nat.beq pc 1 then some (.iload_n 0, 1) else none)) else (bif Nat.blt pc 3 then (bif Nat.beq pc 2 then some (.iconst 1, 1) else none) else (bif Nat.blt pc 4 then (bif Nat.beq pc 3 then some (.iushr, 1) else none) else (bif Nat.beq pc 4 then some (.ldc_w 265, 3) else none)))) else (bif Nat.blt pc 9 then (bif Nat.blt pc 8 then (bif Nat.beq pc 7 then some (.iand, 1) else none) else (bif Nat.beq pc 8 then some (.isub, 1) else none)) else (bif Nat.blt pc 10 then (bif Nat.beq pc 9 then some (.istore_n 0, 1) else none) else (bif Nat.blt pc 11 then (bif Nat.beq pc 10 then some (.iload_n 0, 1) else none) else (bif Nat.beq pc 11 then some (.ldc_w 266, 3) else none))))) else (bif Nat.blt pc 21 then (bif Nat.blt pc 16 then (bif Nat.blt pc 15 then (bif Nat.beq pc 14 then some (.iand, 1) else none) else (bif Nat.beq pc 15 then some (.iload_n 0, 1) else none)) else (bif Nat.blt pc 17 then (bif Nat.beq pc 16 then some (.iconst 2, 1) else none) else (bif Nat.blt pc 18 then (bif Nat.beq pc 17 then some (.iushr, 1) else none) else (bif Nat.beq pc 18 then some (.ldc_w 266, 3) else none)))) else (bif Nat.blt pc 24 then (bif Nat.blt pc 22 then (bif Nat.beq pc 21 then some (.iand, 1) else none) else (bif Nat.blt pc 23 then (bif Nat.beq pc 22 then some (.iadd, 1) else none) else (bif Nat.beq pc 23 then some (.istore_n 0, 1) else none))) else (bif Nat.blt pc 25 then (bif Nat.beq pc 24 then some (.iload_n 0, 1) else none) else (bif Nat.blt pc 26 then (bif Nat.beq pc 25 then some (.iload_n 0, 1) else none) else (bif Nat.beq pc 26 then some (.iconst 4, 1) else none)))))) else (bif Nat.blt pc 40 then (bif Nat.blt pc 34 then (bif Nat.blt pc 29 then (bif Nat.blt pc 28 then (bif Nat.beq pc 27 then some (.iushr, 1) else none) else (bif Nat.beq pc 28 then some (.iadd, 1) else none)) else (bif Nat.blt pc 32 then (bif Nat.beq pc 29 then some (.ldc_w 267, 3) else none) else (bif Nat.blt pc 33 then (bif Nat.beq pc 32 then some (.iand, 1) else none) else (bif Nat.beq pc 33 then some (.istore_n 0, 1) else none)))) else (bif Nat.blt pc 36 then (bif Nat.blt pc 35 then (bif Nat.beq pc 34 then some (.iload_n 0, 1) else none) else (bif Nat.beq pc 35 then some (.iload_n 0, 1) else none)) else (bif Nat.blt pc 38 then (bif Nat.beq pc 36 then some (.bipush 8, 2) else none) else (bif Nat.blt pc 39 then (bif Nat.beq pc 38 then some (.iushr, 1) else none) else (bif Nat.beq pc 39 then some (.iadd, 1) else none))))) else (bif Nat.blt pc 46 then (bif Nat.blt pc 42 then (bif Nat.blt pc 41 then (bif Nat.beq pc 40 then some (.istore_n 0, 1) else none) else (bif Nat.beq pc 41 then some (.iload_n 0, 1) else none)) else (bif Nat.blt pc 43 then (bif Nat.beq pc 42 then some (.iload_n 0, 1) else none) else (bif Nat.blt pc 45 then (bif Nat.beq pc 43 then some (.bipush 16, 2) else none) else (bif Nat.beq pc 45 then some (.iushr, 1) else none)))) else (bif Nat.blt pc 49 then (bif Nat.blt pc 47 then (bif Nat.beq pc 46 then some (.iadd, 1) else none) else (bif Nat.blt pc 48 then (bif Nat.beq pc 47 then some (.istore_n 0, 1) else none) else (bif Nat.beq pc 48 then some (.iload_n 0, 1) else none))) else (bif Nat.blt pc 51 then (bif Nat.beq pc 49 then some (.bipush 63, 2) else none) else (bif Nat.blt pc 52 then (bif Nat.beq pc 51 then some (.iand, 1) else none) else (bif Nat.beq pc 52 then some (.ireturn, 1) else none)))))))
def M_J6_bitCount_0f7a4 : MR := (S_J6_bitCount_0f7a4, P_java_lang_Integer, gd 53 C_J6_bitCount_0f7a4)
set_option maxRecDepth 100000 in
theorem Mok_J6_bitCount_0f7a4 : MOK M_J6_bitCount_0f7a4 := ⟨gd_ok (by decide +kernel), Pok_java_lang_Integer, by decide +kernel⟩
def P_nil : List (Nat × PE) := []
def C_J9_min_7cf53 (pc : Nat) : Option (Instr × Nat) := (bif Nat.blt pc 5 then (bif Nat.blt pc 1 then (bif Nat.beq pc 0 then some (.iload_n 0, 1) else none) else (bif Nat.blt pc 2 then (bif Nat.beq pc 1 then some (.iload_n 1, 1) else none) else (bif Nat.beq pc 2 then some (.if_icmp .gt 7, 3) else none))) else (bif Nat.blt pc 9 then (bif Nat.blt pc 6 then (bif Nat.beq pc 5 then some (.iload_n 0, 1) else none) else (bif Nat.beq pc 6 then some (.goto 4, 3) else none)) else (bif Nat.blt pc 10 then (bif Nat.beq pc 9 then some (.iload_n 1, 1) else none) else (bif Nat.beq pc 10 then some (.ireturn, 1) else none))))
def M_J9_min_7cf53 : MR := (S_J9_min_7cf53, P_nil, gd 11 C_J9_min_7cf53)
set_option maxRecDepth 100000 in
theorem Mok_J9_min_7cf53 : MOK M_J9_min_7cf53 := ⟨gd_ok (by decide +kernel), fun _ h => absurd h List.not_mem_nil, by decide +kernel⟩
def C_J7_fill_d0a16 (pc : Nat) : Option (Instr × Nat) := (bif Nat.blt pc 9 then (bif Nat.blt pc 3 then (bif Nat.blt pc 1 then (bif Nat.beq pc 0 then some (.iconst 0, 1) else none) else (bif Nat.blt pc 2 then (bif Nat.beq pc 1 then some (.istore_n 3, 1) else none) else (bif Nat.beq pc 2 then some (.aload_n 0, 1) else none))) else (bif Nat.blt pc 6 then (bif Nat.blt pc 4 then (bif Nat.beq pc 3 then some (.arraylength, 1) else none) else (bif Nat.beq pc 4 then some (.istore 4, 2) else none)) else (bif Nat.blt pc 7 then (bif Nat.beq pc 6 then some (.iload_n 3, 1) else none) else (bif Nat.beq pc 7 then some (.iload 4, 2) else none)))) else (bif Nat.blt pc 15 then (bif Nat.blt pc 13 then (bif Nat.blt pc 12 then (bif Nat.beq pc 9 then some (.if_icmp .ge 13, 3) else none) else (bif Nat.beq pc 12 then some (.aload_n 0, 1) else none)) else (bif Nat.blt pc 14 then (bif Nat.beq pc 13 then some (.iload_n 3, 1) else none) else (bif Nat.beq pc 14 then some (.lload_n 1, 1) else none))) else (bif Nat.blt pc 19 then (bif Nat.blt pc 16 then (bif Nat.beq pc 15 then some (.lastore, 1) else none) else (bif Nat.beq pc 16 then some (.iinc 3 1, 3) else none)) else (bif Nat.blt pc 22 then (bif Nat.beq pc 19 then some (.goto (-13), 3) else none) else (bif Nat.beq pc 22 then some (.return_, 1) else none)))))
def M_J7_fill_d0a16 : MR := (S_J7_fill_d0a16, P_nil, gd 23 C_J7_fill_d0a16)
set_option maxRecDepth 100000 in
theorem Mok_J7_fill_d0a16 : MOK M_J7_fill_d0a16 := ⟨gd_ok (by decide +kernel), fun _ h => absurd h List.not_mem_nil, by decide +kernel⟩
def C_J7_fill_53178 (pc : Nat) : Option (Instr × Nat) := (bif Nat.blt pc 7 then (bif Nat.blt pc 3 then (bif Nat.blt pc 1 then (bif Nat.beq pc 0 then some (.iconst 0, 1) else none) else (bif Nat.blt pc 2 then (bif Nat.beq pc 1 then some (.istore_n 2, 1) else none) else (bif Nat.beq pc 2 then some (.aload_n 0, 1) else none))) else (bif Nat.blt pc 5 then (bif Nat.blt pc 4 then (bif Nat.beq pc 3 then some (.arraylength, 1) else none) else (bif Nat.beq pc 4 then some (.istore_n 3, 1) else none)) else (bif Nat.blt pc 6 then (bif Nat.beq pc 5 then some (.iload_n 2, 1) else none) else (bif Nat.beq pc 6 then some (.iload_n 3, 1) else none)))) else (bif Nat.blt pc 13 then (bif Nat.blt pc 11 then (bif Nat.blt pc 10 then (bif Nat.beq pc 7 then some (.if_icmp .ge 13, 3) else none) else (bif Nat.beq pc 10 then some (.aload_n 0, 1) else none)) else (bif Nat.blt pc 12 then (bif Nat.beq pc 11 then some (.iload_n 2, 1) else none) else (bif Nat.beq pc 12 then some (.iload_n 1, 1) else none))) else (bif Nat.blt pc 17 then (bif Nat.blt pc 14 then (bif Nat.beq pc 13 then some (.iastore, 1) else none) else (bif Nat.beq pc 14 then some (.iinc 2 1, 3) else none)) else (bif Nat.blt pc 20 then (bif Nat.beq pc 17 then some (.goto (-12), 3) else none) else (bif Nat.beq pc 20 then some (.return_, 1) else none)))))
def M_J7_fill_53178 : MR := (S_J7_fill_53178, P_nil, gd 21 C_J7_fill_53178)
set_option maxRecDepth 100000 in
theorem Mok_J7_fill_53178 : MOK M_J7_fill_53178 := ⟨gd_ok (by decide +kernel), fun _ h => absurd h List.not_mem_nil, by decide +kernel⟩
def C_L_build (pc : Nat) : Option (Instr × Nat) := (bif Nat.blt pc 179 then (bif Nat.blt pc 89 then (bif Nat.blt pc 45 then (bif Nat.blt pc 21 then (bif Nat.blt pc 11 then (bif Nat.blt pc 7 then (bif Nat.blt pc 3 then (bif Nat.beq pc 0 then some (.new 7, 3) else none) else (bif Nat.blt pc 4 then (bif Nat.beq pc 3 then some (.dup, 1) else none) else (bif Nat.beq pc 4 then some (.invokespecial 9, 3) else none))) else (bif Nat.blt pc 9 then (bif Nat.blt pc 8 then (bif Nat.beq pc 7 then some (.astore_n 1, 1) else none) else (bif Nat.beq pc 8 then some (.iconst 2, 1) else none)) else (bif Nat.blt pc 10 then (bif Nat.beq pc 9 then some (.aload_n 0, 1) else none) else (bif Nat.beq pc 10 then some (.iconst 0, 1) else none)))) else (bif Nat.blt pc 17 then (bif Nat.blt pc 15 then (bif Nat.blt pc 14 then (bif Nat.beq pc 11 then some (.invokestatic 10, 3) else none) else (bif Nat.beq pc 14 then some (.iconst 3, 1) else none)) else (bif Nat.blt pc 16 then (bif Nat.beq pc 15 then some (.iand, 1) else none) else (bif Nat.beq pc 16 then some (.iadd, 1) else none))) else (bif Nat.blt pc 19 then (bif Nat.blt pc 18 then (bif Nat.beq pc 17 then some (.istore_n 2, 1) else none) else (bif Nat.beq pc 18 then some (.iconst 0, 1) else none)) else (bif Nat.blt pc 20 then (bif Nat.beq pc 19 then some (.istore_n 3, 1) else none) else (bif Nat.beq pc 20 then some (.iload_n 3, 1) else none))))) else (bif Nat.blt pc 32 then (bif Nat.blt pc 26 then (bif Nat.blt pc 22 then (bif Nat.beq pc 21 then some (.iload_n 2, 1) else none) else (bif Nat.blt pc 25 then (bif Nat.beq pc 22 then some (.if_icmp .ge 80, 3) else none) else (bif Nat.beq pc 25 then some (.aload_n 0, 1) else none))) else (bif Nat.blt pc 28 then (bif Nat.blt pc 27 then (bif Nat.beq pc 26 then some (.iconst 1, 1) else none) else (bif Nat.beq pc 27 then some (.iload_n 3, 1) else none)) else (bif Nat.blt pc 29 then (bif Nat.beq pc 28 then some (.iadd, 1) else none) else (bif Nat.beq pc 29 then some (.invokestatic 10, 3) else none)))) else (bif Nat.blt pc 39 then (bif Nat.blt pc 36 then (bif Nat.blt pc 34 then (bif Nat.beq pc 32 then some (.istore 4, 2) else none) else (bif Nat.beq pc 34 then some (.iload 4, 2) else none)) else (bif Nat.blt pc 38 then (bif Nat.beq pc 36 then some (.bipush 31, 2) else none) else (bif Nat.beq pc 38 then some (.iand, 1) else none))) else (bif Nat.blt pc 42 then (bif Nat.blt pc 41 then (bif Nat.beq pc 39 then some (.istore 5, 2) else none) else (bif Nat.beq pc 41 then some (.aload_n 1, 1) else none)) else (bif Nat.blt pc 43 then (bif Nat.beq pc 42 then some (.iconst 1, 1) else none) else (bif Nat.beq pc 43 then some (.iload 4, 2) else none)))))) else (bif Nat.blt pc 66 then (bif Nat.blt pc 54 then (bif Nat.blt pc 48 then (bif Nat.blt pc 46 then (bif Nat.beq pc 45 then some (.iconst 5, 1) else none) else (bif Nat.blt pc 47 then (bif Nat.beq pc 46 then some (.ishr, 1) else none) else (bif Nat.beq pc 47 then some (.iconst 1, 1) else none))) else (bif Nat.blt pc 50 then (bif Nat.blt pc 49 then (bif Nat.beq pc 48 then some (.iand, 1) else none) else (bif Nat.beq pc 49 then some (.iadd, 1) else none)) else (bif Nat.blt pc 52 then (bif Nat.beq pc 50 then some (.iload 5, 2) else none) else (bif Nat.beq pc 52 then some (.bipush 48, 2) else none)))) else (bif Nat.blt pc 60 then (bif Nat.blt pc 57 then (bif Nat.blt pc 56 then (bif Nat.beq pc 54 then some (.iload 5, 2) else none) else (bif Nat.beq pc 56 then some (.iconst 1, 1) else none)) else (bif Nat.blt pc 58 then (bif Nat.beq pc 57 then some (.iadd, 1) else none) else (bif Nat.beq pc 58 then some (.iload 4, 2) else none))) else (bif Nat.blt pc 63 then (bif Nat.blt pc 62 then (bif Nat.beq pc 60 then some (.bipush 6, 2) else none) else (bif Nat.beq pc 62 then some (.ishr, 1) else none)) else (bif Nat.blt pc 65 then (bif Nat.beq pc 63 then some (.bipush 63, 2) else none) else (bif Nat.beq pc 65 then some (.iand, 1) else none))))) else (bif Nat.blt pc 79 then (bif Nat.blt pc 73 then (bif Nat.blt pc 67 then (bif Nat.beq pc 66 then some (.iadd, 1) else none) else (bif Nat.blt pc 70 then (bif Nat.beq pc 67 then some (.invokestatic 16, 3) else none) else (bif Nat.beq pc 70 then some (.invokevirtual 22, 3) else none))) else (bif Nat.blt pc 75 then (bif Nat.blt pc 74 then (bif Nat.beq pc 73 then some (.pop, 1) else none) else (bif Nat.beq pc 74 then some (.iload_n 3, 1) else none)) else (bif Nat.blt pc 78 then (bif Nat.beq pc 75 then some (.ifCond .le 21, 3) else none) else (bif Nat.beq pc 78 then some (.aload_n 1, 1) else none)))) else (bif Nat.blt pc 83 then (bif Nat.blt pc 81 then (bif Nat.blt pc 80 then (bif Nat.beq pc 79 then some (.iload_n 3, 1) else none) else (bif Nat.beq pc 80 then some (.iconst 1, 1) else none)) else (bif Nat.blt pc 82 then (bif Nat.beq pc 81 then some (.isub, 1) else none) else (bif Nat.beq pc 82 then some (.iload_n 3, 1) else none))) else (bif Nat.blt pc 86 then (bif Nat.blt pc 84 then (bif Nat.beq pc 83 then some (.iconst 1, 1) else none) else (bif Nat.beq pc 84 then some (.iload 4, 2) else none)) else (bif Nat.blt pc 88 then (bif Nat.beq pc 86 then some (.bipush 12, 2) else none) else (bif Nat.beq pc 88 then some (.ishr, 1) else none))))))) else (bif Nat.blt pc 132 then (bif Nat.blt pc 110 then (bif Nat.blt pc 102 then (bif Nat.blt pc 92 then (bif Nat.blt pc 90 then (bif Nat.beq pc 89 then some (.iconst 3, 1) else none) else (bif Nat.blt pc 91 then (bif Nat.beq pc 90 then some (.iand, 1) else none) else (bif Nat.beq pc 91 then some (.iadd, 1) else none))) else (bif Nat.blt pc 96 then (bif Nat.blt pc 95 then (bif Nat.beq pc 92 then some (.invokevirtual 26, 3) else none) else (bif Nat.beq pc 95 then some (.pop, 1) else none)) else (bif Nat.blt pc 99 then (bif Nat.beq pc 96 then some (.iinc 3 1, 3) else none) else (bif Nat.beq pc 99 then some (.goto (-79), 3) else none)))) else (bif Nat.blt pc 106 then (bif Nat.blt pc 104 then (bif Nat.blt pc 103 then (bif Nat.beq pc 102 then some (.aload_n 1, 1) else none) else (bif Nat.beq pc 103 then some (.iconst 0, 1) else none)) else (bif Nat.blt pc 105 then (bif Nat.beq pc 104 then some (.iload_n 2, 1) else none) else (bif Nat.beq pc 105 then some (.iconst 1, 1) else none))) else (bif Nat.blt pc 108 then (bif Nat.blt pc 107 then (bif Nat.beq pc 106 then some (.isub, 1) else none) else (bif Nat.beq pc 107 then some (.iconst 1, 1) else none)) else (bif Nat.blt pc 109 then (bif Nat.beq pc 108 then some (.aload_n 0, 1) else none) else (bif Nat.beq pc 109 then some (.iconst 0, 1) else none))))) else (bif Nat.blt pc 122 then (bif Nat.blt pc 115 then (bif Nat.blt pc 113 then (bif Nat.beq pc 110 then some (.invokestatic 10, 3) else none) else (bif Nat.blt pc 114 then (bif Nat.beq pc 113 then some (.iconst 2, 1) else none) else (bif Nat.beq pc 114 then some (.ishr, 1) else none))) else (bif Nat.blt pc 118 then (bif Nat.blt pc 117 then (bif Nat.beq pc 115 then some (.bipush 7, 2) else none) else (bif Nat.beq pc 117 then some (.iand, 1) else none)) else (bif Nat.blt pc 119 then (bif Nat.beq pc 118 then some (.iadd, 1) else none) else (bif Nat.beq pc 119 then some (.invokevirtual 26, 3) else none)))) else (bif Nat.blt pc 126 then (bif Nat.blt pc 124 then (bif Nat.blt pc 123 then (bif Nat.beq pc 122 then some (.pop, 1) else none) else (bif Nat.beq pc 123 then some (.iconst 2, 1) else none)) else (bif Nat.blt pc 125 then (bif Nat.beq pc 124 then some (.aload_n 0, 1) else none) else (bif Nat.beq pc 125 then some (.iconst 0, 1) else none))) else (bif Nat.blt pc 130 then (bif Nat.blt pc 129 then (bif Nat.beq pc 126 then some (.invokestatic 10, 3) else none) else (bif Nat.beq pc 129 then some (.iconst 5, 1) else none)) else (bif Nat.blt pc 131 then (bif Nat.beq pc 130 then some (.ishr, 1) else none) else (bif Nat.beq pc 131 then some (.iconst 3, 1) else none)))))) else (bif Nat.blt pc 155 then (bif Nat.blt pc 140 then (bif Nat.blt pc 135 then (bif Nat.blt pc 133 then (bif Nat.beq pc 132 then some (.iand, 1) else none) else (bif Nat.blt pc 134 then (bif Nat.beq pc 133 then some (.iconst 3, 1) else none) else (bif Nat.beq pc 134 then some (.irem, 1) else none))) else (bif Nat.blt pc 137 then (bif Nat.blt pc 136 then (bif Nat.beq pc 135 then some (.iadd, 1) else none) else (bif Nat.beq pc 136 then some (.istore_n 3, 1) else none)) else (bif Nat.blt pc 138 then (bif Nat.beq pc 137 then some (.iconst 0, 1) else none) else (bif Nat.beq pc 138 then some (.istore 4, 2) else none)))) else (bif Nat.blt pc 147 then (bif Nat.blt pc 143 then (bif Nat.blt pc 142 then (bif Nat.beq pc 140 then some (.iload 4, 2) else none) else (bif Nat.beq pc 142 then some (.iload_n 3, 1) else none)) else (bif Nat.blt pc 146 then (bif Nat.beq pc 143 then some (.if_icmp .ge 154, 3) else none) else (bif Nat.beq pc 146 then some (.aload_n 0, 1) else none))) else (bif Nat.blt pc 151 then (bif Nat.blt pc 149 then (bif Nat.beq pc 147 then some (.bipush 6, 2) else none) else (bif Nat.beq pc 149 then some (.iload 4, 2) else none)) else (bif Nat.blt pc 152 then (bif Nat.beq pc 151 then some (.iadd, 1) else none) else (bif Nat.beq pc 152 then some (.invokestatic 10, 3) else none))))) else (bif Nat.blt pc 168 then (bif Nat.blt pc 162 then (bif Nat.blt pc 158 then (bif Nat.blt pc 157 then (bif Nat.beq pc 155 then some (.istore 5, 2) else none) else (bif Nat.beq pc 157 then some (.aload_n 1, 1) else none)) else (bif Nat.blt pc 160 then (bif Nat.beq pc 158 then some (.iload 5, 2) else none) else (bif Nat.beq pc 160 then some (.bipush 7, 2) else none))) else (bif Nat.blt pc 164 then (bif Nat.blt pc 163 then (bif Nat.beq pc 162 then some (.iand, 1) else none) else (bif Nat.beq pc 163 then some (.iload_n 2, 1) else none)) else (bif Nat.blt pc 165 then (bif Nat.beq pc 164 then some (.irem, 1) else none) else (bif Nat.beq pc 165 then some (.invokevirtual 29, 3) else none)))) else (bif Nat.blt pc 174 then (bif Nat.blt pc 170 then (bif Nat.blt pc 169 then (bif Nat.beq pc 168 then some (.pop, 1) else none) else (bif Nat.beq pc 169 then some (.aload_n 1, 1) else none)) else (bif Nat.blt pc 172 then (bif Nat.beq pc 170 then some (.iload 4, 2) else none) else (bif Nat.beq pc 172 then some (.iload 5, 2) else none))) else (bif Nat.blt pc 176 then (bif Nat.blt pc 175 then (bif Nat.beq pc 174 then some (.iconst 3, 1) else none) else (bif Nat.beq pc 175 then some (.ishr, 1) else none)) else (bif Nat.blt pc 178 then (bif Nat.beq pc 176 then some (.bipush 7, 2) else none) else (bif Nat.beq pc 178 then some (.iand, 1) else none)))))))) else (bif Nat.blt pc 267 then (bif Nat.blt pc 226 then (bif Nat.blt pc 205 then (bif Nat.blt pc 190 then (bif Nat.blt pc 183 then (bif Nat.blt pc 180 then (bif Nat.beq pc 179 then some (.iload_n 2, 1) else none) else (bif Nat.blt pc 181 then (bif Nat.beq pc 180 then some (.irem, 1) else none) else (bif Nat.beq pc 181 then some (.iload 5, 2) else none))) else (bif Nat.blt pc 186 then (bif Nat.blt pc 185 then (bif Nat.beq pc 183 then some (.bipush 64, 2) else none) else (bif Nat.beq pc 185 then some (.iand, 1) else none)) else (bif Nat.blt pc 189 then (bif Nat.beq pc 186 then some (.ifCond .eq 7, 3) else none) else (bif Nat.beq pc 189 then some (.iconst 1, 1) else none)))) else (bif Nat.blt pc 198 then (bif Nat.blt pc 194 then (bif Nat.blt pc 193 then (bif Nat.beq pc 190 then some (.goto 4, 3) else none) else (bif Nat.beq pc 193 then some (.iconst 0, 1) else none)) else (bif Nat.blt pc 197 then (bif Nat.beq pc 194 then some (.invokevirtual 33, 3) else none) else (bif Nat.beq pc 197 then some (.pop, 1) else none))) else (bif Nat.blt pc 202 then (bif Nat.blt pc 200 then (bif Nat.beq pc 198 then some (.iload 5, 2) else none) else (bif Nat.beq pc 200 then some (.bipush 7, 2) else none)) else (bif Nat.blt pc 203 then (bif Nat.beq pc 202 then some (.ishr, 1) else none) else (bif Nat.beq pc 203 then some (.bipush 31, 2) else none))))) else (bif Nat.blt pc 215 then (bif Nat.blt pc 209 then (bif Nat.blt pc 206 then (bif Nat.beq pc 205 then some (.iand, 1) else none) else (bif Nat.blt pc 208 then (bif Nat.beq pc 206 then some (.istore 6, 2) else none) else (bif Nat.beq pc 208 then some (.aload_n 1, 1) else none))) else (bif Nat.blt pc 211 then (bif Nat.blt pc 210 then (bif Nat.beq pc 209 then some (.iconst 0, 1) else none) else (bif Nat.beq pc 210 then some (.iconst 2, 1) else none)) else (bif Nat.blt pc 212 then (bif Nat.beq pc 211 then some (.iconst 4, 1) else none) else (bif Nat.beq pc 212 then some (.invokevirtual 37, 3) else none)))) else (bif Nat.blt pc 219 then (bif Nat.blt pc 217 then (bif Nat.blt pc 216 then (bif Nat.beq pc 215 then some (.pop, 1) else none) else (bif Nat.beq pc 216 then some (.aload_n 1, 1) else none)) else (bif Nat.blt pc 218 then (bif Nat.beq pc 217 then some (.iconst 0, 1) else none) else (bif Nat.beq pc 218 then some (.iconst 0, 1) else none))) else (bif Nat.blt pc 223 then (bif Nat.blt pc 221 then (bif Nat.beq pc 219 then some (.iload 5, 2) else none) else (bif Nat.beq pc 221 then some (.bipush 12, 2) else none)) else (bif Nat.blt pc 224 then (bif Nat.beq pc 223 then some (.ishr, 1) else none) else (bif Nat.beq pc 224 then some (.bipush 7, 2) else none)))))) else (bif Nat.blt pc 246 then (bif Nat.blt pc 235 then (bif Nat.blt pc 229 then (bif Nat.blt pc 227 then (bif Nat.beq pc 226 then some (.iand, 1) else none) else (bif Nat.blt pc 228 then (bif Nat.beq pc 227 then some (.iload_n 2, 1) else none) else (bif Nat.beq pc 228 then some (.irem, 1) else none))) else (bif Nat.blt pc 233 then (bif Nat.blt pc 230 then (bif Nat.beq pc 229 then some (.i2l, 1) else none) else (bif Nat.beq pc 230 then some (.invokevirtual 40, 3) else none)) else (bif Nat.blt pc 234 then (bif Nat.beq pc 233 then some (.pop, 1) else none) else (bif Nat.beq pc 234 then some (.aload_n 1, 1) else none)))) else (bif Nat.blt pc 240 then (bif Nat.blt pc 237 then (bif Nat.blt pc 236 then (bif Nat.beq pc 235 then some (.iconst 0, 1) else none) else (bif Nat.beq pc 236 then some (.iconst 1, 1) else none)) else (bif Nat.blt pc 239 then (bif Nat.beq pc 237 then some (.iload 6, 2) else none) else (bif Nat.beq pc 239 then some (.i2l, 1) else none))) else (bif Nat.blt pc 244 then (bif Nat.blt pc 243 then (bif Nat.beq pc 240 then some (.invokevirtual 40, 3) else none) else (bif Nat.beq pc 243 then some (.pop, 1) else none)) else (bif Nat.blt pc 245 then (bif Nat.beq pc 244 then some (.aload_n 1, 1) else none) else (bif Nat.beq pc 245 then some (.iconst 0, 1) else none))))) else (bif Nat.blt pc 256 then (bif Nat.blt pc 250 then (bif Nat.blt pc 247 then (bif Nat.beq pc 246 then some (.iconst 2, 1) else none) else (bif Nat.blt pc 249 then (bif Nat.beq pc 247 then some (.iload 6, 2) else none) else (bif Nat.beq pc 249 then some (.iconst 1, 1) else none))) else (bif Nat.blt pc 253 then (bif Nat.blt pc 251 then (bif Nat.beq pc 250 then some (.iadd, 1) else none) else (bif Nat.beq pc 251 then some (.iload 5, 2) else none)) else (bif Nat.blt pc 255 then (bif Nat.beq pc 253 then some (.bipush 15, 2) else none) else (bif Nat.beq pc 255 then some (.ishr, 1) else none)))) else (bif Nat.blt pc 261 then (bif Nat.blt pc 259 then (bif Nat.blt pc 258 then (bif Nat.beq pc 256 then some (.bipush 15, 2) else none) else (bif Nat.beq pc 258 then some (.iand, 1) else none)) else (bif Nat.blt pc 260 then (bif Nat.beq pc 259 then some (.iadd, 1) else none) else (bif Nat.beq pc 260 then some (.i2l, 1) else none))) else (bif Nat.blt pc 265 then (bif Nat.blt pc 264 then (bif Nat.beq pc 261 then some (.invokevirtual 40, 3) else none) else (bif Nat.beq pc 264 then some (.pop, 1) else none)) else (bif Nat.blt pc 266 then (bif Nat.beq pc 265 then some (.aload_n 1, 1) else none) else (bif Nat.beq pc 266 then some (.iconst 0, 1) else none))))))) else (bif Nat.blt pc 316 then (bif Nat.blt pc 290 then (bif Nat.blt pc 277 then (bif Nat.blt pc 271 then (bif Nat.blt pc 268 then (bif Nat.beq pc 267 then some (.iconst 3, 1) else none) else (bif Nat.blt pc 269 then (bif Nat.beq pc 268 then some (.iconst 1, 1) else none) else (bif Nat.beq pc 269 then some (.iload 5, 2) else none))) else (bif Nat.blt pc 274 then (bif Nat.blt pc 273 then (bif Nat.beq pc 271 then some (.bipush 19, 2) else none) else (bif Nat.beq pc 273 then some (.ishr, 1) else none)) else (bif Nat.blt pc 276 then (bif Nat.beq pc 274 then some (.bipush 63, 2) else none) else (bif Nat.beq pc 276 then some (.iand, 1) else none)))) else (bif Nat.blt pc 283 then (bif Nat.blt pc 279 then (bif Nat.blt pc 278 then (bif Nat.beq pc 277 then some (.iadd, 1) else none) else (bif Nat.beq pc 278 then some (.i2l, 1) else none)) else (bif Nat.blt pc 282 then (bif Nat.beq pc 279 then some (.invokevirtual 40, 3) else none) else (bif Nat.beq pc 282 then some (.pop, 1) else none))) else (bif Nat.blt pc 286 then (bif Nat.blt pc 284 then (bif Nat.beq pc 283 then some (.aload_n 1, 1) else none) else (bif Nat.beq pc 284 then some (.iload 4, 2) else none)) else (bif Nat.blt pc 287 then (bif Nat.beq pc 286 then some (.iconst 0, 1) else none) else (bif Nat.beq pc 287 then some (.invokevirtual 44, 3) else none))))) else (bif Nat.blt pc 305 then (bif Nat.blt pc 297 then (bif Nat.blt pc 291 then (bif Nat.beq pc 290 then some (.pop, 1) else none) else (bif Nat.blt pc 294 then (bif Nat.beq pc 291 then some (.iinc 4 1, 3) else none) else (bif Nat.beq pc 294 then some (.goto (-154), 3) else none))) else (bif Nat.blt pc 300 then (bif Nat.blt pc 298 then (bif Nat.beq pc 297 then some (.aload_n 0, 1) else none) else (bif Nat.beq pc 298 then some (.bipush 10, 2) else none)) else (bif Nat.blt pc 303 then (bif Nat.beq pc 300 then some (.invokestatic 10, 3) else none) else (bif Nat.beq pc 303 then some (.istore 4, 2) else none)))) else (bif Nat.blt pc 311 then (bif Nat.blt pc 307 then (bif Nat.blt pc 306 then (bif Nat.beq pc 305 then some (.aload_n 1, 1) else none) else (bif Nat.beq pc 306 then some (.iconst 3, 1) else none)) else (bif Nat.blt pc 309 then (bif Nat.beq pc 307 then some (.iload 4, 2) else none) else (bif Nat.beq pc 309 then some (.bipush 7, 2) else none))) else (bif Nat.blt pc 313 then (bif Nat.blt pc 312 then (bif Nat.beq pc 311 then some (.iand, 1) else none) else (bif Nat.beq pc 312 then some (.iload_n 2, 1) else none)) else (bif Nat.blt pc 314 then (bif Nat.beq pc 313 then some (.irem, 1) else none) else (bif Nat.beq pc 314 then some (.iload 4, 2) else none)))))) else (bif Nat.blt pc 337 then (bif Nat.blt pc 325 then (bif Nat.blt pc 320 then (bif Nat.blt pc 317 then (bif Nat.beq pc 316 then some (.iconst 3, 1) else none) else (bif Nat.blt pc 318 then (bif Nat.beq pc 317 then some (.ishr, 1) else none) else (bif Nat.beq pc 318 then some (.bipush 31, 2) else none))) else (bif Nat.blt pc 323 then (bif Nat.blt pc 321 then (bif Nat.beq pc 320 then some (.iand, 1) else none) else (bif Nat.beq pc 321 then some (.iload 4, 2) else none)) else (bif Nat.blt pc 324 then (bif Nat.beq pc 323 then some (.iconst 3, 1) else none) else (bif Nat.beq pc 324 then some (.ishr, 1) else none)))) else (bif Nat.blt pc 330 then (bif Nat.blt pc 328 then (bif Nat.blt pc 327 then (bif Nat.beq pc 325 then some (.bipush 31, 2) else none) else (bif Nat.beq pc 327 then some (.iand, 1) else none)) else (bif Nat.blt pc 329 then (bif Nat.beq pc 328 then some (.iconst 1, 1) else none) else (bif Nat.beq pc 329 then some (.iadd, 1) else none))) else (bif Nat.blt pc 334 then (bif Nat.blt pc 332 then (bif Nat.beq pc 330 then some (.iload 4, 2) else none) else (bif Nat.beq pc 332 then some (.bipush 8, 2) else none)) else (bif Nat.blt pc 335 then (bif Nat.beq pc 334 then some (.ishr, 1) else none) else (bif Nat.beq pc 335 then some (.bipush 7, 2) else none))))) else (bif Nat.blt pc 348 then (bif Nat.blt pc 342 then (bif Nat.blt pc 339 then (bif Nat.blt pc 338 then (bif Nat.beq pc 337 then some (.iand, 1) else none) else (bif Nat.beq pc 338 then some (.iadd, 1) else none)) else (bif Nat.blt pc 340 then (bif Nat.beq pc 339 then some (.iconst 1, 1) else none) else (bif Nat.beq pc 340 then some (.iload 4, 2) else none))) else (bif Nat.blt pc 345 then (bif Nat.blt pc 344 then (bif Nat.beq pc 342 then some (.bipush 11, 2) else none) else (bif Nat.beq pc 344 then some (.ishr, 1) else none)) else (bif Nat.blt pc 347 then (bif Nat.beq pc 345 then some (.bipush 63, 2) else none) else (bif Nat.beq pc 347 then some (.iand, 1) else none)))) else (bif Nat.blt pc 354 then (bif Nat.blt pc 352 then (bif Nat.blt pc 349 then (bif Nat.beq pc 348 then some (.iadd, 1) else none) else (bif Nat.beq pc 349 then some (.invokevirtual 47, 3) else none)) else (bif Nat.blt pc 353 then (bif Nat.beq pc 352 then some (.pop, 1) else none) else (bif Nat.beq pc 353 then some (.aload_n 1, 1) else none))) else (bif Nat.blt pc 358 then (bif Nat.blt pc 357 then (bif Nat.beq pc 354 then some (.invokevirtual 51, 3) else none) else (bif Nat.beq pc 357 then some (.pop, 1) else none)) else (bif Nat.blt pc 359 then (bif Nat.beq pc 358 then some (.aload_n 1, 1) else none) else (bif Nat.beq pc 359 then some (.areturn, 1) else none)))))))))
def M_L_build : MR := (S_L_build, P_TownFolkLaw, gd 360 C_L_build)
set_option maxRecDepth 100000 in
theorem Mok_L_build : MOK M_L_build := ⟨gd_ok (by decide +kernel), Pok_TownFolkLaw, by decide +kernel⟩
def C_L_acts (pc : Nat) : Option (Instr × Nat) := (bif Nat.blt pc 119 then (bif Nat.blt pc 39 then (bif Nat.blt pc 19 then (bif Nat.blt pc 9 then (bif Nat.blt pc 5 then (bif Nat.blt pc 1 then (bif Nat.beq pc 0 then some (.aload_n 0, 1) else none) else (bif Nat.blt pc 2 then (bif Nat.beq pc 1 then some (.iconst 0, 1) else none) else (bif Nat.beq pc 2 then some (.invokevirtual 55, 3) else none))) else (bif Nat.blt pc 7 then (bif Nat.blt pc 6 then (bif Nat.beq pc 5 then some (.istore_n 2, 1) else none) else (bif Nat.beq pc 6 then some (.iload_n 1, 1) else none)) else (bif Nat.blt pc 8 then (bif Nat.beq pc 7 then some (.iconst 3, 1) else none) else (bif Nat.beq pc 8 then some (.ishr, 1) else none)))) else (bif Nat.blt pc 13 then (bif Nat.blt pc 11 then (bif Nat.beq pc 9 then some (.bipush 7, 2) else none) else (bif Nat.blt pc 12 then (bif Nat.beq pc 11 then some (.iand, 1) else none) else (bif Nat.beq pc 12 then some (.aload_n 0, 1) else none))) else (bif Nat.blt pc 17 then (bif Nat.blt pc 14 then (bif Nat.beq pc 13 then some (.iconst 2, 1) else none) else (bif Nat.beq pc 14 then some (.invokevirtual 55, 3) else none)) else (bif Nat.blt pc 18 then (bif Nat.beq pc 17 then some (.irem, 1) else none) else (bif Nat.beq pc 18 then some (.istore_n 3, 1) else none))))) else (bif Nat.blt pc 28 then (bif Nat.blt pc 23 then (bif Nat.blt pc 20 then (bif Nat.beq pc 19 then some (.iload_n 1, 1) else none) else (bif Nat.blt pc 22 then (bif Nat.beq pc 20 then some (.bipush 6, 2) else none) else (bif Nat.beq pc 22 then some (.ishr, 1) else none))) else (bif Nat.blt pc 26 then (bif Nat.blt pc 25 then (bif Nat.beq pc 23 then some (.bipush 7, 2) else none) else (bif Nat.beq pc 25 then some (.iand, 1) else none)) else (bif Nat.blt pc 27 then (bif Nat.beq pc 26 then some (.iload_n 2, 1) else none) else (bif Nat.beq pc 27 then some (.irem, 1) else none)))) else (bif Nat.blt pc 33 then (bif Nat.blt pc 30 then (bif Nat.beq pc 28 then some (.istore 4, 2) else none) else (bif Nat.blt pc 31 then (bif Nat.beq pc 30 then some (.iload_n 1, 1) else none) else (bif Nat.beq pc 31 then some (.bipush 9, 2) else none))) else (bif Nat.blt pc 36 then (bif Nat.blt pc 34 then (bif Nat.beq pc 33 then some (.ishr, 1) else none) else (bif Nat.beq pc 34 then some (.bipush 31, 2) else none)) else (bif Nat.blt pc 37 then (bif Nat.beq pc 36 then some (.iand, 1) else none) else (bif Nat.beq pc 37 then some (.istore 5, 2) else none)))))) else (bif Nat.blt pc 98 then (bif Nat.blt pc 87 then (bif Nat.blt pc 43 then (bif Nat.blt pc 40 then (bif Nat.beq pc 39 then some (.iload_n 1, 1) else none) else (bif Nat.blt pc 42 then (bif Nat.beq pc 40 then some (.bipush 7, 2) else none) else (bif Nat.beq pc 42 then some (.iand, 1) else none))) else (bif Nat.blt pc 85 then (bif Nat.blt pc 84 then (bif Nat.beq pc 43 then some (.tableswitch 127 0 6 #[41, 41, 58, 58, 83, 108, 117], 41) else none) else (bif Nat.beq pc 84 then some (.aload_n 0, 1) else none)) else (bif Nat.blt pc 86 then (bif Nat.beq pc 85 then some (.iconst 1, 1) else none) else (bif Nat.beq pc 86 then some (.iload_n 1, 1) else none)))) else (bif Nat.blt pc 92 then (bif Nat.blt pc 89 then (bif Nat.beq pc 87 then some (.bipush 14, 2) else none) else (bif Nat.blt pc 90 then (bif Nat.beq pc 89 then some (.ishr, 1) else none) else (bif Nat.beq pc 90 then some (.bipush 7, 2) else none))) else (bif Nat.blt pc 94 then (bif Nat.blt pc 93 then (bif Nat.beq pc 92 then some (.iand, 1) else none) else (bif Nat.beq pc 93 then some (.iadd, 1) else none)) else (bif Nat.blt pc 97 then (bif Nat.beq pc 94 then some (.invokevirtual 58, 3) else none) else (bif Nat.beq pc 97 then some (.pop, 1) else none))))) else (bif Nat.blt pc 110 then (bif Nat.blt pc 103 then (bif Nat.blt pc 101 then (bif Nat.beq pc 98 then some (.goto 114, 3) else none) else (bif Nat.blt pc 102 then (bif Nat.beq pc 101 then some (.aload_n 0, 1) else none) else (bif Nat.beq pc 102 then some (.iload_n 3, 1) else none))) else (bif Nat.blt pc 107 then (bif Nat.blt pc 105 then (bif Nat.beq pc 103 then some (.iload 4, 2) else none) else (bif Nat.beq pc 105 then some (.iload 5, 2) else none)) else (bif Nat.blt pc 109 then (bif Nat.beq pc 107 then some (.iload 5, 2) else none) else (bif Nat.beq pc 109 then some (.iconst 1, 1) else none)))) else (bif Nat.blt pc 114 then (bif Nat.blt pc 111 then (bif Nat.beq pc 110 then some (.iadd, 1) else none) else (bif Nat.blt pc 112 then (bif Nat.beq pc 111 then some (.iload_n 1, 1) else none) else (bif Nat.beq pc 112 then some (.bipush 14, 2) else none))) else (bif Nat.blt pc 117 then (bif Nat.blt pc 115 then (bif Nat.beq pc 114 then some (.ishr, 1) else none) else (bif Nat.beq pc 115 then some (.bipush 15, 2) else none)) else (bif Nat.blt pc 118 then (bif Nat.beq pc 117 then some (.iand, 1) else none) else (bif Nat.beq pc 118 then some (.iadd, 1) else none))))))) else (bif Nat.blt pc 170 then (bif Nat.blt pc 143 then (bif Nat.blt pc 132 then (bif Nat.blt pc 126 then (bif Nat.blt pc 122 then (bif Nat.beq pc 119 then some (.invokevirtual 61, 3) else none) else (bif Nat.blt pc 123 then (bif Nat.beq pc 122 then some (.pop, 1) else none) else (bif Nat.beq pc 123 then some (.goto 89, 3) else none))) else (bif Nat.blt pc 129 then (bif Nat.blt pc 127 then (bif Nat.beq pc 126 then some (.aload_n 0, 1) else none) else (bif Nat.beq pc 127 then some (.iload 4, 2) else none)) else (bif Nat.blt pc 130 then (bif Nat.beq pc 129 then some (.iload_n 1, 1) else none) else (bif Nat.beq pc 130 then some (.bipush 14, 2) else none)))) else (bif Nat.blt pc 135 then (bif Nat.blt pc 133 then (bif Nat.beq pc 132 then some (.ishr, 1) else none) else (bif Nat.blt pc 134 then (bif Nat.beq pc 133 then some (.iconst 1, 1) else none) else (bif Nat.beq pc 134 then some (.iand, 1) else none))) else (bif Nat.blt pc 139 then (bif Nat.blt pc 136 then (bif Nat.beq pc 135 then some (.iconst 1, 1) else none) else (bif Nat.beq pc 136 then some (.if_icmp .ne 7, 3) else none)) else (bif Nat.blt pc 140 then (bif Nat.beq pc 139 then some (.iconst 1, 1) else none) else (bif Nat.beq pc 140 then some (.goto 4, 3) else none))))) else (bif Nat.blt pc 156 then (bif Nat.blt pc 148 then (bif Nat.blt pc 144 then (bif Nat.beq pc 143 then some (.iconst 0, 1) else none) else (bif Nat.blt pc 147 then (bif Nat.beq pc 144 then some (.invokevirtual 65, 3) else none) else (bif Nat.beq pc 147 then some (.pop, 1) else none))) else (bif Nat.blt pc 152 then (bif Nat.blt pc 151 then (bif Nat.beq pc 148 then some (.goto 64, 3) else none) else (bif Nat.beq pc 151 then some (.aload_n 0, 1) else none)) else (bif Nat.blt pc 153 then (bif Nat.beq pc 152 then some (.iload_n 3, 1) else none) else (bif Nat.beq pc 153 then some (.invokevirtual 69, 3) else none)))) else (bif Nat.blt pc 161 then (bif Nat.blt pc 157 then (bif Nat.beq pc 156 then some (.pop, 1) else none) else (bif Nat.blt pc 160 then (bif Nat.beq pc 157 then some (.goto 55, 3) else none) else (bif Nat.beq pc 160 then some (.aload_n 0, 1) else none))) else (bif Nat.blt pc 166 then (bif Nat.blt pc 163 then (bif Nat.beq pc 161 then some (.iload 4, 2) else none) else (bif Nat.beq pc 163 then some (.invokevirtual 72, 3) else none)) else (bif Nat.blt pc 167 then (bif Nat.beq pc 166 then some (.pop, 1) else none) else (bif Nat.beq pc 167 then some (.goto 45, 3) else none)))))) else (bif Nat.blt pc 191 then (bif Nat.blt pc 180 then (bif Nat.blt pc 174 then (bif Nat.blt pc 171 then (bif Nat.beq pc 170 then some (.iload_n 1, 1) else none) else (bif Nat.blt pc 173 then (bif Nat.beq pc 171 then some (.bipush 14, 2) else none) else (bif Nat.beq pc 173 then some (.ishr, 1) else none))) else (bif Nat.blt pc 176 then (bif Nat.blt pc 175 then (bif Nat.beq pc 174 then some (.iconst 3, 1) else none) else (bif Nat.beq pc 175 then some (.iand, 1) else none)) else (bif Nat.blt pc 177 then (bif Nat.beq pc 176 then some (.iconst 3, 1) else none) else (bif Nat.beq pc 177 then some (.if_icmp .ne 12, 3) else none)))) else (bif Nat.blt pc 185 then (bif Nat.blt pc 181 then (bif Nat.beq pc 180 then some (.aload_n 0, 1) else none) else (bif Nat.blt pc 182 then (bif Nat.beq pc 181 then some (.iload_n 3, 1) else none) else (bif Nat.beq pc 182 then some (.invokevirtual 75, 3) else none))) else (bif Nat.blt pc 189 then (bif Nat.blt pc 186 then (bif Nat.beq pc 185 then some (.pop, 1) else none) else (bif Nat.beq pc 186 then some (.goto 26, 3) else none)) else (bif Nat.blt pc 190 then (bif Nat.beq pc 189 then some (.aload_n 0, 1) else none) else (bif Nat.beq pc 190 then some (.iload_n 3, 1) else none))))) else (bif Nat.blt pc 200 then (bif Nat.blt pc 196 then (bif Nat.blt pc 193 then (bif Nat.beq pc 191 then some (.iload 4, 2) else none) else (bif Nat.blt pc 194 then (bif Nat.beq pc 193 then some (.iload_n 1, 1) else none) else (bif Nat.beq pc 194 then some (.bipush 14, 2) else none))) else (bif Nat.blt pc 198 then (bif Nat.blt pc 197 then (bif Nat.beq pc 196 then some (.ishr, 1) else none) else (bif Nat.beq pc 197 then some (.iconst 1, 1) else none)) else (bif Nat.blt pc 199 then (bif Nat.beq pc 198 then some (.iand, 1) else none) else (bif Nat.beq pc 199 then some (.iconst 1, 1) else none)))) else (bif Nat.blt pc 207 then (bif Nat.blt pc 203 then (bif Nat.beq pc 200 then some (.if_icmp .ne 7, 3) else none) else (bif Nat.blt pc 204 then (bif Nat.beq pc 203 then some (.iconst 1, 1) else none) else (bif Nat.beq pc 204 then some (.goto 4, 3) else none))) else (bif Nat.blt pc 211 then (bif Nat.blt pc 208 then (bif Nat.beq pc 207 then some (.iconst 0, 1) else none) else (bif Nat.beq pc 208 then some (.invokevirtual 33, 3) else none)) else (bif Nat.blt pc 212 then (bif Nat.beq pc 211 then some (.pop, 1) else none) else (bif Nat.beq pc 212 then some (.return_, 1) else none))))))))
def M_L_acts : MR := (S_L_acts, P_acts, gd 213 C_L_acts)
set_option maxRecDepth 100000 in
theorem Mok_L_acts : MOK M_L_acts := ⟨gd_ok (by decide +kernel), Pok_acts, by decide +kernel⟩
def C_L_law (pc : Nat) : Option (Instr × Nat) := (bif Nat.blt pc 147 then (bif Nat.blt pc 70 then (bif Nat.blt pc 36 then (bif Nat.blt pc 17 then (bif Nat.blt pc 7 then (bif Nat.blt pc 4 then (bif Nat.blt pc 1 then (bif Nat.beq pc 0 then some (.aload_n 0, 1) else none) else (bif Nat.beq pc 1 then some (.invokestatic 78, 3) else none)) else (bif Nat.blt pc 5 then (bif Nat.beq pc 4 then some (.astore_n 1, 1) else none) else (bif Nat.blt pc 6 then (bif Nat.beq pc 5 then some (.aload_n 1, 1) else none) else (bif Nat.beq pc 6 then some (.iconst 0, 1) else none)))) else (bif Nat.blt pc 11 then (bif Nat.blt pc 10 then (bif Nat.beq pc 7 then some (.invokevirtual 55, 3) else none) else (bif Nat.beq pc 10 then some (.istore_n 2, 1) else none)) else (bif Nat.blt pc 14 then (bif Nat.beq pc 11 then some (.sipush 192, 3) else none) else (bif Nat.blt pc 16 then (bif Nat.beq pc 14 then some (.newarray .long, 2) else none) else (bif Nat.beq pc 16 then some (.astore_n 3, 1) else none))))) else (bif Nat.blt pc 27 then (bif Nat.blt pc 20 then (bif Nat.blt pc 18 then (bif Nat.beq pc 17 then some (.iconst 0, 1) else none) else (bif Nat.beq pc 18 then some (.istore 4, 2) else none)) else (bif Nat.blt pc 22 then (bif Nat.beq pc 20 then some (.iload 4, 2) else none) else (bif Nat.blt pc 24 then (bif Nat.beq pc 22 then some (.bipush 24, 2) else none) else (bif Nat.beq pc 24 then some (.if_icmp .ge 287, 3) else none)))) else (bif Nat.blt pc 32 then (bif Nat.blt pc 28 then (bif Nat.beq pc 27 then some (.aload_n 0, 1) else none) else (bif Nat.blt pc 30 then (bif Nat.beq pc 28 then some (.bipush 11, 2) else none) else (bif Nat.beq pc 30 then some (.iload 4, 2) else none))) else (bif Nat.blt pc 34 then (bif Nat.beq pc 32 then some (.bipush 40, 2) else none) else (bif Nat.blt pc 35 then (bif Nat.beq pc 34 then some (.irem, 1) else none) else (bif Nat.beq pc 35 then some (.iadd, 1) else none)))))) else (bif Nat.blt pc 53 then (bif Nat.blt pc 45 then (bif Nat.blt pc 41 then (bif Nat.blt pc 39 then (bif Nat.beq pc 36 then some (.invokestatic 10, 3) else none) else (bif Nat.beq pc 39 then some (.bipush 77, 2) else none)) else (bif Nat.blt pc 43 then (bif Nat.beq pc 41 then some (.iload 4, 2) else none) else (bif Nat.blt pc 44 then (bif Nat.beq pc 43 then some (.imul, 1) else none) else (bif Nat.beq pc 44 then some (.iadd, 1) else none)))) else (bif Nat.blt pc 49 then (bif Nat.blt pc 47 then (bif Nat.beq pc 45 then some (.istore 5, 2) else none) else (bif Nat.beq pc 47 then some (.iload 5, 2) else none)) else (bif Nat.blt pc 50 then (bif Nat.beq pc 49 then some (.iconst 3, 1) else none) else (bif Nat.blt pc 51 then (bif Nat.beq pc 50 then some (.ishr, 1) else none) else (bif Nat.beq pc 51 then some (.bipush 7, 2) else none))))) else (bif Nat.blt pc 60 then (bif Nat.blt pc 55 then (bif Nat.blt pc 54 then (bif Nat.beq pc 53 then some (.iand, 1) else none) else (bif Nat.beq pc 54 then some (.aload_n 1, 1) else none)) else (bif Nat.blt pc 56 then (bif Nat.beq pc 55 then some (.iconst 2, 1) else none) else (bif Nat.blt pc 59 then (bif Nat.beq pc 56 then some (.invokevirtual 55, 3) else none) else (bif Nat.beq pc 59 then some (.irem, 1) else none)))) else (bif Nat.blt pc 66 then (bif Nat.blt pc 62 then (bif Nat.beq pc 60 then some (.istore 6, 2) else none) else (bif Nat.blt pc 64 then (bif Nat.beq pc 62 then some (.iload 5, 2) else none) else (bif Nat.beq pc 64 then some (.bipush 6, 2) else none))) else (bif Nat.blt pc 67 then (bif Nat.beq pc 66 then some (.ishr, 1) else none) else (bif Nat.blt pc 69 then (bif Nat.beq pc 67 then some (.bipush 7, 2) else none) else (bif Nat.beq pc 69 then some (.iand, 1) else none))))))) else (bif Nat.blt pc 106 then (bif Nat.blt pc 86 then (bif Nat.blt pc 76 then (bif Nat.blt pc 72 then (bif Nat.blt pc 71 then (bif Nat.beq pc 70 then some (.iload_n 2, 1) else none) else (bif Nat.beq pc 71 then some (.irem, 1) else none)) else (bif Nat.blt pc 74 then (bif Nat.beq pc 72 then some (.istore 7, 2) else none) else (bif Nat.blt pc 75 then (bif Nat.beq pc 74 then some (.aload_n 1, 1) else none) else (bif Nat.beq pc 75 then some (.iconst 5, 1) else none)))) else (bif Nat.blt pc 81 then (bif Nat.blt pc 79 then (bif Nat.beq pc 76 then some (.invokevirtual 55, 3) else none) else (bif Nat.beq pc 79 then some (.istore 8, 2) else none)) else (bif Nat.blt pc 82 then (bif Nat.beq pc 81 then some (.iconst 0, 1) else none) else (bif Nat.blt pc 84 then (bif Nat.beq pc 82 then some (.istore 9, 2) else none) else (bif Nat.beq pc 84 then some (.iload 9, 2) else none))))) else (bif Nat.blt pc 95 then (bif Nat.blt pc 90 then (bif Nat.blt pc 87 then (bif Nat.beq pc 86 then some (.iconst 4, 1) else none) else (bif Nat.beq pc 87 then some (.if_icmp .ge 44, 3) else none)) else (bif Nat.blt pc 91 then (bif Nat.beq pc 90 then some (.iconst 0, 1) else none) else (bif Nat.blt pc 93 then (bif Nat.beq pc 91 then some (.istore 10, 2) else none) else (bif Nat.beq pc 93 then some (.iload 10, 2) else none)))) else (bif Nat.blt pc 101 then (bif Nat.blt pc 97 then (bif Nat.beq pc 95 then some (.bipush 48, 2) else none) else (bif Nat.blt pc 100 then (bif Nat.beq pc 97 then some (.if_icmp .ge 28, 3) else none) else (bif Nat.beq pc 100 then some (.aload_n 3, 1) else none))) else (bif Nat.blt pc 103 then (bif Nat.beq pc 101 then some (.bipush 48, 2) else none) else (bif Nat.blt pc 105 then (bif Nat.beq pc 103 then some (.iload 9, 2) else none) else (bif Nat.beq pc 105 then some (.imul, 1) else none)))))) else (bif Nat.blt pc 125 then (bif Nat.blt pc 114 then (bif Nat.blt pc 109 then (bif Nat.blt pc 108 then (bif Nat.beq pc 106 then some (.iload 10, 2) else none) else (bif Nat.beq pc 108 then some (.iadd, 1) else none)) else (bif Nat.blt pc 110 then (bif Nat.beq pc 109 then some (.aload_n 1, 1) else none) else (bif Nat.blt pc 112 then (bif Nat.beq pc 110 then some (.iload 9, 2) else none) else (bif Nat.beq pc 112 then some (.iload 10, 2) else none)))) else (bif Nat.blt pc 118 then (bif Nat.blt pc 117 then (bif Nat.beq pc 114 then some (.invokevirtual 82, 3) else none) else (bif Nat.beq pc 117 then some (.i2l, 1) else none)) else (bif Nat.blt pc 119 then (bif Nat.beq pc 118 then some (.lastore, 1) else none) else (bif Nat.blt pc 122 then (bif Nat.beq pc 119 then some (.iinc 10 1, 3) else none) else (bif Nat.beq pc 122 then some (.goto (-29), 3) else none))))) else (bif Nat.blt pc 137 then (bif Nat.blt pc 131 then (bif Nat.blt pc 128 then (bif Nat.beq pc 125 then some (.iinc 9 1, 3) else none) else (bif Nat.beq pc 128 then some (.goto (-44), 3) else none)) else (bif Nat.blt pc 132 then (bif Nat.beq pc 131 then some (.aload_n 1, 1) else none) else (bif Nat.blt pc 134 then (bif Nat.beq pc 132 then some (.iload 5, 2) else none) else (bif Nat.beq pc 134 then some (.invokestatic 85, 3) else none)))) else (bif Nat.blt pc 142 then (bif Nat.blt pc 139 then (bif Nat.beq pc 137 then some (.iload 5, 2) else none) else (bif Nat.blt pc 141 then (bif Nat.beq pc 139 then some (.bipush 7, 2) else none) else (bif Nat.beq pc 141 then some (.iand, 1) else none))) else (bif Nat.blt pc 144 then (bif Nat.beq pc 142 then some (.istore 9, 2) else none) else (bif Nat.blt pc 146 then (bif Nat.beq pc 144 then some (.iload 9, 2) else none) else (bif Nat.beq pc 146 then some (.iconst 2, 1) else none)))))))) else (bif Nat.blt pc 228 then (bif Nat.blt pc 190 then (bif Nat.blt pc 166 then (bif Nat.blt pc 159 then (bif Nat.blt pc 152 then (bif Nat.blt pc 150 then (bif Nat.beq pc 147 then some (.if_icmp .lt 158, 3) else none) else (bif Nat.beq pc 150 then some (.iload 9, 2) else none)) else (bif Nat.blt pc 153 then (bif Nat.beq pc 152 then some (.iconst 5, 1) else none) else (bif Nat.blt pc 156 then (bif Nat.beq pc 153 then some (.if_icmp .le 6, 3) else none) else (bif Nat.beq pc 156 then some (.goto 149, 3) else none)))) else (bif Nat.blt pc 162 then (bif Nat.blt pc 160 then (bif Nat.beq pc 159 then some (.iconst 0, 1) else none) else (bif Nat.beq pc 160 then some (.istore 10, 2) else none)) else (bif Nat.blt pc 164 then (bif Nat.beq pc 162 then some (.iload 10, 2) else none) else (bif Nat.blt pc 165 then (bif Nat.beq pc 164 then some (.aload_n 1, 1) else none) else (bif Nat.beq pc 165 then some (.iconst 2, 1) else none))))) else (bif Nat.blt pc 178 then (bif Nat.blt pc 172 then (bif Nat.blt pc 169 then (bif Nat.beq pc 166 then some (.invokevirtual 55, 3) else none) else (bif Nat.beq pc 169 then some (.if_icmp .ge 136, 3) else none)) else (bif Nat.blt pc 174 then (bif Nat.beq pc 172 then some (.iload 9, 2) else none) else (bif Nat.blt pc 175 then (bif Nat.beq pc 174 then some (.iconst 4, 1) else none) else (bif Nat.beq pc 175 then some (.if_icmp .ne 7, 3) else none)))) else (bif Nat.blt pc 184 then (bif Nat.blt pc 179 then (bif Nat.beq pc 178 then some (.iconst 0, 1) else none) else (bif Nat.blt pc 182 then (bif Nat.beq pc 179 then some (.goto 15, 3) else none) else (bif Nat.beq pc 182 then some (.iload 10, 2) else none))) else (bif Nat.blt pc 186 then (bif Nat.beq pc 184 then some (.iload 6, 2) else none) else (bif Nat.blt pc 189 then (bif Nat.beq pc 186 then some (.if_icmp .ne 7, 3) else none) else (bif Nat.beq pc 189 then some (.iconst 1, 1) else none)))))) else (bif Nat.blt pc 210 then (bif Nat.blt pc 200 then (bif Nat.blt pc 194 then (bif Nat.blt pc 193 then (bif Nat.beq pc 190 then some (.goto 4, 3) else none) else (bif Nat.beq pc 193 then some (.iconst 0, 1) else none)) else (bif Nat.blt pc 196 then (bif Nat.beq pc 194 then some (.istore 11, 2) else none) else (bif Nat.blt pc 198 then (bif Nat.beq pc 196 then some (.iload 8, 2) else none) else (bif Nat.beq pc 198 then some (.istore 12, 2) else none)))) else (bif Nat.blt pc 204 then (bif Nat.blt pc 202 then (bif Nat.beq pc 200 then some (.iload 12, 2) else none) else (bif Nat.beq pc 202 then some (.bipush 48, 2) else none)) else (bif Nat.blt pc 207 then (bif Nat.beq pc 204 then some (.if_icmp .ge 42, 3) else none) else (bif Nat.blt pc 209 then (bif Nat.beq pc 207 then some (.iload 9, 2) else none) else (bif Nat.beq pc 209 then some (.iconst 4, 1) else none))))) else (bif Nat.blt pc 220 then (bif Nat.blt pc 215 then (bif Nat.blt pc 213 then (bif Nat.beq pc 210 then some (.if_icmp .ne 36, 3) else none) else (bif Nat.beq pc 213 then some (.iload 11, 2) else none)) else (bif Nat.blt pc 216 then (bif Nat.beq pc 215 then some (.aload_n 3, 1) else none) else (bif Nat.blt pc 218 then (bif Nat.beq pc 216 then some (.bipush 48, 2) else none) else (bif Nat.beq pc 218 then some (.iload 10, 2) else none)))) else (bif Nat.blt pc 224 then (bif Nat.blt pc 221 then (bif Nat.beq pc 220 then some (.imul, 1) else none) else (bif Nat.blt pc 223 then (bif Nat.beq pc 221 then some (.iload 12, 2) else none) else (bif Nat.beq pc 223 then some (.iadd, 1) else none))) else (bif Nat.blt pc 225 then (bif Nat.beq pc 224 then some (.laload, 1) else none) else (bif Nat.blt pc 227 then (bif Nat.beq pc 225 then some (.iload 7, 2) else none) else (bif Nat.beq pc 227 then some (.i2l, 1) else none))))))) else (bif Nat.blt pc 266 then (bif Nat.blt pc 247 then (bif Nat.blt pc 237 then (bif Nat.blt pc 232 then (bif Nat.blt pc 229 then (bif Nat.beq pc 228 then some (.lcmp, 1) else none) else (bif Nat.beq pc 229 then some (.ifCond .ne 7, 3) else none)) else (bif Nat.blt pc 233 then (bif Nat.beq pc 232 then some (.iconst 1, 1) else none) else (bif Nat.blt pc 236 then (bif Nat.beq pc 233 then some (.goto 4, 3) else none) else (bif Nat.beq pc 236 then some (.iconst 0, 1) else none)))) else (bif Nat.blt pc 240 then (bif Nat.blt pc 238 then (bif Nat.beq pc 237 then some (.ior, 1) else none) else (bif Nat.beq pc 238 then some (.istore 11, 2) else none)) else (bif Nat.blt pc 243 then (bif Nat.beq pc 240 then some (.iinc 12 1, 3) else none) else (bif Nat.blt pc 246 then (bif Nat.beq pc 243 then some (.goto (-43), 3) else none) else (bif Nat.beq pc 246 then some (.iconst 0, 1) else none))))) else (bif Nat.blt pc 257 then (bif Nat.blt pc 251 then (bif Nat.blt pc 249 then (bif Nat.beq pc 247 then some (.istore 12, 2) else none) else (bif Nat.beq pc 249 then some (.iload 12, 2) else none)) else (bif Nat.blt pc 253 then (bif Nat.beq pc 251 then some (.bipush 48, 2) else none) else (bif Nat.blt pc 256 then (bif Nat.beq pc 253 then some (.if_icmp .ge 46, 3) else none) else (bif Nat.beq pc 256 then some (.aload_n 3, 1) else none)))) else (bif Nat.blt pc 262 then (bif Nat.blt pc 259 then (bif Nat.beq pc 257 then some (.bipush 48, 2) else none) else (bif Nat.blt pc 261 then (bif Nat.beq pc 259 then some (.iload 10, 2) else none) else (bif Nat.beq pc 261 then some (.imul, 1) else none))) else (bif Nat.blt pc 264 then (bif Nat.beq pc 262 then some (.iload 12, 2) else none) else (bif Nat.blt pc 265 then (bif Nat.beq pc 264 then some (.iadd, 1) else none) else (bif Nat.beq pc 265 then some (.laload, 1) else none)))))) else (bif Nat.blt pc 288 then (bif Nat.blt pc 275 then (bif Nat.blt pc 269 then (bif Nat.blt pc 267 then (bif Nat.beq pc 266 then some (.aload_n 1, 1) else none) else (bif Nat.beq pc 267 then some (.iload 10, 2) else none)) else (bif Nat.blt pc 271 then (bif Nat.beq pc 269 then some (.iload 12, 2) else none) else (bif Nat.blt pc 274 then (bif Nat.beq pc 271 then some (.invokevirtual 82, 3) else none) else (bif Nat.beq pc 274 then some (.i2l, 1) else none)))) else (bif Nat.blt pc 281 then (bif Nat.blt pc 276 then (bif Nat.beq pc 275 then some (.lcmp, 1) else none) else (bif Nat.blt pc 279 then (bif Nat.beq pc 276 then some (.ifCond .eq 17, 3) else none) else (bif Nat.beq pc 279 then some (.iload 12, 2) else none))) else (bif Nat.blt pc 283 then (bif Nat.beq pc 281 then some (.iload 8, 2) else none) else (bif Nat.blt pc 286 then (bif Nat.beq pc 283 then some (.if_icmp .lt 8, 3) else none) else (bif Nat.beq pc 286 then some (.iload 11, 2) else none))))) else (bif Nat.blt pc 299 then (bif Nat.blt pc 292 then (bif Nat.blt pc 291 then (bif Nat.beq pc 288 then some (.ifCond .ne 5, 3) else none) else (bif Nat.beq pc 291 then some (.iconst 0, 1) else none)) else (bif Nat.blt pc 293 then (bif Nat.beq pc 292 then some (.ireturn, 1) else none) else (bif Nat.blt pc 296 then (bif Nat.beq pc 293 then some (.iinc 12 1, 3) else none) else (bif Nat.beq pc 296 then some (.goto (-47), 3) else none)))) else (bif Nat.blt pc 308 then (bif Nat.blt pc 302 then (bif Nat.beq pc 299 then some (.iinc 10 1, 3) else none) else (bif Nat.blt pc 305 then (bif Nat.beq pc 302 then some (.goto (-140), 3) else none) else (bif Nat.beq pc 305 then some (.iinc 4 1, 3) else none))) else (bif Nat.blt pc 311 then (bif Nat.beq pc 308 then some (.goto (-288), 3) else none) else (bif Nat.blt pc 312 then (bif Nat.beq pc 311 then some (.iconst 1, 1) else none) else (bif Nat.beq pc 312 then some (.ireturn, 1) else none)))))))))
def M_L_law : MR := (S_L_law, P_TownFolkLaw, gd 313 C_L_law)
set_option maxRecDepth 100000 in
theorem Mok_L_law : MOK M_L_law := ⟨gd_ok (by decide +kernel), Pok_TownFolkLaw, by decide +kernel⟩
theorem oki_X : OKI IX := by
  refine ⟨by decide +kernel, ?_⟩
  intro q hq
  have h : IX.all (fun q => match kS q.1 with | .inl (_, fl) => fl.all (fun o => match o with | none => true | some rk => IX.contains (rk, q.2)) | .inr (t, n, rk) => Nat.blt t 3 || (List.range n).all (fun j => IX.contains (rk, j))) = true := by decide +kernel
  exact lc_of h hq
theorem oki_M : OKI IM := by
  refine ⟨by decide +kernel, ?_⟩
  intro q hq
  have h : IM.all (fun q => match kS q.1 with | .inl (_, fl) => fl.all (fun o => match o with | none => true | some rk => IM.contains (rk, q.2)) | .inr (t, n, rk) => Nat.blt t 3 || (List.range n).all (fun j => IM.contains (rk, j))) = true := by decide +kernel
  exact lc_of h hq
/-! the reference, of which the machine is asked nothing -/
def S_X8_again : SR := (⟨"", "X8_again", ""⟩, ByteArray.empty, 0, none, 0, none)
def M_X8_again : MR := (S_X8_again, [], fun _ => none)
def S_X8_areFolk : SR := (⟨"", "X8_areFolk", ""⟩, ByteArray.empty, 0, none, 0, none)
def M_X8_areFolk : MR := (S_X8_areFolk, [], fun _ => none)
def S_X8_begin : SR := (⟨"", "X8_begin", ""⟩, ByteArray.empty, 0, none, 0, none)
def M_X8_begin : MR := (S_X8_begin, [], fun _ => none)
def S_X8_bend : SR := (⟨"", "X8_bend", ""⟩, ByteArray.empty, 0, none, 0, none)
def M_X8_bend : MR := (S_X8_bend, [], fun _ => none)
def S_X8_bent : SR := (⟨"", "X8_bent", ""⟩, ByteArray.empty, 0, none, 0, none)
def M_X8_bent : MR := (S_X8_bent, [], fun _ => none)
def S_X8_canBeIn : SR := (⟨"", "X8_canBeIn", ""⟩, ByteArray.empty, 0, none, 0, none)
def M_X8_canBeIn : MR := (S_X8_canBeIn, [], fun _ => none)
def S_X8_cell : SR := (⟨"", "X8_cell", ""⟩, ByteArray.empty, 0, none, 0, none)
def M_X8_cell : MR := (S_X8_cell, [], fun _ => none)
def S_X8_chooses : SR := (⟨"", "X8_chooses", ""⟩, ByteArray.empty, 0, none, 0, none)
def M_X8_chooses : MR := (S_X8_chooses, [], fun _ => none)
def S_X8_claim : SR := (⟨"", "X8_claim", ""⟩, ByteArray.empty, 0, none, 0, none)
def M_X8_claim : MR := (S_X8_claim, [], fun _ => none)
def S_X8_copy : SR := (⟨"", "X8_copy", ""⟩, ByteArray.empty, 0, none, 0, none)
def M_X8_copy : MR := (S_X8_copy, [], fun _ => none)
def S_X8_cost : SR := (⟨"", "X8_cost", ""⟩, ByteArray.empty, 0, none, 0, none)
def M_X8_cost : MR := (S_X8_cost, [], fun _ => none)
def S_X8_duties : SR := (⟨"", "X8_duties", ""⟩, ByteArray.empty, 0, none, 0, none)
def M_X8_duties : MR := (S_X8_duties, [], fun _ => none)
def S_X8_element : SR := (⟨"", "X8_element", ""⟩, ByteArray.empty, 0, none, 0, none)
def M_X8_element : MR := (S_X8_element, [], fun _ => none)
def S_X8_far : SR := (⟨"", "X8_far", ""⟩, ByteArray.empty, 0, none, 0, none)
def M_X8_far : MR := (S_X8_far, [], fun _ => none)
def S_X8_fault : SR := (⟨"", "X8_fault", ""⟩, ByteArray.empty, 0, none, 0, none)
def M_X8_fault : MR := (S_X8_fault, [], fun _ => none)
def S_X8_faultOf : SR := (⟨"", "X8_faultOf", ""⟩, ByteArray.empty, 0, none, 0, none)
def M_X8_faultOf : MR := (S_X8_faultOf, [], fun _ => none)
def S_X8_findClaims : SR := (⟨"", "X8_findClaims", ""⟩, ByteArray.empty, 0, none, 0, none)
def M_X8_findClaims : MR := (S_X8_findClaims, [], fun _ => none)
def S_X8_findFault : SR := (⟨"", "X8_findFault", ""⟩, ByteArray.empty, 0, none, 0, none)
def M_X8_findFault : MR := (S_X8_findFault, [], fun _ => none)
def S_X8_folk : SR := (⟨"", "X8_folk", ""⟩, ByteArray.empty, 0, none, 0, none)
def M_X8_folk : MR := (S_X8_folk, [], fun _ => none)
def S_X8_gone : SR := (⟨"", "X8_gone", ""⟩, ByteArray.empty, 0, none, 0, none)
def M_X8_gone : MR := (S_X8_gone, [], fun _ => none)
def S_X8_happen : SR := (⟨"", "X8_happen", ""⟩, ByteArray.empty, 0, none, 0, none)
def M_X8_happen : MR := (S_X8_happen, [], fun _ => none)
def S_X8_holds : SR := (⟨"", "X8_holds", ""⟩, ByteArray.empty, 0, none, 0, none)
def M_X8_holds : MR := (S_X8_holds, [], fun _ => none)
def S_X8_holdsFolk : SR := (⟨"", "X8_holdsFolk", ""⟩, ByteArray.empty, 0, none, 0, none)
def M_X8_holdsFolk : MR := (S_X8_holdsFolk, [], fun _ => none)
def S_X8_homeIn : SR := (⟨"", "X8_homeIn", ""⟩, ByteArray.empty, 0, none, 0, none)
def M_X8_homeIn : MR := (S_X8_homeIn, [], fun _ => none)
def S_X8_in : SR := (⟨"", "X8_in", ""⟩, ByteArray.empty, 0, none, 0, none)
def M_X8_in : MR := (S_X8_in, [], fun _ => none)
def S_X8_inCost : SR := (⟨"", "X8_inCost", ""⟩, ByteArray.empty, 0, none, 0, none)
def M_X8_inCost : MR := (S_X8_inCost, [], fun _ => none)
def S_X8_isFolk : SR := (⟨"", "X8_isFolk", ""⟩, ByteArray.empty, 0, none, 0, none)
def M_X8_isFolk : MR := (S_X8_isFolk, [], fun _ => none)
def S_X8_isPlace : SR := (⟨"", "X8_isPlace", ""⟩, ByteArray.empty, 0, none, 0, none)
def M_X8_isPlace : MR := (S_X8_isPlace, [], fun _ => none)
def S_X8_isRow : SR := (⟨"", "X8_isRow", ""⟩, ByteArray.empty, 0, none, 0, none)
def M_X8_isRow : MR := (S_X8_isRow, [], fun _ => none)
def S_X8_isShelf : SR := (⟨"", "X8_isShelf", ""⟩, ByteArray.empty, 0, none, 0, none)
def M_X8_isShelf : MR := (S_X8_isShelf, [], fun _ => none)
def S_X8_isSpan : SR := (⟨"", "X8_isSpan", ""⟩, ByteArray.empty, 0, none, 0, none)
def M_X8_isSpan : MR := (S_X8_isSpan, [], fun _ => none)
def S_X8_isTooFar : SR := (⟨"", "X8_isTooFar", ""⟩, ByteArray.empty, 0, none, 0, none)
def M_X8_isTooFar : MR := (S_X8_isTooFar, [], fun _ => none)
def S_X8_key : SR := (⟨"", "X8_key", ""⟩, ByteArray.empty, 0, none, 0, none)
def M_X8_key : MR := (S_X8_key, [], fun _ => none)
def S_X8_knows : SR := (⟨"", "X8_knows", ""⟩, ByteArray.empty, 0, none, 0, none)
def M_X8_knows : MR := (S_X8_knows, [], fun _ => none)
def S_X8_late : SR := (⟨"", "X8_late", ""⟩, ByteArray.empty, 0, none, 0, none)
def M_X8_late : MR := (S_X8_late, [], fun _ => none)
def S_X8_leaves : SR := (⟨"", "X8_leaves", ""⟩, ByteArray.empty, 0, none, 0, none)
def M_X8_leaves : MR := (S_X8_leaves, [], fun _ => none)
def S_X8_likes : SR := (⟨"", "X8_likes", ""⟩, ByteArray.empty, 0, none, 0, none)
def M_X8_likes : MR := (S_X8_likes, [], fun _ => none)
def S_X8_lock : SR := (⟨"", "X8_lock", ""⟩, ByteArray.empty, 0, none, 0, none)
def M_X8_lock : MR := (S_X8_lock, [], fun _ => none)
def S_X8_locked : SR := (⟨"", "X8_locked", ""⟩, ByteArray.empty, 0, none, 0, none)
def M_X8_locked : MR := (S_X8_locked, [], fun _ => none)
def S_X8_lowest : SR := (⟨"", "X8_lowest", ""⟩, ByteArray.empty, 0, none, 0, none)
def M_X8_lowest : MR := (S_X8_lowest, [], fun _ => none)
def S_X8_many : SR := (⟨"", "X8_many", ""⟩, ByteArray.empty, 0, none, 0, none)
def M_X8_many : MR := (S_X8_many, [], fun _ => none)
def S_X8_meeting : SR := (⟨"", "X8_meeting", ""⟩, ByteArray.empty, 0, none, 0, none)
def M_X8_meeting : MR := (S_X8_meeting, [], fun _ => none)
def S_X8_meets : SR := (⟨"", "X8_meets", ""⟩, ByteArray.empty, 0, none, 0, none)
def M_X8_meets : MR := (S_X8_meets, [], fun _ => none)
def S_X8_met : SR := (⟨"", "X8_met", ""⟩, ByteArray.empty, 0, none, 0, none)
def M_X8_met : MR := (S_X8_met, [], fun _ => none)
def S_X8_newDay : SR := (⟨"", "X8_newDay", ""⟩, ByteArray.empty, 0, none, 0, none)
def M_X8_newDay : MR := (S_X8_newDay, [], fun _ => none)
def S_X8_place : SR := (⟨"", "X8_place", ""⟩, ByteArray.empty, 0, none, 0, none)
def M_X8_place : MR := (S_X8_place, [], fun _ => none)
def S_X8_planned : SR := (⟨"", "X8_planned", ""⟩, ByteArray.empty, 0, none, 0, none)
def M_X8_planned : MR := (S_X8_planned, [], fun _ => none)
def S_X8_refuse : SR := (⟨"", "X8_refuse", ""⟩, ByteArray.empty, 0, none, 0, none)
def M_X8_refuse : MR := (S_X8_refuse, [], fun _ => none)
def S_X8_row : SR := (⟨"", "X8_row", ""⟩, ByteArray.empty, 0, none, 0, none)
def M_X8_row : MR := (S_X8_row, [], fun _ => none)
def S_X8_seated : SR := (⟨"", "X8_seated", ""⟩, ByteArray.empty, 0, none, 0, none)
def M_X8_seated : MR := (S_X8_seated, [], fun _ => none)
def S_X8_set : SR := (⟨"", "X8_set", ""⟩, ByteArray.empty, 0, none, 0, none)
def M_X8_set : MR := (S_X8_set, [], fun _ => none)
def S_X8_show : SR := (⟨"", "X8_show", ""⟩, ByteArray.empty, 0, none, 0, none)
def M_X8_show : MR := (S_X8_show, [], fun _ => none)
def S_X8_status : SR := (⟨"", "X8_status", ""⟩, ByteArray.empty, 0, none, 0, none)
def M_X8_status : MR := (S_X8_status, [], fun _ => none)
def S_X8_still : SR := (⟨"", "X8_still", ""⟩, ByteArray.empty, 0, none, 0, none)
def M_X8_still : MR := (S_X8_still, [], fun _ => none)
def S_X8_tells : SR := (⟨"", "X8_tells", ""⟩, ByteArray.empty, 0, none, 0, none)
def M_X8_tells : MR := (S_X8_tells, [], fun _ => none)
def S_X8_tick : SR := (⟨"", "X8_tick", ""⟩, ByteArray.empty, 0, none, 0, none)
def M_X8_tick : MR := (S_X8_tick, [], fun _ => none)
def S_X8_walks : SR := (⟨"", "X8_walks", ""⟩, ByteArray.empty, 0, none, 0, none)
def M_X8_walks : MR := (S_X8_walks, [], fun _ => none)
def S_X8_way : SR := (⟨"", "X8_way", ""⟩, ByteArray.empty, 0, none, 0, none)
def M_X8_way : MR := (S_X8_way, [], fun _ => none)
def S_X8_wayCost : SR := (⟨"", "X8_wayCost", ""⟩, ByteArray.empty, 0, none, 0, none)
def M_X8_wayCost : MR := (S_X8_wayCost, [], fun _ => none)
def S_X8_where : SR := (⟨"", "X8_where", ""⟩, ByteArray.empty, 0, none, 0, none)
def M_X8_where : MR := (S_X8_where, [], fun _ => none)
def S_X8_willBeIn : SR := (⟨"", "X8_willBeIn", ""⟩, ByteArray.empty, 0, none, 0, none)
def M_X8_willBeIn : MR := (S_X8_willBeIn, [], fun _ => none)
theorem offM : Off IM := (by decide : (30, 0) ∈ IM)
theorem offX : ¬ Off IX := (by decide +kernel : ¬ (30, 0) ∈ IX)
def IY : List KI := IX ++ [(62, 0)]
theorem offY : ¬ Off IY := (by decide +kernel : ¬ (30, 0) ∈ IY)
theorem oki_Y : OKI IY := by
  refine ⟨by decide +kernel, ?_⟩
  intro q hq
  have h : IY.all (fun q => match kS q.1 with | .inl (_, fl) => fl.all (fun o => match o with | none => true | some rk => IY.contains (rk, q.2)) | .inr (t, n, rk) => Nat.blt t 3 || (List.range n).all (fun j => IY.contains (rk, j))) = true := by decide +kernel
  exact lc_of h hq
end
