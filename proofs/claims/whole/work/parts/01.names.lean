-- ===== PART A: goes FIRST, ahead of the names: the tables' words, and 'selects' of the private methods out of them =====
/-- a private method of a class that the tables say can be made, by its rows of tables_1 -/
def lw_okq (q : MethodName × Nat) : Prop := (q.1.cls ≠ "java/lang/invoke/MethodHandle" ∧ q.1.cls ≠ "java/lang/invoke/VarHandle") ∧ Cond.instantiable q.1.cls q.2 ∈ tables_1 ∧ Cond.privateMethod q.1 ∈ tables_1 ∧ Cond.instanceMethod q.1 ∈ tables_1
theorem lw_p0 : lw_okq (⟨"TownFolk", "refuse", "(I)I"⟩, 17) := ⟨⟨by decide +kernel, by decide +kernel⟩, List.mem_of_getElem? (i := 15) (by decide +kernel), List.mem_of_getElem? (i := 297) (by decide +kernel), List.mem_of_getElem? (i := 298) (by decide +kernel)⟩
theorem lw_p1 : lw_okq (⟨"TownFolk$Town", "shorten", "(IIIII)V"⟩, 7) := ⟨⟨by decide +kernel, by decide +kernel⟩, List.mem_of_getElem? (i := 23) (by decide +kernel), List.mem_of_getElem? (i := 321) (by decide +kernel), List.mem_of_getElem? (i := 322) (by decide +kernel)⟩
theorem lw_p2 : lw_okq (⟨"TownFolk", "areAllHere", "(I)Z"⟩, 17) := ⟨⟨by decide +kernel, by decide +kernel⟩, List.mem_of_getElem? (i := 15) (by decide +kernel), List.mem_of_getElem? (i := 333) (by decide +kernel), List.mem_of_getElem? (i := 334) (by decide +kernel)⟩
theorem lw_p3 : lw_okq (⟨"TownFolk", "isHere", "(I)Z"⟩, 17) := ⟨⟨by decide +kernel, by decide +kernel⟩, List.mem_of_getElem? (i := 15) (by decide +kernel), List.mem_of_getElem? (i := 337) (by decide +kernel), List.mem_of_getElem? (i := 338) (by decide +kernel)⟩
theorem lw_p4 : lw_okq (⟨"TownFolk", "wasEver", "(I)Z"⟩, 17) := ⟨⟨by decide +kernel, by decide +kernel⟩, List.mem_of_getElem? (i := 15) (by decide +kernel), List.mem_of_getElem? (i := 341) (by decide +kernel), List.mem_of_getElem? (i := 342) (by decide +kernel)⟩
theorem lw_p5 : lw_okq (⟨"TownFolk", "refusalOfRow", "(I)I"⟩, 17) := ⟨⟨by decide +kernel, by decide +kernel⟩, List.mem_of_getElem? (i := 15) (by decide +kernel), List.mem_of_getElem? (i := 380) (by decide +kernel), List.mem_of_getElem? (i := 381) (by decide +kernel)⟩
theorem lw_p6 : lw_okq (⟨"TownFolk", "beginDay", "()I"⟩, 17) := ⟨⟨by decide +kernel, by decide +kernel⟩, List.mem_of_getElem? (i := 15) (by decide +kernel), List.mem_of_getElem? (i := 503) (by decide +kernel), List.mem_of_getElem? (i := 504) (by decide +kernel)⟩
theorem lw_p7 : lw_okq (⟨"TownFolk", "replan", "(I)I"⟩, 17) := ⟨⟨by decide +kernel, by decide +kernel⟩, List.mem_of_getElem? (i := 15) (by decide +kernel), List.mem_of_getElem? (i := 520) (by decide +kernel), List.mem_of_getElem? (i := 521) (by decide +kernel)⟩
theorem lw_p8 : lw_okq (⟨"TownFolk$Seats", "add", "([III)V"⟩, 1) := ⟨⟨by decide +kernel, by decide +kernel⟩, List.mem_of_getElem? (i := 62) (by decide +kernel), List.mem_of_getElem? (i := 528) (by decide +kernel), List.mem_of_getElem? (i := 529) (by decide +kernel)⟩
theorem lw_p9 : lw_okq (⟨"TownFolk$Planner", "stay", "(LTownFolk$Resident;IIZ)V"⟩, 5) := ⟨⟨by decide +kernel, by decide +kernel⟩, List.mem_of_getElem? (i := 72) (by decide +kernel), List.mem_of_getElem? (i := 576) (by decide +kernel), List.mem_of_getElem? (i := 577) (by decide +kernel)⟩
theorem lw_p10 : lw_okq (⟨"TownFolk$Planner", "goOn", "(LTownFolk$Town;II)V"⟩, 5) := ⟨⟨by decide +kernel, by decide +kernel⟩, List.mem_of_getElem? (i := 72) (by decide +kernel), List.mem_of_getElem? (i := 580) (by decide +kernel), List.mem_of_getElem? (i := 581) (by decide +kernel)⟩
theorem lw_p11 : lw_okq (⟨"TownFolk$Planner", "costOfWay", "(III)I"⟩, 5) := ⟨⟨by decide +kernel, by decide +kernel⟩, List.mem_of_getElem? (i := 72) (by decide +kernel), List.mem_of_getElem? (i := 588) (by decide +kernel), List.mem_of_getElem? (i := 589) (by decide +kernel)⟩
theorem lw_p12 : lw_okq (⟨"TownFolk", "moment", "()I"⟩, 17) := ⟨⟨by decide +kernel, by decide +kernel⟩, List.mem_of_getElem? (i := 15) (by decide +kernel), List.mem_of_getElem? (i := 604) (by decide +kernel), List.mem_of_getElem? (i := 605) (by decide +kernel)⟩
theorem lw_p13 : lw_okq (⟨"TownFolk", "liveTick", "()V"⟩, 17) := ⟨⟨by decide +kernel, by decide +kernel⟩, List.mem_of_getElem? (i := 15) (by decide +kernel), List.mem_of_getElem? (i := 608) (by decide +kernel), List.mem_of_getElem? (i := 609) (by decide +kernel)⟩
theorem lw_p14 : lw_okq (⟨"TownFolk", "tellFacts", "()V"⟩, 17) := ⟨⟨by decide +kernel, by decide +kernel⟩, List.mem_of_getElem? (i := 15) (by decide +kernel), List.mem_of_getElem? (i := 612) (by decide +kernel), List.mem_of_getElem? (i := 613) (by decide +kernel)⟩
theorem lw_p15 : lw_okq (⟨"TownFolk", "replanThoseDueIn", "(I)I"⟩, 17) := ⟨⟨by decide +kernel, by decide +kernel⟩, List.mem_of_getElem? (i := 15) (by decide +kernel), List.mem_of_getElem? (i := 639) (by decide +kernel), List.mem_of_getElem? (i := 640) (by decide +kernel)⟩
def lw_privs_1 : List (MethodName × Nat) := [(⟨"TownFolk", "refuse", "(I)I"⟩, 17), (⟨"TownFolk$Town", "shorten", "(IIIII)V"⟩, 7), (⟨"TownFolk", "areAllHere", "(I)Z"⟩, 17), (⟨"TownFolk", "isHere", "(I)Z"⟩, 17), (⟨"TownFolk", "wasEver", "(I)Z"⟩, 17), (⟨"TownFolk", "refusalOfRow", "(I)I"⟩, 17), (⟨"TownFolk", "beginDay", "()I"⟩, 17), (⟨"TownFolk", "replan", "(I)I"⟩, 17), (⟨"TownFolk$Seats", "add", "([III)V"⟩, 1), (⟨"TownFolk$Planner", "stay", "(LTownFolk$Resident;IIZ)V"⟩, 5), (⟨"TownFolk$Planner", "goOn", "(LTownFolk$Town;II)V"⟩, 5), (⟨"TownFolk$Planner", "costOfWay", "(III)I"⟩, 5), (⟨"TownFolk", "moment", "()I"⟩, 17), (⟨"TownFolk", "liveTick", "()V"⟩, 17), (⟨"TownFolk", "tellFacts", "()V"⟩, 17), (⟨"TownFolk", "replanThoseDueIn", "(I)I"⟩, 17)]
theorem lw_r1 : ∀ q ∈ lw_privs_1, lw_okq q := List.forall_mem_cons.mpr ⟨lw_p0, List.forall_mem_cons.mpr ⟨lw_p1, List.forall_mem_cons.mpr ⟨lw_p2, List.forall_mem_cons.mpr ⟨lw_p3, List.forall_mem_cons.mpr ⟨lw_p4, List.forall_mem_cons.mpr ⟨lw_p5, List.forall_mem_cons.mpr ⟨lw_p6, List.forall_mem_cons.mpr ⟨lw_p7, List.forall_mem_cons.mpr ⟨lw_p8, List.forall_mem_cons.mpr ⟨lw_p9, List.forall_mem_cons.mpr ⟨lw_p10, List.forall_mem_cons.mpr ⟨lw_p11, List.forall_mem_cons.mpr ⟨lw_p12, List.forall_mem_cons.mpr ⟨lw_p13, List.forall_mem_cons.mpr ⟨lw_p14, List.forall_mem_cons.mpr ⟨lw_p15, fun _ h => absurd h List.not_mem_nil⟩⟩⟩⟩⟩⟩⟩⟩⟩⟩⟩⟩⟩⟩⟩⟩
theorem lw_p16 : lw_okq (⟨"TownFolk", "countHere", "()I"⟩, 17) := ⟨⟨by decide +kernel, by decide +kernel⟩, List.mem_of_getElem? (i := 15) (by decide +kernel), List.mem_of_getElem? (i := 659) (by decide +kernel), List.mem_of_getElem? (i := 660) (by decide +kernel)⟩
theorem lw_p17 : lw_okq (⟨"TownFolk", "countBent", "()I"⟩, 17) := ⟨⟨by decide +kernel, by decide +kernel⟩, List.mem_of_getElem? (i := 15) (by decide +kernel), List.mem_of_getElem? (i := 704) (by decide +kernel), List.mem_of_getElem? (i := 705) (by decide +kernel)⟩
theorem lw_p18 : lw_okq (⟨"TownFolk", "refusalsOf", "(I)I"⟩, 17) := ⟨⟨by decide +kernel, by decide +kernel⟩, List.mem_of_getElem? (i := 15) (by decide +kernel), List.mem_of_getElem? (i := 708) (by decide +kernel), List.mem_of_getElem? (i := 709) (by decide +kernel)⟩
theorem lw_p19 : lw_okq (⟨"TownFolkModel", "refuse", "(I)I"⟩, 45) := ⟨⟨by decide +kernel, by decide +kernel⟩, List.mem_of_getElem? (i := 712) (by decide +kernel), List.mem_of_getElem? (i := 866) (by decide +kernel), List.mem_of_getElem? (i := 867) (by decide +kernel)⟩
theorem lw_p20 : lw_okq (⟨"TownFolkModel", "isPlace", "(I)Z"⟩, 45) := ⟨⟨by decide +kernel, by decide +kernel⟩, List.mem_of_getElem? (i := 712) (by decide +kernel), List.mem_of_getElem? (i := 874) (by decide +kernel), List.mem_of_getElem? (i := 875) (by decide +kernel)⟩
theorem lw_p21 : lw_okq (⟨"TownFolkModel", "areFolk", "(I)Z"⟩, 45) := ⟨⟨by decide +kernel, by decide +kernel⟩, List.mem_of_getElem? (i := 712) (by decide +kernel), List.mem_of_getElem? (i := 886) (by decide +kernel), List.mem_of_getElem? (i := 887) (by decide +kernel)⟩
theorem lw_p22 : lw_okq (⟨"TownFolkModel", "isFolk", "(I)Z"⟩, 45) := ⟨⟨by decide +kernel, by decide +kernel⟩, List.mem_of_getElem? (i := 712) (by decide +kernel), List.mem_of_getElem? (i := 890) (by decide +kernel), List.mem_of_getElem? (i := 891) (by decide +kernel)⟩
theorem lw_p23 : lw_okq (⟨"TownFolkModel", "isRow", "(I)Z"⟩, 45) := ⟨⟨by decide +kernel, by decide +kernel⟩, List.mem_of_getElem? (i := 712) (by decide +kernel), List.mem_of_getElem? (i := 908) (by decide +kernel), List.mem_of_getElem? (i := 909) (by decide +kernel)⟩
theorem lw_p24 : lw_okq (⟨"TownFolkModel", "holdsFolk", "(I)Z"⟩, 45) := ⟨⟨by decide +kernel, by decide +kernel⟩, List.mem_of_getElem? (i := 712) (by decide +kernel), List.mem_of_getElem? (i := 912) (by decide +kernel), List.mem_of_getElem? (i := 913) (by decide +kernel)⟩
theorem lw_p25 : lw_okq (⟨"TownFolkModel", "findFault", "(I)V"⟩, 45) := ⟨⟨by decide +kernel, by decide +kernel⟩, List.mem_of_getElem? (i := 712) (by decide +kernel), List.mem_of_getElem? (i := 943) (by decide +kernel), List.mem_of_getElem? (i := 944) (by decide +kernel)⟩
theorem lw_p26 : lw_okq (⟨"TownFolkModel", "faultOf", "(II)I"⟩, 45) := ⟨⟨by decide +kernel, by decide +kernel⟩, List.mem_of_getElem? (i := 712) (by decide +kernel), List.mem_of_getElem? (i := 947) (by decide +kernel), List.mem_of_getElem? (i := 948) (by decide +kernel)⟩
theorem lw_p27 : lw_okq (⟨"TownFolkModel", "cell", "(II)I"⟩, 45) := ⟨⟨by decide +kernel, by decide +kernel⟩, List.mem_of_getElem? (i := 712) (by decide +kernel), List.mem_of_getElem? (i := 951) (by decide +kernel), List.mem_of_getElem? (i := 952) (by decide +kernel)⟩
theorem lw_p28 : lw_okq (⟨"TownFolkModel", "isTooFar", "(III)Z"⟩, 45) := ⟨⟨by decide +kernel, by decide +kernel⟩, List.mem_of_getElem? (i := 712) (by decide +kernel), List.mem_of_getElem? (i := 955) (by decide +kernel), List.mem_of_getElem? (i := 956) (by decide +kernel)⟩
theorem lw_p29 : lw_okq (⟨"TownFolkModel", "newDay", "()V"⟩, 45) := ⟨⟨by decide +kernel, by decide +kernel⟩, List.mem_of_getElem? (i := 712) (by decide +kernel), List.mem_of_getElem? (i := 975) (by decide +kernel), List.mem_of_getElem? (i := 976) (by decide +kernel)⟩
theorem lw_p30 : lw_okq (⟨"TownFolkModel", "planned", "(I)I"⟩, 45) := ⟨⟨by decide +kernel, by decide +kernel⟩, List.mem_of_getElem? (i := 712) (by decide +kernel), List.mem_of_getElem? (i := 979) (by decide +kernel), List.mem_of_getElem? (i := 980) (by decide +kernel)⟩
theorem lw_p31 : lw_okq (⟨"TownFolkModel", "leaves", "(II)V"⟩, 45) := ⟨⟨by decide +kernel, by decide +kernel⟩, List.mem_of_getElem? (i := 712) (by decide +kernel), List.mem_of_getElem? (i := 983) (by decide +kernel), List.mem_of_getElem? (i := 984) (by decide +kernel)⟩
def lw_privs_2 : List (MethodName × Nat) := [(⟨"TownFolk", "countHere", "()I"⟩, 17), (⟨"TownFolk", "countBent", "()I"⟩, 17), (⟨"TownFolk", "refusalsOf", "(I)I"⟩, 17), (⟨"TownFolkModel", "refuse", "(I)I"⟩, 45), (⟨"TownFolkModel", "isPlace", "(I)Z"⟩, 45), (⟨"TownFolkModel", "areFolk", "(I)Z"⟩, 45), (⟨"TownFolkModel", "isFolk", "(I)Z"⟩, 45), (⟨"TownFolkModel", "isRow", "(I)Z"⟩, 45), (⟨"TownFolkModel", "holdsFolk", "(I)Z"⟩, 45), (⟨"TownFolkModel", "findFault", "(I)V"⟩, 45), (⟨"TownFolkModel", "faultOf", "(II)I"⟩, 45), (⟨"TownFolkModel", "cell", "(II)I"⟩, 45), (⟨"TownFolkModel", "isTooFar", "(III)Z"⟩, 45), (⟨"TownFolkModel", "newDay", "()V"⟩, 45), (⟨"TownFolkModel", "planned", "(I)I"⟩, 45), (⟨"TownFolkModel", "leaves", "(II)V"⟩, 45)]
theorem lw_r2 : ∀ q ∈ lw_privs_2, lw_okq q := List.forall_mem_cons.mpr ⟨lw_p16, List.forall_mem_cons.mpr ⟨lw_p17, List.forall_mem_cons.mpr ⟨lw_p18, List.forall_mem_cons.mpr ⟨lw_p19, List.forall_mem_cons.mpr ⟨lw_p20, List.forall_mem_cons.mpr ⟨lw_p21, List.forall_mem_cons.mpr ⟨lw_p22, List.forall_mem_cons.mpr ⟨lw_p23, List.forall_mem_cons.mpr ⟨lw_p24, List.forall_mem_cons.mpr ⟨lw_p25, List.forall_mem_cons.mpr ⟨lw_p26, List.forall_mem_cons.mpr ⟨lw_p27, List.forall_mem_cons.mpr ⟨lw_p28, List.forall_mem_cons.mpr ⟨lw_p29, List.forall_mem_cons.mpr ⟨lw_p30, List.forall_mem_cons.mpr ⟨lw_p31, fun _ h => absurd h List.not_mem_nil⟩⟩⟩⟩⟩⟩⟩⟩⟩⟩⟩⟩⟩⟩⟩⟩
theorem lw_p32 : lw_okq (⟨"TownFolkModel", "findClaims", "(I)V"⟩, 45) := ⟨⟨by decide +kernel, by decide +kernel⟩, List.mem_of_getElem? (i := 712) (by decide +kernel), List.mem_of_getElem? (i := 987) (by decide +kernel), List.mem_of_getElem? (i := 988) (by decide +kernel)⟩
theorem lw_p33 : lw_okq (⟨"TownFolkModel", "claim", "(IIII)V"⟩, 45) := ⟨⟨by decide +kernel, by decide +kernel⟩, List.mem_of_getElem? (i := 712) (by decide +kernel), List.mem_of_getElem? (i := 991) (by decide +kernel), List.mem_of_getElem? (i := 992) (by decide +kernel)⟩
theorem lw_p34 : lw_okq (⟨"TownFolkModel", "wayCost", "(II)I"⟩, 45) := ⟨⟨by decide +kernel, by decide +kernel⟩, List.mem_of_getElem? (i := 712) (by decide +kernel), List.mem_of_getElem? (i := 995) (by decide +kernel), List.mem_of_getElem? (i := 996) (by decide +kernel)⟩
theorem lw_p35 : lw_okq (⟨"TownFolkModel", "chooses", "(III)V"⟩, 45) := ⟨⟨by decide +kernel, by decide +kernel⟩, List.mem_of_getElem? (i := 712) (by decide +kernel), List.mem_of_getElem? (i := 1002) (by decide +kernel), List.mem_of_getElem? (i := 1003) (by decide +kernel)⟩
theorem lw_p36 : lw_okq (⟨"TownFolkModel", "canBeIn", "(III)Z"⟩, 45) := ⟨⟨by decide +kernel, by decide +kernel⟩, List.mem_of_getElem? (i := 712) (by decide +kernel), List.mem_of_getElem? (i := 1007) (by decide +kernel), List.mem_of_getElem? (i := 1008) (by decide +kernel)⟩
theorem lw_p37 : lw_okq (⟨"TownFolkModel", "inCost", "(III)I"⟩, 45) := ⟨⟨by decide +kernel, by decide +kernel⟩, List.mem_of_getElem? (i := 712) (by decide +kernel), List.mem_of_getElem? (i := 1011) (by decide +kernel), List.mem_of_getElem? (i := 1012) (by decide +kernel)⟩
theorem lw_p38 : lw_okq (⟨"TownFolkModel", "walks", "(III)V"⟩, 45) := ⟨⟨by decide +kernel, by decide +kernel⟩, List.mem_of_getElem? (i := 712) (by decide +kernel), List.mem_of_getElem? (i := 1015) (by decide +kernel), List.mem_of_getElem? (i := 1016) (by decide +kernel)⟩
theorem lw_p39 : lw_okq (⟨"TownFolkModel", "still", "()I"⟩, 45) := ⟨⟨by decide +kernel, by decide +kernel⟩, List.mem_of_getElem? (i := 712) (by decide +kernel), List.mem_of_getElem? (i := 1019) (by decide +kernel), List.mem_of_getElem? (i := 1020) (by decide +kernel)⟩
theorem lw_p40 : lw_okq (⟨"TownFolkModel", "tells", "()V"⟩, 45) := ⟨⟨by decide +kernel, by decide +kernel⟩, List.mem_of_getElem? (i := 712) (by decide +kernel), List.mem_of_getElem? (i := 1027) (by decide +kernel), List.mem_of_getElem? (i := 1028) (by decide +kernel)⟩
theorem lw_p41 : lw_okq (⟨"TownFolkModel", "meets", "()V"⟩, 45) := ⟨⟨by decide +kernel, by decide +kernel⟩, List.mem_of_getElem? (i := 712) (by decide +kernel), List.mem_of_getElem? (i := 1031) (by decide +kernel), List.mem_of_getElem? (i := 1032) (by decide +kernel)⟩
theorem lw_p42 : lw_okq (⟨"TownFolkModel", "willBeIn", "(II)Z"⟩, 45) := ⟨⟨by decide +kernel, by decide +kernel⟩, List.mem_of_getElem? (i := 712) (by decide +kernel), List.mem_of_getElem? (i := 1043) (by decide +kernel), List.mem_of_getElem? (i := 1044) (by decide +kernel)⟩
theorem lw_p43 : lw_okq (⟨"TownFolkModel", "bent", "()I"⟩, 45) := ⟨⟨by decide +kernel, by decide +kernel⟩, List.mem_of_getElem? (i := 712) (by decide +kernel), List.mem_of_getElem? (i := 1087) (by decide +kernel), List.mem_of_getElem? (i := 1088) (by decide +kernel)⟩
theorem lw_p44 : lw_okq (⟨"TownFolkModel", "locked", "()I"⟩, 45) := ⟨⟨by decide +kernel, by decide +kernel⟩, List.mem_of_getElem? (i := 712) (by decide +kernel), List.mem_of_getElem? (i := 1091) (by decide +kernel), List.mem_of_getElem? (i := 1092) (by decide +kernel)⟩
def lw_privs_3 : List (MethodName × Nat) := [(⟨"TownFolkModel", "findClaims", "(I)V"⟩, 45), (⟨"TownFolkModel", "claim", "(IIII)V"⟩, 45), (⟨"TownFolkModel", "wayCost", "(II)I"⟩, 45), (⟨"TownFolkModel", "chooses", "(III)V"⟩, 45), (⟨"TownFolkModel", "canBeIn", "(III)Z"⟩, 45), (⟨"TownFolkModel", "inCost", "(III)I"⟩, 45), (⟨"TownFolkModel", "walks", "(III)V"⟩, 45), (⟨"TownFolkModel", "still", "()I"⟩, 45), (⟨"TownFolkModel", "tells", "()V"⟩, 45), (⟨"TownFolkModel", "meets", "()V"⟩, 45), (⟨"TownFolkModel", "willBeIn", "(II)Z"⟩, 45), (⟨"TownFolkModel", "bent", "()I"⟩, 45), (⟨"TownFolkModel", "locked", "()I"⟩, 45)]
theorem lw_r3 : ∀ q ∈ lw_privs_3, lw_okq q := List.forall_mem_cons.mpr ⟨lw_p32, List.forall_mem_cons.mpr ⟨lw_p33, List.forall_mem_cons.mpr ⟨lw_p34, List.forall_mem_cons.mpr ⟨lw_p35, List.forall_mem_cons.mpr ⟨lw_p36, List.forall_mem_cons.mpr ⟨lw_p37, List.forall_mem_cons.mpr ⟨lw_p38, List.forall_mem_cons.mpr ⟨lw_p39, List.forall_mem_cons.mpr ⟨lw_p40, List.forall_mem_cons.mpr ⟨lw_p41, List.forall_mem_cons.mpr ⟨lw_p42, List.forall_mem_cons.mpr ⟨lw_p43, List.forall_mem_cons.mpr ⟨lw_p44, fun _ h => absurd h List.not_mem_nil⟩⟩⟩⟩⟩⟩⟩⟩⟩⟩⟩⟩⟩
def lw_privs : List (MethodName × Nat) := lw_privs_1 ++ (lw_privs_2 ++ (lw_privs_3))
def lw_tbl : List Cond := k2_sels lw_privs ++ tables_1
theorem lw_privs_ok : ∀ q ∈ lw_privs, lw_okq q := by
  show ∀ q ∈ lw_privs_1 ++ (lw_privs_2 ++ (lw_privs_3)), lw_okq q
  exact List.forall_mem_append.mpr ⟨lw_r1, List.forall_mem_append.mpr ⟨lw_r2, lw_r3⟩⟩
def RX0 : String := "TownFolk$DutyCheck"
def TX0 : u_T := fun k => match k with
  | 0 => ("TownFolk$DutyCheck", "found", "I", false)
  | _ => ("TownFolk$DutyCheck", "number", "I", false)
def tyX0 : Nat → FieldType := fun k => match k with
  | 0 => .int
  | _ => .int
theorem nmX0 : ∀ a, a < 2 → ∀ b, b < 2 → a ≠ b → (TX0 a).2.1 ≠ (TX0 b).2.1 := by decide +kernel
theorem tyX0_ok : ∀ k, k < 2 → parseFieldDescriptor (TX0 k).2.2.1 = some (tyX0 k) := by decide +kernel
abbrev cX0_init : ByteArray := prog_2_method_1_code
def yX0_init : MethodName := ⟨RX0, "<init>", "()V"⟩
abbrev cX0_examine : ByteArray := prog_2_method_2_code
def yX0_examine : MethodName := ⟨RX0, "examine", "(LTownFolk$Shelf;LTownFolk$Town;)V"⟩
abbrev cX0_placeOf : ByteArray := prog_2_method_3_code
def yX0_placeOf : MethodName := ⟨RX0, "placeOf", "(LTownFolk$Shelf;I)I"⟩
abbrev cX0_startOf : ByteArray := prog_2_method_4_code
def yX0_startOf : MethodName := ⟨RX0, "startOf", "(LTownFolk$Shelf;I)I"⟩
abbrev cX0_endOf : ByteArray := prog_2_method_5_code
def yX0_endOf : MethodName := ⟨RX0, "endOf", "(LTownFolk$Shelf;I)I"⟩
abbrev cX0_faultOf : ByteArray := prog_2_method_6_code
def yX0_faultOf : MethodName := ⟨RX0, "faultOf", "(LTownFolk$Shelf;ILTownFolk$Town;)I"⟩
abbrev cX0_meetsEarlier : ByteArray := prog_2_method_7_code
def yX0_meetsEarlier : MethodName := ⟨RX0, "meetsEarlier", "(LTownFolk$Shelf;I)Z"⟩
abbrev cX0_isReachable : ByteArray := prog_2_method_8_code
def yX0_isReachable : MethodName := ⟨RX0, "isReachable", "(LTownFolk$Shelf;ILTownFolk$Town;)Z"⟩
abbrev cX0_isInTime : ByteArray := prog_2_method_9_code
def yX0_isInTime : MethodName := ⟨RX0, "isInTime", "(LTownFolk$Shelf;IILTownFolk$Town;)Z"⟩
def RX1 : String := "TownFolk$Gathering"
def TX1 : u_T := fun k => match k with
  | 0 => ("TownFolk$Gathering", "members", "I", false)
  | 1 => ("TownFolk$Gathering", "place", "I", false)
  | 2 => ("TownFolk$Gathering", "from", "I", false)
  | 3 => ("TownFolk$Gathering", "to", "I", false)
  | 4 => ("TownFolk$Gathering", "weight", "I", false)
  | 5 => ("TownFolk$Gathering", "ticksToday", "I", false)
  | 6 => ("TownFolk$Gathering", "ticksEver", "I", false)
  | _ => ("TownFolk$Gathering", "seenToday", "I", false)
def tyX1 : Nat → FieldType := fun k => match k with
  | 0 => .int
  | 1 => .int
  | 2 => .int
  | 3 => .int
  | 4 => .int
  | 5 => .int
  | 6 => .int
  | _ => .int
theorem nmX1 : ∀ a, a < 8 → ∀ b, b < 8 → a ≠ b → (TX1 a).2.1 ≠ (TX1 b).2.1 := by decide +kernel
theorem tyX1_ok : ∀ k, k < 8 → parseFieldDescriptor (TX1 k).2.2.1 = some (tyX1 k) := by decide +kernel
abbrev cX1_init : ByteArray := prog_3_method_1_code
def yX1_init : MethodName := ⟨RX1, "<init>", "()V"⟩
abbrev cX1_arrange : ByteArray := prog_3_method_2_code
def yX1_arrange : MethodName := ⟨RX1, "arrange", "(IIIII)V"⟩
abbrev cX1_isOf : ByteArray := prog_3_method_3_code
def yX1_isOf : MethodName := ⟨RX1, "isOf", "(I)Z"⟩
abbrev cX1_beginDay : ByteArray := prog_3_method_4_code
def yX1_beginDay : MethodName := ⟨RX1, "beginDay", "()V"⟩
abbrev cX1_live : ByteArray := prog_3_method_5_code
def yX1_live : MethodName := ⟨RX1, "live", "([LTownFolk$Resident;I)V"⟩
def RX2 : String := "TownFolk$Planner"
def TX2 : u_T := fun k => match k with
  | 0 => ("TownFolk$Planner", "claimed", "[I", true)
  | 1 => ("TownFolk$Planner", "spared", "[I", true)
  | 2 => ("TownFolk$Planner", "onWays", "[I", true)
  | 3 => ("TownFolk$Planner", "least", "[I", true)
  | _ => ("TownFolk$Planner", "choice", "[I", true)
def tyX2 : Nat → FieldType := fun k => match k with
  | 0 => .array .int
  | 1 => .array .int
  | 2 => .array .int
  | 3 => .array .int
  | _ => .array .int
theorem nmX2 : ∀ a, a < 5 → ∀ b, b < 5 → a ≠ b → (TX2 a).2.1 ≠ (TX2 b).2.1 := by decide +kernel
theorem tyX2_ok : ∀ k, k < 5 → parseFieldDescriptor (TX2 k).2.2.1 = some (tyX2 k) := by decide +kernel
abbrev cX2_init : ByteArray := prog_4_method_1_code
def yX2_init : MethodName := ⟨RX2, "<init>", "()V"⟩
abbrev cX2_weigh : ByteArray := prog_4_method_2_code
def yX2_weigh : MethodName := ⟨RX2, "weigh", "(LTownFolk$Resident;)V"⟩
abbrev cX2_claim : ByteArray := prog_4_method_3_code
def yX2_claim : MethodName := ⟨RX2, "claim", "(IIII)V"⟩
abbrev cX2_search : ByteArray := prog_4_method_4_code
def yX2_search : MethodName := ⟨RX2, "search", "(LTownFolk$Resident;LTownFolk$Town;LTownFolk$Seats;II)V"⟩
abbrev cX2_mayBeIn : ByteArray := prog_4_method_5_code
def yX2_mayBeIn : MethodName := ⟨RX2, "mayBeIn", "(LTownFolk$Resident;IILTownFolk$Town;LTownFolk$Seats;I)Z"⟩
abbrev cX2_stay : ByteArray := prog_4_method_6_code
def yX2_stay : MethodName := ⟨RX2, "stay", "(LTownFolk$Resident;IIZ)V"⟩
abbrev cX2_goOn : ByteArray := prog_4_method_7_code
def yX2_goOn : MethodName := ⟨RX2, "goOn", "(LTownFolk$Town;II)V"⟩
abbrev cX2_costOfWay : ByteArray := prog_4_method_8_code
def yX2_costOfWay : MethodName := ⟨RX2, "costOfWay", "(III)I"⟩
abbrev cX2_write : ByteArray := prog_4_method_9_code
def yX2_write : MethodName := ⟨RX2, "write", "(LTownFolk$Resident;LTownFolk$Town;III)I"⟩
def RX3 : String := "TownFolk$Resident"
def TX3 : u_T := fun k => match k with
  | 0 => ("TownFolk$Resident", "likings", "[I", true)
  | 1 => ("TownFolk$Resident", "duty", "[I", true)
  | 2 => ("TownFolk$Resident", "plan", "[I", true)
  | 3 => ("TownFolk$Resident", "learned", "[I", true)
  | 4 => ("TownFolk$Resident", "home", "I", false)
  | 5 => ("TownFolk$Resident", "keys", "I", false)
  | 6 => ("TownFolk$Resident", "dutyCells", "I", false)
  | 7 => ("TownFolk$Resident", "bendPlace", "I", false)
  | 8 => ("TownFolk$Resident", "bendFrom", "I", false)
  | 9 => ("TownFolk$Resident", "bendTo", "I", false)
  | 10 => ("TownFolk$Resident", "planCost", "I", false)
  | 11 => ("TownFolk$Resident", "known", "I", false)
  | 12 => ("TownFolk$Resident", "bent", "Z", false)
  | _ => ("TownFolk$Resident", "left", "Z", false)
def tyX3 : Nat → FieldType := fun k => match k with
  | 0 => .array .int
  | 1 => .array .int
  | 2 => .array .int
  | 3 => .array .int
  | 4 => .int
  | 5 => .int
  | 6 => .int
  | 7 => .int
  | 8 => .int
  | 9 => .int
  | 10 => .int
  | 11 => .int
  | 12 => .boolean
  | _ => .boolean
theorem nmX3 : ∀ a, a < 14 → ∀ b, b < 14 → a ≠ b → (TX3 a).2.1 ≠ (TX3 b).2.1 := by decide +kernel
theorem tyX3_ok : ∀ k, k < 14 → parseFieldDescriptor (TX3 k).2.2.1 = some (tyX3 k) := by decide +kernel
abbrev cX3_init : ByteArray := prog_5_method_1_code
def yX3_init : MethodName := ⟨RX3, "<init>", "()V"⟩
abbrev cX3_takeDuties : ByteArray := prog_5_method_2_code
def yX3_takeDuties : MethodName := ⟨RX3, "takeDuties", "(LTownFolk$Shelf;)I"⟩
abbrev cX3_takeLikes : ByteArray := prog_5_method_3_code
def yX3_takeLikes : MethodName := ⟨RX3, "takeLikes", "(LTownFolk$Shelf;I)V"⟩
abbrev cX3_hasKey : ByteArray := prog_5_method_4_code
def yX3_hasKey : MethodName := ⟨RX3, "hasKey", "(I)Z"⟩
abbrev cX3_beginDay : ByteArray := prog_5_method_5_code
def yX3_beginDay : MethodName := ⟨RX3, "beginDay", "()V"⟩
abbrev cX3_takeBend : ByteArray := prog_5_method_6_code
def yX3_takeBend : MethodName := ⟨RX3, "takeBend", "(III)V"⟩
abbrev cX3_leave : ByteArray := prog_5_method_7_code
def yX3_leave : MethodName := ⟨RX3, "leave", "(I)V"⟩
abbrev cX3_isDueIn : ByteArray := prog_5_method_8_code
def yX3_isDueIn : MethodName := ⟨RX3, "isDueIn", "(II)Z"⟩
abbrev cX3_freeFrom : ByteArray := prog_5_method_9_code
def yX3_freeFrom : MethodName := ⟨RX3, "freeFrom", "(I)I"⟩
abbrev cX3_standsAt : ByteArray := prog_5_method_10_code
def yX3_standsAt : MethodName := ⟨RX3, "standsAt", "(I)I"⟩
abbrev cX3_learn : ByteArray := prog_5_method_11_code
def yX3_learn : MethodName := ⟨RX3, "learn", "(II)V"⟩
abbrev cX3_learnedAt : ByteArray := prog_5_method_12_code
def yX3_learnedAt : MethodName := ⟨RX3, "learnedAt", "(I)I"⟩
def RX4 : String := "TownFolk$Seats"
def TX4 : u_T := fun k => match k with
  | _ => ("TownFolk$Seats", "count", "[I", true)
def tyX4 : Nat → FieldType := fun k => match k with
  | _ => .array .int
theorem nmX4 : ∀ a, a < 1 → ∀ b, b < 1 → a ≠ b → (TX4 a).2.1 ≠ (TX4 b).2.1 := by decide +kernel
theorem tyX4_ok : ∀ k, k < 1 → parseFieldDescriptor (TX4 k).2.2.1 = some (tyX4 k) := by decide +kernel
abbrev cX4_init : ByteArray := prog_6_method_1_code
def yX4_init : MethodName := ⟨RX4, "<init>", "()V"⟩
abbrev cX4_clear : ByteArray := prog_6_method_2_code
def yX4_clear : MethodName := ⟨RX4, "clear", "()V"⟩
abbrev cX4_taken : ByteArray := prog_6_method_3_code
def yX4_taken : MethodName := ⟨RX4, "taken", "(II)I"⟩
abbrev cX4_take : ByteArray := prog_6_method_4_code
def yX4_take : MethodName := ⟨RX4, "take", "([II)V"⟩
abbrev cX4_release : ByteArray := prog_6_method_5_code
def yX4_release : MethodName := ⟨RX4, "release", "([II)V"⟩
abbrev cX4_add : ByteArray := prog_6_method_6_code
def yX4_add : MethodName := ⟨RX4, "add", "([III)V"⟩
def RX5 : String := "TownFolk$Shelf"
def TX5 : u_T := fun k => match k with
  | 0 => ("TownFolk$Shelf", "cells", "[J", true)
  | 1 => ("TownFolk$Shelf", "person", "I", false)
  | 2 => ("TownFolk$Shelf", "sort", "I", false)
  | _ => ("TownFolk$Shelf", "size", "I", false)
def tyX5 : Nat → FieldType := fun k => match k with
  | 0 => .array .long
  | 1 => .int
  | 2 => .int
  | _ => .int
theorem nmX5 : ∀ a, a < 4 → ∀ b, b < 4 → a ≠ b → (TX5 a).2.1 ≠ (TX5 b).2.1 := by decide +kernel
theorem tyX5_ok : ∀ k, k < 4 → parseFieldDescriptor (TX5 k).2.2.1 = some (tyX5 k) := by decide +kernel
abbrev cX5_init : ByteArray := prog_7_method_1_code
def yX5_init : MethodName := ⟨RX5, "<init>", "()V"⟩
abbrev cX5_isRow : ByteArray := prog_7_method_2_code
def yX5_isRow : MethodName := ⟨RX5, "isRow", "()Z"⟩
abbrev cX5_isPerson : ByteArray := prog_7_method_3_code
def yX5_isPerson : MethodName := ⟨RX5, "isPerson", "()Z"⟩
abbrev cX5_clear : ByteArray := prog_7_method_4_code
def yX5_clear : MethodName := ⟨RX5, "clear", "()V"⟩
abbrev cX5_putPerson : ByteArray := prog_7_method_5_code
def yX5_putPerson : MethodName := ⟨RX5, "putPerson", "(I)V"⟩
abbrev cX5_putRow : ByteArray := prog_7_method_6_code
def yX5_putRow : MethodName := ⟨RX5, "putRow", "(II)V"⟩
abbrev cX5_content : ByteArray := prog_7_method_7_code
def yX5_content : MethodName := ⟨RX5, "content", "()I"⟩
abbrev cX5_hasStretch : ByteArray := prog_7_method_8_code
def yX5_hasStretch : MethodName := ⟨RX5, "hasStretch", "(II)Z"⟩
abbrev cX5_write : ByteArray := prog_7_method_9_code
def yX5_write : MethodName := ⟨RX5, "write", "(IJ)V"⟩
abbrev cX5_asInt : ByteArray := prog_7_method_10_code
def yX5_asInt : MethodName := ⟨RX5, "asInt", "(I)I"⟩
def RX6 : String := "TownFolk$Town"
def TX6 : u_T := fun k => match k with
  | 0 => ("TownFolk$Town", "seatsOf", "[I", true)
  | 1 => ("TownFolk$Town", "opens", "[I", true)
  | 2 => ("TownFolk$Town", "closes", "[I", true)
  | 3 => ("TownFolk$Town", "joined", "[I", true)
  | 4 => ("TownFolk$Town", "least", "[I", true)
  | 5 => ("TownFolk$Town", "places", "I", false)
  | _ => ("TownFolk$Town", "ways", "I", false)
def tyX6 : Nat → FieldType := fun k => match k with
  | 0 => .array .int
  | 1 => .array .int
  | 2 => .array .int
  | 3 => .array .int
  | 4 => .array .int
  | 5 => .int
  | _ => .int
theorem nmX6 : ∀ a, a < 7 → ∀ b, b < 7 → a ≠ b → (TX6 a).2.1 ≠ (TX6 b).2.1 := by decide +kernel
theorem tyX6_ok : ∀ k, k < 7 → parseFieldDescriptor (TX6 k).2.2.1 = some (tyX6 k) := by decide +kernel
abbrev cX6_init : ByteArray := prog_8_method_1_code
def yX6_init : MethodName := ⟨RX6, "<init>", "()V"⟩
abbrev cX6_has : ByteArray := prog_8_method_2_code
def yX6_has : MethodName := ⟨RX6, "has", "(I)Z"⟩
abbrev cX6_addPlace : ByteArray := prog_8_method_3_code
def yX6_addPlace : MethodName := ⟨RX6, "addPlace", "(III)I"⟩
abbrev cX6_addWay : ByteArray := prog_8_method_4_code
def yX6_addWay : MethodName := ⟨RX6, "addWay", "(III)V"⟩
abbrev cX6_shorten : ByteArray := prog_8_method_5_code
def yX6_shorten : MethodName := ⟨RX6, "shorten", "(IIIII)V"⟩
abbrev cX6_apart : ByteArray := prog_8_method_6_code
def yX6_apart : MethodName := ⟨RX6, "apart", "(II)I"⟩
abbrev cX6_isReached : ByteArray := prog_8_method_7_code
def yX6_isReached : MethodName := ⟨RX6, "isReached", "(III)Z"⟩
abbrev cX6_wayTicks : ByteArray := prog_8_method_8_code
def yX6_wayTicks : MethodName := ⟨RX6, "wayTicks", "(II)I"⟩
abbrev cX6_isOpen : ByteArray := prog_8_method_9_code
def yX6_isOpen : MethodName := ⟨RX6, "isOpen", "(II)Z"⟩
def RX7 : String := "TownFolk"
def TX7 : u_T := fun k => match k with
  | 0 => ("TownFolk", "town", "LTownFolk$Town;", true)
  | 1 => ("TownFolk", "shelves", "[LTownFolk$Shelf;", true)
  | 2 => ("TownFolk", "people", "[LTownFolk$Resident;", true)
  | 3 => ("TownFolk", "gatherings", "[LTownFolk$Gathering;", true)
  | 4 => ("TownFolk", "takenSeats", "LTownFolk$Seats;", true)
  | 5 => ("TownFolk", "planner", "LTownFolk$Planner;", true)
  | 6 => ("TownFolk", "dutyCheck", "LTownFolk$DutyCheck;", true)
  | 7 => ("TownFolk", "told", "[I", true)
  | 8 => ("TownFolk", "refusals", "[I", true)
  | 9 => ("TownFolk", "peopleEver", "I", false)
  | 10 => ("TownFolk", "gatheringCount", "I", false)
  | 11 => ("TownFolk", "factCount", "I", false)
  | 12 => ("TownFolk", "plansMade", "I", false)
  | 13 => ("TownFolk", "lockedPlaces", "I", false)
  | 14 => ("TownFolk", "now", "I", false)
  | 15 => ("TownFolk", "daysLived", "I", false)
  | _ => ("TownFolk", "begun", "Z", false)
def tyX7 : Nat → FieldType := fun k => match k with
  | 0 => .object "TownFolk$Town"
  | 1 => .array (.object "TownFolk$Shelf")
  | 2 => .array (.object "TownFolk$Resident")
  | 3 => .array (.object "TownFolk$Gathering")
  | 4 => .object "TownFolk$Seats"
  | 5 => .object "TownFolk$Planner"
  | 6 => .object "TownFolk$DutyCheck"
  | 7 => .array .int
  | 8 => .array .int
  | 9 => .int
  | 10 => .int
  | 11 => .int
  | 12 => .int
  | 13 => .int
  | 14 => .int
  | 15 => .int
  | _ => .boolean
theorem nmX7 : ∀ a, a < 17 → ∀ b, b < 17 → a ≠ b → (TX7 a).2.1 ≠ (TX7 b).2.1 := by decide +kernel
theorem tyX7_ok : ∀ k, k < 17 → parseFieldDescriptor (TX7 k).2.2.1 = some (tyX7 k) := by decide +kernel
abbrev cX7_init : ByteArray := prog_1_method_1_code
def yX7_init : MethodName := ⟨RX7, "<init>", "()V"⟩
abbrev cX7_place : ByteArray := prog_1_method_2_code
def yX7_place : MethodName := ⟨RX7, "place", "(III)I"⟩
abbrev cX7_way : ByteArray := prog_1_method_3_code
def yX7_way : MethodName := ⟨RX7, "way", "(III)I"⟩
abbrev cX7_folk : ByteArray := prog_1_method_4_code
def yX7_folk : MethodName := ⟨RX7, "folk", "(I)I"⟩
abbrev cX7_meeting : ByteArray := prog_1_method_5_code
def yX7_meeting : MethodName := ⟨RX7, "meeting", "(IIIII)I"⟩
abbrev cX7_row : ByteArray := prog_1_method_6_code
def yX7_row : MethodName := ⟨RX7, "row", "(III)I"⟩
abbrev cX7_set : ByteArray := prog_1_method_7_code
def yX7_set : MethodName := ⟨RX7, "set", "(IIJ)I"⟩
abbrev cX7_copy : ByteArray := prog_1_method_8_code
def yX7_copy : MethodName := ⟨RX7, "copy", "(IIIII)I"⟩
abbrev cX7_element : ByteArray := prog_1_method_9_code
def yX7_element : MethodName := ⟨RX7, "element", "(II)J"⟩
abbrev cX7_show : ByteArray := prog_1_method_10_code
def yX7_show : MethodName := ⟨RX7, "show", "(II)I"⟩
abbrev cX7_holds : ByteArray := prog_1_method_11_code
def yX7_holds : MethodName := ⟨RX7, "holds", "(I)I"⟩
abbrev cX7_homeIn : ByteArray := prog_1_method_12_code
def yX7_homeIn : MethodName := ⟨RX7, "homeIn", "(I)I"⟩
abbrev cX7_duties : ByteArray := prog_1_method_13_code
def yX7_duties : MethodName := ⟨RX7, "duties", "(II)I"⟩
abbrev cX7_fault : ByteArray := prog_1_method_14_code
def yX7_fault : MethodName := ⟨RX7, "fault", "(I)I"⟩
abbrev cX7_likes : ByteArray := prog_1_method_15_code
def yX7_likes : MethodName := ⟨RX7, "likes", "(II)I"⟩
abbrev cX7_key : ByteArray := prog_1_method_16_code
def yX7_key : MethodName := ⟨RX7, "key", "(IIZ)I"⟩
abbrev cX7_begin : ByteArray := prog_1_method_17_code
def yX7_begin : MethodName := ⟨RX7, "begin", "()I"⟩
abbrev cX7_tick : ByteArray := prog_1_method_18_code
def yX7_tick : MethodName := ⟨RX7, "tick", "(I)I"⟩
abbrev cX7_bend : ByteArray := prog_1_method_19_code
def yX7_bend : MethodName := ⟨RX7, "bend", "(IIII)I"⟩
abbrev cX7_lock : ByteArray := prog_1_method_20_code
def yX7_lock : MethodName := ⟨RX7, "lock", "(IZ)I"⟩
abbrev cX7_again : ByteArray := prog_1_method_21_code
def yX7_again : MethodName := ⟨RX7, "again", "(I)I"⟩
abbrev cX7_gone : ByteArray := prog_1_method_22_code
def yX7_gone : MethodName := ⟨RX7, "gone", "(I)I"⟩
abbrev cX7_happen : ByteArray := prog_1_method_23_code
def yX7_happen : MethodName := ⟨RX7, "happen", "(I)I"⟩
abbrev cX7_where : ByteArray := prog_1_method_24_code
def yX7_where : MethodName := ⟨RX7, "where", "(II)I"⟩
abbrev cX7_cost : ByteArray := prog_1_method_25_code
def yX7_cost : MethodName := ⟨RX7, "cost", "(I)I"⟩
abbrev cX7_seated : ByteArray := prog_1_method_26_code
def yX7_seated : MethodName := ⟨RX7, "seated", "(II)I"⟩
abbrev cX7_knows : ByteArray := prog_1_method_27_code
def yX7_knows : MethodName := ⟨RX7, "knows", "(II)I"⟩
abbrev cX7_met : ByteArray := prog_1_method_28_code
def yX7_met : MethodName := ⟨RX7, "met", "(II)I"⟩
abbrev cX7_far : ByteArray := prog_1_method_29_code
def yX7_far : MethodName := ⟨RX7, "far", "(II)I"⟩
abbrev cX7_status : ByteArray := prog_1_method_30_code
def yX7_status : MethodName := ⟨RX7, "status", "(I)I"⟩
abbrev cX7_refuse : ByteArray := prog_1_method_31_code
def yX7_refuse : MethodName := ⟨RX7, "refuse", "(I)I"⟩
abbrev cX7_refusalsOf : ByteArray := prog_1_method_32_code
def yX7_refusalsOf : MethodName := ⟨RX7, "refusalsOf", "(I)I"⟩
abbrev cX7_refusalOfRow : ByteArray := prog_1_method_33_code
def yX7_refusalOfRow : MethodName := ⟨RX7, "refusalOfRow", "(I)I"⟩
abbrev cX7_isShelf : ByteArray := prog_1_method_34_code
def yX7_isShelf : MethodName := ⟨RX7, "isShelf", "(I)Z"⟩
abbrev cX7_isSpan : ByteArray := prog_1_method_35_code
def yX7_isSpan : MethodName := ⟨RX7, "isSpan", "(II)Z"⟩
abbrev cX7_isTick : ByteArray := prog_1_method_36_code
def yX7_isTick : MethodName := ⟨RX7, "isTick", "(I)Z"⟩
abbrev cX7_isWeight : ByteArray := prog_1_method_37_code
def yX7_isWeight : MethodName := ⟨RX7, "isWeight", "(I)Z"⟩
abbrev cX7_wasEver : ByteArray := prog_1_method_38_code
def yX7_wasEver : MethodName := ⟨RX7, "wasEver", "(I)Z"⟩
abbrev cX7_isHere : ByteArray := prog_1_method_39_code
def yX7_isHere : MethodName := ⟨RX7, "isHere", "(I)Z"⟩
abbrev cX7_areAllHere : ByteArray := prog_1_method_40_code
def yX7_areAllHere : MethodName := ⟨RX7, "areAllHere", "(I)Z"⟩
abbrev cX7_countHere : ByteArray := prog_1_method_41_code
def yX7_countHere : MethodName := ⟨RX7, "countHere", "()I"⟩
abbrev cX7_countBent : ByteArray := prog_1_method_42_code
def yX7_countBent : MethodName := ⟨RX7, "countBent", "()I"⟩
abbrev cX7_moment : ByteArray := prog_1_method_43_code
def yX7_moment : MethodName := ⟨RX7, "moment", "()I"⟩
abbrev cX7_beginDay : ByteArray := prog_1_method_44_code
def yX7_beginDay : MethodName := ⟨RX7, "beginDay", "()I"⟩
abbrev cX7_liveTick : ByteArray := prog_1_method_45_code
def yX7_liveTick : MethodName := ⟨RX7, "liveTick", "()V"⟩
abbrev cX7_tellFacts : ByteArray := prog_1_method_46_code
def yX7_tellFacts : MethodName := ⟨RX7, "tellFacts", "()V"⟩
abbrev cX7_isIn : ByteArray := prog_1_method_47_code
def yX7_isIn : MethodName := ⟨RX7, "isIn", "(I)Z"⟩
abbrev cX7_replanThoseDueIn : ByteArray := prog_1_method_48_code
def yX7_replanThoseDueIn : MethodName := ⟨RX7, "replanThoseDueIn", "(I)I"⟩
abbrev cX7_replan : ByteArray := prog_1_method_49_code
def yX7_replan : MethodName := ⟨RX7, "replan", "(I)I"⟩
def RX8 : String := "TownFolkModel"
def TX8 : u_T := fun k => match k with
  | 0 => ("TownFolkModel", "refusals", "[I", true)
  | 1 => ("TownFolkModel", "isBegun", "Z", false)
  | 2 => ("TownFolkModel", "now", "I", false)
  | 3 => ("TownFolkModel", "days", "I", false)
  | 4 => ("TownFolkModel", "plans", "I", false)
  | 5 => ("TownFolkModel", "places", "I", false)
  | 6 => ("TownFolkModel", "seats", "[I", true)
  | 7 => ("TownFolkModel", "opens", "[I", true)
  | 8 => ("TownFolkModel", "closes", "[I", true)
  | 9 => ("TownFolkModel", "isLocked", "[Z", true)
  | 10 => ("TownFolkModel", "ways", "I", false)
  | 11 => ("TownFolkModel", "near", "[I", true)
  | 12 => ("TownFolkModel", "least", "[I", true)
  | 13 => ("TownFolkModel", "folk", "I", false)
  | 14 => ("TownFolkModel", "home", "[I", true)
  | 15 => ("TownFolkModel", "keys", "[I", true)
  | 16 => ("TownFolkModel", "likes", "[I", true)
  | 17 => ("TownFolkModel", "duties", "[I", true)
  | 18 => ("TownFolkModel", "duty", "[I", true)
  | 19 => ("TownFolkModel", "isGone", "[Z", true)
  | 20 => ("TownFolkModel", "isBent", "[Z", true)
  | 21 => ("TownFolkModel", "bend", "[I", true)
  | 22 => ("TownFolkModel", "plan", "[I", true)
  | 23 => ("TownFolkModel", "costs", "[I", true)
  | 24 => ("TownFolkModel", "seated", "[I", true)
  | 25 => ("TownFolkModel", "meetings", "I", false)
  | 26 => ("TownFolkModel", "who", "[I", true)
  | 27 => ("TownFolkModel", "meeting", "[I", true)
  | 28 => ("TownFolkModel", "metToday", "[I", true)
  | 29 => ("TownFolkModel", "metEver", "[I", true)
  | 30 => ("TownFolkModel", "metBits", "[I", true)
  | 31 => ("TownFolkModel", "facts", "I", false)
  | 32 => ("TownFolkModel", "learned", "[I", true)
  | 33 => ("TownFolkModel", "knew", "[Z", true)
  | 34 => ("TownFolkModel", "more", "[I", true)
  | 35 => ("TownFolkModel", "shelf", "[I", true)
  | 36 => ("TownFolkModel", "size", "[I", true)
  | 37 => ("TownFolkModel", "cells", "[J", true)
  | 38 => ("TownFolkModel", "moved", "[J", true)
  | 39 => ("TownFolkModel", "fault", "I", false)
  | 40 => ("TownFolkModel", "faultAt", "I", false)
  | 41 => ("TownFolkModel", "claims", "[I", true)
  | 42 => ("TownFolkModel", "claimed", "[I", true)
  | 43 => ("TownFolkModel", "cost", "[I", true)
  | _ => ("TownFolkModel", "choice", "[I", true)
def tyX8 : Nat → FieldType := fun k => match k with
  | 0 => .array .int
  | 1 => .boolean
  | 2 => .int
  | 3 => .int
  | 4 => .int
  | 5 => .int
  | 6 => .array .int
  | 7 => .array .int
  | 8 => .array .int
  | 9 => .array .boolean
  | 10 => .int
  | 11 => .array .int
  | 12 => .array .int
  | 13 => .int
  | 14 => .array .int
  | 15 => .array .int
  | 16 => .array .int
  | 17 => .array .int
  | 18 => .array .int
  | 19 => .array .boolean
  | 20 => .array .boolean
  | 21 => .array .int
  | 22 => .array .int
  | 23 => .array .int
  | 24 => .array .int
  | 25 => .int
  | 26 => .array .int
  | 27 => .array .int
  | 28 => .array .int
  | 29 => .array .int
  | 30 => .array .int
  | 31 => .int
  | 32 => .array .int
  | 33 => .array .boolean
  | 34 => .array .int
  | 35 => .array .int
  | 36 => .array .int
  | 37 => .array .long
  | 38 => .array .long
  | 39 => .int
  | 40 => .int
  | 41 => .array .int
  | 42 => .array .int
  | 43 => .array .int
  | _ => .array .int
theorem nmX8 : ∀ a, a < 45 → ∀ b, b < 45 → a ≠ b → (TX8 a).2.1 ≠ (TX8 b).2.1 := by decide +kernel
theorem tyX8_ok : ∀ k, k < 45 → parseFieldDescriptor (TX8 k).2.2.1 = some (tyX8 k) := by decide +kernel
abbrev cX8_init : ByteArray := prog_10_method_2_code
def yX8_init : MethodName := ⟨RX8, "<init>", "()V"⟩
abbrev cX8_in : ByteArray := prog_10_method_3_code
def yX8_in : MethodName := ⟨RX8, "in", "(III)Z"⟩
abbrev cX8_refuse : ByteArray := prog_10_method_4_code
def yX8_refuse : MethodName := ⟨RX8, "refuse", "(I)I"⟩
abbrev cX8_isPlace : ByteArray := prog_10_method_5_code
def yX8_isPlace : MethodName := ⟨RX8, "isPlace", "(I)Z"⟩
abbrev cX8_isFolk : ByteArray := prog_10_method_6_code
def yX8_isFolk : MethodName := ⟨RX8, "isFolk", "(I)Z"⟩
abbrev cX8_isSpan : ByteArray := prog_10_method_7_code
def yX8_isSpan : MethodName := ⟨RX8, "isSpan", "(II)Z"⟩
abbrev cX8_place : ByteArray := prog_10_method_8_code
def yX8_place : MethodName := ⟨RX8, "place", "(III)I"⟩
abbrev cX8_way : ByteArray := prog_10_method_9_code
def yX8_way : MethodName := ⟨RX8, "way", "(III)I"⟩
abbrev cX8_folk : ByteArray := prog_10_method_10_code
def yX8_folk : MethodName := ⟨RX8, "folk", "(I)I"⟩
abbrev cX8_many : ByteArray := prog_10_method_11_code
def yX8_many : MethodName := ⟨RX8, "many", "(I)I"⟩
abbrev cX8_areFolk : ByteArray := prog_10_method_12_code
def yX8_areFolk : MethodName := ⟨RX8, "areFolk", "(I)Z"⟩
abbrev cX8_meeting : ByteArray := prog_10_method_13_code
def yX8_meeting : MethodName := ⟨RX8, "meeting", "(IIIII)I"⟩
abbrev cX8_isShelf : ByteArray := prog_10_method_14_code
def yX8_isShelf : MethodName := ⟨RX8, "isShelf", "(I)Z"⟩
abbrev cX8_isRow : ByteArray := prog_10_method_15_code
def yX8_isRow : MethodName := ⟨RX8, "isRow", "(I)Z"⟩
abbrev cX8_holdsFolk : ByteArray := prog_10_method_16_code
def yX8_holdsFolk : MethodName := ⟨RX8, "holdsFolk", "(I)Z"⟩
abbrev cX8_lowest : ByteArray := prog_10_method_17_code
def yX8_lowest : MethodName := ⟨RX8, "lowest", "(IJ)J"⟩
abbrev cX8_row : ByteArray := prog_10_method_18_code
def yX8_row : MethodName := ⟨RX8, "row", "(III)I"⟩
abbrev cX8_set : ByteArray := prog_10_method_19_code
def yX8_set : MethodName := ⟨RX8, "set", "(IIJ)I"⟩
abbrev cX8_copy : ByteArray := prog_10_method_20_code
def yX8_copy : MethodName := ⟨RX8, "copy", "(IIIII)I"⟩
abbrev cX8_element : ByteArray := prog_10_method_21_code
def yX8_element : MethodName := ⟨RX8, "element", "(II)J"⟩
abbrev cX8_show : ByteArray := prog_10_method_22_code
def yX8_show : MethodName := ⟨RX8, "show", "(II)I"⟩
abbrev cX8_holds : ByteArray := prog_10_method_23_code
def yX8_holds : MethodName := ⟨RX8, "holds", "(I)I"⟩
abbrev cX8_homeIn : ByteArray := prog_10_method_24_code
def yX8_homeIn : MethodName := ⟨RX8, "homeIn", "(I)I"⟩
abbrev cX8_cell : ByteArray := prog_10_method_25_code
def yX8_cell : MethodName := ⟨RX8, "cell", "(II)I"⟩
abbrev cX8_isTooFar : ByteArray := prog_10_method_26_code
def yX8_isTooFar : MethodName := ⟨RX8, "isTooFar", "(III)Z"⟩
abbrev cX8_faultOf : ByteArray := prog_10_method_27_code
def yX8_faultOf : MethodName := ⟨RX8, "faultOf", "(II)I"⟩
abbrev cX8_findFault : ByteArray := prog_10_method_28_code
def yX8_findFault : MethodName := ⟨RX8, "findFault", "(I)V"⟩
abbrev cX8_duties : ByteArray := prog_10_method_29_code
def yX8_duties : MethodName := ⟨RX8, "duties", "(II)I"⟩
abbrev cX8_fault : ByteArray := prog_10_method_30_code
def yX8_fault : MethodName := ⟨RX8, "fault", "(I)I"⟩
abbrev cX8_likes : ByteArray := prog_10_method_31_code
def yX8_likes : MethodName := ⟨RX8, "likes", "(II)I"⟩
abbrev cX8_key : ByteArray := prog_10_method_32_code
def yX8_key : MethodName := ⟨RX8, "key", "(IIZ)I"⟩
abbrev cX8_claim : ByteArray := prog_10_method_33_code
def yX8_claim : MethodName := ⟨RX8, "claim", "(IIII)V"⟩
abbrev cX8_findClaims : ByteArray := prog_10_method_34_code
def yX8_findClaims : MethodName := ⟨RX8, "findClaims", "(I)V"⟩
abbrev cX8_canBeIn : ByteArray := prog_10_method_35_code
def yX8_canBeIn : MethodName := ⟨RX8, "canBeIn", "(III)Z"⟩
abbrev cX8_late : ByteArray := prog_10_method_36_code
def yX8_late : MethodName := ⟨RX8, "late", "(ZI)I"⟩
abbrev cX8_inCost : ByteArray := prog_10_method_37_code
def yX8_inCost : MethodName := ⟨RX8, "inCost", "(III)I"⟩
abbrev cX8_wayCost : ByteArray := prog_10_method_38_code
def yX8_wayCost : MethodName := ⟨RX8, "wayCost", "(II)I"⟩
abbrev cX8_chooses : ByteArray := prog_10_method_39_code
def yX8_chooses : MethodName := ⟨RX8, "chooses", "(III)V"⟩
abbrev cX8_leaves : ByteArray := prog_10_method_40_code
def yX8_leaves : MethodName := ⟨RX8, "leaves", "(II)V"⟩
abbrev cX8_planned : ByteArray := prog_10_method_41_code
def yX8_planned : MethodName := ⟨RX8, "planned", "(I)I"⟩
abbrev cX8_walks : ByteArray := prog_10_method_42_code
def yX8_walks : MethodName := ⟨RX8, "walks", "(III)V"⟩
abbrev cX8_newDay : ByteArray := prog_10_method_43_code
def yX8_newDay : MethodName := ⟨RX8, "newDay", "()V"⟩
abbrev cX8_still : ByteArray := prog_10_method_44_code
def yX8_still : MethodName := ⟨RX8, "still", "()I"⟩
abbrev cX8_begin : ByteArray := prog_10_method_45_code
def yX8_begin : MethodName := ⟨RX8, "begin", "()I"⟩
abbrev cX8_tells : ByteArray := prog_10_method_46_code
def yX8_tells : MethodName := ⟨RX8, "tells", "()V"⟩
abbrev cX8_meets : ByteArray := prog_10_method_47_code
def yX8_meets : MethodName := ⟨RX8, "meets", "()V"⟩
abbrev cX8_tick : ByteArray := prog_10_method_48_code
def yX8_tick : MethodName := ⟨RX8, "tick", "(I)I"⟩
abbrev cX8_bend : ByteArray := prog_10_method_49_code
def yX8_bend : MethodName := ⟨RX8, "bend", "(IIII)I"⟩
abbrev cX8_willBeIn : ByteArray := prog_10_method_50_code
def yX8_willBeIn : MethodName := ⟨RX8, "willBeIn", "(II)Z"⟩
abbrev cX8_lock : ByteArray := prog_10_method_51_code
def yX8_lock : MethodName := ⟨RX8, "lock", "(IZ)I"⟩
abbrev cX8_again : ByteArray := prog_10_method_52_code
def yX8_again : MethodName := ⟨RX8, "again", "(I)I"⟩
abbrev cX8_gone : ByteArray := prog_10_method_53_code
def yX8_gone : MethodName := ⟨RX8, "gone", "(I)I"⟩
abbrev cX8_happen : ByteArray := prog_10_method_54_code
def yX8_happen : MethodName := ⟨RX8, "happen", "(I)I"⟩
abbrev cX8_where : ByteArray := prog_10_method_55_code
def yX8_where : MethodName := ⟨RX8, "where", "(II)I"⟩
abbrev cX8_cost : ByteArray := prog_10_method_56_code
def yX8_cost : MethodName := ⟨RX8, "cost", "(I)I"⟩
abbrev cX8_seated : ByteArray := prog_10_method_57_code
def yX8_seated : MethodName := ⟨RX8, "seated", "(II)I"⟩
abbrev cX8_knows : ByteArray := prog_10_method_58_code
def yX8_knows : MethodName := ⟨RX8, "knows", "(II)I"⟩
abbrev cX8_met : ByteArray := prog_10_method_59_code
def yX8_met : MethodName := ⟨RX8, "met", "(II)I"⟩
abbrev cX8_far : ByteArray := prog_10_method_60_code
def yX8_far : MethodName := ⟨RX8, "far", "(II)I"⟩
abbrev cX8_bent : ByteArray := prog_10_method_61_code
def yX8_bent : MethodName := ⟨RX8, "bent", "()I"⟩
abbrev cX8_locked : ByteArray := prog_10_method_62_code
def yX8_locked : MethodName := ⟨RX8, "locked", "()I"⟩
abbrev cX8_status : ByteArray := prog_10_method_63_code
def yX8_status : MethodName := ⟨RX8, "status", "(I)I"⟩
def RJ6 : String := "java/lang/Integer"
abbrev cJ6_bitCount_0f7a4 : ByteArray := prog_11_method_49_code
def yJ6_bitCount_0f7a4 : MethodName := ⟨RJ6, "bitCount", "(I)I"⟩
def RJ9 : String := "java/lang/Math"
abbrev cJ9_min_7cf53 : ByteArray := prog_12_method_69_code
def yJ9_min_7cf53 : MethodName := ⟨RJ9, "min", "(II)I"⟩
def RJ10 : String := "java/lang/System"
def RJ7 : String := "java/util/Arrays"
abbrev cJ7_fill_d0a16 : ByteArray := prog_14_method_101_code
def yJ7_fill_d0a16 : MethodName := ⟨RJ7, "fill", "([JJ)V"⟩
abbrev cJ7_fill_53178 : ByteArray := prog_14_method_103_code
def yJ7_fill_53178 : MethodName := ⟨RJ7, "fill", "([II)V"⟩
def RL : String := "TownFolkLaw"
abbrev vwCl : List vw_C := [(RX0, TX0, 2), (RX1, TX1, 8), (RX2, TX2, 5), (RX3, TX3, 14), (RX4, TX4, 1), (RX5, TX5, 4), (RX6, TX6, 7), (RX7, TX7, 17), (RX8, TX8, 45)]
/-- the words that stay when the machine warms up -/
def TB : List Cond := lw_tbl.filter goodWord
theorem tb_0 {w : Cond} (h : w ∈ tables_1) (g : goodWord w = true) : w ∈ TB := List.mem_filter.mpr ⟨List.mem_append_right _ h, g⟩
theorem tb_1 {w : Cond} (i : Nat) (h : tables_1_1[i]? = some w) (g : goodWord w = true) : w ∈ TB := tb_0 (List.mem_append_left _ (List.mem_of_getElem? h)) g
theorem tb_2 {w : Cond} (i : Nat) (h : tables_1_2[i]? = some w) (g : goodWord w = true) : w ∈ TB := tb_0 (List.mem_append_right _ (List.mem_append_left _ (List.mem_of_getElem? h))) g
theorem tb_3 {w : Cond} (i : Nat) (h : tables_1_3[i]? = some w) (g : goodWord w = true) : w ∈ TB := tb_0 (List.mem_append_right _ (List.mem_append_right _ (List.mem_append_left _ (List.mem_of_getElem? h)))) g
theorem tb_4 {w : Cond} (i : Nat) (h : tables_1_4[i]? = some w) (g : goodWord w = true) : w ∈ TB := tb_0 (List.mem_append_right _ (List.mem_append_right _ (List.mem_append_right _ (List.mem_append_left _ (List.mem_of_getElem? h))))) g
theorem tb_5 {w : Cond} (i : Nat) (h : tables_1_5[i]? = some w) (g : goodWord w = true) : w ∈ TB := tb_0 (List.mem_append_right _ (List.mem_append_right _ (List.mem_append_right _ (List.mem_append_right _ (List.mem_of_getElem? h))))) g
theorem tbs_1 (y : MethodName) (n i : Nat) (h : lw_privs_1[i]? = some (y, n)) : Cond.selects y.cls y y ∈ TB := List.mem_filter.mpr ⟨List.mem_append_left _ (List.mem_map.mpr ⟨(y, n), (List.mem_append_left _ (List.mem_of_getElem? h) : (y, n) ∈ lw_privs), rfl⟩), rfl⟩
theorem tbs_2 (y : MethodName) (n i : Nat) (h : lw_privs_2[i]? = some (y, n)) : Cond.selects y.cls y y ∈ TB := List.mem_filter.mpr ⟨List.mem_append_left _ (List.mem_map.mpr ⟨(y, n), (List.mem_append_right _ (List.mem_append_left _ (List.mem_of_getElem? h)) : (y, n) ∈ lw_privs), rfl⟩), rfl⟩
theorem tbs_3 (y : MethodName) (n i : Nat) (h : lw_privs_3[i]? = some (y, n)) : Cond.selects y.cls y y ∈ TB := List.mem_filter.mpr ⟨List.mem_append_left _ (List.mem_map.mpr ⟨(y, n), (List.mem_append_right _ (List.mem_append_right _ (List.mem_of_getElem? h)) : (y, n) ∈ lw_privs), rfl⟩), rfl⟩
theorem tb_hts {args : Array Value} {s : State} (h : ∀ w ∈ lw_tbl, w.before args s = true) : ∀ w ∈ TB, w.before args s = true := fun w hw => h w (List.mem_filter.mp hw).1
theorem tb_good : GoodIn TB TB := fun w hw => ⟨hw, good_of_word (List.mem_filter.mp hw).2⟩
theorem inX0 : ∀ w ∈ u_ws RX0 TX0 2, w ∈ TB := by
  show ∀ w ∈ [u_lay RX0 TX0 0, u_lay RX0 TX0 1], w ∈ TB
  exact List.forall_mem_cons.mpr ⟨tb_1 103 (by decide +kernel) (by decide +kernel), List.forall_mem_cons.mpr ⟨tb_1 105 (by decide +kernel) (by decide +kernel), fun _ h => absurd h List.not_mem_nil⟩⟩
theorem inX1 : ∀ w ∈ u_ws RX1 TX1 8, w ∈ TB := by
  show ∀ w ∈ [u_lay RX1 TX1 0, u_lay RX1 TX1 1, u_lay RX1 TX1 2, u_lay RX1 TX1 3, u_lay RX1 TX1 4, u_lay RX1 TX1 5, u_lay RX1 TX1 6, u_lay RX1 TX1 7], w ∈ TB
  exact List.forall_mem_cons.mpr ⟨tb_1 220 (by decide +kernel) (by decide +kernel), List.forall_mem_cons.mpr ⟨tb_1 222 (by decide +kernel) (by decide +kernel), List.forall_mem_cons.mpr ⟨tb_1 224 (by decide +kernel) (by decide +kernel), List.forall_mem_cons.mpr ⟨tb_1 226 (by decide +kernel) (by decide +kernel), List.forall_mem_cons.mpr ⟨tb_1 228 (by decide +kernel) (by decide +kernel), List.forall_mem_cons.mpr ⟨tb_1 230 (by decide +kernel) (by decide +kernel), List.forall_mem_cons.mpr ⟨tb_1 232 (by decide +kernel) (by decide +kernel), List.forall_mem_cons.mpr ⟨tb_1 234 (by decide +kernel) (by decide +kernel), fun _ h => absurd h List.not_mem_nil⟩⟩⟩⟩⟩⟩⟩⟩
theorem inX2 : ∀ w ∈ u_ws RX2 TX2 5, w ∈ TB := by
  show ∀ w ∈ [u_lay RX2 TX2 0, u_lay RX2 TX2 1, u_lay RX2 TX2 2, u_lay RX2 TX2 3, u_lay RX2 TX2 4], w ∈ TB
  exact List.forall_mem_cons.mpr ⟨tb_1 82 (by decide +kernel) (by decide +kernel), List.forall_mem_cons.mpr ⟨tb_1 84 (by decide +kernel) (by decide +kernel), List.forall_mem_cons.mpr ⟨tb_1 86 (by decide +kernel) (by decide +kernel), List.forall_mem_cons.mpr ⟨tb_1 88 (by decide +kernel) (by decide +kernel), List.forall_mem_cons.mpr ⟨tb_1 90 (by decide +kernel) (by decide +kernel), fun _ h => absurd h List.not_mem_nil⟩⟩⟩⟩⟩
theorem inX3 : ∀ w ∈ u_ws RX3 TX3 14, w ∈ TB := by
  show ∀ w ∈ [u_lay RX3 TX3 0, u_lay RX3 TX3 1, u_lay RX3 TX3 2, u_lay RX3 TX3 3, u_lay RX3 TX3 4, u_lay RX3 TX3 5, u_lay RX3 TX3 6, u_lay RX3 TX3 7, u_lay RX3 TX3 8, u_lay RX3 TX3 9, u_lay RX3 TX3 10, u_lay RX3 TX3 11, u_lay RX3 TX3 12, u_lay RX3 TX3 13], w ∈ TB
  exact List.forall_mem_cons.mpr ⟨tb_1 171 (by decide +kernel) (by decide +kernel), List.forall_mem_cons.mpr ⟨tb_1 173 (by decide +kernel) (by decide +kernel), List.forall_mem_cons.mpr ⟨tb_1 175 (by decide +kernel) (by decide +kernel), List.forall_mem_cons.mpr ⟨tb_1 177 (by decide +kernel) (by decide +kernel), List.forall_mem_cons.mpr ⟨tb_1 179 (by decide +kernel) (by decide +kernel), List.forall_mem_cons.mpr ⟨tb_1 181 (by decide +kernel) (by decide +kernel), List.forall_mem_cons.mpr ⟨tb_1 183 (by decide +kernel) (by decide +kernel), List.forall_mem_cons.mpr ⟨tb_1 185 (by decide +kernel) (by decide +kernel), List.forall_mem_cons.mpr ⟨tb_1 187 (by decide +kernel) (by decide +kernel), List.forall_mem_cons.mpr ⟨tb_1 189 (by decide +kernel) (by decide +kernel), List.forall_mem_cons.mpr ⟨tb_1 191 (by decide +kernel) (by decide +kernel), List.forall_mem_cons.mpr ⟨tb_1 193 (by decide +kernel) (by decide +kernel), List.forall_mem_cons.mpr ⟨tb_1 195 (by decide +kernel) (by decide +kernel), List.forall_mem_cons.mpr ⟨tb_1 197 (by decide +kernel) (by decide +kernel), fun _ h => absurd h List.not_mem_nil⟩⟩⟩⟩⟩⟩⟩⟩⟩⟩⟩⟩⟩⟩
theorem inX4 : ∀ w ∈ u_ws RX4 TX4 1, w ∈ TB := by
  show ∀ w ∈ [u_lay RX4 TX4 0], w ∈ TB
  exact List.forall_mem_cons.mpr ⟨tb_1 68 (by decide +kernel) (by decide +kernel), fun _ h => absurd h List.not_mem_nil⟩
theorem inX5 : ∀ w ∈ u_ws RX5 TX5 4, w ∈ TB := by
  show ∀ w ∈ [u_lay RX5 TX5 0, u_lay RX5 TX5 1, u_lay RX5 TX5 2, u_lay RX5 TX5 3], w ∈ TB
  exact List.forall_mem_cons.mpr ⟨tb_1 123 (by decide +kernel) (by decide +kernel), List.forall_mem_cons.mpr ⟨tb_1 125 (by decide +kernel) (by decide +kernel), List.forall_mem_cons.mpr ⟨tb_1 127 (by decide +kernel) (by decide +kernel), List.forall_mem_cons.mpr ⟨tb_1 129 (by decide +kernel) (by decide +kernel), fun _ h => absurd h List.not_mem_nil⟩⟩⟩⟩
theorem inX6 : ∀ w ∈ u_ws RX6 TX6 7, w ∈ TB := by
  show ∀ w ∈ [u_lay RX6 TX6 0, u_lay RX6 TX6 1, u_lay RX6 TX6 2, u_lay RX6 TX6 3, u_lay RX6 TX6 4, u_lay RX6 TX6 5, u_lay RX6 TX6 6], w ∈ TB
  exact List.forall_mem_cons.mpr ⟨tb_1 39 (by decide +kernel) (by decide +kernel), List.forall_mem_cons.mpr ⟨tb_1 41 (by decide +kernel) (by decide +kernel), List.forall_mem_cons.mpr ⟨tb_1 43 (by decide +kernel) (by decide +kernel), List.forall_mem_cons.mpr ⟨tb_1 45 (by decide +kernel) (by decide +kernel), List.forall_mem_cons.mpr ⟨tb_1 47 (by decide +kernel) (by decide +kernel), List.forall_mem_cons.mpr ⟨tb_1 49 (by decide +kernel) (by decide +kernel), List.forall_mem_cons.mpr ⟨tb_1 51 (by decide +kernel) (by decide +kernel), fun _ h => absurd h List.not_mem_nil⟩⟩⟩⟩⟩⟩⟩
theorem inX7 : ∀ w ∈ u_ws RX7 TX7 17, w ∈ TB := by
  show ∀ w ∈ [u_lay RX7 TX7 0, u_lay RX7 TX7 1, u_lay RX7 TX7 2, u_lay RX7 TX7 3, u_lay RX7 TX7 4, u_lay RX7 TX7 5, u_lay RX7 TX7 6, u_lay RX7 TX7 7, u_lay RX7 TX7 8, u_lay RX7 TX7 9, u_lay RX7 TX7 10, u_lay RX7 TX7 11, u_lay RX7 TX7 12, u_lay RX7 TX7 13, u_lay RX7 TX7 14, u_lay RX7 TX7 15, u_lay RX7 TX7 16], w ∈ TB
  exact List.forall_mem_cons.mpr ⟨tb_2 14 (by decide +kernel) (by decide +kernel), List.forall_mem_cons.mpr ⟨tb_2 16 (by decide +kernel) (by decide +kernel), List.forall_mem_cons.mpr ⟨tb_2 18 (by decide +kernel) (by decide +kernel), List.forall_mem_cons.mpr ⟨tb_2 20 (by decide +kernel) (by decide +kernel), List.forall_mem_cons.mpr ⟨tb_2 22 (by decide +kernel) (by decide +kernel), List.forall_mem_cons.mpr ⟨tb_2 24 (by decide +kernel) (by decide +kernel), List.forall_mem_cons.mpr ⟨tb_2 26 (by decide +kernel) (by decide +kernel), List.forall_mem_cons.mpr ⟨tb_2 28 (by decide +kernel) (by decide +kernel), List.forall_mem_cons.mpr ⟨tb_2 30 (by decide +kernel) (by decide +kernel), List.forall_mem_cons.mpr ⟨tb_2 32 (by decide +kernel) (by decide +kernel), List.forall_mem_cons.mpr ⟨tb_2 34 (by decide +kernel) (by decide +kernel), List.forall_mem_cons.mpr ⟨tb_2 36 (by decide +kernel) (by decide +kernel), List.forall_mem_cons.mpr ⟨tb_2 38 (by decide +kernel) (by decide +kernel), List.forall_mem_cons.mpr ⟨tb_2 40 (by decide +kernel) (by decide +kernel), List.forall_mem_cons.mpr ⟨tb_2 42 (by decide +kernel) (by decide +kernel), List.forall_mem_cons.mpr ⟨tb_2 44 (by decide +kernel) (by decide +kernel), List.forall_mem_cons.mpr ⟨tb_2 46 (by decide +kernel) (by decide +kernel), fun _ h => absurd h List.not_mem_nil⟩⟩⟩⟩⟩⟩⟩⟩⟩⟩⟩⟩⟩⟩⟩⟩⟩
theorem inX8 : ∀ w ∈ u_ws RX8 TX8 45, w ∈ TB := by
  show ∀ w ∈ [u_lay RX8 TX8 0, u_lay RX8 TX8 1, u_lay RX8 TX8 2, u_lay RX8 TX8 3, u_lay RX8 TX8 4, u_lay RX8 TX8 5, u_lay RX8 TX8 6, u_lay RX8 TX8 7, u_lay RX8 TX8 8, u_lay RX8 TX8 9, u_lay RX8 TX8 10, u_lay RX8 TX8 11, u_lay RX8 TX8 12, u_lay RX8 TX8 13, u_lay RX8 TX8 14, u_lay RX8 TX8 15, u_lay RX8 TX8 16, u_lay RX8 TX8 17, u_lay RX8 TX8 18, u_lay RX8 TX8 19, u_lay RX8 TX8 20, u_lay RX8 TX8 21, u_lay RX8 TX8 22, u_lay RX8 TX8 23, u_lay RX8 TX8 24, u_lay RX8 TX8 25, u_lay RX8 TX8 26, u_lay RX8 TX8 27, u_lay RX8 TX8 28, u_lay RX8 TX8 29, u_lay RX8 TX8 30, u_lay RX8 TX8 31, u_lay RX8 TX8 32, u_lay RX8 TX8 33, u_lay RX8 TX8 34, u_lay RX8 TX8 35, u_lay RX8 TX8 36, u_lay RX8 TX8 37, u_lay RX8 TX8 38, u_lay RX8 TX8 39, u_lay RX8 TX8 40, u_lay RX8 TX8 41, u_lay RX8 TX8 42, u_lay RX8 TX8 43, u_lay RX8 TX8 44], w ∈ TB
  exact List.forall_mem_cons.mpr ⟨tb_4 43 (by decide +kernel) (by decide +kernel), List.forall_mem_cons.mpr ⟨tb_4 45 (by decide +kernel) (by decide +kernel), List.forall_mem_cons.mpr ⟨tb_4 47 (by decide +kernel) (by decide +kernel), List.forall_mem_cons.mpr ⟨tb_4 49 (by decide +kernel) (by decide +kernel), List.forall_mem_cons.mpr ⟨tb_4 51 (by decide +kernel) (by decide +kernel), List.forall_mem_cons.mpr ⟨tb_4 53 (by decide +kernel) (by decide +kernel), List.forall_mem_cons.mpr ⟨tb_4 55 (by decide +kernel) (by decide +kernel), List.forall_mem_cons.mpr ⟨tb_4 57 (by decide +kernel) (by decide +kernel), List.forall_mem_cons.mpr ⟨tb_4 59 (by decide +kernel) (by decide +kernel), List.forall_mem_cons.mpr ⟨tb_4 61 (by decide +kernel) (by decide +kernel), List.forall_mem_cons.mpr ⟨tb_4 63 (by decide +kernel) (by decide +kernel), List.forall_mem_cons.mpr ⟨tb_4 65 (by decide +kernel) (by decide +kernel), List.forall_mem_cons.mpr ⟨tb_4 67 (by decide +kernel) (by decide +kernel), List.forall_mem_cons.mpr ⟨tb_4 69 (by decide +kernel) (by decide +kernel), List.forall_mem_cons.mpr ⟨tb_4 71 (by decide +kernel) (by decide +kernel), List.forall_mem_cons.mpr ⟨tb_4 73 (by decide +kernel) (by decide +kernel), List.forall_mem_cons.mpr ⟨tb_4 75 (by decide +kernel) (by decide +kernel), List.forall_mem_cons.mpr ⟨tb_4 77 (by decide +kernel) (by decide +kernel), List.forall_mem_cons.mpr ⟨tb_4 79 (by decide +kernel) (by decide +kernel), List.forall_mem_cons.mpr ⟨tb_4 81 (by decide +kernel) (by decide +kernel), List.forall_mem_cons.mpr ⟨tb_4 83 (by decide +kernel) (by decide +kernel), List.forall_mem_cons.mpr ⟨tb_4 85 (by decide +kernel) (by decide +kernel), List.forall_mem_cons.mpr ⟨tb_4 87 (by decide +kernel) (by decide +kernel), List.forall_mem_cons.mpr ⟨tb_4 89 (by decide +kernel) (by decide +kernel), List.forall_mem_cons.mpr ⟨tb_4 91 (by decide +kernel) (by decide +kernel), List.forall_mem_cons.mpr ⟨tb_4 93 (by decide +kernel) (by decide +kernel), List.forall_mem_cons.mpr ⟨tb_4 95 (by decide +kernel) (by decide +kernel), List.forall_mem_cons.mpr ⟨tb_4 97 (by decide +kernel) (by decide +kernel), List.forall_mem_cons.mpr ⟨tb_4 99 (by decide +kernel) (by decide +kernel), List.forall_mem_cons.mpr ⟨tb_4 101 (by decide +kernel) (by decide +kernel), List.forall_mem_cons.mpr ⟨tb_4 103 (by decide +kernel) (by decide +kernel), List.forall_mem_cons.mpr ⟨tb_4 105 (by decide +kernel) (by decide +kernel), List.forall_mem_cons.mpr ⟨tb_4 107 (by decide +kernel) (by decide +kernel), List.forall_mem_cons.mpr ⟨tb_4 109 (by decide +kernel) (by decide +kernel), List.forall_mem_cons.mpr ⟨tb_4 111 (by decide +kernel) (by decide +kernel), List.forall_mem_cons.mpr ⟨tb_4 113 (by decide +kernel) (by decide +kernel), List.forall_mem_cons.mpr ⟨tb_4 115 (by decide +kernel) (by decide +kernel), List.forall_mem_cons.mpr ⟨tb_4 117 (by decide +kernel) (by decide +kernel), List.forall_mem_cons.mpr ⟨tb_4 119 (by decide +kernel) (by decide +kernel), List.forall_mem_cons.mpr ⟨tb_4 121 (by decide +kernel) (by decide +kernel), List.forall_mem_cons.mpr ⟨tb_4 123 (by decide +kernel) (by decide +kernel), List.forall_mem_cons.mpr ⟨tb_4 125 (by decide +kernel) (by decide +kernel), List.forall_mem_cons.mpr ⟨tb_4 127 (by decide +kernel) (by decide +kernel), List.forall_mem_cons.mpr ⟨tb_4 129 (by decide +kernel) (by decide +kernel), List.forall_mem_cons.mpr ⟨tb_4 131 (by decide +kernel) (by decide +kernel), fun _ h => absurd h List.not_mem_nil⟩⟩⟩⟩⟩⟩⟩⟩⟩⟩⟩⟩⟩⟩⟩⟩⟩⟩⟩⟩⟩⟩⟩⟩⟩⟩⟩⟩⟩⟩⟩⟩⟩⟩⟩⟩⟩⟩⟩⟩⟩⟩⟩⟩⟩
