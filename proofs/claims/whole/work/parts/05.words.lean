-- ===== PART A: goes FIRST, ahead of the names: the tables' words, and 'selects' of the private methods out of them =====
/-- a private method of a class that the tables say can be made, by its rows of tables_1 -/
def lw_okq (q : MethodName × Nat) : Prop := (q.1.cls ≠ "java/lang/invoke/MethodHandle" ∧ q.1.cls ≠ "java/lang/invoke/VarHandle") ∧ Cond.instantiable q.1.cls q.2 ∈ tables_1 ∧ Cond.privateMethod q.1 ∈ tables_1 ∧ Cond.instanceMethod q.1 ∈ tables_1
theorem lw_p0 : lw_okq (⟨"FactorHouse", "mendStray", "(LFactorHouse$Stray;)V"⟩, 16) := ⟨⟨by decide +kernel, by decide +kernel⟩, List.mem_of_getElem? (i := 16) (by decide +kernel), List.mem_of_getElem? (i := 231) (by decide +kernel), List.mem_of_getElem? (i := 232) (by decide +kernel)⟩
theorem lw_p1 : lw_okq (⟨"FactorHouse", "settle", "(III)V"⟩, 16) := ⟨⟨by decide +kernel, by decide +kernel⟩, List.mem_of_getElem? (i := 16) (by decide +kernel), List.mem_of_getElem? (i := 238) (by decide +kernel), List.mem_of_getElem? (i := 239) (by decide +kernel)⟩
theorem lw_p2 : lw_okq (⟨"FactorHouse", "takeOff", "(II)V"⟩, 16) := ⟨⟨by decide +kernel, by decide +kernel⟩, List.mem_of_getElem? (i := 16) (by decide +kernel), List.mem_of_getElem? (i := 242) (by decide +kernel), List.mem_of_getElem? (i := 243) (by decide +kernel)⟩
theorem lw_p3 : lw_okq (⟨"FactorHouse$Journal", "add", "(II)V"⟩, 3) := ⟨⟨by decide +kernel, by decide +kernel⟩, List.mem_of_getElem? (i := 30) (by decide +kernel), List.mem_of_getElem? (i := 246) (by decide +kernel), List.mem_of_getElem? (i := 247) (by decide +kernel)⟩
theorem lw_p4 : lw_okq (⟨"FactorHouse$Bill", "owner", "()I"⟩, 14) := ⟨⟨by decide +kernel, by decide +kernel⟩, List.mem_of_getElem? (i := 65) (by decide +kernel), List.mem_of_getElem? (i := 250) (by decide +kernel), List.mem_of_getElem? (i := 251) (by decide +kernel)⟩
theorem lw_p5 : lw_okq (⟨"FactorHouse$Bill", "ownerSlot", "()I"⟩, 14) := ⟨⟨by decide +kernel, by decide +kernel⟩, List.mem_of_getElem? (i := 65) (by decide +kernel), List.mem_of_getElem? (i := 254) (by decide +kernel), List.mem_of_getElem? (i := 255) (by decide +kernel)⟩
theorem lw_p6 : lw_okq (⟨"FactorHouse$Bill", "partyIn", "(I)I"⟩, 14) := ⟨⟨by decide +kernel, by decide +kernel⟩, List.mem_of_getElem? (i := 65) (by decide +kernel), List.mem_of_getElem? (i := 261) (by decide +kernel), List.mem_of_getElem? (i := 262) (by decide +kernel)⟩
theorem lw_p7 : lw_okq (⟨"FactorHouse", "move", "(IIJ)V"⟩, 16) := ⟨⟨by decide +kernel, by decide +kernel⟩, List.mem_of_getElem? (i := 16) (by decide +kernel), List.mem_of_getElem? (i := 265) (by decide +kernel), List.mem_of_getElem? (i := 266) (by decide +kernel)⟩
theorem lw_p8 : lw_okq (⟨"FactorHouse", "countingSlot", "(LFactorHouse$Bill;)I"⟩, 16) := ⟨⟨by decide +kernel, by decide +kernel⟩, List.mem_of_getElem? (i := 16) (by decide +kernel), List.mem_of_getElem? (i := 281) (by decide +kernel), List.mem_of_getElem? (i := 282) (by decide +kernel)⟩
theorem lw_p9 : lw_okq (⟨"FactorHouse", "isSound", "(LFactorHouse$Bill;)Z"⟩, 16) := ⟨⟨by decide +kernel, by decide +kernel⟩, List.mem_of_getElem? (i := 16) (by decide +kernel), List.mem_of_getElem? (i := 285) (by decide +kernel), List.mem_of_getElem? (i := 286) (by decide +kernel)⟩
theorem lw_p10 : lw_okq (⟨"FactorHouse", "isOld", "(LFactorHouse$Bill;)Z"⟩, 16) := ⟨⟨by decide +kernel, by decide +kernel⟩, List.mem_of_getElem? (i := 16) (by decide +kernel), List.mem_of_getElem? (i := 289) (by decide +kernel), List.mem_of_getElem? (i := 290) (by decide +kernel)⟩
theorem lw_p11 : lw_okq (⟨"FactorHouse", "isMostlyOld", "(II)Z"⟩, 16) := ⟨⟨by decide +kernel, by decide +kernel⟩, List.mem_of_getElem? (i := 16) (by decide +kernel), List.mem_of_getElem? (i := 293) (by decide +kernel), List.mem_of_getElem? (i := 294) (by decide +kernel)⟩
theorem lw_p12 : lw_okq (⟨"FactorHouse", "takeOut", "(LFactorHouse$Bill;)V"⟩, 16) := ⟨⟨by decide +kernel, by decide +kernel⟩, List.mem_of_getElem? (i := 16) (by decide +kernel), List.mem_of_getElem? (i := 298) (by decide +kernel), List.mem_of_getElem? (i := 299) (by decide +kernel)⟩
theorem lw_p13 : lw_okq (⟨"java/lang/Throwable", "fillInStackTrace", "(I)Ljava/lang/Throwable;"⟩, 6) := ⟨⟨by decide +kernel, by decide +kernel⟩, List.mem_of_getElem? (i := 360) (by decide +kernel), List.mem_of_getElem? (i := 358) (by decide +kernel), List.mem_of_getElem? (i := 359) (by decide +kernel)⟩
theorem lw_p14 : lw_okq (⟨"FactorHouse", "checkNotFailed", "(I)V"⟩, 16) := ⟨⟨by decide +kernel, by decide +kernel⟩, List.mem_of_getElem? (i := 16) (by decide +kernel), List.mem_of_getElem? (i := 431) (by decide +kernel), List.mem_of_getElem? (i := 432) (by decide +kernel)⟩
theorem lw_p15 : lw_okq (⟨"FactorHouse$Bill", "begin", "(IIII)V"⟩, 14) := ⟨⟨by decide +kernel, by decide +kernel⟩, List.mem_of_getElem? (i := 65) (by decide +kernel), List.mem_of_getElem? (i := 436) (by decide +kernel), List.mem_of_getElem? (i := 437) (by decide +kernel)⟩
def lw_privs_1 : List (MethodName × Nat) := [(⟨"FactorHouse", "mendStray", "(LFactorHouse$Stray;)V"⟩, 16), (⟨"FactorHouse", "settle", "(III)V"⟩, 16), (⟨"FactorHouse", "takeOff", "(II)V"⟩, 16), (⟨"FactorHouse$Journal", "add", "(II)V"⟩, 3), (⟨"FactorHouse$Bill", "owner", "()I"⟩, 14), (⟨"FactorHouse$Bill", "ownerSlot", "()I"⟩, 14), (⟨"FactorHouse$Bill", "partyIn", "(I)I"⟩, 14), (⟨"FactorHouse", "move", "(IIJ)V"⟩, 16), (⟨"FactorHouse", "countingSlot", "(LFactorHouse$Bill;)I"⟩, 16), (⟨"FactorHouse", "isSound", "(LFactorHouse$Bill;)Z"⟩, 16), (⟨"FactorHouse", "isOld", "(LFactorHouse$Bill;)Z"⟩, 16), (⟨"FactorHouse", "isMostlyOld", "(II)Z"⟩, 16), (⟨"FactorHouse", "takeOut", "(LFactorHouse$Bill;)V"⟩, 16), (⟨"java/lang/Throwable", "fillInStackTrace", "(I)Ljava/lang/Throwable;"⟩, 6), (⟨"FactorHouse", "checkNotFailed", "(I)V"⟩, 16), (⟨"FactorHouse$Bill", "begin", "(IIII)V"⟩, 14)]
theorem lw_r1 : ∀ q ∈ lw_privs_1, lw_okq q := List.forall_mem_cons.mpr ⟨lw_p0, List.forall_mem_cons.mpr ⟨lw_p1, List.forall_mem_cons.mpr ⟨lw_p2, List.forall_mem_cons.mpr ⟨lw_p3, List.forall_mem_cons.mpr ⟨lw_p4, List.forall_mem_cons.mpr ⟨lw_p5, List.forall_mem_cons.mpr ⟨lw_p6, List.forall_mem_cons.mpr ⟨lw_p7, List.forall_mem_cons.mpr ⟨lw_p8, List.forall_mem_cons.mpr ⟨lw_p9, List.forall_mem_cons.mpr ⟨lw_p10, List.forall_mem_cons.mpr ⟨lw_p11, List.forall_mem_cons.mpr ⟨lw_p12, List.forall_mem_cons.mpr ⟨lw_p13, List.forall_mem_cons.mpr ⟨lw_p14, List.forall_mem_cons.mpr ⟨lw_p15, fun _ h => absurd h List.not_mem_nil⟩⟩⟩⟩⟩⟩⟩⟩⟩⟩⟩⟩⟩⟩⟩⟩
theorem lw_p16 : lw_okq (⟨"FactorHouse", "checkBill", "(I)V"⟩, 16) := ⟨⟨by decide +kernel, by decide +kernel⟩, List.mem_of_getElem? (i := 16) (by decide +kernel), List.mem_of_getElem? (i := 447) (by decide +kernel), List.mem_of_getElem? (i := 448) (by decide +kernel)⟩
theorem lw_p17 : lw_okq (⟨"FactorHouse", "checkAssignment", "(II)V"⟩, 16) := ⟨⟨by decide +kernel, by decide +kernel⟩, List.mem_of_getElem? (i := 16) (by decide +kernel), List.mem_of_getElem? (i := 479) (by decide +kernel), List.mem_of_getElem? (i := 480) (by decide +kernel)⟩
theorem lw_p18 : lw_okq (⟨"FactorHouse", "firstTime", "(LFactorHouse$Bill;[II)I"⟩, 16) := ⟨⟨by decide +kernel, by decide +kernel⟩, List.mem_of_getElem? (i := 16) (by decide +kernel), List.mem_of_getElem? (i := 484) (by decide +kernel), List.mem_of_getElem? (i := 485) (by decide +kernel)⟩
theorem lw_p19 : lw_okq (⟨"FactorHouse$Bill", "endAssignment", "(I)V"⟩, 14) := ⟨⟨by decide +kernel, by decide +kernel⟩, List.mem_of_getElem? (i := 65) (by decide +kernel), List.mem_of_getElem? (i := 503) (by decide +kernel), List.mem_of_getElem? (i := 504) (by decide +kernel)⟩
theorem lw_p20 : lw_okq (⟨"FactorHouse$Bill", "freeingParty", "()I"⟩, 14) := ⟨⟨by decide +kernel, by decide +kernel⟩, List.mem_of_getElem? (i := 65) (by decide +kernel), List.mem_of_getElem? (i := 515) (by decide +kernel), List.mem_of_getElem? (i := 516) (by decide +kernel)⟩
theorem lw_p21 : lw_okq (⟨"FactorHouse$Journal", "takenOff", "(I)I"⟩, 3) := ⟨⟨by decide +kernel, by decide +kernel⟩, List.mem_of_getElem? (i := 30) (by decide +kernel), List.mem_of_getElem? (i := 526) (by decide +kernel), List.mem_of_getElem? (i := 527) (by decide +kernel)⟩
theorem lw_p22 : lw_okq (⟨"FactorHouse$Matching", "clear", "()V"⟩, 3) := ⟨⟨by decide +kernel, by decide +kernel⟩, List.mem_of_getElem? (i := 47) (by decide +kernel), List.mem_of_getElem? (i := 541) (by decide +kernel), List.mem_of_getElem? (i := 542) (by decide +kernel)⟩
theorem lw_p23 : lw_okq (⟨"FactorHouse$Matching", "add", "(II)V"⟩, 3) := ⟨⟨by decide +kernel, by decide +kernel⟩, List.mem_of_getElem? (i := 47) (by decide +kernel), List.mem_of_getElem? (i := 545) (by decide +kernel), List.mem_of_getElem? (i := 546) (by decide +kernel)⟩
theorem lw_p24 : lw_okq (⟨"FactorHouse", "checkRoomForStrays", "(I)V"⟩, 16) := ⟨⟨by decide +kernel, by decide +kernel⟩, List.mem_of_getElem? (i := 16) (by decide +kernel), List.mem_of_getElem? (i := 549) (by decide +kernel), List.mem_of_getElem? (i := 550) (by decide +kernel)⟩
theorem lw_p25 : lw_okq (⟨"FactorHouse", "payMatched", "(III)V"⟩, 16) := ⟨⟨by decide +kernel, by decide +kernel⟩, List.mem_of_getElem? (i := 16) (by decide +kernel), List.mem_of_getElem? (i := 554) (by decide +kernel), List.mem_of_getElem? (i := 555) (by decide +kernel)⟩
theorem lw_p26 : lw_okq (⟨"FactorHouse", "addStray", "(III)V"⟩, 16) := ⟨⟨by decide +kernel, by decide +kernel⟩, List.mem_of_getElem? (i := 16) (by decide +kernel), List.mem_of_getElem? (i := 558) (by decide +kernel), List.mem_of_getElem? (i := 559) (by decide +kernel)⟩
theorem lw_p27 : lw_okq (⟨"FactorHouse$Stray", "begin", "(III)V"⟩, 4) := ⟨⟨by decide +kernel, by decide +kernel⟩, List.mem_of_getElem? (i := 129) (by decide +kernel), List.mem_of_getElem? (i := 562) (by decide +kernel), List.mem_of_getElem? (i := 563) (by decide +kernel)⟩
theorem lw_p28 : lw_okq (⟨"FactorHouse", "matchLump", "(II)V"⟩, 16) := ⟨⟨by decide +kernel, by decide +kernel⟩, List.mem_of_getElem? (i := 16) (by decide +kernel), List.mem_of_getElem? (i := 573) (by decide +kernel), List.mem_of_getElem? (i := 574) (by decide +kernel)⟩
theorem lw_p29 : lw_okq (⟨"FactorHouse", "lowestOwing", "(II)I"⟩, 16) := ⟨⟨by decide +kernel, by decide +kernel⟩, List.mem_of_getElem? (i := 16) (by decide +kernel), List.mem_of_getElem? (i := 577) (by decide +kernel), List.mem_of_getElem? (i := 578) (by decide +kernel)⟩
theorem lw_p30 : lw_okq (⟨"FactorHouse", "nextDue", "(II)I"⟩, 16) := ⟨⟨by decide +kernel, by decide +kernel⟩, List.mem_of_getElem? (i := 16) (by decide +kernel), List.mem_of_getElem? (i := 581) (by decide +kernel), List.mem_of_getElem? (i := 582) (by decide +kernel)⟩
theorem lw_p31 : lw_okq (⟨"FactorHouse", "isDueBefore", "(II)Z"⟩, 16) := ⟨⟨by decide +kernel, by decide +kernel⟩, List.mem_of_getElem? (i := 16) (by decide +kernel), List.mem_of_getElem? (i := 585) (by decide +kernel), List.mem_of_getElem? (i := 586) (by decide +kernel)⟩
def lw_privs_2 : List (MethodName × Nat) := [(⟨"FactorHouse", "checkBill", "(I)V"⟩, 16), (⟨"FactorHouse", "checkAssignment", "(II)V"⟩, 16), (⟨"FactorHouse", "firstTime", "(LFactorHouse$Bill;[II)I"⟩, 16), (⟨"FactorHouse$Bill", "endAssignment", "(I)V"⟩, 14), (⟨"FactorHouse$Bill", "freeingParty", "()I"⟩, 14), (⟨"FactorHouse$Journal", "takenOff", "(I)I"⟩, 3), (⟨"FactorHouse$Matching", "clear", "()V"⟩, 3), (⟨"FactorHouse$Matching", "add", "(II)V"⟩, 3), (⟨"FactorHouse", "checkRoomForStrays", "(I)V"⟩, 16), (⟨"FactorHouse", "payMatched", "(III)V"⟩, 16), (⟨"FactorHouse", "addStray", "(III)V"⟩, 16), (⟨"FactorHouse$Stray", "begin", "(III)V"⟩, 4), (⟨"FactorHouse", "matchLump", "(II)V"⟩, 16), (⟨"FactorHouse", "lowestOwing", "(II)I"⟩, 16), (⟨"FactorHouse", "nextDue", "(II)I"⟩, 16), (⟨"FactorHouse", "isDueBefore", "(II)Z"⟩, 16)]
theorem lw_r2 : ∀ q ∈ lw_privs_2, lw_okq q := List.forall_mem_cons.mpr ⟨lw_p16, List.forall_mem_cons.mpr ⟨lw_p17, List.forall_mem_cons.mpr ⟨lw_p18, List.forall_mem_cons.mpr ⟨lw_p19, List.forall_mem_cons.mpr ⟨lw_p20, List.forall_mem_cons.mpr ⟨lw_p21, List.forall_mem_cons.mpr ⟨lw_p22, List.forall_mem_cons.mpr ⟨lw_p23, List.forall_mem_cons.mpr ⟨lw_p24, List.forall_mem_cons.mpr ⟨lw_p25, List.forall_mem_cons.mpr ⟨lw_p26, List.forall_mem_cons.mpr ⟨lw_p27, List.forall_mem_cons.mpr ⟨lw_p28, List.forall_mem_cons.mpr ⟨lw_p29, List.forall_mem_cons.mpr ⟨lw_p30, List.forall_mem_cons.mpr ⟨lw_p31, fun _ h => absurd h List.not_mem_nil⟩⟩⟩⟩⟩⟩⟩⟩⟩⟩⟩⟩⟩⟩⟩⟩
theorem lw_p32 : lw_okq (⟨"FactorHouse", "baseOf", "(II)J"⟩, 16) := ⟨⟨by decide +kernel, by decide +kernel⟩, List.mem_of_getElem? (i := 16) (by decide +kernel), List.mem_of_getElem? (i := 626) (by decide +kernel), List.mem_of_getElem? (i := 627) (by decide +kernel)⟩
theorem lw_p33 : lw_okq (⟨"FactorHouse", "countedOwed", "(III)J"⟩, 16) := ⟨⟨by decide +kernel, by decide +kernel⟩, List.mem_of_getElem? (i := 16) (by decide +kernel), List.mem_of_getElem? (i := 630) (by decide +kernel), List.mem_of_getElem? (i := 631) (by decide +kernel)⟩
theorem lw_p34 : lw_okq (⟨"FactorHouse", "payBackAboveBase", "(II)J"⟩, 16) := ⟨⟨by decide +kernel, by decide +kernel⟩, List.mem_of_getElem? (i := 16) (by decide +kernel), List.mem_of_getElem? (i := 657) (by decide +kernel), List.mem_of_getElem? (i := 658) (by decide +kernel)⟩
theorem lw_p35 : lw_okq (⟨"FactorHouse$Bill", "endSilentAssignments", "()I"⟩, 14) := ⟨⟨by decide +kernel, by decide +kernel⟩, List.mem_of_getElem? (i := 65) (by decide +kernel), List.mem_of_getElem? (i := 671) (by decide +kernel), List.mem_of_getElem? (i := 672) (by decide +kernel)⟩
theorem lw_p36 : lw_okq (⟨"FactorHouse$Funder", "addInterest", "()V"⟩, 5) := ⟨⟨by decide +kernel, by decide +kernel⟩, List.mem_of_getElem? (i := 151) (by decide +kernel), List.mem_of_getElem? (i := 684) (by decide +kernel), List.mem_of_getElem? (i := 685) (by decide +kernel)⟩
theorem lw_p37 : lw_okq (⟨"FactorHouseModel", "isInvoice", "(I)Z"⟩, 34) := ⟨⟨by decide +kernel, by decide +kernel⟩, List.mem_of_getElem? (i := 698) (by decide +kernel), List.mem_of_getElem? (i := 829) (by decide +kernel), List.mem_of_getElem? (i := 830) (by decide +kernel)⟩
theorem lw_p38 : lw_okq (⟨"FactorHouseModel", "ownerOf", "(I)I"⟩, 34) := ⟨⟨by decide +kernel, by decide +kernel⟩, List.mem_of_getElem? (i := 698) (by decide +kernel), List.mem_of_getElem? (i := 847) (by decide +kernel), List.mem_of_getElem? (i := 848) (by decide +kernel)⟩
theorem lw_p39 : lw_okq (⟨"FactorHouseModel", "firstOf", "(I[I)I"⟩, 34) := ⟨⟨by decide +kernel, by decide +kernel⟩, List.mem_of_getElem? (i := 698) (by decide +kernel), List.mem_of_getElem? (i := 851) (by decide +kernel), List.mem_of_getElem? (i := 852) (by decide +kernel)⟩
theorem lw_p40 : lw_okq (⟨"FactorHouseModel", "freeBy", "(I)I"⟩, 34) := ⟨⟨by decide +kernel, by decide +kernel⟩, List.mem_of_getElem? (i := 698) (by decide +kernel), List.mem_of_getElem? (i := 871) (by decide +kernel), List.mem_of_getElem? (i := 872) (by decide +kernel)⟩
theorem lw_p41 : lw_okq (⟨"FactorHouseModel", "countsFor", "(I)I"⟩, 34) := ⟨⟨by decide +kernel, by decide +kernel⟩, List.mem_of_getElem? (i := 698) (by decide +kernel), List.mem_of_getElem? (i := 875) (by decide +kernel), List.mem_of_getElem? (i := 876) (by decide +kernel)⟩
theorem lw_p42 : lw_okq (⟨"FactorHouseModel", "counts", "(II)Z"⟩, 34) := ⟨⟨by decide +kernel, by decide +kernel⟩, List.mem_of_getElem? (i := 698) (by decide +kernel), List.mem_of_getElem? (i := 879) (by decide +kernel), List.mem_of_getElem? (i := 880) (by decide +kernel)⟩
theorem lw_p43 : lw_okq (⟨"FactorHouseModel", "isOld", "(I)Z"⟩, 34) := ⟨⟨by decide +kernel, by decide +kernel⟩, List.mem_of_getElem? (i := 698) (by decide +kernel), List.mem_of_getElem? (i := 883) (by decide +kernel), List.mem_of_getElem? (i := 884) (by decide +kernel)⟩
theorem lw_p44 : lw_okq (⟨"FactorHouseModel", "isWell", "(II)Z"⟩, 34) := ⟨⟨by decide +kernel, by decide +kernel⟩, List.mem_of_getElem? (i := 698) (by decide +kernel), List.mem_of_getElem? (i := 887) (by decide +kernel), List.mem_of_getElem? (i := 888) (by decide +kernel)⟩
theorem lw_p45 : lw_okq (⟨"FactorHouseModel", "comesFrom", "(III)V"⟩, 34) := ⟨⟨by decide +kernel, by decide +kernel⟩, List.mem_of_getElem? (i := 698) (by decide +kernel), List.mem_of_getElem? (i := 903) (by decide +kernel), List.mem_of_getElem? (i := 904) (by decide +kernel)⟩
theorem lw_p46 : lw_okq (⟨"FactorHouseModel", "matches", "(III)V"⟩, 34) := ⟨⟨by decide +kernel, by decide +kernel⟩, List.mem_of_getElem? (i := 698) (by decide +kernel), List.mem_of_getElem? (i := 910) (by decide +kernel), List.mem_of_getElem? (i := 911) (by decide +kernel)⟩
theorem lw_p47 : lw_okq (⟨"FactorHouseModel", "move", "(IIJ)V"⟩, 34) := ⟨⟨by decide +kernel, by decide +kernel⟩, List.mem_of_getElem? (i := 698) (by decide +kernel), List.mem_of_getElem? (i := 914) (by decide +kernel), List.mem_of_getElem? (i := 915) (by decide +kernel)⟩
def lw_privs_3 : List (MethodName × Nat) := [(⟨"FactorHouse", "baseOf", "(II)J"⟩, 16), (⟨"FactorHouse", "countedOwed", "(III)J"⟩, 16), (⟨"FactorHouse", "payBackAboveBase", "(II)J"⟩, 16), (⟨"FactorHouse$Bill", "endSilentAssignments", "()I"⟩, 14), (⟨"FactorHouse$Funder", "addInterest", "()V"⟩, 5), (⟨"FactorHouseModel", "isInvoice", "(I)Z"⟩, 34), (⟨"FactorHouseModel", "ownerOf", "(I)I"⟩, 34), (⟨"FactorHouseModel", "firstOf", "(I[I)I"⟩, 34), (⟨"FactorHouseModel", "freeBy", "(I)I"⟩, 34), (⟨"FactorHouseModel", "countsFor", "(I)I"⟩, 34), (⟨"FactorHouseModel", "counts", "(II)Z"⟩, 34), (⟨"FactorHouseModel", "isOld", "(I)Z"⟩, 34), (⟨"FactorHouseModel", "isWell", "(II)Z"⟩, 34), (⟨"FactorHouseModel", "comesFrom", "(III)V"⟩, 34), (⟨"FactorHouseModel", "matches", "(III)V"⟩, 34), (⟨"FactorHouseModel", "move", "(IIJ)V"⟩, 34)]
theorem lw_r3 : ∀ q ∈ lw_privs_3, lw_okq q := List.forall_mem_cons.mpr ⟨lw_p32, List.forall_mem_cons.mpr ⟨lw_p33, List.forall_mem_cons.mpr ⟨lw_p34, List.forall_mem_cons.mpr ⟨lw_p35, List.forall_mem_cons.mpr ⟨lw_p36, List.forall_mem_cons.mpr ⟨lw_p37, List.forall_mem_cons.mpr ⟨lw_p38, List.forall_mem_cons.mpr ⟨lw_p39, List.forall_mem_cons.mpr ⟨lw_p40, List.forall_mem_cons.mpr ⟨lw_p41, List.forall_mem_cons.mpr ⟨lw_p42, List.forall_mem_cons.mpr ⟨lw_p43, List.forall_mem_cons.mpr ⟨lw_p44, List.forall_mem_cons.mpr ⟨lw_p45, List.forall_mem_cons.mpr ⟨lw_p46, List.forall_mem_cons.mpr ⟨lw_p47, fun _ h => absurd h List.not_mem_nil⟩⟩⟩⟩⟩⟩⟩⟩⟩⟩⟩⟩⟩⟩⟩⟩
theorem lw_p48 : lw_okq (⟨"FactorHouseModel", "comesToOwner", "(II)V"⟩, 34) := ⟨⟨by decide +kernel, by decide +kernel⟩, List.mem_of_getElem? (i := 698) (by decide +kernel), List.mem_of_getElem? (i := 918) (by decide +kernel), List.mem_of_getElem? (i := 919) (by decide +kernel)⟩
theorem lw_p49 : lw_okq (⟨"FactorHouseModel", "findParts", "(II)V"⟩, 34) := ⟨⟨by decide +kernel, by decide +kernel⟩, List.mem_of_getElem? (i := 698) (by decide +kernel), List.mem_of_getElem? (i := 929) (by decide +kernel), List.mem_of_getElem? (i := 930) (by decide +kernel)⟩
theorem lw_p50 : lw_okq (⟨"FactorHouseModel", "take", "(II)V"⟩, 34) := ⟨⟨by decide +kernel, by decide +kernel⟩, List.mem_of_getElem? (i := 698) (by decide +kernel), List.mem_of_getElem? (i := 933) (by decide +kernel), List.mem_of_getElem? (i := 934) (by decide +kernel)⟩
theorem lw_p51 : lw_okq (⟨"FactorHouseModel", "nextOf", "(I)I"⟩, 34) := ⟨⟨by decide +kernel, by decide +kernel⟩, List.mem_of_getElem? (i := 698) (by decide +kernel), List.mem_of_getElem? (i := 937) (by decide +kernel), List.mem_of_getElem? (i := 938) (by decide +kernel)⟩
theorem lw_p52 : lw_okq (⟨"FactorHouseModel", "mends", "(I)Z"⟩, 34) := ⟨⟨by decide +kernel, by decide +kernel⟩, List.mem_of_getElem? (i := 698) (by decide +kernel), List.mem_of_getElem? (i := 945) (by decide +kernel), List.mem_of_getElem? (i := 946) (by decide +kernel)⟩
theorem lw_p53 : lw_okq (⟨"FactorHouseModel", "baseOf", "(II)J"⟩, 34) := ⟨⟨by decide +kernel, by decide +kernel⟩, List.mem_of_getElem? (i := 698) (by decide +kernel), List.mem_of_getElem? (i := 977) (by decide +kernel), List.mem_of_getElem? (i := 978) (by decide +kernel)⟩
theorem lw_p54 : lw_okq (⟨"FactorHouseModel", "counted", "(III)J"⟩, 34) := ⟨⟨by decide +kernel, by decide +kernel⟩, List.mem_of_getElem? (i := 698) (by decide +kernel), List.mem_of_getElem? (i := 981) (by decide +kernel), List.mem_of_getElem? (i := 982) (by decide +kernel)⟩
theorem lw_p55 : lw_okq (⟨"FactorHouseModel", "poolMany", "()I"⟩, 34) := ⟨⟨by decide +kernel, by decide +kernel⟩, List.mem_of_getElem? (i := 698) (by decide +kernel), List.mem_of_getElem? (i := 1011) (by decide +kernel), List.mem_of_getElem? (i := 1012) (by decide +kernel)⟩
def lw_privs_4 : List (MethodName × Nat) := [(⟨"FactorHouseModel", "comesToOwner", "(II)V"⟩, 34), (⟨"FactorHouseModel", "findParts", "(II)V"⟩, 34), (⟨"FactorHouseModel", "take", "(II)V"⟩, 34), (⟨"FactorHouseModel", "nextOf", "(I)I"⟩, 34), (⟨"FactorHouseModel", "mends", "(I)Z"⟩, 34), (⟨"FactorHouseModel", "baseOf", "(II)J"⟩, 34), (⟨"FactorHouseModel", "counted", "(III)J"⟩, 34), (⟨"FactorHouseModel", "poolMany", "()I"⟩, 34)]
theorem lw_r4 : ∀ q ∈ lw_privs_4, lw_okq q := List.forall_mem_cons.mpr ⟨lw_p48, List.forall_mem_cons.mpr ⟨lw_p49, List.forall_mem_cons.mpr ⟨lw_p50, List.forall_mem_cons.mpr ⟨lw_p51, List.forall_mem_cons.mpr ⟨lw_p52, List.forall_mem_cons.mpr ⟨lw_p53, List.forall_mem_cons.mpr ⟨lw_p54, List.forall_mem_cons.mpr ⟨lw_p55, fun _ h => absurd h List.not_mem_nil⟩⟩⟩⟩⟩⟩⟩⟩
def lw_privs : List (MethodName × Nat) := lw_privs_1 ++ (lw_privs_2 ++ (lw_privs_3 ++ (lw_privs_4)))
def lw_tbl : List Cond := k2_sels lw_privs ++ tables_1
theorem lw_privs_ok : ∀ q ∈ lw_privs, lw_okq q := by
  show ∀ q ∈ lw_privs_1 ++ (lw_privs_2 ++ (lw_privs_3 ++ (lw_privs_4))), lw_okq q
  exact List.forall_mem_append.mpr ⟨lw_r1, List.forall_mem_append.mpr ⟨lw_r2, List.forall_mem_append.mpr ⟨lw_r3, lw_r4⟩⟩⟩
def sd_tb : List Cond := lw_tbl.filter goodWord
def sd_part : Nat → List Cond
  | 0 => k2_sels lw_privs
  | 1 => tables_1_1
  | 2 => tables_1_2
  | 3 => tables_1_3
  | 4 => tables_1_4
  | 5 => tables_1_5
  | _ => []
theorem sd_part_in (k : Nat) : ∀ w ∈ sd_part k, w ∈ lw_tbl := by
  have hL : lw_tbl = k2_sels lw_privs ++ (tables_1_1 ++ (tables_1_2 ++ (tables_1_3 ++ (tables_1_4 ++ (tables_1_5))))) := rfl
  intro w hw
  rw [hL]
  match k, hw with
  | 0, hw => exact List.mem_append_left _ hw
  | 1, hw => exact List.mem_append_right _ (List.mem_append_left _ hw)
  | 2, hw => exact List.mem_append_right _ (List.mem_append_right _ (List.mem_append_left _ hw))
  | 3, hw => exact List.mem_append_right _ (List.mem_append_right _ (List.mem_append_right _ (List.mem_append_left _ hw)))
  | 4, hw => exact List.mem_append_right _ (List.mem_append_right _ (List.mem_append_right _ (List.mem_append_right _ (List.mem_append_left _ hw))))
  | 5, hw => exact List.mem_append_right _ (List.mem_append_right _ (List.mem_append_right _ (List.mem_append_right _ (List.mem_append_right _ (hw)))))
  | k + 6, hw => cases hw
def sd_wp (p : Nat) : Option Cond := (sd_part (p / 1000))[p % 1000]?
theorem sd_wp_in {p : Nat} {w : Cond} (h : sd_wp p = some w) : w ∈ lw_tbl := sd_part_in _ w (List.mem_of_getElem? h)
def sd_at (p : Nat) (w : Cond) : Bool := decide (sd_wp p = some w) && goodWord w
theorem sd_at_ok {p : Nat} {w : Cond} (h : sd_at p w = true) : w ∈ sd_tb := by
  unfold sd_at at h
  rw [Bool.and_eq_true] at h
  exact List.mem_filter.mpr ⟨sd_wp_in (of_decide_eq_true h.1), h.2⟩
theorem sd_tabled {β γ : Type} {T : List ((Nat × Nat) × β)} {ps : List γ} {chk : Nat → Nat → β → γ → Bool} (hl : T.length = ps.length) (h : (T.zip ps).all (fun e => chk e.1.1.1 e.1.1.2 e.1.2 e.2) = true) {a b : Nat} {v : β} (hv : ai_look T a b = some v) : ∃ p, chk a b v p = true := by
  induction T generalizing ps with
  | nil => cases hv
  | cons q T ih =>
    obtain ⟨k, x⟩ := q
    cases ps with
    | nil => cases hl
    | cons p ps =>
      rw [List.zip_cons_cons, List.all_cons, Bool.and_eq_true] at h
      unfold ai_look at hv
      split at hv
      · rename_i he
        rw [Bool.and_eq_true, beq_iff_eq, beq_iff_eq] at he
        cases hv
        rw [← he.1, ← he.2]
        exact ⟨p, h.1⟩
      · exact ih (Nat.succ.inj hl) h.2 hv
def sd_R : Nat → String
  | 0 => "FactorHouse"
  | 1 => "FactorHouse$Bill"
  | 2 => "FactorHouse$Funder"
  | 3 => "FactorHouse$Journal"
  | 4 => "FactorHouse$Matching"
  | 5 => "FactorHouse$Stray"
  | 6 => "FactorHouseModel"
  | 7 => "FactorHouseLaw"
  | _ => ""
theorem sd_ws_ok {C : String} {T : u_T} {N : Nat} {ps : List Nat} (h : ((List.range N).zip ps).all (fun e => sd_at e.2 (u_lay C T e.1)) = true) (hl : ps.length = N) : ∀ w ∈ u_ws C T N, w ∈ sd_tb := by
  intro w hw
  obtain ⟨k, hk, rfl⟩ := List.mem_map.mp hw
  have hk' := List.mem_range.mp hk
  have h1 : ((List.range N).zip ps)[k]? = some (k, ps[k]'(by omega)) := by
    rw [List.getElem?_zip_eq_some]
    exact ⟨by simp [hk'], by simp⟩
  exact sd_at_ok (List.all_eq_true.mp h _ (List.mem_of_getElem? h1))
def sd_F0 : u_T := fun k => match k with
  | 0 => ("FactorHouse", "bills", "[LFactorHouse$Bill;", true)
  | 1 => ("FactorHouse", "billCount", "I", false)
  | 2 => ("FactorHouse", "strays", "[LFactorHouse$Stray;", true)
  | 3 => ("FactorHouse", "strayCount", "I", false)
  | 4 => ("FactorHouse", "funders", "[LFactorHouse$Funder;", true)
  | 5 => ("FactorHouse", "journal", "LFactorHouse$Journal;", true)
  | 6 => ("FactorHouse", "matching", "LFactorHouse$Matching;", true)
  | 7 => ("FactorHouse", "partyPurses", "[J", true)
  | 8 => ("FactorHouse", "buyerPurses", "[J", true)
  | 9 => ("FactorHouse", "hasFailed", "[Z", true)
  | 10 => ("FactorHouse", "countedByBuyer", "[J", true)
  | 11 => ("FactorHouse", "today", "I", false)
  | 12 => ("FactorHouse", "lastTurn", "I", false)
  | 13 => ("FactorHouse", "pooledCount", "I", false)
  | 14 => ("FactorHouse", "everPooled", "J", false)
  | _ => ("FactorHouse", "badPooled", "J", false)

def sd_t0 : Nat → FieldType := fun k => match k with
  | 0 => .array (.object "FactorHouse$Bill")
  | 1 => .int
  | 2 => .array (.object "FactorHouse$Stray")
  | 3 => .int
  | 4 => .array (.object "FactorHouse$Funder")
  | 5 => .object "FactorHouse$Journal"
  | 6 => .object "FactorHouse$Matching"
  | 7 => .array (.long)
  | 8 => .array (.long)
  | 9 => .array (.boolean)
  | 10 => .array (.long)
  | 11 => .int
  | 12 => .int
  | 13 => .int
  | 14 => .long
  | _ => .long

theorem sd_nf0 : ∀ a, a < 16 → ∀ b, b < 16 → a ≠ b → (sd_F0 a).2.1 ≠ (sd_F0 b).2.1 := by decide +kernel
theorem sd_to0 : ∀ k, k < 16 → parseFieldDescriptor (sd_F0 k).2.2.1 = some (sd_t0 k) := by decide +kernel
theorem sd_w0 : ∀ w ∈ u_ws (sd_R 0) sd_F0 16, w ∈ sd_tb := sd_ws_ok (by decide +kernel : ((List.range 16).zip [1193, 1195, 1197, 1199, 1201, 1203, 1205, 1207, 1209, 1211, 1213, 1215, 1217, 1219, 1221, 1223]).all (fun e => sd_at e.2 (u_lay (sd_R 0) sd_F0 e.1)) = true) rfl
def sd_F1 : u_T := fun k => match k with
  | 0 => ("FactorHouse$Bill", "seller", "I", false)
  | 1 => ("FactorHouse$Bill", "buyer", "I", false)
  | 2 => ("FactorHouse$Bill", "amount", "I", false)
  | 3 => ("FactorHouse$Bill", "owed", "I", false)
  | 4 => ("FactorHouse$Bill", "dueDay", "I", false)
  | 5 => ("FactorHouse$Bill", "isDisputed", "Z", false)
  | 6 => ("FactorHouse$Bill", "wasAssigned", "[Z", true)
  | 7 => ("FactorHouse$Bill", "assignedTurns", "[I", true)
  | 8 => ("FactorHouse$Bill", "noticeTurns", "[I", true)
  | 9 => ("FactorHouse$Bill", "registerTurns", "[I", true)
  | 10 => ("FactorHouse$Bill", "wasPooled", "Z", false)
  | 11 => ("FactorHouse$Bill", "isPooled", "Z", false)
  | 12 => ("FactorHouse$Bill", "pooledSlot", "I", false)
  | _ => ("FactorHouse$Bill", "pooledCents", "I", false)

def sd_t1 : Nat → FieldType := fun k => match k with
  | 0 => .int
  | 1 => .int
  | 2 => .int
  | 3 => .int
  | 4 => .int
  | 5 => .boolean
  | 6 => .array (.boolean)
  | 7 => .array (.int)
  | 8 => .array (.int)
  | 9 => .array (.int)
  | 10 => .boolean
  | 11 => .boolean
  | 12 => .int
  | _ => .int

theorem sd_nf1 : ∀ a, a < 14 → ∀ b, b < 14 → a ≠ b → (sd_F1 a).2.1 ≠ (sd_F1 b).2.1 := by decide +kernel
theorem sd_to1 : ∀ k, k < 14 → parseFieldDescriptor (sd_F1 k).2.2.1 = some (sd_t1 k) := by decide +kernel
theorem sd_w1 : ∀ w ∈ u_ws (sd_R 1) sd_F1 14, w ∈ sd_tb := sd_ws_ok (by decide +kernel : ((List.range 14).zip [1098, 1100, 1102, 1104, 1106, 1108, 1110, 1112, 1114, 1116, 1118, 1120, 1122, 1124]).all (fun e => sd_at e.2 (u_lay (sd_R 1) sd_F1 e.1)) = true) rfl
def sd_F2 : u_T := fun k => match k with
  | 0 => ("FactorHouse$Funder", "rate", "I", false)
  | 1 => ("FactorHouse$Funder", "share", "I", false)
  | 2 => ("FactorHouse$Funder", "interest", "I", false)
  | 3 => ("FactorHouse$Funder", "limits", "[I", true)
  | _ => ("FactorHouse$Funder", "drawnBy", "[J", true)

def sd_t2 : Nat → FieldType := fun k => match k with
  | 0 => .int
  | 1 => .int
  | 2 => .int
  | 3 => .array (.int)
  | _ => .array (.long)

theorem sd_nf2 : ∀ a, a < 5 → ∀ b, b < 5 → a ≠ b → (sd_F2 a).2.1 ≠ (sd_F2 b).2.1 := by decide +kernel
theorem sd_to2 : ∀ k, k < 5 → parseFieldDescriptor (sd_F2 k).2.2.1 = some (sd_t2 k) := by decide +kernel
theorem sd_w2 : ∀ w ∈ u_ws (sd_R 2) sd_F2 5, w ∈ sd_tb := sd_ws_ok (by decide +kernel : ((List.range 5).zip [1166, 1168, 1170, 1172, 1174]).all (fun e => sd_at e.2 (u_lay (sd_R 2) sd_F2 e.1)) = true) rfl
def sd_F3 : u_T := fun k => match k with
  | 0 => ("FactorHouse$Journal", "numbers", "[I", true)
  | 1 => ("FactorHouse$Journal", "cents", "[I", true)
  | _ => ("FactorHouse$Journal", "count", "I", false)

def sd_t3 : Nat → FieldType := fun k => match k with
  | 0 => .array (.int)
  | 1 => .array (.int)
  | _ => .int

theorem sd_nf3 : ∀ a, a < 3 → ∀ b, b < 3 → a ≠ b → (sd_F3 a).2.1 ≠ (sd_F3 b).2.1 := by decide +kernel
theorem sd_to3 : ∀ k, k < 3 → parseFieldDescriptor (sd_F3 k).2.2.1 = some (sd_t3 k) := by decide +kernel
theorem sd_w3 : ∀ w ∈ u_ws (sd_R 3) sd_F3 3, w ∈ sd_tb := sd_ws_ok (by decide +kernel : ((List.range 3).zip [1038, 1040, 1042]).all (fun e => sd_at e.2 (u_lay (sd_R 3) sd_F3 e.1)) = true) rfl
def sd_F4 : u_T := fun k => match k with
  | 0 => ("FactorHouse$Matching", "numbers", "[I", true)
  | 1 => ("FactorHouse$Matching", "cents", "[I", true)
  | _ => ("FactorHouse$Matching", "count", "I", false)

def sd_t4 : Nat → FieldType := fun k => match k with
  | 0 => .array (.int)
  | 1 => .array (.int)
  | _ => .int

theorem sd_nf4 : ∀ a, a < 3 → ∀ b, b < 3 → a ≠ b → (sd_F4 a).2.1 ≠ (sd_F4 b).2.1 := by decide +kernel
theorem sd_to4 : ∀ k, k < 3 → parseFieldDescriptor (sd_F4 k).2.2.1 = some (sd_t4 k) := by decide +kernel
theorem sd_w4 : ∀ w ∈ u_ws (sd_R 4) sd_F4 3, w ∈ sd_tb := sd_ws_ok (by decide +kernel : ((List.range 3).zip [1058, 1060, 1062]).all (fun e => sd_at e.2 (u_lay (sd_R 4) sd_F4 e.1)) = true) rfl
def sd_F5 : u_T := fun k => match k with
  | 0 => ("FactorHouse$Stray", "number", "I", false)
  | 1 => ("FactorHouse$Stray", "party", "I", false)
  | 2 => ("FactorHouse$Stray", "cents", "I", false)
  | _ => ("FactorHouse$Stray", "isMended", "Z", false)

def sd_t5 : Nat → FieldType := fun k => match k with
  | 0 => .int
  | 1 => .int
  | 2 => .int
  | _ => .boolean

theorem sd_nf5 : ∀ a, a < 4 → ∀ b, b < 4 → a ≠ b → (sd_F5 a).2.1 ≠ (sd_F5 b).2.1 := by decide +kernel
theorem sd_to5 : ∀ k, k < 4 → parseFieldDescriptor (sd_F5 k).2.2.1 = some (sd_t5 k) := by decide +kernel
theorem sd_w5 : ∀ w ∈ u_ws (sd_R 5) sd_F5 4, w ∈ sd_tb := sd_ws_ok (by decide +kernel : ((List.range 4).zip [1142, 1144, 1146, 1148]).all (fun e => sd_at e.2 (u_lay (sd_R 5) sd_F5 e.1)) = true) rfl
def sd_F6 : u_T := fun k => match k with
  | 0 => ("FactorHouseModel", "today", "I", false)
  | 1 => ("FactorHouseModel", "invoiceMany", "I", false)
  | 2 => ("FactorHouseModel", "sellers", "[I", true)
  | 3 => ("FactorHouseModel", "buyers", "[I", true)
  | 4 => ("FactorHouseModel", "owed", "[I", true)
  | 5 => ("FactorHouseModel", "dues", "[I", true)
  | 6 => ("FactorHouseModel", "isDisputed", "[Z", true)
  | 7 => ("FactorHouseModel", "states", "[I", true)
  | 8 => ("FactorHouseModel", "assigned", "[I", true)
  | 9 => ("FactorHouseModel", "noticed", "[I", true)
  | 10 => ("FactorHouseModel", "registered", "[I", true)
  | 11 => ("FactorHouseModel", "calls", "I", false)
  | 12 => ("FactorHouseModel", "purses", "[J", true)
  | 13 => ("FactorHouseModel", "buyerPurses", "[J", true)
  | 14 => ("FactorHouseModel", "wrongMany", "I", false)
  | 15 => ("FactorHouseModel", "wrongInvoices", "[I", true)
  | 16 => ("FactorHouseModel", "wrongParties", "[I", true)
  | 17 => ("FactorHouseModel", "wrongAmounts", "[I", true)
  | 18 => ("FactorHouseModel", "isMended", "[Z", true)
  | 19 => ("FactorHouseModel", "rates", "[I", true)
  | 20 => ("FactorHouseModel", "shares", "[I", true)
  | 21 => ("FactorHouseModel", "interests", "[I", true)
  | 22 => ("FactorHouseModel", "limits", "[I", true)
  | 23 => ("FactorHouseModel", "drawnBy", "[J", true)
  | 24 => ("FactorHouseModel", "hasFailed", "[Z", true)
  | 25 => ("FactorHouseModel", "putBy", "[I", true)
  | 26 => ("FactorHouseModel", "putAs", "[I", true)
  | 27 => ("FactorHouseModel", "isIn", "[Z", true)
  | 28 => ("FactorHouseModel", "everPut", "J", false)
  | 29 => ("FactorHouseModel", "bad", "J", false)
  | 30 => ("FactorHouseModel", "thrown", "I", false)
  | 31 => ("FactorHouseModel", "parts", "[I", true)
  | 32 => ("FactorHouseModel", "order", "[I", true)
  | _ => ("FactorHouseModel", "partMany", "I", false)

def sd_t6 : Nat → FieldType := fun k => match k with
  | 0 => .int
  | 1 => .int
  | 2 => .array (.int)
  | 3 => .array (.int)
  | 4 => .array (.int)
  | 5 => .array (.int)
  | 6 => .array (.boolean)
  | 7 => .array (.int)
  | 8 => .array (.int)
  | 9 => .array (.int)
  | 10 => .array (.int)
  | 11 => .int
  | 12 => .array (.long)
  | 13 => .array (.long)
  | 14 => .int
  | 15 => .array (.int)
  | 16 => .array (.int)
  | 17 => .array (.int)
  | 18 => .array (.boolean)
  | 19 => .array (.int)
  | 20 => .array (.int)
  | 21 => .array (.int)
  | 22 => .array (.int)
  | 23 => .array (.long)
  | 24 => .array (.boolean)
  | 25 => .array (.int)
  | 26 => .array (.int)
  | 27 => .array (.boolean)
  | 28 => .long
  | 29 => .long
  | 30 => .int
  | 31 => .array (.int)
  | 32 => .array (.int)
  | _ => .int

theorem sd_nf6 : ∀ a, a < 34 → ∀ b, b < 34 → a ≠ b → (sd_F6 a).2.1 ≠ (sd_F6 b).2.1 := by decide +kernel
theorem sd_to6 : ∀ k, k < 34 → parseFieldDescriptor (sd_F6 k).2.2.1 = some (sd_t6 k) := by decide +kernel
theorem sd_w6 : ∀ w ∈ u_ws (sd_R 6) sd_F6 34, w ∈ sd_tb := sd_ws_ok (by decide +kernel : ((List.range 34).zip [4017, 4019, 4021, 4023, 4025, 4027, 4029, 4031, 4033, 4035, 4037, 4039, 4041, 4043, 4045, 4047, 4049, 4051, 4053, 4055, 4057, 4059, 4061, 4063, 4065, 4067, 4069, 4071, 4073, 4075, 4077, 4079, 4081, 4083]).all (fun e => sd_at e.2 (u_lay (sd_R 6) sd_F6 e.1)) = true) rfl
def sd_F : Nat → u_T
  | 0 => sd_F0
  | 1 => sd_F1
  | 2 => sd_F2
  | 3 => sd_F3
  | 4 => sd_F4
  | 5 => sd_F5
  | 6 => sd_F6
  | _ => sd_F0
def sd_n : Nat → Nat
  | 0 => 16
  | 1 => 14
  | 2 => 5
  | 3 => 3
  | 4 => 3
  | 5 => 4
  | 6 => 34
  | _ => 0
def sd_t : Nat → Nat → FieldType
  | 0 => sd_t0
  | 1 => sd_t1
  | 2 => sd_t2
  | 3 => sd_t3
  | 4 => sd_t4
  | 5 => sd_t5
  | 6 => sd_t6
  | _ => sd_t0
/-- of which sort a field is: 0 int, 1 long, 2 a reference, 3 boolean -/
def sd_ft : Nat → List Nat
  | 0 => [2, 0, 2, 0, 2, 2, 2, 2, 2, 2, 2, 0, 0, 0, 1, 1]
  | 1 => [0, 0, 0, 0, 0, 3, 2, 2, 2, 2, 3, 3, 0, 0]
  | 2 => [0, 0, 0, 2, 2]
  | 3 => [2, 2, 0]
  | 4 => [2, 2, 0]
  | 5 => [0, 0, 0, 3]
  | 6 => [0, 0, 2, 2, 2, 2, 2, 2, 2, 2, 2, 0, 2, 2, 0, 2, 2, 2, 2, 2, 2, 2, 2, 2, 2, 2, 2, 2, 1, 1, 0, 2, 2, 0]
  | _ => []
def sd_cl : List vw_C := [(sd_R 0, sd_F0, 16), (sd_R 1, sd_F1, 14), (sd_R 2, sd_F2, 5), (sd_R 3, sd_F3, 3), (sd_R 4, sd_F4, 3), (sd_R 5, sd_F5, 4), (sd_R 6, sd_F6, 34)]
theorem sd_nfs {c : Nat} (hc : c < 7) : ∀ a, a < sd_n c → ∀ b, b < sd_n c → a ≠ b → (sd_F c a).2.1 ≠ (sd_F c b).2.1 := by
  match c, hc with
  | 0, _ => exact sd_nf0
  | 1, _ => exact sd_nf1
  | 2, _ => exact sd_nf2
  | 3, _ => exact sd_nf3
  | 4, _ => exact sd_nf4
  | 5, _ => exact sd_nf5
  | 6, _ => exact sd_nf6
theorem sd_tos {c : Nat} (hc : c < 7) : ∀ k, k < sd_n c → parseFieldDescriptor (sd_F c k).2.2.1 = some (sd_t c k) := by
  match c, hc with
  | 0, _ => exact sd_to0
  | 1, _ => exact sd_to1
  | 2, _ => exact sd_to2
  | 3, _ => exact sd_to3
  | 4, _ => exact sd_to4
  | 5, _ => exact sd_to5
  | 6, _ => exact sd_to6
theorem sd_wss {c : Nat} (hc : c < 7) : ∀ w ∈ u_ws (sd_R c) (sd_F c) (sd_n c), w ∈ sd_tb := by
  match c, hc with
  | 0, _ => exact sd_w0
  | 1, _ => exact sd_w1
  | 2, _ => exact sd_w2
  | 3, _ => exact sd_w3
  | 4, _ => exact sd_w4
  | 5, _ => exact sd_w5
  | 6, _ => exact sd_w6
theorem sd_cls {c : Nat} (hc : c < 7) : sd_cl[c]? = some (sd_R c, sd_F c, sd_n c) := by
  match c, hc with
  | 0, _ => rfl
  | 1, _ => rfl
  | 2, _ => rfl
  | 3, _ => rfl
  | 4, _ => rfl
  | 5, _ => rfl
  | 6, _ => rfl
def sd_nm0 : List (Nat × MethodName) := [(0, ⟨"FactorHouse", "<init>", "()V"⟩), (1, ⟨"FactorHouse", "invoice", "(IIII)I"⟩), (2, ⟨"FactorHouse", "credit", "(II)I"⟩), (3, ⟨"FactorHouse", "dispute", "(IZ)Z"⟩), (4, ⟨"FactorHouse", "assign", "(IIZ)I"⟩), (5, ⟨"FactorHouse", "notice", "(II)I"⟩), (6, ⟨"FactorHouse", "register", "(II)I"⟩), (7, ⟨"FactorHouse", "giveBack", "(II)I"⟩), (8, ⟨"FactorHouse", "invoiceIs", "(II)I"⟩), (9, ⟨"FactorHouse", "owedAnew", "(I)I"⟩), (10, ⟨"FactorHouse", "pay", "(III)I"⟩), (11, ⟨"FactorHouse", "lump", "(III)I"⟩), (12, ⟨"FactorHouse", "mend", "()I"⟩), (13, ⟨"FactorHouse", "purse", "(I)J"⟩), (14, ⟨"FactorHouse", "buyer", "(I)J"⟩), (15, ⟨"FactorHouse", "balances", "()Z"⟩), (16, ⟨"FactorHouse", "factor", "(IIII)V"⟩), (17, ⟨"FactorHouse", "limit", "(III)V"⟩), (18, ⟨"FactorHouse", "base", "(II)J"⟩), (19, ⟨"FactorHouse", "drawn", "(II)J"⟩), (20, ⟨"FactorHouse", "draw", "(III)J"⟩), (21, ⟨"FactorHouse", "recourse", "(I)J"⟩), (22, ⟨"FactorHouse", "fail", "(I)I"⟩), (23, ⟨"FactorHouse", "pass", "(I)I"⟩), (24, ⟨"FactorHouse", "pool", "(I)I"⟩), (25, ⟨"FactorHouse", "look", "()I"⟩), (26, ⟨"FactorHouse", "financed", "()J"⟩), (27, ⟨"FactorHouse", "checkSeller", "(I)V"⟩), (28, ⟨"FactorHouse", "checkFactor", "(I)V"⟩), (29, ⟨"FactorHouse", "checkParty", "(I)V"⟩), (30, ⟨"FactorHouse", "checkBuyer", "(I)V"⟩), (31, ⟨"FactorHouse", "checkBill", "(I)V"⟩), (32, ⟨"FactorHouse", "checkRange", "(IIJ)V"⟩), (33, ⟨"FactorHouse", "checkNotFailed", "(I)V"⟩), (34, ⟨"FactorHouse", "checkAssignment", "(II)V"⟩), (35, ⟨"FactorHouse", "checkRoomForStrays", "(I)V"⟩), (36, ⟨"FactorHouse", "firstTime", "(LFactorHouse$Bill;[II)I"⟩), (37, ⟨"FactorHouse", "matchLump", "(II)V"⟩), (38, ⟨"FactorHouse", "lowestOwing", "(II)I"⟩), (39, ⟨"FactorHouse", "nextDue", "(II)I"⟩), (40, ⟨"FactorHouse", "isDueBefore", "(II)Z"⟩), (41, ⟨"FactorHouse", "payMatched", "(III)V"⟩), (42, ⟨"FactorHouse", "addStray", "(III)V"⟩), (43, ⟨"FactorHouse", "mendStray", "(LFactorHouse$Stray;)V"⟩), (44, ⟨"FactorHouse", "settle", "(III)V"⟩), (45, ⟨"FactorHouse", "takeOff", "(II)V"⟩), (46, ⟨"FactorHouse", "move", "(IIJ)V"⟩), (47, ⟨"FactorHouse", "isOld", "(LFactorHouse$Bill;)Z"⟩), (48, ⟨"FactorHouse", "countingSlot", "(LFactorHouse$Bill;)I"⟩), (49, ⟨"FactorHouse", "isSound", "(LFactorHouse$Bill;)Z"⟩), (50, ⟨"FactorHouse", "isMostlyOld", "(II)Z"⟩), (51, ⟨"FactorHouse", "countedOwed", "(III)J"⟩), (52, ⟨"FactorHouse", "baseOf", "(II)J"⟩), (53, ⟨"FactorHouse", "payBackAboveBase", "(II)J"⟩), (54, ⟨"FactorHouse", "takeOut", "(LFactorHouse$Bill;)V"⟩)]
def sd_nm1 : List (Nat × MethodName) := [(100, ⟨"FactorHouse$Bill", "<init>", "()V"⟩), (101, ⟨"FactorHouse$Bill", "begin", "(IIII)V"⟩), (102, ⟨"FactorHouse$Bill", "owner", "()I"⟩), (103, ⟨"FactorHouse$Bill", "ownerSlot", "()I"⟩), (104, ⟨"FactorHouse$Bill", "freeingParty", "()I"⟩), (105, ⟨"FactorHouse$Bill", "partyIn", "(I)I"⟩), (106, ⟨"FactorHouse$Bill", "firstSlot", "([I)I"⟩), (107, ⟨"FactorHouse$Bill", "endAssignment", "(I)V"⟩), (108, ⟨"FactorHouse$Bill", "endSilentAssignments", "()I"⟩)]
def sd_nm2 : List (Nat × MethodName) := [(200, ⟨"FactorHouse$Funder", "<init>", "()V"⟩), (201, ⟨"FactorHouse$Funder", "addInterest", "()V"⟩)]
def sd_nm3 : List (Nat × MethodName) := [(300, ⟨"FactorHouse$Journal", "<init>", "()V"⟩), (301, ⟨"FactorHouse$Journal", "add", "(II)V"⟩), (302, ⟨"FactorHouse$Journal", "takenOff", "(I)I"⟩)]
def sd_nm4 : List (Nat × MethodName) := [(400, ⟨"FactorHouse$Matching", "<init>", "()V"⟩), (401, ⟨"FactorHouse$Matching", "clear", "()V"⟩), (402, ⟨"FactorHouse$Matching", "add", "(II)V"⟩)]
def sd_nm5 : List (Nat × MethodName) := [(500, ⟨"FactorHouse$Stray", "<init>", "()V"⟩), (501, ⟨"FactorHouse$Stray", "begin", "(III)V"⟩)]
def sd_nm6 : List (Nat × MethodName) := [(600, ⟨"FactorHouseModel", "<init>", "()V"⟩), (601, ⟨"FactorHouseModel", "thrown", "()I"⟩), (602, ⟨"FactorHouseModel", "in", "(III)Z"⟩), (603, ⟨"FactorHouseModel", "isSeller", "(I)Z"⟩), (604, ⟨"FactorHouseModel", "isFactor", "(I)Z"⟩), (605, ⟨"FactorHouseModel", "isParty", "(I)Z"⟩), (606, ⟨"FactorHouseModel", "isBuyer", "(I)Z"⟩), (607, ⟨"FactorHouseModel", "isInvoice", "(I)Z"⟩), (608, ⟨"FactorHouseModel", "invoice", "(IIII)I"⟩), (609, ⟨"FactorHouseModel", "credit", "(II)I"⟩), (610, ⟨"FactorHouseModel", "dispute", "(IZ)Z"⟩), (611, ⟨"FactorHouseModel", "firstOf", "(I[I)I"⟩), (612, ⟨"FactorHouseModel", "freeBy", "(I)I"⟩), (613, ⟨"FactorHouseModel", "ownerOf", "(I)I"⟩), (614, ⟨"FactorHouseModel", "placeOf", "(II)I"⟩), (615, ⟨"FactorHouseModel", "assign", "(IIZ)I"⟩), (616, ⟨"FactorHouseModel", "notice", "(II)I"⟩), (617, ⟨"FactorHouseModel", "register", "(II)I"⟩), (618, ⟨"FactorHouseModel", "giveBack", "(II)I"⟩), (619, ⟨"FactorHouseModel", "isOld", "(I)Z"⟩), (620, ⟨"FactorHouseModel", "isWell", "(II)Z"⟩), (621, ⟨"FactorHouseModel", "counts", "(II)Z"⟩), (622, ⟨"FactorHouseModel", "countsFor", "(I)I"⟩), (623, ⟨"FactorHouseModel", "invoiceIs", "(II)I"⟩), (624, ⟨"FactorHouseModel", "owedAnew", "(I)I"⟩), (625, ⟨"FactorHouseModel", "move", "(IIJ)V"⟩), (626, ⟨"FactorHouseModel", "drawnAt", "(II)I"⟩), (627, ⟨"FactorHouseModel", "comesToOwner", "(II)V"⟩), (628, ⟨"FactorHouseModel", "matches", "(III)V"⟩), (629, ⟨"FactorHouseModel", "least", "(II)I"⟩), (630, ⟨"FactorHouseModel", "comesFrom", "(III)V"⟩), (631, ⟨"FactorHouseModel", "pay", "(III)I"⟩), (632, ⟨"FactorHouseModel", "nextOf", "(I)I"⟩), (633, ⟨"FactorHouseModel", "take", "(II)V"⟩), (634, ⟨"FactorHouseModel", "findParts", "(II)V"⟩), (635, ⟨"FactorHouseModel", "lump", "(III)I"⟩), (636, ⟨"FactorHouseModel", "mends", "(I)Z"⟩), (637, ⟨"FactorHouseModel", "mend", "()I"⟩), (638, ⟨"FactorHouseModel", "purse", "(I)J"⟩), (639, ⟨"FactorHouseModel", "buyer", "(I)J"⟩), (640, ⟨"FactorHouseModel", "balances", "()Z"⟩), (641, ⟨"FactorHouseModel", "factor", "(IIII)V"⟩), (642, ⟨"FactorHouseModel", "limit", "(III)V"⟩), (643, ⟨"FactorHouseModel", "counted", "(III)J"⟩), (644, ⟨"FactorHouseModel", "baseOf", "(II)J"⟩), (645, ⟨"FactorHouseModel", "arePair", "(II)Z"⟩), (646, ⟨"FactorHouseModel", "base", "(II)J"⟩), (647, ⟨"FactorHouseModel", "drawn", "(II)J"⟩), (648, ⟨"FactorHouseModel", "draw", "(III)J"⟩), (649, ⟨"FactorHouseModel", "recourse", "(I)J"⟩), (650, ⟨"FactorHouseModel", "fail", "(I)I"⟩), (651, ⟨"FactorHouseModel", "pass", "(I)I"⟩), (652, ⟨"FactorHouseModel", "poolMany", "()I"⟩), (653, ⟨"FactorHouseModel", "pool", "(I)I"⟩), (654, ⟨"FactorHouseModel", "look", "()I"⟩), (655, ⟨"FactorHouseModel", "financed", "()J"⟩)]
def sd_nm7 : List (Nat × MethodName) := [(700, ⟨"FactorHouseLaw", "invoice", "(LFactorHouse;IIII[J)I"⟩), (701, ⟨"FactorHouseLaw", "credit", "(LFactorHouse;II[J)I"⟩), (702, ⟨"FactorHouseLaw", "dispute", "(LFactorHouse;IZ[J)I"⟩), (703, ⟨"FactorHouseLaw", "assign", "(LFactorHouse;IIZ[J)I"⟩), (704, ⟨"FactorHouseLaw", "notice", "(LFactorHouse;II[J)I"⟩), (705, ⟨"FactorHouseLaw", "register", "(LFactorHouse;II[J)I"⟩), (706, ⟨"FactorHouseLaw", "giveBack", "(LFactorHouse;II[J)I"⟩), (707, ⟨"FactorHouseLaw", "invoiceIs", "(LFactorHouse;II[J)I"⟩), (708, ⟨"FactorHouseLaw", "owedAnew", "(LFactorHouse;I[J)I"⟩), (709, ⟨"FactorHouseLaw", "pay", "(LFactorHouse;III[J)I"⟩), (710, ⟨"FactorHouseLaw", "lump", "(LFactorHouse;III[J)I"⟩), (711, ⟨"FactorHouseLaw", "purse", "(LFactorHouse;I[J)I"⟩), (712, ⟨"FactorHouseLaw", "buyer", "(LFactorHouse;I[J)I"⟩), (713, ⟨"FactorHouseLaw", "factor", "(LFactorHouse;IIII)I"⟩), (714, ⟨"FactorHouseLaw", "limit", "(LFactorHouse;III)I"⟩), (715, ⟨"FactorHouseLaw", "base", "(LFactorHouse;II[J)I"⟩), (716, ⟨"FactorHouseLaw", "drawn", "(LFactorHouse;II[J)I"⟩), (717, ⟨"FactorHouseLaw", "draw", "(LFactorHouse;III[J)I"⟩), (718, ⟨"FactorHouseLaw", "recourse", "(LFactorHouse;I[J)I"⟩), (719, ⟨"FactorHouseLaw", "fail", "(LFactorHouse;I[J)I"⟩), (720, ⟨"FactorHouseLaw", "pass", "(LFactorHouse;I[J)I"⟩), (721, ⟨"FactorHouseLaw", "pool", "(LFactorHouse;I[J)I"⟩), (722, ⟨"FactorHouseLaw", "law", "([I)Z"⟩)]
def sd_nms (w : Nat) : List (Nat × MethodName) := match w with
  | 0 => sd_nm0
  | 1 => sd_nm1
  | 2 => sd_nm2
  | 3 => sd_nm3
  | 4 => sd_nm4
  | 5 => sd_nm5
  | 6 => sd_nm6
  | 7 => sd_nm7
  | _ => []
def sd_nm (m : Nat) : MethodName := ai_find ⟨"", "", ""⟩ (sd_nms (m / 100)) m
def sd_hw : List (Nat × List (Nat × Nat × Nat × Nat)) := [(700, [(0, 14, 17, 13), (0, 14, 21, 15), (0, 14, 25, 17)]), (701, [(0, 10, 13, 13), (0, 10, 17, 15)]), (702, [(0, 17, 20, 13)]), (703, [(0, 12, 15, 13), (0, 12, 19, 17)]), (704, [(0, 10, 13, 13), (0, 10, 17, 17)]), (705, [(0, 10, 13, 13), (0, 10, 17, 17)]), (706, [(0, 10, 13, 13), (0, 10, 17, 17)]), (707, [(0, 10, 13, 13), (0, 10, 17, 15)]), (708, [(0, 9, 12, 13)]), (709, [(0, 12, 15, 13), (0, 12, 19, 15), (0, 12, 23, 17)]), (710, [(0, 12, 15, 13), (0, 12, 19, 15), (0, 12, 23, 17)]), (711, [(0, 8, 11, 13)]), (712, [(0, 8, 11, 13)]), (713, [(0, 9, 12, 13), (0, 9, 16, 15)]), (714, [(0, 7, 10, 13), (0, 7, 14, 15)]), (715, [(0, 9, 12, 13)]), (716, [(0, 9, 12, 13)]), (717, [(0, 11, 14, 13), (0, 11, 18, 15), (0, 11, 22, 17)]), (718, [(0, 8, 11, 13), (0, 8, 14, 17)]), (719, [(0, 9, 12, 13), (0, 9, 15, 17)]), (720, [(0, 9, 12, 15), (0, 9, 15, 17)]), (721, [(0, 9, 12, 13), (0, 9, 15, 17)])]
def sd_rt : Nat → Option FieldType
  | 0 => none
  | 1 => some .int
  | 2 => some .boolean
  | _ => some .long
/-- a method's own word -/
def sd_cw (y : Nat) : Cond := match ai_find [] sd_hw y with
  | [] => .code (sd_nm y) (ai_by y) (ai_mx y) (sd_rt (ai_rk y))
  | l => .codeWith (sd_nm y) (ai_by y) (ai_mx y) (sd_rt (ai_rk y)) l
def sd_lf : List (String × Nat × String × String × String × String) := [("FactorHouse", 316, "FactorHouse$Matching", "numbers", "[I", "FactorHouse"), ("FactorHouse", 333, "FactorHouse$Matching", "cents", "[I", "FactorHouse"), ("FactorHouse", 208, "FactorHouse$Matching", "count", "I", "FactorHouse"), ("FactorHouse", 134, "FactorHouse$Bill", "seller", "I", "FactorHouse"), ("FactorHouse", 198, "FactorHouse$Bill", "buyer", "I", "FactorHouse"), ("FactorHouse", 173, "FactorHouse$Bill", "amount", "I", "FactorHouse"), ("FactorHouse", 113, "FactorHouse$Bill", "owed", "I", "FactorHouse"), ("FactorHouse", 166, "FactorHouse$Bill", "dueDay", "I", "FactorHouse"), ("FactorHouse", 120, "FactorHouse$Bill", "isDisputed", "Z", "FactorHouse"), ("FactorHouse", 127, "FactorHouse$Bill", "wasAssigned", "[Z", "FactorHouse"), ("FactorHouse", 137, "FactorHouse$Bill", "assignedTurns", "[I", "FactorHouse"), ("FactorHouse", 141, "FactorHouse$Bill", "noticeTurns", "[I", "FactorHouse"), ("FactorHouse", 155, "FactorHouse$Bill", "registerTurns", "[I", "FactorHouse"), ("FactorHouse", 272, "FactorHouse$Bill", "wasPooled", "Z", "FactorHouse"), ("FactorHouse", 277, "FactorHouse$Bill", "isPooled", "Z", "FactorHouse"), ("FactorHouse", 280, "FactorHouse$Bill", "pooledSlot", "I", "FactorHouse"), ("FactorHouse", 283, "FactorHouse$Bill", "pooledCents", "I", "FactorHouse"), ("FactorHouse", 343, "FactorHouse$Stray", "number", "I", "FactorHouse"), ("FactorHouse", 214, "FactorHouse$Stray", "party", "I", "FactorHouse"), ("FactorHouse", 217, "FactorHouse$Stray", "cents", "I", "FactorHouse"), ("FactorHouse", 211, "FactorHouse$Stray", "isMended", "Z", "FactorHouse"), ("FactorHouse", 228, "FactorHouse$Funder", "rate", "I", "FactorHouse"), ("FactorHouse", 231, "FactorHouse$Funder", "share", "I", "FactorHouse"), ("FactorHouse", 234, "FactorHouse$Funder", "interest", "I", "FactorHouse"), ("FactorHouse", 239, "FactorHouse$Funder", "limits", "[I", "FactorHouse"), ("FactorHouse", 246, "FactorHouse$Funder", "drawnBy", "[J", "FactorHouse")]
def sd_lfp : List Nat := [1053, 1055, 1057, 1071, 1073, 1075, 1077, 1079, 1081, 1083, 1085, 1087, 1089, 1091, 1093, 1095, 1097, 1135, 1137, 1139, 1141, 1157, 1159, 1161, 1163, 1165]
def sd_lm : List (String × Nat × MethodName × String) := [("FactorHouse", 36, ⟨"FactorHouse$Journal", "<init>", "()V"⟩, "FactorHouse"), ("FactorHouse", 43, ⟨"FactorHouse$Matching", "<init>", "()V"⟩, "FactorHouse"), ("FactorHouse", 78, ⟨"FactorHouse$Bill", "<init>", "()V"⟩, "FactorHouse"), ("FactorHouse", 79, ⟨"FactorHouse$Stray", "<init>", "()V"⟩, "FactorHouse"), ("FactorHouse", 80, ⟨"FactorHouse$Funder", "<init>", "()V"⟩, "FactorHouse"), ("FactorHouse", 349, ⟨"FactorHouse$Journal", "add", "(II)V"⟩, "FactorHouse"), ("FactorHouse", 144, ⟨"FactorHouse$Bill", "owner", "()I"⟩, "FactorHouse"), ("FactorHouse", 252, ⟨"FactorHouse$Bill", "ownerSlot", "()I"⟩, "FactorHouse"), ("FactorHouse", 106, ⟨"FactorHouse$Bill", "begin", "(IIII)V"⟩, "FactorHouse"), ("FactorHouse", 158, ⟨"FactorHouse$Bill", "endAssignment", "(I)V"⟩, "FactorHouse"), ("FactorHouse", 163, ⟨"FactorHouse$Bill", "freeingParty", "()I"⟩, "FactorHouse"), ("FactorHouse", 176, ⟨"FactorHouse$Journal", "takenOff", "(I)I"⟩, "FactorHouse"), ("FactorHouse", 183, ⟨"FactorHouse$Matching", "clear", "()V"⟩, "FactorHouse"), ("FactorHouse", 192, ⟨"FactorHouse$Matching", "add", "(II)V"⟩, "FactorHouse"), ("FactorHouse", 341, ⟨"FactorHouse$Stray", "begin", "(III)V"⟩, "FactorHouse"), ("FactorHouse", 262, ⟨"FactorHouse$Bill", "endSilentAssignments", "()I"⟩, "FactorHouse"), ("FactorHouse", 267, ⟨"FactorHouse$Funder", "addInterest", "()V"⟩, "FactorHouse")]
def sd_lmp : List Nat := [1031, 1048, 1066, 1130, 1152, 2005, 2009, 2028, 2195, 3022, 3034, 3045, 3060, 3064, 3081, 3190, 3203]
def sd_la : List (String × String) := [("java/lang/IndexOutOfBoundsException", "java/lang/IndexOutOfBoundsException"), ("java/lang/IllegalArgumentException", "java/lang/IllegalArgumentException"), ("java/lang/IllegalStateException", "java/lang/IllegalStateException")]
def sd_lap : List Nat := [2083, 2159, 2176]
def sd_ld : List MethodName := [⟨"java/lang/RuntimeException", "<init>", "()V"⟩, ⟨"java/lang/RuntimeException", "<init>", "(Ljava/lang/String;)V"⟩, ⟨"java/lang/Exception", "<init>", "()V"⟩, ⟨"java/lang/Exception", "<init>", "(Ljava/lang/String;)V"⟩, ⟨"java/lang/Throwable", "<init>", "()V"⟩, ⟨"java/lang/Throwable", "<init>", "(Ljava/lang/String;)V"⟩]
def sd_ldp : List Nat := [2084, 2085, 2086, 2087, 2088, 2089]
def sd_ls : List (String × Nat × String) := [("FactorHouse", 296, "there is no such seller"), ("FactorHouse", 303, "there is no such buyer"), ("FactorHouse", 309, "an argument is out of its range"), ("FactorHouse", 98, "there are 40 invoices"), ("FactorHouse", 312, "the seller failed"), ("FactorHouse", 305, "there is no such invoice"), ("FactorHouse", 299, "there is no such factor"), ("FactorHouse", 130, "it was assigned to this factor"), ("FactorHouse", 132, "nothing is owed"), ("FactorHouse", 314, "there is no such assignment"), ("FactorHouse", 321, "the assignment has it already"), ("FactorHouse", 301, "there is no such party"), ("FactorHouse", 319, "there would be more than 30 wrong payments"), ("FactorHouse", 255, "its owner is no factor"), ("FactorHouse", 257, "it is neither disputed nor due for so long"), ("FactorHouse", 265, "it would be above 3000"), ("FactorHouse", 270, "it counts for none"), ("FactorHouse", 275, "it was put in")]
def sd_lsp : List Nat := [2122, 2152, 2166, 2183, 2194, 2210, 2228, 2229, 2230, 3002, 3007, 3059, 3072, 3174, 3175, 3202, 3215, 3216]
def sd_lo : List String := ["FactorHouse$Bill", "FactorHouse$Stray", "FactorHouse$Funder"]
def sd_lop : List Nat := [1024, 1026, 1028]
theorem sd_all2 {α : Type} {f : α → Cond} {l : List α} {ps : List Nat} (hl : l.length = ps.length) (h : (l.zip ps).all (fun e => decide (sd_wp e.2 = some (f e.1))) = true) : ∀ q ∈ l, f q ∈ lw_tbl := by
  induction l generalizing ps with
  | nil => intro q hq; cases hq
  | cons a l ih =>
    cases ps with
    | nil => cases hl
    | cons p ps =>
      rw [List.zip_cons_cons, List.all_cons, Bool.and_eq_true] at h
      intro q hq
      rcases List.mem_cons.mp hq with rfl | hq
      · exact sd_wp_in (of_decide_eq_true h.1)
      · exact ih (Nat.succ.inj hl) h.2 q hq
theorem sd_lf_ok : ∀ q ∈ sd_lf, (fun q => Cond.fieldLinkNest q.1 q.2.1 q.2.2.1 q.2.2.2.1 q.2.2.2.2.1 q.2.2.2.2.2) q ∈ lw_tbl := sd_all2 (ps := sd_lfp) rfl (by decide +kernel)
theorem sd_lm_ok : ∀ q ∈ sd_lm, (fun q => Cond.methodLinkNest q.1 q.2.1 q.2.2.1 q.2.2.2) q ∈ lw_tbl := sd_all2 (ps := sd_lmp) rfl (by decide +kernel)
theorem sd_la_ok : ∀ q ∈ sd_la, (fun q => Cond.castable q.1 q.2) q ∈ lw_tbl := sd_all2 (ps := sd_lap) rfl (by decide +kernel)
theorem sd_ld_ok : ∀ q ∈ sd_ld, (fun q => Cond.declares q) q ∈ lw_tbl := sd_all2 (ps := sd_ldp) rfl (by decide +kernel)
theorem sd_ls_ok : ∀ q ∈ sd_ls, (fun q => Cond.stringRef q.1 q.2.1 q.2.2) q ∈ lw_tbl := sd_all2 (ps := sd_lsp) rfl (by decide +kernel)
theorem sd_lo_ok : ∀ q ∈ sd_lo, (fun q => Cond.arrayOver (.object q)) q ∈ lw_tbl := sd_all2 (ps := sd_lop) rfl (by decide +kernel)
def sd_fw (w idx c k : Nat) : Cond := .fieldLink (sd_R w) idx (sd_R c) (sd_F c k).2.1 (sd_F c k).2.2.1
def sd_fn (w idx c k : Nat) : String × Nat × String × String × String × String := (sd_R w, idx, sd_R c, (sd_F c k).2.1, (sd_F c k).2.2.1, "FactorHouse")
def sd_fk (w idx : Nat) (v : Nat × Nat × Nat) (p : Nat) : Bool := decide (v.1 < 7) && decide (v.2.1 < sd_n v.1) && decide ((sd_ft v.1)[v.2.1]? = some v.2.2) && (if p = 99999 then decide (sd_fn w idx v.1 v.2.1 ∈ sd_lf) else sd_at p (sd_fw w idx v.1 v.2.1))
theorem sd_fl_ok {w idx : Nat} {v : Nat × Nat × Nat} (h : ai_fl w idx = some v) : ∃ p, sd_fk w idx v p = true := sd_tabled (T := ai_flT) (chk := sd_fk) (ps := [1177, 1178, 1179, 1180, 1181, 1182, 1183, 1184, 1185, 1186, 1187, 1188, 1189, 1190, 1191, 1192, 99999, 99999, 99999, 99999, 99999, 99999, 99999, 99999, 99999, 99999, 99999, 99999, 99999, 99999, 99999, 99999, 99999, 99999, 99999, 99999, 99999, 99999, 99999, 99999, 99999, 1070, 1084, 1086, 1088, 1160, 1164, 1035, 1036, 1037, 1052, 1054, 1056, 3225, 3226, 3227, 3228, 3229, 3230, 3231, 3232, 3233, 3235, 3236, 3238, 3239, 4000, 4001, 4002, 4003, 4004, 4005, 4006, 4007, 4008, 4009, 4010, 4014, 4015, 4013, 3224, 3223, 3234, 3237, 4016, 4011, 4012]) rfl (by decide +kernel) h
def sd_fkp (m idx : Nat) (v : Nat × Nat × Nat) (p : Nat) : Bool := sd_fk (m / 100) idx v p && (!(sd_F v.1 v.2.1).2.2.2 || (decide ((sd_nm m).name = "<init>") && decide (v.1 = m / 100) && decide (p ≠ 99999)))
theorem sd_fp_ok {m idx : Nat} {v : Nat × Nat × Nat} (h : ai_fp m idx = some v) : ∃ p, sd_fkp m idx v p = true := sd_tabled (T := ai_fpT) (chk := sd_fkp) (ps := [1177, 1178, 1179, 1180, 1181, 1182, 1183, 1184, 1185, 1186, 1187, 1188, 1189, 1190, 1191, 1192, 1178, 99999, 1189, 99999, 99999, 99999, 1188, 1190, 1191, 99999, 99999, 99999, 99999, 1189, 1180, 99999, 99999, 1190, 1192, 99999, 1070, 1072, 1074, 1076, 1078, 1080, 1082, 1084, 1086, 1088, 1090, 1092, 1094, 1096, 1070, 1072, 1074, 1076, 1078, 1156, 1158, 1160, 1162, 1164, 1035, 1036, 1037, 1037, 1052, 1054, 1056, 1056, 1056, 1134, 1136, 1138, 1140, 1134, 1136, 1138, 3225, 3226, 3227, 3228, 3229, 3230, 3231, 3232, 3233, 3235, 3236, 3238, 3239, 4000, 4001, 4002, 4003, 4004, 4005, 4006, 4007, 4008, 4009, 4010, 4014, 4015, 4013, 3224, 4013, 4013, 4013, 3234, 4013, 3234, 4013, 3234, 4013, 4013, 4013, 3237, 4013, 4016, 4016, 4013, 4013, 4013, 4013, 4013, 4013, 4013, 4013, 4013, 4013, 4013, 4013, 4013, 3223, 4013, 4011, 4013, 4012, 4013]) rfl (by decide +kernel) h
theorem sd_ci_ok {w idx : Nat} {v : Int32} (h : ai_ci w idx = some v) : ∃ p, sd_at p (.constant (sd_R w) idx v) = true := sd_tabled (T := ai_ciT) (chk := fun w idx v p => sd_at p (.constant (sd_R w) idx v)) (ps := [4103, 5008]) rfl (by decide +kernel) h
theorem sd_cj_ok {w idx : Nat} {v : Int64} (h : ai_cj w idx = some v) : ∃ p, sd_at p (.constantLong (sd_R w) idx v) = true := sd_tabled (T := ai_cjT) (chk := fun w idx v p => sd_at p (.constantLong (sd_R w) idx v)) (ps := [2153, 2173, 3033, 2067, 3129, 3137, 2065, 2066, 2056, 3207, 4170, 5024, 5045, 5062, 5063]) rfl (by decide +kernel) h
def sd_mn : Nat → MethodName
  | 0 => Lib.Math.min.name
  | 1 => Lib.MathLoose.min_long.x
  | _ => Lib.MathLoose.max_long.x
def sd_mc : Nat → Cond
  | 0 => .code Lib.Math.min.name Lib.Math.min.code 2 (some .int)
  | 1 => .code Lib.MathLoose.min_long.x Lib.MathLoose.min_long.code 4 (some .long)
  | _ => .code Lib.MathLoose.max_long.x Lib.MathLoose.max_long.code 4 (some .long)
def sd_mk (w idx f : Nat) (p : Nat × Nat × Nat × Nat) : Bool := sd_at p.1 (.methodLink (sd_R w) idx (sd_mn f)) && sd_at p.2.1 (.static (sd_mn f)) && sd_at p.2.2.1 (.initialized "java/lang/Math") && sd_at p.2.2.2 (sd_mc f)
theorem sd_mt_ok {w idx f : Nat} (h : ai_mt w idx = some f) : ∃ p, sd_mk w idx f p = true := sd_tabled (T := ai_mtT) (chk := sd_mk) (ps := [(1234, 1235, 1014, 1236), (2029, 2030, 1014, 2031), (3180, 3181, 1014, 3182)]) rfl (by decide +kernel) h
def sd_ok0 (w idx : Nat) (_ : Nat) (p : Nat × Nat × Nat) : Bool := sd_at p.1 (.methodLink (sd_R w) idx Lib.objectInit) && sd_at p.2.1 (.instanceMethod Lib.objectInit) && sd_at p.2.2 (.code Lib.objectInit ⟨#[0xb1]⟩ 1 none)
theorem sd_ob_ok {w idx v : Nat} (h : ai_ob0 w idx = some v) : ∃ p, sd_ok0 w idx v p = true := sd_tabled (T := ai_ob0T) (chk := sd_ok0) (ps := [(1020, 1021, 1022), (1069, 1021, 1022), (1155, 1021, 1022), (1034, 1021, 1022), (1051, 1021, 1022), (1133, 1021, 1022), (3222, 1021, 1022)]) rfl (by decide +kernel) h
def sd_nk (w idx c : Nat) (p : Nat × Nat × Nat) : Bool := decide (c < 7) && sd_at p.1 (.classLink (sd_R w) idx (sd_R c)) && sd_at p.2.1 (.instantiable (sd_R c) (sd_n c)) && sd_at p.2.2 (.initialized (sd_R c))
theorem sd_nc_ok {w idx c : Nat} (h : ai_nc w idx = some c) : ∃ p, sd_nk w idx c p = true := sd_tabled (T := ai_ncT) (chk := sd_nk) (ps := [(1023, 1065, 1004), (1025, 1129, 1005), (1027, 1151, 1006), (1029, 1030, 1002), (1046, 1047, 1003), (1015, 1016, 1001), (3217, 3218, 1007)]) rfl (by decide +kernel) h
def sd_ak (w idx c : Nat) (p : Nat) : Bool := decide (sd_R c ∈ sd_lo) && sd_at p (.classLink (sd_R w) idx (sd_R c))
theorem sd_na_ok {w idx c : Nat} (h : ai_na w idx = some c) : ∃ p, sd_ak w idx c p = true := sd_tabled (T := ai_naT) (chk := sd_ak) (ps := [1023, 1025, 1027]) rfl (by decide +kernel) h
theorem sd_ac_int : Cond.arrayClass .int ∈ sd_tb := sd_at_ok (p := 1045) (by decide +kernel)
theorem sd_ac_long : Cond.arrayClass .long ∈ sd_tb := sd_at_ok (p := 1127) (by decide +kernel)
theorem sd_ac_boolean : Cond.arrayClass .boolean ∈ sd_tb := sd_at_ok (p := 1128) (by decide +kernel)
def sd_pn (y : Nat) : Option Nat := (parseMethodDescriptor (sd_nm y).desc).map fun d => d.parameters.length
theorem sd_cw_0 : sd_cw 0 ∈ sd_tb := sd_at_ok (p := 1019) (by decide +kernel)
theorem sd_cw_1 : sd_cw 1 ∈ sd_tb := sd_at_ok (p := 2077) (by decide +kernel)
theorem sd_cw_2 : sd_cw 2 ∈ sd_tb := sd_at_ok (p := 2205) (by decide +kernel)
theorem sd_cw_3 : sd_cw 3 ∈ sd_tb := sd_at_ok (p := 2217) (by decide +kernel)
theorem sd_cw_4 : sd_cw 4 ∈ sd_tb := sd_at_ok (p := 2224) (by decide +kernel)
theorem sd_cw_5 : sd_cw 5 ∈ sd_tb := sd_at_ok (p := 2237) (by decide +kernel)
theorem sd_cw_6 : sd_cw 6 ∈ sd_tb := sd_at_ok (p := 3014) (by decide +kernel)
theorem sd_cw_7 : sd_cw 7 ∈ sd_tb := sd_at_ok (p := 3021) (by decide +kernel)
theorem sd_cw_8 : sd_cw 8 ∈ sd_tb := sd_at_ok (p := 3032) (by decide +kernel)
theorem sd_cw_9 : sd_cw 9 ∈ sd_tb := sd_at_ok (p := 3044) (by decide +kernel)
theorem sd_cw_10 : sd_cw 10 ∈ sd_tb := sd_at_ok (p := 3055) (by decide +kernel)
theorem sd_cw_11 : sd_cw 11 ∈ sd_tb := sd_at_ok (p := 3091) (by decide +kernel)
theorem sd_cw_12 : sd_cw 12 ∈ sd_tb := sd_at_ok (p := 1229) (by decide +kernel)
theorem sd_cw_13 : sd_cw 13 ∈ sd_tb := sd_at_ok (p := 3114) (by decide +kernel)
theorem sd_cw_14 : sd_cw 14 ∈ sd_tb := sd_at_ok (p := 3121) (by decide +kernel)
theorem sd_cw_15 : sd_cw 15 ∈ sd_tb := sd_at_ok (p := 2035) (by decide +kernel)
theorem sd_cw_16 : sd_cw 16 ∈ sd_tb := sd_at_ok (p := 3128) (by decide +kernel)
theorem sd_cw_17 : sd_cw 17 ∈ sd_tb := sd_at_ok (p := 3136) (by decide +kernel)
theorem sd_cw_18 : sd_cw 18 ∈ sd_tb := sd_at_ok (p := 3144) (by decide +kernel)
theorem sd_cw_19 : sd_cw 19 ∈ sd_tb := sd_at_ok (p := 3159) (by decide +kernel)
theorem sd_cw_20 : sd_cw 20 ∈ sd_tb := sd_at_ok (p := 3166) (by decide +kernel)
theorem sd_cw_21 : sd_cw 21 ∈ sd_tb := sd_at_ok (p := 3173) (by decide +kernel)
theorem sd_cw_22 : sd_cw 22 ∈ sd_tb := sd_at_ok (p := 3189) (by decide +kernel)
theorem sd_cw_23 : sd_cw 23 ∈ sd_tb := sd_at_ok (p := 3201) (by decide +kernel)
theorem sd_cw_24 : sd_cw 24 ∈ sd_tb := sd_at_ok (p := 3214) (by decide +kernel)
theorem sd_cw_25 : sd_cw 25 ∈ sd_tb := sd_at_ok (p := 2039) (by decide +kernel)
theorem sd_cw_26 : sd_cw 26 ∈ sd_tb := sd_at_ok (p := 2064) (by decide +kernel)
theorem sd_cw_27 : sd_cw 27 ∈ sd_tb := sd_at_ok (p := 2080) (by decide +kernel)
theorem sd_cw_28 : sd_cw 28 ∈ sd_tb := sd_at_ok (p := 2227) (by decide +kernel)
theorem sd_cw_29 : sd_cw 29 ∈ sd_tb := sd_at_ok (p := 3058) (by decide +kernel)
theorem sd_cw_30 : sd_cw 30 ∈ sd_tb := sd_at_ok (p := 2151) (by decide +kernel)
theorem sd_cw_31 : sd_cw 31 ∈ sd_tb := sd_at_ok (p := 2209) (by decide +kernel)
theorem sd_cw_32 : sd_cw 32 ∈ sd_tb := sd_at_ok (p := 2156) (by decide +kernel)
theorem sd_cw_33 : sd_cw 33 ∈ sd_tb := sd_at_ok (p := 2193) (by decide +kernel)
theorem sd_cw_34 : sd_cw 34 ∈ sd_tb := sd_at_ok (p := 3001) (by decide +kernel)
theorem sd_cw_35 : sd_cw 35 ∈ sd_tb := sd_at_ok (p := 3071) (by decide +kernel)
theorem sd_cw_36 : sd_cw 36 ∈ sd_tb := sd_at_ok (p := 3006) (by decide +kernel)
theorem sd_cw_37 : sd_cw 37 ∈ sd_tb := sd_at_ok (p := 3095) (by decide +kernel)
theorem sd_cw_38 : sd_cw 38 ∈ sd_tb := sd_at_ok (p := 3099) (by decide +kernel)
theorem sd_cw_39 : sd_cw 39 ∈ sd_tb := sd_at_ok (p := 3103) (by decide +kernel)
theorem sd_cw_40 : sd_cw 40 ∈ sd_tb := sd_at_ok (p := 3107) (by decide +kernel)
theorem sd_cw_41 : sd_cw 41 ∈ sd_tb := sd_at_ok (p := 3076) (by decide +kernel)
theorem sd_cw_42 : sd_cw 42 ∈ sd_tb := sd_at_ok (p := 3080) (by decide +kernel)
theorem sd_cw_43 : sd_cw 43 ∈ sd_tb := sd_at_ok (p := 1233) (by decide +kernel)
theorem sd_cw_44 : sd_cw 44 ∈ sd_tb := sd_at_ok (p := 2000) (by decide +kernel)
theorem sd_cw_45 : sd_cw 45 ∈ sd_tb := sd_at_ok (p := 2004) (by decide +kernel)
theorem sd_cw_46 : sd_cw 46 ∈ sd_tb := sd_at_ok (p := 2027) (by decide +kernel)
theorem sd_cw_47 : sd_cw 47 ∈ sd_tb := sd_at_ok (p := 2051) (by decide +kernel)
theorem sd_cw_48 : sd_cw 48 ∈ sd_tb := sd_at_ok (p := 2043) (by decide +kernel)
theorem sd_cw_49 : sd_cw 49 ∈ sd_tb := sd_at_ok (p := 2047) (by decide +kernel)
theorem sd_cw_50 : sd_cw 50 ∈ sd_tb := sd_at_ok (p := 2055) (by decide +kernel)
theorem sd_cw_51 : sd_cw 51 ∈ sd_tb := sd_at_ok (p := 3152) (by decide +kernel)
theorem sd_cw_52 : sd_cw 52 ∈ sd_tb := sd_at_ok (p := 3148) (by decide +kernel)
theorem sd_cw_53 : sd_cw 53 ∈ sd_tb := sd_at_ok (p := 3179) (by decide +kernel)
theorem sd_cw_54 : sd_cw 54 ∈ sd_tb := sd_at_ok (p := 2060) (by decide +kernel)
theorem sd_cw_100 : sd_cw 100 ∈ sd_tb := sd_at_ok (p := 1068) (by decide +kernel)
theorem sd_cw_101 : sd_cw 101 ∈ sd_tb := sd_at_ok (p := 2198) (by decide +kernel)
theorem sd_cw_102 : sd_cw 102 ∈ sd_tb := sd_at_ok (p := 2012) (by decide +kernel)
theorem sd_cw_103 : sd_cw 103 ∈ sd_tb := sd_at_ok (p := 2016) (by decide +kernel)
theorem sd_cw_104 : sd_cw 104 ∈ sd_tb := sd_at_ok (p := 3037) (by decide +kernel)
theorem sd_cw_105 : sd_cw 105 ∈ sd_tb := sd_at_ok (p := 2023) (by decide +kernel)
theorem sd_cw_106 : sd_cw 106 ∈ sd_tb := sd_at_ok (p := 2019) (by decide +kernel)
theorem sd_cw_107 : sd_cw 107 ∈ sd_tb := sd_at_ok (p := 3025) (by decide +kernel)
theorem sd_cw_108 : sd_cw 108 ∈ sd_tb := sd_at_ok (p := 3193) (by decide +kernel)
theorem sd_cw_200 : sd_cw 200 ∈ sd_tb := sd_at_ok (p := 1154) (by decide +kernel)
theorem sd_cw_201 : sd_cw 201 ∈ sd_tb := sd_at_ok (p := 3206) (by decide +kernel)
theorem sd_cw_300 : sd_cw 300 ∈ sd_tb := sd_at_ok (p := 1033) (by decide +kernel)
theorem sd_cw_301 : sd_cw 301 ∈ sd_tb := sd_at_ok (p := 2008) (by decide +kernel)
theorem sd_cw_302 : sd_cw 302 ∈ sd_tb := sd_at_ok (p := 3048) (by decide +kernel)
theorem sd_cw_400 : sd_cw 400 ∈ sd_tb := sd_at_ok (p := 1050) (by decide +kernel)
theorem sd_cw_401 : sd_cw 401 ∈ sd_tb := sd_at_ok (p := 3063) (by decide +kernel)
theorem sd_cw_402 : sd_cw 402 ∈ sd_tb := sd_at_ok (p := 3067) (by decide +kernel)
theorem sd_cw_500 : sd_cw 500 ∈ sd_tb := sd_at_ok (p := 1132) (by decide +kernel)
theorem sd_cw_501 : sd_cw 501 ∈ sd_tb := sd_at_ok (p := 3084) (by decide +kernel)
theorem sd_cw_600 : sd_cw 600 ∈ sd_tb := sd_at_ok (p := 3221) (by decide +kernel)
theorem sd_cw_601 : sd_cw 601 ∈ sd_tb := sd_at_ok (p := 4089) (by decide +kernel)
theorem sd_cw_602 : sd_cw 602 ∈ sd_tb := sd_at_ok (p := 4099) (by decide +kernel)
theorem sd_cw_603 : sd_cw 603 ∈ sd_tb := sd_at_ok (p := 4096) (by decide +kernel)
theorem sd_cw_604 : sd_cw 604 ∈ sd_tb := sd_at_ok (p := 4122) (by decide +kernel)
theorem sd_cw_605 : sd_cw 605 ∈ sd_tb := sd_at_ok (p := 4181) (by decide +kernel)
theorem sd_cw_606 : sd_cw 606 ∈ sd_tb := sd_at_ok (p := 4102) (by decide +kernel)
theorem sd_cw_607 : sd_cw 607 ∈ sd_tb := sd_at_ok (p := 4111) (by decide +kernel)
theorem sd_cw_608 : sd_cw 608 ∈ sd_tb := sd_at_ok (p := 4093) (by decide +kernel)
theorem sd_cw_609 : sd_cw 609 ∈ sd_tb := sd_at_ok (p := 4107) (by decide +kernel)
theorem sd_cw_610 : sd_cw 610 ∈ sd_tb := sd_at_ok (p := 4115) (by decide +kernel)
theorem sd_cw_611 : sd_cw 611 ∈ sd_tb := sd_at_ok (p := 4133) (by decide +kernel)
theorem sd_cw_612 : sd_cw 612 ∈ sd_tb := sd_at_ok (p := 4153) (by decide +kernel)
theorem sd_cw_613 : sd_cw 613 ∈ sd_tb := sd_at_ok (p := 4129) (by decide +kernel)
theorem sd_cw_614 : sd_cw 614 ∈ sd_tb := sd_at_ok (p := 4125) (by decide +kernel)
theorem sd_cw_615 : sd_cw 615 ∈ sd_tb := sd_at_ok (p := 4119) (by decide +kernel)
theorem sd_cw_616 : sd_cw 616 ∈ sd_tb := sd_at_ok (p := 4137) (by decide +kernel)
theorem sd_cw_617 : sd_cw 617 ∈ sd_tb := sd_at_ok (p := 4141) (by decide +kernel)
theorem sd_cw_618 : sd_cw 618 ∈ sd_tb := sd_at_ok (p := 4145) (by decide +kernel)
theorem sd_cw_619 : sd_cw 619 ∈ sd_tb := sd_at_ok (p := 4165) (by decide +kernel)
theorem sd_cw_620 : sd_cw 620 ∈ sd_tb := sd_at_ok (p := 4169) (by decide +kernel)
theorem sd_cw_621 : sd_cw 621 ∈ sd_tb := sd_at_ok (p := 4161) (by decide +kernel)
theorem sd_cw_622 : sd_cw 622 ∈ sd_tb := sd_at_ok (p := 4157) (by decide +kernel)
theorem sd_cw_623 : sd_cw 623 ∈ sd_tb := sd_at_ok (p := 4149) (by decide +kernel)
theorem sd_cw_624 : sd_cw 624 ∈ sd_tb := sd_at_ok (p := 4174) (by decide +kernel)
theorem sd_cw_625 : sd_cw 625 ∈ sd_tb := sd_at_ok (p := 4196) (by decide +kernel)
theorem sd_cw_626 : sd_cw 626 ∈ sd_tb := sd_at_ok (p := 4203) (by decide +kernel)
theorem sd_cw_627 : sd_cw 627 ∈ sd_tb := sd_at_ok (p := 4200) (by decide +kernel)
theorem sd_cw_628 : sd_cw 628 ∈ sd_tb := sd_at_ok (p := 4192) (by decide +kernel)
theorem sd_cw_629 : sd_cw 629 ∈ sd_tb := sd_at_ok (p := 4188) (by decide +kernel)
theorem sd_cw_630 : sd_cw 630 ∈ sd_tb := sd_at_ok (p := 4185) (by decide +kernel)
theorem sd_cw_631 : sd_cw 631 ∈ sd_tb := sd_at_ok (p := 4178) (by decide +kernel)
theorem sd_cw_632 : sd_cw 632 ∈ sd_tb := sd_at_ok (p := 4219) (by decide +kernel)
theorem sd_cw_633 : sd_cw 633 ∈ sd_tb := sd_at_ok (p := 4215) (by decide +kernel)
theorem sd_cw_634 : sd_cw 634 ∈ sd_tb := sd_at_ok (p := 4211) (by decide +kernel)
theorem sd_cw_635 : sd_cw 635 ∈ sd_tb := sd_at_ok (p := 4207) (by decide +kernel)
theorem sd_cw_636 : sd_cw 636 ∈ sd_tb := sd_at_ok (p := 4227) (by decide +kernel)
theorem sd_cw_637 : sd_cw 637 ∈ sd_tb := sd_at_ok (p := 4223) (by decide +kernel)
theorem sd_cw_638 : sd_cw 638 ∈ sd_tb := sd_at_ok (p := 4231) (by decide +kernel)
theorem sd_cw_639 : sd_cw 639 ∈ sd_tb := sd_at_ok (p := 4235) (by decide +kernel)
theorem sd_cw_640 : sd_cw 640 ∈ sd_tb := sd_at_ok (p := 4239) (by decide +kernel)
theorem sd_cw_641 : sd_cw 641 ∈ sd_tb := sd_at_ok (p := 5003) (by decide +kernel)
theorem sd_cw_642 : sd_cw 642 ∈ sd_tb := sd_at_ok (p := 5007) (by decide +kernel)
theorem sd_cw_643 : sd_cw 643 ∈ sd_tb := sd_at_ok (p := 5023) (by decide +kernel)
theorem sd_cw_644 : sd_cw 644 ∈ sd_tb := sd_at_ok (p := 5019) (by decide +kernel)
theorem sd_cw_645 : sd_cw 645 ∈ sd_tb := sd_at_ok (p := 5015) (by decide +kernel)
theorem sd_cw_646 : sd_cw 646 ∈ sd_tb := sd_at_ok (p := 5012) (by decide +kernel)
theorem sd_cw_647 : sd_cw 647 ∈ sd_tb := sd_at_ok (p := 5028) (by decide +kernel)
theorem sd_cw_648 : sd_cw 648 ∈ sd_tb := sd_at_ok (p := 5032) (by decide +kernel)
theorem sd_cw_649 : sd_cw 649 ∈ sd_tb := sd_at_ok (p := 5036) (by decide +kernel)
theorem sd_cw_650 : sd_cw 650 ∈ sd_tb := sd_at_ok (p := 5040) (by decide +kernel)
theorem sd_cw_651 : sd_cw 651 ∈ sd_tb := sd_at_ok (p := 5044) (by decide +kernel)
theorem sd_cw_652 : sd_cw 652 ∈ sd_tb := sd_at_ok (p := 5053) (by decide +kernel)
theorem sd_cw_653 : sd_cw 653 ∈ sd_tb := sd_at_ok (p := 5049) (by decide +kernel)
theorem sd_cw_654 : sd_cw 654 ∈ sd_tb := sd_at_ok (p := 5057) (by decide +kernel)
theorem sd_cw_655 : sd_cw 655 ∈ sd_tb := sd_at_ok (p := 5061) (by decide +kernel)
theorem sd_cw_700 : sd_cw 700 ∈ sd_tb := sd_at_ok (p := 2070) (by decide +kernel)
theorem sd_cw_701 : sd_cw 701 ∈ sd_tb := sd_at_ok (p := 2201) (by decide +kernel)
theorem sd_cw_702 : sd_cw 702 ∈ sd_tb := sd_at_ok (p := 2213) (by decide +kernel)
theorem sd_cw_703 : sd_cw 703 ∈ sd_tb := sd_at_ok (p := 2220) (by decide +kernel)
theorem sd_cw_704 : sd_cw 704 ∈ sd_tb := sd_at_ok (p := 2233) (by decide +kernel)
theorem sd_cw_705 : sd_cw 705 ∈ sd_tb := sd_at_ok (p := 3010) (by decide +kernel)
theorem sd_cw_706 : sd_cw 706 ∈ sd_tb := sd_at_ok (p := 3017) (by decide +kernel)
theorem sd_cw_707 : sd_cw 707 ∈ sd_tb := sd_at_ok (p := 3028) (by decide +kernel)
theorem sd_cw_708 : sd_cw 708 ∈ sd_tb := sd_at_ok (p := 3040) (by decide +kernel)
theorem sd_cw_709 : sd_cw 709 ∈ sd_tb := sd_at_ok (p := 3051) (by decide +kernel)
theorem sd_cw_710 : sd_cw 710 ∈ sd_tb := sd_at_ok (p := 3087) (by decide +kernel)
theorem sd_cw_711 : sd_cw 711 ∈ sd_tb := sd_at_ok (p := 3110) (by decide +kernel)
theorem sd_cw_712 : sd_cw 712 ∈ sd_tb := sd_at_ok (p := 3117) (by decide +kernel)
theorem sd_cw_713 : sd_cw 713 ∈ sd_tb := sd_at_ok (p := 3124) (by decide +kernel)
theorem sd_cw_714 : sd_cw 714 ∈ sd_tb := sd_at_ok (p := 3132) (by decide +kernel)
theorem sd_cw_715 : sd_cw 715 ∈ sd_tb := sd_at_ok (p := 3140) (by decide +kernel)
theorem sd_cw_716 : sd_cw 716 ∈ sd_tb := sd_at_ok (p := 3155) (by decide +kernel)
theorem sd_cw_717 : sd_cw 717 ∈ sd_tb := sd_at_ok (p := 3162) (by decide +kernel)
theorem sd_cw_718 : sd_cw 718 ∈ sd_tb := sd_at_ok (p := 3169) (by decide +kernel)
theorem sd_cw_719 : sd_cw 719 ∈ sd_tb := sd_at_ok (p := 3185) (by decide +kernel)
theorem sd_cw_720 : sd_cw 720 ∈ sd_tb := sd_at_ok (p := 3197) (by decide +kernel)
theorem sd_cw_721 : sd_cw 721 ∈ sd_tb := sd_at_ok (p := 3210) (by decide +kernel)
def sd_ys : List Nat := [0, 1, 2, 3, 4, 5, 6, 7, 8, 9, 10, 11, 12, 13, 14, 15, 16, 17, 18, 19, 20, 21, 22, 23, 24, 25, 26, 27, 28, 29, 30, 31, 32, 33, 34, 35, 36, 37, 38, 39, 40, 41, 42, 43, 44, 45, 46, 47, 48, 49, 50, 51, 52, 53, 54, 100, 101, 102, 103, 104, 105, 106, 107, 108, 200, 201, 300, 301, 302, 400, 401, 402, 500, 501, 600, 601, 602, 603, 604, 605, 606, 607, 608, 609, 610, 611, 612, 613, 614, 615, 616, 617, 618, 619, 620, 621, 622, 623, 624, 625, 626, 627, 628, 629, 630, 631, 632, 633, 634, 635, 636, 637, 638, 639, 640, 641, 642, 643, 644, 645, 646, 647, 648, 649, 650, 651, 652, 653, 654, 655, 700, 701, 702, 703, 704, 705, 706, 707, 708, 709, 710, 711, 712, 713, 714, 715, 716, 717, 718, 719, 720, 721]
theorem sd_cwl_0 : ∀ y ∈ ([0, 1, 2, 3, 4, 5, 6, 7, 8, 9, 10, 11] : List Nat), sd_cw y ∈ sd_tb := List.forall_mem_cons.mpr ⟨sd_cw_0, List.forall_mem_cons.mpr ⟨sd_cw_1, List.forall_mem_cons.mpr ⟨sd_cw_2, List.forall_mem_cons.mpr ⟨sd_cw_3, List.forall_mem_cons.mpr ⟨sd_cw_4, List.forall_mem_cons.mpr ⟨sd_cw_5, List.forall_mem_cons.mpr ⟨sd_cw_6, List.forall_mem_cons.mpr ⟨sd_cw_7, List.forall_mem_cons.mpr ⟨sd_cw_8, List.forall_mem_cons.mpr ⟨sd_cw_9, List.forall_mem_cons.mpr ⟨sd_cw_10, List.forall_mem_cons.mpr ⟨sd_cw_11, fun _ h => absurd h List.not_mem_nil⟩⟩⟩⟩⟩⟩⟩⟩⟩⟩⟩⟩
theorem sd_cwl_1 : ∀ y ∈ ([12, 13, 14, 15, 16, 17, 18, 19, 20, 21, 22, 23] : List Nat), sd_cw y ∈ sd_tb := List.forall_mem_cons.mpr ⟨sd_cw_12, List.forall_mem_cons.mpr ⟨sd_cw_13, List.forall_mem_cons.mpr ⟨sd_cw_14, List.forall_mem_cons.mpr ⟨sd_cw_15, List.forall_mem_cons.mpr ⟨sd_cw_16, List.forall_mem_cons.mpr ⟨sd_cw_17, List.forall_mem_cons.mpr ⟨sd_cw_18, List.forall_mem_cons.mpr ⟨sd_cw_19, List.forall_mem_cons.mpr ⟨sd_cw_20, List.forall_mem_cons.mpr ⟨sd_cw_21, List.forall_mem_cons.mpr ⟨sd_cw_22, List.forall_mem_cons.mpr ⟨sd_cw_23, fun _ h => absurd h List.not_mem_nil⟩⟩⟩⟩⟩⟩⟩⟩⟩⟩⟩⟩
theorem sd_cwl_2 : ∀ y ∈ ([24, 25, 26, 27, 28, 29, 30, 31, 32, 33, 34, 35] : List Nat), sd_cw y ∈ sd_tb := List.forall_mem_cons.mpr ⟨sd_cw_24, List.forall_mem_cons.mpr ⟨sd_cw_25, List.forall_mem_cons.mpr ⟨sd_cw_26, List.forall_mem_cons.mpr ⟨sd_cw_27, List.forall_mem_cons.mpr ⟨sd_cw_28, List.forall_mem_cons.mpr ⟨sd_cw_29, List.forall_mem_cons.mpr ⟨sd_cw_30, List.forall_mem_cons.mpr ⟨sd_cw_31, List.forall_mem_cons.mpr ⟨sd_cw_32, List.forall_mem_cons.mpr ⟨sd_cw_33, List.forall_mem_cons.mpr ⟨sd_cw_34, List.forall_mem_cons.mpr ⟨sd_cw_35, fun _ h => absurd h List.not_mem_nil⟩⟩⟩⟩⟩⟩⟩⟩⟩⟩⟩⟩
theorem sd_cwl_3 : ∀ y ∈ ([36, 37, 38, 39, 40, 41, 42, 43, 44, 45, 46, 47] : List Nat), sd_cw y ∈ sd_tb := List.forall_mem_cons.mpr ⟨sd_cw_36, List.forall_mem_cons.mpr ⟨sd_cw_37, List.forall_mem_cons.mpr ⟨sd_cw_38, List.forall_mem_cons.mpr ⟨sd_cw_39, List.forall_mem_cons.mpr ⟨sd_cw_40, List.forall_mem_cons.mpr ⟨sd_cw_41, List.forall_mem_cons.mpr ⟨sd_cw_42, List.forall_mem_cons.mpr ⟨sd_cw_43, List.forall_mem_cons.mpr ⟨sd_cw_44, List.forall_mem_cons.mpr ⟨sd_cw_45, List.forall_mem_cons.mpr ⟨sd_cw_46, List.forall_mem_cons.mpr ⟨sd_cw_47, fun _ h => absurd h List.not_mem_nil⟩⟩⟩⟩⟩⟩⟩⟩⟩⟩⟩⟩
theorem sd_cwl_4 : ∀ y ∈ ([48, 49, 50, 51, 52, 53, 54, 100, 101, 102, 103, 104] : List Nat), sd_cw y ∈ sd_tb := List.forall_mem_cons.mpr ⟨sd_cw_48, List.forall_mem_cons.mpr ⟨sd_cw_49, List.forall_mem_cons.mpr ⟨sd_cw_50, List.forall_mem_cons.mpr ⟨sd_cw_51, List.forall_mem_cons.mpr ⟨sd_cw_52, List.forall_mem_cons.mpr ⟨sd_cw_53, List.forall_mem_cons.mpr ⟨sd_cw_54, List.forall_mem_cons.mpr ⟨sd_cw_100, List.forall_mem_cons.mpr ⟨sd_cw_101, List.forall_mem_cons.mpr ⟨sd_cw_102, List.forall_mem_cons.mpr ⟨sd_cw_103, List.forall_mem_cons.mpr ⟨sd_cw_104, fun _ h => absurd h List.not_mem_nil⟩⟩⟩⟩⟩⟩⟩⟩⟩⟩⟩⟩
theorem sd_cwl_5 : ∀ y ∈ ([105, 106, 107, 108, 200, 201, 300, 301, 302, 400, 401, 402] : List Nat), sd_cw y ∈ sd_tb := List.forall_mem_cons.mpr ⟨sd_cw_105, List.forall_mem_cons.mpr ⟨sd_cw_106, List.forall_mem_cons.mpr ⟨sd_cw_107, List.forall_mem_cons.mpr ⟨sd_cw_108, List.forall_mem_cons.mpr ⟨sd_cw_200, List.forall_mem_cons.mpr ⟨sd_cw_201, List.forall_mem_cons.mpr ⟨sd_cw_300, List.forall_mem_cons.mpr ⟨sd_cw_301, List.forall_mem_cons.mpr ⟨sd_cw_302, List.forall_mem_cons.mpr ⟨sd_cw_400, List.forall_mem_cons.mpr ⟨sd_cw_401, List.forall_mem_cons.mpr ⟨sd_cw_402, fun _ h => absurd h List.not_mem_nil⟩⟩⟩⟩⟩⟩⟩⟩⟩⟩⟩⟩
theorem sd_cwl_6 : ∀ y ∈ ([500, 501, 600, 601, 602, 603, 604, 605, 606, 607, 608, 609] : List Nat), sd_cw y ∈ sd_tb := List.forall_mem_cons.mpr ⟨sd_cw_500, List.forall_mem_cons.mpr ⟨sd_cw_501, List.forall_mem_cons.mpr ⟨sd_cw_600, List.forall_mem_cons.mpr ⟨sd_cw_601, List.forall_mem_cons.mpr ⟨sd_cw_602, List.forall_mem_cons.mpr ⟨sd_cw_603, List.forall_mem_cons.mpr ⟨sd_cw_604, List.forall_mem_cons.mpr ⟨sd_cw_605, List.forall_mem_cons.mpr ⟨sd_cw_606, List.forall_mem_cons.mpr ⟨sd_cw_607, List.forall_mem_cons.mpr ⟨sd_cw_608, List.forall_mem_cons.mpr ⟨sd_cw_609, fun _ h => absurd h List.not_mem_nil⟩⟩⟩⟩⟩⟩⟩⟩⟩⟩⟩⟩
theorem sd_cwl_7 : ∀ y ∈ ([610, 611, 612, 613, 614, 615, 616, 617, 618, 619, 620, 621] : List Nat), sd_cw y ∈ sd_tb := List.forall_mem_cons.mpr ⟨sd_cw_610, List.forall_mem_cons.mpr ⟨sd_cw_611, List.forall_mem_cons.mpr ⟨sd_cw_612, List.forall_mem_cons.mpr ⟨sd_cw_613, List.forall_mem_cons.mpr ⟨sd_cw_614, List.forall_mem_cons.mpr ⟨sd_cw_615, List.forall_mem_cons.mpr ⟨sd_cw_616, List.forall_mem_cons.mpr ⟨sd_cw_617, List.forall_mem_cons.mpr ⟨sd_cw_618, List.forall_mem_cons.mpr ⟨sd_cw_619, List.forall_mem_cons.mpr ⟨sd_cw_620, List.forall_mem_cons.mpr ⟨sd_cw_621, fun _ h => absurd h List.not_mem_nil⟩⟩⟩⟩⟩⟩⟩⟩⟩⟩⟩⟩
theorem sd_cwl_8 : ∀ y ∈ ([622, 623, 624, 625, 626, 627, 628, 629, 630, 631, 632, 633] : List Nat), sd_cw y ∈ sd_tb := List.forall_mem_cons.mpr ⟨sd_cw_622, List.forall_mem_cons.mpr ⟨sd_cw_623, List.forall_mem_cons.mpr ⟨sd_cw_624, List.forall_mem_cons.mpr ⟨sd_cw_625, List.forall_mem_cons.mpr ⟨sd_cw_626, List.forall_mem_cons.mpr ⟨sd_cw_627, List.forall_mem_cons.mpr ⟨sd_cw_628, List.forall_mem_cons.mpr ⟨sd_cw_629, List.forall_mem_cons.mpr ⟨sd_cw_630, List.forall_mem_cons.mpr ⟨sd_cw_631, List.forall_mem_cons.mpr ⟨sd_cw_632, List.forall_mem_cons.mpr ⟨sd_cw_633, fun _ h => absurd h List.not_mem_nil⟩⟩⟩⟩⟩⟩⟩⟩⟩⟩⟩⟩
theorem sd_cwl_9 : ∀ y ∈ ([634, 635, 636, 637, 638, 639, 640, 641, 642, 643, 644, 645] : List Nat), sd_cw y ∈ sd_tb := List.forall_mem_cons.mpr ⟨sd_cw_634, List.forall_mem_cons.mpr ⟨sd_cw_635, List.forall_mem_cons.mpr ⟨sd_cw_636, List.forall_mem_cons.mpr ⟨sd_cw_637, List.forall_mem_cons.mpr ⟨sd_cw_638, List.forall_mem_cons.mpr ⟨sd_cw_639, List.forall_mem_cons.mpr ⟨sd_cw_640, List.forall_mem_cons.mpr ⟨sd_cw_641, List.forall_mem_cons.mpr ⟨sd_cw_642, List.forall_mem_cons.mpr ⟨sd_cw_643, List.forall_mem_cons.mpr ⟨sd_cw_644, List.forall_mem_cons.mpr ⟨sd_cw_645, fun _ h => absurd h List.not_mem_nil⟩⟩⟩⟩⟩⟩⟩⟩⟩⟩⟩⟩
theorem sd_cwl_10 : ∀ y ∈ ([646, 647, 648, 649, 650, 651, 652, 653, 654, 655, 700, 701] : List Nat), sd_cw y ∈ sd_tb := List.forall_mem_cons.mpr ⟨sd_cw_646, List.forall_mem_cons.mpr ⟨sd_cw_647, List.forall_mem_cons.mpr ⟨sd_cw_648, List.forall_mem_cons.mpr ⟨sd_cw_649, List.forall_mem_cons.mpr ⟨sd_cw_650, List.forall_mem_cons.mpr ⟨sd_cw_651, List.forall_mem_cons.mpr ⟨sd_cw_652, List.forall_mem_cons.mpr ⟨sd_cw_653, List.forall_mem_cons.mpr ⟨sd_cw_654, List.forall_mem_cons.mpr ⟨sd_cw_655, List.forall_mem_cons.mpr ⟨sd_cw_700, List.forall_mem_cons.mpr ⟨sd_cw_701, fun _ h => absurd h List.not_mem_nil⟩⟩⟩⟩⟩⟩⟩⟩⟩⟩⟩⟩
theorem sd_cwl_11 : ∀ y ∈ ([702, 703, 704, 705, 706, 707, 708, 709, 710, 711, 712, 713] : List Nat), sd_cw y ∈ sd_tb := List.forall_mem_cons.mpr ⟨sd_cw_702, List.forall_mem_cons.mpr ⟨sd_cw_703, List.forall_mem_cons.mpr ⟨sd_cw_704, List.forall_mem_cons.mpr ⟨sd_cw_705, List.forall_mem_cons.mpr ⟨sd_cw_706, List.forall_mem_cons.mpr ⟨sd_cw_707, List.forall_mem_cons.mpr ⟨sd_cw_708, List.forall_mem_cons.mpr ⟨sd_cw_709, List.forall_mem_cons.mpr ⟨sd_cw_710, List.forall_mem_cons.mpr ⟨sd_cw_711, List.forall_mem_cons.mpr ⟨sd_cw_712, List.forall_mem_cons.mpr ⟨sd_cw_713, fun _ h => absurd h List.not_mem_nil⟩⟩⟩⟩⟩⟩⟩⟩⟩⟩⟩⟩
theorem sd_cwl_12 : ∀ y ∈ ([714, 715, 716, 717, 718, 719, 720, 721] : List Nat), sd_cw y ∈ sd_tb := List.forall_mem_cons.mpr ⟨sd_cw_714, List.forall_mem_cons.mpr ⟨sd_cw_715, List.forall_mem_cons.mpr ⟨sd_cw_716, List.forall_mem_cons.mpr ⟨sd_cw_717, List.forall_mem_cons.mpr ⟨sd_cw_718, List.forall_mem_cons.mpr ⟨sd_cw_719, List.forall_mem_cons.mpr ⟨sd_cw_720, List.forall_mem_cons.mpr ⟨sd_cw_721, fun _ h => absurd h List.not_mem_nil⟩⟩⟩⟩⟩⟩⟩⟩
theorem sd_cws : ∀ y ∈ sd_ys, sd_cw y ∈ sd_tb := by
  have hL : sd_ys = ([0, 1, 2, 3, 4, 5, 6, 7, 8, 9, 10, 11] : List Nat) ++ (([12, 13, 14, 15, 16, 17, 18, 19, 20, 21, 22, 23] : List Nat) ++ (([24, 25, 26, 27, 28, 29, 30, 31, 32, 33, 34, 35] : List Nat) ++ (([36, 37, 38, 39, 40, 41, 42, 43, 44, 45, 46, 47] : List Nat) ++ (([48, 49, 50, 51, 52, 53, 54, 100, 101, 102, 103, 104] : List Nat) ++ (([105, 106, 107, 108, 200, 201, 300, 301, 302, 400, 401, 402] : List Nat) ++ (([500, 501, 600, 601, 602, 603, 604, 605, 606, 607, 608, 609] : List Nat) ++ (([610, 611, 612, 613, 614, 615, 616, 617, 618, 619, 620, 621] : List Nat) ++ (([622, 623, 624, 625, 626, 627, 628, 629, 630, 631, 632, 633] : List Nat) ++ (([634, 635, 636, 637, 638, 639, 640, 641, 642, 643, 644, 645] : List Nat) ++ (([646, 647, 648, 649, 650, 651, 652, 653, 654, 655, 700, 701] : List Nat) ++ (([702, 703, 704, 705, 706, 707, 708, 709, 710, 711, 712, 713] : List Nat) ++ (([714, 715, 716, 717, 718, 719, 720, 721] : List Nat))))))))))))) := rfl
  rw [hL]
  exact List.forall_mem_append.mpr ⟨sd_cwl_0, List.forall_mem_append.mpr ⟨sd_cwl_1, List.forall_mem_append.mpr ⟨sd_cwl_2, List.forall_mem_append.mpr ⟨sd_cwl_3, List.forall_mem_append.mpr ⟨sd_cwl_4, List.forall_mem_append.mpr ⟨sd_cwl_5, List.forall_mem_append.mpr ⟨sd_cwl_6, List.forall_mem_append.mpr ⟨sd_cwl_7, List.forall_mem_append.mpr ⟨sd_cwl_8, List.forall_mem_append.mpr ⟨sd_cwl_9, List.forall_mem_append.mpr ⟨sd_cwl_10, List.forall_mem_append.mpr ⟨sd_cwl_11, sd_cwl_12⟩⟩⟩⟩⟩⟩⟩⟩⟩⟩⟩⟩
def sd_co (y : Nat) (pc pi : Nat) : Bool := decide (y ∈ sd_ys) && sd_at pi (.initialized (sd_R (y / 100))) && decide ((sd_nm y).cls = sd_R (y / 100)) && decide (sd_R (y / 100) ≠ "java/lang/invoke/MethodHandle") && decide (sd_R (y / 100) ≠ "java/lang/invoke/VarHandle")
/-- a call by the receiver: by a plain link, or a nest mate's -/
def sd_vk (w idx : Nat) (v : Nat × Nat) (p : Nat × Nat × Nat × Nat × Nat) : Bool := (if p.1 = 99999 then decide ((sd_R w, idx, sd_nm v.1, "FactorHouse") ∈ sd_lm) else sd_at p.1 (.methodLink (sd_R w) idx (sd_nm v.1))) && sd_at p.2.1 (.instanceMethod (sd_nm v.1)) && sd_at p.2.2.1 (.selects (sd_R (v.1 / 100)) (sd_nm v.1) (sd_nm v.1)) && sd_co v.1 p.2.2.2.1 p.2.2.2.2 && decide (ai_find [] sd_hw v.1 = []) && decide (0 < v.2) && decide (sd_pn v.1 = some (v.2 - 1))
theorem sd_cv_ok {w idx : Nat} {v : Nat × Nat} (h : ai_cv w idx = some v) : ∃ p, sd_vk w idx v p = true := sd_tabled (T := ai_cvT) (chk := sd_vk) (ps := [(2190, 2192, 14, 2193, 1001), (99999, 2197, 15, 2198, 1004), (2206, 2208, 16, 2209, 1001), (2001, 2003, 2, 2004, 1001), (99999, 2011, 4, 2012, 1004), (2238, 3000, 17, 3001, 1001), (3003, 3005, 18, 3006, 1001), (99999, 3024, 19, 3025, 1004), (99999, 3036, 20, 3037, 1004), (2040, 2042, 8, 2043, 1001), (99999, 3047, 21, 3048, 1002), (99999, 3062, 22, 3063, 1003), (99999, 3066, 23, 3067, 1003), (3068, 3070, 24, 3071, 1001), (3073, 3075, 25, 3076, 1001), (3092, 3094, 28, 3095, 1001), (1230, 1232, 0, 1233, 1001), (3145, 3147, 32, 3148, 1001), (2024, 2026, 7, 2027, 1001), (99999, 2015, 5, 2016, 1004), (3176, 3178, 34, 3179, 1001), (99999, 3192, 35, 3193, 1004), (99999, 3205, 36, 3206, 1006), (2057, 2059, 12, 2060, 1001), (3096, 3098, 29, 3099, 1001), (3100, 3102, 30, 3103, 1001), (3104, 3106, 31, 3107, 1001), (1237, 1239, 1, 2000, 1001), (3077, 3079, 26, 3080, 1001), (99999, 3083, 27, 3084, 1005), (99999, 2007, 3, 2008, 1002), (2044, 2046, 9, 2047, 1001), (2052, 2054, 11, 2055, 1001), (2048, 2050, 10, 2051, 1001), (3149, 3151, 33, 3152, 1001), (2013, 2015, 5, 2016, 1004), (2020, 2022, 6, 2023, 1004), (3194, 3024, 19, 3025, 1004), (4108, 4110, 37, 4111, 1007), (4130, 4132, 39, 4133, 1007), (4126, 4128, 38, 4129, 1007), (4162, 4164, 43, 4165, 1007), (4166, 4168, 44, 4169, 1007), (4158, 4160, 42, 4161, 1007), (4150, 4152, 40, 4153, 1007), (4154, 4156, 41, 4157, 1007), (4193, 4195, 47, 4196, 1007), (4197, 4199, 48, 4200, 1007), (4182, 4184, 45, 4185, 1007), (4189, 4191, 46, 4192, 1007), (4212, 4214, 50, 4215, 1007), (4216, 4218, 51, 4219, 1007), (4208, 4210, 49, 4211, 1007), (4224, 4226, 52, 4227, 1007), (5020, 5022, 54, 5023, 1007), (5016, 5018, 53, 5019, 1007), (5050, 5052, 55, 5053, 1007), (2074, 2075, 2076, 2077, 1001), (2202, 2203, 2204, 2205, 1001), (2214, 2215, 2216, 2217, 1001), (2221, 2222, 2223, 2224, 1001), (2234, 2235, 2236, 2237, 1001), (3011, 3012, 3013, 3014, 1001), (3018, 3019, 3020, 3021, 1001), (3029, 3030, 3031, 3032, 1001), (3041, 3042, 3043, 3044, 1001), (3052, 3053, 3054, 3055, 1001), (3088, 3089, 3090, 3091, 1001), (3111, 3112, 3113, 3114, 1001), (3118, 3119, 3120, 3121, 1001), (3125, 3126, 3127, 3128, 1001), (3133, 3134, 3135, 3136, 1001), (3141, 3142, 3143, 3144, 1001), (3156, 3157, 3158, 3159, 1001), (3163, 3164, 3165, 3166, 1001), (3170, 3171, 3172, 3173, 1001), (3186, 3187, 3188, 3189, 1001), (3198, 3199, 3200, 3201, 1001), (3211, 3212, 3213, 3214, 1001), (4090, 4091, 4092, 4093, 1007), (4086, 4087, 4088, 4089, 1007), (4104, 4105, 4106, 4107, 1007), (4112, 4113, 4114, 4115, 1007), (4116, 4117, 4118, 4119, 1007), (4134, 4135, 4136, 4137, 1007), (4138, 4139, 4140, 4141, 1007), (4142, 4143, 4144, 4145, 1007), (4146, 4147, 4148, 4149, 1007), (4171, 4172, 4173, 4174, 1007), (4175, 4176, 4177, 4178, 1007), (4204, 4205, 4206, 4207, 1007), (1226, 1227, 1228, 1229, 1001), (4220, 4221, 4222, 4223, 1007), (4228, 4229, 4230, 4231, 1007), (4232, 4233, 4234, 4235, 1007), (2032, 2033, 2034, 2035, 1001), (4236, 4237, 4238, 4239, 1007), (5000, 5001, 5002, 5003, 1007), (5004, 5005, 5006, 5007, 1007), (5009, 5010, 5011, 5012, 1007), (5025, 5026, 5027, 5028, 1007), (5029, 5030, 5031, 5032, 1007), (5033, 5034, 5035, 5036, 1007), (5037, 5038, 5039, 5040, 1007), (5041, 5042, 5043, 5044, 1007), (5046, 5047, 5048, 5049, 1007), (2036, 2037, 2038, 2039, 1001), (5054, 5055, 5056, 5057, 1007), (2061, 2062, 2063, 2064, 1001), (5058, 5059, 5060, 5061, 1007)]) rfl (by decide +kernel) h
def sd_sk (w idx : Nat) (v : Nat × Nat) (p : Nat × Nat × Nat × Nat) : Bool := sd_at p.1 (.methodLink (sd_R w) idx (sd_nm v.1)) && sd_at p.2.1 (.static (sd_nm v.1)) && sd_co v.1 p.2.2.1 p.2.2.2 && decide (sd_R w = sd_R (v.1 / 100)) && decide (sd_pn v.1 = some v.2)
theorem sd_cs_ok {w idx : Nat} {v : Nat × Nat} (h : ai_cs w idx = some v) : ∃ p, sd_sk w idx v p = true := sd_tabled (T := ai_csT) (chk := sd_sk) (ps := [(2078, 2079, 2080, 1001), (2149, 2150, 2151, 1001), (2154, 2155, 2156, 1001), (2225, 2226, 2227, 1001), (3056, 3057, 3058, 1001), (2017, 2018, 2019, 1004), (4097, 4098, 4099, 1007), (4094, 4095, 4096, 1007), (4100, 4101, 4102, 1007), (4120, 4121, 4122, 1007), (4123, 4124, 4125, 1007), (4201, 4202, 4203, 1007), (4179, 4180, 4181, 1007), (4186, 4187, 4188, 1007), (5013, 5014, 5015, 1007), (2068, 2069, 2070, 1000), (2199, 2200, 2201, 1000), (2211, 2212, 2213, 1000), (2218, 2219, 2220, 1000), (2231, 2232, 2233, 1000), (3008, 3009, 3010, 1000), (3015, 3016, 3017, 1000), (3026, 3027, 3028, 1000), (3038, 3039, 3040, 1000), (3049, 3050, 3051, 1000), (3085, 3086, 3087, 1000), (3108, 3109, 3110, 1000), (3115, 3116, 3117, 1000), (3122, 3123, 3124, 1000), (3130, 3131, 3132, 1000), (3138, 3139, 3140, 1000), (3153, 3154, 3155, 1000), (3160, 3161, 3162, 1000), (3167, 3168, 3169, 1000), (3183, 3184, 3185, 1000), (3195, 3196, 3197, 1000), (3208, 3209, 3210, 1000)]) rfl (by decide +kernel) h
def sd_pk (w idx : Nat) (v : Nat × Nat) (p : Nat × Nat × Nat × Nat) : Bool := (if p.1 = 99999 then decide ((sd_R w, idx, sd_nm v.1, "FactorHouse") ∈ sd_lm) else sd_at p.1 (.methodLink (sd_R w) idx (sd_nm v.1))) && sd_at p.2.1 (.instanceMethod (sd_nm v.1)) && sd_co v.1 p.2.2.1 p.2.2.2 && decide (ai_find [] sd_hw v.1 = []) && decide (0 < v.2) && decide (sd_pn v.1 = some (v.2 - 1)) && decide ((sd_nm v.1).name = "<init>") && decide (ai_rk v.1 = 0)
theorem sd_cp_ok {w idx : Nat} {v : Nat × Nat} (h : ai_cp w idx = some v) : ∃ p, sd_pk w idx v p = true := sd_tabled (T := ai_cpT) (chk := sd_pk) (ps := [(99999, 1032, 1033, 1002), (99999, 1049, 1050, 1003), (99999, 1067, 1068, 1004), (99999, 1131, 1132, 1005), (99999, 1153, 1154, 1006), (1017, 1018, 1019, 1001), (3219, 3220, 3221, 1007)]) rfl (by decide +kernel) h
def sd_xn : Nat → String
  | 1 => "java/lang/IndexOutOfBoundsException"
  | 2 => "java/lang/IllegalArgumentException"
  | _ => "java/lang/IllegalStateException"
def sd_xa : List String := ["java/lang/RuntimeException", "java/lang/Exception"]
