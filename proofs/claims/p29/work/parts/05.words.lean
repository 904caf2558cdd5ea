-- ===== PART A: goes FIRST, ahead of the names: the tables' words, and 'selects' of the private methods out of them =====
/-- a private method of a class that the tables say can be made, by its rows of tables_1 -/
def lw_okq (q : MethodName × Nat) : Prop := (q.1.cls ≠ "java/lang/invoke/MethodHandle" ∧ q.1.cls ≠ "java/lang/invoke/VarHandle") ∧ Cond.instantiable q.1.cls q.2 ∈ tables_1 ∧ Cond.privateMethod q.1 ∈ tables_1 ∧ Cond.instanceMethod q.1 ∈ tables_1
theorem lw_p0 : lw_okq (⟨"FactorHouse", "checkBill", "(I)V"⟩, 16) := ⟨⟨by decide +kernel, by decide +kernel⟩, List.mem_of_getElem? (i := 15) (by decide +kernel), List.mem_of_getElem? (i := 230) (by decide +kernel), List.mem_of_getElem? (i := 231) (by decide +kernel)⟩
theorem lw_p1 : lw_okq (⟨"java/lang/Throwable", "fillInStackTrace", "(I)Ljava/lang/Throwable;"⟩, 6) := ⟨⟨by decide +kernel, by decide +kernel⟩, List.mem_of_getElem? (i := 272) (by decide +kernel), List.mem_of_getElem? (i := 270) (by decide +kernel), List.mem_of_getElem? (i := 271) (by decide +kernel)⟩
theorem lw_p2 : lw_okq (⟨"FactorHouse", "mendStray", "(LFactorHouse$Stray;)V"⟩, 16) := ⟨⟨by decide +kernel, by decide +kernel⟩, List.mem_of_getElem? (i := 15) (by decide +kernel), List.mem_of_getElem? (i := 306) (by decide +kernel), List.mem_of_getElem? (i := 307) (by decide +kernel)⟩
theorem lw_p3 : lw_okq (⟨"FactorHouse", "settle", "(III)V"⟩, 16) := ⟨⟨by decide +kernel, by decide +kernel⟩, List.mem_of_getElem? (i := 15) (by decide +kernel), List.mem_of_getElem? (i := 313) (by decide +kernel), List.mem_of_getElem? (i := 314) (by decide +kernel)⟩
theorem lw_p4 : lw_okq (⟨"FactorHouse", "takeOff", "(II)V"⟩, 16) := ⟨⟨by decide +kernel, by decide +kernel⟩, List.mem_of_getElem? (i := 15) (by decide +kernel), List.mem_of_getElem? (i := 317) (by decide +kernel), List.mem_of_getElem? (i := 318) (by decide +kernel)⟩
theorem lw_p5 : lw_okq (⟨"FactorHouse$Journal", "add", "(II)V"⟩, 3) := ⟨⟨by decide +kernel, by decide +kernel⟩, List.mem_of_getElem? (i := 29) (by decide +kernel), List.mem_of_getElem? (i := 321) (by decide +kernel), List.mem_of_getElem? (i := 322) (by decide +kernel)⟩
theorem lw_p6 : lw_okq (⟨"FactorHouse$Bill", "owner", "()I"⟩, 14) := ⟨⟨by decide +kernel, by decide +kernel⟩, List.mem_of_getElem? (i := 64) (by decide +kernel), List.mem_of_getElem? (i := 325) (by decide +kernel), List.mem_of_getElem? (i := 326) (by decide +kernel)⟩
theorem lw_p7 : lw_okq (⟨"FactorHouse$Bill", "ownerSlot", "()I"⟩, 14) := ⟨⟨by decide +kernel, by decide +kernel⟩, List.mem_of_getElem? (i := 64) (by decide +kernel), List.mem_of_getElem? (i := 329) (by decide +kernel), List.mem_of_getElem? (i := 330) (by decide +kernel)⟩
theorem lw_p8 : lw_okq (⟨"FactorHouse$Bill", "partyIn", "(I)I"⟩, 14) := ⟨⟨by decide +kernel, by decide +kernel⟩, List.mem_of_getElem? (i := 64) (by decide +kernel), List.mem_of_getElem? (i := 336) (by decide +kernel), List.mem_of_getElem? (i := 337) (by decide +kernel)⟩
theorem lw_p9 : lw_okq (⟨"FactorHouse", "move", "(IIJ)V"⟩, 16) := ⟨⟨by decide +kernel, by decide +kernel⟩, List.mem_of_getElem? (i := 15) (by decide +kernel), List.mem_of_getElem? (i := 340) (by decide +kernel), List.mem_of_getElem? (i := 341) (by decide +kernel)⟩
theorem lw_p10 : lw_okq (⟨"FactorHouse", "countingSlot", "(LFactorHouse$Bill;)I"⟩, 16) := ⟨⟨by decide +kernel, by decide +kernel⟩, List.mem_of_getElem? (i := 15) (by decide +kernel), List.mem_of_getElem? (i := 390) (by decide +kernel), List.mem_of_getElem? (i := 391) (by decide +kernel)⟩
theorem lw_p11 : lw_okq (⟨"FactorHouse", "isSound", "(LFactorHouse$Bill;)Z"⟩, 16) := ⟨⟨by decide +kernel, by decide +kernel⟩, List.mem_of_getElem? (i := 15) (by decide +kernel), List.mem_of_getElem? (i := 394) (by decide +kernel), List.mem_of_getElem? (i := 395) (by decide +kernel)⟩
theorem lw_p12 : lw_okq (⟨"FactorHouse", "isOld", "(LFactorHouse$Bill;)Z"⟩, 16) := ⟨⟨by decide +kernel, by decide +kernel⟩, List.mem_of_getElem? (i := 15) (by decide +kernel), List.mem_of_getElem? (i := 398) (by decide +kernel), List.mem_of_getElem? (i := 399) (by decide +kernel)⟩
theorem lw_p13 : lw_okq (⟨"FactorHouse", "isMostlyOld", "(II)Z"⟩, 16) := ⟨⟨by decide +kernel, by decide +kernel⟩, List.mem_of_getElem? (i := 15) (by decide +kernel), List.mem_of_getElem? (i := 402) (by decide +kernel), List.mem_of_getElem? (i := 403) (by decide +kernel)⟩
theorem lw_p14 : lw_okq (⟨"FactorHouse", "takeOut", "(LFactorHouse$Bill;)V"⟩, 16) := ⟨⟨by decide +kernel, by decide +kernel⟩, List.mem_of_getElem? (i := 15) (by decide +kernel), List.mem_of_getElem? (i := 407) (by decide +kernel), List.mem_of_getElem? (i := 408) (by decide +kernel)⟩
theorem lw_p15 : lw_okq (⟨"FactorHouse", "checkNotFailed", "(I)V"⟩, 16) := ⟨⟨by decide +kernel, by decide +kernel⟩, List.mem_of_getElem? (i := 15) (by decide +kernel), List.mem_of_getElem? (i := 477) (by decide +kernel), List.mem_of_getElem? (i := 478) (by decide +kernel)⟩
def lw_privs_1 : List (MethodName × Nat) := [(⟨"FactorHouse", "checkBill", "(I)V"⟩, 16), (⟨"java/lang/Throwable", "fillInStackTrace", "(I)Ljava/lang/Throwable;"⟩, 6), (⟨"FactorHouse", "mendStray", "(LFactorHouse$Stray;)V"⟩, 16), (⟨"FactorHouse", "settle", "(III)V"⟩, 16), (⟨"FactorHouse", "takeOff", "(II)V"⟩, 16), (⟨"FactorHouse$Journal", "add", "(II)V"⟩, 3), (⟨"FactorHouse$Bill", "owner", "()I"⟩, 14), (⟨"FactorHouse$Bill", "ownerSlot", "()I"⟩, 14), (⟨"FactorHouse$Bill", "partyIn", "(I)I"⟩, 14), (⟨"FactorHouse", "move", "(IIJ)V"⟩, 16), (⟨"FactorHouse", "countingSlot", "(LFactorHouse$Bill;)I"⟩, 16), (⟨"FactorHouse", "isSound", "(LFactorHouse$Bill;)Z"⟩, 16), (⟨"FactorHouse", "isOld", "(LFactorHouse$Bill;)Z"⟩, 16), (⟨"FactorHouse", "isMostlyOld", "(II)Z"⟩, 16), (⟨"FactorHouse", "takeOut", "(LFactorHouse$Bill;)V"⟩, 16), (⟨"FactorHouse", "checkNotFailed", "(I)V"⟩, 16)]
theorem lw_r1 : ∀ q ∈ lw_privs_1, lw_okq q := List.forall_mem_cons.mpr ⟨lw_p0, List.forall_mem_cons.mpr ⟨lw_p1, List.forall_mem_cons.mpr ⟨lw_p2, List.forall_mem_cons.mpr ⟨lw_p3, List.forall_mem_cons.mpr ⟨lw_p4, List.forall_mem_cons.mpr ⟨lw_p5, List.forall_mem_cons.mpr ⟨lw_p6, List.forall_mem_cons.mpr ⟨lw_p7, List.forall_mem_cons.mpr ⟨lw_p8, List.forall_mem_cons.mpr ⟨lw_p9, List.forall_mem_cons.mpr ⟨lw_p10, List.forall_mem_cons.mpr ⟨lw_p11, List.forall_mem_cons.mpr ⟨lw_p12, List.forall_mem_cons.mpr ⟨lw_p13, List.forall_mem_cons.mpr ⟨lw_p14, List.forall_mem_cons.mpr ⟨lw_p15, fun _ h => absurd h List.not_mem_nil⟩⟩⟩⟩⟩⟩⟩⟩⟩⟩⟩⟩⟩⟩⟩⟩
theorem lw_p16 : lw_okq (⟨"FactorHouse$Bill", "begin", "(IIII)V"⟩, 14) := ⟨⟨by decide +kernel, by decide +kernel⟩, List.mem_of_getElem? (i := 64) (by decide +kernel), List.mem_of_getElem? (i := 482) (by decide +kernel), List.mem_of_getElem? (i := 483) (by decide +kernel)⟩
theorem lw_p17 : lw_okq (⟨"FactorHouse", "checkAssignment", "(II)V"⟩, 16) := ⟨⟨by decide +kernel, by decide +kernel⟩, List.mem_of_getElem? (i := 15) (by decide +kernel), List.mem_of_getElem? (i := 500) (by decide +kernel), List.mem_of_getElem? (i := 501) (by decide +kernel)⟩
theorem lw_p18 : lw_okq (⟨"FactorHouse", "firstTime", "(LFactorHouse$Bill;[II)I"⟩, 16) := ⟨⟨by decide +kernel, by decide +kernel⟩, List.mem_of_getElem? (i := 15) (by decide +kernel), List.mem_of_getElem? (i := 505) (by decide +kernel), List.mem_of_getElem? (i := 506) (by decide +kernel)⟩
theorem lw_p19 : lw_okq (⟨"FactorHouse$Bill", "endAssignment", "(I)V"⟩, 14) := ⟨⟨by decide +kernel, by decide +kernel⟩, List.mem_of_getElem? (i := 64) (by decide +kernel), List.mem_of_getElem? (i := 518) (by decide +kernel), List.mem_of_getElem? (i := 519) (by decide +kernel)⟩
theorem lw_p20 : lw_okq (⟨"FactorHouse$Matching", "clear", "()V"⟩, 3) := ⟨⟨by decide +kernel, by decide +kernel⟩, List.mem_of_getElem? (i := 46) (by decide +kernel), List.mem_of_getElem? (i := 530) (by decide +kernel), List.mem_of_getElem? (i := 531) (by decide +kernel)⟩
theorem lw_p21 : lw_okq (⟨"FactorHouse$Matching", "add", "(II)V"⟩, 3) := ⟨⟨by decide +kernel, by decide +kernel⟩, List.mem_of_getElem? (i := 46) (by decide +kernel), List.mem_of_getElem? (i := 534) (by decide +kernel), List.mem_of_getElem? (i := 535) (by decide +kernel)⟩
theorem lw_p22 : lw_okq (⟨"FactorHouse", "checkRoomForStrays", "(I)V"⟩, 16) := ⟨⟨by decide +kernel, by decide +kernel⟩, List.mem_of_getElem? (i := 15) (by decide +kernel), List.mem_of_getElem? (i := 538) (by decide +kernel), List.mem_of_getElem? (i := 539) (by decide +kernel)⟩
theorem lw_p23 : lw_okq (⟨"FactorHouse$Bill", "freeingParty", "()I"⟩, 14) := ⟨⟨by decide +kernel, by decide +kernel⟩, List.mem_of_getElem? (i := 64) (by decide +kernel), List.mem_of_getElem? (i := 542) (by decide +kernel), List.mem_of_getElem? (i := 543) (by decide +kernel)⟩
theorem lw_p24 : lw_okq (⟨"FactorHouse", "payMatched", "(III)V"⟩, 16) := ⟨⟨by decide +kernel, by decide +kernel⟩, List.mem_of_getElem? (i := 15) (by decide +kernel), List.mem_of_getElem? (i := 547) (by decide +kernel), List.mem_of_getElem? (i := 548) (by decide +kernel)⟩
theorem lw_p25 : lw_okq (⟨"FactorHouse", "addStray", "(III)V"⟩, 16) := ⟨⟨by decide +kernel, by decide +kernel⟩, List.mem_of_getElem? (i := 15) (by decide +kernel), List.mem_of_getElem? (i := 551) (by decide +kernel), List.mem_of_getElem? (i := 552) (by decide +kernel)⟩
theorem lw_p26 : lw_okq (⟨"FactorHouse$Stray", "begin", "(III)V"⟩, 4) := ⟨⟨by decide +kernel, by decide +kernel⟩, List.mem_of_getElem? (i := 128) (by decide +kernel), List.mem_of_getElem? (i := 555) (by decide +kernel), List.mem_of_getElem? (i := 556) (by decide +kernel)⟩
theorem lw_p27 : lw_okq (⟨"FactorHouse", "matchLump", "(II)V"⟩, 16) := ⟨⟨by decide +kernel, by decide +kernel⟩, List.mem_of_getElem? (i := 15) (by decide +kernel), List.mem_of_getElem? (i := 563) (by decide +kernel), List.mem_of_getElem? (i := 564) (by decide +kernel)⟩
theorem lw_p28 : lw_okq (⟨"FactorHouse", "lowestOwing", "(II)I"⟩, 16) := ⟨⟨by decide +kernel, by decide +kernel⟩, List.mem_of_getElem? (i := 15) (by decide +kernel), List.mem_of_getElem? (i := 567) (by decide +kernel), List.mem_of_getElem? (i := 568) (by decide +kernel)⟩
theorem lw_p29 : lw_okq (⟨"FactorHouse", "nextDue", "(II)I"⟩, 16) := ⟨⟨by decide +kernel, by decide +kernel⟩, List.mem_of_getElem? (i := 15) (by decide +kernel), List.mem_of_getElem? (i := 571) (by decide +kernel), List.mem_of_getElem? (i := 572) (by decide +kernel)⟩
theorem lw_p30 : lw_okq (⟨"FactorHouse", "isDueBefore", "(II)Z"⟩, 16) := ⟨⟨by decide +kernel, by decide +kernel⟩, List.mem_of_getElem? (i := 15) (by decide +kernel), List.mem_of_getElem? (i := 575) (by decide +kernel), List.mem_of_getElem? (i := 576) (by decide +kernel)⟩
theorem lw_p31 : lw_okq (⟨"FactorHouse", "baseOf", "(II)J"⟩, 16) := ⟨⟨by decide +kernel, by decide +kernel⟩, List.mem_of_getElem? (i := 15) (by decide +kernel), List.mem_of_getElem? (i := 583) (by decide +kernel), List.mem_of_getElem? (i := 584) (by decide +kernel)⟩
def lw_privs_2 : List (MethodName × Nat) := [(⟨"FactorHouse$Bill", "begin", "(IIII)V"⟩, 14), (⟨"FactorHouse", "checkAssignment", "(II)V"⟩, 16), (⟨"FactorHouse", "firstTime", "(LFactorHouse$Bill;[II)I"⟩, 16), (⟨"FactorHouse$Bill", "endAssignment", "(I)V"⟩, 14), (⟨"FactorHouse$Matching", "clear", "()V"⟩, 3), (⟨"FactorHouse$Matching", "add", "(II)V"⟩, 3), (⟨"FactorHouse", "checkRoomForStrays", "(I)V"⟩, 16), (⟨"FactorHouse$Bill", "freeingParty", "()I"⟩, 14), (⟨"FactorHouse", "payMatched", "(III)V"⟩, 16), (⟨"FactorHouse", "addStray", "(III)V"⟩, 16), (⟨"FactorHouse$Stray", "begin", "(III)V"⟩, 4), (⟨"FactorHouse", "matchLump", "(II)V"⟩, 16), (⟨"FactorHouse", "lowestOwing", "(II)I"⟩, 16), (⟨"FactorHouse", "nextDue", "(II)I"⟩, 16), (⟨"FactorHouse", "isDueBefore", "(II)Z"⟩, 16), (⟨"FactorHouse", "baseOf", "(II)J"⟩, 16)]
theorem lw_r2 : ∀ q ∈ lw_privs_2, lw_okq q := List.forall_mem_cons.mpr ⟨lw_p16, List.forall_mem_cons.mpr ⟨lw_p17, List.forall_mem_cons.mpr ⟨lw_p18, List.forall_mem_cons.mpr ⟨lw_p19, List.forall_mem_cons.mpr ⟨lw_p20, List.forall_mem_cons.mpr ⟨lw_p21, List.forall_mem_cons.mpr ⟨lw_p22, List.forall_mem_cons.mpr ⟨lw_p23, List.forall_mem_cons.mpr ⟨lw_p24, List.forall_mem_cons.mpr ⟨lw_p25, List.forall_mem_cons.mpr ⟨lw_p26, List.forall_mem_cons.mpr ⟨lw_p27, List.forall_mem_cons.mpr ⟨lw_p28, List.forall_mem_cons.mpr ⟨lw_p29, List.forall_mem_cons.mpr ⟨lw_p30, List.forall_mem_cons.mpr ⟨lw_p31, fun _ h => absurd h List.not_mem_nil⟩⟩⟩⟩⟩⟩⟩⟩⟩⟩⟩⟩⟩⟩⟩⟩
theorem lw_p32 : lw_okq (⟨"FactorHouse", "countedOwed", "(III)J"⟩, 16) := ⟨⟨by decide +kernel, by decide +kernel⟩, List.mem_of_getElem? (i := 15) (by decide +kernel), List.mem_of_getElem? (i := 587) (by decide +kernel), List.mem_of_getElem? (i := 588) (by decide +kernel)⟩
theorem lw_p33 : lw_okq (⟨"FactorHouse", "payBackAboveBase", "(II)J"⟩, 16) := ⟨⟨by decide +kernel, by decide +kernel⟩, List.mem_of_getElem? (i := 15) (by decide +kernel), List.mem_of_getElem? (i := 597) (by decide +kernel), List.mem_of_getElem? (i := 598) (by decide +kernel)⟩
theorem lw_p34 : lw_okq (⟨"FactorHouse$Bill", "endSilentAssignments", "()I"⟩, 14) := ⟨⟨by decide +kernel, by decide +kernel⟩, List.mem_of_getElem? (i := 64) (by decide +kernel), List.mem_of_getElem? (i := 608) (by decide +kernel), List.mem_of_getElem? (i := 609) (by decide +kernel)⟩
theorem lw_p35 : lw_okq (⟨"FactorHouse$Funder", "addInterest", "()V"⟩, 5) := ⟨⟨by decide +kernel, by decide +kernel⟩, List.mem_of_getElem? (i := 150) (by decide +kernel), List.mem_of_getElem? (i := 624) (by decide +kernel), List.mem_of_getElem? (i := 625) (by decide +kernel)⟩
theorem lw_p36 : lw_okq (⟨"FactorHouse$Journal", "takenOff", "(I)I"⟩, 3) := ⟨⟨by decide +kernel, by decide +kernel⟩, List.mem_of_getElem? (i := 29) (by decide +kernel), List.mem_of_getElem? (i := 656) (by decide +kernel), List.mem_of_getElem? (i := 657) (by decide +kernel)⟩
def lw_privs_3 : List (MethodName × Nat) := [(⟨"FactorHouse", "countedOwed", "(III)J"⟩, 16), (⟨"FactorHouse", "payBackAboveBase", "(II)J"⟩, 16), (⟨"FactorHouse$Bill", "endSilentAssignments", "()I"⟩, 14), (⟨"FactorHouse$Funder", "addInterest", "()V"⟩, 5), (⟨"FactorHouse$Journal", "takenOff", "(I)I"⟩, 3)]
theorem lw_r3 : ∀ q ∈ lw_privs_3, lw_okq q := List.forall_mem_cons.mpr ⟨lw_p32, List.forall_mem_cons.mpr ⟨lw_p33, List.forall_mem_cons.mpr ⟨lw_p34, List.forall_mem_cons.mpr ⟨lw_p35, List.forall_mem_cons.mpr ⟨lw_p36, fun _ h => absurd h List.not_mem_nil⟩⟩⟩⟩⟩
def lw_privs : List (MethodName × Nat) := lw_privs_1 ++ (lw_privs_2 ++ (lw_privs_3))
def lw_tbl : List Cond := k2_sels lw_privs ++ tables_1
theorem lw_privs_ok : ∀ q ∈ lw_privs, lw_okq q := by
  show ∀ q ∈ lw_privs_1 ++ (lw_privs_2 ++ (lw_privs_3)), lw_okq q
  exact List.forall_mem_append.mpr ⟨lw_r1, List.forall_mem_append.mpr ⟨lw_r2, lw_r3⟩⟩
def sd_tb : List Cond := lw_tbl.filter goodWord
def sd_part : Nat → List Cond
  | 0 => k2_sels lw_privs
  | 1 => tables_1_1
  | 2 => tables_1_2
  | 3 => tables_1_3
  | _ => []
theorem sd_part_in (k : Nat) : ∀ w ∈ sd_part k, w ∈ lw_tbl := by
  have hL : lw_tbl = k2_sels lw_privs ++ (tables_1_1 ++ (tables_1_2 ++ (tables_1_3))) := rfl
  intro w hw
  rw [hL]
  match k, hw with
  | 0, hw => exact List.mem_append_left _ hw
  | 1, hw => exact List.mem_append_right _ (List.mem_append_left _ hw)
  | 2, hw => exact List.mem_append_right _ (List.mem_append_right _ (List.mem_append_left _ hw))
  | 3, hw => exact List.mem_append_right _ (List.mem_append_right _ (List.mem_append_right _ (hw)))
  | k + 4, hw => cases hw
def sd_wp (p : Nat) : Option Cond := (sd_part (p / 1000))[p % 1000]?
theorem sd_wp_in {p : Nat} {w : Cond} (h : sd_wp p = some w) : w ∈ lw_tbl := sd_part_in _ w (List.mem_of_getElem? h)
def sd_at (p : Nat) (w : Cond) : Bool := decide (sd_wp p = some w) && goodWord w
theorem sd_at_ok {p : Nat} {w : Cond} (h : sd_at p w = true) : w ∈ sd_tb := by
  unfold sd_at at h
  rw [Bool.and_eq_true] at h
  exact List.mem_filter.mpr ⟨sd_wp_in (of_decide_eq_true h.1), h.2⟩
theorem sd_tabled {β γ : Type} {T : List ((Nat × Nat) × β)} {ps : List γ} {chk : Nat → Nat → β → γ → Bool} (hl : T.length = ps.length) (h : (T.zip ps).all (fun e => chk e.1.1.1 e.1.1.2 e.1.2 e.2) = true) {a b : Nat} {v : β} (hv : ai_look T a b = some v) : ∃ p, chk a b v p = true := by
  induction T generalizing ps with
  | nil => cases hv
  | cons q T ih =>
    obtain ⟨k, x⟩ := q
    cases ps with
    | nil => cases hl
    | cons p ps =>
      rw [List.zip_cons_cons, List.all_cons, Bool.and_eq_true] at h
      unfold ai_look at hv
      split at hv
      · rename_i he
        rw [Bool.and_eq_true, beq_iff_eq, beq_iff_eq] at he
        cases hv
        rw [← he.1, ← he.2]
        exact ⟨p, h.1⟩
      · exact ih (Nat.succ.inj hl) h.2 hv
def sd_R : Nat → String
  | 0 => "FactorHouse"
  | 1 => "FactorHouse$Bill"
  | 2 => "FactorHouse$Funder"
  | 3 => "FactorHouse$Journal"
  | 4 => "FactorHouse$Matching"
  | 5 => "FactorHouse$Stray"
  | 6 => "FactorHouseLaw"
  | _ => ""
theorem sd_ws_ok {C : String} {T : u_T} {N : Nat} {ps : List Nat} (h : ((List.range N).zip ps).all (fun e => sd_at e.2 (u_lay C T e.1)) = true) (hl : ps.length = N) : ∀ w ∈ u_ws C T N, w ∈ sd_tb := by
  intro w hw
  obtain ⟨k, hk, rfl⟩ := List.mem_map.mp hw
  have hk' := List.mem_range.mp hk
  have h1 : ((List.range N).zip ps)[k]? = some (k, ps[k]'(by omega)) := by
    rw [List.getElem?_zip_eq_some]
    exact ⟨by simp [hk'], by simp⟩
  exact sd_at_ok (List.all_eq_true.mp h _ (List.mem_of_getElem? h1))
def sd_F0 : u_T := fun k => match k with
  | 0 => ("FactorHouse", "bills", "[LFactorHouse$Bill;", true)
  | 1 => ("FactorHouse", "billCount", "I", false)
  | 2 => ("FactorHouse", "strays", "[LFactorHouse$Stray;", true)
  | 3 => ("FactorHouse", "strayCount", "I", false)
  | 4 => ("FactorHouse", "funders", "[LFactorHouse$Funder;", true)
  | 5 => ("FactorHouse", "journal", "LFactorHouse$Journal;", true)
  | 6 => ("FactorHouse", "matching", "LFactorHouse$Matching;", true)
  | 7 => ("FactorHouse", "partyPurses", "[J", true)
  | 8 => ("FactorHouse", "buyerPurses", "[J", true)
  | 9 => ("FactorHouse", "hasFailed", "[Z", true)
  | 10 => ("FactorHouse", "countedByBuyer", "[J", true)
  | 11 => ("FactorHouse", "today", "I", false)
  | 12 => ("FactorHouse", "lastTurn", "I", false)
  | 13 => ("FactorHouse", "pooledCount", "I", false)
  | 14 => ("FactorHouse", "everPooled", "J", false)
  | _ => ("FactorHouse", "badPooled", "J", false)

def sd_t0 : Nat → FieldType := fun k => match k with
  | 0 => .array (.object "FactorHouse$Bill")
  | 1 => .int
  | 2 => .array (.object "FactorHouse$Stray")
  | 3 => .int
  | 4 => .array (.object "FactorHouse$Funder")
  | 5 => .object "FactorHouse$Journal"
  | 6 => .object "FactorHouse$Matching"
  | 7 => .array (.long)
  | 8 => .array (.long)
  | 9 => .array (.boolean)
  | 10 => .array (.long)
  | 11 => .int
  | 12 => .int
  | 13 => .int
  | 14 => .long
  | _ => .long

theorem sd_nf0 : ∀ a, a < 16 → ∀ b, b < 16 → a ≠ b → (sd_F0 a).2.1 ≠ (sd_F0 b).2.1 := by decide +kernel
theorem sd_to0 : ∀ k, k < 16 → parseFieldDescriptor (sd_F0 k).2.2.1 = some (sd_t0 k) := by decide +kernel
theorem sd_w0 : ∀ w ∈ u_ws (sd_R 0) sd_F0 16, w ∈ sd_tb := sd_ws_ok (by decide +kernel : ((List.range 16).zip [1192, 1194, 1196, 1198, 1200, 1202, 1204, 1206, 1208, 1210, 1212, 1214, 1216, 1218, 1220, 1222]).all (fun e => sd_at e.2 (u_lay (sd_R 0) sd_F0 e.1)) = true) rfl
def sd_F1 : u_T := fun k => match k with
  | 0 => ("FactorHouse$Bill", "seller", "I", false)
  | 1 => ("FactorHouse$Bill", "buyer", "I", false)
  | 2 => ("FactorHouse$Bill", "amount", "I", false)
  | 3 => ("FactorHouse$Bill", "owed", "I", false)
  | 4 => ("FactorHouse$Bill", "dueDay", "I", false)
  | 5 => ("FactorHouse$Bill", "isDisputed", "Z", false)
  | 6 => ("FactorHouse$Bill", "wasAssigned", "[Z", true)
  | 7 => ("FactorHouse$Bill", "assignedTurns", "[I", true)
  | 8 => ("FactorHouse$Bill", "noticeTurns", "[I", true)
  | 9 => ("FactorHouse$Bill", "registerTurns", "[I", true)
  | 10 => ("FactorHouse$Bill", "wasPooled", "Z", false)
  | 11 => ("FactorHouse$Bill", "isPooled", "Z", false)
  | 12 => ("FactorHouse$Bill", "pooledSlot", "I", false)
  | _ => ("FactorHouse$Bill", "pooledCents", "I", false)

def sd_t1 : Nat → FieldType := fun k => match k with
  | 0 => .int
  | 1 => .int
  | 2 => .int
  | 3 => .int
  | 4 => .int
  | 5 => .boolean
  | 6 => .array (.boolean)
  | 7 => .array (.int)
  | 8 => .array (.int)
  | 9 => .array (.int)
  | 10 => .boolean
  | 11 => .boolean
  | 12 => .int
  | _ => .int

theorem sd_nf1 : ∀ a, a < 14 → ∀ b, b < 14 → a ≠ b → (sd_F1 a).2.1 ≠ (sd_F1 b).2.1 := by decide +kernel
theorem sd_to1 : ∀ k, k < 14 → parseFieldDescriptor (sd_F1 k).2.2.1 = some (sd_t1 k) := by decide +kernel
theorem sd_w1 : ∀ w ∈ u_ws (sd_R 1) sd_F1 14, w ∈ sd_tb := sd_ws_ok (by decide +kernel : ((List.range 14).zip [1097, 1099, 1101, 1103, 1105, 1107, 1109, 1111, 1113, 1115, 1117, 1119, 1121, 1123]).all (fun e => sd_at e.2 (u_lay (sd_R 1) sd_F1 e.1)) = true) rfl
def sd_F2 : u_T := fun k => match k with
  | 0 => ("FactorHouse$Funder", "rate", "I", false)
  | 1 => ("FactorHouse$Funder", "share", "I", false)
  | 2 => ("FactorHouse$Funder", "interest", "I", false)
  | 3 => ("FactorHouse$Funder", "limits", "[I", true)
  | _ => ("FactorHouse$Funder", "drawnBy", "[J", true)

def sd_t2 : Nat → FieldType := fun k => match k with
  | 0 => .int
  | 1 => .int
  | 2 => .int
  | 3 => .array (.int)
  | _ => .array (.long)

theorem sd_nf2 : ∀ a, a < 5 → ∀ b, b < 5 → a ≠ b → (sd_F2 a).2.1 ≠ (sd_F2 b).2.1 := by decide +kernel
theorem sd_to2 : ∀ k, k < 5 → parseFieldDescriptor (sd_F2 k).2.2.1 = some (sd_t2 k) := by decide +kernel
theorem sd_w2 : ∀ w ∈ u_ws (sd_R 2) sd_F2 5, w ∈ sd_tb := sd_ws_ok (by decide +kernel : ((List.range 5).zip [1165, 1167, 1169, 1171, 1173]).all (fun e => sd_at e.2 (u_lay (sd_R 2) sd_F2 e.1)) = true) rfl
def sd_F3 : u_T := fun k => match k with
  | 0 => ("FactorHouse$Journal", "numbers", "[I", true)
  | 1 => ("FactorHouse$Journal", "cents", "[I", true)
  | _ => ("FactorHouse$Journal", "count", "I", false)

def sd_t3 : Nat → FieldType := fun k => match k with
  | 0 => .array (.int)
  | 1 => .array (.int)
  | _ => .int

theorem sd_nf3 : ∀ a, a < 3 → ∀ b, b < 3 → a ≠ b → (sd_F3 a).2.1 ≠ (sd_F3 b).2.1 := by decide +kernel
theorem sd_to3 : ∀ k, k < 3 → parseFieldDescriptor (sd_F3 k).2.2.1 = some (sd_t3 k) := by decide +kernel
theorem sd_w3 : ∀ w ∈ u_ws (sd_R 3) sd_F3 3, w ∈ sd_tb := sd_ws_ok (by decide +kernel : ((List.range 3).zip [1037, 1039, 1041]).all (fun e => sd_at e.2 (u_lay (sd_R 3) sd_F3 e.1)) = true) rfl
def sd_F4 : u_T := fun k => match k with
  | 0 => ("FactorHouse$Matching", "numbers", "[I", true)
  | 1 => ("FactorHouse$Matching", "cents", "[I", true)
  | _ => ("FactorHouse$Matching", "count", "I", false)

def sd_t4 : Nat → FieldType := fun k => match k with
  | 0 => .array (.int)
  | 1 => .array (.int)
  | _ => .int

theorem sd_nf4 : ∀ a, a < 3 → ∀ b, b < 3 → a ≠ b → (sd_F4 a).2.1 ≠ (sd_F4 b).2.1 := by decide +kernel
theorem sd_to4 : ∀ k, k < 3 → parseFieldDescriptor (sd_F4 k).2.2.1 = some (sd_t4 k) := by decide +kernel
theorem sd_w4 : ∀ w ∈ u_ws (sd_R 4) sd_F4 3, w ∈ sd_tb := sd_ws_ok (by decide +kernel : ((List.range 3).zip [1057, 1059, 1061]).all (fun e => sd_at e.2 (u_lay (sd_R 4) sd_F4 e.1)) = true) rfl
def sd_F5 : u_T := fun k => match k with
  | 0 => ("FactorHouse$Stray", "number", "I", false)
  | 1 => ("FactorHouse$Stray", "party", "I", false)
  | 2 => ("FactorHouse$Stray", "cents", "I", false)
  | _ => ("FactorHouse$Stray", "isMended", "Z", false)

def sd_t5 : Nat → FieldType := fun k => match k with
  | 0 => .int
  | 1 => .int
  | 2 => .int
  | _ => .boolean

theorem sd_nf5 : ∀ a, a < 4 → ∀ b, b < 4 → a ≠ b → (sd_F5 a).2.1 ≠ (sd_F5 b).2.1 := by decide +kernel
theorem sd_to5 : ∀ k, k < 4 → parseFieldDescriptor (sd_F5 k).2.2.1 = some (sd_t5 k) := by decide +kernel
theorem sd_w5 : ∀ w ∈ u_ws (sd_R 5) sd_F5 4, w ∈ sd_tb := sd_ws_ok (by decide +kernel : ((List.range 4).zip [1141, 1143, 1145, 1147]).all (fun e => sd_at e.2 (u_lay (sd_R 5) sd_F5 e.1)) = true) rfl
def sd_F : Nat → u_T
  | 0 => sd_F0
  | 1 => sd_F1
  | 2 => sd_F2
  | 3 => sd_F3
  | 4 => sd_F4
  | 5 => sd_F5
  | _ => sd_F0
def sd_n : Nat → Nat
  | 0 => 16
  | 1 => 14
  | 2 => 5
  | 3 => 3
  | 4 => 3
  | 5 => 4
  | _ => 0
def sd_t : Nat → Nat → FieldType
  | 0 => sd_t0
  | 1 => sd_t1
  | 2 => sd_t2
  | 3 => sd_t3
  | 4 => sd_t4
  | 5 => sd_t5
  | _ => sd_t0
/-- of which sort a field is: 0 int, 1 long, 2 a reference, 3 boolean -/
def sd_ft : Nat → List Nat
  | 0 => [2, 0, 2, 0, 2, 2, 2, 2, 2, 2, 2, 0, 0, 0, 1, 1]
  | 1 => [0, 0, 0, 0, 0, 3, 2, 2, 2, 2, 3, 3, 0, 0]
  | 2 => [0, 0, 0, 2, 2]
  | 3 => [2, 2, 0]
  | 4 => [2, 2, 0]
  | 5 => [0, 0, 0, 3]
  | _ => []
def sd_cl : List vw_C := [(sd_R 0, sd_F0, 16), (sd_R 1, sd_F1, 14), (sd_R 2, sd_F2, 5), (sd_R 3, sd_F3, 3), (sd_R 4, sd_F4, 3), (sd_R 5, sd_F5, 4)]
theorem sd_nfs {c : Nat} (hc : c < 6) : ∀ a, a < sd_n c → ∀ b, b < sd_n c → a ≠ b → (sd_F c a).2.1 ≠ (sd_F c b).2.1 := by
  match c, hc with
  | 0, _ => exact sd_nf0
  | 1, _ => exact sd_nf1
  | 2, _ => exact sd_nf2
  | 3, _ => exact sd_nf3
  | 4, _ => exact sd_nf4
  | 5, _ => exact sd_nf5
theorem sd_tos {c : Nat} (hc : c < 6) : ∀ k, k < sd_n c → parseFieldDescriptor (sd_F c k).2.2.1 = some (sd_t c k) := by
  match c, hc with
  | 0, _ => exact sd_to0
  | 1, _ => exact sd_to1
  | 2, _ => exact sd_to2
  | 3, _ => exact sd_to3
  | 4, _ => exact sd_to4
  | 5, _ => exact sd_to5
theorem sd_wss {c : Nat} (hc : c < 6) : ∀ w ∈ u_ws (sd_R c) (sd_F c) (sd_n c), w ∈ sd_tb := by
  match c, hc with
  | 0, _ => exact sd_w0
  | 1, _ => exact sd_w1
  | 2, _ => exact sd_w2
  | 3, _ => exact sd_w3
  | 4, _ => exact sd_w4
  | 5, _ => exact sd_w5
theorem sd_cls {c : Nat} (hc : c < 6) : sd_cl[c]? = some (sd_R c, sd_F c, sd_n c) := by
  match c, hc with
  | 0, _ => rfl
  | 1, _ => rfl
  | 2, _ => rfl
  | 3, _ => rfl
  | 4, _ => rfl
  | 5, _ => rfl
def sd_nm0 : List (Nat × MethodName) := [(0, ⟨"FactorHouse", "<init>", "()V"⟩), (1, ⟨"FactorHouse", "invoice", "(IIII)I"⟩), (2, ⟨"FactorHouse", "credit", "(II)I"⟩), (3, ⟨"FactorHouse", "dispute", "(IZ)Z"⟩), (4, ⟨"FactorHouse", "assign", "(IIZ)I"⟩), (5, ⟨"FactorHouse", "notice", "(II)I"⟩), (6, ⟨"FactorHouse", "register", "(II)I"⟩), (7, ⟨"FactorHouse", "giveBack", "(II)I"⟩), (8, ⟨"FactorHouse", "invoiceIs", "(II)I"⟩), (9, ⟨"FactorHouse", "owedAnew", "(I)I"⟩), (10, ⟨"FactorHouse", "pay", "(III)I"⟩), (11, ⟨"FactorHouse", "lump", "(III)I"⟩), (12, ⟨"FactorHouse", "mend", "()I"⟩), (13, ⟨"FactorHouse", "purse", "(I)J"⟩), (14, ⟨"FactorHouse", "buyer", "(I)J"⟩), (15, ⟨"FactorHouse", "balances", "()Z"⟩), (16, ⟨"FactorHouse", "factor", "(IIII)V"⟩), (17, ⟨"FactorHouse", "limit", "(III)V"⟩), (18, ⟨"FactorHouse", "base", "(II)J"⟩), (19, ⟨"FactorHouse", "drawn", "(II)J"⟩), (20, ⟨"FactorHouse", "draw", "(III)J"⟩), (21, ⟨"FactorHouse", "recourse", "(I)J"⟩), (22, ⟨"FactorHouse", "fail", "(I)I"⟩), (23, ⟨"FactorHouse", "pass", "(I)I"⟩), (24, ⟨"FactorHouse", "pool", "(I)I"⟩), (25, ⟨"FactorHouse", "look", "()I"⟩), (26, ⟨"FactorHouse", "financed", "()J"⟩), (27, ⟨"FactorHouse", "checkSeller", "(I)V"⟩), (28, ⟨"FactorHouse", "checkFactor", "(I)V"⟩), (29, ⟨"FactorHouse", "checkParty", "(I)V"⟩), (30, ⟨"FactorHouse", "checkBuyer", "(I)V"⟩), (31, ⟨"FactorHouse", "checkBill", "(I)V"⟩), (32, ⟨"FactorHouse", "checkRange", "(IIJ)V"⟩), (33, ⟨"FactorHouse", "checkNotFailed", "(I)V"⟩), (34, ⟨"FactorHouse", "checkAssignment", "(II)V"⟩), (35, ⟨"FactorHouse", "checkRoomForStrays", "(I)V"⟩), (36, ⟨"FactorHouse", "firstTime", "(LFactorHouse$Bill;[II)I"⟩), (37, ⟨"FactorHouse", "matchLump", "(II)V"⟩), (38, ⟨"FactorHouse", "lowestOwing", "(II)I"⟩), (39, ⟨"FactorHouse", "nextDue", "(II)I"⟩), (40, ⟨"FactorHouse", "isDueBefore", "(II)Z"⟩), (41, ⟨"FactorHouse", "payMatched", "(III)V"⟩), (42, ⟨"FactorHouse", "addStray", "(III)V"⟩), (43, ⟨"FactorHouse", "mendStray", "(LFactorHouse$Stray;)V"⟩), (44, ⟨"FactorHouse", "settle", "(III)V"⟩), (45, ⟨"FactorHouse", "takeOff", "(II)V"⟩), (46, ⟨"FactorHouse", "move", "(IIJ)V"⟩), (47, ⟨"FactorHouse", "isOld", "(LFactorHouse$Bill;)Z"⟩), (48, ⟨"FactorHouse", "countingSlot", "(LFactorHouse$Bill;)I"⟩), (49, ⟨"FactorHouse", "isSound", "(LFactorHouse$Bill;)Z"⟩), (50, ⟨"FactorHouse", "isMostlyOld", "(II)Z"⟩), (51, ⟨"FactorHouse", "countedOwed", "(III)J"⟩), (52, ⟨"FactorHouse", "baseOf", "(II)J"⟩), (53, ⟨"FactorHouse", "payBackAboveBase", "(II)J"⟩), (54, ⟨"FactorHouse", "takeOut", "(LFactorHouse$Bill;)V"⟩)]
def sd_nm1 : List (Nat × MethodName) := [(100, ⟨"FactorHouse$Bill", "<init>", "()V"⟩), (101, ⟨"FactorHouse$Bill", "begin", "(IIII)V"⟩), (102, ⟨"FactorHouse$Bill", "owner", "()I"⟩), (103, ⟨"FactorHouse$Bill", "ownerSlot", "()I"⟩), (104, ⟨"FactorHouse$Bill", "freeingParty", "()I"⟩), (105, ⟨"FactorHouse$Bill", "partyIn", "(I)I"⟩), (106, ⟨"FactorHouse$Bill", "firstSlot", "([I)I"⟩), (107, ⟨"FactorHouse$Bill", "endAssignment", "(I)V"⟩), (108, ⟨"FactorHouse$Bill", "endSilentAssignments", "()I"⟩)]
def sd_nm2 : List (Nat × MethodName) := [(200, ⟨"FactorHouse$Funder", "<init>", "()V"⟩), (201, ⟨"FactorHouse$Funder", "addInterest", "()V"⟩)]
def sd_nm3 : List (Nat × MethodName) := [(300, ⟨"FactorHouse$Journal", "<init>", "()V"⟩), (301, ⟨"FactorHouse$Journal", "add", "(II)V"⟩), (302, ⟨"FactorHouse$Journal", "takenOff", "(I)I"⟩)]
def sd_nm4 : List (Nat × MethodName) := [(400, ⟨"FactorHouse$Matching", "<init>", "()V"⟩), (401, ⟨"FactorHouse$Matching", "clear", "()V"⟩), (402, ⟨"FactorHouse$Matching", "add", "(II)V"⟩)]
def sd_nm5 : List (Nat × MethodName) := [(500, ⟨"FactorHouse$Stray", "<init>", "()V"⟩), (501, ⟨"FactorHouse$Stray", "begin", "(III)V"⟩)]
def sd_nm6 : List (Nat × MethodName) := [(600, ⟨"FactorHouseLaw", "without", "(II)I"⟩), (601, ⟨"FactorHouseLaw", "with", "(II)I"⟩), (602, ⟨"FactorHouseLaw", "has", "(II)Z"⟩), (603, ⟨"FactorHouseLaw", "free", "([I[II)I"⟩), (604, ⟨"FactorHouseLaw", "owner", "([I[II)I"⟩), (605, ⟨"FactorHouseLaw", "counts", "([I[I[III)Z"⟩), (606, ⟨"FactorHouseLaw", "base", "([I[I[I[I[III)J"⟩), (607, ⟨"FactorHouseLaw", "comes", "([I[I[J[JIII)V"⟩), (608, ⟨"FactorHouseLaw", "matches", "([I[I[J[J[I[I[IIII)V"⟩), (609, ⟨"FactorHouseLaw", "lumps", "([I[I[J[J[I[I[IIII)I"⟩), (610, ⟨"FactorHouseLaw", "mends", "([I[I[J[J[I[I[I)I"⟩), (611, ⟨"FactorHouseLaw", "does", "(LFactorHouse;IIIII)J"⟩), (612, ⟨"FactorHouseLaw", "isHouse", "(LFactorHouse;[I[I[J[J[I[I[I[I)Z"⟩), (613, ⟨"FactorHouseLaw", "law", "([I)Z"⟩)]
def sd_nms (w : Nat) : List (Nat × MethodName) := match w with
  | 0 => sd_nm0
  | 1 => sd_nm1
  | 2 => sd_nm2
  | 3 => sd_nm3
  | 4 => sd_nm4
  | 5 => sd_nm5
  | 6 => sd_nm6
  | _ => []
def sd_nm (m : Nat) : MethodName := ai_find ⟨"", "", ""⟩ (sd_nms (m / 100)) m
def sd_hw : List (Nat × List (Nat × Nat × Nat × Nat)) := [(611, [(0, 207, 208, 78), (0, 207, 214, 82), (0, 207, 220, 86)])]
def sd_rt : Nat → Option FieldType
  | 0 => none
  | 1 => some .int
  | 2 => some .boolean
  | _ => some .long
/-- a method's own word -/
def sd_cw (y : Nat) : Cond := match ai_find [] sd_hw y with
  | [] => .code (sd_nm y) (ai_by y) (ai_mx y) (sd_rt (ai_rk y))
  | l => .codeWith (sd_nm y) (ai_by y) (ai_mx y) (sd_rt (ai_rk y)) l
def sd_lf : List (String × Nat × String × String × String × String) := [("FactorHouse", 316, "FactorHouse$Matching", "numbers", "[I", "FactorHouse"), ("FactorHouse", 333, "FactorHouse$Matching", "cents", "[I", "FactorHouse"), ("FactorHouse", 208, "FactorHouse$Matching", "count", "I", "FactorHouse"), ("FactorHouse", 134, "FactorHouse$Bill", "seller", "I", "FactorHouse"), ("FactorHouse", 198, "FactorHouse$Bill", "buyer", "I", "FactorHouse"), ("FactorHouse", 173, "FactorHouse$Bill", "amount", "I", "FactorHouse"), ("FactorHouse", 113, "FactorHouse$Bill", "owed", "I", "FactorHouse"), ("FactorHouse", 166, "FactorHouse$Bill", "dueDay", "I", "FactorHouse"), ("FactorHouse", 120, "FactorHouse$Bill", "isDisputed", "Z", "FactorHouse"), ("FactorHouse", 127, "FactorHouse$Bill", "wasAssigned", "[Z", "FactorHouse"), ("FactorHouse", 137, "FactorHouse$Bill", "assignedTurns", "[I", "FactorHouse"), ("FactorHouse", 141, "FactorHouse$Bill", "noticeTurns", "[I", "FactorHouse"), ("FactorHouse", 155, "FactorHouse$Bill", "registerTurns", "[I", "FactorHouse"), ("FactorHouse", 272, "FactorHouse$Bill", "wasPooled", "Z", "FactorHouse"), ("FactorHouse", 277, "FactorHouse$Bill", "isPooled", "Z", "FactorHouse"), ("FactorHouse", 280, "FactorHouse$Bill", "pooledSlot", "I", "FactorHouse"), ("FactorHouse", 283, "FactorHouse$Bill", "pooledCents", "I", "FactorHouse"), ("FactorHouse", 343, "FactorHouse$Stray", "number", "I", "FactorHouse"), ("FactorHouse", 214, "FactorHouse$Stray", "party", "I", "FactorHouse"), ("FactorHouse", 217, "FactorHouse$Stray", "cents", "I", "FactorHouse"), ("FactorHouse", 211, "FactorHouse$Stray", "isMended", "Z", "FactorHouse"), ("FactorHouse", 228, "FactorHouse$Funder", "rate", "I", "FactorHouse"), ("FactorHouse", 231, "FactorHouse$Funder", "share", "I", "FactorHouse"), ("FactorHouse", 234, "FactorHouse$Funder", "interest", "I", "FactorHouse"), ("FactorHouse", 239, "FactorHouse$Funder", "limits", "[I", "FactorHouse"), ("FactorHouse", 246, "FactorHouse$Funder", "drawnBy", "[J", "FactorHouse")]
def sd_lfp : List Nat := [1052, 1054, 1056, 1070, 1072, 1074, 1076, 1078, 1080, 1082, 1084, 1086, 1088, 1090, 1092, 1094, 1096, 1134, 1136, 1138, 1140, 1156, 1158, 1160, 1162, 1164]
def sd_lm : List (String × Nat × MethodName × String) := [("FactorHouse", 36, ⟨"FactorHouse$Journal", "<init>", "()V"⟩, "FactorHouse"), ("FactorHouse", 43, ⟨"FactorHouse$Matching", "<init>", "()V"⟩, "FactorHouse"), ("FactorHouse", 78, ⟨"FactorHouse$Bill", "<init>", "()V"⟩, "FactorHouse"), ("FactorHouse", 79, ⟨"FactorHouse$Stray", "<init>", "()V"⟩, "FactorHouse"), ("FactorHouse", 80, ⟨"FactorHouse$Funder", "<init>", "()V"⟩, "FactorHouse"), ("FactorHouse", 349, ⟨"FactorHouse$Journal", "add", "(II)V"⟩, "FactorHouse"), ("FactorHouse", 144, ⟨"FactorHouse$Bill", "owner", "()I"⟩, "FactorHouse"), ("FactorHouse", 252, ⟨"FactorHouse$Bill", "ownerSlot", "()I"⟩, "FactorHouse"), ("FactorHouse", 106, ⟨"FactorHouse$Bill", "begin", "(IIII)V"⟩, "FactorHouse"), ("FactorHouse", 158, ⟨"FactorHouse$Bill", "endAssignment", "(I)V"⟩, "FactorHouse"), ("FactorHouse", 183, ⟨"FactorHouse$Matching", "clear", "()V"⟩, "FactorHouse"), ("FactorHouse", 192, ⟨"FactorHouse$Matching", "add", "(II)V"⟩, "FactorHouse"), ("FactorHouse", 163, ⟨"FactorHouse$Bill", "freeingParty", "()I"⟩, "FactorHouse"), ("FactorHouse", 341, ⟨"FactorHouse$Stray", "begin", "(III)V"⟩, "FactorHouse"), ("FactorHouse", 262, ⟨"FactorHouse$Bill", "endSilentAssignments", "()I"⟩, "FactorHouse"), ("FactorHouse", 267, ⟨"FactorHouse$Funder", "addInterest", "()V"⟩, "FactorHouse"), ("FactorHouse", 176, ⟨"FactorHouse$Journal", "takenOff", "(I)I"⟩, "FactorHouse")]
def sd_lmp : List Nat := [1030, 1047, 1065, 1129, 1151, 2080, 2084, 2103, 3001, 3037, 3049, 3053, 3061, 3074, 3127, 3143, 3175]
def sd_la : List (String × String) := [("java/lang/IndexOutOfBoundsException", "java/lang/IndexOutOfBoundsException"), ("java/lang/IllegalArgumentException", "java/lang/IllegalArgumentException"), ("java/lang/IllegalStateException", "java/lang/IllegalStateException")]
def sd_lap : List Nat := [1235, 2121, 2222]
def sd_ld : List MethodName := [⟨"java/lang/RuntimeException", "<init>", "()V"⟩, ⟨"java/lang/RuntimeException", "<init>", "(Ljava/lang/String;)V"⟩, ⟨"java/lang/Exception", "<init>", "()V"⟩, ⟨"java/lang/Exception", "<init>", "(Ljava/lang/String;)V"⟩, ⟨"java/lang/Throwable", "<init>", "()V"⟩, ⟨"java/lang/Throwable", "<init>", "(Ljava/lang/String;)V"⟩]
def sd_ldp : List Nat := [1236, 1237, 1238, 1239, 2000, 2001]
def sd_ls : List (String × Nat × String) := [("FactorHouse", 305, "there is no such invoice"), ("FactorHouse", 299, "there is no such factor"), ("FactorHouse", 309, "an argument is out of its range"), ("FactorHouse", 303, "there is no such buyer"), ("FactorHouse", 296, "there is no such seller"), ("FactorHouse", 98, "there are 40 invoices"), ("FactorHouse", 312, "the seller failed"), ("FactorHouse", 130, "it was assigned to this factor"), ("FactorHouse", 132, "nothing is owed"), ("FactorHouse", 314, "there is no such assignment"), ("FactorHouse", 321, "the assignment has it already"), ("FactorHouse", 301, "there is no such party"), ("FactorHouse", 319, "there would be more than 30 wrong payments"), ("FactorHouse", 255, "its owner is no factor"), ("FactorHouse", 257, "it is neither disputed nor due for so long"), ("FactorHouse", 270, "it counts for none"), ("FactorHouse", 275, "it was put in"), ("FactorHouse", 265, "it would be above 3000")]
def sd_lsp : List Nat := [2034, 2114, 2128, 2143, 2217, 2229, 3000, 3013, 3014, 3023, 3028, 3048, 3065, 3114, 3115, 3136, 3137, 3142]
def sd_lo : List String := ["FactorHouse$Bill", "FactorHouse$Stray", "FactorHouse$Funder"]
def sd_lop : List Nat := [1023, 1025, 1027]
theorem sd_all2 {α : Type} {f : α → Cond} {l : List α} {ps : List Nat} (hl : l.length = ps.length) (h : (l.zip ps).all (fun e => decide (sd_wp e.2 = some (f e.1))) = true) : ∀ q ∈ l, f q ∈ lw_tbl := by
  induction l generalizing ps with
  | nil => intro q hq; cases hq
  | cons a l ih =>
    cases ps with
    | nil => cases hl
    | cons p ps =>
      rw [List.zip_cons_cons, List.all_cons, Bool.and_eq_true] at h
      intro q hq
      rcases List.mem_cons.mp hq with rfl | hq
      · exact sd_wp_in (of_decide_eq_true h.1)
      · exact ih (Nat.succ.inj hl) h.2 q hq
theorem sd_lf_ok : ∀ q ∈ sd_lf, (fun q => Cond.fieldLinkNest q.1 q.2.1 q.2.2.1 q.2.2.2.1 q.2.2.2.2.1 q.2.2.2.2.2) q ∈ lw_tbl := sd_all2 (ps := sd_lfp) rfl (by decide +kernel)
theorem sd_lm_ok : ∀ q ∈ sd_lm, (fun q => Cond.methodLinkNest q.1 q.2.1 q.2.2.1 q.2.2.2) q ∈ lw_tbl := sd_all2 (ps := sd_lmp) rfl (by decide +kernel)
theorem sd_la_ok : ∀ q ∈ sd_la, (fun q => Cond.castable q.1 q.2) q ∈ lw_tbl := sd_all2 (ps := sd_lap) rfl (by decide +kernel)
theorem sd_ld_ok : ∀ q ∈ sd_ld, (fun q => Cond.declares q) q ∈ lw_tbl := sd_all2 (ps := sd_ldp) rfl (by decide +kernel)
theorem sd_ls_ok : ∀ q ∈ sd_ls, (fun q => Cond.stringRef q.1 q.2.1 q.2.2) q ∈ lw_tbl := sd_all2 (ps := sd_lsp) rfl (by decide +kernel)
theorem sd_lo_ok : ∀ q ∈ sd_lo, (fun q => Cond.arrayOver (.object q)) q ∈ lw_tbl := sd_all2 (ps := sd_lop) rfl (by decide +kernel)
def sd_fw (w idx c k : Nat) : Cond := .fieldLink (sd_R w) idx (sd_R c) (sd_F c k).2.1 (sd_F c k).2.2.1
def sd_fn (w idx c k : Nat) : String × Nat × String × String × String × String := (sd_R w, idx, sd_R c, (sd_F c k).2.1, (sd_F c k).2.2.1, "FactorHouse")
def sd_fk (w idx : Nat) (v : Nat × Nat × Nat) (p : Nat) : Bool := decide (v.1 < 6) && decide (v.2.1 < sd_n v.1) && decide ((sd_ft v.1)[v.2.1]? = some v.2.2) && (if p = 99999 then decide (sd_fn w idx v.1 v.2.1 ∈ sd_lf) else sd_at p (sd_fw w idx v.1 v.2.1))
theorem sd_fl_ok {w idx : Nat} {v : Nat × Nat × Nat} (h : ai_fl w idx = some v) : ∃ p, sd_fk w idx v p = true := sd_tabled (T := ai_flT) (chk := sd_fk) (ps := [1176, 1177, 1178, 1179, 1180, 1181, 1182, 1183, 1184, 1185, 1186, 1187, 1188, 1189, 1190, 1191, 99999, 99999, 99999, 99999, 99999, 99999, 99999, 99999, 99999, 99999, 99999, 99999, 99999, 99999, 99999, 99999, 99999, 99999, 99999, 99999, 99999, 99999, 99999, 99999, 99999, 1069, 1083, 1085, 1087, 1159, 1163, 1034, 1035, 1036, 1051, 1053, 1055]) rfl (by decide +kernel) h
def sd_fkp (m idx : Nat) (v : Nat × Nat × Nat) (p : Nat) : Bool := sd_fk (m / 100) idx v p && (!(sd_F v.1 v.2.1).2.2.2 || (decide ((sd_nm m).name = "<init>") && decide (v.1 = m / 100) && decide (p ≠ 99999)))
theorem sd_fp_ok {m idx : Nat} {v : Nat × Nat × Nat} (h : ai_fp m idx = some v) : ∃ p, sd_fkp m idx v p = true := sd_tabled (T := ai_fpT) (chk := sd_fkp) (ps := [1176, 1177, 1178, 1179, 1180, 1181, 1182, 1183, 1184, 1185, 1186, 1187, 1188, 1189, 1190, 1191, 1177, 99999, 1188, 99999, 99999, 99999, 1187, 1189, 1190, 99999, 99999, 99999, 99999, 1188, 1179, 99999, 99999, 1189, 1191, 99999, 1069, 1071, 1073, 1075, 1077, 1079, 1081, 1083, 1085, 1087, 1089, 1091, 1093, 1095, 1069, 1071, 1073, 1075, 1077, 1155, 1157, 1159, 1161, 1163, 1034, 1035, 1036, 1036, 1051, 1053, 1055, 1055, 1055, 1133, 1135, 1137, 1139, 1133, 1135, 1137]) rfl (by decide +kernel) h
theorem sd_ci_ok {w idx : Nat} {v : Int32} (h : ai_ci w idx = some v) : ∃ p, sd_at p (.constant (sd_R w) idx v) = true := sd_tabled (T := ai_ciT) (chk := fun w idx v p => sd_at p (.constant (sd_R w) idx v)) (ps := [3195, 3196, 3197]) rfl (by decide +kernel) h
theorem sd_cj_ok {w idx : Nat} {v : Int64} (h : ai_cj w idx = some v) : ∃ p, sd_at p (.constantLong (sd_R w) idx v) = true := sd_tabled (T := ai_cjT) (chk := fun w idx v p => sd_at p (.constantLong (sd_R w) idx v)) (ps := [2218, 2219, 3170, 2115, 2135, 2144, 3191, 3192, 2165, 3147, 2191, 3148, 3149, 3150, 3193, 3194, 3198]) rfl (by decide +kernel) h
def sd_mn : Nat → MethodName
  | 0 => Lib.Math.min.name
  | 1 => Lib.MathLoose.min_long.x
  | _ => Lib.MathLoose.max_long.x
def sd_mc : Nat → Cond
  | 0 => .code Lib.Math.min.name Lib.Math.min.code 2 (some .int)
  | 1 => .code Lib.MathLoose.min_long.x Lib.MathLoose.min_long.code 4 (some .long)
  | _ => .code Lib.MathLoose.max_long.x Lib.MathLoose.max_long.code 4 (some .long)
def sd_mk (w idx f : Nat) (p : Nat × Nat × Nat × Nat) : Bool := sd_at p.1 (.methodLink (sd_R w) idx (sd_mn f)) && sd_at p.2.1 (.static (sd_mn f)) && sd_at p.2.2.1 (.initialized "java/lang/Math") && sd_at p.2.2.2 (sd_mc f)
theorem sd_mt_ok {w idx f : Nat} (h : ai_mt w idx = some f) : ∃ p, sd_mk w idx f p = true := sd_tabled (T := ai_mtT) (chk := sd_mk) (ps := [(2069, 2070, 1013, 2071), (2104, 2105, 1013, 2106), (3120, 3121, 1013, 3122)]) rfl (by decide +kernel) h
def sd_ok0 (w idx : Nat) (_ : Nat) (p : Nat × Nat × Nat) : Bool := sd_at p.1 (.methodLink (sd_R w) idx Lib.objectInit) && sd_at p.2.1 (.instanceMethod Lib.objectInit) && sd_at p.2.2 (.code Lib.objectInit ⟨#[0xb1]⟩ 1 none)
theorem sd_ob_ok {w idx v : Nat} (h : ai_ob0 w idx = some v) : ∃ p, sd_ok0 w idx v p = true := sd_tabled (T := ai_ob0T) (chk := sd_ok0) (ps := [(1019, 1020, 1021), (1068, 1020, 1021), (1154, 1020, 1021), (1033, 1020, 1021), (1050, 1020, 1021), (1132, 1020, 1021)]) rfl (by decide +kernel) h
def sd_nk (w idx c : Nat) (p : Nat × Nat × Nat) : Bool := decide (c < 6) && sd_at p.1 (.classLink (sd_R w) idx (sd_R c)) && sd_at p.2.1 (.instantiable (sd_R c) (sd_n c)) && sd_at p.2.2 (.initialized (sd_R c))
theorem sd_nc_ok {w idx c : Nat} (h : ai_nc w idx = some c) : ∃ p, sd_nk w idx c p = true := sd_tabled (T := ai_ncT) (chk := sd_nk) (ps := [(1022, 1064, 1004), (1024, 1128, 1005), (1026, 1150, 1006), (1028, 1029, 1002), (1045, 1046, 1003), (1014, 1015, 1001)]) rfl (by decide +kernel) h
def sd_ak (w idx c : Nat) (p : Nat) : Bool := decide (sd_R c ∈ sd_lo) && sd_at p (.classLink (sd_R w) idx (sd_R c))
theorem sd_na_ok {w idx c : Nat} (h : ai_na w idx = some c) : ∃ p, sd_ak w idx c p = true := sd_tabled (T := ai_naT) (chk := sd_ak) (ps := [1022, 1024, 1026]) rfl (by decide +kernel) h
theorem sd_ac_int : Cond.arrayClass .int ∈ sd_tb := sd_at_ok (p := 1044) (by decide +kernel)
theorem sd_ac_long : Cond.arrayClass .long ∈ sd_tb := sd_at_ok (p := 1126) (by decide +kernel)
theorem sd_ac_boolean : Cond.arrayClass .boolean ∈ sd_tb := sd_at_ok (p := 1127) (by decide +kernel)
def sd_pn (y : Nat) : Option Nat := (parseMethodDescriptor (sd_nm y).desc).map fun d => d.parameters.length
theorem sd_cw_0 : sd_cw 0 ∈ sd_tb := sd_at_ok (p := 1018) (by decide +kernel)
theorem sd_cw_1 : sd_cw 1 ∈ sd_tb := sd_at_ok (p := 2213) (by decide +kernel)
theorem sd_cw_2 : sd_cw 2 ∈ sd_tb := sd_at_ok (p := 3008) (by decide +kernel)
theorem sd_cw_3 : sd_cw 3 ∈ sd_tb := sd_at_ok (p := 1228) (by decide +kernel)
theorem sd_cw_4 : sd_cw 4 ∈ sd_tb := sd_at_ok (p := 3012) (by decide +kernel)
theorem sd_cw_5 : sd_cw 5 ∈ sd_tb := sd_at_ok (p := 3018) (by decide +kernel)
theorem sd_cw_6 : sd_cw 6 ∈ sd_tb := sd_at_ok (p := 3032) (by decide +kernel)
theorem sd_cw_7 : sd_cw 7 ∈ sd_tb := sd_at_ok (p := 3036) (by decide +kernel)
theorem sd_cw_8 : sd_cw 8 ∈ sd_tb := sd_at_ok (p := 3169) (by decide +kernel)
theorem sd_cw_9 : sd_cw 9 ∈ sd_tb := sd_at_ok (p := 3174) (by decide +kernel)
theorem sd_cw_10 : sd_cw 10 ∈ sd_tb := sd_at_ok (p := 3044) (by decide +kernel)
theorem sd_cw_11 : sd_cw 11 ∈ sd_tb := sd_at_ok (p := 3081) (by decide +kernel)
theorem sd_cw_12 : sd_cw 12 ∈ sd_tb := sd_at_ok (p := 2064) (by decide +kernel)
theorem sd_cw_13 : sd_cw 13 ∈ sd_tb := sd_at_ok (p := 3161) (by decide +kernel)
theorem sd_cw_14 : sd_cw 14 ∈ sd_tb := sd_at_ok (p := 3165) (by decide +kernel)
theorem sd_cw_15 : sd_cw 15 ∈ sd_tb := sd_at_ok (p := 3157) (by decide +kernel)
theorem sd_cw_16 : sd_cw 16 ∈ sd_tb := sd_at_ok (p := 2110) (by decide +kernel)
theorem sd_cw_17 : sd_cw 17 ∈ sd_tb := sd_at_ok (p := 2139) (by decide +kernel)
theorem sd_cw_18 : sd_cw 18 ∈ sd_tb := sd_at_ok (p := 3186) (by decide +kernel)
theorem sd_cw_19 : sd_cw 19 ∈ sd_tb := sd_at_ok (p := 3182) (by decide +kernel)
theorem sd_cw_20 : sd_cw 20 ∈ sd_tb := sd_at_ok (p := 3101) (by decide +kernel)
theorem sd_cw_21 : sd_cw 21 ∈ sd_tb := sd_at_ok (p := 3113) (by decide +kernel)
theorem sd_cw_22 : sd_cw 22 ∈ sd_tb := sd_at_ok (p := 3126) (by decide +kernel)
theorem sd_cw_23 : sd_cw 23 ∈ sd_tb := sd_at_ok (p := 3141) (by decide +kernel)
theorem sd_cw_24 : sd_cw 24 ∈ sd_tb := sd_at_ok (p := 3135) (by decide +kernel)
theorem sd_cw_25 : sd_cw 25 ∈ sd_tb := sd_at_ok (p := 2148) (by decide +kernel)
theorem sd_cw_26 : sd_cw 26 ∈ sd_tb := sd_at_ok (p := 3190) (by decide +kernel)
theorem sd_cw_27 : sd_cw 27 ∈ sd_tb := sd_at_ok (p := 2216) (by decide +kernel)
theorem sd_cw_28 : sd_cw 28 ∈ sd_tb := sd_at_ok (p := 2113) (by decide +kernel)
theorem sd_cw_29 : sd_cw 29 ∈ sd_tb := sd_at_ok (p := 3047) (by decide +kernel)
theorem sd_cw_30 : sd_cw 30 ∈ sd_tb := sd_at_ok (p := 2142) (by decide +kernel)
theorem sd_cw_31 : sd_cw 31 ∈ sd_tb := sd_at_ok (p := 1232) (by decide +kernel)
theorem sd_cw_32 : sd_cw 32 ∈ sd_tb := sd_at_ok (p := 2118) (by decide +kernel)
theorem sd_cw_33 : sd_cw 33 ∈ sd_tb := sd_at_ok (p := 2239) (by decide +kernel)
theorem sd_cw_34 : sd_cw 34 ∈ sd_tb := sd_at_ok (p := 3022) (by decide +kernel)
theorem sd_cw_35 : sd_cw 35 ∈ sd_tb := sd_at_ok (p := 3060) (by decide +kernel)
theorem sd_cw_36 : sd_cw 36 ∈ sd_tb := sd_at_ok (p := 3027) (by decide +kernel)
theorem sd_cw_37 : sd_cw 37 ∈ sd_tb := sd_at_ok (p := 3085) (by decide +kernel)
theorem sd_cw_38 : sd_cw 38 ∈ sd_tb := sd_at_ok (p := 3089) (by decide +kernel)
theorem sd_cw_39 : sd_cw 39 ∈ sd_tb := sd_at_ok (p := 3093) (by decide +kernel)
theorem sd_cw_40 : sd_cw 40 ∈ sd_tb := sd_at_ok (p := 3097) (by decide +kernel)
theorem sd_cw_41 : sd_cw 41 ∈ sd_tb := sd_at_ok (p := 3069) (by decide +kernel)
theorem sd_cw_42 : sd_cw 42 ∈ sd_tb := sd_at_ok (p := 3073) (by decide +kernel)
theorem sd_cw_43 : sd_cw 43 ∈ sd_tb := sd_at_ok (p := 2068) (by decide +kernel)
theorem sd_cw_44 : sd_cw 44 ∈ sd_tb := sd_at_ok (p := 2075) (by decide +kernel)
theorem sd_cw_45 : sd_cw 45 ∈ sd_tb := sd_at_ok (p := 2079) (by decide +kernel)
theorem sd_cw_46 : sd_cw 46 ∈ sd_tb := sd_at_ok (p := 2102) (by decide +kernel)
theorem sd_cw_47 : sd_cw 47 ∈ sd_tb := sd_at_ok (p := 2160) (by decide +kernel)
theorem sd_cw_48 : sd_cw 48 ∈ sd_tb := sd_at_ok (p := 2152) (by decide +kernel)
theorem sd_cw_49 : sd_cw 49 ∈ sd_tb := sd_at_ok (p := 2156) (by decide +kernel)
theorem sd_cw_50 : sd_cw 50 ∈ sd_tb := sd_at_ok (p := 2164) (by decide +kernel)
theorem sd_cw_51 : sd_cw 51 ∈ sd_tb := sd_at_ok (p := 3109) (by decide +kernel)
theorem sd_cw_52 : sd_cw 52 ∈ sd_tb := sd_at_ok (p := 3105) (by decide +kernel)
theorem sd_cw_53 : sd_cw 53 ∈ sd_tb := sd_at_ok (p := 3119) (by decide +kernel)
theorem sd_cw_54 : sd_cw 54 ∈ sd_tb := sd_at_ok (p := 2169) (by decide +kernel)
theorem sd_cw_100 : sd_cw 100 ∈ sd_tb := sd_at_ok (p := 1067) (by decide +kernel)
theorem sd_cw_101 : sd_cw 101 ∈ sd_tb := sd_at_ok (p := 3004) (by decide +kernel)
theorem sd_cw_102 : sd_cw 102 ∈ sd_tb := sd_at_ok (p := 2087) (by decide +kernel)
theorem sd_cw_103 : sd_cw 103 ∈ sd_tb := sd_at_ok (p := 2091) (by decide +kernel)
theorem sd_cw_104 : sd_cw 104 ∈ sd_tb := sd_at_ok (p := 3064) (by decide +kernel)
theorem sd_cw_105 : sd_cw 105 ∈ sd_tb := sd_at_ok (p := 2098) (by decide +kernel)
theorem sd_cw_106 : sd_cw 106 ∈ sd_tb := sd_at_ok (p := 2094) (by decide +kernel)
theorem sd_cw_107 : sd_cw 107 ∈ sd_tb := sd_at_ok (p := 3040) (by decide +kernel)
theorem sd_cw_108 : sd_cw 108 ∈ sd_tb := sd_at_ok (p := 3130) (by decide +kernel)
theorem sd_cw_200 : sd_cw 200 ∈ sd_tb := sd_at_ok (p := 1153) (by decide +kernel)
theorem sd_cw_201 : sd_cw 201 ∈ sd_tb := sd_at_ok (p := 3146) (by decide +kernel)
theorem sd_cw_300 : sd_cw 300 ∈ sd_tb := sd_at_ok (p := 1032) (by decide +kernel)
theorem sd_cw_301 : sd_cw 301 ∈ sd_tb := sd_at_ok (p := 2083) (by decide +kernel)
theorem sd_cw_302 : sd_cw 302 ∈ sd_tb := sd_at_ok (p := 3178) (by decide +kernel)
theorem sd_cw_400 : sd_cw 400 ∈ sd_tb := sd_at_ok (p := 1049) (by decide +kernel)
theorem sd_cw_401 : sd_cw 401 ∈ sd_tb := sd_at_ok (p := 3052) (by decide +kernel)
theorem sd_cw_402 : sd_cw 402 ∈ sd_tb := sd_at_ok (p := 3056) (by decide +kernel)
theorem sd_cw_500 : sd_cw 500 ∈ sd_tb := sd_at_ok (p := 1131) (by decide +kernel)
theorem sd_cw_501 : sd_cw 501 ∈ sd_tb := sd_at_ok (p := 3077) (by decide +kernel)
theorem sd_cw_600 : sd_cw 600 ∈ sd_tb := sd_at_ok (p := 2172) (by decide +kernel)
theorem sd_cw_601 : sd_cw 601 ∈ sd_tb := sd_at_ok (p := 2175) (by decide +kernel)
theorem sd_cw_602 : sd_cw 602 ∈ sd_tb := sd_at_ok (p := 2178) (by decide +kernel)
theorem sd_cw_603 : sd_cw 603 ∈ sd_tb := sd_at_ok (p := 2181) (by decide +kernel)
theorem sd_cw_604 : sd_cw 604 ∈ sd_tb := sd_at_ok (p := 2184) (by decide +kernel)
theorem sd_cw_605 : sd_cw 605 ∈ sd_tb := sd_at_ok (p := 2187) (by decide +kernel)
theorem sd_cw_606 : sd_cw 606 ∈ sd_tb := sd_at_ok (p := 2190) (by decide +kernel)
theorem sd_cw_607 : sd_cw 607 ∈ sd_tb := sd_at_ok (p := 2197) (by decide +kernel)
theorem sd_cw_608 : sd_cw 608 ∈ sd_tb := sd_at_ok (p := 2194) (by decide +kernel)
theorem sd_cw_609 : sd_cw 609 ∈ sd_tb := sd_at_ok (p := 2200) (by decide +kernel)
theorem sd_cw_610 : sd_cw 610 ∈ sd_tb := sd_at_ok (p := 2203) (by decide +kernel)
theorem sd_cw_611 : sd_cw 611 ∈ sd_tb := sd_at_ok (p := 2206) (by decide +kernel)
theorem sd_cw_612 : sd_cw 612 ∈ sd_tb := sd_at_ok (p := 3153) (by decide +kernel)
def sd_ys : List Nat := [0, 1, 2, 3, 4, 5, 6, 7, 8, 9, 10, 11, 12, 13, 14, 15, 16, 17, 18, 19, 20, 21, 22, 23, 24, 25, 26, 27, 28, 29, 30, 31, 32, 33, 34, 35, 36, 37, 38, 39, 40, 41, 42, 43, 44, 45, 46, 47, 48, 49, 50, 51, 52, 53, 54, 100, 101, 102, 103, 104, 105, 106, 107, 108, 200, 201, 300, 301, 302, 400, 401, 402, 500, 501, 600, 601, 602, 603, 604, 605, 606, 607, 608, 609, 610, 611, 612]
theorem sd_cwl_0 : ∀ y ∈ ([0, 1, 2, 3, 4, 5, 6, 7, 8, 9, 10, 11] : List Nat), sd_cw y ∈ sd_tb := List.forall_mem_cons.mpr ⟨sd_cw_0, List.forall_mem_cons.mpr ⟨sd_cw_1, List.forall_mem_cons.mpr ⟨sd_cw_2, List.forall_mem_cons.mpr ⟨sd_cw_3, List.forall_mem_cons.mpr ⟨sd_cw_4, List.forall_mem_cons.mpr ⟨sd_cw_5, List.forall_mem_cons.mpr ⟨sd_cw_6, List.forall_mem_cons.mpr ⟨sd_cw_7, List.forall_mem_cons.mpr ⟨sd_cw_8, List.forall_mem_cons.mpr ⟨sd_cw_9, List.forall_mem_cons.mpr ⟨sd_cw_10, List.forall_mem_cons.mpr ⟨sd_cw_11, fun _ h => absurd h List.not_mem_nil⟩⟩⟩⟩⟩⟩⟩⟩⟩⟩⟩⟩
theorem sd_cwl_1 : ∀ y ∈ ([12, 13, 14, 15, 16, 17, 18, 19, 20, 21, 22, 23] : List Nat), sd_cw y ∈ sd_tb := List.forall_mem_cons.mpr ⟨sd_cw_12, List.forall_mem_cons.mpr ⟨sd_cw_13, List.forall_mem_cons.mpr ⟨sd_cw_14, List.forall_mem_cons.mpr ⟨sd_cw_15, List.forall_mem_cons.mpr ⟨sd_cw_16, List.forall_mem_cons.mpr ⟨sd_cw_17, List.forall_mem_cons.mpr ⟨sd_cw_18, List.forall_mem_cons.mpr ⟨sd_cw_19, List.forall_mem_cons.mpr ⟨sd_cw_20, List.forall_mem_cons.mpr ⟨sd_cw_21, List.forall_mem_cons.mpr ⟨sd_cw_22, List.forall_mem_cons.mpr ⟨sd_cw_23, fun _ h => absurd h List.not_mem_nil⟩⟩⟩⟩⟩⟩⟩⟩⟩⟩⟩⟩
theorem sd_cwl_2 : ∀ y ∈ ([24, 25, 26, 27, 28, 29, 30, 31, 32, 33, 34, 35] : List Nat), sd_cw y ∈ sd_tb := List.forall_mem_cons.mpr ⟨sd_cw_24, List.forall_mem_cons.mpr ⟨sd_cw_25, List.forall_mem_cons.mpr ⟨sd_cw_26, List.forall_mem_cons.mpr ⟨sd_cw_27, List.forall_mem_cons.mpr ⟨sd_cw_28, List.forall_mem_cons.mpr ⟨sd_cw_29, List.forall_mem_cons.mpr ⟨sd_cw_30, List.forall_mem_cons.mpr ⟨sd_cw_31, List.forall_mem_cons.mpr ⟨sd_cw_32, List.forall_mem_cons.mpr ⟨sd_cw_33, List.forall_mem_cons.mpr ⟨sd_cw_34, List.forall_mem_cons.mpr ⟨sd_cw_35, fun _ h => absurd h List.not_mem_nil⟩⟩⟩⟩⟩⟩⟩⟩⟩⟩⟩⟩
theorem sd_cwl_3 : ∀ y ∈ ([36, 37, 38, 39, 40, 41, 42, 43, 44, 45, 46, 47] : List Nat), sd_cw y ∈ sd_tb := List.forall_mem_cons.mpr ⟨sd_cw_36, List.forall_mem_cons.mpr ⟨sd_cw_37, List.forall_mem_cons.mpr ⟨sd_cw_38, List.forall_mem_cons.mpr ⟨sd_cw_39, List.forall_mem_cons.mpr ⟨sd_cw_40, List.forall_mem_cons.mpr ⟨sd_cw_41, List.forall_mem_cons.mpr ⟨sd_cw_42, List.forall_mem_cons.mpr ⟨sd_cw_43, List.forall_mem_cons.mpr ⟨sd_cw_44, List.forall_mem_cons.mpr ⟨sd_cw_45, List.forall_mem_cons.mpr ⟨sd_cw_46, List.forall_mem_cons.mpr ⟨sd_cw_47, fun _ h => absurd h List.not_mem_nil⟩⟩⟩⟩⟩⟩⟩⟩⟩⟩⟩⟩
theorem sd_cwl_4 : ∀ y ∈ ([48, 49, 50, 51, 52, 53, 54, 100, 101, 102, 103, 104] : List Nat), sd_cw y ∈ sd_tb := List.forall_mem_cons.mpr ⟨sd_cw_48, List.forall_mem_cons.mpr ⟨sd_cw_49, List.forall_mem_cons.mpr ⟨sd_cw_50, List.forall_mem_cons.mpr ⟨sd_cw_51, List.forall_mem_cons.mpr ⟨sd_cw_52, List.forall_mem_cons.mpr ⟨sd_cw_53, List.forall_mem_cons.mpr ⟨sd_cw_54, List.forall_mem_cons.mpr ⟨sd_cw_100, List.forall_mem_cons.mpr ⟨sd_cw_101, List.forall_mem_cons.mpr ⟨sd_cw_102, List.forall_mem_cons.mpr ⟨sd_cw_103, List.forall_mem_cons.mpr ⟨sd_cw_104, fun _ h => absurd h List.not_mem_nil⟩⟩⟩⟩⟩⟩⟩⟩⟩⟩⟩⟩
theorem sd_cwl_5 : ∀ y ∈ ([105, 106, 107, 108, 200, 201, 300, 301, 302, 400, 401, 402] : List Nat), sd_cw y ∈ sd_tb := List.forall_mem_cons.mpr ⟨sd_cw_105, List.forall_mem_cons.mpr ⟨sd_cw_106, List.forall_mem_cons.mpr ⟨sd_cw_107, List.forall_mem_cons.mpr ⟨sd_cw_108, List.forall_mem_cons.mpr ⟨sd_cw_200, List.forall_mem_cons.mpr ⟨sd_cw_201, List.forall_mem_cons.mpr ⟨sd_cw_300, List.forall_mem_cons.mpr ⟨sd_cw_301, List.forall_mem_cons.mpr ⟨sd_cw_302, List.forall_mem_cons.mpr ⟨sd_cw_400, List.forall_mem_cons.mpr ⟨sd_cw_401, List.forall_mem_cons.mpr ⟨sd_cw_402, fun _ h => absurd h List.not_mem_nil⟩⟩⟩⟩⟩⟩⟩⟩⟩⟩⟩⟩
theorem sd_cwl_6 : ∀ y ∈ ([500, 501, 600, 601, 602, 603, 604, 605, 606, 607, 608, 609] : List Nat), sd_cw y ∈ sd_tb := List.forall_mem_cons.mpr ⟨sd_cw_500, List.forall_mem_cons.mpr ⟨sd_cw_501, List.forall_mem_cons.mpr ⟨sd_cw_600, List.forall_mem_cons.mpr ⟨sd_cw_601, List.forall_mem_cons.mpr ⟨sd_cw_602, List.forall_mem_cons.mpr ⟨sd_cw_603, List.forall_mem_cons.mpr ⟨sd_cw_604, List.forall_mem_cons.mpr ⟨sd_cw_605, List.forall_mem_cons.mpr ⟨sd_cw_606, List.forall_mem_cons.mpr ⟨sd_cw_607, List.forall_mem_cons.mpr ⟨sd_cw_608, List.forall_mem_cons.mpr ⟨sd_cw_609, fun _ h => absurd h List.not_mem_nil⟩⟩⟩⟩⟩⟩⟩⟩⟩⟩⟩⟩
theorem sd_cwl_7 : ∀ y ∈ ([610, 611, 612] : List Nat), sd_cw y ∈ sd_tb := List.forall_mem_cons.mpr ⟨sd_cw_610, List.forall_mem_cons.mpr ⟨sd_cw_611, List.forall_mem_cons.mpr ⟨sd_cw_612, fun _ h => absurd h List.not_mem_nil⟩⟩⟩
theorem sd_cws : ∀ y ∈ sd_ys, sd_cw y ∈ sd_tb := by
  have hL : sd_ys = ([0, 1, 2, 3, 4, 5, 6, 7, 8, 9, 10, 11] : List Nat) ++ (([12, 13, 14, 15, 16, 17, 18, 19, 20, 21, 22, 23] : List Nat) ++ (([24, 25, 26, 27, 28, 29, 30, 31, 32, 33, 34, 35] : List Nat) ++ (([36, 37, 38, 39, 40, 41, 42, 43, 44, 45, 46, 47] : List Nat) ++ (([48, 49, 50, 51, 52, 53, 54, 100, 101, 102, 103, 104] : List Nat) ++ (([105, 106, 107, 108, 200, 201, 300, 301, 302, 400, 401, 402] : List Nat) ++ (([500, 501, 600, 601, 602, 603, 604, 605, 606, 607, 608, 609] : List Nat) ++ (([610, 611, 612] : List Nat)))))))) := rfl
  rw [hL]
  exact List.forall_mem_append.mpr ⟨sd_cwl_0, List.forall_mem_append.mpr ⟨sd_cwl_1, List.forall_mem_append.mpr ⟨sd_cwl_2, List.forall_mem_append.mpr ⟨sd_cwl_3, List.forall_mem_append.mpr ⟨sd_cwl_4, List.forall_mem_append.mpr ⟨sd_cwl_5, List.forall_mem_append.mpr ⟨sd_cwl_6, sd_cwl_7⟩⟩⟩⟩⟩⟩⟩
def sd_co (y : Nat) (pc pi : Nat) : Bool := decide (y ∈ sd_ys) && sd_at pi (.initialized (sd_R (y / 100))) && decide ((sd_nm y).cls = sd_R (y / 100)) && decide (sd_R (y / 100) ≠ "java/lang/invoke/MethodHandle") && decide (sd_R (y / 100) ≠ "java/lang/invoke/VarHandle")
/-- a call by the receiver: by a plain link, or a nest mate's -/
def sd_vk (w idx : Nat) (v : Nat × Nat) (p : Nat × Nat × Nat × Nat × Nat) : Bool := (if p.1 = 99999 then decide ((sd_R w, idx, sd_nm v.1, "FactorHouse") ∈ sd_lm) else sd_at p.1 (.methodLink (sd_R w) idx (sd_nm v.1))) && sd_at p.2.1 (.instanceMethod (sd_nm v.1)) && sd_at p.2.2.1 (.selects (sd_R (v.1 / 100)) (sd_nm v.1) (sd_nm v.1)) && sd_co v.1 p.2.2.2.1 p.2.2.2.2 && decide (ai_find [] sd_hw v.1 = []) && decide (0 < v.2) && decide (sd_pn v.1 = some (v.2 - 1))
theorem sd_cv_ok {w idx : Nat} {v : Nat × Nat} (h : ai_cv w idx = some v) : ∃ p, sd_vk w idx v p = true := sd_tabled (T := ai_cvT) (chk := sd_vk) (ps := [(2236, 2238, 15, 2239, 1001), (99999, 3003, 16, 3004, 1004), (1229, 1231, 0, 1232, 1001), (2076, 2078, 4, 2079, 1001), (99999, 2086, 6, 2087, 1004), (3019, 3021, 17, 3022, 1001), (3024, 3026, 18, 3027, 1001), (99999, 3039, 19, 3040, 1004), (99999, 3063, 23, 3064, 1004), (2149, 2151, 10, 2152, 1001), (99999, 3177, 36, 3178, 1002), (99999, 3051, 20, 3052, 1003), (99999, 3055, 21, 3056, 1003), (3057, 3059, 22, 3060, 1001), (3066, 3068, 24, 3069, 1001), (3082, 3084, 27, 3085, 1001), (2065, 2067, 2, 2068, 1001), (3102, 3104, 31, 3105, 1001), (2099, 2101, 9, 2102, 1001), (99999, 2090, 7, 2091, 1004), (3116, 3118, 33, 3119, 1001), (99999, 3129, 34, 3130, 1004), (99999, 3145, 35, 3146, 1006), (2166, 2168, 14, 2169, 1001), (3086, 3088, 28, 3089, 1001), (3090, 3092, 29, 3093, 1001), (3094, 3096, 30, 3097, 1001), (2072, 2074, 3, 2075, 1001), (3070, 3072, 25, 3073, 1001), (99999, 3076, 26, 3077, 1005), (99999, 2082, 5, 2083, 1002), (2153, 2155, 11, 2156, 1001), (2161, 2163, 13, 2164, 1001), (2157, 2159, 12, 2160, 1001), (3106, 3108, 32, 3109, 1001), (2088, 2090, 7, 2091, 1004), (2095, 2097, 8, 2098, 1004), (3131, 3039, 19, 3040, 1004), (2210, 2211, 2212, 2213, 1001), (3005, 3006, 3007, 3008, 1001), (3009, 3010, 3011, 3012, 1001), (3015, 3016, 3017, 3018, 1001), (3029, 3030, 3031, 3032, 1001), (3033, 3034, 3035, 3036, 1001), (3041, 3042, 3043, 3044, 1001), (3078, 3079, 3080, 3081, 1001), (3098, 3099, 3100, 3101, 1001), (3110, 3111, 3112, 3113, 1001), (3123, 3124, 3125, 3126, 1001), (3132, 3133, 3134, 3135, 1001), (3138, 3139, 3140, 3141, 1001), (3154, 3155, 3156, 3157, 1001), (3158, 3159, 3160, 3161, 1001), (3162, 3163, 3164, 3165, 1001), (3166, 3167, 3168, 3169, 1001), (3171, 3172, 3173, 3174, 1001), (3179, 3180, 3181, 3182, 1001), (3183, 3184, 3185, 3186, 1001), (3187, 3188, 3189, 3190, 1001), (2107, 2108, 2109, 2110, 1001), (2136, 2137, 2138, 2139, 1001), (2061, 2062, 2063, 2064, 1001), (1225, 1226, 1227, 1228, 1001), (2145, 2146, 2147, 2148, 1001)]) rfl (by decide +kernel) h
def sd_sk (w idx : Nat) (v : Nat × Nat) (p : Nat × Nat × Nat × Nat) : Bool := sd_at p.1 (.methodLink (sd_R w) idx (sd_nm v.1)) && sd_at p.2.1 (.static (sd_nm v.1)) && sd_co v.1 p.2.2.1 p.2.2.2 && decide (sd_R w = sd_R (v.1 / 100)) && decide (sd_pn v.1 = some v.2)
theorem sd_cs_ok {w idx : Nat} {v : Nat × Nat} (h : ai_cs w idx = some v) : ∃ p, sd_sk w idx v p = true := sd_tabled (T := ai_csT) (chk := sd_sk) (ps := [(2214, 2215, 2216, 1001), (2140, 2141, 2142, 1001), (2116, 2117, 2118, 1001), (2111, 2112, 2113, 1001), (3045, 3046, 3047, 1001), (2092, 2093, 2094, 1004), (2182, 2183, 2184, 1000), (2185, 2186, 2187, 1000), (2179, 2180, 2181, 1000), (2195, 2196, 2197, 1000), (2192, 2193, 2194, 1000), (2188, 2189, 2190, 1000), (2204, 2205, 2206, 1000), (2173, 2174, 2175, 1000), (2176, 2177, 2178, 1000), (2170, 2171, 2172, 1000), (2198, 2199, 2200, 1000), (2201, 2202, 2203, 1000), (3151, 3152, 3153, 1000)]) rfl (by decide +kernel) h
def sd_pk (w idx : Nat) (v : Nat × Nat) (p : Nat × Nat × Nat × Nat) : Bool := (if p.1 = 99999 then decide ((sd_R w, idx, sd_nm v.1, "FactorHouse") ∈ sd_lm) else sd_at p.1 (.methodLink (sd_R w) idx (sd_nm v.1))) && sd_at p.2.1 (.instanceMethod (sd_nm v.1)) && sd_co v.1 p.2.2.1 p.2.2.2 && decide (ai_find [] sd_hw v.1 = []) && decide (0 < v.2) && decide (sd_pn v.1 = some (v.2 - 1)) && decide ((sd_nm v.1).name = "<init>") && decide (ai_rk v.1 = 0)
theorem sd_cp_ok {w idx : Nat} {v : Nat × Nat} (h : ai_cp w idx = some v) : ∃ p, sd_pk w idx v p = true := sd_tabled (T := ai_cpT) (chk := sd_pk) (ps := [(99999, 1031, 1032, 1002), (99999, 1048, 1049, 1003), (99999, 1066, 1067, 1004), (99999, 1130, 1131, 1005), (99999, 1152, 1153, 1006), (1016, 1017, 1018, 1001)]) rfl (by decide +kernel) h
def sd_xn : Nat → String
  | 1 => "java/lang/IndexOutOfBoundsException"
  | 2 => "java/lang/IllegalArgumentException"
  | _ => "java/lang/IllegalStateException"
def sd_xa : List String := ["java/lang/RuntimeException", "java/lang/Exception"]
