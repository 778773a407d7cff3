section
-- ===== PART A: goes FIRST, ahead of the names: the tables' words, and 'selects' of the private methods out of them =====
/-- a private method of a class that the tables say can be made, by its rows of tables_1 -/
def lw_okq (q : MethodName × Nat) : Prop := (q.1.cls ≠ "java/lang/invoke/MethodHandle" ∧ q.1.cls ≠ "java/lang/invoke/VarHandle") ∧ Cond.instantiable q.1.cls q.2 ∈ tables_1 ∧ Cond.privateMethod q.1 ∈ tables_1 ∧ Cond.instanceMethod q.1 ∈ tables_1
theorem lw_p0 : lw_okq (⟨"java/lang/Throwable", "fillInStackTrace", "(I)Ljava/lang/Throwable;"⟩, 6) := ⟨⟨by decide +kernel, by decide +kernel⟩, List.mem_of_getElem? (i := 136) (by decide +kernel), List.mem_of_getElem? (i := 134) (by decide +kernel), List.mem_of_getElem? (i := 135) (by decide +kernel)⟩
theorem lw_p1 : lw_okq (⟨"KeylessHall", "roomNumbered", "(I)LKeylessHall$Room;"⟩, 10) := ⟨⟨by decide +kernel, by decide +kernel⟩, List.mem_of_getElem? (i := 16) (by decide +kernel), List.mem_of_getElem? (i := 243) (by decide +kernel), List.mem_of_getElem? (i := 244) (by decide +kernel)⟩
theorem lw_p2 : lw_okq (⟨"KeylessHall", "freeLockedIn", "()I"⟩, 10) := ⟨⟨by decide +kernel, by decide +kernel⟩, List.mem_of_getElem? (i := 16) (by decide +kernel), List.mem_of_getElem? (i := 285) (by decide +kernel), List.mem_of_getElem? (i := 286) (by decide +kernel)⟩
theorem lw_p3 : lw_okq (⟨"KeylessHall", "hasExit", "(LKeylessHall$Room;)Z"⟩, 10) := ⟨⟨by decide +kernel, by decide +kernel⟩, List.mem_of_getElem? (i := 16) (by decide +kernel), List.mem_of_getElem? (i := 329) (by decide +kernel), List.mem_of_getElem? (i := 330) (by decide +kernel)⟩
theorem lw_p4 : lw_okq (⟨"KeylessHall", "countOrdersBySets", "(LKeylessHall$Room;)I"⟩, 10) := ⟨⟨by decide +kernel, by decide +kernel⟩, List.mem_of_getElem? (i := 16) (by decide +kernel), List.mem_of_getElem? (i := 340) (by decide +kernel), List.mem_of_getElem? (i := 341) (by decide +kernel)⟩
theorem lw_p5 : lw_okq (⟨"KeylessHall", "addWaysBehind", "(LKeylessHall$Room;III)V"⟩, 10) := ⟨⟨by decide +kernel, by decide +kernel⟩, List.mem_of_getElem? (i := 16) (by decide +kernel), List.mem_of_getElem? (i := 348) (by decide +kernel), List.mem_of_getElem? (i := 349) (by decide +kernel)⟩
theorem lw_p6 : lw_okq (⟨"KeylessHall", "bookingDue", "(LKeylessHall$Room;)LKeylessHall$Booking;"⟩, 10) := ⟨⟨by decide +kernel, by decide +kernel⟩, List.mem_of_getElem? (i := 16) (by decide +kernel), List.mem_of_getElem? (i := 371) (by decide +kernel), List.mem_of_getElem? (i := 372) (by decide +kernel)⟩
theorem lw_p7 : lw_okq (⟨"KeylessHall", "isKeptForBooking", "(LKeylessHall$Room;)Z"⟩, 10) := ⟨⟨by decide +kernel, by decide +kernel⟩, List.mem_of_getElem? (i := 16) (by decide +kernel), List.mem_of_getElem? (i := 375) (by decide +kernel), List.mem_of_getElem? (i := 376) (by decide +kernel)⟩
theorem lw_p8 : lw_okq (⟨"KeylessHall", "letIn", "(LKeylessHall$Room;LKeylessHall$Booking;)I"⟩, 10) := ⟨⟨by decide +kernel, by decide +kernel⟩, List.mem_of_getElem? (i := 16) (by decide +kernel), List.mem_of_getElem? (i := 384) (by decide +kernel), List.mem_of_getElem? (i := 385) (by decide +kernel)⟩
theorem lw_p9 : lw_okq (⟨"KeylessHall", "groupNumbered", "(I)LKeylessHall$Group;"⟩, 10) := ⟨⟨by decide +kernel, by decide +kernel⟩, List.mem_of_getElem? (i := 16) (by decide +kernel), List.mem_of_getElem? (i := 437) (by decide +kernel), List.mem_of_getElem? (i := 438) (by decide +kernel)⟩
theorem lw_p10 : lw_okq (⟨"KeylessHall", "openTo", "(LKeylessHall$Group;)I"⟩, 10) := ⟨⟨by decide +kernel, by decide +kernel⟩, List.mem_of_getElem? (i := 16) (by decide +kernel), List.mem_of_getElem? (i := 443) (by decide +kernel), List.mem_of_getElem? (i := 444) (by decide +kernel)⟩
theorem lw_p11 : lw_okq (⟨"KeylessHall", "wayOf", "(LKeylessHall$Group;)I"⟩, 10) := ⟨⟨by decide +kernel, by decide +kernel⟩, List.mem_of_getElem? (i := 16) (by decide +kernel), List.mem_of_getElem? (i := 456) (by decide +kernel), List.mem_of_getElem? (i := 457) (by decide +kernel)⟩
theorem lw_p12 : lw_okq (⟨"KeylessHall", "leaveIfLate", "(LKeylessHall$Group;)V"⟩, 10) := ⟨⟨by decide +kernel, by decide +kernel⟩, List.mem_of_getElem? (i := 16) (by decide +kernel), List.mem_of_getElem? (i := 476) (by decide +kernel), List.mem_of_getElem? (i := 477) (by decide +kernel)⟩
theorem lw_p13 : lw_okq (⟨"KeylessHall", "workerNumbered", "(I)LKeylessHall$Worker;"⟩, 10) := ⟨⟨by decide +kernel, by decide +kernel⟩, List.mem_of_getElem? (i := 16) (by decide +kernel), List.mem_of_getElem? (i := 498) (by decide +kernel), List.mem_of_getElem? (i := 499) (by decide +kernel)⟩
theorem lw_p14 : lw_okq (⟨"KeylessHall$Room", "isNeededByOther", "(I)Z"⟩, 13) := ⟨⟨by decide +kernel, by decide +kernel⟩, List.mem_of_getElem? (i := 181) (by decide +kernel), List.mem_of_getElem? (i := 511) (by decide +kernel), List.mem_of_getElem? (i := 512) (by decide +kernel)⟩
theorem lw_p15 : lw_okq (⟨"KeylessHall", "bookingTooNear", "(LKeylessHall$Room;I)LKeylessHall$Booking;"⟩, 10) := ⟨⟨by decide +kernel, by decide +kernel⟩, List.mem_of_getElem? (i := 16) (by decide +kernel), List.mem_of_getElem? (i := 542) (by decide +kernel), List.mem_of_getElem? (i := 543) (by decide +kernel)⟩
def lw_privs_1 : List (MethodName × Nat) := [(⟨"java/lang/Throwable", "fillInStackTrace", "(I)Ljava/lang/Throwable;"⟩, 6), (⟨"KeylessHall", "roomNumbered", "(I)LKeylessHall$Room;"⟩, 10), (⟨"KeylessHall", "freeLockedIn", "()I"⟩, 10), (⟨"KeylessHall", "hasExit", "(LKeylessHall$Room;)Z"⟩, 10), (⟨"KeylessHall", "countOrdersBySets", "(LKeylessHall$Room;)I"⟩, 10), (⟨"KeylessHall", "addWaysBehind", "(LKeylessHall$Room;III)V"⟩, 10), (⟨"KeylessHall", "bookingDue", "(LKeylessHall$Room;)LKeylessHall$Booking;"⟩, 10), (⟨"KeylessHall", "isKeptForBooking", "(LKeylessHall$Room;)Z"⟩, 10), (⟨"KeylessHall", "letIn", "(LKeylessHall$Room;LKeylessHall$Booking;)I"⟩, 10), (⟨"KeylessHall", "groupNumbered", "(I)LKeylessHall$Group;"⟩, 10), (⟨"KeylessHall", "openTo", "(LKeylessHall$Group;)I"⟩, 10), (⟨"KeylessHall", "wayOf", "(LKeylessHall$Group;)I"⟩, 10), (⟨"KeylessHall", "leaveIfLate", "(LKeylessHall$Group;)V"⟩, 10), (⟨"KeylessHall", "workerNumbered", "(I)LKeylessHall$Worker;"⟩, 10), (⟨"KeylessHall$Room", "isNeededByOther", "(I)Z"⟩, 13), (⟨"KeylessHall", "bookingTooNear", "(LKeylessHall$Room;I)LKeylessHall$Booking;"⟩, 10)]
theorem lw_r1 : ∀ q ∈ lw_privs_1, lw_okq q := List.forall_mem_cons.mpr ⟨lw_p0, List.forall_mem_cons.mpr ⟨lw_p1, List.forall_mem_cons.mpr ⟨lw_p2, List.forall_mem_cons.mpr ⟨lw_p3, List.forall_mem_cons.mpr ⟨lw_p4, List.forall_mem_cons.mpr ⟨lw_p5, List.forall_mem_cons.mpr ⟨lw_p6, List.forall_mem_cons.mpr ⟨lw_p7, List.forall_mem_cons.mpr ⟨lw_p8, List.forall_mem_cons.mpr ⟨lw_p9, List.forall_mem_cons.mpr ⟨lw_p10, List.forall_mem_cons.mpr ⟨lw_p11, List.forall_mem_cons.mpr ⟨lw_p12, List.forall_mem_cons.mpr ⟨lw_p13, List.forall_mem_cons.mpr ⟨lw_p14, List.forall_mem_cons.mpr ⟨lw_p15, fun _ h => absurd h List.not_mem_nil⟩⟩⟩⟩⟩⟩⟩⟩⟩⟩⟩⟩⟩⟩⟩⟩
theorem lw_p16 : lw_okq (⟨"KeylessHall", "bookingNumbered", "(I)LKeylessHall$Booking;"⟩, 10) := ⟨⟨by decide +kernel, by decide +kernel⟩, List.mem_of_getElem? (i := 16) (by decide +kernel), List.mem_of_getElem? (i := 579) (by decide +kernel), List.mem_of_getElem? (i := 580) (by decide +kernel)⟩
theorem lw_p17 : lw_okq (⟨"KeylessHall", "firstFree", "(LKeylessHall$Room;I)I"⟩, 10) := ⟨⟨by decide +kernel, by decide +kernel⟩, List.mem_of_getElem? (i := 16) (by decide +kernel), List.mem_of_getElem? (i := 596) (by decide +kernel), List.mem_of_getElem? (i := 597) (by decide +kernel)⟩
theorem lw_p18 : lw_okq (⟨"KeylessHall", "passOne", "()V"⟩, 10) := ⟨⟨by decide +kernel, by decide +kernel⟩, List.mem_of_getElem? (i := 16) (by decide +kernel), List.mem_of_getElem? (i := 609) (by decide +kernel), List.mem_of_getElem? (i := 610) (by decide +kernel)⟩
theorem lw_p19 : lw_okq (⟨"KeylessHall", "dropUnusedBookings", "()V"⟩, 10) := ⟨⟨by decide +kernel, by decide +kernel⟩, List.mem_of_getElem? (i := 16) (by decide +kernel), List.mem_of_getElem? (i := 616) (by decide +kernel), List.mem_of_getElem? (i := 617) (by decide +kernel)⟩
theorem lw_p20 : lw_okq (⟨"KeylessHallModel", "refused", "(I)Z"⟩, 33) := ⟨⟨by decide +kernel, by decide +kernel⟩, List.mem_of_getElem? (i := 652) (by decide +kernel), List.mem_of_getElem? (i := 770) (by decide +kernel), List.mem_of_getElem? (i := 771) (by decide +kernel)⟩
theorem lw_p21 : lw_okq (⟨"KeylessHallModel", "isRoom", "(I)Z"⟩, 33) := ⟨⟨by decide +kernel, by decide +kernel⟩, List.mem_of_getElem? (i := 652) (by decide +kernel), List.mem_of_getElem? (i := 778) (by decide +kernel), List.mem_of_getElem? (i := 779) (by decide +kernel)⟩
theorem lw_p22 : lw_okq (⟨"KeylessHallModel", "hadOf", "(II)I"⟩, 33) := ⟨⟨by decide +kernel, by decide +kernel⟩, List.mem_of_getElem? (i := 652) (by decide +kernel), List.mem_of_getElem? (i := 786) (by decide +kernel), List.mem_of_getElem? (i := 787) (by decide +kernel)⟩
theorem lw_p23 : lw_okq (⟨"KeylessHallModel", "isOut", "(I)Z"⟩, 33) := ⟨⟨by decide +kernel, by decide +kernel⟩, List.mem_of_getElem? (i := 652) (by decide +kernel), List.mem_of_getElem? (i := 790) (by decide +kernel), List.mem_of_getElem? (i := 791) (by decide +kernel)⟩
theorem lw_p24 : lw_okq (⟨"KeylessHallModel", "leaves", "(II)V"⟩, 33) := ⟨⟨by decide +kernel, by decide +kernel⟩, List.mem_of_getElem? (i := 652) (by decide +kernel), List.mem_of_getElem? (i := 794) (by decide +kernel), List.mem_of_getElem? (i := 795) (by decide +kernel)⟩
theorem lw_p25 : lw_okq (⟨"KeylessHallModel", "isLeavable", "(I)Z"⟩, 33) := ⟨⟨by decide +kernel, by decide +kernel⟩, List.mem_of_getElem? (i := 652) (by decide +kernel), List.mem_of_getElem? (i := 806) (by decide +kernel), List.mem_of_getElem? (i := 807) (by decide +kernel)⟩
theorem lw_p26 : lw_okq (⟨"KeylessHallModel", "heldBy", "(III)I"⟩, 33) := ⟨⟨by decide +kernel, by decide +kernel⟩, List.mem_of_getElem? (i := 652) (by decide +kernel), List.mem_of_getElem? (i := 814) (by decide +kernel), List.mem_of_getElem? (i := 815) (by decide +kernel)⟩
theorem lw_p27 : lw_okq (⟨"KeylessHallModel", "bookingFor", "(I)I"⟩, 33) := ⟨⟨by decide +kernel, by decide +kernel⟩, List.mem_of_getElem? (i := 652) (by decide +kernel), List.mem_of_getElem? (i := 827) (by decide +kernel), List.mem_of_getElem? (i := 828) (by decide +kernel)⟩
theorem lw_p28 : lw_okq (⟨"KeylessHallModel", "isNear", "(I)Z"⟩, 33) := ⟨⟨by decide +kernel, by decide +kernel⟩, List.mem_of_getElem? (i := 652) (by decide +kernel), List.mem_of_getElem? (i := 831) (by decide +kernel), List.mem_of_getElem? (i := 832) (by decide +kernel)⟩
theorem lw_p29 : lw_okq (⟨"KeylessHallModel", "gapOf", "(I)I"⟩, 33) := ⟨⟨by decide +kernel, by decide +kernel⟩, List.mem_of_getElem? (i := 652) (by decide +kernel), List.mem_of_getElem? (i := 835) (by decide +kernel), List.mem_of_getElem? (i := 836) (by decide +kernel)⟩
theorem lw_p30 : lw_okq (⟨"KeylessHallModel", "isGroup", "(I)Z"⟩, 33) := ⟨⟨by decide +kernel, by decide +kernel⟩, List.mem_of_getElem? (i := 652) (by decide +kernel), List.mem_of_getElem? (i := 843) (by decide +kernel), List.mem_of_getElem? (i := 844) (by decide +kernel)⟩
theorem lw_p31 : lw_okq (⟨"KeylessHallModel", "maySolve", "(II)Z"⟩, 33) := ⟨⟨by decide +kernel, by decide +kernel⟩, List.mem_of_getElem? (i := 652) (by decide +kernel), List.mem_of_getElem? (i := 847) (by decide +kernel), List.mem_of_getElem? (i := 848) (by decide +kernel)⟩
def lw_privs_2 : List (MethodName × Nat) := [(⟨"KeylessHall", "bookingNumbered", "(I)LKeylessHall$Booking;"⟩, 10), (⟨"KeylessHall", "firstFree", "(LKeylessHall$Room;I)I"⟩, 10), (⟨"KeylessHall", "passOne", "()V"⟩, 10), (⟨"KeylessHall", "dropUnusedBookings", "()V"⟩, 10), (⟨"KeylessHallModel", "refused", "(I)Z"⟩, 33), (⟨"KeylessHallModel", "isRoom", "(I)Z"⟩, 33), (⟨"KeylessHallModel", "hadOf", "(II)I"⟩, 33), (⟨"KeylessHallModel", "isOut", "(I)Z"⟩, 33), (⟨"KeylessHallModel", "leaves", "(II)V"⟩, 33), (⟨"KeylessHallModel", "isLeavable", "(I)Z"⟩, 33), (⟨"KeylessHallModel", "heldBy", "(III)I"⟩, 33), (⟨"KeylessHallModel", "bookingFor", "(I)I"⟩, 33), (⟨"KeylessHallModel", "isNear", "(I)Z"⟩, 33), (⟨"KeylessHallModel", "gapOf", "(I)I"⟩, 33), (⟨"KeylessHallModel", "isGroup", "(I)Z"⟩, 33), (⟨"KeylessHallModel", "maySolve", "(II)Z"⟩, 33)]
theorem lw_r2 : ∀ q ∈ lw_privs_2, lw_okq q := List.forall_mem_cons.mpr ⟨lw_p16, List.forall_mem_cons.mpr ⟨lw_p17, List.forall_mem_cons.mpr ⟨lw_p18, List.forall_mem_cons.mpr ⟨lw_p19, List.forall_mem_cons.mpr ⟨lw_p20, List.forall_mem_cons.mpr ⟨lw_p21, List.forall_mem_cons.mpr ⟨lw_p22, List.forall_mem_cons.mpr ⟨lw_p23, List.forall_mem_cons.mpr ⟨lw_p24, List.forall_mem_cons.mpr ⟨lw_p25, List.forall_mem_cons.mpr ⟨lw_p26, List.forall_mem_cons.mpr ⟨lw_p27, List.forall_mem_cons.mpr ⟨lw_p28, List.forall_mem_cons.mpr ⟨lw_p29, List.forall_mem_cons.mpr ⟨lw_p30, List.forall_mem_cons.mpr ⟨lw_p31, fun _ h => absurd h List.not_mem_nil⟩⟩⟩⟩⟩⟩⟩⟩⟩⟩⟩⟩⟩⟩⟩⟩
theorem lw_p32 : lw_okq (⟨"KeylessHallModel", "wayOf", "(I)I"⟩, 33) := ⟨⟨by decide +kernel, by decide +kernel⟩, List.mem_of_getElem? (i := 652) (by decide +kernel), List.mem_of_getElem? (i := 855) (by decide +kernel), List.mem_of_getElem? (i := 856) (by decide +kernel)⟩
theorem lw_p33 : lw_okq (⟨"KeylessHallModel", "isWay", "(II)Z"⟩, 33) := ⟨⟨by decide +kernel, by decide +kernel⟩, List.mem_of_getElem? (i := 652) (by decide +kernel), List.mem_of_getElem? (i := 862) (by decide +kernel), List.mem_of_getElem? (i := 863) (by decide +kernel)⟩
theorem lw_p34 : lw_okq (⟨"KeylessHallModel", "left", "(I)I"⟩, 33) := ⟨⟨by decide +kernel, by decide +kernel⟩, List.mem_of_getElem? (i := 652) (by decide +kernel), List.mem_of_getElem? (i := 866) (by decide +kernel), List.mem_of_getElem? (i := 867) (by decide +kernel)⟩
theorem lw_p35 : lw_okq (⟨"KeylessHallModel", "begins", "(I)V"⟩, 33) := ⟨⟨by decide +kernel, by decide +kernel⟩, List.mem_of_getElem? (i := 652) (by decide +kernel), List.mem_of_getElem? (i := 881) (by decide +kernel), List.mem_of_getElem? (i := 882) (by decide +kernel)⟩
theorem lw_p36 : lw_okq (⟨"KeylessHallModel", "nextToReset", "(I)I"⟩, 33) := ⟨⟨by decide +kernel, by decide +kernel⟩, List.mem_of_getElem? (i := 652) (by decide +kernel), List.mem_of_getElem? (i := 885) (by decide +kernel), List.mem_of_getElem? (i := 886) (by decide +kernel)⟩
theorem lw_p37 : lw_okq (⟨"KeylessHallModel", "isDone", "(I)V"⟩, 33) := ⟨⟨by decide +kernel, by decide +kernel⟩, List.mem_of_getElem? (i := 652) (by decide +kernel), List.mem_of_getElem? (i := 889) (by decide +kernel), List.mem_of_getElem? (i := 890) (by decide +kernel)⟩
theorem lw_p38 : lw_okq (⟨"KeylessHallModel", "canBook", "(II)Z"⟩, 33) := ⟨⟨by decide +kernel, by decide +kernel⟩, List.mem_of_getElem? (i := 652) (by decide +kernel), List.mem_of_getElem? (i := 901) (by decide +kernel), List.mem_of_getElem? (i := 902) (by decide +kernel)⟩
theorem lw_p39 : lw_okq (⟨"KeylessHallModel", "isBooking", "(I)Z"⟩, 33) := ⟨⟨by decide +kernel, by decide +kernel⟩, List.mem_of_getElem? (i := 652) (by decide +kernel), List.mem_of_getElem? (i := 909) (by decide +kernel), List.mem_of_getElem? (i := 910) (by decide +kernel)⟩
theorem lw_p40 : lw_okq (⟨"KeylessHallModel", "works", "(I)V"⟩, 33) := ⟨⟨by decide +kernel, by decide +kernel⟩, List.mem_of_getElem? (i := 652) (by decide +kernel), List.mem_of_getElem? (i := 921) (by decide +kernel), List.mem_of_getElem? (i := 922) (by decide +kernel)⟩
def lw_privs_3 : List (MethodName × Nat) := [(⟨"KeylessHallModel", "wayOf", "(I)I"⟩, 33), (⟨"KeylessHallModel", "isWay", "(II)Z"⟩, 33), (⟨"KeylessHallModel", "left", "(I)I"⟩, 33), (⟨"KeylessHallModel", "begins", "(I)V"⟩, 33), (⟨"KeylessHallModel", "nextToReset", "(I)I"⟩, 33), (⟨"KeylessHallModel", "isDone", "(I)V"⟩, 33), (⟨"KeylessHallModel", "canBook", "(II)Z"⟩, 33), (⟨"KeylessHallModel", "isBooking", "(I)Z"⟩, 33), (⟨"KeylessHallModel", "works", "(I)V"⟩, 33)]
theorem lw_r3 : ∀ q ∈ lw_privs_3, lw_okq q := List.forall_mem_cons.mpr ⟨lw_p32, List.forall_mem_cons.mpr ⟨lw_p33, List.forall_mem_cons.mpr ⟨lw_p34, List.forall_mem_cons.mpr ⟨lw_p35, List.forall_mem_cons.mpr ⟨lw_p36, List.forall_mem_cons.mpr ⟨lw_p37, List.forall_mem_cons.mpr ⟨lw_p38, List.forall_mem_cons.mpr ⟨lw_p39, List.forall_mem_cons.mpr ⟨lw_p40, fun _ h => absurd h List.not_mem_nil⟩⟩⟩⟩⟩⟩⟩⟩⟩
def lw_privs : List (MethodName × Nat) := lw_privs_1 ++ (lw_privs_2 ++ (lw_privs_3))
def lw_tbl : List Cond := k2_sels lw_privs ++ tables_1
theorem lw_privs_ok : ∀ q ∈ lw_privs, lw_okq q := by
  show ∀ q ∈ lw_privs_1 ++ (lw_privs_2 ++ (lw_privs_3)), lw_okq q
  exact List.forall_mem_append.mpr ⟨lw_r1, List.forall_mem_append.mpr ⟨lw_r2, lw_r3⟩⟩
end
section
/-! ===== BEGIN words of one list among another's, by their places ===== -/
theorem goodIn_r {big : List Cond} (ws : List Cond) (ps : List Nat) (hp : ws = ps.filterMap (fun i => big[i]?)) (h : ws.all goodWord = true) : GoodIn big ws := by
  intro w hw
  have h1 := List.all_eq_true.mp h w hw
  rw [hp] at hw
  obtain ⟨i, -, hi⟩ := List.mem_filterMap.mp hw
  have hm : w ∈ big := by first | exact List.mem_of_getElem? hi | exact List.getElem?_mem hi
  exact ⟨hm, good_of_word h1⟩
theorem goodIn_app {big a b : List Cond} (ha : GoodIn big a) (hb : GoodIn big b) : GoodIn big (a ++ b) := fun w h => (List.mem_append.mp h).elim (ha w) (hb w)
theorem goodIn_ca {big a b : List Cond} {c : Cond} (ha : GoodIn big (c :: a)) (hb : GoodIn big b) : GoodIn big (c :: (a ++ b)) := fun w h => (List.mem_cons.mp h).elim (fun e => ha w (List.mem_cons.mpr (Or.inl e))) (fun h => (List.mem_append.mp h).elim (fun h => ha w (List.mem_cons.mpr (Or.inr h))) (hb w))
theorem goodIn_sub {big ws : List Cond} (hm : ∀ w ∈ ws, w ∈ big) (h : ws.all goodWord = true) : GoodIn big ws := fun w hw => ⟨hm w hw, good_of_word (List.all_eq_true.mp h w hw)⟩
/-! ===== END ===== -/

/-! ===== BEGIN exceptions that leave a method, and their catching by the caller (launches without stack traces) ===== -/
section VXA
/-! The laws vx_back, vx_callV, vx_callS, vx_callSW, vx_throw0, vx_throwS follow proofs of the library, with one case more: JvmDerived/Free/Laws.lean (Back.of_free), Shelf42/LK1.lean (callV, callS), Shelf/KitTraced.lean (throwNew0V, throwNewS). -/
/-- where a method has thrown q: the class by its name, the cell, what was written, the world -/
def vx_T (XC : String → State → State → Prop) (st : State) (q : Addr) (t : State) (mc ms : Nat) (free : Addr → Prop) : Prop :=
  ∃ (E : String) (ce : Cell) (L : List Loc), XC E st t ∧ t.heap[q]? = some ce ∧ ce.vm = .none ∧ st.vm.findClass E = some ce.cls ∧ st.WarmedH t.vm ∧ st.sameButNew ({ t with vm := st.vm } : State) L mc ms ∧ ∀ z ∈ L, free z.base
def vx_Q (Qc : Array Value → State → Outcome → State → Prop) (XC : String → State → State → Prop) (mc ms : Nat) (free : Addr → Prop) : Array Value → State → Outcome → State → Prop := fun a st o t =>
  (Qc a st o t ∧ ∃ L, FrameEnd st o t L mc ms ∧ ∀ q ∈ L, free q.base) ∨ ∃ q, o = .threw q ∧ vx_T XC st q t mc ms free
/-- a callee that returns or throws -/
def vx_Met (l : Launch) (y : MethodName) (ws : List Cond) (rm : Room) (Pc : Array Value → State → Prop) (Qc : Array Value → State → Outcome → State → Prop) (XC : String → State → State → Prop) (mc ms : Nat) (free : Addr → Prop) : Prop :=
  MetFree l y (headSpec ws rm) Pc (fun _ _ _ _ _ => True) (vx_Q Qc XC mc ms free)
def vx_Post (XC : String → State → State → Prop) (mc ms : Nat) (free : Addr → Prop) : Pt → Array Value → Addr → Pt → Prop := fun A a q B =>
  ∃ (g : JFrame) (mk : MethodId) (t : State) (L : List Loc) (E : String) (ce : Cell), B.U.heap = t.heap ∧ B.U.vm = t.vm ∧ XC E (A.U.calling g mk a) t ∧ t.heap[q]? = some ce ∧ ce.vm = .none ∧ A.U.vm.findClass E = some ce.cls ∧ B.locs = A.locs ++ L ∧ (∀ z ∈ L, free z.base) ∧ B.cells = A.cells + mc ∧ B.slots = A.slots + ms
def vx_Back (l : Launch) (R : Room) (p : Program) (e : Env) (below : List Frame) (s : State) (sargs : Array Value) (y : MethodName) (len W9 : Nat)
    (Pre : Pt → Array Value → Prop) (Post : Pt → Array Value → Option Value → Pt → Prop) (PostX : Pt → Array Value → Addr → Pt → Prop) : Prop :=
  ∀ (m : MethodId) (meth : Method) (c : Code) (A : Pt) (g : JFrame) (ig : Instr) (mk : MethodId) (a : Array Value),
    Stand p l e R s m sargs below meth c A.U A.locs A.cells A.slots → g.method = m → g.locals.size = c.maxLocals → decode c.code g.pc = .ok (ig, len) →
    2 * g.monitorRoom + (g.stack.map fun v => v.category).sum ≤ W9 → A.U.methodNamed? y = some mk → Pre A a →
    (∃ (v : Option Value) (B : Pt), Stand p l e R s m sargs below meth c B.U B.locs B.cells B.slots ∧ Post A a v B ∧
      Steps p.tables e below (doInvoke e (A.U.setTop g) [] mk a).1 (B.U.setTop { g with pc := g.pc + len, stack := v.toList ++ g.stack })) ∨
    (∃ (q : Addr) (B : Pt), Stand p l e R s m sargs below meth c B.U B.locs B.cells B.slots ∧ PostX A a q B ∧
      Steps p.tables e below (doInvoke e (A.U.setTop g) [] mk a).1 ((B.U.setTop g).pushFrame (.throwing q)))
section Payer
variable {l : Launch} {R : Room} {p : Program} {e : Env} {below : List Frame} {s : State} {sargs : Array Value} {y : MethodName} {len W9 : Nat}
theorem vx_back {ws : List Cond} {rm : Room} {Pc : Array Value → State → Prop} {Qc : Array Value → State → Outcome → State → Prop} {XC : String → State → State → Prop} {mc ms : Nat} {free : Addr → Prop} {bytes : ByteArray} {maxL : Nat} {ret : Option FieldType}
    (hM : vx_Met l y ws rm Pc Qc XC mc ms free) (hblind : FrameBlind Pc) (hrc : rm.cells = mc) (hrs : rm.slots = ms)
    (hframes : rm.frames + 1 ≤ R.frames) (hlocals : W9 + (maxL + 11) + rm.locals ≤ R.locals)
    (hws : ∀ w ∈ ws, ∀ a' U, s.WarmedH U.vm → w.before a' U = true) (hcode : Cond.code y bytes maxL ret ∈ ws) (hinit : ∀ a' U, s.WarmedH U.vm → (Cond.initialized y.cls).before a' U = true) :
    vx_Back l R p e below s sargs y len W9 (PreOf R mc ms Pc) (PostOf Qc mc ms free) (vx_Post XC mc ms free) := by
  intro m meth c A g ig mk a X hg hsize hdg hW hn hp
  have h1 : (headSpec ws rm).pre.before a A.U = true := atoms_intro fun w hw => hws w hw _ _ X.warmed
  have h2 : (Cond.code y bytes maxL ret).before a A.U = true := hws _ hcode _ _ X.warmed
  have h3 : (Cond.initialized y.cls).before a A.U = true := hinit _ _ X.warmed
  have h4 : A.cells + (headSpec ws rm).room.cells ≤ R.cells := by rw [show (headSpec ws rm).room.cells = mc from hrc]; exact hp.1
  have h5 : A.slots + (headSpec ws rm).room.slots ≤ R.slots := by rw [show (headSpec ws rm).room.slots = ms from hrs]; exact hp.2.1
  have hPc : Pc a (A.U.calling g mk a) := hblind _ _ _ _ hp.2.2
  obtain ⟨U, Ls, c0, s0⟩ := A
  dsimp only [Pt.U, Pt.locs, Pt.cells, Pt.slots] at h1 h2 h3 h4 h5 X hn hPc ⊢
  obtain ⟨methY, cY, hmY, hcY, -, hlY, -, -, -, -⟩ := Cond.code_spec hn h2
  obtain ⟨kY, hkY, -⟩ := className_of_methodNamed hn
  have hinitY : kY.init = .initialized := Cond.initialized_spec (findClass_of_methodNamed hn) hkY h3
  have h : At U g.method c below := by rw [hg]; exact X.here
  have hlocals9 : W9 + (maxL + 11) + (headSpec ws rm).room.locals ≤ R.locals := hlocals
  have happ : (headSpec ws rm).appliesLoose y e.platform (U.calling g mk a) = true :=
    Spec.appliesLoose_calling (g := g) h hdg hn hkY hinitY
      (X.room_calling (g := g) (R' := (headSpec ws rm).room) hsize hmY hcY hframes (by rw [hlY]; omega) h4 h5) h1
  obtain ⟨mid, hmid⟩ := h.above
  have hfr : (U.setTop g).frames = (.java g :: mid) ++ below := by rw [State.frames_setTop' g h.top, hmid]; rfl
  obtain ⟨o, s₂, hsteps, -, hend, hq⟩ := Steps.callFree hM p X.admits X.cas X.clock (acts := []) hfr happ hPc trivial
  have hq' : vx_Q Qc XC mc ms free a (U.calling g mk a) o s₂ := hq
  rw [State.frames_setTop' g h.top] at hend
  obtain ⟨g₀, hg0⟩ := Option.isSome_iff_exists.mp h.top
  obtain ⟨r, hr⟩ := State.topJava?_eq_some.mp hg0
  have hr' : (({ U with heap := s₂.heap, slotsUsed := s₂.slotsUsed } : State).setVm s₂.vm).frames = .java g₀ :: r := hr
  rcases hq' with ⟨hqc, L, hfe, hL⟩ | ⟨q, rfl, E, ce, L, hx, hce, hcv, hcl, hW₂, hsm, hL⟩
  · obtain ⟨⟨v, rfl⟩, hW₂, e2, q2, q3, q4, q5, q6⟩ := id hfe
    have e3 : s₂ = ({ (U.calling g mk a).setFrames s₂.frames with heap := s₂.heap, slotsUsed := s₂.slotsUsed } : State).setVm s₂.vm := by
      have : s₂ = ({ s₂ with vm := (U.calling g mk a).vm } : State).setVm s₂.vm := rfl
      rw [e2] at this
      exact this
    obtain ⟨c₂, i₂, len₂, hc₂, hd₂, hf₂⟩ := hend
    have hW' : U.WarmedH s₂.vm := hW₂
    have hcc : c₂ = c := by
      have h1 : s₂.code? g.method = U.code? g.method := by
        rw [State.code?_eq, State.code?_eq, hW'.alike.method?]
      exact Option.some.inj (hc₂.symm.trans (h1.trans h.code))
    subst hcc
    have hlen : len₂ = len := by rw [hdg] at hd₂; cases hd₂; rfl
    subst hlen
    have hs₂ : s₂ = (({ U with heap := s₂.heap, slotsUsed := s₂.slotsUsed } : State).setVm s₂.vm).setTop { g with pc := g.pc + len₂, stack := v.toList ++ g.stack } := by
      refine e3.trans ?_
      rw [hf₂, State.calling_eq h.top, State.setFrames_setFrames, State.setTop_of_frames _ hr', hr]
      rfl
    have hsame : U.sameButNew ({ U with heap := s₂.heap, slotsUsed := s₂.slotsUsed } : State) L mc ms := by
      refine ⟨?_, q2, q3, q4, q5, q6⟩
      obtain ⟨t, ht, -⟩ := State.frames_cons hr
      show ({ U with heap := s₂.heap, slotsUsed := s₂.slotsUsed } : State) = { U.setFrames U.frames with heap := s₂.heap, slotsUsed := s₂.slotsUsed }
      rw [State.setFrames_self ht]
    subst hg
    refine Or.inl ⟨v, ⟨(({ U with heap := s₂.heap, slotsUsed := s₂.slotsUsed } : State).setVm s₂.vm), Ls ++ L, c0 + mc, s0 + ms⟩,
      ⟨X.admits, X.cas, X.clock, X.frames, X.room, X.hears, X.method, X.code, (X.here.setHeapUsed s₂.heap s₂.slotsUsed).setVm hW'.alike, X.tail, State.WarmedH.trans X.warmed hW', X.limits, X.bytes, X.same.trans (hsame.setVm s.vm)⟩,
      ⟨g, mk, s₂, L, rfl, rfl, hqc, rfl, hL, rfl, rfl⟩, ?_⟩
    show Steps p.tables e below _ ((({ U with heap := s₂.heap, slotsUsed := s₂.slotsUsed } : State).setVm s₂.vm).setTop { g with pc := g.pc + len₂, stack := v.toList ++ g.stack })
    rw [← hs₂]
    exact hsteps
  · obtain ⟨e2, q2, q3, q4, q5, q6⟩ := id hsm
    have e3 : s₂ = ({ (U.calling g mk a).setFrames s₂.frames with heap := s₂.heap, slotsUsed := s₂.slotsUsed } : State).setVm s₂.vm := by
      have : s₂ = ({ s₂ with vm := (U.calling g mk a).vm } : State).setVm s₂.vm := rfl
      rw [e2] at this
      exact this
    have hf₂ : s₂.frames = .throwing q :: .java g :: U.frames.tail := hend
    have hW' : U.WarmedH s₂.vm := hW₂
    have hs₂ : s₂ = ((({ U with heap := s₂.heap, slotsUsed := s₂.slotsUsed } : State).setVm s₂.vm).setTop g).pushFrame (.throwing q) := by
      refine e3.trans ?_
      rw [hf₂, State.calling_eq h.top, State.setFrames_setFrames, State.pushFrame, State.frames_setTop _ hr', State.setTop_of_frames _ hr', State.setFrames_setFrames, hr]
      rfl
    have hsame : U.sameButNew ({ U with heap := s₂.heap, slotsUsed := s₂.slotsUsed } : State) L mc ms := by
      refine ⟨?_, q2, q3, q4, q5, q6⟩
      obtain ⟨t, ht, -⟩ := State.frames_cons hr
      show ({ U with heap := s₂.heap, slotsUsed := s₂.slotsUsed } : State) = { U.setFrames U.frames with heap := s₂.heap, slotsUsed := s₂.slotsUsed }
      rw [State.setFrames_self ht]
    subst hg
    refine Or.inr ⟨q, ⟨(({ U with heap := s₂.heap, slotsUsed := s₂.slotsUsed } : State).setVm s₂.vm), Ls ++ L, c0 + mc, s0 + ms⟩,
      ⟨X.admits, X.cas, X.clock, X.frames, X.room, X.hears, X.method, X.code, (X.here.setHeapUsed s₂.heap s₂.slotsUsed).setVm hW'.alike, X.tail, State.WarmedH.trans X.warmed hW', X.limits, X.bytes, X.same.trans (hsame.setVm s.vm)⟩,
      ⟨g, mk, s₂, L, E, ce, rfl, rfl, hx, hce, hcv, hcl, rfl, hL, rfl, rfl⟩, ?_⟩
    show Steps p.tables e below _ (((({ U with heap := s₂.heap, slotsUsed := s₂.slotsUsed } : State).setVm s₂.vm).setTop g).pushFrame (.throwing q))
    rw [← hs₂]
    exact hsteps
end Payer
section Calls
variable {p : Program} {l : Launch} {e : Env} {R : Room} {s : State} {m : MethodId} {args : Array Value} {below : List Frame} {meth : Method} {c : Code} {T : State} {locs : List Loc} {cells slots : Nat}
theorem vx_callV (X : Stand p l e R s m args below meth c T locs cells slots) (hexec : p.tables.exec = Jvm.exec) {own C : String} {index : Nat} {y : MethodName} {bytes : ByteArray} {maxL : Nat} {ret : Option FieldType}
    (hown : s.vm.findClass own = some m.cls) (hlink : (Cond.methodLink own index y).before args s = true) (hinst : (Cond.instanceMethod y).before args s = true) (hsel : (Cond.selects C y y).before args s = true)
    (hcode : (Cond.code y bytes maxL ret).before args s = true) (hy : y.cls ≠ "java/lang/invoke/MethodHandle" ∧ y.cls ≠ "java/lang/invoke/VarHandle")
    {W9 : Nat} {Pre : Pt → Array Value → Prop} {Post : Pt → Array Value → Option Value → Pt → Prop} {PostX : Pt → Array Value → Addr → Pt → Prop} (hK : vx_Back l R p e below s args y 3 W9 Pre Post PostX)
    {b : Addr} {cellB : Cell} (hcell : T.heap[b]? = some cellB) (hobj : cellB.vm.isStatics = false) (hcls : s.vm.findClass C = some cellB.cls)
    {g : JFrame} (hg : g.method = m) (hsize : g.locals.size = c.maxLocals) {argsL rest : List Value} (hlen : ∀ sig, parseMethodDescriptor y.desc = some sig → argsL.length = sig.parameters.length)
    (hstack : g.stack = argsL.reverse ++ .ref b :: rest) (hW : 2 * g.monitorRoom + (rest.map fun v => v.category).sum ≤ W9) (hdg : decode c.code g.pc = .ok (.invokevirtual index, 3))
    (hpre : ∀ vm₁, s.WarmedH vm₁ → Pre ⟨T.setVm vm₁, locs, cells, slots⟩ (Value.ref b :: argsL).toArray) :
    (∃ (v : Option Value) (vm₁ : Vm) (B : Pt), s.WarmedH vm₁ ∧ Stand p l e R s m args below meth c B.U B.locs B.cells B.slots ∧ Post ⟨T.setVm vm₁, locs, cells, slots⟩ (Value.ref b :: argsL).toArray v B ∧
      ∀ target, Steps p.tables e below (B.U.setTop { g with pc := g.pc + 3, stack := v.toList ++ rest }) target → Steps p.tables e below (T.setTop g) target) ∨
    (∃ (q : Addr) (vm₁ : Vm) (B : Pt), s.WarmedH vm₁ ∧ Stand p l e R s m args below meth c B.U B.locs B.cells B.slots ∧ PostX ⟨T.setVm vm₁, locs, cells, slots⟩ (Value.ref b :: argsL).toArray q B ∧
      Steps p.tables e below (T.setTop g) ((B.U.setTop { g with stack := rest }).pushFrame (.throwing q))) := by
  obtain ⟨mk, methM, hnamed, hmethM, hstM, habM⟩ := Cond.instanceMethod_spec hinst
  obtain ⟨methM', cM, hmethM', -, -, -, -, -, -, hsigM⟩ := Cond.code_spec hnamed hcode
  cases hmethM.symm.trans hmethM'
  obtain ⟨c2, r2, m2, q1, q2, q3, q4, kP, hkP, hkPi⟩ := Cond.selects_spec hsel
  cases hcls.symm.trans q1
  cases (State.methodFound?_of_named hnamed hy).symm.trans q2
  cases hnamed.symm.trans q3
  have hselP : selectMethod e.platform s.vm cellB.cls mk = .method mk := by rw [Launch.admits_selectMethod X.admits]; exact q4
  obtain ⟨vm₁, X₁, hstep₁⟩ := X.invokevirtual hexec hown hlink hnamed hmethM hstM hkP hkPi hy (a := b) (cell := cellB) hcell
    (fun z h => by rw [h] at hobj; cases hobj) hselP hmethM habM hkP hkPi (g := g) hg (argsL := argsL) (rest := rest) (hlen _ hsigM) hstack hdg
  rcases hK m meth c ⟨T.setVm vm₁, locs, cells, slots⟩ { g with stack := rest } (.invokevirtual index) mk (Value.ref b :: argsL).toArray X₁ hg hsize hdg hW (X₁.named hnamed) (hpre vm₁ X₁.warmed) with ⟨v, B, X', hpost, hsteps⟩ | ⟨q, B, X', hpost, hsteps⟩
  · exact Or.inl ⟨v, vm₁, B, X₁.warmed, X', hpost, fun target h => hstep₁ _ fun acts => by rw [doInvoke_state]; exact hsteps.trans h⟩
  · exact Or.inr ⟨q, vm₁, B, X₁.warmed, X', hpost, hstep₁ _ fun acts => by rw [doInvoke_state]; exact hsteps⟩
theorem vx_callS (X : Stand p l e R s m args below meth c T locs cells slots) (hexec : p.tables.exec = Jvm.exec) {own : String} {index : Nat} {y : MethodName} {bytes : ByteArray} {maxL : Nat} {ret : Option FieldType}
    (hown : s.vm.findClass own = some m.cls) (hlink : (Cond.methodLink own index y).before args s = true) (hstat : (Cond.static y).before args s = true) (hinit : (Cond.initialized y.cls).before args s = true)
    (hcode : (Cond.code y bytes maxL ret).before args s = true) (hy : y.cls ≠ "java/lang/invoke/MethodHandle" ∧ y.cls ≠ "java/lang/invoke/VarHandle")
    {W9 : Nat} {Pre : Pt → Array Value → Prop} {Post : Pt → Array Value → Option Value → Pt → Prop} {PostX : Pt → Array Value → Addr → Pt → Prop} (hK : vx_Back l R p e below s args y 3 W9 Pre Post PostX)
    {g : JFrame} (hg : g.method = m) (hsize : g.locals.size = c.maxLocals) {argsL rest : List Value} (hlen : ∀ sig, parseMethodDescriptor y.desc = some sig → argsL.length = sig.parameters.length)
    (hstack : g.stack = argsL.reverse ++ rest) (hW : 2 * g.monitorRoom + (rest.map fun v => v.category).sum ≤ W9) (hdg : decode c.code g.pc = .ok (.invokestatic index, 3))
    (hpre : ∀ vm₁, s.WarmedH vm₁ → Pre ⟨T.setVm vm₁, locs, cells, slots⟩ argsL.toArray) :
    (∃ (v : Option Value) (vm₁ : Vm) (B : Pt), s.WarmedH vm₁ ∧ Stand p l e R s m args below meth c B.U B.locs B.cells B.slots ∧ Post ⟨T.setVm vm₁, locs, cells, slots⟩ argsL.toArray v B ∧
      ∀ target, Steps p.tables e below (B.U.setTop { g with pc := g.pc + 3, stack := v.toList ++ rest }) target → Steps p.tables e below (T.setTop g) target) ∨
    (∃ (q : Addr) (vm₁ : Vm) (B : Pt), s.WarmedH vm₁ ∧ Stand p l e R s m args below meth c B.U B.locs B.cells B.slots ∧ PostX ⟨T.setVm vm₁, locs, cells, slots⟩ argsL.toArray q B ∧
      Steps p.tables e below (T.setTop g) ((B.U.setTop { g with stack := rest }).pushFrame (.throwing q))) := by
  obtain ⟨mk, hnamed⟩ := Cond.code_named hcode
  obtain ⟨methM, cM, hmethM, -, -, -, -, -, -, hsigM⟩ := Cond.code_spec hnamed hcode
  have hstatic : methM.isStatic = true := Cond.static_spec hnamed hmethM hstat
  obtain ⟨kP, hkP, -⟩ := className_of_methodNamed hnamed
  have hinitP : kP.init = .initialized := Cond.initialized_spec (findClass_of_methodNamed hnamed) hkP hinit
  obtain ⟨vm₁, X₁, hstep₁⟩ := X.invokestatic hexec hown hlink hnamed hmethM hstatic hkP hinitP hy (g := g) hg (argsL := argsL) (rest := rest) (hlen _ hsigM) hstack hdg
  rcases hK m meth c ⟨T.setVm vm₁, locs, cells, slots⟩ { g with stack := rest } (.invokestatic index) mk argsL.toArray X₁ hg hsize hdg hW (X₁.named hnamed) (hpre vm₁ X₁.warmed) with ⟨v, B, X', hpost, hsteps⟩ | ⟨q, B, X', hpost, hsteps⟩
  · exact Or.inl ⟨v, vm₁, B, X₁.warmed, X', hpost, fun target h => hstep₁ _ fun acts => by rw [doInvoke_state]; exact hsteps.trans h⟩
  · exact Or.inr ⟨q, vm₁, B, X₁.warmed, X', hpost, hstep₁ _ fun acts => by rw [doInvoke_state]; exact hsteps⟩
end Calls
theorem vx_cls {s : State} {T : State} {vm₁ : Vm} {E : String} {k : ClassId} (hW : s.WarmedH vm₁) (h : (T.setVm vm₁).vm.findClass E = some k) : s.vm.findClass E = some k := by
  have h1 : vm₁.findClass E = some k := h
  rw [hW.alike.findClass] at h1
  exact h1
/-- the method's frame g, with q thrown over it -/
def vx_W (p : Program) (l : Launch) (e : Env) (R : Room) (s : State) (m : MethodId) (args : Array Value) (below : List Frame) (meth : Method) (c : Code) (H : Heap) (locs : List Loc) (cells slots : Nat) (Q : State → Prop) (g : JFrame) (q : Addr) : Prop :=
  ∀ T : State, T.heap = H → Stand p l e R s m args below meth c T locs cells slots → ∃ t, Steps p.tables e below ((T.setTop g).pushFrame (.throwing q)) t ∧ Q t
def vx_Run (p : Program) (l : Launch) (e : Env) (R : Room) (s : State) (m : MethodId) (args : Array Value) (below : List Frame) (meth : Method) (c : Code) (H : Heap) (locs : List Loc) (cells slots mc ms : Nat) (g : JFrame) (rest : List Value) (Qa : State → Outcome → State → Prop) (XC : String → State → State → Prop) (free : Addr → Prop) : Prop :=
  ∀ T : State, T.heap = H → Stand p l e R s m args below meth c T locs cells slots →
    (∃ (v : Option Value) (st₀ t T' : State) (L : List Loc), st₀.heap = H ∧ Stand p l e R s m args below meth c T' (locs ++ L) (cells + mc) (slots + ms) ∧ (∀ q ∈ L, free q.base) ∧ T'.heap = t.heap ∧ T'.vm = t.vm ∧ Qa st₀ (.returned v) t ∧
      Goes p e below T g T' { g with pc := g.pc + 3, stack := v.toList ++ rest }) ∨
    (∃ (q : Addr) (st₀ t T' : State) (L : List Loc) (E : String) (ce : Cell), st₀.heap = H ∧ Stand p l e R s m args below meth c T' (locs ++ L) (cells + mc) (slots + ms) ∧ (∀ z ∈ L, free z.base) ∧ T'.heap = t.heap ∧ T'.vm = t.vm ∧ XC E st₀ t ∧ t.heap[q]? = some ce ∧ ce.vm = .none ∧ s.vm.findClass E = some ce.cls ∧
      Steps p.tables e below (T.setTop g) ((T'.setTop { g with stack := rest }).pushFrame (.throwing q)))
def vx_X {S : Type} (px : S → Prop) (B : String → S → State → Prop) (A : Nat → Prop) : String → State → State → Prop := fun E st t => ∃ u : S, px u ∧ B E u t ∧ va_F A st t
section Runs
variable {p : Program} {l : Launch} {e : Env} {R : Room} {s : State} {m : MethodId} {args : Array Value} {below : List Frame} {meth : Method} {c : Code} {H : Heap} {locs : List Loc} {cells slots : Nat}
variable {y : MethodName} {bytes cc : ByteArray} {maxL nL mc ms n index : Nat} {ret : Option FieldType} {ws : List Cond} {rm : Room} {Pc : Array Value → State → Prop} {Qc : Array Value → State → Outcome → State → Prop} {XC : String → State → State → Prop} {free : Addr → Prop} {Ts : List Cond} {own C : String} {b : Addr} {As rest : List Value} {g : JFrame}
theorem vx_callBack (cb : CallB R s args own index y bytes maxL ret ws rm mc ms n) (hM : vx_Met l y ws rm Pc Qc XC mc ms free) (hbl : FrameBlind Pc) : vx_Back l R p e below s args y 3 8 (PreOf R mc ms Pc) (PostOf Qc mc ms free) (vx_Post XC mc ms free) := by
  obtain ⟨hrc, hrs, hfr, hlo, hws, hcw, -, hini, -⟩ := cb
  exact vx_back (bytes := bytes) (maxL := maxL) (ret := ret) hM hbl hrc hrs hfr hlo hws hcw (fun a' U hW => word_at hW (Or.inl (by first | rfl | simp [Cond.onTables, Cond.keeps, Cond.steady])) hini)
theorem vx_runV (S : CallFix p m c cc nL s args Ts own) (hM : vx_Met l y ws rm Pc Qc XC mc ms free) (cw : CallW R s args own C index y bytes maxL ret ws rm mc ms n) (hp : PreV s H C b Pc As)
    (hg : g.method = m) (hn : As.length = n) (hsize : g.locals.size = nL) (hstack : g.stack = As.reverse ++ .ref b :: rest) (hW : 2 * g.monitorRoom + (rest.map fun v => v.category).sum ≤ 8) (hdg : decode cc g.pc = .ok (.invokevirtual index, 3)) (hf : cells + mc ≤ R.cells ∧ slots + ms ≤ R.slots) :
    vx_Run p l e R s m args below meth c H locs cells slots mc ms g rest (Qc (Value.ref b :: As).toArray) XC free := by
  have hK : vx_Back l R p e below s args y 3 8 (PreOf R mc ms Pc) (PostOf Qc mc ms free) (vx_Post XC mc ms free) := vx_callBack cw.1 hM hp.1
  obtain ⟨⟨-, -, -, -, -, -, hcode, -, hy, hlen, hl⟩, hin, hse⟩ := cw
  obtain ⟨hx, hb, hml, ho, -⟩ := S
  obtain ⟨-, ⟨cellB, hcB, hoB, hclB⟩, hPc⟩ := hp
  intro T hT X
  rcases vx_callV X hx (C := C) (bytes := bytes) (maxL := maxL) (ret := ret) ho hl hin hse hcode hy hK (by rw [hT]; exact hcB) hoB hclB hg (hsize.trans hml.symm) (argsL := As) (rest := rest) (fun sig h => hn.trans (hlen sig h)) hstack hW (by rw [hb]; exact hdg)
    (fun vm₁ hW₁ => ⟨hf.1, hf.2, hPc (T.setVm vm₁) hT hW₁⟩) with ⟨v, vm₁, ⟨U', l2, c2, s2⟩, hW₁, X', ⟨g', mk, t, L, e1, e2, hq, h1, hL, h2, h3⟩, st⟩ | ⟨q, vm₁, ⟨U', l2, c2, s2⟩, hW₁, X', ⟨g', mk, t, L, E, ce, e1, e2, hq, hce, hcv, hcl, h1, hL, h2, h3⟩, st⟩
  · dsimp only [Pt.U, Pt.locs, Pt.cells, Pt.slots] at X' e1 e2 h1 h2 h3 st
    subst h1; subst h2; subst h3
    exact Or.inl ⟨v, (T.setVm vm₁).calling g' mk (Value.ref b :: As).toArray, t, U', L, hT, X', hL, e1, e2, hq, st⟩
  · dsimp only [Pt.U, Pt.locs, Pt.cells, Pt.slots] at X' e1 e2 h1 h2 h3 st hcl
    subst h1; subst h2; subst h3
    exact Or.inr ⟨q, (T.setVm vm₁).calling g' mk (Value.ref b :: As).toArray, t, U', L, E, ce, hT, X', hL, e1, e2, hq, hce, hcv, vx_cls hW₁ hcl, st⟩
theorem vx_runS (S : CallFix p m c cc nL s args Ts own) (hM : vx_Met l y ws rm Pc Qc XC mc ms free) (cw : CallB R s args own index y bytes maxL ret ws rm mc ms n ∧ (Cond.static y).before args s = true) (hp : PreS s H Pc As)
    (hg : g.method = m) (hn : As.length = n) (hsize : g.locals.size = nL) (hstack : g.stack = As.reverse ++ rest) (hW : 2 * g.monitorRoom + (rest.map fun v => v.category).sum ≤ 8) (hdg : decode cc g.pc = .ok (.invokestatic index, 3)) (hf : cells + mc ≤ R.cells ∧ slots + ms ≤ R.slots) :
    vx_Run p l e R s m args below meth c H locs cells slots mc ms g rest (Qc As.toArray) XC free := by
  have hK : vx_Back l R p e below s args y 3 8 (PreOf R mc ms Pc) (PostOf Qc mc ms free) (vx_Post XC mc ms free) := vx_callBack cw.1 hM hp.1
  obtain ⟨⟨-, -, -, -, -, -, hcode, hini, hy, hlen, hl⟩, hstt⟩ := cw
  obtain ⟨hx, hb, hml, ho, -⟩ := S
  intro T hT X
  rcases vx_callS X hx (bytes := bytes) (maxL := maxL) (ret := ret) ho hl hstt hini hcode hy hK hg (hsize.trans hml.symm) (argsL := As) (rest := rest) (fun sig h => hn.trans (hlen sig h)) hstack hW (by rw [hb]; exact hdg)
    (fun vm₁ hW₁ => ⟨hf.1, hf.2, hp.2 (T.setVm vm₁) hT hW₁⟩) with ⟨v, vm₁, ⟨U', l2, c2, s2⟩, hW₁, X', ⟨g', mk, t, L, e1, e2, hq, h1, hL, h2, h3⟩, st⟩ | ⟨q, vm₁, ⟨U', l2, c2, s2⟩, hW₁, X', ⟨g', mk, t, L, E, ce, e1, e2, hq, hce, hcv, hcl, h1, hL, h2, h3⟩, st⟩
  · dsimp only [Pt.U, Pt.locs, Pt.cells, Pt.slots] at X' e1 e2 h1 h2 h3 st
    subst h1; subst h2; subst h3
    exact Or.inl ⟨v, (T.setVm vm₁).calling g' mk As.toArray, t, U', L, hT, X', hL, e1, e2, hq, st⟩
  · dsimp only [Pt.U, Pt.locs, Pt.cells, Pt.slots] at X' e1 e2 h1 h2 h3 st hcl
    subst h1; subst h2; subst h3
    exact Or.inr ⟨q, (T.setVm vm₁).calling g' mk As.toArray, t, U', L, E, ce, hT, X', hL, e1, e2, hq, hce, hcv, vx_cls hW₁ hcl, st⟩
end Runs
section Rows
variable {p : Program} {l : Launch} {e : Env} {R : Room} {s : State} {m : MethodId} {args : Array Value} {below : List Frame} {meth : Method} {c : Code} {H : Heap} {locs : List Loc} {cells slots : Nat} {Q : State → Prop}
variable {mc ms : Nat} {free : Addr → Prop} {A0 A1 : Nat → Prop} {H0 : Heap} {a : Array Value} {pc : Nat} {ls : Array Slot} {st0 rest : List Value}
theorem vx_keep {st₀ t T' : State} {L : List Loc} (h0 : st₀.heap = H) (e1 : T'.heap = t.heap) (hS : va_S A0 H0 H locs) (hA : ∀ q, q < H.size → A1 q → A0 q) (hf : ∀ q, free q → A0 q) (hL : ∀ q ∈ L, free q.base) (hF : va_F A1 st₀ t) :
    H.size ≤ T'.heap.size ∧ (∀ q : Nat, q < H.size → ¬ A1 q → T'.heap[q]? = H[q]?) ∧ va_S A0 H0 T'.heap (locs ++ L) := by
  obtain ⟨hz, hk⟩ := hF
  rw [h0] at hz hk
  exact ⟨by rw [e1]; exact hz, fun q h1 h2 => by rw [e1]; exact hk q h1 h2,
    ⟨Nat.le_trans hS.1 (by rw [e1]; exact hz), fun q h1 h2 => by rw [e1, hk q (Nat.lt_of_lt_of_le h1 hS.1) (fun z => h2 (hA q (Nat.lt_of_lt_of_le h1 hS.1) z))]; exact hS.2.1 q h1 h2, fun q hq => by
      rcases List.mem_append.mp hq with h | h
      · exact hS.2.2 q h
      · exact hf _ (hL q h)⟩⟩
theorem vx_calli {S SX : Type} {post : Int32 → S → Prop} {px : SX → Prop} {B : S → State → Prop} {BX : String → SX → State → Prop} {AX : Nat → Prop} (hr : vx_Run p l e R s m args below meth c H locs cells slots mc ms (F0 m pc ls st0) rest (va_Qi post B A1 a) (vx_X px BX AX) free) (hS : va_S A0 H0 H locs) (hA : ∀ q, q < H.size → A1 q → A0 q) (hf : ∀ q, free q → A0 q) (hAX : ∀ q, q < H.size → AX q → A0 q)
    (kx : ∀ (E : String) (ce : Cell) (q9 : Addr) (u : SX) (t : State) (H1 : Heap) (locs1 : List Loc), t.heap = H1 → s.vm.Alike t.vm → px u → BX E u t → H.size ≤ H1.size → (∀ q : Nat, q < H.size → ¬ AX q → H1[q]? = H[q]?) → va_S A0 H0 H1 locs1 → H1[q9]? = some ce → ce.vm = .none → s.vm.findClass E = some ce.cls → vx_W p l e R s m args below meth c H1 locs1 (cells + mc) (slots + ms) Q (F0 m pc ls rest) q9)
    (kk : ∀ (r : Int32) (u : S) (t : State) (H1 : Heap) (locs1 : List Loc), t.heap = H1 → s.vm.Alike t.vm → post r u → B u t → H.size ≤ H1.size → (∀ q : Nat, q < H.size → ¬ A1 q → H1[q]? = H[q]?) → va_S A0 H0 H1 locs1 → W p l e R s m args below meth c H1 locs1 (cells + mc) (slots + ms) Q (F0 m (pc + 3) ls (.int r :: rest))) : W p l e R s m args below meth c H locs cells slots Q (F0 m pc ls st0) := by
  intro T hT X
  rcases hr T hT X with ⟨v, st₀, t, T', L, h0, X', hL, e1, e2, ⟨⟨r, u, hv, hp, hb⟩, hF⟩, st⟩ | ⟨q, st₀, t, T', L, E, ce, h0, X', hL, e1, e2, ⟨u, hp, hb, hF⟩, hce, hcv, hcl, st⟩
  · cases hv
    obtain ⟨k1, k2, k3⟩ := vx_keep h0 e1 hS hA hf hL hF
    obtain ⟨t2, a1, b1⟩ := kk r u t T'.heap (locs ++ L) e1.symm (by rw [← e2]; exact X'.warmed.alike) hp hb k1 k2 k3 T' rfl X'
    exact ⟨t2, st t2 a1, b1⟩
  · obtain ⟨k1, k2, k3⟩ := vx_keep h0 e1 hS hAX hf hL hF
    obtain ⟨t2, a1, b1⟩ := kx E ce q u t T'.heap (locs ++ L) e1.symm (by rw [← e2]; exact X'.warmed.alike) hp hb k1 k2 k3 (by rw [e1]; exact hce) hcv hcl T' rfl X'
    exact ⟨t2, st.trans a1, b1⟩
theorem vx_calll {S SX : Type} {post : Int64 → S → Prop} {px : SX → Prop} {B : S → State → Prop} {BX : String → SX → State → Prop} {AX : Nat → Prop} (hr : vx_Run p l e R s m args below meth c H locs cells slots mc ms (F0 m pc ls st0) rest (va_Ql post B A1 a) (vx_X px BX AX) free) (hS : va_S A0 H0 H locs) (hA : ∀ q, q < H.size → A1 q → A0 q) (hf : ∀ q, free q → A0 q) (hAX : ∀ q, q < H.size → AX q → A0 q)
    (kx : ∀ (E : String) (ce : Cell) (q9 : Addr) (u : SX) (t : State) (H1 : Heap) (locs1 : List Loc), t.heap = H1 → s.vm.Alike t.vm → px u → BX E u t → H.size ≤ H1.size → (∀ q : Nat, q < H.size → ¬ AX q → H1[q]? = H[q]?) → va_S A0 H0 H1 locs1 → H1[q9]? = some ce → ce.vm = .none → s.vm.findClass E = some ce.cls → vx_W p l e R s m args below meth c H1 locs1 (cells + mc) (slots + ms) Q (F0 m pc ls rest) q9)
    (kk : ∀ (r : Int64) (u : S) (t : State) (H1 : Heap) (locs1 : List Loc), t.heap = H1 → s.vm.Alike t.vm → post r u → B u t → H.size ≤ H1.size → (∀ q : Nat, q < H.size → ¬ A1 q → H1[q]? = H[q]?) → va_S A0 H0 H1 locs1 → W p l e R s m args below meth c H1 locs1 (cells + mc) (slots + ms) Q (F0 m (pc + 3) ls (.long r :: rest))) : W p l e R s m args below meth c H locs cells slots Q (F0 m pc ls st0) := by
  intro T hT X
  rcases hr T hT X with ⟨v, st₀, t, T', L, h0, X', hL, e1, e2, ⟨⟨r, u, hv, hp, hb⟩, hF⟩, st⟩ | ⟨q, st₀, t, T', L, E, ce, h0, X', hL, e1, e2, ⟨u, hp, hb, hF⟩, hce, hcv, hcl, st⟩
  · cases hv
    obtain ⟨k1, k2, k3⟩ := vx_keep h0 e1 hS hA hf hL hF
    obtain ⟨t2, a1, b1⟩ := kk r u t T'.heap (locs ++ L) e1.symm (by rw [← e2]; exact X'.warmed.alike) hp hb k1 k2 k3 T' rfl X'
    exact ⟨t2, st t2 a1, b1⟩
  · obtain ⟨k1, k2, k3⟩ := vx_keep h0 e1 hS hAX hf hL hF
    obtain ⟨t2, a1, b1⟩ := kx E ce q u t T'.heap (locs ++ L) e1.symm (by rw [← e2]; exact X'.warmed.alike) hp hb k1 k2 k3 (by rw [e1]; exact hce) hcv hcl T' rfl X'
    exact ⟨t2, st.trans a1, b1⟩
theorem vx_callf {S SX : Type} {post : UInt32 → S → Prop} {px : SX → Prop} {B : S → State → Prop} {BX : String → SX → State → Prop} {AX : Nat → Prop} (hr : vx_Run p l e R s m args below meth c H locs cells slots mc ms (F0 m pc ls st0) rest (va_Qf post B A1 a) (vx_X px BX AX) free) (hS : va_S A0 H0 H locs) (hA : ∀ q, q < H.size → A1 q → A0 q) (hf : ∀ q, free q → A0 q) (hAX : ∀ q, q < H.size → AX q → A0 q)
    (kx : ∀ (E : String) (ce : Cell) (q9 : Addr) (u : SX) (t : State) (H1 : Heap) (locs1 : List Loc), t.heap = H1 → s.vm.Alike t.vm → px u → BX E u t → H.size ≤ H1.size → (∀ q : Nat, q < H.size → ¬ AX q → H1[q]? = H[q]?) → va_S A0 H0 H1 locs1 → H1[q9]? = some ce → ce.vm = .none → s.vm.findClass E = some ce.cls → vx_W p l e R s m args below meth c H1 locs1 (cells + mc) (slots + ms) Q (F0 m pc ls rest) q9)
    (kk : ∀ (r : UInt32) (u : S) (t : State) (H1 : Heap) (locs1 : List Loc), t.heap = H1 → s.vm.Alike t.vm → post r u → B u t → H.size ≤ H1.size → (∀ q : Nat, q < H.size → ¬ A1 q → H1[q]? = H[q]?) → va_S A0 H0 H1 locs1 → W p l e R s m args below meth c H1 locs1 (cells + mc) (slots + ms) Q (F0 m (pc + 3) ls (.float r :: rest))) : W p l e R s m args below meth c H locs cells slots Q (F0 m pc ls st0) := by
  intro T hT X
  rcases hr T hT X with ⟨v, st₀, t, T', L, h0, X', hL, e1, e2, ⟨⟨r, u, hv, hp, hb⟩, hF⟩, st⟩ | ⟨q, st₀, t, T', L, E, ce, h0, X', hL, e1, e2, ⟨u, hp, hb, hF⟩, hce, hcv, hcl, st⟩
  · cases hv
    obtain ⟨k1, k2, k3⟩ := vx_keep h0 e1 hS hA hf hL hF
    obtain ⟨t2, a1, b1⟩ := kk r u t T'.heap (locs ++ L) e1.symm (by rw [← e2]; exact X'.warmed.alike) hp hb k1 k2 k3 T' rfl X'
    exact ⟨t2, st t2 a1, b1⟩
  · obtain ⟨k1, k2, k3⟩ := vx_keep h0 e1 hS hAX hf hL hF
    obtain ⟨t2, a1, b1⟩ := kx E ce q u t T'.heap (locs ++ L) e1.symm (by rw [← e2]; exact X'.warmed.alike) hp hb k1 k2 k3 (by rw [e1]; exact hce) hcv hcl T' rfl X'
    exact ⟨t2, st.trans a1, b1⟩
theorem vx_calld {S SX : Type} {post : UInt64 → S → Prop} {px : SX → Prop} {B : S → State → Prop} {BX : String → SX → State → Prop} {AX : Nat → Prop} (hr : vx_Run p l e R s m args below meth c H locs cells slots mc ms (F0 m pc ls st0) rest (va_Qd post B A1 a) (vx_X px BX AX) free) (hS : va_S A0 H0 H locs) (hA : ∀ q, q < H.size → A1 q → A0 q) (hf : ∀ q, free q → A0 q) (hAX : ∀ q, q < H.size → AX q → A0 q)
    (kx : ∀ (E : String) (ce : Cell) (q9 : Addr) (u : SX) (t : State) (H1 : Heap) (locs1 : List Loc), t.heap = H1 → s.vm.Alike t.vm → px u → BX E u t → H.size ≤ H1.size → (∀ q : Nat, q < H.size → ¬ AX q → H1[q]? = H[q]?) → va_S A0 H0 H1 locs1 → H1[q9]? = some ce → ce.vm = .none → s.vm.findClass E = some ce.cls → vx_W p l e R s m args below meth c H1 locs1 (cells + mc) (slots + ms) Q (F0 m pc ls rest) q9)
    (kk : ∀ (r : UInt64) (u : S) (t : State) (H1 : Heap) (locs1 : List Loc), t.heap = H1 → s.vm.Alike t.vm → post r u → B u t → H.size ≤ H1.size → (∀ q : Nat, q < H.size → ¬ A1 q → H1[q]? = H[q]?) → va_S A0 H0 H1 locs1 → W p l e R s m args below meth c H1 locs1 (cells + mc) (slots + ms) Q (F0 m (pc + 3) ls (.double r :: rest))) : W p l e R s m args below meth c H locs cells slots Q (F0 m pc ls st0) := by
  intro T hT X
  rcases hr T hT X with ⟨v, st₀, t, T', L, h0, X', hL, e1, e2, ⟨⟨r, u, hv, hp, hb⟩, hF⟩, st⟩ | ⟨q, st₀, t, T', L, E, ce, h0, X', hL, e1, e2, ⟨u, hp, hb, hF⟩, hce, hcv, hcl, st⟩
  · cases hv
    obtain ⟨k1, k2, k3⟩ := vx_keep h0 e1 hS hA hf hL hF
    obtain ⟨t2, a1, b1⟩ := kk r u t T'.heap (locs ++ L) e1.symm (by rw [← e2]; exact X'.warmed.alike) hp hb k1 k2 k3 T' rfl X'
    exact ⟨t2, st t2 a1, b1⟩
  · obtain ⟨k1, k2, k3⟩ := vx_keep h0 e1 hS hAX hf hL hF
    obtain ⟨t2, a1, b1⟩ := kx E ce q u t T'.heap (locs ++ L) e1.symm (by rw [← e2]; exact X'.warmed.alike) hp hb k1 k2 k3 (by rw [e1]; exact hce) hcv hcl T' rfl X'
    exact ⟨t2, st.trans a1, b1⟩
theorem vx_callv {S SX : Type} {post : S → Prop} {px : SX → Prop} {B : S → State → Prop} {BX : String → SX → State → Prop} {AX : Nat → Prop} (hr : vx_Run p l e R s m args below meth c H locs cells slots mc ms (F0 m pc ls st0) rest (va_Qv post B A1 a) (vx_X px BX AX) free) (hS : va_S A0 H0 H locs) (hA : ∀ q, q < H.size → A1 q → A0 q) (hf : ∀ q, free q → A0 q) (hAX : ∀ q, q < H.size → AX q → A0 q)
    (kx : ∀ (E : String) (ce : Cell) (q9 : Addr) (u : SX) (t : State) (H1 : Heap) (locs1 : List Loc), t.heap = H1 → s.vm.Alike t.vm → px u → BX E u t → H.size ≤ H1.size → (∀ q : Nat, q < H.size → ¬ AX q → H1[q]? = H[q]?) → va_S A0 H0 H1 locs1 → H1[q9]? = some ce → ce.vm = .none → s.vm.findClass E = some ce.cls → vx_W p l e R s m args below meth c H1 locs1 (cells + mc) (slots + ms) Q (F0 m pc ls rest) q9)
    (kk : ∀ (u : S) (t : State) (H1 : Heap) (locs1 : List Loc), t.heap = H1 → s.vm.Alike t.vm → post u → B u t → H.size ≤ H1.size → (∀ q : Nat, q < H.size → ¬ A1 q → H1[q]? = H[q]?) → va_S A0 H0 H1 locs1 → W p l e R s m args below meth c H1 locs1 (cells + mc) (slots + ms) Q (F0 m (pc + 3) ls (rest))) : W p l e R s m args below meth c H locs cells slots Q (F0 m pc ls st0) := by
  intro T hT X
  rcases hr T hT X with ⟨v, st₀, t, T', L, h0, X', hL, e1, e2, ⟨⟨u, hv, hp, hb⟩, hF⟩, st⟩ | ⟨q, st₀, t, T', L, E, ce, h0, X', hL, e1, e2, ⟨u, hp, hb, hF⟩, hce, hcv, hcl, st⟩
  · cases hv
    obtain ⟨k1, k2, k3⟩ := vx_keep h0 e1 hS hA hf hL hF
    obtain ⟨t2, a1, b1⟩ := kk u t T'.heap (locs ++ L) e1.symm (by rw [← e2]; exact X'.warmed.alike) hp hb k1 k2 k3 T' rfl X'
    exact ⟨t2, st t2 a1, b1⟩
  · obtain ⟨k1, k2, k3⟩ := vx_keep h0 e1 hS hAX hf hL hF
    obtain ⟨t2, a1, b1⟩ := kx E ce q u t T'.heap (locs ++ L) e1.symm (by rw [← e2]; exact X'.warmed.alike) hp hb k1 k2 k3 (by rw [e1]; exact hce) hcv hcl T' rfl X'
    exact ⟨t2, st.trans a1, b1⟩
/-- caught by the row x of this method's table; the rows ahead don't take it -/
theorem vx_catch {own name : String} {E : String} {ce : Cell} {q : Addr} (hown : s.vm.findClass own = some m.cls) (pre : List ExceptionTableEntry) (x : ExceptionTableEntry) (suf : List ExceptionTableEntry) (hsplit : c.exceptionTable.toList = pre ++ x :: suf)
    (hpass : ∀ z ∈ pre, covers z pc = false ∨ (z.catchType ≠ 0 ∧ ∃ nm : String, (Cond.classLink own z.catchType nm).before args s = true ∧ va_Nc E nm s)) (hx : covers x pc = true) (h0 : x.catchType ≠ 0)
    (hlink : (Cond.classLink own x.catchType name).before args s = true) (hcast : (Cond.castable E name).before args s = true) (hcell : H[q]? = some ce) (hv : ce.vm = .none) (hcl : s.vm.findClass E = some ce.cls)
    (kk : W p l e R s m args below meth c H locs cells slots Q (F0 m x.handlerPc ls [.ref q])) : vx_W p l e R s m args below meth c H locs cells slots Q (F0 m pc ls rest) q := by
  intro T hT X
  have hpl : e.platform.magicAccessors = ({} : Platform).magicAccessors := by rw [X.admits.platform]
  obtain ⟨c3, c4, hc3, hc4, hasg⟩ := Cond.castable_spec hcast
  cases Option.some.inj (hc3.symm.trans hcl)
  obtain ⟨c5, hc5, hcl5⟩ := Cond.classLink_spec hown hlink e.platform hpl
  cases Option.some.inj (hc4.symm.trans hc5)
  obtain ⟨vm', X', st⟩ := X.thenCaughtThrough q (g := F0 m pc ls rest) rfl (Steps.refl _) (by rw [hT]; exact hcell) (by rw [hv]; rfl) (by obtain ⟨k9, h9, -⟩ := Vm.findClass_spec hcl; exact ⟨k9, h9⟩) pre x suf hsplit
    (fun z hz => by
      rcases hpass z hz with h | ⟨hz0, nm, hl1, hn1⟩
      · exact Or.inl h
      · obtain ⟨c6, hc6, hcl6⟩ := Cond.classLink_spec hown hl1 e.platform hpl
        obtain ⟨a8, b8, h1, h2, h3⟩ := hn1
        cases Option.some.inj (h1.symm.trans hcl)
        cases Option.some.inj (h2.symm.trans hc6)
        exact Or.inr ⟨hz0, _, hcl6, h3⟩) hx (Or.inr ⟨h0, c4, hcl5, hasg⟩)
  obtain ⟨t, a1, b1⟩ := kk (T.setVm vm') hT X'
  exact ⟨t, st.trans a1, b1⟩
end Rows
section Ends
variable {p : Program} {l : Launch} {e : Env} {R : Room} {s : State} {m : MethodId} {args : Array Value} {below : List Frame} {meth : Method} {c : Code} {H : Heap} {locs : List Loc} {cells slots : Nat} {Q : State → Prop}
variable {mc ms : Nat} {free : Addr → Prop} {A0 A1 : Nat → Prop} {H0 : Heap} {a : Array Value} {ls : Array Slot} {st0 rest : List Value}
variable {Qc : Array Value → State → Outcome → State → Prop} {XC : String → State → State → Prop}
/-- what a body that may throw owes at its end -/
def vx_MQ (below : List Frame) (Qc : Array Value → State → Outcome → State → Prop) (XC : String → State → State → Prop) (a : Array Value) (s : State) (mc ms : Nat) (free : Addr → Prop) : State → Prop := fun t =>
  ∃ o, t.status = .running ∧ Ended t below o ∧ vx_Q Qc XC mc ms free a s o t
theorem vx_ret {g : JFrame} {mc ms : Nat} (k : W p l e R s m args below meth c H locs cells slots (MQ below Qc args s mc ms free) g) : W p l e R s m args below meth c H locs cells slots (vx_MQ below Qc XC args s mc ms free) g := by
  intro T hT X
  obtain ⟨t, a1, o, b1, b2, b3, b4⟩ := k T hT X
  exact ⟨t, a1, o, b1, b2, Or.inl ⟨b3, b4⟩⟩
/-- not caught here: it goes on to the caller -/
theorem vx_widen {g : JFrame} {q : Addr} {k n : Nat} (h1 : cells ≤ k) (h2 : slots ≤ n) (kk : vx_W p l e R s m args below meth c H locs k n Q g q) : vx_W p l e R s m args below meth c H locs cells slots Q g q := fun T hT X => kk T hT (stand_widen X h1 h2)
theorem vx_out {pc : Nat} {E : String} {ce : Cell} {q : Addr} {mc ms : Nat} (hout : ∀ x ∈ c.exceptionTable.toList, covers x pc = false) (hlocks : meth.locks = false) (hcell : H[q]? = some ce) (hv : ce.vm = .none) (hcl : s.vm.findClass E = some ce.cls)
    (hx : ∀ t : State, t.heap = H → s.vm.Alike t.vm → XC E s t) (hf : ∀ z ∈ locs, free z.base) (hc : cells ≤ mc) (hs : slots ≤ ms) :
    vx_W p l e R s m args below meth c H locs cells slots (vx_MQ below Qc XC args s mc ms free) (F0 m pc ls rest) q := by
  intro T hT X
  obtain ⟨st1, hrun, hend, hW, hsm⟩ := X.leaveThrown q (g := F0 m pc ls rest) rfl rfl rfl hout hlocks
  have hcell9 : (T.setFrames (.throwing q :: below)).heap[q]? = some ce := by
    show T.heap[q]? = some ce
    rw [hT]; exact hcell
  exact ⟨_, st1, .threw q, hrun, hend, Or.inr ⟨q, rfl, E, ce, locs, hx _ hT hW.alike, hcell9, hv, hcl, hW, hsm.mono hc hs, hf⟩⟩
theorem vx_frame {U : State} {k n : Nat} (h : s.sameButNew ({ U with vm := s.vm } : State) locs k n) : s.heap.size ≤ U.heap.size ∧ ∀ q : Nat, q < s.heap.size → (∀ z ∈ locs, z.base ≠ q) → U.heap[q]? = s.heap[q]? := by
  obtain ⟨-, h2, -, -, -, h6⟩ := h
  refine ⟨h2, fun q hq hz => ?_⟩
  obtain ⟨c9, e1, e2, e3, e4⟩ := h6 q _ (Array.getElem?_eq_getElem hq)
  have hs : c9.slots = (s.heap[q]).slots := Array.ext_getElem? fun i => e4 i fun hm => hz _ hm rfl
  have h9 : c9 = s.heap[q] := by
    rw [hs] at e2
    exact e2
  have e5 : U.heap[q]? = some c9 := e1
  rw [e5, h9, Array.getElem?_eq_getElem hq]
/-- the words of a throw but the four that speak of the heap -/
def vx_no (w : Cond) : Bool := decide (w ≠ .isRef (.static Bundle.tN "UNASSIGNED_STACK" Bundle.steD)) && decide (w ≠ .isRef (.static Bundle.tN "SUPPRESSED_SENTINEL" Bundle.listD)) && decide (w ≠ .laysStatic Bundle.tN "UNASSIGNED_STACK" Bundle.steD) && decide (w ≠ .laysStatic Bundle.tN "SUPPRESSED_SENTINEL" Bundle.listD)
def vx_at0 (own : String) (ic : Nat) (X : String) (names : List String) : List Cond := (Bundle.ownAtoms0 own ic X names).filter vx_no
def vx_atS (own : String) (ic : Nat) (X : String) (names : List String) : List Cond := (Bundle.ownAtoms own ic X names).filter vx_no
/-- a word that the tables alone decide, or a good one -/
def vx_ot (w : Cond) : Bool := w.onTables || goodWord w
theorem vx_ot_at {args a' : Array Value} {s U : State} {w : Cond} (hW : s.WarmedH U.vm) (hvm : s.vm = U.vm) (hg : vx_ot w = true) (h : w.before args s = true) : w.before a' U = true := by
  simp only [vx_ot, Bool.or_eq_true] at hg
  rcases hg with hg | hg
  · exact va_tabs hg hvm h
  · exact word_at hW (good_of_word hg) h
/-- a list's words: the good ones out of the method's own list, the others by premises of their own -/
theorem vx_hat {args : Array Value} {s : State} {L B : List Cond} (h1 : ∀ w ∈ L.filter goodWord, w.before args s = true) (h2 : ∀ w ∈ L.filter (fun w => !goodWord w), w ∈ B) (h3 : ∀ w ∈ B, w.before args s = true) : ∀ w ∈ L, w.before args s = true := by
  intro w hw
  by_cases g : goodWord w = true
  · exact h1 w (List.mem_filter.mpr ⟨hw, g⟩)
  · refine h3 w (h2 w (List.mem_filter.mpr ⟨hw, ?_⟩))
    show (!goodWord w) = true
    cases hgw : goodWord w
    · rfl
    · exact absurd hgw g
theorem vx_c {args : Array Value} {s : State} {w : Cond} {B : List Cond} (h : w.before args s = true) (t : ∀ w ∈ B, w.before args s = true) : ∀ w' ∈ w :: B, w'.before args s = true := fun w' h' => (List.mem_cons.mp h').elim (fun e => by rw [e]; exact h) (t w')
theorem vx_n {args : Array Value} {s : State} : ∀ w ∈ ([] : List Cond), w.before args s = true := fun _ h => nomatch h
theorem vx_own {args : Array Value} {s : State} {L : List Cond} (h1 : ∀ w ∈ L.filter vx_no, w.before args s = true)
    (hU : (Cond.isRef (.static Bundle.tN "UNASSIGNED_STACK" Bundle.steD)).before args s = true) (hN : (Cond.isRef (.static Bundle.tN "SUPPRESSED_SENTINEL" Bundle.listD)).before args s = true)
    (lU : (Cond.laysStatic Bundle.tN "UNASSIGNED_STACK" Bundle.steD).before args s = true) (lN : (Cond.laysStatic Bundle.tN "SUPPRESSED_SENTINEL" Bundle.listD).before args s = true) : ∀ w ∈ L, w.before args s = true := by
  intro w hw
  by_cases e1 : w = .isRef (.static Bundle.tN "UNASSIGNED_STACK" Bundle.steD)
  · rw [e1]; exact hU
  · by_cases e2 : w = .isRef (.static Bundle.tN "SUPPRESSED_SENTINEL" Bundle.listD)
    · rw [e2]; exact hN
    · by_cases e3 : w = .laysStatic Bundle.tN "UNASSIGNED_STACK" Bundle.steD
      · rw [e3]; exact lU
      · by_cases e4 : w = .laysStatic Bundle.tN "SUPPRESSED_SENTINEL" Bundle.listD
        · rw [e4]; exact lN
        · exact h1 w (List.mem_filter.mpr ⟨hw, by unfold vx_no; rw [decide_eq_true e1, decide_eq_true e2, decide_eq_true e3, decide_eq_true e4]; rfl⟩)
/-- where a static field lies, its class's statics cell in H -/
def vx_L (C n d : String) (A : Nat → Prop) (U : State) (H : Heap) : Prop := ∃ (c : ClassId) (k : Class) (i : Nat) (f : Field) (a : Nat) (cell : Cell), U.vm.findClass C = some c ∧ U.fieldFound? C n d = some (c, k, i, f) ∧ f.isStatic = true ∧ k.statics = some a ∧ H[a]? = some cell ∧ cell.vm.isStatics = true ∧ cell.cls = c ∧ f.slot < cell.slots.size ∧ k.staticTypes[f.slot]? = some f.type ∧ ¬ A a
theorem vx_L.moved {C n d : String} {A : Nat → Prop} {u U : State} {H : Heap} (hvm : u.vm.Alike U.vm) (h : vx_L C n d A u H) : vx_L C n d A U H := by
  obtain ⟨c, k, i, f, a, cell, h1, h2, h3, h4, h5, h6, h7, h8, h9, h10⟩ := h
  obtain ⟨k', hi', he⟩ := State.fieldFound?_setVm hvm h2
  exact ⟨c, k', i, f, a, cell, by rw [hvm.findClass]; exact h1, hi', h3, by rw [he]; exact h4, h5, h6, h7, h8, by rw [he]; exact h9, h10⟩
theorem vx_L.kept {C n d : String} {A : Nat → Prop} {U : State} {H H1 : Heap} (h : vx_L C n d A U H) (hq : ∀ a : Nat, a < H.size → ¬ A a → H1[a]? = H[a]?) : vx_L C n d A U H1 := by
  obtain ⟨c, k, i, f, a, cell, h1, h2, h3, h4, h5, h6, h7, h8, h9, h10⟩ := h
  exact ⟨c, k, i, f, a, cell, h1, h2, h3, h4, by rw [hq a (Array.getElem?_eq_some_iff.mp h5).1 h10]; exact h5, h6, h7, h8, h9, h10⟩
theorem vx_L.narrow {C n d : String} {A B : Nat → Prop} {U : State} {H : Heap} (h : vx_L C n d A U H) (hAB : ∀ q, B q → A q) : vx_L C n d B U H := by
  obtain ⟨c, k, i, f, a, cell, h1, h2, h3, h4, h5, h6, h7, h8, h9, h10⟩ := h
  exact ⟨c, k, i, f, a, cell, h1, h2, h3, h4, h5, h6, h7, h8, h9, fun z => h10 (hAB _ z)⟩
theorem vx_L.word {C n d : String} {A : Nat → Prop} {s : State} {args : Array Value} (h : vx_L C n d A s s.heap) : (Cond.laysStatic C n d).before args s = true := by
  obtain ⟨c, k, i, f, a, cell, h1, h2, h3, h4, h5, h6, h7, h8, h9, -⟩ := h
  show (Cond.laysStatic C n d).holds args s none s [] = true
  exact Cond.laysStatic_of h1 h2 h3 h4 h5 h6 h7 h8 h9
/-- .. and what it holds: null or some reference -/
def vx_Zq (C n d : String) (A : Nat → Prop) (U : State) (H : Heap) : Prop := va_Zq C n d A U H ∧ vx_L C n d A U H
theorem vx_Zq.moved {C n d : String} {A : Nat → Prop} {u U : State} {H : Heap} (hvm : u.vm.Alike U.vm) (h : vx_Zq C n d A u H) : vx_Zq C n d A U H := ⟨va_Zq.moved hvm h.1, vx_L.moved hvm h.2⟩
theorem vx_Zq.kept {C n d : String} {A : Nat → Prop} {U : State} {H H1 : Heap} (h : vx_Zq C n d A U H) (hq : ∀ a : Nat, a < H.size → ¬ A a → H1[a]? = H[a]?) : vx_Zq C n d A U H1 := ⟨va_Zq.kept h.1 hq, vx_L.kept h.2 hq⟩
theorem vx_Zq.narrow {C n d : String} {A B : Nat → Prop} {U : State} {H : Heap} (h : vx_Zq C n d A U H) (hAB : ∀ q, B q → A q) : vx_Zq C n d B U H := ⟨va_Zq.narrow h.1 hAB, vx_L.narrow h.2 hAB⟩
theorem vx_Zqof {args : Array Value} {s : State} {C n d : String} {A : Nat → Prop} (hl : (Cond.laysStatic C n d).before args s = true) (hini : (Cond.initialized C).before args s = true) (h : (Cond.isRef (.static C n d)).before args s = true) (hA : ∀ a : Nat, a < s.heap.size → ¬ A a) : vx_Zq C n d A s s.heap := by
  refine ⟨va_Zqof hl hini h hA, ?_⟩
  obtain ⟨c, k, i, f, a, cell, h1, h2, h3, h4, h5, h6, h7, h8, h9⟩ := Cond.laysStatic_spec hl
  exact ⟨c, k, i, f, a, cell, h1, h2, h3, h4, h5, h6, h7, h8, h9, hA a (Array.getElem?_eq_some_iff.mp h5).1⟩
theorem vx_isRef {C n d : String} {v : Value} {A : Nat → Prop} {s : State} {args : Array Value} (h : va_Z C n d v A s s.heap) (hv : v.isRef = true) : (Cond.isRef (.static C n d)).before args s = true := by
  obtain ⟨cf, kf, fi, f, a, cell, h1, h2, h3, h4, h5, h6, h7, -⟩ := h
  have he : (Term.static C n d).eval args s none [] s = some v := by
    simp [Term.eval, State.fieldNamed?, h1, h2, h4, h5, h6, h7]
  simp only [Cond.before, Cond.holds, Cond.value, he]
  cases v <;> simp_all [Value.isRef]
theorem vx_isRefq {C n d : String} {A : Nat → Prop} {s : State} {args : Array Value} (h : va_Zq C n d A s s.heap) : (Cond.isRef (.static C n d)).before args s = true := by
  rcases h with h | ⟨t, h⟩
  · exact vx_isRef h rfl
  · exact vx_isRef h rfl
/-- the same frame, seen from here: as if the method were called anew in this heap -/
theorem vx_rebase {T : State} (X : Stand p l e R s m args below meth c T locs cells slots) {R' : Room} (hf : R'.frames ≤ R.frames) (hl : R'.locals ≤ R.locals) (hc : cells + R'.cells ≤ R.cells) (hs : slots + R'.slots ≤ R.slots) :
    Stand p l e R' ((T.setVm s.vm).setFrames (.invoking m args :: below)) m args below meth c T [] 0 0 := by
  have htop : (T.setVm s.vm).topJava?.isSome := X.here.top
  have hF : ((T.setVm s.vm).setFrames (.invoking m args :: below)).frames = .invoking m args :: below := State.frames_setFrames _ (State.cur_lt_of_top htop)
  obtain ⟨g₀, hg0⟩ := Option.isSome_iff_exists.mp htop
  obtain ⟨r, hr⟩ := State.topJava?_eq_some.mp hg0
  have hl9 : e.platform.stackLimits (T.setVm s.vm).me = e.platform.stackLimits s.me := X.limits
  have hb9 : (T.setVm s.vm).me.stackBytes = s.me.stackBytes := X.bytes
  refine ⟨X.admits, X.cas, X.clock, hF, ?_, X.hears, X.method, X.code, X.here, X.tail, X.warmed, ?_, ?_, ?_⟩
  · have h := X.room
    have hU : ((T.setVm s.vm).setFrames (.invoking m args :: below)).localsInUse = s.localsInUse := by
      rw [State.localsInUse_invoking hF (meth := meth) (c := c) X.method X.code, State.localsInUse_invoking X.frames X.method X.code]
    simp only [State.hasRoom, Bool.and_eq_true, decide_eq_true_eq] at h ⊢
    obtain ⟨⟨⟨⟨h1, h2, h3, h4, h5, h6⟩, h7⟩, h8⟩, h9⟩ := h
    rw [X.frames, List.length_cons] at h2 h3
    have q1 := X.heapSize
    have q2 := X.used
    simp only [hF, hU, List.length_cons, State.stackLimits_setFrames, State.stackBytes_setFrames, hl9, hb9]
    refine ⟨⟨⟨⟨by omega, by omega, by omega, by omega, by omega, h6⟩, ?_⟩, ?_⟩, X.book⟩
    · show T.heap.size + R'.cells ≤ e.platform.maxCells
      omega
    · show T.slotsUsed + R'.slots ≤ e.platform.maxSlots
      omega
  · rw [State.stackLimits_setFrames]; rfl
  · rw [State.stackBytes_setFrames]; rfl
  · refine ⟨?_, Nat.le_refl _, Nat.le_refl _, ?_, ?_, fun a c9 h9 => ⟨c9, h9, rfl, rfl, fun _ _ => rfl⟩⟩
    · obtain ⟨t, ht, -⟩ := State.frames_cons hr
      show T.setVm s.vm = { ((T.setVm s.vm).setFrames (.invoking m args :: below)).setFrames (T.setVm s.vm).frames with heap := T.heap, slotsUsed := T.slotsUsed }
      rw [State.setFrames_setFrames, State.setFrames_self ht]
      rfl
    · show T.slotsUsed = T.slotsUsed + ((T.heap.toList.drop T.heap.size).map (·.slots.size)).sum
      rw [List.drop_eq_nil_of_le (Nat.le_of_eq Array.length_toList)]
      rfl
    · show ((T.heap.toList.drop T.heap.size).map (·.slots.size)).sum ≤ 0
      rw [List.drop_eq_nil_of_le (Nat.le_of_eq Array.length_toList)]
      exact Nat.le_refl _
/-- 'throw new E()': new; dup; invokespecial; athrow -/
theorem vx_throw0 {cc : ByteArray} {pc : Nat} (hexec : p.tables.exec = Jvm.exec) (hb : c.code = cc) (hl : l.stackTraces = false) {own cls : String} {names : List String} {ik ic mc ms : Nat} {A : Nat → Prop}
    (hown : s.vm.findClass own = some m.cls) (hcls : Bundle.fit cls = true) (hnames : ∀ n ∈ names, Bundle.fit n = true)
    (hk : (Cond.classLink own ik cls).before args s = true) (hini : (Cond.initialized cls).before args s = true) (hat : ∀ w ∈ vx_at0 own ic cls names, w.before args s = true)
    (hgood : ∀ w ∈ Cond.classLink own ik cls :: Cond.initialized cls :: vx_at0 own ic cls names, vx_ot w = true)
    (hU : vx_Zq Bundle.tN "UNASSIGNED_STACK" Bundle.steD A s s.heap) (hN : vx_Zq Bundle.tN "SUPPRESSED_SENTINEL" Bundle.listD A s s.heap) (hS : va_S A s.heap H locs) (hsize : ls.size = c.maxLocals)
    (d0 : decode cc pc = .ok (.new ik, 3)) (d3 : decode cc (pc + 3) = .ok (.dup, 1)) (d4 : decode cc (pc + 4) = .ok (.invokespecial ic, 3)) (d7 : decode cc (pc + 7) = .ok (.athrow, 1))
    (hout : ∀ x ∈ c.exceptionTable.toList, covers x (pc + 7) = false)
    (hRframes : names.length + 3 < R.frames) (hRlocals : (rest.map fun v => v.category).sum + (13 * (names.length + 1) + 42) ≤ R.locals) (hRcells : cells + 1 ≤ R.cells) (hRslots : slots + 6 ≤ R.slots) (hlocks : meth.locks = false)
    (hx : ∀ t : State, s.vm.Alike t.vm → H.size ≤ t.heap.size → (∀ q : Nat, q < H.size → t.heap[q]? = H[q]?) → XC cls s t)
    (hf : ∀ z ∈ locs, free z.base) (hc : cells + 1 ≤ mc) (hs : slots + 6 ≤ ms) :
    W p l e R s m args below meth c H locs cells slots (vx_MQ below Qc XC args s mc ms free) (F0 m pc ls rest) := by
  intro T hT X
  have htr : e.platform.stackTraces = false := (show e.platform.stackTraces = l.stackTraces by rw [X.admits.platform]).trans hl
  have Y := vx_rebase X (R' := { frames := R.frames, locals := R.locals, cells := 1, slots := 6 }) (Nat.le_refl _) (Nat.le_refl _) hRcells hRslots
  obtain ⟨s', hA⟩ : ∃ z, z = (T.setVm s.vm).setFrames (.invoking m args :: below) := ⟨_, rfl⟩
  rw [← hA] at Y
  have hvm : s'.vm = s.vm := by rw [hA]; rfl
  have hhp : s'.heap = H := by rw [hA]; exact hT
  have hW0 : s.WarmedH s'.vm := by rw [hvm]; exact State.WarmedH.refl s
  have hat' : ∀ w ∈ vx_at0 own ic cls names, w.before args s' = true := fun w hw => vx_ot_at hW0 hvm.symm (hgood w (List.mem_cons_of_mem _ (List.mem_cons_of_mem _ hw))) (hat w hw)
  have hk' : (Cond.classLink own ik cls).before args s' = true := vx_ot_at hW0 hvm.symm (hgood _ List.mem_cons_self) hk
  have hini' : (Cond.initialized cls).before args s' = true := vx_ot_at hW0 hvm.symm (hgood _ (List.mem_cons_of_mem _ List.mem_cons_self)) hini
  have hU' : vx_Zq Bundle.tN "UNASSIGNED_STACK" Bundle.steD A s' s'.heap := by rw [hhp]; exact vx_Zq.moved hW0.alike (hU.kept hS.2.1)
  have hN' : vx_Zq Bundle.tN "SUPPRESSED_SENTINEL" Bundle.listD A s' s'.heap := by rw [hhp]; exact vx_Zq.moved hW0.alike (hN.kept hS.2.1)
  have h : ∀ w ∈ Bundle.ownAtoms0 own ic cls names, w.before args s' = true := vx_own hat' (vx_isRefq hU'.1) (vx_isRefq hN'.1) hU'.2.word hN'.2.word
  have hown' : s'.vm.findClass own = some m.cls := by rw [hvm]; exact hown
  have hins : (Cond.instantiable cls 6).before args s' = true := h _ (by simp [Bundle.ownAtoms0])
  obtain ⟨vm₁, cX, kX, hfX, hkX, -, -, X₁, st1⟩ := Y.newCold hexec (own := own) (C := cls) (index := ik) (n := 6) hown' hk' hins hini'
    (g := F0 m pc ls rest) rfl (by rw [hb]; exact d0) (Nat.le_refl _) (Nat.le_refl _)
  generalize hT1 : (T.setVm vm₁).pushCell { cls := cX, slots := kX.instanceTypes.map defaultValue, vm := .none } = T1 at X₁ st1
  have hcat : (Value.ref T.heap.size).category = 1 := rfl
  have hcellA : T1.heap[T.heap.size]? = some (freshCell cX kX) := by rw [← hT1]; exact State.heap_pushCell_size _ _
  have d3' : decode c.code (pc + 3) = .ok (.dup, 1) := by rw [hb]; exact d3
  obtain ⟨U, hsteps, hrun, hend, hW, hsame, ce, hce, hO⟩ := X₁.ctorThrow0 hexec htr (own := own) (cls := cls) (names := names) (ic := ic) hown' hcls hnames h (fun x hx => nomatch hx) hfX hkX hcellA (by rw [hhp, hT]; exact Nat.le_refl _)
    (g := { method := m, pc := pc + 4, locals := ls, stack := .ref T.heap.size :: .ref T.heap.size :: rest, locked := none }) rfl hsize rfl rfl (rest := rest) rfl
    (by rw [hb]; exact d4) (by rw [hb]; exact d7) hout hRframes (by simp only [List.map_cons, List.sum_cons, hcat]; omega) hlocks
  obtain ⟨f1, f2⟩ := vx_frame hsame
  rw [hhp] at f1 f2
  have hWs : s.WarmedH U.vm := State.WarmedH.trans hW0 hW
  have hcl : s.vm.findClass cls = some ce.cls := by
    have h9 := hO.cls
    rw [hvm] at h9
    exact h9
  have hall : s.sameButNew ({ U with vm := s.vm } : State) locs mc ms := by
    subst hA
    obtain ⟨e1, e2⟩ := hsame
    rw [State.setFrames_setFrames] at e1
    have h2 : (T.setVm s.vm).sameButNew ({ U with vm := s.vm } : State) [] (0 + 1) (0 + 6) := ⟨e1, e2⟩
    have h3 := X.same.trans h2
    rw [List.append_nil] at h3
    exact h3.mono hc hs
  refine ⟨U, ?_, .threw T.heap.size, hrun, hend, Or.inr ⟨T.heap.size, rfl, cls, ce, locs, hx U hWs.alike f1 (fun q hq => f2 q hq (fun z hz => nomatch hz)), hce, hO.vm, hcl, hWs, hall, hf⟩⟩
  refine st1 _ ?_
  show Steps p.tables e below (T1.setTop { method := m, pc := pc + 3, locals := ls, stack := .ref T.heap.size :: rest, locked := none }) _
  jvm_step X₁.here [X₁.here.top, hexec, d3', Value.category]
  exact hsteps
/-- 'throw new E("text")': new; dup; ldc; invokespecial; athrow -/
theorem vx_throwS {cc : ByteArray} {pc : Nat} (hexec : p.tables.exec = Jvm.exec) (hb : c.code = cc) (hl : l.stackTraces = false) {own cls text : String} {names : List String} {ik is ic mc ms sa : Nat} {A : Nat → Prop}
    (hown : s.vm.findClass own = some m.cls) (hcls : Bundle.fit cls = true) (hnames : ∀ n ∈ names, Bundle.fit n = true)
    (hk : (Cond.classLink own ik cls).before args s = true) (hini : (Cond.initialized cls).before args s = true) (hstr : vk_R own is text sa s) (hat : ∀ w ∈ vx_atS own ic cls names, w.before args s = true)
    (hgood : ∀ w ∈ Cond.classLink own ik cls :: Cond.initialized cls :: vx_atS own ic cls names, vx_ot w = true)
    (hU : vx_Zq Bundle.tN "UNASSIGNED_STACK" Bundle.steD A s s.heap) (hN : vx_Zq Bundle.tN "SUPPRESSED_SENTINEL" Bundle.listD A s s.heap) (hS : va_S A s.heap H locs) (hsize : ls.size = c.maxLocals)
    (d0 : decode cc pc = .ok (.new ik, 3)) (d3 : decode cc (pc + 3) = .ok (.dup, 1)) (d4 : decode cc (pc + 4) = .ok (.ldc is, 2)) (d6 : decode cc (pc + 6) = .ok (.invokespecial ic, 3)) (d9 : decode cc (pc + 9) = .ok (.athrow, 1))
    (hout : ∀ x ∈ c.exceptionTable.toList, covers x (pc + 9) = false)
    (hRframes : names.length + 3 < R.frames) (hRlocals : (rest.map fun v => v.category).sum + (13 * (names.length + 1) + 43) ≤ R.locals) (hRcells : cells + 1 ≤ R.cells) (hRslots : slots + 6 ≤ R.slots) (hlocks : meth.locks = false)
    (hx : ∀ t : State, s.vm.Alike t.vm → H.size ≤ t.heap.size → (∀ q : Nat, q < H.size → t.heap[q]? = H[q]?) → XC cls s t)
    (hf : ∀ z ∈ locs, free z.base) (hc : cells + 1 ≤ mc) (hs : slots + 6 ≤ ms) :
    W p l e R s m args below meth c H locs cells slots (vx_MQ below Qc XC args s mc ms free) (F0 m pc ls rest) := by
  intro T hT X
  have htr : e.platform.stackTraces = false := (show e.platform.stackTraces = l.stackTraces by rw [X.admits.platform]).trans hl
  have Y := vx_rebase X (R' := { frames := R.frames, locals := R.locals, cells := 1, slots := 6 }) (Nat.le_refl _) (Nat.le_refl _) hRcells hRslots
  obtain ⟨s', hA⟩ : ∃ z, z = (T.setVm s.vm).setFrames (.invoking m args :: below) := ⟨_, rfl⟩
  rw [← hA] at Y
  have hvm : s'.vm = s.vm := by rw [hA]; rfl
  have hhp : s'.heap = H := by rw [hA]; exact hT
  have hW0 : s.WarmedH s'.vm := by rw [hvm]; exact State.WarmedH.refl s
  have hat' : ∀ w ∈ vx_atS own ic cls names, w.before args s' = true := fun w hw => vx_ot_at hW0 hvm.symm (hgood w (List.mem_cons_of_mem _ (List.mem_cons_of_mem _ hw))) (hat w hw)
  have hk' : (Cond.classLink own ik cls).before args s' = true := vx_ot_at hW0 hvm.symm (hgood _ List.mem_cons_self) hk
  have hini' : (Cond.initialized cls).before args s' = true := vx_ot_at hW0 hvm.symm (hgood _ (List.mem_cons_of_mem _ List.mem_cons_self)) hini
  have hU' : vx_Zq Bundle.tN "UNASSIGNED_STACK" Bundle.steD A s' s'.heap := by rw [hhp]; exact vx_Zq.moved hW0.alike (hU.kept hS.2.1)
  have hN' : vx_Zq Bundle.tN "SUPPRESSED_SENTINEL" Bundle.listD A s' s'.heap := by rw [hhp]; exact vx_Zq.moved hW0.alike (hN.kept hS.2.1)
  have h : ∀ w ∈ Bundle.ownAtoms own ic cls names, w.before args s' = true := vx_own hat' (vx_isRefq hU'.1) (vx_isRefq hN'.1) hU'.2.word hN'.2.word
  have hown' : s'.vm.findClass own = some m.cls := by rw [hvm]; exact hown
  have hins : (Cond.instantiable cls 6).before args s' = true := h _ (by simp [Bundle.ownAtoms])
  obtain ⟨vm₁, cX, kX, hfX, hkX, -, -, X₁, st1⟩ := Y.newCold hexec (own := own) (C := cls) (index := ik) (n := 6) hown' hk' hins hini'
    (g := F0 m pc ls rest) rfl (by rw [hb]; exact d0) (Nat.le_refl _) (Nat.le_refl _)
  generalize hT1 : (T.setVm vm₁).pushCell { cls := cX, slots := kX.instanceTypes.map defaultValue, vm := .none } = T1 at X₁ st1
  have hcat : (Value.ref T.heap.size).category = 1 := rfl
  have hcellA : T1.heap[T.heap.size]? = some (freshCell cX kX) := by rw [← hT1]; exact State.heap_pushCell_size _ _
  have d3' : decode c.code (pc + 3) = .ok (.dup, 1) := by rw [hb]; exact d3
  have d4' : decode c.code (pc + 4) = .ok (.ldc is, 2) := by rw [hb]; exact d4
  have hstr' : vk_R own is text sa s' := vk_R.warm hW0 hstr
  obtain ⟨U, hsteps, hrun, hend, hW, hsame, ce, hce, hO⟩ := X₁.ctorThrowS hexec htr (own := own) (cls := cls) (names := names) (ic := ic) hown' hcls hnames h (fun x hx => nomatch hx) hfX hkX hcellA (by rw [hhp, hT]; exact Nat.le_refl _) (msg := .ref sa) rfl
    (g := { method := m, pc := pc + 6, locals := ls, stack := .ref sa :: .ref T.heap.size :: .ref T.heap.size :: rest, locked := none }) rfl hsize rfl rfl (rest := rest) rfl
    (by rw [hb]; exact d6) (by rw [hb]; exact d9) hout hRframes (by simp only [List.map_cons, List.sum_cons, hcat]; omega) hlocks
  obtain ⟨f1, f2⟩ := vx_frame hsame
  rw [hhp] at f1 f2
  have hWs : s.WarmedH U.vm := State.WarmedH.trans hW0 hW
  have hcl : s.vm.findClass cls = some ce.cls := by
    have h9 := hO.cls
    rw [hvm] at h9
    exact h9
  have hall : s.sameButNew ({ U with vm := s.vm } : State) locs mc ms := by
    subst hA
    obtain ⟨e1, e2⟩ := hsame
    rw [State.setFrames_setFrames] at e1
    have h2 : (T.setVm s.vm).sameButNew ({ U with vm := s.vm } : State) [] (0 + 1) (0 + 6) := ⟨e1, e2⟩
    have h3 := X.same.trans h2
    rw [List.append_nil] at h3
    exact h3.mono hc hs
  refine ⟨U, ?_, .threw T.heap.size, hrun, hend, Or.inr ⟨T.heap.size, rfl, cls, ce, locs, hx U hWs.alike f1 (fun q hq => f2 q hq (fun z hz => nomatch hz)), hce, hO.vm, hcl, hWs, hall, hf⟩⟩
  refine st1 _ ?_
  show Steps p.tables e below (T1.setTop { method := m, pc := pc + 3, locals := ls, stack := .ref T.heap.size :: rest, locked := none }) _
  jvm_step X₁.here [X₁.here.top, hexec, d3', Value.category]
  exact X₁.ldcString hexec (own := own) (text := text) (index := is) (a := sa) hown' hstr'.1 hstr'.2
    (g := { method := m, pc := pc + 4, locals := ls, stack := .ref T.heap.size :: .ref T.heap.size :: rest, locked := none }) rfl d4' _ hsteps
/-- 'throw new E("text")', the text by a wide index -/
theorem vx_throwSW {cc : ByteArray} {pc : Nat} (hexec : p.tables.exec = Jvm.exec) (hb : c.code = cc) (hl : l.stackTraces = false) {own cls text : String} {names : List String} {ik is ic mc ms sa : Nat} {A : Nat → Prop}
    (hown : s.vm.findClass own = some m.cls) (hcls : Bundle.fit cls = true) (hnames : ∀ n ∈ names, Bundle.fit n = true)
    (hk : (Cond.classLink own ik cls).before args s = true) (hini : (Cond.initialized cls).before args s = true) (hstr : vk_R own is text sa s) (hat : ∀ w ∈ vx_atS own ic cls names, w.before args s = true)
    (hgood : ∀ w ∈ Cond.classLink own ik cls :: Cond.initialized cls :: vx_atS own ic cls names, vx_ot w = true)
    (hU : vx_Zq Bundle.tN "UNASSIGNED_STACK" Bundle.steD A s s.heap) (hN : vx_Zq Bundle.tN "SUPPRESSED_SENTINEL" Bundle.listD A s s.heap) (hS : va_S A s.heap H locs) (hsize : ls.size = c.maxLocals)
    (d0 : decode cc pc = .ok (.new ik, 3)) (d3 : decode cc (pc + 3) = .ok (.dup, 1)) (d4 : decode cc (pc + 4) = .ok (.ldc_w is, 3)) (d7 : decode cc (pc + 7) = .ok (.invokespecial ic, 3)) (d10 : decode cc (pc + 10) = .ok (.athrow, 1))
    (hout : ∀ x ∈ c.exceptionTable.toList, covers x (pc + 10) = false)
    (hRframes : names.length + 3 < R.frames) (hRlocals : (rest.map fun v => v.category).sum + (13 * (names.length + 1) + 43) ≤ R.locals) (hRcells : cells + 1 ≤ R.cells) (hRslots : slots + 6 ≤ R.slots) (hlocks : meth.locks = false)
    (hx : ∀ t : State, s.vm.Alike t.vm → H.size ≤ t.heap.size → (∀ q : Nat, q < H.size → t.heap[q]? = H[q]?) → XC cls s t)
    (hf : ∀ z ∈ locs, free z.base) (hc : cells + 1 ≤ mc) (hs : slots + 6 ≤ ms) :
    W p l e R s m args below meth c H locs cells slots (vx_MQ below Qc XC args s mc ms free) (F0 m pc ls rest) := by
  intro T hT X
  have htr : e.platform.stackTraces = false := (show e.platform.stackTraces = l.stackTraces by rw [X.admits.platform]).trans hl
  have Y := vx_rebase X (R' := { frames := R.frames, locals := R.locals, cells := 1, slots := 6 }) (Nat.le_refl _) (Nat.le_refl _) hRcells hRslots
  obtain ⟨s', hA⟩ : ∃ z, z = (T.setVm s.vm).setFrames (.invoking m args :: below) := ⟨_, rfl⟩
  rw [← hA] at Y
  have hvm : s'.vm = s.vm := by rw [hA]; rfl
  have hhp : s'.heap = H := by rw [hA]; exact hT
  have hW0 : s.WarmedH s'.vm := by rw [hvm]; exact State.WarmedH.refl s
  have hat' : ∀ w ∈ vx_atS own ic cls names, w.before args s' = true := fun w hw => vx_ot_at hW0 hvm.symm (hgood w (List.mem_cons_of_mem _ (List.mem_cons_of_mem _ hw))) (hat w hw)
  have hk' : (Cond.classLink own ik cls).before args s' = true := vx_ot_at hW0 hvm.symm (hgood _ List.mem_cons_self) hk
  have hini' : (Cond.initialized cls).before args s' = true := vx_ot_at hW0 hvm.symm (hgood _ (List.mem_cons_of_mem _ List.mem_cons_self)) hini
  have hU' : vx_Zq Bundle.tN "UNASSIGNED_STACK" Bundle.steD A s' s'.heap := by rw [hhp]; exact vx_Zq.moved hW0.alike (hU.kept hS.2.1)
  have hN' : vx_Zq Bundle.tN "SUPPRESSED_SENTINEL" Bundle.listD A s' s'.heap := by rw [hhp]; exact vx_Zq.moved hW0.alike (hN.kept hS.2.1)
  have h : ∀ w ∈ Bundle.ownAtoms own ic cls names, w.before args s' = true := vx_own hat' (vx_isRefq hU'.1) (vx_isRefq hN'.1) hU'.2.word hN'.2.word
  have hown' : s'.vm.findClass own = some m.cls := by rw [hvm]; exact hown
  have hins : (Cond.instantiable cls 6).before args s' = true := h _ (by simp [Bundle.ownAtoms])
  obtain ⟨vm₁, cX, kX, hfX, hkX, -, -, X₁, st1⟩ := Y.newCold hexec (own := own) (C := cls) (index := ik) (n := 6) hown' hk' hins hini'
    (g := F0 m pc ls rest) rfl (by rw [hb]; exact d0) (Nat.le_refl _) (Nat.le_refl _)
  generalize hT1 : (T.setVm vm₁).pushCell { cls := cX, slots := kX.instanceTypes.map defaultValue, vm := .none } = T1 at X₁ st1
  have hcat : (Value.ref T.heap.size).category = 1 := rfl
  have hcellA : T1.heap[T.heap.size]? = some (freshCell cX kX) := by rw [← hT1]; exact State.heap_pushCell_size _ _
  have d3' : decode c.code (pc + 3) = .ok (.dup, 1) := by rw [hb]; exact d3
  have d4' : decode c.code (pc + 4) = .ok (.ldc_w is, 3) := by rw [hb]; exact d4
  have hstr' : vk_R own is text sa s' := vk_R.warm hW0 hstr
  obtain ⟨U, hsteps, hrun, hend, hW, hsame, ce, hce, hO⟩ := X₁.ctorThrowS hexec htr (own := own) (cls := cls) (names := names) (ic := ic) hown' hcls hnames h (fun x hx => nomatch hx) hfX hkX hcellA (by rw [hhp, hT]; exact Nat.le_refl _) (msg := .ref sa) rfl
    (g := { method := m, pc := pc + 7, locals := ls, stack := .ref sa :: .ref T.heap.size :: .ref T.heap.size :: rest, locked := none }) rfl hsize rfl rfl (rest := rest) rfl
    (by rw [hb]; exact d7) (by rw [hb]; exact d10) hout hRframes (by simp only [List.map_cons, List.sum_cons, hcat]; omega) hlocks
  obtain ⟨f1, f2⟩ := vx_frame hsame
  rw [hhp] at f1 f2
  have hWs : s.WarmedH U.vm := State.WarmedH.trans hW0 hW
  have hcl : s.vm.findClass cls = some ce.cls := by
    have h9 := hO.cls
    rw [hvm] at h9
    exact h9
  have hall : s.sameButNew ({ U with vm := s.vm } : State) locs mc ms := by
    subst hA
    obtain ⟨e1, e2⟩ := hsame
    rw [State.setFrames_setFrames] at e1
    have h2 : (T.setVm s.vm).sameButNew ({ U with vm := s.vm } : State) [] (0 + 1) (0 + 6) := ⟨e1, e2⟩
    have h3 := X.same.trans h2
    rw [List.append_nil] at h3
    exact h3.mono hc hs
  refine ⟨U, ?_, .threw T.heap.size, hrun, hend, Or.inr ⟨T.heap.size, rfl, cls, ce, locs, hx U hWs.alike f1 (fun q hq => f2 q hq (fun z hz => nomatch hz)), hce, hO.vm, hcl, hWs, hall, hf⟩⟩
  refine st1 _ ?_
  show Steps p.tables e below (T1.setTop { method := m, pc := pc + 3, locals := ls, stack := .ref T.heap.size :: rest, locked := none }) _
  jvm_step X₁.here [X₁.here.top, hexec, d3', Value.category]
  exact X₁.ldcStringW hexec (own := own) (text := text) (index := is) (a := sa) hown' hstr'.1 hstr'.2
    (g := { method := m, pc := pc + 4, locals := ls, stack := .ref T.heap.size :: .ref T.heap.size :: rest, locked := none }) rfl d4' _ hsteps
end Ends
section Bodies
variable {l : Launch}
theorem vx_ofW {y : MethodName} {ws ws' : List Cond} {rm : Room} {Pc : Array Value → State → Prop} {Qc : Array Value → State → Outcome → State → Prop} {XC : String → State → State → Prop} {mc ms : Nat} {free : Addr → Prop} {cc : ByteArray} {maxL : Nat} {ret : Option FieldType}
    (hy : plainName y.cls = true) (hw : ws = Cond.code y cc maxL ret :: ws')
    (body : ∀ p e s m args below meth c s₁, BodyLoose p l y (headSpec ws rm) cc maxL ret e s m args below meth c s₁ → c.maxLocals = maxL → (∀ x ∈ c.exceptionTable.toList, False) → Pc args s →
      W p l e (headSpec ws rm).room s m args below meth c s.heap [] 0 0 (vx_MQ below Qc XC args s mc ms free) (entryFrame m args maxL)) : vx_Met l y ws rm Pc Qc XC mc ms free := by
  refine MetFree.of_bodyS (code := cc) (maxLocals := maxL) (ret := ret) hy ?_ ?_
  · intro args s m h hn
    obtain ⟨meth, c, h1, h2, h3, h4, h5, h6, -, -⟩ := Cond.code_spec hn (atoms_spec (ws := ws) h _ (by rw [hw]; exact List.mem_cons_self))
    exact ⟨meth, c, h1, h2, h3, h4, h5, h6⟩
  · intro p e s m args below meth c s₁ B hml hP _
    have hh0 : s₁.heap = s.heap := by rw [B.state]; rfl
    have ht : ∀ x ∈ c.exceptionTable.toList, False := by
      obtain ⟨meth9, c9, h1, h2, -, -, -, -, h7, -⟩ := Cond.code_spec B.named (atoms_spec (ws := ws) B.pre _ (by rw [hw]; exact List.mem_cons_self))
      cases Option.some.inj (h1.symm.trans B.method)
      cases Option.some.inj (h2.symm.trans (Stand.of_body B).code)
      intro x hx
      rw [Array.isEmpty_iff.mp h7] at hx
      cases hx
    obtain ⟨t, a1, o, b1, b2, b3⟩ := body p e s m args below meth c s₁ B hml ht hP s₁ hh0 (Stand.of_body B)
    exact ⟨t, o, a1, b1, b2, b3⟩
/-- the table of a body with handlers -/
theorem vx_table {p : Program} {x y : MethodName} {S : Spec} {cc bytes : ByteArray} {maxL maxL' : Nat} {ret ret' : Option FieldType} {e : Env} {s s₁ : State} {m : MethodId} {args : Array Value} {below : List Frame} {meth : Method} {c : Code} {hh : List (Nat × Nat × Nat × Nat)}
    (B : BodyLoose p l y S cc maxL ret e s m args below meth c s₁) (h : (Cond.codeWith y bytes maxL' ret' hh).before args s = true) : c.exceptionTable.toList = tableOf hh := by
  obtain ⟨m9, meth9, c9, hn9, h1, h2, -, -, h6, -⟩ := Cond.codeWith_spec h
  cases Option.some.inj (hn9.symm.trans B.named)
  cases Option.some.inj (h1.symm.trans B.method)
  cases Option.some.inj (h2.symm.trans (Stand.of_body B).code)
  rw [← h6, table_eq]
end Bodies
end VXA
/-! ===== END ===== -/
/-! ===== BEGIN a static call of a method with an exception table ===== -/
section VXS
variable {p : Program} {l : Launch} {e : Env} {R : Room} {s : State} {m : MethodId} {args : Array Value} {below : List Frame} {meth : Method} {c : Code} {T : State} {H : Heap} {locs : List Loc} {cells slots : Nat}
abbrev vx_CSW (R : Room) (s : State) (args : Array Value) (own : String) (index : Nat) (y : MethodName) (bytes : ByteArray) (maxL : Nat) (ret : Option FieldType) (hh : List (Nat × Nat × Nat × Nat)) (ws : List Cond) (rm : Room) (mc ms n : Nat) : Prop :=
  (rm.cells = mc ∧ rm.slots = ms ∧ rm.frames + 1 ≤ R.frames ∧ 8 + (maxL + 11) + rm.locals ≤ R.locals ∧ (∀ w ∈ ws, ∀ (a' : Array Value) (U : State), s.WarmedH U.vm → w.before a' U = true) ∧ Cond.codeWith y bytes maxL ret hh ∈ ws) ∧
  (Cond.codeWith y bytes maxL ret hh).before args s = true ∧ (Cond.initialized y.cls).before args s = true ∧ (y.cls ≠ "java/lang/invoke/MethodHandle" ∧ y.cls ≠ "java/lang/invoke/VarHandle") ∧
  (∀ sig, parseMethodDescriptor y.desc = some sig → n = sig.parameters.length) ∧ (Cond.methodLink own index y).before args s = true ∧ (Cond.static y).before args s = true
theorem vx_cwSW {own : String} {index maxL mc ms : Nat} {y : MethodName} {bytes : ByteArray} {ret : Option FieldType} {hh : List (Nat × Nat × Nat × Nat)} {Ts ws ws' : List Cond} {rm : Room} (n : Nat) (ht : ∀ w ∈ Ts, w.before args s = true) (hT : GoodIn Ts (va_wsS own index y ws)) (hw : ws = Cond.codeWith y bytes maxL ret hh :: ws') (hrc : rm.cells = mc) (hrs : rm.slots = ms)
    (hd : y.cls ≠ "java/lang/invoke/MethodHandle" ∧ y.cls ≠ "java/lang/invoke/VarHandle" ∧ (parseMethodDescriptor y.desc).map (fun d => d.parameters.length) = some n) (hR : rm.frames + 1 ≤ R.frames ∧ 8 + (maxL + 11) + rm.locals ≤ R.locals) :
    vx_CSW R s args own index y bytes maxL ret hh ws rm mc ms n := by
  have ok : ∀ w ∈ va_wsS own index y ws, w.before args s = true := fun w h => ht w (hT w h).1
  have hG : GoodIn Ts ws := fun w h => hT w (by unfold va_wsS; exact List.mem_append_right _ h)
  have hc : Cond.codeWith y bytes maxL ret hh ∈ ws := by rw [hw]; exact List.mem_cons_self
  refine ⟨⟨hrc, hrs, hR.1, hR.2, pay_in ht hG, hc⟩, ht _ (hG _ hc).1, ok _ (by simp [va_wsS]), ⟨hd.1, hd.2.1⟩, fun sig h => ?_, ok _ (by simp [va_wsS]), ok _ (by simp [va_wsS])⟩
  have h2 := hd.2.2
  rw [h] at h2
  exact (Option.some.inj h2).symm
theorem vx_callSW (X : Stand p l e R s m args below meth c T locs cells slots) (hexec : p.tables.exec = Jvm.exec) {own : String} {index : Nat} {y : MethodName} {bytes : ByteArray} {maxL : Nat} {ret : Option FieldType} {hh : List (Nat × Nat × Nat × Nat)}
    (hown : s.vm.findClass own = some m.cls) (hlink : (Cond.methodLink own index y).before args s = true) (hstat : (Cond.static y).before args s = true) (hinit : (Cond.initialized y.cls).before args s = true)
    (hcode : (Cond.codeWith y bytes maxL ret hh).before args s = true) (hy : y.cls ≠ "java/lang/invoke/MethodHandle" ∧ y.cls ≠ "java/lang/invoke/VarHandle")
    {W9 : Nat} {Pre : Pt → Array Value → Prop} {Post : Pt → Array Value → Option Value → Pt → Prop} (hK : Back l R p e below s args y 3 W9 Pre Post)
    {g : JFrame} (hg : g.method = m) (hsize : g.locals.size = c.maxLocals) {argsL rest : List Value} (hlen : ∀ sig, parseMethodDescriptor y.desc = some sig → argsL.length = sig.parameters.length)
    (hstack : g.stack = argsL.reverse ++ rest) (hW : 2 * g.monitorRoom + (rest.map fun v => v.category).sum ≤ W9) (hdg : decode c.code g.pc = .ok (.invokestatic index, 3))
    (hpre : ∀ vm₁, s.WarmedH vm₁ → Pre ⟨T.setVm vm₁, locs, cells, slots⟩ argsL.toArray) :
    ∃ (v : Option Value) (vm₁ : Vm) (B : Pt), s.WarmedH vm₁ ∧ Stand p l e R s m args below meth c B.U B.locs B.cells B.slots ∧ Post ⟨T.setVm vm₁, locs, cells, slots⟩ argsL.toArray v B ∧
      ∀ target, Steps p.tables e below (B.U.setTop { g with pc := g.pc + 3, stack := v.toList ++ rest }) target → Steps p.tables e below (T.setTop g) target := by
  obtain ⟨mk, methM, cM, hnamed, hmethM, -, -, -, -, -, -, hsigM⟩ := Cond.codeWith_spec hcode
  have hstatic : methM.isStatic = true := Cond.static_spec hnamed hmethM hstat
  obtain ⟨kP, hkP, -⟩ := className_of_methodNamed hnamed
  have hinitP : kP.init = .initialized := Cond.initialized_spec (findClass_of_methodNamed hnamed) hkP hinit
  obtain ⟨vm₁, X₁, hstep₁⟩ := X.invokestatic hexec hown hlink hnamed hmethM hstatic hkP hinitP hy (g := g) hg (argsL := argsL) (rest := rest) (hlen _ hsigM) hstack hdg
  obtain ⟨v, B, X', hpost, hsteps⟩ := hK m meth c ⟨T.setVm vm₁, locs, cells, slots⟩ { g with stack := rest } (.invokestatic index) mk argsL.toArray X₁ hg hsize hdg hW (X₁.named hnamed) (hpre vm₁ X₁.warmed)
  exact ⟨v, vm₁, B, X₁.warmed, X', hpost, fun target h => hstep₁ _ fun acts => by rw [doInvoke_state]; exact hsteps.trans h⟩
theorem vx_runSW {y : MethodName} {bytes cc : ByteArray} {maxL nL mc ms n index : Nat} {ret : Option FieldType} {hh : List (Nat × Nat × Nat × Nat)} {ws : List Cond} {rm : Room} {Pc : Array Value → State → Prop} {Qc : Array Value → State → Outcome → State → Prop} {free : Addr → Prop} {Ts : List Cond} {own : String} {As rest : List Value} {g : JFrame}
    (S : CallFix p m c cc nL s args Ts own) (hM : Met l y ws rm Pc Qc mc ms free) (cw : vx_CSW R s args own index y bytes maxL ret hh ws rm mc ms n) (hp : PreS s H Pc As)
    (hg : g.method = m) (hn : As.length = n) (hsize : g.locals.size = nL) (hstack : g.stack = As.reverse ++ rest) (hW : 2 * g.monitorRoom + (rest.map fun v => v.category).sum ≤ 8) (hdg : decode cc g.pc = .ok (.invokestatic index, 3)) (hf : cells + mc ≤ R.cells ∧ slots + ms ≤ R.slots) :
    va_Run p l e R s m args below meth c H locs cells slots mc ms g rest (Qc As.toArray) (free) := by
  obtain ⟨⟨hrc, hrs, hfr, hlo, hws, hcw⟩, hcode, hini, hy, hlen, hl, hstt⟩ := cw
  have hK : Back l R p e below s args y 3 8 (PreOf R mc ms Pc) (PostOf Qc mc ms free) := va_backW (hh := hh) (bytes := bytes) (maxL := maxL) (ret := ret) hM hp.1 hrc hrs hfr hlo hws hcw (fun a' U hW => word_at hW (Or.inl (by first | rfl | simp [Cond.onTables, Cond.keeps, Cond.steady])) hini)
  obtain ⟨hx, hb, hml, ho, -⟩ := S
  intro T hT X
  obtain ⟨v, vm₁, ⟨U', l2, c2, s2⟩, hW₁, X', ⟨g', mk, t, L, e1, e2, hq, h1, hL, h2, h3⟩, st⟩ := vx_callSW X hx (hh := hh) (bytes := bytes) (maxL := maxL) (ret := ret) ho hl hstt hini hcode hy hK hg (hsize.trans hml.symm) (argsL := As) (rest := rest) (fun sig h => hn.trans (hlen sig h)) hstack hW (by rw [hb]; exact hdg)
    (fun vm₁ hW₁ => ⟨hf.1, hf.2, hp.2 (T.setVm vm₁) hT hW₁⟩)
  dsimp only [Pt.U, Pt.locs, Pt.cells, Pt.slots] at X' e1 e2 h1 h2 h3 st
  subst h1; subst h2; subst h3
  exact ⟨v, (T.setVm vm₁).calling g' mk As.toArray, t, U', L, hT, X', hL, e1, e2, hq, st⟩
/-- not caught here, past rows that name other classes: it goes on to the caller -/
theorem vx_outP {p : Program} {l : Launch} {e : Env} {R : Room} {s : State} {m : MethodId} {args : Array Value} {below : List Frame} {meth : Method} {c : Code} {H : Heap} {locs : List Loc} {cells slots : Nat} {free : Addr → Prop} {ls : Array Slot} {rest : List Value} {Qc : Array Value → State → Outcome → State → Prop} {XC : String → State → State → Prop}
    {pc : Nat} {own E : String} {ce : Cell} {q : Addr} {mc ms : Nat} (hown : s.vm.findClass own = some m.cls) (hlocks : meth.locks = false)
    (hpass : ∀ z ∈ c.exceptionTable.toList, covers z pc = false ∨ (z.catchType ≠ 0 ∧ ∃ nm : String, (Cond.classLink own z.catchType nm).before args s = true ∧ va_Nc E nm s)) (hcell : H[q]? = some ce) (hv : ce.vm = .none) (hcl : s.vm.findClass E = some ce.cls)
    (hx : ∀ t : State, t.heap = H → s.vm.Alike t.vm → XC E s t) (hf : ∀ z ∈ locs, free z.base) (hc : cells ≤ mc) (hs : slots ≤ ms) :
    vx_W p l e R s m args below meth c H locs cells slots (vx_MQ below Qc XC args s mc ms free) (F0 m pc ls rest) q := by
  intro T hT X
  have hpl : e.platform.magicAccessors = ({} : Platform).magicAccessors := by rw [X.admits.platform]
  obtain ⟨vm', hW', X', st⟩ := X.outThrough hlocks q (g := F0 m pc ls rest) rfl rfl rfl (cell := ce) (by rw [hT]; exact hcell) (by rw [hv]; rfl)
    (by obtain ⟨k9, h9, -⟩ := Vm.findClass_spec hcl; exact ⟨k9, h9⟩) (fun z hz => by
      rcases hpass z hz with h | ⟨hz0, nm, hl1, hn1⟩
      · exact Or.inl h
      · obtain ⟨c6, hc6, hcl6⟩ := Cond.classLink_spec hown hl1 e.platform hpl
        obtain ⟨a8, b8, h1, h2, h3⟩ := hn1
        cases Option.some.inj (h1.symm.trans hcl)
        cases Option.some.inj (h2.symm.trans hc6)
        exact Or.inr ⟨hz0, _, hcl6, h3⟩)
  obtain ⟨g₀, hfr⟩ := X'.frames_eq
  have hcell9 : ((T.setVm vm').setFrames (.throwing q :: below)).heap[q]? = some ce := by
    show T.heap[q]? = some ce
    rw [hT]; exact hcell
  have hend : Ended ((T.setVm vm').setFrames (.throwing q :: below)) below (.threw q) := State.frames_setFrames _ (State.cur_lt_of_frames hfr)
  refine ⟨(T.setVm vm').setFrames (.throwing q :: below), ?_, .threw q, X'.here.running, hend, Or.inr ⟨q, rfl, E, ce, locs, hx _ hT (X'.ends _).1.alike, hcell9, hv, hcl, (X'.ends _).1, (X'.ends _).2.mono hc hs, hf⟩⟩
  rw [X.pushThrowing_eq]
  exact st
/-- a thing of a world lies in the heap -/
theorem vx_lt {D : va_G} {cl : List vw_C} {ws : va_W} {H1 : Heap} (h : va_P D cl ws H1) {k : Nat} {q : Nat × va_E} (hk : ws[k]? = some q) : q.1 < H1.size := (h k q hk).lt
end VXS
/-! ===== END ===== -/
/-! ===== BEGIN methods with a table of their own: called by a name, returning or throwing ===== -/
section VXH
/-! vx_backW, vx_callVX, vx_callSX, vx_callVW, vx_runVW, vx_runVX, vx_runSX, vx_ofWH follow the same proofs as their sisters above (Free/Laws.lean, Shelf42/LK1.lean); vx_outP calls Shelf42/NT130.lean (outThrough). -/
section
variable {l : Launch} {R : Room} {p : Program} {e : Env} {below : List Frame} {s : State} {sargs : Array Value} {y : MethodName} {len W9 : Nat}
theorem vx_backW {ws : List Cond} {rm : Room} {Pc : Array Value → State → Prop} {Qc : Array Value → State → Outcome → State → Prop} {XC : String → State → State → Prop} {mc ms : Nat} {free : Addr → Prop} {bytes : ByteArray} {maxL : Nat} {ret : Option FieldType} {hh : List (Nat × Nat × Nat × Nat)}
    (hM : vx_Met l y ws rm Pc Qc XC mc ms free) (hblind : FrameBlind Pc) (hrc : rm.cells = mc) (hrs : rm.slots = ms)
    (hframes : rm.frames + 1 ≤ R.frames) (hlocals : W9 + (maxL + 11) + rm.locals ≤ R.locals)
    (hws : ∀ w ∈ ws, ∀ a' U, s.WarmedH U.vm → w.before a' U = true) (hcode : Cond.codeWith y bytes maxL ret hh ∈ ws) (hinit : ∀ a' U, s.WarmedH U.vm → (Cond.initialized y.cls).before a' U = true) :
    vx_Back l R p e below s sargs y len W9 (PreOf R mc ms Pc) (PostOf Qc mc ms free) (vx_Post XC mc ms free) := by
  intro m meth c A g ig mk a X hg hsize hdg hW hn hp
  have h1 : (headSpec ws rm).pre.before a A.U = true := atoms_intro fun w hw => hws w hw _ _ X.warmed
  have h2 : (Cond.codeWith y bytes maxL ret hh).before a A.U = true := hws _ hcode _ _ X.warmed
  have h3 : (Cond.initialized y.cls).before a A.U = true := hinit _ _ X.warmed
  have h4 : A.cells + (headSpec ws rm).room.cells ≤ R.cells := by rw [show (headSpec ws rm).room.cells = mc from hrc]; exact hp.1
  have h5 : A.slots + (headSpec ws rm).room.slots ≤ R.slots := by rw [show (headSpec ws rm).room.slots = ms from hrs]; exact hp.2.1
  have hPc : Pc a (A.U.calling g mk a) := hblind _ _ _ _ hp.2.2
  obtain ⟨U, Ls, c0, s0⟩ := A
  dsimp only [Pt.U, Pt.locs, Pt.cells, Pt.slots] at h1 h2 h3 h4 h5 X hn hPc ⊢
  obtain ⟨m9, methY, cY, hn9, hmY, hcY, -, hlY, -⟩ := Cond.codeWith_spec h2
  cases Option.some.inj (hn9.symm.trans hn)
  obtain ⟨kY, hkY, -⟩ := className_of_methodNamed hn
  have hinitY : kY.init = .initialized := Cond.initialized_spec (findClass_of_methodNamed hn) hkY h3
  have h : At U g.method c below := by rw [hg]; exact X.here
  have hlocals9 : W9 + (maxL + 11) + (headSpec ws rm).room.locals ≤ R.locals := hlocals
  have happ : (headSpec ws rm).appliesLoose y e.platform (U.calling g mk a) = true :=
    Spec.appliesLoose_calling (g := g) h hdg hn hkY hinitY
      (X.room_calling (g := g) (R' := (headSpec ws rm).room) hsize hmY hcY hframes (by rw [hlY]; omega) h4 h5) h1
  obtain ⟨mid, hmid⟩ := h.above
  have hfr : (U.setTop g).frames = (.java g :: mid) ++ below := by rw [State.frames_setTop' g h.top, hmid]; rfl
  obtain ⟨o, s₂, hsteps, -, hend, hq⟩ := Steps.callFree hM p X.admits X.cas X.clock (acts := []) hfr happ hPc trivial
  have hq' : vx_Q Qc XC mc ms free a (U.calling g mk a) o s₂ := hq
  rw [State.frames_setTop' g h.top] at hend
  obtain ⟨g₀, hg0⟩ := Option.isSome_iff_exists.mp h.top
  obtain ⟨r, hr⟩ := State.topJava?_eq_some.mp hg0
  have hr' : (({ U with heap := s₂.heap, slotsUsed := s₂.slotsUsed } : State).setVm s₂.vm).frames = .java g₀ :: r := hr
  rcases hq' with ⟨hqc, L, hfe, hL⟩ | ⟨q, rfl, E, ce, L, hx, hce, hcv, hcl, hW₂, hsm, hL⟩
  · obtain ⟨⟨v, rfl⟩, hW₂, e2, q2, q3, q4, q5, q6⟩ := id hfe
    have e3 : s₂ = ({ (U.calling g mk a).setFrames s₂.frames with heap := s₂.heap, slotsUsed := s₂.slotsUsed } : State).setVm s₂.vm := by
      have : s₂ = ({ s₂ with vm := (U.calling g mk a).vm } : State).setVm s₂.vm := rfl
      rw [e2] at this
      exact this
    obtain ⟨c₂, i₂, len₂, hc₂, hd₂, hf₂⟩ := hend
    have hW' : U.WarmedH s₂.vm := hW₂
    have hcc : c₂ = c := by
      have h1 : s₂.code? g.method = U.code? g.method := by
        rw [State.code?_eq, State.code?_eq, hW'.alike.method?]
      exact Option.some.inj (hc₂.symm.trans (h1.trans h.code))
    subst hcc
    have hlen : len₂ = len := by rw [hdg] at hd₂; cases hd₂; rfl
    subst hlen
    have hs₂ : s₂ = (({ U with heap := s₂.heap, slotsUsed := s₂.slotsUsed } : State).setVm s₂.vm).setTop { g with pc := g.pc + len₂, stack := v.toList ++ g.stack } := by
      refine e3.trans ?_
      rw [hf₂, State.calling_eq h.top, State.setFrames_setFrames, State.setTop_of_frames _ hr', hr]
      rfl
    have hsame : U.sameButNew ({ U with heap := s₂.heap, slotsUsed := s₂.slotsUsed } : State) L mc ms := by
      refine ⟨?_, q2, q3, q4, q5, q6⟩
      obtain ⟨t, ht, -⟩ := State.frames_cons hr
      show ({ U with heap := s₂.heap, slotsUsed := s₂.slotsUsed } : State) = { U.setFrames U.frames with heap := s₂.heap, slotsUsed := s₂.slotsUsed }
      rw [State.setFrames_self ht]
    subst hg
    refine Or.inl ⟨v, ⟨(({ U with heap := s₂.heap, slotsUsed := s₂.slotsUsed } : State).setVm s₂.vm), Ls ++ L, c0 + mc, s0 + ms⟩,
      ⟨X.admits, X.cas, X.clock, X.frames, X.room, X.hears, X.method, X.code, (X.here.setHeapUsed s₂.heap s₂.slotsUsed).setVm hW'.alike, X.tail, State.WarmedH.trans X.warmed hW', X.limits, X.bytes, X.same.trans (hsame.setVm s.vm)⟩,
      ⟨g, mk, s₂, L, rfl, rfl, hqc, rfl, hL, rfl, rfl⟩, ?_⟩
    show Steps p.tables e below _ ((({ U with heap := s₂.heap, slotsUsed := s₂.slotsUsed } : State).setVm s₂.vm).setTop { g with pc := g.pc + len₂, stack := v.toList ++ g.stack })
    rw [← hs₂]
    exact hsteps
  · obtain ⟨e2, q2, q3, q4, q5, q6⟩ := id hsm
    have e3 : s₂ = ({ (U.calling g mk a).setFrames s₂.frames with heap := s₂.heap, slotsUsed := s₂.slotsUsed } : State).setVm s₂.vm := by
      have : s₂ = ({ s₂ with vm := (U.calling g mk a).vm } : State).setVm s₂.vm := rfl
      rw [e2] at this
      exact this
    have hf₂ : s₂.frames = .throwing q :: .java g :: U.frames.tail := hend
    have hW' : U.WarmedH s₂.vm := hW₂
    have hs₂ : s₂ = ((({ U with heap := s₂.heap, slotsUsed := s₂.slotsUsed } : State).setVm s₂.vm).setTop g).pushFrame (.throwing q) := by
      refine e3.trans ?_
      rw [hf₂, State.calling_eq h.top, State.setFrames_setFrames, State.pushFrame, State.frames_setTop _ hr', State.setTop_of_frames _ hr', State.setFrames_setFrames, hr]
      rfl
    have hsame : U.sameButNew ({ U with heap := s₂.heap, slotsUsed := s₂.slotsUsed } : State) L mc ms := by
      refine ⟨?_, q2, q3, q4, q5, q6⟩
      obtain ⟨t, ht, -⟩ := State.frames_cons hr
      show ({ U with heap := s₂.heap, slotsUsed := s₂.slotsUsed } : State) = { U.setFrames U.frames with heap := s₂.heap, slotsUsed := s₂.slotsUsed }
      rw [State.setFrames_self ht]
    subst hg
    refine Or.inr ⟨q, ⟨(({ U with heap := s₂.heap, slotsUsed := s₂.slotsUsed } : State).setVm s₂.vm), Ls ++ L, c0 + mc, s0 + ms⟩,
      ⟨X.admits, X.cas, X.clock, X.frames, X.room, X.hears, X.method, X.code, (X.here.setHeapUsed s₂.heap s₂.slotsUsed).setVm hW'.alike, X.tail, State.WarmedH.trans X.warmed hW', X.limits, X.bytes, X.same.trans (hsame.setVm s.vm)⟩,
      ⟨g, mk, s₂, L, E, ce, rfl, rfl, hx, hce, hcv, hcl, rfl, hL, rfl, rfl⟩, ?_⟩
    show Steps p.tables e below _ (((({ U with heap := s₂.heap, slotsUsed := s₂.slotsUsed } : State).setVm s₂.vm).setTop g).pushFrame (.throwing q))
    rw [← hs₂]
    exact hsteps
end
variable {p : Program} {l : Launch} {e : Env} {R : Room} {s : State} {m : MethodId} {args : Array Value} {below : List Frame} {meth : Method} {c : Code} {T : State} {H : Heap} {locs : List Loc} {cells slots : Nat}
theorem vx_callVX (X : Stand p l e R s m args below meth c T locs cells slots) (hexec : p.tables.exec = Jvm.exec) {own C : String} {index : Nat} {y : MethodName} {bytes : ByteArray} {maxL : Nat} {ret : Option FieldType} {hh : List (Nat × Nat × Nat × Nat)}
    (hown : s.vm.findClass own = some m.cls) (hlink : (Cond.methodLink own index y).before args s = true) (hinst : (Cond.instanceMethod y).before args s = true) (hsel : (Cond.selects C y y).before args s = true)
    (hcode : (Cond.codeWith y bytes maxL ret hh).before args s = true) (hy : y.cls ≠ "java/lang/invoke/MethodHandle" ∧ y.cls ≠ "java/lang/invoke/VarHandle")
    {W9 : Nat} {Pre : Pt → Array Value → Prop} {Post : Pt → Array Value → Option Value → Pt → Prop} {PostX : Pt → Array Value → Addr → Pt → Prop} (hK : vx_Back l R p e below s args y 3 W9 Pre Post PostX)
    {b : Addr} {cellB : Cell} (hcell : T.heap[b]? = some cellB) (hobj : cellB.vm.isStatics = false) (hcls : s.vm.findClass C = some cellB.cls)
    {g : JFrame} (hg : g.method = m) (hsize : g.locals.size = c.maxLocals) {argsL rest : List Value} (hlen : ∀ sig, parseMethodDescriptor y.desc = some sig → argsL.length = sig.parameters.length)
    (hstack : g.stack = argsL.reverse ++ .ref b :: rest) (hW : 2 * g.monitorRoom + (rest.map fun v => v.category).sum ≤ W9) (hdg : decode c.code g.pc = .ok (.invokevirtual index, 3))
    (hpre : ∀ vm₁, s.WarmedH vm₁ → Pre ⟨T.setVm vm₁, locs, cells, slots⟩ (Value.ref b :: argsL).toArray) :
    (∃ (v : Option Value) (vm₁ : Vm) (B : Pt), s.WarmedH vm₁ ∧ Stand p l e R s m args below meth c B.U B.locs B.cells B.slots ∧ Post ⟨T.setVm vm₁, locs, cells, slots⟩ (Value.ref b :: argsL).toArray v B ∧
      ∀ target, Steps p.tables e below (B.U.setTop { g with pc := g.pc + 3, stack := v.toList ++ rest }) target → Steps p.tables e below (T.setTop g) target) ∨
    (∃ (q : Addr) (vm₁ : Vm) (B : Pt), s.WarmedH vm₁ ∧ Stand p l e R s m args below meth c B.U B.locs B.cells B.slots ∧ PostX ⟨T.setVm vm₁, locs, cells, slots⟩ (Value.ref b :: argsL).toArray q B ∧
      Steps p.tables e below (T.setTop g) ((B.U.setTop { g with stack := rest }).pushFrame (.throwing q))) := by
  obtain ⟨mk, methM, hnamed, hmethM, hstM, habM⟩ := Cond.instanceMethod_spec hinst
  obtain ⟨m8, methM', cM, hn8, hmethM', -, -, -, -, -, -, hsigM⟩ := Cond.codeWith_spec hcode
  cases Option.some.inj (hn8.symm.trans hnamed)
  cases hmethM.symm.trans hmethM'
  obtain ⟨c2, r2, m2, q1, q2, q3, q4, kP, hkP, hkPi⟩ := Cond.selects_spec hsel
  cases hcls.symm.trans q1
  cases (State.methodFound?_of_named hnamed hy).symm.trans q2
  cases hnamed.symm.trans q3
  have hselP : selectMethod e.platform s.vm cellB.cls mk = .method mk := by rw [Launch.admits_selectMethod X.admits]; exact q4
  obtain ⟨vm₁, X₁, hstep₁⟩ := X.invokevirtual hexec hown hlink hnamed hmethM hstM hkP hkPi hy (a := b) (cell := cellB) hcell
    (fun z h => by rw [h] at hobj; cases hobj) hselP hmethM habM hkP hkPi (g := g) hg (argsL := argsL) (rest := rest) (hlen _ hsigM) hstack hdg
  rcases hK m meth c ⟨T.setVm vm₁, locs, cells, slots⟩ { g with stack := rest } (.invokevirtual index) mk (Value.ref b :: argsL).toArray X₁ hg hsize hdg hW (X₁.named hnamed) (hpre vm₁ X₁.warmed) with ⟨v, B, X', hpost, hsteps⟩ | ⟨q, B, X', hpost, hsteps⟩
  · exact Or.inl ⟨v, vm₁, B, X₁.warmed, X', hpost, fun target h => hstep₁ _ fun acts => by rw [doInvoke_state]; exact hsteps.trans h⟩
  · exact Or.inr ⟨q, vm₁, B, X₁.warmed, X', hpost, hstep₁ _ fun acts => by rw [doInvoke_state]; exact hsteps⟩
theorem vx_callSX (X : Stand p l e R s m args below meth c T locs cells slots) (hexec : p.tables.exec = Jvm.exec) {own : String} {index : Nat} {y : MethodName} {bytes : ByteArray} {maxL : Nat} {ret : Option FieldType} {hh : List (Nat × Nat × Nat × Nat)}
    (hown : s.vm.findClass own = some m.cls) (hlink : (Cond.methodLink own index y).before args s = true) (hstat : (Cond.static y).before args s = true) (hinit : (Cond.initialized y.cls).before args s = true)
    (hcode : (Cond.codeWith y bytes maxL ret hh).before args s = true) (hy : y.cls ≠ "java/lang/invoke/MethodHandle" ∧ y.cls ≠ "java/lang/invoke/VarHandle")
    {W9 : Nat} {Pre : Pt → Array Value → Prop} {Post : Pt → Array Value → Option Value → Pt → Prop} {PostX : Pt → Array Value → Addr → Pt → Prop} (hK : vx_Back l R p e below s args y 3 W9 Pre Post PostX)
    {g : JFrame} (hg : g.method = m) (hsize : g.locals.size = c.maxLocals) {argsL rest : List Value} (hlen : ∀ sig, parseMethodDescriptor y.desc = some sig → argsL.length = sig.parameters.length)
    (hstack : g.stack = argsL.reverse ++ rest) (hW : 2 * g.monitorRoom + (rest.map fun v => v.category).sum ≤ W9) (hdg : decode c.code g.pc = .ok (.invokestatic index, 3))
    (hpre : ∀ vm₁, s.WarmedH vm₁ → Pre ⟨T.setVm vm₁, locs, cells, slots⟩ argsL.toArray) :
    (∃ (v : Option Value) (vm₁ : Vm) (B : Pt), s.WarmedH vm₁ ∧ Stand p l e R s m args below meth c B.U B.locs B.cells B.slots ∧ Post ⟨T.setVm vm₁, locs, cells, slots⟩ argsL.toArray v B ∧
      ∀ target, Steps p.tables e below (B.U.setTop { g with pc := g.pc + 3, stack := v.toList ++ rest }) target → Steps p.tables e below (T.setTop g) target) ∨
    (∃ (q : Addr) (vm₁ : Vm) (B : Pt), s.WarmedH vm₁ ∧ Stand p l e R s m args below meth c B.U B.locs B.cells B.slots ∧ PostX ⟨T.setVm vm₁, locs, cells, slots⟩ argsL.toArray q B ∧
      Steps p.tables e below (T.setTop g) ((B.U.setTop { g with stack := rest }).pushFrame (.throwing q))) := by
  obtain ⟨mk, methM, cM, hnamed, hmethM, -, -, -, -, -, -, hsigM⟩ := Cond.codeWith_spec hcode
  have hstatic : methM.isStatic = true := Cond.static_spec hnamed hmethM hstat
  obtain ⟨kP, hkP, -⟩ := className_of_methodNamed hnamed
  have hinitP : kP.init = .initialized := Cond.initialized_spec (findClass_of_methodNamed hnamed) hkP hinit
  obtain ⟨vm₁, X₁, hstep₁⟩ := X.invokestatic hexec hown hlink hnamed hmethM hstatic hkP hinitP hy (g := g) hg (argsL := argsL) (rest := rest) (hlen _ hsigM) hstack hdg
  rcases hK m meth c ⟨T.setVm vm₁, locs, cells, slots⟩ { g with stack := rest } (.invokestatic index) mk argsL.toArray X₁ hg hsize hdg hW (X₁.named hnamed) (hpre vm₁ X₁.warmed) with ⟨v, B, X', hpost, hsteps⟩ | ⟨q, B, X', hpost, hsteps⟩
  · exact Or.inl ⟨v, vm₁, B, X₁.warmed, X', hpost, fun target h => hstep₁ _ fun acts => by rw [doInvoke_state]; exact hsteps.trans h⟩
  · exact Or.inr ⟨q, vm₁, B, X₁.warmed, X', hpost, hstep₁ _ fun acts => by rw [doInvoke_state]; exact hsteps⟩
theorem vx_callVW (X : Stand p l e R s m args below meth c T locs cells slots) (hexec : p.tables.exec = Jvm.exec) {own C : String} {index : Nat} {y : MethodName} {bytes : ByteArray} {maxL : Nat} {ret : Option FieldType} {hh : List (Nat × Nat × Nat × Nat)}
    (hown : s.vm.findClass own = some m.cls) (hlink : (Cond.methodLink own index y).before args s = true) (hinst : (Cond.instanceMethod y).before args s = true) (hsel : (Cond.selects C y y).before args s = true)
    (hcode : (Cond.codeWith y bytes maxL ret hh).before args s = true) (hy : y.cls ≠ "java/lang/invoke/MethodHandle" ∧ y.cls ≠ "java/lang/invoke/VarHandle")
    {W9 : Nat} {Pre : Pt → Array Value → Prop} {Post : Pt → Array Value → Option Value → Pt → Prop} (hK : Back l R p e below s args y 3 W9 Pre Post)
    {b : Addr} {cellB : Cell} (hcell : T.heap[b]? = some cellB) (hobj : cellB.vm.isStatics = false) (hcls : s.vm.findClass C = some cellB.cls)
    {g : JFrame} (hg : g.method = m) (hsize : g.locals.size = c.maxLocals) {argsL rest : List Value} (hlen : ∀ sig, parseMethodDescriptor y.desc = some sig → argsL.length = sig.parameters.length)
    (hstack : g.stack = argsL.reverse ++ .ref b :: rest) (hW : 2 * g.monitorRoom + (rest.map fun v => v.category).sum ≤ W9) (hdg : decode c.code g.pc = .ok (.invokevirtual index, 3))
    (hpre : ∀ vm₁, s.WarmedH vm₁ → Pre ⟨T.setVm vm₁, locs, cells, slots⟩ (Value.ref b :: argsL).toArray) :
    ∃ (v : Option Value) (vm₁ : Vm) (B : Pt), s.WarmedH vm₁ ∧ Stand p l e R s m args below meth c B.U B.locs B.cells B.slots ∧ Post ⟨T.setVm vm₁, locs, cells, slots⟩ (Value.ref b :: argsL).toArray v B ∧
      ∀ target, Steps p.tables e below (B.U.setTop { g with pc := g.pc + 3, stack := v.toList ++ rest }) target → Steps p.tables e below (T.setTop g) target := by
  obtain ⟨mk, methM, hnamed, hmethM, hstM, habM⟩ := Cond.instanceMethod_spec hinst
  obtain ⟨m8, methM', cM, hn8, hmethM', -, -, -, -, -, -, hsigM⟩ := Cond.codeWith_spec hcode
  cases Option.some.inj (hn8.symm.trans hnamed)
  cases hmethM.symm.trans hmethM'
  obtain ⟨c2, r2, m2, q1, q2, q3, q4, kP, hkP, hkPi⟩ := Cond.selects_spec hsel
  cases hcls.symm.trans q1
  cases (State.methodFound?_of_named hnamed hy).symm.trans q2
  cases hnamed.symm.trans q3
  have hselP : selectMethod e.platform s.vm cellB.cls mk = .method mk := by rw [Launch.admits_selectMethod X.admits]; exact q4
  obtain ⟨vm₁, X₁, hstep₁⟩ := X.invokevirtual hexec hown hlink hnamed hmethM hstM hkP hkPi hy (a := b) (cell := cellB) hcell
    (fun z h => by rw [h] at hobj; cases hobj) hselP hmethM habM hkP hkPi (g := g) hg (argsL := argsL) (rest := rest) (hlen _ hsigM) hstack hdg
  obtain ⟨v, B, X', hpost, hsteps⟩ := hK m meth c ⟨T.setVm vm₁, locs, cells, slots⟩ { g with stack := rest } (.invokevirtual index) mk (Value.ref b :: argsL).toArray X₁ hg hsize hdg hW (X₁.named hnamed) (hpre vm₁ X₁.warmed)
  exact ⟨v, vm₁, B, X₁.warmed, X', hpost, fun target h => hstep₁ _ fun acts => by rw [doInvoke_state]; exact hsteps.trans h⟩
abbrev vx_CVW (R : Room) (s : State) (args : Array Value) (own C : String) (index : Nat) (y : MethodName) (bytes : ByteArray) (maxL : Nat) (ret : Option FieldType) (hh : List (Nat × Nat × Nat × Nat)) (ws : List Cond) (rm : Room) (mc ms n : Nat) : Prop :=
  (rm.cells = mc ∧ rm.slots = ms ∧ rm.frames + 1 ≤ R.frames ∧ 8 + (maxL + 11) + rm.locals ≤ R.locals ∧ (∀ w ∈ ws, ∀ (a' : Array Value) (U : State), s.WarmedH U.vm → w.before a' U = true) ∧ Cond.codeWith y bytes maxL ret hh ∈ ws) ∧
  (Cond.codeWith y bytes maxL ret hh).before args s = true ∧ (Cond.initialized y.cls).before args s = true ∧ (y.cls ≠ "java/lang/invoke/MethodHandle" ∧ y.cls ≠ "java/lang/invoke/VarHandle") ∧
  (∀ sig, parseMethodDescriptor y.desc = some sig → n = sig.parameters.length) ∧ (Cond.methodLink own index y).before args s = true ∧ (Cond.instanceMethod y).before args s = true ∧ (Cond.selects C y y).before args s = true
theorem vx_cwVW {own C : String} {index maxL mc ms : Nat} {y : MethodName} {bytes : ByteArray} {ret : Option FieldType} {hh : List (Nat × Nat × Nat × Nat)} {Ts ws ws' : List Cond} {rm : Room} (n : Nat) (ht : ∀ w ∈ Ts, w.before args s = true) (hT : GoodIn Ts (wsV own index C y ws)) (hw : ws = Cond.codeWith y bytes maxL ret hh :: ws') (hrc : rm.cells = mc) (hrs : rm.slots = ms)
    (hd : y.cls = C ∧ y.cls ≠ "java/lang/invoke/MethodHandle" ∧ y.cls ≠ "java/lang/invoke/VarHandle" ∧ (parseMethodDescriptor y.desc).map (fun d => d.parameters.length) = some n) (hR : rm.frames + 1 ≤ R.frames ∧ 8 + (maxL + 11) + rm.locals ≤ R.locals) :
    vx_CVW R s args own C index y bytes maxL ret hh ws rm mc ms n := by
  obtain ⟨hC, hd⟩ := hd
  subst hC
  have ok : ∀ w ∈ wsV own index y.cls y ws, w.before args s = true := fun w h => ht w (hT w h).1
  have hG : GoodIn Ts ws := fun w h => hT w (by unfold wsV; exact List.mem_append_right _ h)
  have hc : Cond.codeWith y bytes maxL ret hh ∈ ws := by rw [hw]; exact List.mem_cons_self
  refine ⟨⟨hrc, hrs, hR.1, hR.2, pay_in ht hG, hc⟩, ht _ (hG _ hc).1, ok _ (by simp [wsV]), ⟨hd.1, hd.2.1⟩, fun sig h => ?_, ok _ (by simp [wsV]), ok _ (by simp [wsV]), ok _ (by simp [wsV])⟩
  have h2 := hd.2.2
  rw [h] at h2
  exact (Option.some.inj h2).symm
theorem vx_runVW {y : MethodName} {bytes cc : ByteArray} {maxL nL mc ms n index : Nat} {ret : Option FieldType} {hh : List (Nat × Nat × Nat × Nat)} {ws : List Cond} {rm : Room} {Pc : Array Value → State → Prop} {Qc : Array Value → State → Outcome → State → Prop} {free : Addr → Prop} {Ts : List Cond} {own C : String} {b : Addr} {As rest : List Value} {g : JFrame}
    (S : CallFix p m c cc nL s args Ts own) (hM : Met l y ws rm Pc Qc mc ms free) (cw : vx_CVW R s args own C index y bytes maxL ret hh ws rm mc ms n) (hp : PreV s H C b Pc As)
    (hg : g.method = m) (hn : As.length = n) (hsize : g.locals.size = nL) (hstack : g.stack = As.reverse ++ .ref b :: rest) (hW : 2 * g.monitorRoom + (rest.map fun v => v.category).sum ≤ 8) (hdg : decode cc g.pc = .ok (.invokevirtual index, 3)) (hf : cells + mc ≤ R.cells ∧ slots + ms ≤ R.slots) :
    va_Run p l e R s m args below meth c H locs cells slots mc ms g rest (Qc (Value.ref b :: As).toArray) free := by
  obtain ⟨⟨hrc, hrs, hfr, hlo, hws, hcw⟩, hcode, hini, hy, hlen, hl, hin, hse⟩ := cw
  have hK : Back l R p e below s args y 3 8 (PreOf R mc ms Pc) (PostOf Qc mc ms free) := va_backW (hh := hh) (bytes := bytes) (maxL := maxL) (ret := ret) hM hp.1 hrc hrs hfr hlo hws hcw (fun a' U hW => word_at hW (Or.inl (by first | rfl | simp [Cond.onTables, Cond.keeps, Cond.steady])) hini)
  obtain ⟨hx, hb, hml, ho, -⟩ := S
  obtain ⟨-, ⟨cellB, hcB, hoB, hclB⟩, hPc⟩ := hp
  intro T hT X
  obtain ⟨v, vm₁, ⟨U', l2, c2, s2⟩, hW₁, X', ⟨g', mk, t, L, e1, e2, hq, h1, hL, h2, h3⟩, st⟩ := vx_callVW X hx (C := C) (hh := hh) (bytes := bytes) (maxL := maxL) (ret := ret) ho hl hin hse hcode hy hK (by rw [hT]; exact hcB) hoB hclB hg (hsize.trans hml.symm) (argsL := As) (rest := rest) (fun sig h => hn.trans (hlen sig h)) hstack hW (by rw [hb]; exact hdg)
    (fun vm₁ hW₁ => ⟨hf.1, hf.2, hPc (T.setVm vm₁) hT hW₁⟩)
  dsimp only [Pt.U, Pt.locs, Pt.cells, Pt.slots] at X' e1 e2 h1 h2 h3 st
  subst h1; subst h2; subst h3
  exact ⟨v, (T.setVm vm₁).calling g' mk (Value.ref b :: As).toArray, t, U', L, hT, X', hL, e1, e2, hq, st⟩
section
variable {y : MethodName} {bytes cc : ByteArray} {maxL nL mc ms n index : Nat} {ret : Option FieldType} {ws : List Cond} {rm : Room} {Pc : Array Value → State → Prop} {Qc : Array Value → State → Outcome → State → Prop} {XC : String → State → State → Prop} {free : Addr → Prop} {Ts : List Cond} {own C : String} {b : Addr} {As rest : List Value} {g : JFrame}
theorem vx_runVX {hh : List (Nat × Nat × Nat × Nat)} (S : CallFix p m c cc nL s args Ts own) (hM : vx_Met l y ws rm Pc Qc XC mc ms free) (cw : vx_CVW R s args own C index y bytes maxL ret hh ws rm mc ms n) (hp : PreV s H C b Pc As)
    (hg : g.method = m) (hn : As.length = n) (hsize : g.locals.size = nL) (hstack : g.stack = As.reverse ++ .ref b :: rest) (hW : 2 * g.monitorRoom + (rest.map fun v => v.category).sum ≤ 8) (hdg : decode cc g.pc = .ok (.invokevirtual index, 3)) (hf : cells + mc ≤ R.cells ∧ slots + ms ≤ R.slots) :
    vx_Run p l e R s m args below meth c H locs cells slots mc ms g rest (Qc (Value.ref b :: As).toArray) XC free := by
  obtain ⟨⟨hrc, hrs, hfr, hlo, hws, hcw⟩, hcode, hini, hy, hlen, hl, hin, hse⟩ := cw
  have hK : vx_Back l R p e below s args y 3 8 (PreOf R mc ms Pc) (PostOf Qc mc ms free) (vx_Post XC mc ms free) := vx_backW (hh := hh) (bytes := bytes) (maxL := maxL) (ret := ret) hM hp.1 hrc hrs hfr hlo hws hcw (fun a' U hW => word_at hW (Or.inl (by first | rfl | simp [Cond.onTables, Cond.keeps, Cond.steady])) hini)
  obtain ⟨hx, hb, hml, ho, -⟩ := S
  obtain ⟨-, ⟨cellB, hcB, hoB, hclB⟩, hPc⟩ := hp
  intro T hT X
  rcases vx_callVX X hx (C := C) (hh := hh) (bytes := bytes) (maxL := maxL) (ret := ret) ho hl hin hse hcode hy hK (by rw [hT]; exact hcB) hoB hclB hg (hsize.trans hml.symm) (argsL := As) (rest := rest) (fun sig h => hn.trans (hlen sig h)) hstack hW (by rw [hb]; exact hdg)
    (fun vm₁ hW₁ => ⟨hf.1, hf.2, hPc (T.setVm vm₁) hT hW₁⟩) with ⟨v, vm₁, ⟨U', l2, c2, s2⟩, hW₁, X', ⟨g', mk, t, L, e1, e2, hq, h1, hL, h2, h3⟩, st⟩ | ⟨q, vm₁, ⟨U', l2, c2, s2⟩, hW₁, X', ⟨g', mk, t, L, E, ce, e1, e2, hq, hce, hcv, hcl, h1, hL, h2, h3⟩, st⟩
  · dsimp only [Pt.U, Pt.locs, Pt.cells, Pt.slots] at X' e1 e2 h1 h2 h3 st
    subst h1; subst h2; subst h3
    exact Or.inl ⟨v, (T.setVm vm₁).calling g' mk (Value.ref b :: As).toArray, t, U', L, hT, X', hL, e1, e2, hq, st⟩
  · dsimp only [Pt.U, Pt.locs, Pt.cells, Pt.slots] at X' e1 e2 h1 h2 h3 st hcl
    subst h1; subst h2; subst h3
    exact Or.inr ⟨q, (T.setVm vm₁).calling g' mk (Value.ref b :: As).toArray, t, U', L, E, ce, hT, X', hL, e1, e2, hq, hce, hcv, vx_cls hW₁ hcl, st⟩
theorem vx_runSX {hh : List (Nat × Nat × Nat × Nat)} (S : CallFix p m c cc nL s args Ts own) (hM : vx_Met l y ws rm Pc Qc XC mc ms free) (cw : vx_CSW R s args own index y bytes maxL ret hh ws rm mc ms n) (hp : PreS s H Pc As)
    (hg : g.method = m) (hn : As.length = n) (hsize : g.locals.size = nL) (hstack : g.stack = As.reverse ++ rest) (hW : 2 * g.monitorRoom + (rest.map fun v => v.category).sum ≤ 8) (hdg : decode cc g.pc = .ok (.invokestatic index, 3)) (hf : cells + mc ≤ R.cells ∧ slots + ms ≤ R.slots) :
    vx_Run p l e R s m args below meth c H locs cells slots mc ms g rest (Qc As.toArray) XC free := by
  obtain ⟨⟨hrc, hrs, hfr, hlo, hws, hcw⟩, hcode, hini, hy, hlen, hl, hstt⟩ := cw
  have hK : vx_Back l R p e below s args y 3 8 (PreOf R mc ms Pc) (PostOf Qc mc ms free) (vx_Post XC mc ms free) := vx_backW (hh := hh) (bytes := bytes) (maxL := maxL) (ret := ret) hM hp.1 hrc hrs hfr hlo hws hcw (fun a' U hW => word_at hW (Or.inl (by first | rfl | simp [Cond.onTables, Cond.keeps, Cond.steady])) hini)
  obtain ⟨hx, hb, hml, ho, -⟩ := S
  intro T hT X
  rcases vx_callSX X hx (hh := hh) (bytes := bytes) (maxL := maxL) (ret := ret) ho hl hstt hini hcode hy hK hg (hsize.trans hml.symm) (argsL := As) (rest := rest) (fun sig h => hn.trans (hlen sig h)) hstack hW (by rw [hb]; exact hdg)
    (fun vm₁ hW₁ => ⟨hf.1, hf.2, hp.2 (T.setVm vm₁) hT hW₁⟩) with ⟨v, vm₁, ⟨U', l2, c2, s2⟩, hW₁, X', ⟨g', mk, t, L, e1, e2, hq, h1, hL, h2, h3⟩, st⟩ | ⟨q, vm₁, ⟨U', l2, c2, s2⟩, hW₁, X', ⟨g', mk, t, L, E, ce, e1, e2, hq, hce, hcv, hcl, h1, hL, h2, h3⟩, st⟩
  · dsimp only [Pt.U, Pt.locs, Pt.cells, Pt.slots] at X' e1 e2 h1 h2 h3 st
    subst h1; subst h2; subst h3
    exact Or.inl ⟨v, (T.setVm vm₁).calling g' mk As.toArray, t, U', L, hT, X', hL, e1, e2, hq, st⟩
  · dsimp only [Pt.U, Pt.locs, Pt.cells, Pt.slots] at X' e1 e2 h1 h2 h3 st hcl
    subst h1; subst h2; subst h3
    exact Or.inr ⟨q, (T.setVm vm₁).calling g' mk As.toArray, t, U', L, E, ce, hT, X', hL, e1, e2, hq, hce, hcv, vx_cls hW₁ hcl, st⟩
end
end VXH
theorem vx_ofWH {l : Launch} {y : MethodName} {ws ws' : List Cond} {rm : Room} {Pc : Array Value → State → Prop} {Qc : Array Value → State → Outcome → State → Prop} {XC : String → State → State → Prop} {mc ms : Nat} {free : Addr → Prop} {cc : ByteArray} {maxL : Nat} {ret : Option FieldType} {hh : List (Nat × Nat × Nat × Nat)}
    (hy : plainName y.cls = true) (hw : ws = Cond.codeWith y cc maxL ret hh :: ws')
    (body : ∀ p e s m args below meth c s₁, BodyLoose p l y (headSpec ws rm) cc maxL ret e s m args below meth c s₁ → c.maxLocals = maxL → Pc args s →
      W p l e (headSpec ws rm).room s m args below meth c s.heap [] 0 0 (vx_MQ below Qc XC args s mc ms free) (entryFrame m args maxL)) : vx_Met l y ws rm Pc Qc XC mc ms free := by
  refine MetFree.of_bodyS (code := cc) (maxLocals := maxL) (ret := ret) hy ?_ ?_
  · intro args s m h hn
    obtain ⟨m9, meth, c, hn9, h1, h2, h3, h4, -, h5, h6, -⟩ := Cond.codeWith_spec (atoms_spec (ws := ws) h _ (by rw [hw]; exact List.mem_cons_self))
    cases hn.symm.trans hn9
    exact ⟨meth, c, h1, h2, h3, h4, h5, h6⟩
  · intro p e s m args below meth c s₁ B hml hP _
    have hh0 : s₁.heap = s.heap := by rw [B.state]; rfl
    obtain ⟨t, a1, o, b1, b2, b3⟩ := body p e s m args below meth c s₁ B hml hP s₁ hh0 (Stand.of_body B)
    exact ⟨t, o, a1, b1, b2, b3⟩
/-! ===== END ===== -/
end
section
/-! ===== BEGIN printed: names, fields, word lists, decode rows ===== -/
def RX0 : String := "KeylessHall$Booking"
def TX0 : u_T := fun k => match k with
  | 0 => ("KeylessHall$Booking", "place", "LKeylessHall$Room;", true)
  | 1 => ("KeylessHall$Booking", "begin", "I", true)
  | 2 => ("KeylessHall$Booking", "how", "I", false)
  | _ => ("KeylessHall$Booking", "groupNumber", "I", false)
def tyX0 : Nat → FieldType := fun k => match k with
  | 0 => .object "KeylessHall$Room"
  | 1 => .int
  | 2 => .int
  | _ => .int
abbrev wsX00 : List Cond := u_ws RX0 TX0 4
theorem nmX0 : ∀ a, a < 4 → ∀ b, b < 4 → a ≠ b → (TX0 a).2.1 ≠ (TX0 b).2.1 := by decide +kernel
theorem tyX0_ok : ∀ k, k < 4 → parseFieldDescriptor (TX0 k).2.2.1 = some (tyX0 k) := by decide +kernel
abbrev cX0_init : ByteArray := prog_2_method_1_code
def yX0_init : MethodName := ⟨RX0, "<init>", "(LKeylessHall$Room;I)V"⟩
def RX1 : String := "KeylessHall$Group"
def TX1 : u_T := fun k => match k with
  | 0 => ("KeylessHall$Group", "number", "I", true)
  | 1 => ("KeylessHall$Group", "place", "LKeylessHall$Room;", true)
  | 2 => ("KeylessHall$Group", "arrival", "I", true)
  | 3 => ("KeylessHall$Group", "hintsFor", "[I", true)
  | 4 => ("KeylessHall$Group", "hintCount", "I", false)
  | 5 => ("KeylessHall$Group", "hintCost", "I", false)
  | 6 => ("KeylessHall$Group", "how", "I", false)
  | 7 => ("KeylessHall$Group", "solved", "I", false)
  | _ => ("KeylessHall$Group", "held", "I", false)
def tyX1 : Nat → FieldType := fun k => match k with
  | 0 => .int
  | 1 => .object "KeylessHall$Room"
  | 2 => .int
  | 3 => .array .int
  | 4 => .int
  | 5 => .int
  | 6 => .int
  | 7 => .int
  | _ => .int
abbrev wsX10 : List Cond := u_ws RX1 TX1 9
theorem nmX1 : ∀ a, a < 9 → ∀ b, b < 9 → a ≠ b → (TX1 a).2.1 ≠ (TX1 b).2.1 := by decide +kernel
theorem tyX1_ok : ∀ k, k < 9 → parseFieldDescriptor (TX1 k).2.2.1 = some (tyX1 k) := by decide +kernel
abbrev cX1_init : ByteArray := prog_3_method_1_code
def yX1_init : MethodName := ⟨RX1, "<init>", "(ILKeylessHall$Room;III)V"⟩
abbrev cX1_minutesLeft : ByteArray := prog_3_method_2_code
def yX1_minutesLeft : MethodName := ⟨RX1, "minutesLeft", "(I)I"⟩
abbrev cX1_takeHint : ByteArray := prog_3_method_3_code
def yX1_takeHint : MethodName := ⟨RX1, "takeHint", "(I)V"⟩
def RX2 : String := "KeylessHall$Room"
def TX2 : u_T := fun k => match k with
  | 0 => ("KeylessHall$Room", "number", "I", true)
  | 1 => ("KeylessHall$Room", "things", "I", true)
  | 2 => ("KeylessHall$Room", "needs", "[I", true)
  | 3 => ("KeylessHall$Room", "gives", "[I", true)
  | 4 => ("KeylessHall$Room", "props", "[I", true)
  | 5 => ("KeylessHall$Room", "minutes", "[I", true)
  | 6 => ("KeylessHall$Room", "puzzleCount", "I", false)
  | 7 => ("KeylessHall$Room", "gap", "I", false)
  | 8 => ("KeylessHall$Room", "how", "I", false)
  | 9 => ("KeylessHall$Room", "toReset", "I", false)
  | 10 => ("KeylessHall$Room", "forgotten", "I", false)
  | 11 => ("KeylessHall$Room", "isToBeChecked", "Z", false)
  | _ => ("KeylessHall$Room", "players", "LKeylessHall$Group;", false)
def tyX2 : Nat → FieldType := fun k => match k with
  | 0 => .int
  | 1 => .int
  | 2 => .array .int
  | 3 => .array .int
  | 4 => .array .int
  | 5 => .array .int
  | 6 => .int
  | 7 => .int
  | 8 => .int
  | 9 => .int
  | 10 => .int
  | 11 => .boolean
  | _ => .object "KeylessHall$Group"
abbrev wsX20 : List Cond := u_ws RX2 TX2 13
theorem nmX2 : ∀ a, a < 13 → ∀ b, b < 13 → a ≠ b → (TX2 a).2.1 ≠ (TX2 b).2.1 := by decide +kernel
theorem tyX2_ok : ∀ k, k < 13 → parseFieldDescriptor (TX2 k).2.2.1 = some (tyX2 k) := by decide +kernel
abbrev cX2_init : ByteArray := prog_4_method_1_code
def yX2_init : MethodName := ⟨RX2, "<init>", "(II)V"⟩
abbrev cX2_addPuzzle : ByteArray := prog_4_method_2_code
def yX2_addPuzzle : MethodName := ⟨RX2, "addPuzzle", "(IIII)I"⟩
abbrev cX2_working : ByteArray := prog_4_method_3_code
def yX2_working : MethodName := ⟨RX2, "working", "(I)I"⟩
abbrev cX2_isSolvable : ByteArray := prog_4_method_4_code
def yX2_isSolvable : MethodName := ⟨RX2, "isSolvable", "(II)Z"⟩
abbrev cX2_givenBy : ByteArray := prog_4_method_5_code
def yX2_givenBy : MethodName := ⟨RX2, "givenBy", "(I)I"⟩
abbrev cX2_reach : ByteArray := prog_4_method_6_code
def yX2_reach : MethodName := ⟨RX2, "reach", "(II)I"⟩
abbrev cX2_lowestSolvable : ByteArray := prog_4_method_7_code
def yX2_lowestSolvable : MethodName := ⟨RX2, "lowestSolvable", "(II)I"⟩
abbrev cX2_nextToReset : ByteArray := prog_4_method_8_code
def yX2_nextToReset : MethodName := ⟨RX2, "nextToReset", "()I"⟩
abbrev cX2_isNeededByOther : ByteArray := prog_4_method_9_code
def yX2_isNeededByOther : MethodName := ⟨RX2, "isNeededByOther", "(I)Z"⟩
def RX3 : String := "KeylessHall$Worker"
def TX3 : u_T := fun k => match k with
  | 0 => ("KeylessHall$Worker", "place", "LKeylessHall$Room;", false)
  | 1 => ("KeylessHall$Worker", "puzzle", "I", false)
  | _ => ("KeylessHall$Worker", "minutesLeft", "I", false)
def tyX3 : Nat → FieldType := fun k => match k with
  | 0 => .object "KeylessHall$Room"
  | 1 => .int
  | _ => .int
abbrev wsX30 : List Cond := u_ws RX3 TX3 3
theorem nmX3 : ∀ a, a < 3 → ∀ b, b < 3 → a ≠ b → (TX3 a).2.1 ≠ (TX3 b).2.1 := by decide +kernel
theorem tyX3_ok : ∀ k, k < 3 → parseFieldDescriptor (TX3 k).2.2.1 = some (tyX3 k) := by decide +kernel
abbrev cX3_init : ByteArray := prog_5_method_1_code
def yX3_init : MethodName := ⟨RX3, "<init>", "()V"⟩
abbrev cX3_begin : ByteArray := prog_5_method_2_code
def yX3_begin : MethodName := ⟨RX3, "begin", "(LKeylessHall$Room;II)V"⟩
abbrev cX3_stop : ByteArray := prog_5_method_3_code
def yX3_stop : MethodName := ⟨RX3, "stop", "()V"⟩
def RX4 : String := "KeylessHall"
def TX4 : u_T := fun k => match k with
  | 0 => ("KeylessHall", "rooms", "[LKeylessHall$Room;", true)
  | 1 => ("KeylessHall", "roomCount", "I", false)
  | 2 => ("KeylessHall", "groups", "[LKeylessHall$Group;", true)
  | 3 => ("KeylessHall", "groupCount", "I", false)
  | 4 => ("KeylessHall", "bookings", "[LKeylessHall$Booking;", true)
  | 5 => ("KeylessHall", "bookingCount", "I", false)
  | 6 => ("KeylessHall", "workers", "[LKeylessHall$Worker;", true)
  | 7 => ("KeylessHall", "brokenProps", "I", false)
  | 8 => ("KeylessHall", "now", "I", false)
  | _ => ("KeylessHall", "ways", "[I", true)
def tyX4 : Nat → FieldType := fun k => match k with
  | 0 => .array (.object "KeylessHall$Room")
  | 1 => .int
  | 2 => .array (.object "KeylessHall$Group")
  | 3 => .int
  | 4 => .array (.object "KeylessHall$Booking")
  | 5 => .int
  | 6 => .array (.object "KeylessHall$Worker")
  | 7 => .int
  | 8 => .int
  | _ => .array .int
abbrev wsX40 : List Cond := u_ws RX4 TX4 10
theorem nmX4 : ∀ a, a < 10 → ∀ b, b < 10 → a ≠ b → (TX4 a).2.1 ≠ (TX4 b).2.1 := by decide +kernel
theorem tyX4_ok : ∀ k, k < 10 → parseFieldDescriptor (TX4 k).2.2.1 = some (tyX4 k) := by decide +kernel
abbrev cX4_init : ByteArray := prog_1_method_1_code
def yX4_init : MethodName := ⟨RX4, "<init>", "()V"⟩
abbrev cX4_room : ByteArray := prog_1_method_2_code
def yX4_room : MethodName := ⟨RX4, "room", "(I)I"⟩
abbrev cX4_puzzle : ByteArray := prog_1_method_3_code
def yX4_puzzle : MethodName := ⟨RX4, "puzzle", "(IIIII)I"⟩
abbrev cX4_prop : ByteArray := prog_1_method_4_code
def yX4_prop : MethodName := ⟨RX4, "prop", "(IZ)I"⟩
abbrev cX4_had : ByteArray := prog_1_method_5_code
def yX4_had : MethodName := ⟨RX4, "had", "(II)I"⟩
abbrev cX4_canBeLeft : ByteArray := prog_1_method_6_code
def yX4_canBeLeft : MethodName := ⟨RX4, "canBeLeft", "(I)Z"⟩
abbrev cX4_orders : ByteArray := prog_1_method_7_code
def yX4_orders : MethodName := ⟨RX4, "orders", "(I)I"⟩
abbrev cX4_ordersAnew : ByteArray := prog_1_method_8_code
def yX4_ordersAnew : MethodName := ⟨RX4, "ordersAnew", "(I)I"⟩
abbrev cX4_come : ByteArray := prog_1_method_9_code
def yX4_come : MethodName := ⟨RX4, "come", "(I)I"⟩
abbrev cX4_solve : ByteArray := prog_1_method_10_code
def yX4_solve : MethodName := ⟨RX4, "solve", "(II)I"⟩
abbrev cX4_hint : ByteArray := prog_1_method_11_code
def yX4_hint : MethodName := ⟨RX4, "hint", "(I)I"⟩
abbrev cX4_giveUp : ByteArray := prog_1_method_12_code
def yX4_giveUp : MethodName := ⟨RX4, "giveUp", "(I)V"⟩
abbrev cX4_reset : ByteArray := prog_1_method_13_code
def yX4_reset : MethodName := ⟨RX4, "reset", "(IIZ)V"⟩
abbrev cX4_forget : ByteArray := prog_1_method_14_code
def yX4_forget : MethodName := ⟨RX4, "forget", "(I)I"⟩
abbrev cX4_book : ByteArray := prog_1_method_15_code
def yX4_book : MethodName := ⟨RX4, "book", "(II)I"⟩
abbrev cX4_cancel : ByteArray := prog_1_method_16_code
def yX4_cancel : MethodName := ⟨RX4, "cancel", "(I)V"⟩
abbrev cX4_offer : ByteArray := prog_1_method_17_code
def yX4_offer : MethodName := ⟨RX4, "offer", "(II)I"⟩
abbrev cX4_pass : ByteArray := prog_1_method_18_code
def yX4_pass : MethodName := ⟨RX4, "pass", "(I)I"⟩
abbrev cX4_minute : ByteArray := prog_1_method_19_code
def yX4_minute : MethodName := ⟨RX4, "minute", "()I"⟩
abbrev cX4_state : ByteArray := prog_1_method_20_code
def yX4_state : MethodName := ⟨RX4, "state", "(II)I"⟩
abbrev cX4_group : ByteArray := prog_1_method_21_code
def yX4_group : MethodName := ⟨RX4, "group", "(II)I"⟩
abbrev cX4_crew : ByteArray := prog_1_method_22_code
def yX4_crew : MethodName := ⟨RX4, "crew", "(II)I"⟩
abbrev cX4_booking : ByteArray := prog_1_method_23_code
def yX4_booking : MethodName := ⟨RX4, "booking", "(II)I"⟩
abbrev cX4_roomNumbered : ByteArray := prog_1_method_24_code
def yX4_roomNumbered : MethodName := ⟨RX4, "roomNumbered", "(I)LKeylessHall$Room;"⟩
abbrev cX4_groupNumbered : ByteArray := prog_1_method_25_code
def yX4_groupNumbered : MethodName := ⟨RX4, "groupNumbered", "(I)LKeylessHall$Group;"⟩
abbrev cX4_workerNumbered : ByteArray := prog_1_method_26_code
def yX4_workerNumbered : MethodName := ⟨RX4, "workerNumbered", "(I)LKeylessHall$Worker;"⟩
abbrev cX4_bookingNumbered : ByteArray := prog_1_method_27_code
def yX4_bookingNumbered : MethodName := ⟨RX4, "bookingNumbered", "(I)LKeylessHall$Booking;"⟩
abbrev cX4_has : ByteArray := prog_1_method_28_code
def yX4_has : MethodName := ⟨RX4, "has", "(II)Z"⟩
abbrev cX4_with : ByteArray := prog_1_method_29_code
def yX4_with : MethodName := ⟨RX4, "with", "(II)I"⟩
abbrev cX4_without : ByteArray := prog_1_method_30_code
def yX4_without : MethodName := ⟨RX4, "without", "(II)I"⟩
abbrev cX4_isWithin : ByteArray := prog_1_method_31_code
def yX4_isWithin : MethodName := ⟨RX4, "isWithin", "(II)Z"⟩
abbrev cX4_areThings : ByteArray := prog_1_method_32_code
def yX4_areThings : MethodName := ⟨RX4, "areThings", "(I)Z"⟩
abbrev cX4_isProp : ByteArray := prog_1_method_33_code
def yX4_isProp : MethodName := ⟨RX4, "isProp", "(I)Z"⟩
abbrev cX4_hasExit : ByteArray := prog_1_method_34_code
def yX4_hasExit : MethodName := ⟨RX4, "hasExit", "(LKeylessHall$Room;)Z"⟩
abbrev cX4_countOrdersBySets : ByteArray := prog_1_method_35_code
def yX4_countOrdersBySets : MethodName := ⟨RX4, "countOrdersBySets", "(LKeylessHall$Room;)I"⟩
abbrev cX4_addWaysBehind : ByteArray := prog_1_method_36_code
def yX4_addWaysBehind : MethodName := ⟨RX4, "addWaysBehind", "(LKeylessHall$Room;III)V"⟩
abbrev cX4_countOrdersOneByOne : ByteArray := prog_1_method_37_code
def yX4_countOrdersOneByOne : MethodName := ⟨RX4, "countOrdersOneByOne", "(LKeylessHall$Room;III)I"⟩
abbrev cX4_openTo : ByteArray := prog_1_method_38_code
def yX4_openTo : MethodName := ⟨RX4, "openTo", "(LKeylessHall$Group;)I"⟩
abbrev cX4_wayOf : ByteArray := prog_1_method_39_code
def yX4_wayOf : MethodName := ⟨RX4, "wayOf", "(LKeylessHall$Group;)I"⟩
abbrev cX4_letIn : ByteArray := prog_1_method_40_code
def yX4_letIn : MethodName := ⟨RX4, "letIn", "(LKeylessHall$Room;LKeylessHall$Booking;)I"⟩
abbrev cX4_leave : ByteArray := prog_1_method_41_code
def yX4_leave : MethodName := ⟨RX4, "leave", "(LKeylessHall$Group;I)V"⟩
abbrev cX4_leaveIfOut : ByteArray := prog_1_method_42_code
def yX4_leaveIfOut : MethodName := ⟨RX4, "leaveIfOut", "(LKeylessHall$Group;)V"⟩
abbrev cX4_leaveIfLate : ByteArray := prog_1_method_43_code
def yX4_leaveIfLate : MethodName := ⟨RX4, "leaveIfLate", "(LKeylessHall$Group;)V"⟩
abbrev cX4_freeLockedIn : ByteArray := prog_1_method_44_code
def yX4_freeLockedIn : MethodName := ⟨RX4, "freeLockedIn", "()I"⟩
abbrev cX4_beginNext : ByteArray := prog_1_method_45_code
def yX4_beginNext : MethodName := ⟨RX4, "beginNext", "(LKeylessHall$Worker;LKeylessHall$Room;)V"⟩
abbrev cX4_finishReset : ByteArray := prog_1_method_46_code
def yX4_finishReset : MethodName := ⟨RX4, "finishReset", "(LKeylessHall$Worker;LKeylessHall$Room;)V"⟩
abbrev cX4_workOneMinute : ByteArray := prog_1_method_47_code
def yX4_workOneMinute : MethodName := ⟨RX4, "workOneMinute", "(LKeylessHall$Worker;)V"⟩
abbrev cX4_bookingDistance : ByteArray := prog_1_method_48_code
def yX4_bookingDistance : MethodName := ⟨RX4, "bookingDistance", "(LKeylessHall$Room;)I"⟩
abbrev cX4_bookingDue : ByteArray := prog_1_method_49_code
def yX4_bookingDue : MethodName := ⟨RX4, "bookingDue", "(LKeylessHall$Room;)LKeylessHall$Booking;"⟩
abbrev cX4_isKeptForBooking : ByteArray := prog_1_method_50_code
def yX4_isKeptForBooking : MethodName := ⟨RX4, "isKeptForBooking", "(LKeylessHall$Room;)Z"⟩
abbrev cX4_bookingTooNear : ByteArray := prog_1_method_51_code
def yX4_bookingTooNear : MethodName := ⟨RX4, "bookingTooNear", "(LKeylessHall$Room;I)LKeylessHall$Booking;"⟩
abbrev cX4_firstFree : ByteArray := prog_1_method_52_code
def yX4_firstFree : MethodName := ⟨RX4, "firstFree", "(LKeylessHall$Room;I)I"⟩
abbrev cX4_passOne : ByteArray := prog_1_method_53_code
def yX4_passOne : MethodName := ⟨RX4, "passOne", "()V"⟩
abbrev cX4_dropUnusedBookings : ByteArray := prog_1_method_54_code
def yX4_dropUnusedBookings : MethodName := ⟨RX4, "dropUnusedBookings", "()V"⟩
def RX5 : String := "KeylessHallModel"
def TX5 : u_T := fun k => match k with
  | 0 => ("KeylessHallModel", "thrown", "I", false)
  | 1 => ("KeylessHallModel", "minute", "I", false)
  | 2 => ("KeylessHallModel", "broken", "I", false)
  | 3 => ("KeylessHallModel", "rooms", "I", false)
  | 4 => ("KeylessHallModel", "first", "[I", true)
  | 5 => ("KeylessHallModel", "many", "[I", true)
  | 6 => ("KeylessHallModel", "state", "[I", true)
  | 7 => ("KeylessHallModel", "toReset", "[I", true)
  | 8 => ("KeylessHallModel", "forgotten", "[I", true)
  | 9 => ("KeylessHallModel", "groupIn", "[I", true)
  | 10 => ("KeylessHallModel", "needs", "[I", true)
  | 11 => ("KeylessHallModel", "gives", "[I", true)
  | 12 => ("KeylessHallModel", "prop", "[I", true)
  | 13 => ("KeylessHallModel", "takes", "[I", true)
  | 14 => ("KeylessHallModel", "groups", "I", false)
  | 15 => ("KeylessHallModel", "how", "[I", true)
  | 16 => ("KeylessHallModel", "roomOf", "[I", true)
  | 17 => ("KeylessHallModel", "holds", "[I", true)
  | 18 => ("KeylessHallModel", "solved", "[I", true)
  | 19 => ("KeylessHallModel", "came", "[I", true)
  | 20 => ("KeylessHallModel", "cost", "[I", true)
  | 21 => ("KeylessHallModel", "hintsGot", "[I", true)
  | 22 => ("KeylessHallModel", "hintsFor", "[I", true)
  | 23 => ("KeylessHallModel", "crewRoom", "[I", true)
  | 24 => ("KeylessHallModel", "crewPuzzle", "[I", true)
  | 25 => ("KeylessHallModel", "crewLeft", "[I", true)
  | 26 => ("KeylessHallModel", "crewChecks", "[Z", true)
  | 27 => ("KeylessHallModel", "bookings", "I", false)
  | 28 => ("KeylessHallModel", "bookRoom", "[I", true)
  | 29 => ("KeylessHallModel", "bookMinute", "[I", true)
  | 30 => ("KeylessHallModel", "bookHow", "[I", true)
  | 31 => ("KeylessHallModel", "bookGroup", "[I", true)
  | _ => ("KeylessHallModel", "ways", "[I", true)
def tyX5 : Nat → FieldType := fun k => match k with
  | 0 => .int
  | 1 => .int
  | 2 => .int
  | 3 => .int
  | 4 => .array .int
  | 5 => .array .int
  | 6 => .array .int
  | 7 => .array .int
  | 8 => .array .int
  | 9 => .array .int
  | 10 => .array .int
  | 11 => .array .int
  | 12 => .array .int
  | 13 => .array .int
  | 14 => .int
  | 15 => .array .int
  | 16 => .array .int
  | 17 => .array .int
  | 18 => .array .int
  | 19 => .array .int
  | 20 => .array .int
  | 21 => .array .int
  | 22 => .array .int
  | 23 => .array .int
  | 24 => .array .int
  | 25 => .array .int
  | 26 => .array .boolean
  | 27 => .int
  | 28 => .array .int
  | 29 => .array .int
  | 30 => .array .int
  | 31 => .array .int
  | _ => .array .int
abbrev wsX50 : List Cond := u_ws RX5 TX5 33
theorem nmX5 : ∀ a, a < 33 → ∀ b, b < 33 → a ≠ b → (TX5 a).2.1 ≠ (TX5 b).2.1 := by decide +kernel
theorem tyX5_ok : ∀ k, k < 33 → parseFieldDescriptor (TX5 k).2.2.1 = some (tyX5 k) := by decide +kernel
abbrev cX5_init : ByteArray := prog_7_method_1_code
def yX5_init : MethodName := ⟨RX5, "<init>", "()V"⟩
abbrev cX5_thrown : ByteArray := prog_7_method_2_code
def yX5_thrown : MethodName := ⟨RX5, "thrown", "()I"⟩
abbrev cX5_in : ByteArray := prog_7_method_3_code
def yX5_in : MethodName := ⟨RX5, "in", "(III)Z"⟩
abbrev cX5_refused : ByteArray := prog_7_method_4_code
def yX5_refused : MethodName := ⟨RX5, "refused", "(I)Z"⟩
abbrev cX5_isRoom : ByteArray := prog_7_method_5_code
def yX5_isRoom : MethodName := ⟨RX5, "isRoom", "(I)Z"⟩
abbrev cX5_isGroup : ByteArray := prog_7_method_6_code
def yX5_isGroup : MethodName := ⟨RX5, "isGroup", "(I)Z"⟩
abbrev cX5_isCrew : ByteArray := prog_7_method_7_code
def yX5_isCrew : MethodName := ⟨RX5, "isCrew", "(I)Z"⟩
abbrev cX5_isBooking : ByteArray := prog_7_method_8_code
def yX5_isBooking : MethodName := ⟨RX5, "isBooking", "(I)Z"⟩
abbrev cX5_isOut : ByteArray := prog_7_method_9_code
def yX5_isOut : MethodName := ⟨RX5, "isOut", "(I)Z"⟩
abbrev cX5_hadOf : ByteArray := prog_7_method_10_code
def yX5_hadOf : MethodName := ⟨RX5, "hadOf", "(II)I"⟩
abbrev cX5_isLeavable : ByteArray := prog_7_method_11_code
def yX5_isLeavable : MethodName := ⟨RX5, "isLeavable", "(I)Z"⟩
abbrev cX5_gapOf : ByteArray := prog_7_method_12_code
def yX5_gapOf : MethodName := ⟨RX5, "gapOf", "(I)I"⟩
abbrev cX5_room : ByteArray := prog_7_method_13_code
def yX5_room : MethodName := ⟨RX5, "room", "(I)I"⟩
abbrev cX5_puzzle : ByteArray := prog_7_method_14_code
def yX5_puzzle : MethodName := ⟨RX5, "puzzle", "(IIIII)I"⟩
abbrev cX5_prop : ByteArray := prog_7_method_15_code
def yX5_prop : MethodName := ⟨RX5, "prop", "(IZ)I"⟩
abbrev cX5_had : ByteArray := prog_7_method_16_code
def yX5_had : MethodName := ⟨RX5, "had", "(II)I"⟩
abbrev cX5_canBeLeft : ByteArray := prog_7_method_17_code
def yX5_canBeLeft : MethodName := ⟨RX5, "canBeLeft", "(I)Z"⟩
abbrev cX5_heldBy : ByteArray := prog_7_method_18_code
def yX5_heldBy : MethodName := ⟨RX5, "heldBy", "(III)I"⟩
abbrev cX5_orders : ByteArray := prog_7_method_19_code
def yX5_orders : MethodName := ⟨RX5, "orders", "(I)I"⟩
abbrev cX5_ordersAnew : ByteArray := prog_7_method_20_code
def yX5_ordersAnew : MethodName := ⟨RX5, "ordersAnew", "(I)I"⟩
abbrev cX5_leaves : ByteArray := prog_7_method_21_code
def yX5_leaves : MethodName := ⟨RX5, "leaves", "(II)V"⟩
abbrev cX5_bookingFor : ByteArray := prog_7_method_22_code
def yX5_bookingFor : MethodName := ⟨RX5, "bookingFor", "(I)I"⟩
abbrev cX5_isNear : ByteArray := prog_7_method_23_code
def yX5_isNear : MethodName := ⟨RX5, "isNear", "(I)Z"⟩
abbrev cX5_come : ByteArray := prog_7_method_24_code
def yX5_come : MethodName := ⟨RX5, "come", "(I)I"⟩
abbrev cX5_maySolve : ByteArray := prog_7_method_25_code
def yX5_maySolve : MethodName := ⟨RX5, "maySolve", "(II)Z"⟩
abbrev cX5_solve : ByteArray := prog_7_method_26_code
def yX5_solve : MethodName := ⟨RX5, "solve", "(II)I"⟩
abbrev cX5_count : ByteArray := prog_7_method_27_code
def yX5_count : MethodName := ⟨RX5, "count", "(I)I"⟩
abbrev cX5_isWay : ByteArray := prog_7_method_28_code
def yX5_isWay : MethodName := ⟨RX5, "isWay", "(II)Z"⟩
abbrev cX5_wayOf : ByteArray := prog_7_method_29_code
def yX5_wayOf : MethodName := ⟨RX5, "wayOf", "(I)I"⟩
abbrev cX5_left : ByteArray := prog_7_method_30_code
def yX5_left : MethodName := ⟨RX5, "left", "(I)I"⟩
abbrev cX5_hint : ByteArray := prog_7_method_31_code
def yX5_hint : MethodName := ⟨RX5, "hint", "(I)I"⟩
abbrev cX5_giveUp : ByteArray := prog_7_method_32_code
def yX5_giveUp : MethodName := ⟨RX5, "giveUp", "(I)V"⟩
abbrev cX5_nextToReset : ByteArray := prog_7_method_33_code
def yX5_nextToReset : MethodName := ⟨RX5, "nextToReset", "(I)I"⟩
abbrev cX5_begins : ByteArray := prog_7_method_34_code
def yX5_begins : MethodName := ⟨RX5, "begins", "(I)V"⟩
abbrev cX5_isDone : ByteArray := prog_7_method_35_code
def yX5_isDone : MethodName := ⟨RX5, "isDone", "(I)V"⟩
abbrev cX5_reset : ByteArray := prog_7_method_36_code
def yX5_reset : MethodName := ⟨RX5, "reset", "(IIZ)V"⟩
abbrev cX5_forget : ByteArray := prog_7_method_37_code
def yX5_forget : MethodName := ⟨RX5, "forget", "(I)I"⟩
abbrev cX5_canBook : ByteArray := prog_7_method_38_code
def yX5_canBook : MethodName := ⟨RX5, "canBook", "(II)Z"⟩
abbrev cX5_book : ByteArray := prog_7_method_39_code
def yX5_book : MethodName := ⟨RX5, "book", "(II)I"⟩
abbrev cX5_cancel : ByteArray := prog_7_method_40_code
def yX5_cancel : MethodName := ⟨RX5, "cancel", "(I)V"⟩
abbrev cX5_offer : ByteArray := prog_7_method_41_code
def yX5_offer : MethodName := ⟨RX5, "offer", "(II)I"⟩
abbrev cX5_pass : ByteArray := prog_7_method_42_code
def yX5_pass : MethodName := ⟨RX5, "pass", "(I)I"⟩
abbrev cX5_works : ByteArray := prog_7_method_43_code
def yX5_works : MethodName := ⟨RX5, "works", "(I)V"⟩
abbrev cX5_minute : ByteArray := prog_7_method_44_code
def yX5_minute : MethodName := ⟨RX5, "minute", "()I"⟩
abbrev cX5_state : ByteArray := prog_7_method_45_code
def yX5_state : MethodName := ⟨RX5, "state", "(II)I"⟩
abbrev cX5_group : ByteArray := prog_7_method_46_code
def yX5_group : MethodName := ⟨RX5, "group", "(II)I"⟩
abbrev cX5_crew : ByteArray := prog_7_method_47_code
def yX5_crew : MethodName := ⟨RX5, "crew", "(II)I"⟩
abbrev cX5_booking : ByteArray := prog_7_method_48_code
def yX5_booking : MethodName := ⟨RX5, "booking", "(II)I"⟩
def RJ6 : String := "java/lang/Integer"
def TJ6 : u_T := fun k => match k with
  | _ => ("", "", "", false)
def tyJ6 : Nat → FieldType := fun k => match k with
  | _ => .int
abbrev wsJ60 : List Cond := u_ws RJ6 TJ6 0
theorem nmJ6 : ∀ a, a < 0 → ∀ b, b < 0 → a ≠ b → (TJ6 a).2.1 ≠ (TJ6 b).2.1 := by decide +kernel
theorem tyJ6_ok : ∀ k, k < 0 → parseFieldDescriptor (TJ6 k).2.2.1 = some (tyJ6 k) := by decide +kernel
abbrev cJ6_bitCount_0f7a4 : ByteArray := prog_12_method_49_code
def yJ6_bitCount_0f7a4 : MethodName := ⟨RJ6, "bitCount", "(I)I"⟩
def RJ9 : String := "java/lang/Math"
def TJ9 : u_T := fun k => match k with
  | _ => ("", "", "", false)
def tyJ9 : Nat → FieldType := fun k => match k with
  | _ => .int
abbrev wsJ90 : List Cond := u_ws RJ9 TJ9 0
theorem nmJ9 : ∀ a, a < 0 → ∀ b, b < 0 → a ≠ b → (TJ9 a).2.1 ≠ (TJ9 b).2.1 := by decide +kernel
theorem tyJ9_ok : ∀ k, k < 0 → parseFieldDescriptor (TJ9 k).2.2.1 = some (tyJ9 k) := by decide +kernel
abbrev cJ9_abs_0f7a4 : ByteArray := prog_13_method_59_code
def yJ9_abs_0f7a4 : MethodName := ⟨RJ9, "abs", "(I)I"⟩
abbrev cJ9_max_7cf53 : ByteArray := prog_13_method_65_code
def yJ9_max_7cf53 : MethodName := ⟨RJ9, "max", "(II)I"⟩
def RJ0 : String := "java/lang/String"
def TJ0 : u_T := fun k => match k with
  | _ => ("", "", "", false)
def tyJ0 : Nat → FieldType := fun k => match k with
  | _ => .int
abbrev wsJ00 : List Cond := u_ws RJ0 TJ0 0
theorem nmJ0 : ∀ a, a < 0 → ∀ b, b < 0 → a ≠ b → (TJ0 a).2.1 ≠ (TJ0 b).2.1 := by decide +kernel
theorem tyJ0_ok : ∀ k, k < 0 → parseFieldDescriptor (TJ0 k).2.2.1 = some (tyJ0 k) := by decide +kernel
def RL : String := "KeylessHallLaw"
abbrev cL_room : ByteArray := method_3_code
def yL_room : MethodName := ⟨RL, "room", "(LKeylessHall;I[J)I"⟩
abbrev cL_puzzle : ByteArray := method_4_code
def yL_puzzle : MethodName := ⟨RL, "puzzle", "(LKeylessHall;IIIII[J)I"⟩
abbrev cL_prop : ByteArray := method_5_code
def yL_prop : MethodName := ⟨RL, "prop", "(LKeylessHall;IZ[J)I"⟩
abbrev cL_had : ByteArray := method_6_code
def yL_had : MethodName := ⟨RL, "had", "(LKeylessHall;II[J)I"⟩
abbrev cL_canBeLeft : ByteArray := method_7_code
def yL_canBeLeft : MethodName := ⟨RL, "canBeLeft", "(LKeylessHall;I[J)I"⟩
abbrev cL_orders : ByteArray := method_8_code
def yL_orders : MethodName := ⟨RL, "orders", "(LKeylessHall;I[J)I"⟩
abbrev cL_ordersAnew : ByteArray := method_9_code
def yL_ordersAnew : MethodName := ⟨RL, "ordersAnew", "(LKeylessHall;I[J)I"⟩
abbrev cL_come : ByteArray := method_10_code
def yL_come : MethodName := ⟨RL, "come", "(LKeylessHall;I[J)I"⟩
abbrev cL_solve : ByteArray := method_11_code
def yL_solve : MethodName := ⟨RL, "solve", "(LKeylessHall;II[J)I"⟩
abbrev cL_hint : ByteArray := method_12_code
def yL_hint : MethodName := ⟨RL, "hint", "(LKeylessHall;I[J)I"⟩
abbrev cL_giveUp : ByteArray := method_13_code
def yL_giveUp : MethodName := ⟨RL, "giveUp", "(LKeylessHall;I)I"⟩
abbrev cL_reset : ByteArray := method_14_code
def yL_reset : MethodName := ⟨RL, "reset", "(LKeylessHall;IIZ)I"⟩
abbrev cL_forget : ByteArray := method_15_code
def yL_forget : MethodName := ⟨RL, "forget", "(LKeylessHall;I[J)I"⟩
abbrev cL_book : ByteArray := method_16_code
def yL_book : MethodName := ⟨RL, "book", "(LKeylessHall;II[J)I"⟩
abbrev cL_cancel : ByteArray := method_17_code
def yL_cancel : MethodName := ⟨RL, "cancel", "(LKeylessHall;I)I"⟩
abbrev cL_offer : ByteArray := method_18_code
def yL_offer : MethodName := ⟨RL, "offer", "(LKeylessHall;II[J)I"⟩
abbrev cL_pass : ByteArray := method_19_code
def yL_pass : MethodName := ⟨RL, "pass", "(LKeylessHall;I[J)I"⟩
abbrev cL_state : ByteArray := method_20_code
def yL_state : MethodName := ⟨RL, "state", "(LKeylessHall;II[J)I"⟩
abbrev cL_group : ByteArray := method_21_code
def yL_group : MethodName := ⟨RL, "group", "(LKeylessHall;II[J)I"⟩
abbrev cL_crew : ByteArray := method_22_code
def yL_crew : MethodName := ⟨RL, "crew", "(LKeylessHall;II[J)I"⟩
abbrev cL_booking : ByteArray := method_23_code
def yL_booking : MethodName := ⟨RL, "booking", "(LKeylessHall;II[J)I"⟩
abbrev cL_law : ByteArray := code
def yL_law : MethodName := ⟨RL, "law", "([I)Z"⟩
def wsX0_init : List Cond := .code yX0_init cX0_init 3 none :: ([.methodLink RX0 3 objectInit, .instanceMethod objectInit, .code objectInit ⟨#[0xb1]⟩ 1 none, .fieldLink RX0 9 "KeylessHall$Booking" "how" "I", .fieldLink RX0 15 "KeylessHall$Booking" "groupNumber" "I", .fieldLink RX0 18 "KeylessHall$Booking" "place" "LKeylessHall$Room;", .fieldLink RX0 22 "KeylessHall$Booking" "begin" "I"] ++ wsX00)
def wsX1_init : List Cond := .code yX1_init cX1_init 6 none :: ([.methodLink RX1 3 objectInit, .instanceMethod objectInit, .code objectInit ⟨#[0xb1]⟩ 1 none, .arrayClass .int, .fieldLink RX1 9 "KeylessHall$Group" "hintsFor" "[I", .fieldLink RX1 15 "KeylessHall$Group" "how" "I", .fieldLink RX1 19 "KeylessHall$Group" "number" "I", .fieldLink RX1 22 "KeylessHall$Group" "place" "LKeylessHall$Room;", .fieldLink RX1 26 "KeylessHall$Group" "arrival" "I", .fieldLink RX1 29 "KeylessHall$Group" "solved" "I", .fieldLink RX1 32 "KeylessHall$Group" "held" "I"] ++ wsX10)
def wsX1_minutesLeft : List Cond := .code yX1_minutesLeft cX1_minutesLeft 2 (some .int) :: ([.fieldLink RX1 35 "KeylessHall$Group" "hintCost" "I", .fieldLink RX1 26 "KeylessHall$Group" "arrival" "I"] ++ wsX10)
def wsX1_takeHint : List Cond := .code yX1_takeHint cX1_takeHint 2 none :: ([.fieldLink RX1 35 "KeylessHall$Group" "hintCost" "I", .fieldLink RX1 9 "KeylessHall$Group" "hintsFor" "[I", .fieldLink RX1 38 "KeylessHall$Group" "hintCount" "I"] ++ wsX10)
def wsX2_init : List Cond := .code yX2_init cX2_init 3 none :: ([.methodLink RX2 3 objectInit, .instanceMethod objectInit, .code objectInit ⟨#[0xb1]⟩ 1 none, .arrayClass .int, .fieldLink RX2 9 "KeylessHall$Room" "needs" "[I", .fieldLink RX2 15 "KeylessHall$Room" "gives" "[I", .fieldLink RX2 18 "KeylessHall$Room" "props" "[I", .fieldLink RX2 21 "KeylessHall$Room" "minutes" "[I", .fieldLink RX2 24 "KeylessHall$Room" "gap" "I", .fieldLink RX2 28 "KeylessHall$Room" "how" "I", .fieldLink RX2 31 "KeylessHall$Room" "number" "I", .fieldLink RX2 34 "KeylessHall$Room" "things" "I"] ++ wsX20)
def wsX2_addPuzzle : List Cond := .code yX2_addPuzzle cX2_addPuzzle 6 (some .int) :: ([.fieldLink RX2 37 "KeylessHall$Room" "puzzleCount" "I", .fieldLink RX2 9 "KeylessHall$Room" "needs" "[I", .fieldLink RX2 15 "KeylessHall$Room" "gives" "[I", .fieldLink RX2 18 "KeylessHall$Room" "props" "[I", .fieldLink RX2 21 "KeylessHall$Room" "minutes" "[I", .fieldLink RX2 24 "KeylessHall$Room" "gap" "I"] ++ wsX20)
def wsX4_has : List Cond := .code yX4_has cX4_has 2 (some .boolean) :: ([])
def wsX4_with : List Cond := .code yX4_with cX4_with 2 (some .int) :: ([])
def wsX2_working : List Cond := .code yX2_working cX2_working 4 (some .int) :: ([.fieldLink RX2 37 "KeylessHall$Room" "puzzleCount" "I", .fieldLink RX2 18 "KeylessHall$Room" "props" "[I", .static yX4_has, .initialized RX4, .code yX4_has cX4_has 2 (some .boolean), .static yX4_with, .code yX4_with cX4_with 2 (some .int)] ++ wsX20)
def wsX4_isWithin : List Cond := .code yX4_isWithin cX4_isWithin 2 (some .boolean) :: ([])
def wsX2_isSolvable : List Cond := .code yX2_isSolvable cX2_isSolvable 3 (some .boolean) :: ([.fieldLink RX2 9 "KeylessHall$Room" "needs" "[I", .static yX4_isWithin, .initialized RX4, .code yX4_isWithin cX4_isWithin 2 (some .boolean)] ++ wsX20)
def wsX2_givenBy : List Cond := .code yX2_givenBy cX2_givenBy 4 (some .int) :: ([.fieldLink RX2 37 "KeylessHall$Room" "puzzleCount" "I", .fieldLink RX2 15 "KeylessHall$Room" "gives" "[I", .static yX4_has, .initialized RX4, .code yX4_has cX4_has 2 (some .boolean)] ++ wsX20)
def wsX2_reach : List Cond := .code yX2_reach cX2_reach 6 (some .int) :: ([.fieldLink RX2 37 "KeylessHall$Room" "puzzleCount" "I", .fieldLink RX2 15 "KeylessHall$Room" "gives" "[I", .static yX4_has, .initialized RX4, .code yX4_has cX4_has 2 (some .boolean), .methodLink RX2 51 yX2_isSolvable, .instanceMethod yX2_isSolvable, .selects RX2 yX2_isSolvable yX2_isSolvable, .initialized RX2, .code yX2_isSolvable cX2_isSolvable 3 (some .boolean), .fieldLink RX2 9 "KeylessHall$Room" "needs" "[I", .static yX4_isWithin, .code yX4_isWithin cX4_isWithin 2 (some .boolean)] ++ wsX20)
def wsX2_lowestSolvable : List Cond := .code yX2_lowestSolvable cX2_lowestSolvable 4 (some .int) :: ([.fieldLink RX2 37 "KeylessHall$Room" "puzzleCount" "I", .static yX4_has, .initialized RX4, .code yX4_has cX4_has 2 (some .boolean), .methodLink RX2 51 yX2_isSolvable, .instanceMethod yX2_isSolvable, .selects RX2 yX2_isSolvable yX2_isSolvable, .initialized RX2, .code yX2_isSolvable cX2_isSolvable 3 (some .boolean), .fieldLink RX2 9 "KeylessHall$Room" "needs" "[I", .static yX4_isWithin, .code yX4_isWithin cX4_isWithin 2 (some .boolean)] ++ wsX20)
def wsX2_isNeededByOther : List Cond := .code yX2_isNeededByOther cX2_isNeededByOther 4 (some .boolean) :: ([.fieldLink RX2 15 "KeylessHall$Room" "gives" "[I", .fieldLink RX2 34 "KeylessHall$Room" "things" "I", .fieldLink RX2 37 "KeylessHall$Room" "puzzleCount" "I", .fieldLink RX2 54 "KeylessHall$Room" "toReset" "I", .fieldLink RX2 9 "KeylessHall$Room" "needs" "[I", .static yX4_has, .initialized RX4, .code yX4_has cX4_has 2 (some .boolean)] ++ wsX20)
def wsX2_nextToReset : List Cond := .code yX2_nextToReset cX2_nextToReset 4 (some .int) :: ([.fieldLink RX2 37 "KeylessHall$Room" "puzzleCount" "I", .fieldLink RX2 54 "KeylessHall$Room" "toReset" "I", .static yX4_has, .initialized RX4, .code yX4_has cX4_has 2 (some .boolean), .methodLink RX2 57 yX2_isNeededByOther, .instanceMethod yX2_isNeededByOther, .selects RX2 yX2_isNeededByOther yX2_isNeededByOther, .initialized RX2, .code yX2_isNeededByOther cX2_isNeededByOther 4 (some .boolean), .fieldLink RX2 15 "KeylessHall$Room" "gives" "[I", .fieldLink RX2 34 "KeylessHall$Room" "things" "I", .fieldLink RX2 9 "KeylessHall$Room" "needs" "[I"] ++ wsX20)
def wsX3_init : List Cond := .code yX3_init cX3_init 1 none :: ([.methodLink RX3 3 objectInit, .instanceMethod objectInit, .code objectInit ⟨#[0xb1]⟩ 1 none, .fieldLink RX3 9 "KeylessHall$Worker" "puzzle" "I", .fieldLink RX3 15 "KeylessHall$Worker" "minutesLeft" "I"] ++ wsX30)
def wsX3_begin : List Cond := .code yX3_begin cX3_begin 4 none :: ([.fieldLink RX3 18 "KeylessHall$Worker" "place" "LKeylessHall$Room;", .fieldLink RX3 9 "KeylessHall$Worker" "puzzle" "I", .fieldLink RX3 15 "KeylessHall$Worker" "minutesLeft" "I"] ++ wsX30)
def wsX3_stop : List Cond := .code yX3_stop cX3_stop 1 none :: ([.fieldLink RX3 18 "KeylessHall$Worker" "place" "LKeylessHall$Room;", .fieldLink RX3 9 "KeylessHall$Worker" "puzzle" "I", .fieldLink RX3 15 "KeylessHall$Worker" "minutesLeft" "I"] ++ wsX30)
def wsX4_init : List Cond := .code yX4_init cX4_init 2 none :: ([.methodLink RX4 3 objectInit, .instanceMethod objectInit, .code objectInit ⟨#[0xb1]⟩ 1 none, .classLink RX4 9 RX2, .fieldLink RX4 11 "KeylessHall" "rooms" "[LKeylessHall$Room;", .classLink RX4 15 RX1, .fieldLink RX4 17 "KeylessHall" "groups" "[LKeylessHall$Group;", .classLink RX4 21 RX0, .fieldLink RX4 23 "KeylessHall" "bookings" "[LKeylessHall$Booking;", .classLink RX4 27 RX3, .fieldLink RX4 29 "KeylessHall" "workers" "[LKeylessHall$Worker;", .arrayClass .int, .fieldLink RX4 33 "KeylessHall" "ways" "[I", .instantiable RX3 3, .initialized RX3, .instanceMethod yX3_init, .code yX3_init cX3_init 1 none, .methodLink RX3 3 objectInit, .fieldLink RX3 9 "KeylessHall$Worker" "puzzle" "I", .fieldLink RX3 15 "KeylessHall$Worker" "minutesLeft" "I"] ++ wsX40 ++ wsX30)
def wsX4_areThings : List Cond := .code yX4_areThings cX4_areThings 1 (some .boolean) :: ([])
def wsX4_room_r1 : List Cond := [Cond.classLink RX4 42 "java/lang/IllegalArgumentException", Cond.initialized "java/lang/IllegalArgumentException", Cond.classLink RX4 53 "java/lang/IllegalStateException", Cond.initialized "java/lang/IllegalStateException", Cond.fieldLink RX4 49 "KeylessHall" "roomCount" "I", Cond.fieldLink RX4 11 "KeylessHall" "rooms" "[LKeylessHall$Room;", Cond.classLink RX4 9 RX2, Cond.instantiable RX2 13, Cond.initialized RX2, Cond.methodLink RX4 38 yX4_areThings, Cond.static yX4_areThings, Cond.initialized RX4, Cond.code yX4_areThings cX4_areThings 1 (some .boolean), Cond.methodLink RX4 58 yX2_init, Cond.instanceMethod yX2_init, Cond.code yX2_init cX2_init 3 none, Cond.methodLink RX2 3 objectInit, Cond.instanceMethod objectInit, Cond.code objectInit ⟨#[0xb1]⟩ 1 none, Cond.arrayClass .int, Cond.fieldLink RX2 9 "KeylessHall$Room" "needs" "[I", Cond.fieldLink RX2 15 "KeylessHall$Room" "gives" "[I", Cond.fieldLink RX2 18 "KeylessHall$Room" "props" "[I", Cond.fieldLink RX2 21 "KeylessHall$Room" "minutes" "[I"]
def wsX4_room_r2 : List Cond := [Cond.fieldLink RX2 24 "KeylessHall$Room" "gap" "I", Cond.fieldLink RX2 28 "KeylessHall$Room" "how" "I", Cond.fieldLink RX2 31 "KeylessHall$Room" "number" "I", Cond.fieldLink RX2 34 "KeylessHall$Room" "things" "I"]
def wsX4_room : List Cond := .code yX4_room cX4_room 3 (some .int) :: ((wsX4_room_r1 ++ wsX4_room_r2) ++ wsX40 ++ wsX20 ++ (vx_atS RX4 46 "java/lang/IllegalArgumentException" ["java/lang/RuntimeException", "java/lang/Exception"]).filter goodWord ++ (vx_atS RX4 57 "java/lang/IllegalStateException" ["java/lang/RuntimeException", "java/lang/Exception"]).filter goodWord)
def wsX4_roomNumbered : List Cond := .code yX4_roomNumbered cX4_roomNumbered 2 (some (.object "KeylessHall$Room")) :: ([.classLink RX4 68 "java/lang/IndexOutOfBoundsException", .initialized "java/lang/IndexOutOfBoundsException", .fieldLink RX4 49 "KeylessHall" "roomCount" "I", .fieldLink RX4 11 "KeylessHall" "rooms" "[LKeylessHall$Room;"] ++ wsX40 ++ (vx_atS RX4 72 "java/lang/IndexOutOfBoundsException" ["java/lang/RuntimeException", "java/lang/Exception"]).filter goodWord)
def wsX4_isProp : List Cond := .code yX4_isProp cX4_isProp 1 (some .boolean) :: ([])
def wsX4_puzzle_r1 : List Cond := [Cond.classLink RX4 68 "java/lang/IndexOutOfBoundsException", Cond.initialized "java/lang/IndexOutOfBoundsException", Cond.classLink RX4 42 "java/lang/IllegalArgumentException", Cond.initialized "java/lang/IllegalArgumentException", Cond.classLink RX4 53 "java/lang/IllegalStateException", Cond.initialized "java/lang/IllegalStateException", Cond.fieldLink RX4 77 "KeylessHall$Room" "how" "I", Cond.fieldLink RX4 80 "KeylessHall$Room" "puzzleCount" "I", Cond.methodLink RX4 61 yX4_roomNumbered, Cond.instanceMethod yX4_roomNumbered, Cond.selects RX4 yX4_roomNumbered yX4_roomNumbered, Cond.initialized RX4, Cond.code yX4_roomNumbered cX4_roomNumbered 2 (some (.object "KeylessHall$Room")), Cond.fieldLink RX4 49 "KeylessHall" "roomCount" "I", Cond.fieldLink RX4 11 "KeylessHall" "rooms" "[LKeylessHall$Room;", Cond.methodLink RX4 65 yX4_isProp, Cond.static yX4_isProp, Cond.code yX4_isProp cX4_isProp 1 (some .boolean), Cond.methodLink RX4 38 yX4_areThings, Cond.static yX4_areThings, Cond.code yX4_areThings cX4_areThings 1 (some .boolean), Cond.methodLink RX4 85 yX2_addPuzzle, Cond.instanceMethod yX2_addPuzzle, Cond.selects RX2 yX2_addPuzzle yX2_addPuzzle]
def wsX4_puzzle_r2 : List Cond := [Cond.initialized RX2, Cond.code yX2_addPuzzle cX2_addPuzzle 6 (some .int), Cond.fieldLink RX2 37 "KeylessHall$Room" "puzzleCount" "I", Cond.fieldLink RX2 9 "KeylessHall$Room" "needs" "[I", Cond.fieldLink RX2 15 "KeylessHall$Room" "gives" "[I", Cond.fieldLink RX2 18 "KeylessHall$Room" "props" "[I", Cond.fieldLink RX2 21 "KeylessHall$Room" "minutes" "[I", Cond.fieldLink RX2 24 "KeylessHall$Room" "gap" "I"]
def wsX4_puzzle : List Cond := .code yX4_puzzle cX4_puzzle 7 (some .int) :: ((wsX4_puzzle_r1 ++ wsX4_puzzle_r2) ++ wsX20 ++ wsX40 ++ (vx_atS RX4 72 "java/lang/IndexOutOfBoundsException" ["java/lang/RuntimeException", "java/lang/Exception"]).filter goodWord ++ (vx_atS RX4 46 "java/lang/IllegalArgumentException" ["java/lang/RuntimeException", "java/lang/Exception"]).filter goodWord ++ (vx_atS RX4 57 "java/lang/IllegalStateException" ["java/lang/RuntimeException", "java/lang/Exception"]).filter goodWord)
def wsX4_leave : List Cond := .code yX4_leave cX4_leave 3 none :: ([.fieldLink RX4 155 "KeylessHall$Group" "place" "LKeylessHall$Room;", .fieldLink RX4 161 "KeylessHall$Group" "how" "I", .fieldLink RX4 77 "KeylessHall$Room" "how" "I", .fieldLink RX4 273 "KeylessHall$Room" "players" "LKeylessHall$Group;", .fieldLink RX4 174 "KeylessHall$Group" "solved" "I", .fieldLink RX4 228 "KeylessHall$Room" "toReset" "I"] ++ wsX10 ++ wsX20)
def wsX4_freeLockedIn_r1 : List Cond := [Cond.fieldLink RX4 49 "KeylessHall" "roomCount" "I", Cond.fieldLink RX4 11 "KeylessHall" "rooms" "[LKeylessHall$Room;", Cond.fieldLink RX4 273 "KeylessHall$Room" "players" "LKeylessHall$Group;", Cond.fieldLink RX4 166 "KeylessHall$Group" "held" "I", Cond.fieldLink RX4 91 "KeylessHall" "brokenProps" "I", Cond.methodLink RX4 105 yX2_working, Cond.instanceMethod yX2_working, Cond.selects RX2 yX2_working yX2_working, Cond.initialized RX2, Cond.code yX2_working cX2_working 4 (some .int), Cond.fieldLink RX2 37 "KeylessHall$Room" "puzzleCount" "I", Cond.fieldLink RX2 18 "KeylessHall$Room" "props" "[I", Cond.static yX4_has, Cond.initialized RX4, Cond.code yX4_has cX4_has 2 (some .boolean), Cond.static yX4_with, Cond.code yX4_with cX4_with 2 (some .int), Cond.methodLink RX4 109 yX2_reach, Cond.instanceMethod yX2_reach, Cond.selects RX2 yX2_reach yX2_reach, Cond.code yX2_reach cX2_reach 6 (some .int), Cond.fieldLink RX2 15 "KeylessHall$Room" "gives" "[I", Cond.methodLink RX2 51 yX2_isSolvable, Cond.instanceMethod yX2_isSolvable]
def wsX4_freeLockedIn_r2 : List Cond := [Cond.selects RX2 yX2_isSolvable yX2_isSolvable, Cond.code yX2_isSolvable cX2_isSolvable 3 (some .boolean), Cond.fieldLink RX2 9 "KeylessHall$Room" "needs" "[I", Cond.static yX4_isWithin, Cond.code yX4_isWithin cX4_isWithin 2 (some .boolean), Cond.methodLink RX4 123 yX4_has, Cond.methodLink RX4 201 yX4_leave, Cond.static yX4_leave, Cond.code yX4_leave cX4_leave 3 none, Cond.fieldLink RX4 155 "KeylessHall$Group" "place" "LKeylessHall$Room;", Cond.fieldLink RX4 161 "KeylessHall$Group" "how" "I", Cond.fieldLink RX4 77 "KeylessHall$Room" "how" "I", Cond.fieldLink RX4 174 "KeylessHall$Group" "solved" "I", Cond.fieldLink RX4 228 "KeylessHall$Room" "toReset" "I"]
def wsX4_freeLockedIn : List Cond := .code yX4_freeLockedIn cX4_freeLockedIn 5 (some .int) :: ((wsX4_freeLockedIn_r1 ++ wsX4_freeLockedIn_r2) ++ wsX40 ++ wsX20 ++ wsX10)
def wsX4_without : List Cond := .code yX4_without cX4_without 2 (some .int) :: ([])
def wsX4_prop_r1 : List Cond := [Cond.classLink RX4 68 "java/lang/IndexOutOfBoundsException", Cond.initialized "java/lang/IndexOutOfBoundsException", Cond.fieldLink RX4 91 "KeylessHall" "brokenProps" "I", Cond.methodLink RX4 65 yX4_isProp, Cond.static yX4_isProp, Cond.initialized RX4, Cond.code yX4_isProp cX4_isProp 1 (some .boolean), Cond.methodLink RX4 94 yX4_with, Cond.static yX4_with, Cond.code yX4_with cX4_with 2 (some .int), Cond.methodLink RX4 98 yX4_freeLockedIn, Cond.instanceMethod yX4_freeLockedIn, Cond.selects RX4 yX4_freeLockedIn yX4_freeLockedIn, Cond.code yX4_freeLockedIn cX4_freeLockedIn 5 (some .int), Cond.fieldLink RX4 49 "KeylessHall" "roomCount" "I", Cond.fieldLink RX4 11 "KeylessHall" "rooms" "[LKeylessHall$Room;", Cond.fieldLink RX4 273 "KeylessHall$Room" "players" "LKeylessHall$Group;", Cond.fieldLink RX4 166 "KeylessHall$Group" "held" "I", Cond.methodLink RX4 105 yX2_working, Cond.instanceMethod yX2_working, Cond.selects RX2 yX2_working yX2_working, Cond.initialized RX2, Cond.code yX2_working cX2_working 4 (some .int), Cond.fieldLink RX2 37 "KeylessHall$Room" "puzzleCount" "I"]
def wsX4_prop_r2 : List Cond := [Cond.fieldLink RX2 18 "KeylessHall$Room" "props" "[I", Cond.static yX4_has, Cond.code yX4_has cX4_has 2 (some .boolean), Cond.methodLink RX4 109 yX2_reach, Cond.instanceMethod yX2_reach, Cond.selects RX2 yX2_reach yX2_reach, Cond.code yX2_reach cX2_reach 6 (some .int), Cond.fieldLink RX2 15 "KeylessHall$Room" "gives" "[I", Cond.methodLink RX2 51 yX2_isSolvable, Cond.instanceMethod yX2_isSolvable, Cond.selects RX2 yX2_isSolvable yX2_isSolvable, Cond.code yX2_isSolvable cX2_isSolvable 3 (some .boolean), Cond.fieldLink RX2 9 "KeylessHall$Room" "needs" "[I", Cond.static yX4_isWithin, Cond.code yX4_isWithin cX4_isWithin 2 (some .boolean), Cond.methodLink RX4 123 yX4_has, Cond.methodLink RX4 201 yX4_leave, Cond.static yX4_leave, Cond.code yX4_leave cX4_leave 3 none, Cond.fieldLink RX4 155 "KeylessHall$Group" "place" "LKeylessHall$Room;", Cond.fieldLink RX4 161 "KeylessHall$Group" "how" "I", Cond.fieldLink RX4 77 "KeylessHall$Room" "how" "I", Cond.fieldLink RX4 174 "KeylessHall$Group" "solved" "I", Cond.fieldLink RX4 228 "KeylessHall$Room" "toReset" "I"]
def wsX4_prop_r3 : List Cond := [Cond.methodLink RX4 102 yX4_without, Cond.static yX4_without, Cond.code yX4_without cX4_without 2 (some .int)]
def wsX4_prop : List Cond := .code yX4_prop cX4_prop 3 (some .int) :: ((wsX4_prop_r1 ++ (wsX4_prop_r2 ++ wsX4_prop_r3)) ++ wsX40 ++ wsX20 ++ wsX10 ++ (vx_atS RX4 72 "java/lang/IndexOutOfBoundsException" ["java/lang/RuntimeException", "java/lang/Exception"]).filter goodWord)
def wsX4_had_r1 : List Cond := [Cond.classLink RX4 42 "java/lang/IllegalArgumentException", Cond.initialized "java/lang/IllegalArgumentException", Cond.fieldLink RX4 91 "KeylessHall" "brokenProps" "I", Cond.methodLink RX4 61 yX4_roomNumbered, Cond.instanceMethod yX4_roomNumbered, Cond.selects RX4 yX4_roomNumbered yX4_roomNumbered, Cond.initialized RX4, Cond.code yX4_roomNumbered cX4_roomNumbered 2 (some (.object "KeylessHall$Room")), Cond.classLink RX4 68 "java/lang/IndexOutOfBoundsException", Cond.initialized "java/lang/IndexOutOfBoundsException", Cond.fieldLink RX4 49 "KeylessHall" "roomCount" "I", Cond.fieldLink RX4 11 "KeylessHall" "rooms" "[LKeylessHall$Room;", Cond.methodLink RX4 38 yX4_areThings, Cond.static yX4_areThings, Cond.code yX4_areThings cX4_areThings 1 (some .boolean), Cond.methodLink RX4 105 yX2_working, Cond.instanceMethod yX2_working, Cond.selects RX2 yX2_working yX2_working, Cond.initialized RX2, Cond.code yX2_working cX2_working 4 (some .int), Cond.fieldLink RX2 37 "KeylessHall$Room" "puzzleCount" "I", Cond.fieldLink RX2 18 "KeylessHall$Room" "props" "[I", Cond.static yX4_has, Cond.code yX4_has cX4_has 2 (some .boolean)]
def wsX4_had_r2 : List Cond := [Cond.static yX4_with, Cond.code yX4_with cX4_with 2 (some .int), Cond.methodLink RX4 109 yX2_reach, Cond.instanceMethod yX2_reach, Cond.selects RX2 yX2_reach yX2_reach, Cond.code yX2_reach cX2_reach 6 (some .int), Cond.fieldLink RX2 15 "KeylessHall$Room" "gives" "[I", Cond.methodLink RX2 51 yX2_isSolvable, Cond.instanceMethod yX2_isSolvable, Cond.selects RX2 yX2_isSolvable yX2_isSolvable, Cond.code yX2_isSolvable cX2_isSolvable 3 (some .boolean), Cond.fieldLink RX2 9 "KeylessHall$Room" "needs" "[I", Cond.static yX4_isWithin, Cond.code yX4_isWithin cX4_isWithin 2 (some .boolean)]
def wsX4_had : List Cond := .code yX4_had cX4_had 4 (some .int) :: ((wsX4_had_r1 ++ wsX4_had_r2) ++ wsX40 ++ wsX20 ++ (vx_atS RX4 46 "java/lang/IllegalArgumentException" ["java/lang/RuntimeException", "java/lang/Exception"]).filter goodWord ++ (vx_atS RX4 72 "java/lang/IndexOutOfBoundsException" ["java/lang/RuntimeException", "java/lang/Exception"]).filter goodWord)
def wsX4_hasExit_r1 : List Cond := [Cond.fieldLink RX4 80 "KeylessHall$Room" "puzzleCount" "I", Cond.fieldLink RX4 120 "KeylessHall$Room" "things" "I", Cond.fieldLink RX4 91 "KeylessHall" "brokenProps" "I", Cond.methodLink RX4 105 yX2_working, Cond.instanceMethod yX2_working, Cond.selects RX2 yX2_working yX2_working, Cond.initialized RX2, Cond.code yX2_working cX2_working 4 (some .int), Cond.fieldLink RX2 37 "KeylessHall$Room" "puzzleCount" "I", Cond.fieldLink RX2 18 "KeylessHall$Room" "props" "[I", Cond.static yX4_has, Cond.initialized RX4, Cond.code yX4_has cX4_has 2 (some .boolean), Cond.static yX4_with, Cond.code yX4_with cX4_with 2 (some .int), Cond.methodLink RX4 109 yX2_reach, Cond.instanceMethod yX2_reach, Cond.selects RX2 yX2_reach yX2_reach, Cond.code yX2_reach cX2_reach 6 (some .int), Cond.fieldLink RX2 15 "KeylessHall$Room" "gives" "[I", Cond.methodLink RX2 51 yX2_isSolvable, Cond.instanceMethod yX2_isSolvable, Cond.selects RX2 yX2_isSolvable yX2_isSolvable, Cond.code yX2_isSolvable cX2_isSolvable 3 (some .boolean)]
def wsX4_hasExit_r2 : List Cond := [Cond.fieldLink RX2 9 "KeylessHall$Room" "needs" "[I", Cond.static yX4_isWithin, Cond.code yX4_isWithin cX4_isWithin 2 (some .boolean), Cond.methodLink RX4 123 yX4_has]
def wsX4_hasExit : List Cond := .code yX4_hasExit cX4_hasExit 2 (some .boolean) :: ((wsX4_hasExit_r1 ++ wsX4_hasExit_r2) ++ wsX20 ++ wsX40)
def wsX4_canBeLeft_r1 : List Cond := [Cond.methodLink RX4 61 yX4_roomNumbered, Cond.instanceMethod yX4_roomNumbered, Cond.selects RX4 yX4_roomNumbered yX4_roomNumbered, Cond.initialized RX4, Cond.code yX4_roomNumbered cX4_roomNumbered 2 (some (.object "KeylessHall$Room")), Cond.classLink RX4 68 "java/lang/IndexOutOfBoundsException", Cond.initialized "java/lang/IndexOutOfBoundsException", Cond.fieldLink RX4 49 "KeylessHall" "roomCount" "I", Cond.fieldLink RX4 11 "KeylessHall" "rooms" "[LKeylessHall$Room;", Cond.methodLink RX4 112 yX4_hasExit, Cond.instanceMethod yX4_hasExit, Cond.selects RX4 yX4_hasExit yX4_hasExit, Cond.code yX4_hasExit cX4_hasExit 2 (some .boolean), Cond.fieldLink RX4 80 "KeylessHall$Room" "puzzleCount" "I", Cond.fieldLink RX4 120 "KeylessHall$Room" "things" "I", Cond.fieldLink RX4 91 "KeylessHall" "brokenProps" "I", Cond.methodLink RX4 105 yX2_working, Cond.instanceMethod yX2_working, Cond.selects RX2 yX2_working yX2_working, Cond.initialized RX2, Cond.code yX2_working cX2_working 4 (some .int), Cond.fieldLink RX2 37 "KeylessHall$Room" "puzzleCount" "I", Cond.fieldLink RX2 18 "KeylessHall$Room" "props" "[I", Cond.static yX4_has]
def wsX4_canBeLeft_r2 : List Cond := [Cond.code yX4_has cX4_has 2 (some .boolean), Cond.static yX4_with, Cond.code yX4_with cX4_with 2 (some .int), Cond.methodLink RX4 109 yX2_reach, Cond.instanceMethod yX2_reach, Cond.selects RX2 yX2_reach yX2_reach, Cond.code yX2_reach cX2_reach 6 (some .int), Cond.fieldLink RX2 15 "KeylessHall$Room" "gives" "[I", Cond.methodLink RX2 51 yX2_isSolvable, Cond.instanceMethod yX2_isSolvable, Cond.selects RX2 yX2_isSolvable yX2_isSolvable, Cond.code yX2_isSolvable cX2_isSolvable 3 (some .boolean), Cond.fieldLink RX2 9 "KeylessHall$Room" "needs" "[I", Cond.static yX4_isWithin, Cond.code yX4_isWithin cX4_isWithin 2 (some .boolean), Cond.methodLink RX4 123 yX4_has]
def wsX4_canBeLeft : List Cond := .code yX4_canBeLeft cX4_canBeLeft 2 (some .boolean) :: ((wsX4_canBeLeft_r1 ++ wsX4_canBeLeft_r2) ++ wsX40 ++ wsX20 ++ (vx_atS RX4 72 "java/lang/IndexOutOfBoundsException" ["java/lang/RuntimeException", "java/lang/Exception"]).filter goodWord)
def wsX4_addWaysBehind : List Cond := .code yX4_addWaysBehind cX4_addWaysBehind 6 none :: ([.fieldLink RX4 80 "KeylessHall$Room" "puzzleCount" "I", .fieldLink RX4 33 "KeylessHall" "ways" "[I", .methodLink RX4 123 yX4_has, .static yX4_has, .initialized RX4, .code yX4_has cX4_has 2 (some .boolean), .methodLink RX4 169 yX2_isSolvable, .instanceMethod yX2_isSolvable, .selects RX2 yX2_isSolvable yX2_isSolvable, .initialized RX2, .code yX2_isSolvable cX2_isSolvable 3 (some .boolean), .fieldLink RX2 9 "KeylessHall$Room" "needs" "[I", .static yX4_isWithin, .code yX4_isWithin cX4_isWithin 2 (some .boolean), .methodLink RX4 94 yX4_with, .static yX4_with, .code yX4_with cX4_with 2 (some .int)] ++ wsX20 ++ wsX40)
def wsX4_countOrdersBySets_r1 : List Cond := [Cond.fieldLink RX4 91 "KeylessHall" "brokenProps" "I", Cond.fieldLink RX4 80 "KeylessHall$Room" "puzzleCount" "I", Cond.fieldLink RX4 33 "KeylessHall" "ways" "[I", Cond.fieldLink RX4 120 "KeylessHall$Room" "things" "I", Cond.methodLink RX4 105 yX2_working, Cond.instanceMethod yX2_working, Cond.selects RX2 yX2_working yX2_working, Cond.initialized RX2, Cond.code yX2_working cX2_working 4 (some .int), Cond.fieldLink RX2 37 "KeylessHall$Room" "puzzleCount" "I", Cond.fieldLink RX2 18 "KeylessHall$Room" "props" "[I", Cond.static yX4_has, Cond.initialized RX4, Cond.code yX4_has cX4_has 2 (some .boolean), Cond.static yX4_with, Cond.code yX4_with cX4_with 2 (some .int), Cond.methodLink RX4 315 yX2_givenBy, Cond.instanceMethod yX2_givenBy, Cond.selects RX2 yX2_givenBy yX2_givenBy, Cond.code yX2_givenBy cX2_givenBy 4 (some .int), Cond.fieldLink RX2 15 "KeylessHall$Room" "gives" "[I", Cond.methodLink RX4 123 yX4_has, Cond.methodLink RX4 318 yX4_addWaysBehind, Cond.instanceMethod yX4_addWaysBehind]
def wsX4_countOrdersBySets_r2 : List Cond := [Cond.selects RX4 yX4_addWaysBehind yX4_addWaysBehind, Cond.code yX4_addWaysBehind cX4_addWaysBehind 6 none, Cond.methodLink RX4 169 yX2_isSolvable, Cond.instanceMethod yX2_isSolvable, Cond.selects RX2 yX2_isSolvable yX2_isSolvable, Cond.code yX2_isSolvable cX2_isSolvable 3 (some .boolean), Cond.fieldLink RX2 9 "KeylessHall$Room" "needs" "[I", Cond.static yX4_isWithin, Cond.code yX4_isWithin cX4_isWithin 2 (some .boolean), Cond.methodLink RX4 94 yX4_with]
def wsX4_countOrdersBySets : List Cond := .code yX4_countOrdersBySets cX4_countOrdersBySets 7 (some .int) :: ((wsX4_countOrdersBySets_r1 ++ wsX4_countOrdersBySets_r2) ++ wsX40 ++ wsX20)
def wsX4_orders_r1 : List Cond := [Cond.methodLink RX4 61 yX4_roomNumbered, Cond.instanceMethod yX4_roomNumbered, Cond.selects RX4 yX4_roomNumbered yX4_roomNumbered, Cond.initialized RX4, Cond.code yX4_roomNumbered cX4_roomNumbered 2 (some (.object "KeylessHall$Room")), Cond.classLink RX4 68 "java/lang/IndexOutOfBoundsException", Cond.initialized "java/lang/IndexOutOfBoundsException", Cond.fieldLink RX4 49 "KeylessHall" "roomCount" "I", Cond.fieldLink RX4 11 "KeylessHall" "rooms" "[LKeylessHall$Room;", Cond.methodLink RX4 116 yX4_countOrdersBySets, Cond.instanceMethod yX4_countOrdersBySets, Cond.selects RX4 yX4_countOrdersBySets yX4_countOrdersBySets, Cond.code yX4_countOrdersBySets cX4_countOrdersBySets 7 (some .int), Cond.fieldLink RX4 91 "KeylessHall" "brokenProps" "I", Cond.fieldLink RX4 80 "KeylessHall$Room" "puzzleCount" "I", Cond.fieldLink RX4 33 "KeylessHall" "ways" "[I", Cond.fieldLink RX4 120 "KeylessHall$Room" "things" "I", Cond.methodLink RX4 105 yX2_working, Cond.instanceMethod yX2_working, Cond.selects RX2 yX2_working yX2_working, Cond.initialized RX2, Cond.code yX2_working cX2_working 4 (some .int), Cond.fieldLink RX2 37 "KeylessHall$Room" "puzzleCount" "I", Cond.fieldLink RX2 18 "KeylessHall$Room" "props" "[I"]
def wsX4_orders_r2 : List Cond := [Cond.static yX4_has, Cond.code yX4_has cX4_has 2 (some .boolean), Cond.static yX4_with, Cond.code yX4_with cX4_with 2 (some .int), Cond.methodLink RX4 315 yX2_givenBy, Cond.instanceMethod yX2_givenBy, Cond.selects RX2 yX2_givenBy yX2_givenBy, Cond.code yX2_givenBy cX2_givenBy 4 (some .int), Cond.fieldLink RX2 15 "KeylessHall$Room" "gives" "[I", Cond.methodLink RX4 123 yX4_has, Cond.methodLink RX4 318 yX4_addWaysBehind, Cond.instanceMethod yX4_addWaysBehind, Cond.selects RX4 yX4_addWaysBehind yX4_addWaysBehind, Cond.code yX4_addWaysBehind cX4_addWaysBehind 6 none, Cond.methodLink RX4 169 yX2_isSolvable, Cond.instanceMethod yX2_isSolvable, Cond.selects RX2 yX2_isSolvable yX2_isSolvable, Cond.code yX2_isSolvable cX2_isSolvable 3 (some .boolean), Cond.fieldLink RX2 9 "KeylessHall$Room" "needs" "[I", Cond.static yX4_isWithin, Cond.code yX4_isWithin cX4_isWithin 2 (some .boolean), Cond.methodLink RX4 94 yX4_with]
def wsX4_orders : List Cond := .code yX4_orders cX4_orders 2 (some .int) :: ((wsX4_orders_r1 ++ wsX4_orders_r2) ++ wsX40 ++ wsX20 ++ (vx_atS RX4 72 "java/lang/IndexOutOfBoundsException" ["java/lang/RuntimeException", "java/lang/Exception"]).filter goodWord)
def wsX4_countOrdersOneByOne : List Cond := .code yX4_countOrdersOneByOne cX4_countOrdersOneByOne 6 (some .int) :: ([.fieldLink RX4 80 "KeylessHall$Room" "puzzleCount" "I", .fieldLink RX4 177 "KeylessHall$Room" "gives" "[I", .methodLink RX4 123 yX4_has, .static yX4_has, .initialized RX4, .code yX4_has cX4_has 2 (some .boolean), .methodLink RX4 169 yX2_isSolvable, .instanceMethod yX2_isSolvable, .selects RX2 yX2_isSolvable yX2_isSolvable, .initialized RX2, .code yX2_isSolvable cX2_isSolvable 3 (some .boolean), .fieldLink RX2 9 "KeylessHall$Room" "needs" "[I", .static yX4_isWithin, .code yX4_isWithin cX4_isWithin 2 (some .boolean), .methodLink RX4 102 yX4_without, .static yX4_without, .code yX4_without cX4_without 2 (some .int), .methodLink RX4 127 yX4_countOrdersOneByOne, .static yX4_countOrdersOneByOne] ++ wsX20)
def wsX4_ordersAnew_r1 : List Cond := [Cond.fieldLink RX4 91 "KeylessHall" "brokenProps" "I", Cond.fieldLink RX4 120 "KeylessHall$Room" "things" "I", Cond.methodLink RX4 61 yX4_roomNumbered, Cond.instanceMethod yX4_roomNumbered, Cond.selects RX4 yX4_roomNumbered yX4_roomNumbered, Cond.initialized RX4, Cond.code yX4_roomNumbered cX4_roomNumbered 2 (some (.object "KeylessHall$Room")), Cond.classLink RX4 68 "java/lang/IndexOutOfBoundsException", Cond.initialized "java/lang/IndexOutOfBoundsException", Cond.fieldLink RX4 49 "KeylessHall" "roomCount" "I", Cond.fieldLink RX4 11 "KeylessHall" "rooms" "[LKeylessHall$Room;", Cond.methodLink RX4 105 yX2_working, Cond.instanceMethod yX2_working, Cond.selects RX2 yX2_working yX2_working, Cond.initialized RX2, Cond.code yX2_working cX2_working 4 (some .int), Cond.fieldLink RX2 37 "KeylessHall$Room" "puzzleCount" "I", Cond.fieldLink RX2 18 "KeylessHall$Room" "props" "[I", Cond.static yX4_has, Cond.code yX4_has cX4_has 2 (some .boolean), Cond.static yX4_with, Cond.code yX4_with cX4_with 2 (some .int), Cond.methodLink RX4 109 yX2_reach, Cond.instanceMethod yX2_reach]
def wsX4_ordersAnew_r2 : List Cond := [Cond.selects RX2 yX2_reach yX2_reach, Cond.code yX2_reach cX2_reach 6 (some .int), Cond.fieldLink RX2 15 "KeylessHall$Room" "gives" "[I", Cond.methodLink RX2 51 yX2_isSolvable, Cond.instanceMethod yX2_isSolvable, Cond.selects RX2 yX2_isSolvable yX2_isSolvable, Cond.code yX2_isSolvable cX2_isSolvable 3 (some .boolean), Cond.fieldLink RX2 9 "KeylessHall$Room" "needs" "[I", Cond.static yX4_isWithin, Cond.code yX4_isWithin cX4_isWithin 2 (some .boolean), Cond.methodLink RX4 123 yX4_has, Cond.methodLink RX4 127 yX4_countOrdersOneByOne, Cond.static yX4_countOrdersOneByOne, Cond.code yX4_countOrdersOneByOne cX4_countOrdersOneByOne 6 (some .int), Cond.fieldLink RX4 80 "KeylessHall$Room" "puzzleCount" "I", Cond.fieldLink RX4 177 "KeylessHall$Room" "gives" "[I", Cond.methodLink RX4 169 yX2_isSolvable, Cond.methodLink RX4 102 yX4_without, Cond.static yX4_without, Cond.code yX4_without cX4_without 2 (some .int)]
def wsX4_ordersAnew : List Cond := .code yX4_ordersAnew cX4_ordersAnew 4 (some .int) :: ((wsX4_ordersAnew_r1 ++ wsX4_ordersAnew_r2) ++ wsX40 ++ wsX20 ++ (vx_atS RX4 72 "java/lang/IndexOutOfBoundsException" ["java/lang/RuntimeException", "java/lang/Exception"]).filter goodWord)
def wsX4_bookingDue : List Cond := .code yX4_bookingDue cX4_bookingDue 4 (some (.object "KeylessHall$Booking")) :: ([.fieldLink RX4 240 "KeylessHall" "bookingCount" "I", .fieldLink RX4 23 "KeylessHall" "bookings" "[LKeylessHall$Booking;", .fieldLink RX4 298 "KeylessHall$Booking" "place" "LKeylessHall$Room;", .fieldLink RX4 252 "KeylessHall$Booking" "how" "I", .fieldLink RX4 299 "KeylessHall$Booking" "begin" "I", .fieldLink RX4 231 "KeylessHall" "now" "I"] ++ wsX40 ++ wsX00)
def wsX4_bookingDistance : List Cond := .code yX4_bookingDistance cX4_bookingDistance 1 (some .int) :: ([.fieldLink RX4 280 "KeylessHall$Room" "gap" "I"] ++ wsX20)
def wsX4_isKeptForBooking : List Cond := .code yX4_isKeptForBooking cX4_isKeptForBooking 4 (some .boolean) :: ([.fieldLink RX4 240 "KeylessHall" "bookingCount" "I", .fieldLink RX4 23 "KeylessHall" "bookings" "[LKeylessHall$Booking;", .fieldLink RX4 298 "KeylessHall$Booking" "place" "LKeylessHall$Room;", .fieldLink RX4 252 "KeylessHall$Booking" "how" "I", .fieldLink RX4 299 "KeylessHall$Booking" "begin" "I", .fieldLink RX4 231 "KeylessHall" "now" "I", .methodLink RX4 348 yX4_bookingDistance, .static yX4_bookingDistance, .initialized RX4, .code yX4_bookingDistance cX4_bookingDistance 1 (some .int), .fieldLink RX4 280 "KeylessHall$Room" "gap" "I"] ++ wsX40 ++ wsX00 ++ wsX20)
def wsX4_leaveIfOut : List Cond := .code yX4_leaveIfOut cX4_leaveIfOut 1 none :: ([.fieldLink RX4 166 "KeylessHall$Group" "held" "I", .methodLink RX4 123 yX4_has, .static yX4_has, .initialized RX4, .code yX4_has cX4_has 2 (some .boolean), .methodLink RX4 201 yX4_leave, .static yX4_leave, .code yX4_leave cX4_leave 3 none, .fieldLink RX4 155 "KeylessHall$Group" "place" "LKeylessHall$Room;", .fieldLink RX4 161 "KeylessHall$Group" "how" "I", .fieldLink RX4 77 "KeylessHall$Room" "how" "I", .fieldLink RX4 273 "KeylessHall$Room" "players" "LKeylessHall$Group;", .fieldLink RX4 174 "KeylessHall$Group" "solved" "I", .fieldLink RX4 228 "KeylessHall$Room" "toReset" "I"] ++ wsX10 ++ wsX20)
def wsX4_letIn_r1 : List Cond := [Cond.fieldLink RX4 142 "KeylessHall" "groupCount" "I", Cond.fieldLink RX4 212 "KeylessHall$Room" "forgotten" "I", Cond.classLink RX4 15 RX1, Cond.instantiable RX1 9, Cond.initialized RX1, Cond.fieldLink RX4 231 "KeylessHall" "now" "I", Cond.fieldLink RX4 120 "KeylessHall$Room" "things" "I", Cond.fieldLink RX4 17 "KeylessHall" "groups" "[LKeylessHall$Group;", Cond.fieldLink RX4 77 "KeylessHall$Room" "how" "I", Cond.fieldLink RX4 273 "KeylessHall$Room" "players" "LKeylessHall$Group;", Cond.fieldLink RX4 252 "KeylessHall$Booking" "how" "I", Cond.fieldLink RX4 302 "KeylessHall$Booking" "groupNumber" "I", Cond.methodLink RX4 315 yX2_givenBy, Cond.instanceMethod yX2_givenBy, Cond.selects RX2 yX2_givenBy yX2_givenBy, Cond.initialized RX2, Cond.code yX2_givenBy cX2_givenBy 4 (some .int), Cond.fieldLink RX2 37 "KeylessHall$Room" "puzzleCount" "I", Cond.fieldLink RX2 15 "KeylessHall$Room" "gives" "[I", Cond.static yX4_has, Cond.initialized RX4, Cond.code yX4_has cX4_has 2 (some .boolean), Cond.methodLink RX4 330 yX1_init, Cond.instanceMethod yX1_init]
def wsX4_letIn_r2 : List Cond := [Cond.code yX1_init cX1_init 6 none, Cond.methodLink RX1 3 objectInit, Cond.instanceMethod objectInit, Cond.code objectInit ⟨#[0xb1]⟩ 1 none, Cond.arrayClass .int, Cond.fieldLink RX1 9 "KeylessHall$Group" "hintsFor" "[I", Cond.fieldLink RX1 15 "KeylessHall$Group" "how" "I", Cond.fieldLink RX1 19 "KeylessHall$Group" "number" "I", Cond.fieldLink RX1 22 "KeylessHall$Group" "place" "LKeylessHall$Room;", Cond.fieldLink RX1 26 "KeylessHall$Group" "arrival" "I", Cond.fieldLink RX1 29 "KeylessHall$Group" "solved" "I", Cond.fieldLink RX1 32 "KeylessHall$Group" "held" "I", Cond.methodLink RX4 180 yX4_leaveIfOut, Cond.static yX4_leaveIfOut, Cond.code yX4_leaveIfOut cX4_leaveIfOut 1 none, Cond.fieldLink RX4 166 "KeylessHall$Group" "held" "I", Cond.methodLink RX4 123 yX4_has, Cond.methodLink RX4 201 yX4_leave, Cond.static yX4_leave, Cond.code yX4_leave cX4_leave 3 none, Cond.fieldLink RX4 155 "KeylessHall$Group" "place" "LKeylessHall$Room;", Cond.fieldLink RX4 161 "KeylessHall$Group" "how" "I", Cond.fieldLink RX4 174 "KeylessHall$Group" "solved" "I", Cond.fieldLink RX4 228 "KeylessHall$Room" "toReset" "I"]
def wsX4_letIn : List Cond := .code yX4_letIn cX4_letIn 6 (some .int) :: ((wsX4_letIn_r1 ++ wsX4_letIn_r2) ++ wsX40 ++ wsX20 ++ wsX10 ++ wsX00)
def wsX4_come_r1 : List Cond := [Cond.classLink RX4 53 "java/lang/IllegalStateException", Cond.initialized "java/lang/IllegalStateException", Cond.fieldLink RX4 77 "KeylessHall$Room" "how" "I", Cond.fieldLink RX4 142 "KeylessHall" "groupCount" "I", Cond.methodLink RX4 61 yX4_roomNumbered, Cond.instanceMethod yX4_roomNumbered, Cond.selects RX4 yX4_roomNumbered yX4_roomNumbered, Cond.initialized RX4, Cond.code yX4_roomNumbered cX4_roomNumbered 2 (some (.object "KeylessHall$Room")), Cond.classLink RX4 68 "java/lang/IndexOutOfBoundsException", Cond.initialized "java/lang/IndexOutOfBoundsException", Cond.fieldLink RX4 49 "KeylessHall" "roomCount" "I", Cond.fieldLink RX4 11 "KeylessHall" "rooms" "[LKeylessHall$Room;", Cond.methodLink RX4 112 yX4_hasExit, Cond.instanceMethod yX4_hasExit, Cond.selects RX4 yX4_hasExit yX4_hasExit, Cond.code yX4_hasExit cX4_hasExit 2 (some .boolean), Cond.fieldLink RX4 80 "KeylessHall$Room" "puzzleCount" "I", Cond.fieldLink RX4 120 "KeylessHall$Room" "things" "I", Cond.fieldLink RX4 91 "KeylessHall" "brokenProps" "I", Cond.methodLink RX4 105 yX2_working, Cond.instanceMethod yX2_working, Cond.selects RX2 yX2_working yX2_working, Cond.initialized RX2]
def wsX4_come_r2 : List Cond := [Cond.code yX2_working cX2_working 4 (some .int), Cond.fieldLink RX2 37 "KeylessHall$Room" "puzzleCount" "I", Cond.fieldLink RX2 18 "KeylessHall$Room" "props" "[I", Cond.static yX4_has, Cond.code yX4_has cX4_has 2 (some .boolean), Cond.static yX4_with, Cond.code yX4_with cX4_with 2 (some .int), Cond.methodLink RX4 109 yX2_reach, Cond.instanceMethod yX2_reach, Cond.selects RX2 yX2_reach yX2_reach, Cond.code yX2_reach cX2_reach 6 (some .int), Cond.fieldLink RX2 15 "KeylessHall$Room" "gives" "[I", Cond.methodLink RX2 51 yX2_isSolvable, Cond.instanceMethod yX2_isSolvable, Cond.selects RX2 yX2_isSolvable yX2_isSolvable, Cond.code yX2_isSolvable cX2_isSolvable 3 (some .boolean), Cond.fieldLink RX2 9 "KeylessHall$Room" "needs" "[I", Cond.static yX4_isWithin, Cond.code yX4_isWithin cX4_isWithin 2 (some .boolean), Cond.methodLink RX4 123 yX4_has, Cond.methodLink RX4 133 yX4_bookingDue, Cond.instanceMethod yX4_bookingDue, Cond.selects RX4 yX4_bookingDue yX4_bookingDue, Cond.code yX4_bookingDue cX4_bookingDue 4 (some (.object "KeylessHall$Booking"))]
def wsX4_come_r3 : List Cond := [Cond.fieldLink RX4 240 "KeylessHall" "bookingCount" "I", Cond.fieldLink RX4 23 "KeylessHall" "bookings" "[LKeylessHall$Booking;", Cond.fieldLink RX4 298 "KeylessHall$Booking" "place" "LKeylessHall$Room;", Cond.fieldLink RX4 252 "KeylessHall$Booking" "how" "I", Cond.fieldLink RX4 299 "KeylessHall$Booking" "begin" "I", Cond.fieldLink RX4 231 "KeylessHall" "now" "I", Cond.methodLink RX4 137 yX4_isKeptForBooking, Cond.instanceMethod yX4_isKeptForBooking, Cond.selects RX4 yX4_isKeptForBooking yX4_isKeptForBooking, Cond.code yX4_isKeptForBooking cX4_isKeptForBooking 4 (some .boolean), Cond.methodLink RX4 348 yX4_bookingDistance, Cond.static yX4_bookingDistance, Cond.code yX4_bookingDistance cX4_bookingDistance 1 (some .int), Cond.fieldLink RX4 280 "KeylessHall$Room" "gap" "I", Cond.methodLink RX4 147 yX4_letIn, Cond.instanceMethod yX4_letIn, Cond.selects RX4 yX4_letIn yX4_letIn, Cond.code yX4_letIn cX4_letIn 6 (some .int), Cond.fieldLink RX4 212 "KeylessHall$Room" "forgotten" "I", Cond.classLink RX4 15 RX1, Cond.instantiable RX1 9, Cond.initialized RX1, Cond.fieldLink RX4 17 "KeylessHall" "groups" "[LKeylessHall$Group;", Cond.fieldLink RX4 273 "KeylessHall$Room" "players" "LKeylessHall$Group;"]
def wsX4_come_r4 : List Cond := [Cond.fieldLink RX4 302 "KeylessHall$Booking" "groupNumber" "I", Cond.methodLink RX4 315 yX2_givenBy, Cond.instanceMethod yX2_givenBy, Cond.selects RX2 yX2_givenBy yX2_givenBy, Cond.code yX2_givenBy cX2_givenBy 4 (some .int), Cond.methodLink RX4 330 yX1_init, Cond.instanceMethod yX1_init, Cond.code yX1_init cX1_init 6 none, Cond.methodLink RX1 3 objectInit, Cond.instanceMethod objectInit, Cond.code objectInit ⟨#[0xb1]⟩ 1 none, Cond.arrayClass .int, Cond.fieldLink RX1 9 "KeylessHall$Group" "hintsFor" "[I", Cond.fieldLink RX1 15 "KeylessHall$Group" "how" "I", Cond.fieldLink RX1 19 "KeylessHall$Group" "number" "I", Cond.fieldLink RX1 22 "KeylessHall$Group" "place" "LKeylessHall$Room;", Cond.fieldLink RX1 26 "KeylessHall$Group" "arrival" "I", Cond.fieldLink RX1 29 "KeylessHall$Group" "solved" "I", Cond.fieldLink RX1 32 "KeylessHall$Group" "held" "I", Cond.methodLink RX4 180 yX4_leaveIfOut, Cond.static yX4_leaveIfOut, Cond.code yX4_leaveIfOut cX4_leaveIfOut 1 none, Cond.fieldLink RX4 166 "KeylessHall$Group" "held" "I", Cond.methodLink RX4 201 yX4_leave]
def wsX4_come_r5 : List Cond := [Cond.static yX4_leave, Cond.code yX4_leave cX4_leave 3 none, Cond.fieldLink RX4 155 "KeylessHall$Group" "place" "LKeylessHall$Room;", Cond.fieldLink RX4 161 "KeylessHall$Group" "how" "I", Cond.fieldLink RX4 174 "KeylessHall$Group" "solved" "I", Cond.fieldLink RX4 228 "KeylessHall$Room" "toReset" "I"]
def wsX4_come : List Cond := .code yX4_come cX4_come 4 (some .int) :: ((wsX4_come_r1 ++ (wsX4_come_r2 ++ (wsX4_come_r3 ++ (wsX4_come_r4 ++ wsX4_come_r5)))) ++ wsX20 ++ wsX40 ++ wsX00 ++ wsX10 ++ (vx_atS RX4 57 "java/lang/IllegalStateException" ["java/lang/RuntimeException", "java/lang/Exception"]).filter goodWord ++ (vx_atS RX4 72 "java/lang/IndexOutOfBoundsException" ["java/lang/RuntimeException", "java/lang/Exception"]).filter goodWord)
def wsX4_groupNumbered : List Cond := .code yX4_groupNumbered cX4_groupNumbered 2 (some (.object "KeylessHall$Group")) :: ([.classLink RX4 68 "java/lang/IndexOutOfBoundsException", .initialized "java/lang/IndexOutOfBoundsException", .fieldLink RX4 142 "KeylessHall" "groupCount" "I", .fieldLink RX4 17 "KeylessHall" "groups" "[LKeylessHall$Group;"] ++ wsX40 ++ (vx_atS RX4 72 "java/lang/IndexOutOfBoundsException" ["java/lang/RuntimeException", "java/lang/Exception"]).filter goodWord)
def wsX4_openTo : List Cond := .code yX4_openTo cX4_openTo 2 (some .int) :: ([.fieldLink RX4 155 "KeylessHall$Group" "place" "LKeylessHall$Room;", .fieldLink RX4 91 "KeylessHall" "brokenProps" "I", .fieldLink RX4 174 "KeylessHall$Group" "solved" "I", .methodLink RX4 105 yX2_working, .instanceMethod yX2_working, .selects RX2 yX2_working yX2_working, .initialized RX2, .code yX2_working cX2_working 4 (some .int), .fieldLink RX2 37 "KeylessHall$Room" "puzzleCount" "I", .fieldLink RX2 18 "KeylessHall$Room" "props" "[I", .static yX4_has, .initialized RX4, .code yX4_has cX4_has 2 (some .boolean), .static yX4_with, .code yX4_with cX4_with 2 (some .int)] ++ wsX10 ++ wsX40 ++ wsX20)
def wsX4_solve_r1 : List Cond := [Cond.classLink RX4 68 "java/lang/IndexOutOfBoundsException", Cond.initialized "java/lang/IndexOutOfBoundsException", Cond.classLink RX4 53 "java/lang/IllegalStateException", Cond.initialized "java/lang/IllegalStateException", Cond.fieldLink RX4 155 "KeylessHall$Group" "place" "LKeylessHall$Room;", Cond.fieldLink RX4 80 "KeylessHall$Room" "puzzleCount" "I", Cond.fieldLink RX4 161 "KeylessHall$Group" "how" "I", Cond.fieldLink RX4 166 "KeylessHall$Group" "held" "I", Cond.fieldLink RX4 174 "KeylessHall$Group" "solved" "I", Cond.fieldLink RX4 177 "KeylessHall$Room" "gives" "[I", Cond.methodLink RX4 151 yX4_groupNumbered, Cond.instanceMethod yX4_groupNumbered, Cond.selects RX4 yX4_groupNumbered yX4_groupNumbered, Cond.initialized RX4, Cond.code yX4_groupNumbered cX4_groupNumbered 2 (some (.object "KeylessHall$Group")), Cond.fieldLink RX4 142 "KeylessHall" "groupCount" "I", Cond.fieldLink RX4 17 "KeylessHall" "groups" "[LKeylessHall$Group;", Cond.methodLink RX4 162 yX4_openTo, Cond.instanceMethod yX4_openTo, Cond.selects RX4 yX4_openTo yX4_openTo, Cond.code yX4_openTo cX4_openTo 2 (some .int), Cond.fieldLink RX4 91 "KeylessHall" "brokenProps" "I", Cond.methodLink RX4 105 yX2_working, Cond.instanceMethod yX2_working]
def wsX4_solve_r2 : List Cond := [Cond.selects RX2 yX2_working yX2_working, Cond.initialized RX2, Cond.code yX2_working cX2_working 4 (some .int), Cond.fieldLink RX2 37 "KeylessHall$Room" "puzzleCount" "I", Cond.fieldLink RX2 18 "KeylessHall$Room" "props" "[I", Cond.static yX4_has, Cond.code yX4_has cX4_has 2 (some .boolean), Cond.static yX4_with, Cond.code yX4_with cX4_with 2 (some .int), Cond.methodLink RX4 123 yX4_has, Cond.methodLink RX4 169 yX2_isSolvable, Cond.instanceMethod yX2_isSolvable, Cond.selects RX2 yX2_isSolvable yX2_isSolvable, Cond.code yX2_isSolvable cX2_isSolvable 3 (some .boolean), Cond.fieldLink RX2 9 "KeylessHall$Room" "needs" "[I", Cond.static yX4_isWithin, Cond.code yX4_isWithin cX4_isWithin 2 (some .boolean), Cond.methodLink RX4 94 yX4_with, Cond.methodLink RX4 180 yX4_leaveIfOut, Cond.static yX4_leaveIfOut, Cond.code yX4_leaveIfOut cX4_leaveIfOut 1 none, Cond.methodLink RX4 201 yX4_leave, Cond.static yX4_leave, Cond.code yX4_leave cX4_leave 3 none]
def wsX4_solve_r3 : List Cond := [Cond.fieldLink RX4 77 "KeylessHall$Room" "how" "I", Cond.fieldLink RX4 273 "KeylessHall$Room" "players" "LKeylessHall$Group;", Cond.fieldLink RX4 228 "KeylessHall$Room" "toReset" "I"]
def wsX4_solve : List Cond := .code yX4_solve cX4_solve 5 (some .int) :: ((wsX4_solve_r1 ++ (wsX4_solve_r2 ++ wsX4_solve_r3)) ++ wsX10 ++ wsX20 ++ wsX40 ++ (vx_atS RX4 72 "java/lang/IndexOutOfBoundsException" ["java/lang/RuntimeException", "java/lang/Exception"]).filter goodWord ++ (vx_atS RX4 57 "java/lang/IllegalStateException" ["java/lang/RuntimeException", "java/lang/Exception"]).filter goodWord)
def wsJ6_bitCount_0f7a4 : List Cond := .code yJ6_bitCount_0f7a4 cJ6_bitCount_0f7a4 1 (some .int) :: ([.constant RJ6 265 (1431655765), .constant RJ6 266 (858993459), .constant RJ6 267 (252645135)])
def wsX4_wayOf_r1 : List Cond := [Cond.fieldLink RX4 155 "KeylessHall$Group" "place" "LKeylessHall$Room;", Cond.fieldLink RX4 166 "KeylessHall$Group" "held" "I", Cond.methodLink RX4 162 yX4_openTo, Cond.instanceMethod yX4_openTo, Cond.selects RX4 yX4_openTo yX4_openTo, Cond.initialized RX4, Cond.code yX4_openTo cX4_openTo 2 (some .int), Cond.fieldLink RX4 91 "KeylessHall" "brokenProps" "I", Cond.fieldLink RX4 174 "KeylessHall$Group" "solved" "I", Cond.methodLink RX4 105 yX2_working, Cond.instanceMethod yX2_working, Cond.selects RX2 yX2_working yX2_working, Cond.initialized RX2, Cond.code yX2_working cX2_working 4 (some .int), Cond.fieldLink RX2 37 "KeylessHall$Room" "puzzleCount" "I", Cond.fieldLink RX2 18 "KeylessHall$Room" "props" "[I", Cond.static yX4_has, Cond.code yX4_has cX4_has 2 (some .boolean), Cond.static yX4_with, Cond.code yX4_with cX4_with 2 (some .int), Cond.methodLink RX4 322 yJ6_bitCount_0f7a4, Cond.static yJ6_bitCount_0f7a4, Cond.initialized RJ6, Cond.code yJ6_bitCount_0f7a4 cJ6_bitCount_0f7a4 1 (some .int)]
def wsX4_wayOf_r2 : List Cond := [Cond.constant RJ6 265 (1431655765), Cond.constant RJ6 266 (858993459), Cond.constant RJ6 267 (252645135), Cond.methodLink RX4 327 yX4_isWithin, Cond.static yX4_isWithin, Cond.code yX4_isWithin cX4_isWithin 2 (some .boolean), Cond.methodLink RX4 109 yX2_reach, Cond.instanceMethod yX2_reach, Cond.selects RX2 yX2_reach yX2_reach, Cond.code yX2_reach cX2_reach 6 (some .int), Cond.fieldLink RX2 15 "KeylessHall$Room" "gives" "[I", Cond.methodLink RX2 51 yX2_isSolvable, Cond.instanceMethod yX2_isSolvable, Cond.selects RX2 yX2_isSolvable yX2_isSolvable, Cond.code yX2_isSolvable cX2_isSolvable 3 (some .boolean), Cond.fieldLink RX2 9 "KeylessHall$Room" "needs" "[I", Cond.methodLink RX4 123 yX4_has]
def wsX4_wayOf : List Cond := .code yX4_wayOf cX4_wayOf 8 (some .int) :: ((wsX4_wayOf_r1 ++ wsX4_wayOf_r2) ++ wsX10 ++ wsX40 ++ wsX20)
def wsX4_leaveIfLate : List Cond := .code yX4_leaveIfLate cX4_leaveIfLate 2 none :: ([.fieldLink RX4 231 "KeylessHall" "now" "I", .methodLink RX4 286 yX1_minutesLeft, .instanceMethod yX1_minutesLeft, .selects RX1 yX1_minutesLeft yX1_minutesLeft, .initialized RX1, .code yX1_minutesLeft cX1_minutesLeft 2 (some .int), .fieldLink RX1 35 "KeylessHall$Group" "hintCost" "I", .fieldLink RX1 26 "KeylessHall$Group" "arrival" "I", .methodLink RX4 201 yX4_leave, .static yX4_leave, .initialized RX4, .code yX4_leave cX4_leave 3 none, .fieldLink RX4 155 "KeylessHall$Group" "place" "LKeylessHall$Room;", .fieldLink RX4 161 "KeylessHall$Group" "how" "I", .fieldLink RX4 77 "KeylessHall$Room" "how" "I", .fieldLink RX4 273 "KeylessHall$Room" "players" "LKeylessHall$Group;", .fieldLink RX4 174 "KeylessHall$Group" "solved" "I", .fieldLink RX4 228 "KeylessHall$Room" "toReset" "I"] ++ wsX40 ++ wsX10 ++ wsX20)
def wsX4_hint_r1 : List Cond := [Cond.classLink RX4 53 "java/lang/IllegalStateException", Cond.initialized "java/lang/IllegalStateException", Cond.fieldLink RX4 161 "KeylessHall$Group" "how" "I", Cond.fieldLink RX4 155 "KeylessHall$Group" "place" "LKeylessHall$Room;", Cond.fieldLink RX4 166 "KeylessHall$Group" "held" "I", Cond.methodLink RX4 151 yX4_groupNumbered, Cond.instanceMethod yX4_groupNumbered, Cond.selects RX4 yX4_groupNumbered yX4_groupNumbered, Cond.initialized RX4, Cond.code yX4_groupNumbered cX4_groupNumbered 2 (some (.object "KeylessHall$Group")), Cond.classLink RX4 68 "java/lang/IndexOutOfBoundsException", Cond.initialized "java/lang/IndexOutOfBoundsException", Cond.fieldLink RX4 142 "KeylessHall" "groupCount" "I", Cond.fieldLink RX4 17 "KeylessHall" "groups" "[LKeylessHall$Group;", Cond.methodLink RX4 186 yX4_wayOf, Cond.instanceMethod yX4_wayOf, Cond.selects RX4 yX4_wayOf yX4_wayOf, Cond.code yX4_wayOf cX4_wayOf 8 (some .int), Cond.methodLink RX4 162 yX4_openTo, Cond.instanceMethod yX4_openTo, Cond.selects RX4 yX4_openTo yX4_openTo, Cond.code yX4_openTo cX4_openTo 2 (some .int), Cond.fieldLink RX4 91 "KeylessHall" "brokenProps" "I", Cond.fieldLink RX4 174 "KeylessHall$Group" "solved" "I"]
def wsX4_hint_r2 : List Cond := [Cond.methodLink RX4 105 yX2_working, Cond.instanceMethod yX2_working, Cond.selects RX2 yX2_working yX2_working, Cond.initialized RX2, Cond.code yX2_working cX2_working 4 (some .int), Cond.fieldLink RX2 37 "KeylessHall$Room" "puzzleCount" "I", Cond.fieldLink RX2 18 "KeylessHall$Room" "props" "[I", Cond.static yX4_has, Cond.code yX4_has cX4_has 2 (some .boolean), Cond.static yX4_with, Cond.code yX4_with cX4_with 2 (some .int), Cond.methodLink RX4 322 yJ6_bitCount_0f7a4, Cond.static yJ6_bitCount_0f7a4, Cond.initialized RJ6, Cond.code yJ6_bitCount_0f7a4 cJ6_bitCount_0f7a4 1 (some .int), Cond.constant RJ6 265 (1431655765), Cond.constant RJ6 266 (858993459), Cond.constant RJ6 267 (252645135), Cond.methodLink RX4 327 yX4_isWithin, Cond.static yX4_isWithin, Cond.code yX4_isWithin cX4_isWithin 2 (some .boolean), Cond.methodLink RX4 109 yX2_reach, Cond.instanceMethod yX2_reach, Cond.selects RX2 yX2_reach yX2_reach]
def wsX4_hint_r3 : List Cond := [Cond.code yX2_reach cX2_reach 6 (some .int), Cond.fieldLink RX2 15 "KeylessHall$Room" "gives" "[I", Cond.methodLink RX2 51 yX2_isSolvable, Cond.instanceMethod yX2_isSolvable, Cond.selects RX2 yX2_isSolvable yX2_isSolvable, Cond.code yX2_isSolvable cX2_isSolvable 3 (some .boolean), Cond.fieldLink RX2 9 "KeylessHall$Room" "needs" "[I", Cond.methodLink RX4 123 yX4_has, Cond.methodLink RX4 189 yX2_lowestSolvable, Cond.instanceMethod yX2_lowestSolvable, Cond.selects RX2 yX2_lowestSolvable yX2_lowestSolvable, Cond.code yX2_lowestSolvable cX2_lowestSolvable 4 (some .int), Cond.methodLink RX4 194 yX1_takeHint, Cond.instanceMethod yX1_takeHint, Cond.selects RX1 yX1_takeHint yX1_takeHint, Cond.initialized RX1, Cond.code yX1_takeHint cX1_takeHint 2 none, Cond.fieldLink RX1 35 "KeylessHall$Group" "hintCost" "I", Cond.fieldLink RX1 9 "KeylessHall$Group" "hintsFor" "[I", Cond.fieldLink RX1 38 "KeylessHall$Group" "hintCount" "I", Cond.methodLink RX4 198 yX4_leaveIfLate, Cond.instanceMethod yX4_leaveIfLate, Cond.selects RX4 yX4_leaveIfLate yX4_leaveIfLate, Cond.code yX4_leaveIfLate cX4_leaveIfLate 2 none]
def wsX4_hint_r4 : List Cond := [Cond.fieldLink RX4 231 "KeylessHall" "now" "I", Cond.methodLink RX4 286 yX1_minutesLeft, Cond.instanceMethod yX1_minutesLeft, Cond.selects RX1 yX1_minutesLeft yX1_minutesLeft, Cond.code yX1_minutesLeft cX1_minutesLeft 2 (some .int), Cond.fieldLink RX1 26 "KeylessHall$Group" "arrival" "I", Cond.methodLink RX4 201 yX4_leave, Cond.static yX4_leave, Cond.code yX4_leave cX4_leave 3 none, Cond.fieldLink RX4 77 "KeylessHall$Room" "how" "I", Cond.fieldLink RX4 273 "KeylessHall$Room" "players" "LKeylessHall$Group;", Cond.fieldLink RX4 228 "KeylessHall$Room" "toReset" "I"]
def wsX4_hint : List Cond := .code yX4_hint cX4_hint 4 (some .int) :: ((wsX4_hint_r1 ++ (wsX4_hint_r2 ++ (wsX4_hint_r3 ++ wsX4_hint_r4))) ++ wsX10 ++ wsX40 ++ wsX20 ++ (vx_atS RX4 57 "java/lang/IllegalStateException" ["java/lang/RuntimeException", "java/lang/Exception"]).filter goodWord ++ (vx_atS RX4 72 "java/lang/IndexOutOfBoundsException" ["java/lang/RuntimeException", "java/lang/Exception"]).filter goodWord)
def wsX4_giveUp : List Cond := .code yX4_giveUp cX4_giveUp 3 none :: ([.classLink RX4 53 "java/lang/IllegalStateException", .initialized "java/lang/IllegalStateException", .fieldLink RX4 161 "KeylessHall$Group" "how" "I", .methodLink RX4 151 yX4_groupNumbered, .instanceMethod yX4_groupNumbered, .selects RX4 yX4_groupNumbered yX4_groupNumbered, .initialized RX4, .code yX4_groupNumbered cX4_groupNumbered 2 (some (.object "KeylessHall$Group")), .classLink RX4 68 "java/lang/IndexOutOfBoundsException", .initialized "java/lang/IndexOutOfBoundsException", .fieldLink RX4 142 "KeylessHall" "groupCount" "I", .fieldLink RX4 17 "KeylessHall" "groups" "[LKeylessHall$Group;", .methodLink RX4 201 yX4_leave, .static yX4_leave, .code yX4_leave cX4_leave 3 none, .fieldLink RX4 155 "KeylessHall$Group" "place" "LKeylessHall$Room;", .fieldLink RX4 77 "KeylessHall$Room" "how" "I", .fieldLink RX4 273 "KeylessHall$Room" "players" "LKeylessHall$Group;", .fieldLink RX4 174 "KeylessHall$Group" "solved" "I", .fieldLink RX4 228 "KeylessHall$Room" "toReset" "I"] ++ wsX10 ++ wsX40 ++ wsX20 ++ (vx_atS RX4 57 "java/lang/IllegalStateException" ["java/lang/RuntimeException", "java/lang/Exception"]).filter goodWord ++ (vx_atS RX4 72 "java/lang/IndexOutOfBoundsException" ["java/lang/RuntimeException", "java/lang/Exception"]).filter goodWord)
def wsX4_workerNumbered : List Cond := .code yX4_workerNumbered cX4_workerNumbered 2 (some (.object "KeylessHall$Worker")) :: ([.classLink RX4 68 "java/lang/IndexOutOfBoundsException", .initialized "java/lang/IndexOutOfBoundsException", .fieldLink RX4 29 "KeylessHall" "workers" "[LKeylessHall$Worker;"] ++ wsX40 ++ (vx_atS RX4 72 "java/lang/IndexOutOfBoundsException" ["java/lang/RuntimeException", "java/lang/Exception"]).filter goodWord)
def wsX4_finishReset : List Cond := .code yX4_finishReset cX4_finishReset 2 none :: ([.fieldLink RX4 77 "KeylessHall$Room" "how" "I", .methodLink RX4 345 yX3_stop, .instanceMethod yX3_stop, .selects RX3 yX3_stop yX3_stop, .initialized RX3, .code yX3_stop cX3_stop 1 none, .fieldLink RX3 18 "KeylessHall$Worker" "place" "LKeylessHall$Room;", .fieldLink RX3 9 "KeylessHall$Worker" "puzzle" "I", .fieldLink RX3 15 "KeylessHall$Worker" "minutesLeft" "I"] ++ wsX20 ++ wsX30)
def wsX4_beginNext_r1 : List Cond := [Cond.fieldLink RX4 228 "KeylessHall$Room" "toReset" "I", Cond.fieldLink RX4 215 "KeylessHall$Room" "isToBeChecked" "Z", Cond.fieldLink RX4 212 "KeylessHall$Room" "forgotten" "I", Cond.fieldLink RX4 336 "KeylessHall$Room" "minutes" "[I", Cond.methodLink RX4 333 yX2_nextToReset, Cond.instanceMethod yX2_nextToReset, Cond.selects RX2 yX2_nextToReset yX2_nextToReset, Cond.initialized RX2, Cond.code yX2_nextToReset cX2_nextToReset 4 (some .int), Cond.fieldLink RX2 37 "KeylessHall$Room" "puzzleCount" "I", Cond.fieldLink RX2 54 "KeylessHall$Room" "toReset" "I", Cond.static yX4_has, Cond.initialized RX4, Cond.code yX4_has cX4_has 2 (some .boolean), Cond.methodLink RX2 57 yX2_isNeededByOther, Cond.instanceMethod yX2_isNeededByOther, Cond.selects RX2 yX2_isNeededByOther yX2_isNeededByOther, Cond.code yX2_isNeededByOther cX2_isNeededByOther 4 (some .boolean), Cond.fieldLink RX2 15 "KeylessHall$Room" "gives" "[I", Cond.fieldLink RX2 34 "KeylessHall$Room" "things" "I", Cond.fieldLink RX2 9 "KeylessHall$Room" "needs" "[I", Cond.methodLink RX4 339 yX3_begin, Cond.instanceMethod yX3_begin, Cond.selects RX3 yX3_begin yX3_begin]
def wsX4_beginNext_r2 : List Cond := [Cond.initialized RX3, Cond.code yX3_begin cX3_begin 4 none, Cond.fieldLink RX3 18 "KeylessHall$Worker" "place" "LKeylessHall$Room;", Cond.fieldLink RX3 9 "KeylessHall$Worker" "puzzle" "I", Cond.fieldLink RX3 15 "KeylessHall$Worker" "minutesLeft" "I", Cond.methodLink RX4 342 yX4_finishReset, Cond.static yX4_finishReset, Cond.code yX4_finishReset cX4_finishReset 2 none, Cond.fieldLink RX4 77 "KeylessHall$Room" "how" "I", Cond.methodLink RX4 345 yX3_stop, Cond.instanceMethod yX3_stop, Cond.selects RX3 yX3_stop yX3_stop, Cond.code yX3_stop cX3_stop 1 none]
def wsX4_beginNext : List Cond := .code yX4_beginNext cX4_beginNext 3 none :: ((wsX4_beginNext_r1 ++ wsX4_beginNext_r2) ++ wsX20 ++ wsX30)
def wsX4_reset_r1 : List Cond := [Cond.classLink RX4 53 "java/lang/IllegalStateException", Cond.initialized "java/lang/IllegalStateException", Cond.fieldLink RX4 77 "KeylessHall$Room" "how" "I", Cond.fieldLink RX4 209 "KeylessHall$Worker" "place" "LKeylessHall$Room;", Cond.fieldLink RX4 212 "KeylessHall$Room" "forgotten" "I", Cond.fieldLink RX4 215 "KeylessHall$Room" "isToBeChecked" "Z", Cond.methodLink RX4 61 yX4_roomNumbered, Cond.instanceMethod yX4_roomNumbered, Cond.selects RX4 yX4_roomNumbered yX4_roomNumbered, Cond.initialized RX4, Cond.code yX4_roomNumbered cX4_roomNumbered 2 (some (.object "KeylessHall$Room")), Cond.classLink RX4 68 "java/lang/IndexOutOfBoundsException", Cond.initialized "java/lang/IndexOutOfBoundsException", Cond.fieldLink RX4 49 "KeylessHall" "roomCount" "I", Cond.fieldLink RX4 11 "KeylessHall" "rooms" "[LKeylessHall$Room;", Cond.methodLink RX4 205 yX4_workerNumbered, Cond.instanceMethod yX4_workerNumbered, Cond.selects RX4 yX4_workerNumbered yX4_workerNumbered, Cond.code yX4_workerNumbered cX4_workerNumbered 2 (some (.object "KeylessHall$Worker")), Cond.fieldLink RX4 29 "KeylessHall" "workers" "[LKeylessHall$Worker;", Cond.methodLink RX4 219 yX4_beginNext, Cond.static yX4_beginNext, Cond.code yX4_beginNext cX4_beginNext 3 none, Cond.fieldLink RX4 228 "KeylessHall$Room" "toReset" "I"]
def wsX4_reset_r2 : List Cond := [Cond.fieldLink RX4 336 "KeylessHall$Room" "minutes" "[I", Cond.methodLink RX4 333 yX2_nextToReset, Cond.instanceMethod yX2_nextToReset, Cond.selects RX2 yX2_nextToReset yX2_nextToReset, Cond.initialized RX2, Cond.code yX2_nextToReset cX2_nextToReset 4 (some .int), Cond.fieldLink RX2 37 "KeylessHall$Room" "puzzleCount" "I", Cond.fieldLink RX2 54 "KeylessHall$Room" "toReset" "I", Cond.static yX4_has, Cond.code yX4_has cX4_has 2 (some .boolean), Cond.methodLink RX2 57 yX2_isNeededByOther, Cond.instanceMethod yX2_isNeededByOther, Cond.selects RX2 yX2_isNeededByOther yX2_isNeededByOther, Cond.code yX2_isNeededByOther cX2_isNeededByOther 4 (some .boolean), Cond.fieldLink RX2 15 "KeylessHall$Room" "gives" "[I", Cond.fieldLink RX2 34 "KeylessHall$Room" "things" "I", Cond.fieldLink RX2 9 "KeylessHall$Room" "needs" "[I", Cond.methodLink RX4 339 yX3_begin, Cond.instanceMethod yX3_begin, Cond.selects RX3 yX3_begin yX3_begin, Cond.initialized RX3, Cond.code yX3_begin cX3_begin 4 none, Cond.fieldLink RX3 18 "KeylessHall$Worker" "place" "LKeylessHall$Room;", Cond.fieldLink RX3 9 "KeylessHall$Worker" "puzzle" "I"]
def wsX4_reset_r3 : List Cond := [Cond.fieldLink RX3 15 "KeylessHall$Worker" "minutesLeft" "I", Cond.methodLink RX4 342 yX4_finishReset, Cond.static yX4_finishReset, Cond.code yX4_finishReset cX4_finishReset 2 none, Cond.methodLink RX4 345 yX3_stop, Cond.instanceMethod yX3_stop, Cond.selects RX3 yX3_stop yX3_stop, Cond.code yX3_stop cX3_stop 1 none]
def wsX4_reset : List Cond := .code yX4_reset cX4_reset 6 none :: ((wsX4_reset_r1 ++ (wsX4_reset_r2 ++ wsX4_reset_r3)) ++ wsX20 ++ wsX30 ++ wsX40 ++ (vx_atS RX4 57 "java/lang/IllegalStateException" ["java/lang/RuntimeException", "java/lang/Exception"]).filter goodWord ++ (vx_atS RX4 72 "java/lang/IndexOutOfBoundsException" ["java/lang/RuntimeException", "java/lang/Exception"]).filter goodWord)
def wsX4_forget_r1 : List Cond := [Cond.classLink RX4 53 "java/lang/IllegalStateException", Cond.initialized "java/lang/IllegalStateException", Cond.fieldLink RX4 209 "KeylessHall$Worker" "place" "LKeylessHall$Room;", Cond.fieldLink RX4 223 "KeylessHall$Worker" "puzzle" "I", Cond.fieldLink RX4 212 "KeylessHall$Room" "forgotten" "I", Cond.fieldLink RX4 228 "KeylessHall$Room" "toReset" "I", Cond.methodLink RX4 205 yX4_workerNumbered, Cond.instanceMethod yX4_workerNumbered, Cond.selects RX4 yX4_workerNumbered yX4_workerNumbered, Cond.initialized RX4, Cond.code yX4_workerNumbered cX4_workerNumbered 2 (some (.object "KeylessHall$Worker")), Cond.classLink RX4 68 "java/lang/IndexOutOfBoundsException", Cond.initialized "java/lang/IndexOutOfBoundsException", Cond.fieldLink RX4 29 "KeylessHall" "workers" "[LKeylessHall$Worker;", Cond.methodLink RX4 94 yX4_with, Cond.static yX4_with, Cond.code yX4_with cX4_with 2 (some .int), Cond.methodLink RX4 102 yX4_without, Cond.static yX4_without, Cond.code yX4_without cX4_without 2 (some .int), Cond.methodLink RX4 219 yX4_beginNext, Cond.static yX4_beginNext, Cond.code yX4_beginNext cX4_beginNext 3 none, Cond.fieldLink RX4 215 "KeylessHall$Room" "isToBeChecked" "Z"]
def wsX4_forget_r2 : List Cond := [Cond.fieldLink RX4 336 "KeylessHall$Room" "minutes" "[I", Cond.methodLink RX4 333 yX2_nextToReset, Cond.instanceMethod yX2_nextToReset, Cond.selects RX2 yX2_nextToReset yX2_nextToReset, Cond.initialized RX2, Cond.code yX2_nextToReset cX2_nextToReset 4 (some .int), Cond.fieldLink RX2 37 "KeylessHall$Room" "puzzleCount" "I", Cond.fieldLink RX2 54 "KeylessHall$Room" "toReset" "I", Cond.static yX4_has, Cond.code yX4_has cX4_has 2 (some .boolean), Cond.methodLink RX2 57 yX2_isNeededByOther, Cond.instanceMethod yX2_isNeededByOther, Cond.selects RX2 yX2_isNeededByOther yX2_isNeededByOther, Cond.code yX2_isNeededByOther cX2_isNeededByOther 4 (some .boolean), Cond.fieldLink RX2 15 "KeylessHall$Room" "gives" "[I", Cond.fieldLink RX2 34 "KeylessHall$Room" "things" "I", Cond.fieldLink RX2 9 "KeylessHall$Room" "needs" "[I", Cond.methodLink RX4 339 yX3_begin, Cond.instanceMethod yX3_begin, Cond.selects RX3 yX3_begin yX3_begin, Cond.initialized RX3, Cond.code yX3_begin cX3_begin 4 none, Cond.fieldLink RX3 18 "KeylessHall$Worker" "place" "LKeylessHall$Room;", Cond.fieldLink RX3 9 "KeylessHall$Worker" "puzzle" "I"]
def wsX4_forget_r3 : List Cond := [Cond.fieldLink RX3 15 "KeylessHall$Worker" "minutesLeft" "I", Cond.methodLink RX4 342 yX4_finishReset, Cond.static yX4_finishReset, Cond.code yX4_finishReset cX4_finishReset 2 none, Cond.fieldLink RX4 77 "KeylessHall$Room" "how" "I", Cond.methodLink RX4 345 yX3_stop, Cond.instanceMethod yX3_stop, Cond.selects RX3 yX3_stop yX3_stop, Cond.code yX3_stop cX3_stop 1 none]
def wsX4_forget : List Cond := .code yX4_forget cX4_forget 5 (some .int) :: ((wsX4_forget_r1 ++ (wsX4_forget_r2 ++ wsX4_forget_r3)) ++ wsX30 ++ wsX20 ++ wsX40 ++ (vx_atS RX4 57 "java/lang/IllegalStateException" ["java/lang/RuntimeException", "java/lang/Exception"]).filter goodWord ++ (vx_atS RX4 72 "java/lang/IndexOutOfBoundsException" ["java/lang/RuntimeException", "java/lang/Exception"]).filter goodWord)
def wsX4_bookingTooNear : List Cond := .code yX4_bookingTooNear cX4_bookingTooNear 5 (some (.object "KeylessHall$Booking")) :: ([.fieldLink RX4 240 "KeylessHall" "bookingCount" "I", .fieldLink RX4 23 "KeylessHall" "bookings" "[LKeylessHall$Booking;", .fieldLink RX4 298 "KeylessHall$Booking" "place" "LKeylessHall$Room;", .fieldLink RX4 252 "KeylessHall$Booking" "how" "I", .fieldLink RX4 299 "KeylessHall$Booking" "begin" "I", .methodLink RX4 351 Lib.Math.abs.name, .static Lib.Math.abs.name, .initialized "java/lang/Math", .code Lib.Math.abs.name Lib.Math.abs.code 1 (some .int), .methodLink RX4 348 yX4_bookingDistance, .static yX4_bookingDistance, .initialized RX4, .code yX4_bookingDistance cX4_bookingDistance 1 (some .int), .fieldLink RX4 280 "KeylessHall$Room" "gap" "I"] ++ wsX40 ++ wsX00 ++ wsX20)
def wsX4_book_r1 : List Cond := [Cond.classLink RX4 42 "java/lang/IllegalArgumentException", Cond.initialized "java/lang/IllegalArgumentException", Cond.classLink RX4 53 "java/lang/IllegalStateException", Cond.initialized "java/lang/IllegalStateException", Cond.fieldLink RX4 231 "KeylessHall" "now" "I", Cond.fieldLink RX4 240 "KeylessHall" "bookingCount" "I", Cond.fieldLink RX4 23 "KeylessHall" "bookings" "[LKeylessHall$Booking;", Cond.classLink RX4 21 RX0, Cond.instantiable RX0 4, Cond.initialized RX0, Cond.methodLink RX4 61 yX4_roomNumbered, Cond.instanceMethod yX4_roomNumbered, Cond.selects RX4 yX4_roomNumbered yX4_roomNumbered, Cond.initialized RX4, Cond.code yX4_roomNumbered cX4_roomNumbered 2 (some (.object "KeylessHall$Room")), Cond.classLink RX4 68 "java/lang/IndexOutOfBoundsException", Cond.initialized "java/lang/IndexOutOfBoundsException", Cond.fieldLink RX4 49 "KeylessHall" "roomCount" "I", Cond.fieldLink RX4 11 "KeylessHall" "rooms" "[LKeylessHall$Room;", Cond.methodLink RX4 236 yX4_bookingTooNear, Cond.instanceMethod yX4_bookingTooNear, Cond.selects RX4 yX4_bookingTooNear yX4_bookingTooNear, Cond.code yX4_bookingTooNear cX4_bookingTooNear 5 (some (.object "KeylessHall$Booking")), Cond.fieldLink RX4 298 "KeylessHall$Booking" "place" "LKeylessHall$Room;"]
def wsX4_book_r2 : List Cond := [Cond.fieldLink RX4 252 "KeylessHall$Booking" "how" "I", Cond.fieldLink RX4 299 "KeylessHall$Booking" "begin" "I", Cond.methodLink RX4 351 Lib.Math.abs.name, Cond.static Lib.Math.abs.name, Cond.initialized "java/lang/Math", Cond.code Lib.Math.abs.name Lib.Math.abs.code 1 (some .int), Cond.methodLink RX4 348 yX4_bookingDistance, Cond.static yX4_bookingDistance, Cond.code yX4_bookingDistance cX4_bookingDistance 1 (some .int), Cond.fieldLink RX4 280 "KeylessHall$Room" "gap" "I", Cond.methodLink RX4 245 yX0_init, Cond.instanceMethod yX0_init, Cond.code yX0_init cX0_init 3 none, Cond.methodLink RX0 3 objectInit, Cond.instanceMethod objectInit, Cond.code objectInit ⟨#[0xb1]⟩ 1 none, Cond.fieldLink RX0 9 "KeylessHall$Booking" "how" "I", Cond.fieldLink RX0 15 "KeylessHall$Booking" "groupNumber" "I", Cond.fieldLink RX0 18 "KeylessHall$Booking" "place" "LKeylessHall$Room;", Cond.fieldLink RX0 22 "KeylessHall$Booking" "begin" "I"]
def wsX4_book : List Cond := .code yX4_book cX4_book 5 (some .int) :: ((wsX4_book_r1 ++ wsX4_book_r2) ++ wsX40 ++ wsX00 ++ wsX20 ++ (vx_atS RX4 46 "java/lang/IllegalArgumentException" ["java/lang/RuntimeException", "java/lang/Exception"]).filter goodWord ++ (vx_atS RX4 57 "java/lang/IllegalStateException" ["java/lang/RuntimeException", "java/lang/Exception"]).filter goodWord ++ (vx_atS RX4 72 "java/lang/IndexOutOfBoundsException" ["java/lang/RuntimeException", "java/lang/Exception"]).filter goodWord)
def wsX4_bookingNumbered : List Cond := .code yX4_bookingNumbered cX4_bookingNumbered 2 (some (.object "KeylessHall$Booking")) :: ([.classLink RX4 68 "java/lang/IndexOutOfBoundsException", .initialized "java/lang/IndexOutOfBoundsException", .fieldLink RX4 240 "KeylessHall" "bookingCount" "I", .fieldLink RX4 23 "KeylessHall" "bookings" "[LKeylessHall$Booking;"] ++ wsX40 ++ (vx_atS RX4 72 "java/lang/IndexOutOfBoundsException" ["java/lang/RuntimeException", "java/lang/Exception"]).filter goodWord)
def wsX4_cancel : List Cond := .code yX4_cancel cX4_cancel 3 none :: ([.classLink RX4 53 "java/lang/IllegalStateException", .initialized "java/lang/IllegalStateException", .fieldLink RX4 252 "KeylessHall$Booking" "how" "I", .methodLink RX4 248 yX4_bookingNumbered, .instanceMethod yX4_bookingNumbered, .selects RX4 yX4_bookingNumbered yX4_bookingNumbered, .initialized RX4, .code yX4_bookingNumbered cX4_bookingNumbered 2 (some (.object "KeylessHall$Booking")), .classLink RX4 68 "java/lang/IndexOutOfBoundsException", .initialized "java/lang/IndexOutOfBoundsException", .fieldLink RX4 240 "KeylessHall" "bookingCount" "I", .fieldLink RX4 23 "KeylessHall" "bookings" "[LKeylessHall$Booking;"] ++ wsX00 ++ wsX40 ++ (vx_atS RX4 57 "java/lang/IllegalStateException" ["java/lang/RuntimeException", "java/lang/Exception"]).filter goodWord ++ (vx_atS RX4 72 "java/lang/IndexOutOfBoundsException" ["java/lang/RuntimeException", "java/lang/Exception"]).filter goodWord)
def wsX4_firstFree : List Cond := .code yX4_firstFree cX4_firstFree 6 (some .int) :: ([.fieldLink RX4 240 "KeylessHall" "bookingCount" "I", .fieldLink RX4 299 "KeylessHall$Booking" "begin" "I", .methodLink RX4 236 yX4_bookingTooNear, .instanceMethod yX4_bookingTooNear, .selects RX4 yX4_bookingTooNear yX4_bookingTooNear, .initialized RX4, .code yX4_bookingTooNear cX4_bookingTooNear 5 (some (.object "KeylessHall$Booking")), .fieldLink RX4 23 "KeylessHall" "bookings" "[LKeylessHall$Booking;", .fieldLink RX4 298 "KeylessHall$Booking" "place" "LKeylessHall$Room;", .fieldLink RX4 252 "KeylessHall$Booking" "how" "I", .methodLink RX4 351 Lib.Math.abs.name, .static Lib.Math.abs.name, .initialized "java/lang/Math", .code Lib.Math.abs.name Lib.Math.abs.code 1 (some .int), .methodLink RX4 348 yX4_bookingDistance, .static yX4_bookingDistance, .code yX4_bookingDistance cX4_bookingDistance 1 (some .int), .fieldLink RX4 280 "KeylessHall$Room" "gap" "I"] ++ wsX40 ++ wsX00 ++ wsX20)
def wsX4_offer_r1 : List Cond := [Cond.classLink RX4 42 "java/lang/IllegalArgumentException", Cond.initialized "java/lang/IllegalArgumentException", Cond.fieldLink RX4 231 "KeylessHall" "now" "I", Cond.methodLink RX4 257 Lib.Math.max.name, Cond.static Lib.Math.max.name, Cond.initialized "java/lang/Math", Cond.code Lib.Math.max.name Lib.Math.max.code 2 (some .int), Cond.methodLink RX4 61 yX4_roomNumbered, Cond.instanceMethod yX4_roomNumbered, Cond.selects RX4 yX4_roomNumbered yX4_roomNumbered, Cond.initialized RX4, Cond.code yX4_roomNumbered cX4_roomNumbered 2 (some (.object "KeylessHall$Room")), Cond.classLink RX4 68 "java/lang/IndexOutOfBoundsException", Cond.initialized "java/lang/IndexOutOfBoundsException", Cond.fieldLink RX4 49 "KeylessHall" "roomCount" "I", Cond.fieldLink RX4 11 "KeylessHall" "rooms" "[LKeylessHall$Room;", Cond.methodLink RX4 262 yX4_firstFree, Cond.instanceMethod yX4_firstFree, Cond.selects RX4 yX4_firstFree yX4_firstFree, Cond.code yX4_firstFree cX4_firstFree 6 (some .int), Cond.fieldLink RX4 240 "KeylessHall" "bookingCount" "I", Cond.fieldLink RX4 299 "KeylessHall$Booking" "begin" "I", Cond.methodLink RX4 236 yX4_bookingTooNear, Cond.instanceMethod yX4_bookingTooNear]
def wsX4_offer_r2 : List Cond := [Cond.selects RX4 yX4_bookingTooNear yX4_bookingTooNear, Cond.code yX4_bookingTooNear cX4_bookingTooNear 5 (some (.object "KeylessHall$Booking")), Cond.fieldLink RX4 23 "KeylessHall" "bookings" "[LKeylessHall$Booking;", Cond.fieldLink RX4 298 "KeylessHall$Booking" "place" "LKeylessHall$Room;", Cond.fieldLink RX4 252 "KeylessHall$Booking" "how" "I", Cond.methodLink RX4 351 Lib.Math.abs.name, Cond.static Lib.Math.abs.name, Cond.code Lib.Math.abs.name Lib.Math.abs.code 1 (some .int), Cond.methodLink RX4 348 yX4_bookingDistance, Cond.static yX4_bookingDistance, Cond.code yX4_bookingDistance cX4_bookingDistance 1 (some .int), Cond.fieldLink RX4 280 "KeylessHall$Room" "gap" "I"]
def wsX4_offer : List Cond := .code yX4_offer cX4_offer 5 (some .int) :: ((wsX4_offer_r1 ++ wsX4_offer_r2) ++ wsX40 ++ wsX00 ++ wsX20 ++ (vx_atS RX4 46 "java/lang/IllegalArgumentException" ["java/lang/RuntimeException", "java/lang/Exception"]).filter goodWord ++ (vx_atS RX4 72 "java/lang/IndexOutOfBoundsException" ["java/lang/RuntimeException", "java/lang/Exception"]).filter goodWord)
def wsX4_workOneMinute_r1 : List Cond := [Cond.fieldLink RX4 209 "KeylessHall$Worker" "place" "LKeylessHall$Room;", Cond.fieldLink RX4 294 "KeylessHall$Worker" "minutesLeft" "I", Cond.fieldLink RX4 223 "KeylessHall$Worker" "puzzle" "I", Cond.fieldLink RX4 228 "KeylessHall$Room" "toReset" "I", Cond.methodLink RX4 342 yX4_finishReset, Cond.static yX4_finishReset, Cond.initialized RX4, Cond.code yX4_finishReset cX4_finishReset 2 none, Cond.fieldLink RX4 77 "KeylessHall$Room" "how" "I", Cond.methodLink RX4 345 yX3_stop, Cond.instanceMethod yX3_stop, Cond.selects RX3 yX3_stop yX3_stop, Cond.initialized RX3, Cond.code yX3_stop cX3_stop 1 none, Cond.fieldLink RX3 18 "KeylessHall$Worker" "place" "LKeylessHall$Room;", Cond.fieldLink RX3 9 "KeylessHall$Worker" "puzzle" "I", Cond.fieldLink RX3 15 "KeylessHall$Worker" "minutesLeft" "I", Cond.methodLink RX4 102 yX4_without, Cond.static yX4_without, Cond.code yX4_without cX4_without 2 (some .int), Cond.methodLink RX4 219 yX4_beginNext, Cond.static yX4_beginNext, Cond.code yX4_beginNext cX4_beginNext 3 none, Cond.fieldLink RX4 215 "KeylessHall$Room" "isToBeChecked" "Z"]
def wsX4_workOneMinute_r2 : List Cond := [Cond.fieldLink RX4 212 "KeylessHall$Room" "forgotten" "I", Cond.fieldLink RX4 336 "KeylessHall$Room" "minutes" "[I", Cond.methodLink RX4 333 yX2_nextToReset, Cond.instanceMethod yX2_nextToReset, Cond.selects RX2 yX2_nextToReset yX2_nextToReset, Cond.initialized RX2, Cond.code yX2_nextToReset cX2_nextToReset 4 (some .int), Cond.fieldLink RX2 37 "KeylessHall$Room" "puzzleCount" "I", Cond.fieldLink RX2 54 "KeylessHall$Room" "toReset" "I", Cond.static yX4_has, Cond.code yX4_has cX4_has 2 (some .boolean), Cond.methodLink RX2 57 yX2_isNeededByOther, Cond.instanceMethod yX2_isNeededByOther, Cond.selects RX2 yX2_isNeededByOther yX2_isNeededByOther, Cond.code yX2_isNeededByOther cX2_isNeededByOther 4 (some .boolean), Cond.fieldLink RX2 15 "KeylessHall$Room" "gives" "[I", Cond.fieldLink RX2 34 "KeylessHall$Room" "things" "I", Cond.fieldLink RX2 9 "KeylessHall$Room" "needs" "[I", Cond.methodLink RX4 339 yX3_begin, Cond.instanceMethod yX3_begin, Cond.selects RX3 yX3_begin yX3_begin, Cond.code yX3_begin cX3_begin 4 none]
def wsX4_workOneMinute : List Cond := .code yX4_workOneMinute cX4_workOneMinute 2 none :: ((wsX4_workOneMinute_r1 ++ wsX4_workOneMinute_r2) ++ wsX30 ++ wsX20)
def wsX4_dropUnusedBookings : List Cond := .code yX4_dropUnusedBookings cX4_dropUnusedBookings 3 none :: ([.fieldLink RX4 240 "KeylessHall" "bookingCount" "I", .fieldLink RX4 23 "KeylessHall" "bookings" "[LKeylessHall$Booking;", .fieldLink RX4 252 "KeylessHall$Booking" "how" "I", .fieldLink RX4 299 "KeylessHall$Booking" "begin" "I", .fieldLink RX4 231 "KeylessHall" "now" "I"] ++ wsX40 ++ wsX00)
def wsX4_passOne_r1 : List Cond := [Cond.fieldLink RX4 231 "KeylessHall" "now" "I", Cond.fieldLink RX4 49 "KeylessHall" "roomCount" "I", Cond.fieldLink RX4 11 "KeylessHall" "rooms" "[LKeylessHall$Room;", Cond.fieldLink RX4 273 "KeylessHall$Room" "players" "LKeylessHall$Group;", Cond.fieldLink RX4 29 "KeylessHall" "workers" "[LKeylessHall$Worker;", Cond.methodLink RX4 198 yX4_leaveIfLate, Cond.instanceMethod yX4_leaveIfLate, Cond.selects RX4 yX4_leaveIfLate yX4_leaveIfLate, Cond.initialized RX4, Cond.code yX4_leaveIfLate cX4_leaveIfLate 2 none, Cond.methodLink RX4 286 yX1_minutesLeft, Cond.instanceMethod yX1_minutesLeft, Cond.selects RX1 yX1_minutesLeft yX1_minutesLeft, Cond.initialized RX1, Cond.code yX1_minutesLeft cX1_minutesLeft 2 (some .int), Cond.fieldLink RX1 35 "KeylessHall$Group" "hintCost" "I", Cond.fieldLink RX1 26 "KeylessHall$Group" "arrival" "I", Cond.methodLink RX4 201 yX4_leave, Cond.static yX4_leave, Cond.code yX4_leave cX4_leave 3 none, Cond.fieldLink RX4 155 "KeylessHall$Group" "place" "LKeylessHall$Room;", Cond.fieldLink RX4 161 "KeylessHall$Group" "how" "I", Cond.fieldLink RX4 77 "KeylessHall$Room" "how" "I", Cond.fieldLink RX4 174 "KeylessHall$Group" "solved" "I"]
def wsX4_passOne_r2 : List Cond := [Cond.fieldLink RX4 228 "KeylessHall$Room" "toReset" "I", Cond.methodLink RX4 354 yX4_workOneMinute, Cond.static yX4_workOneMinute, Cond.code yX4_workOneMinute cX4_workOneMinute 2 none, Cond.fieldLink RX4 209 "KeylessHall$Worker" "place" "LKeylessHall$Room;", Cond.fieldLink RX4 294 "KeylessHall$Worker" "minutesLeft" "I", Cond.fieldLink RX4 223 "KeylessHall$Worker" "puzzle" "I", Cond.methodLink RX4 342 yX4_finishReset, Cond.static yX4_finishReset, Cond.code yX4_finishReset cX4_finishReset 2 none, Cond.methodLink RX4 345 yX3_stop, Cond.instanceMethod yX3_stop, Cond.selects RX3 yX3_stop yX3_stop, Cond.initialized RX3, Cond.code yX3_stop cX3_stop 1 none, Cond.fieldLink RX3 18 "KeylessHall$Worker" "place" "LKeylessHall$Room;", Cond.fieldLink RX3 9 "KeylessHall$Worker" "puzzle" "I", Cond.fieldLink RX3 15 "KeylessHall$Worker" "minutesLeft" "I", Cond.methodLink RX4 102 yX4_without, Cond.static yX4_without, Cond.code yX4_without cX4_without 2 (some .int), Cond.methodLink RX4 219 yX4_beginNext, Cond.static yX4_beginNext, Cond.code yX4_beginNext cX4_beginNext 3 none]
def wsX4_passOne_r3 : List Cond := [Cond.fieldLink RX4 215 "KeylessHall$Room" "isToBeChecked" "Z", Cond.fieldLink RX4 212 "KeylessHall$Room" "forgotten" "I", Cond.fieldLink RX4 336 "KeylessHall$Room" "minutes" "[I", Cond.methodLink RX4 333 yX2_nextToReset, Cond.instanceMethod yX2_nextToReset, Cond.selects RX2 yX2_nextToReset yX2_nextToReset, Cond.initialized RX2, Cond.code yX2_nextToReset cX2_nextToReset 4 (some .int), Cond.fieldLink RX2 37 "KeylessHall$Room" "puzzleCount" "I", Cond.fieldLink RX2 54 "KeylessHall$Room" "toReset" "I", Cond.static yX4_has, Cond.code yX4_has cX4_has 2 (some .boolean), Cond.methodLink RX2 57 yX2_isNeededByOther, Cond.instanceMethod yX2_isNeededByOther, Cond.selects RX2 yX2_isNeededByOther yX2_isNeededByOther, Cond.code yX2_isNeededByOther cX2_isNeededByOther 4 (some .boolean), Cond.fieldLink RX2 15 "KeylessHall$Room" "gives" "[I", Cond.fieldLink RX2 34 "KeylessHall$Room" "things" "I", Cond.fieldLink RX2 9 "KeylessHall$Room" "needs" "[I", Cond.methodLink RX4 339 yX3_begin, Cond.instanceMethod yX3_begin, Cond.selects RX3 yX3_begin yX3_begin, Cond.code yX3_begin cX3_begin 4 none, Cond.methodLink RX4 358 yX4_dropUnusedBookings]
def wsX4_passOne_r4 : List Cond := [Cond.instanceMethod yX4_dropUnusedBookings, Cond.selects RX4 yX4_dropUnusedBookings yX4_dropUnusedBookings, Cond.code yX4_dropUnusedBookings cX4_dropUnusedBookings 3 none, Cond.fieldLink RX4 240 "KeylessHall" "bookingCount" "I", Cond.fieldLink RX4 23 "KeylessHall" "bookings" "[LKeylessHall$Booking;", Cond.fieldLink RX4 252 "KeylessHall$Booking" "how" "I", Cond.fieldLink RX4 299 "KeylessHall$Booking" "begin" "I"]
def wsX4_passOne : List Cond := .code yX4_passOne cX4_passOne 3 none :: ((wsX4_passOne_r1 ++ (wsX4_passOne_r2 ++ (wsX4_passOne_r3 ++ wsX4_passOne_r4))) ++ wsX40 ++ wsX20 ++ wsX10 ++ wsX30 ++ wsX00)
def wsX4_pass_r1 : List Cond := [Cond.classLink RX4 42 "java/lang/IllegalArgumentException", Cond.initialized "java/lang/IllegalArgumentException", Cond.classLink RX4 53 "java/lang/IllegalStateException", Cond.initialized "java/lang/IllegalStateException", Cond.fieldLink RX4 231 "KeylessHall" "now" "I", Cond.methodLink RX4 270 yX4_passOne, Cond.instanceMethod yX4_passOne, Cond.selects RX4 yX4_passOne yX4_passOne, Cond.initialized RX4, Cond.code yX4_passOne cX4_passOne 3 none, Cond.fieldLink RX4 49 "KeylessHall" "roomCount" "I", Cond.fieldLink RX4 11 "KeylessHall" "rooms" "[LKeylessHall$Room;", Cond.fieldLink RX4 273 "KeylessHall$Room" "players" "LKeylessHall$Group;", Cond.fieldLink RX4 29 "KeylessHall" "workers" "[LKeylessHall$Worker;", Cond.methodLink RX4 198 yX4_leaveIfLate, Cond.instanceMethod yX4_leaveIfLate, Cond.selects RX4 yX4_leaveIfLate yX4_leaveIfLate, Cond.code yX4_leaveIfLate cX4_leaveIfLate 2 none, Cond.methodLink RX4 286 yX1_minutesLeft, Cond.instanceMethod yX1_minutesLeft, Cond.selects RX1 yX1_minutesLeft yX1_minutesLeft, Cond.initialized RX1, Cond.code yX1_minutesLeft cX1_minutesLeft 2 (some .int), Cond.fieldLink RX1 35 "KeylessHall$Group" "hintCost" "I"]
def wsX4_pass_r2 : List Cond := [Cond.fieldLink RX1 26 "KeylessHall$Group" "arrival" "I", Cond.methodLink RX4 201 yX4_leave, Cond.static yX4_leave, Cond.code yX4_leave cX4_leave 3 none, Cond.fieldLink RX4 155 "KeylessHall$Group" "place" "LKeylessHall$Room;", Cond.fieldLink RX4 161 "KeylessHall$Group" "how" "I", Cond.fieldLink RX4 77 "KeylessHall$Room" "how" "I", Cond.fieldLink RX4 174 "KeylessHall$Group" "solved" "I", Cond.fieldLink RX4 228 "KeylessHall$Room" "toReset" "I", Cond.methodLink RX4 354 yX4_workOneMinute, Cond.static yX4_workOneMinute, Cond.code yX4_workOneMinute cX4_workOneMinute 2 none, Cond.fieldLink RX4 209 "KeylessHall$Worker" "place" "LKeylessHall$Room;", Cond.fieldLink RX4 294 "KeylessHall$Worker" "minutesLeft" "I", Cond.fieldLink RX4 223 "KeylessHall$Worker" "puzzle" "I", Cond.methodLink RX4 342 yX4_finishReset, Cond.static yX4_finishReset, Cond.code yX4_finishReset cX4_finishReset 2 none, Cond.methodLink RX4 345 yX3_stop, Cond.instanceMethod yX3_stop, Cond.selects RX3 yX3_stop yX3_stop, Cond.initialized RX3, Cond.code yX3_stop cX3_stop 1 none, Cond.fieldLink RX3 18 "KeylessHall$Worker" "place" "LKeylessHall$Room;"]
def wsX4_pass_r3 : List Cond := [Cond.fieldLink RX3 9 "KeylessHall$Worker" "puzzle" "I", Cond.fieldLink RX3 15 "KeylessHall$Worker" "minutesLeft" "I", Cond.methodLink RX4 102 yX4_without, Cond.static yX4_without, Cond.code yX4_without cX4_without 2 (some .int), Cond.methodLink RX4 219 yX4_beginNext, Cond.static yX4_beginNext, Cond.code yX4_beginNext cX4_beginNext 3 none, Cond.fieldLink RX4 215 "KeylessHall$Room" "isToBeChecked" "Z", Cond.fieldLink RX4 212 "KeylessHall$Room" "forgotten" "I", Cond.fieldLink RX4 336 "KeylessHall$Room" "minutes" "[I", Cond.methodLink RX4 333 yX2_nextToReset, Cond.instanceMethod yX2_nextToReset, Cond.selects RX2 yX2_nextToReset yX2_nextToReset, Cond.initialized RX2, Cond.code yX2_nextToReset cX2_nextToReset 4 (some .int), Cond.fieldLink RX2 37 "KeylessHall$Room" "puzzleCount" "I", Cond.fieldLink RX2 54 "KeylessHall$Room" "toReset" "I", Cond.static yX4_has, Cond.code yX4_has cX4_has 2 (some .boolean), Cond.methodLink RX2 57 yX2_isNeededByOther, Cond.instanceMethod yX2_isNeededByOther, Cond.selects RX2 yX2_isNeededByOther yX2_isNeededByOther, Cond.code yX2_isNeededByOther cX2_isNeededByOther 4 (some .boolean)]
def wsX4_pass_r4 : List Cond := [Cond.fieldLink RX2 15 "KeylessHall$Room" "gives" "[I", Cond.fieldLink RX2 34 "KeylessHall$Room" "things" "I", Cond.fieldLink RX2 9 "KeylessHall$Room" "needs" "[I", Cond.methodLink RX4 339 yX3_begin, Cond.instanceMethod yX3_begin, Cond.selects RX3 yX3_begin yX3_begin, Cond.code yX3_begin cX3_begin 4 none, Cond.methodLink RX4 358 yX4_dropUnusedBookings, Cond.instanceMethod yX4_dropUnusedBookings, Cond.selects RX4 yX4_dropUnusedBookings yX4_dropUnusedBookings, Cond.code yX4_dropUnusedBookings cX4_dropUnusedBookings 3 none, Cond.fieldLink RX4 240 "KeylessHall" "bookingCount" "I", Cond.fieldLink RX4 23 "KeylessHall" "bookings" "[LKeylessHall$Booking;", Cond.fieldLink RX4 252 "KeylessHall$Booking" "how" "I", Cond.fieldLink RX4 299 "KeylessHall$Booking" "begin" "I"]
def wsX4_pass : List Cond := .code yX4_pass cX4_pass 3 (some .int) :: ((wsX4_pass_r1 ++ (wsX4_pass_r2 ++ (wsX4_pass_r3 ++ wsX4_pass_r4))) ++ wsX40 ++ wsX20 ++ wsX10 ++ wsX30 ++ wsX00 ++ (vx_atS RX4 46 "java/lang/IllegalArgumentException" ["java/lang/RuntimeException", "java/lang/Exception"]).filter goodWord ++ (vx_atS RX4 57 "java/lang/IllegalStateException" ["java/lang/RuntimeException", "java/lang/Exception"]).filter goodWord)
def wsX4_minute : List Cond := .code yX4_minute cX4_minute 1 (some .int) :: ([.fieldLink RX4 231 "KeylessHall" "now" "I"] ++ wsX40)
def wsX4_state : List Cond := .code yX4_state cX4_state 4 (some .int) :: ([.classLink RX4 42 "java/lang/IllegalArgumentException", .initialized "java/lang/IllegalArgumentException", .fieldLink RX4 77 "KeylessHall$Room" "how" "I", .fieldLink RX4 228 "KeylessHall$Room" "toReset" "I", .fieldLink RX4 212 "KeylessHall$Room" "forgotten" "I", .fieldLink RX4 273 "KeylessHall$Room" "players" "LKeylessHall$Group;", .fieldLink RX4 277 "KeylessHall$Group" "number" "I", .fieldLink RX4 280 "KeylessHall$Room" "gap" "I", .methodLink RX4 61 yX4_roomNumbered, .instanceMethod yX4_roomNumbered, .selects RX4 yX4_roomNumbered yX4_roomNumbered, .initialized RX4, .code yX4_roomNumbered cX4_roomNumbered 2 (some (.object "KeylessHall$Room")), .classLink RX4 68 "java/lang/IndexOutOfBoundsException", .initialized "java/lang/IndexOutOfBoundsException", .fieldLink RX4 49 "KeylessHall" "roomCount" "I", .fieldLink RX4 11 "KeylessHall" "rooms" "[LKeylessHall$Room;"] ++ wsX20 ++ wsX10 ++ wsX40 ++ (vx_atS RX4 46 "java/lang/IllegalArgumentException" ["java/lang/RuntimeException", "java/lang/Exception"]).filter goodWord ++ (vx_atS RX4 72 "java/lang/IndexOutOfBoundsException" ["java/lang/RuntimeException", "java/lang/Exception"]).filter goodWord)
def wsX4_group_r1 : List Cond := [Cond.classLink RX4 42 "java/lang/IllegalArgumentException", Cond.initialized "java/lang/IllegalArgumentException", Cond.fieldLink RX4 161 "KeylessHall$Group" "how" "I", Cond.fieldLink RX4 155 "KeylessHall$Group" "place" "LKeylessHall$Room;", Cond.fieldLink RX4 285 "KeylessHall$Room" "number" "I", Cond.fieldLink RX4 166 "KeylessHall$Group" "held" "I", Cond.fieldLink RX4 174 "KeylessHall$Group" "solved" "I", Cond.fieldLink RX4 231 "KeylessHall" "now" "I", Cond.fieldLink RX4 289 "KeylessHall$Group" "hintCount" "I", Cond.methodLink RX4 151 yX4_groupNumbered, Cond.instanceMethod yX4_groupNumbered, Cond.selects RX4 yX4_groupNumbered yX4_groupNumbered, Cond.initialized RX4, Cond.code yX4_groupNumbered cX4_groupNumbered 2 (some (.object "KeylessHall$Group")), Cond.classLink RX4 68 "java/lang/IndexOutOfBoundsException", Cond.initialized "java/lang/IndexOutOfBoundsException", Cond.fieldLink RX4 142 "KeylessHall" "groupCount" "I", Cond.fieldLink RX4 17 "KeylessHall" "groups" "[LKeylessHall$Group;", Cond.methodLink RX4 286 yX1_minutesLeft, Cond.instanceMethod yX1_minutesLeft, Cond.selects RX1 yX1_minutesLeft yX1_minutesLeft, Cond.initialized RX1, Cond.code yX1_minutesLeft cX1_minutesLeft 2 (some .int), Cond.fieldLink RX1 35 "KeylessHall$Group" "hintCost" "I"]
def wsX4_group_r2 : List Cond := [Cond.fieldLink RX1 26 "KeylessHall$Group" "arrival" "I"]
def wsX4_group : List Cond := .code yX4_group cX4_group 4 (some .int) :: ((wsX4_group_r1 ++ wsX4_group_r2) ++ wsX10 ++ wsX20 ++ wsX40 ++ (vx_atS RX4 46 "java/lang/IllegalArgumentException" ["java/lang/RuntimeException", "java/lang/Exception"]).filter goodWord ++ (vx_atS RX4 72 "java/lang/IndexOutOfBoundsException" ["java/lang/RuntimeException", "java/lang/Exception"]).filter goodWord)
def wsX4_crew : List Cond := .code yX4_crew cX4_crew 4 (some .int) :: ([.classLink RX4 42 "java/lang/IllegalArgumentException", .initialized "java/lang/IllegalArgumentException", .fieldLink RX4 209 "KeylessHall$Worker" "place" "LKeylessHall$Room;", .fieldLink RX4 285 "KeylessHall$Room" "number" "I", .fieldLink RX4 223 "KeylessHall$Worker" "puzzle" "I", .fieldLink RX4 294 "KeylessHall$Worker" "minutesLeft" "I", .methodLink RX4 205 yX4_workerNumbered, .instanceMethod yX4_workerNumbered, .selects RX4 yX4_workerNumbered yX4_workerNumbered, .initialized RX4, .code yX4_workerNumbered cX4_workerNumbered 2 (some (.object "KeylessHall$Worker")), .classLink RX4 68 "java/lang/IndexOutOfBoundsException", .initialized "java/lang/IndexOutOfBoundsException", .fieldLink RX4 29 "KeylessHall" "workers" "[LKeylessHall$Worker;"] ++ wsX30 ++ wsX20 ++ wsX40 ++ (vx_atS RX4 46 "java/lang/IllegalArgumentException" ["java/lang/RuntimeException", "java/lang/Exception"]).filter goodWord ++ (vx_atS RX4 72 "java/lang/IndexOutOfBoundsException" ["java/lang/RuntimeException", "java/lang/Exception"]).filter goodWord)
def wsX4_booking : List Cond := .code yX4_booking cX4_booking 4 (some .int) :: ([.classLink RX4 42 "java/lang/IllegalArgumentException", .initialized "java/lang/IllegalArgumentException", .fieldLink RX4 298 "KeylessHall$Booking" "place" "LKeylessHall$Room;", .fieldLink RX4 285 "KeylessHall$Room" "number" "I", .fieldLink RX4 299 "KeylessHall$Booking" "begin" "I", .fieldLink RX4 252 "KeylessHall$Booking" "how" "I", .fieldLink RX4 302 "KeylessHall$Booking" "groupNumber" "I", .methodLink RX4 248 yX4_bookingNumbered, .instanceMethod yX4_bookingNumbered, .selects RX4 yX4_bookingNumbered yX4_bookingNumbered, .initialized RX4, .code yX4_bookingNumbered cX4_bookingNumbered 2 (some (.object "KeylessHall$Booking")), .classLink RX4 68 "java/lang/IndexOutOfBoundsException", .initialized "java/lang/IndexOutOfBoundsException", .fieldLink RX4 240 "KeylessHall" "bookingCount" "I", .fieldLink RX4 23 "KeylessHall" "bookings" "[LKeylessHall$Booking;"] ++ wsX00 ++ wsX20 ++ wsX40 ++ (vx_atS RX4 46 "java/lang/IllegalArgumentException" ["java/lang/RuntimeException", "java/lang/Exception"]).filter goodWord ++ (vx_atS RX4 72 "java/lang/IndexOutOfBoundsException" ["java/lang/RuntimeException", "java/lang/Exception"]).filter goodWord)
def wsX5_init_r1 : List Cond := [Cond.methodLink RX5 1 objectInit, Cond.instanceMethod objectInit, Cond.code objectInit ⟨#[0xb1]⟩ 1 none, Cond.arrayClass .int, Cond.fieldLink RX5 7 "KeylessHallModel" "first" "[I", Cond.fieldLink RX5 13 "KeylessHallModel" "many" "[I", Cond.fieldLink RX5 16 "KeylessHallModel" "state" "[I", Cond.fieldLink RX5 19 "KeylessHallModel" "toReset" "[I", Cond.fieldLink RX5 22 "KeylessHallModel" "forgotten" "[I", Cond.fieldLink RX5 25 "KeylessHallModel" "groupIn" "[I", Cond.fieldLink RX5 28 "KeylessHallModel" "needs" "[I", Cond.fieldLink RX5 31 "KeylessHallModel" "gives" "[I", Cond.fieldLink RX5 34 "KeylessHallModel" "prop" "[I", Cond.fieldLink RX5 37 "KeylessHallModel" "takes" "[I", Cond.fieldLink RX5 40 "KeylessHallModel" "how" "[I", Cond.fieldLink RX5 43 "KeylessHallModel" "roomOf" "[I", Cond.fieldLink RX5 46 "KeylessHallModel" "holds" "[I", Cond.fieldLink RX5 49 "KeylessHallModel" "solved" "[I", Cond.fieldLink RX5 52 "KeylessHallModel" "came" "[I", Cond.fieldLink RX5 55 "KeylessHallModel" "cost" "[I", Cond.fieldLink RX5 58 "KeylessHallModel" "hintsGot" "[I", Cond.fieldLink RX5 61 "KeylessHallModel" "hintsFor" "[I", Cond.fieldLink RX5 64 "KeylessHallModel" "crewRoom" "[I", Cond.fieldLink RX5 67 "KeylessHallModel" "crewPuzzle" "[I"]
def wsX5_init_r2 : List Cond := [Cond.fieldLink RX5 70 "KeylessHallModel" "crewLeft" "[I", Cond.arrayClass .boolean, Cond.fieldLink RX5 73 "KeylessHallModel" "crewChecks" "[Z", Cond.fieldLink RX5 77 "KeylessHallModel" "bookRoom" "[I", Cond.fieldLink RX5 80 "KeylessHallModel" "bookMinute" "[I", Cond.fieldLink RX5 83 "KeylessHallModel" "bookHow" "[I", Cond.fieldLink RX5 86 "KeylessHallModel" "bookGroup" "[I", Cond.fieldLink RX5 89 "KeylessHallModel" "ways" "[I"]
def wsX5_init : List Cond := .code yX5_init cX5_init 2 none :: ((wsX5_init_r1 ++ wsX5_init_r2) ++ wsX50)
def wsX5_thrown : List Cond := .code yX5_thrown cX5_thrown 1 (some .int) :: ([.fieldLink RX5 92 "KeylessHallModel" "thrown" "I"] ++ wsX50)
def wsX5_in : List Cond := .code yX5_in cX5_in 3 (some .boolean) :: ([])
def wsX5_refused : List Cond := .code yX5_refused cX5_refused 2 (some .boolean) :: ([.fieldLink RX5 92 "KeylessHallModel" "thrown" "I"] ++ wsX50)
def wsX5_isRoom : List Cond := .code yX5_isRoom cX5_isRoom 2 (some .boolean) :: ([.fieldLink RX5 96 "KeylessHallModel" "rooms" "I", .methodLink RX5 99 yX5_in, .static yX5_in, .initialized RX5, .code yX5_in cX5_in 3 (some .boolean)] ++ wsX50)
def wsX5_isGroup : List Cond := .code yX5_isGroup cX5_isGroup 2 (some .boolean) :: ([.fieldLink RX5 103 "KeylessHallModel" "groups" "I", .methodLink RX5 99 yX5_in, .static yX5_in, .initialized RX5, .code yX5_in cX5_in 3 (some .boolean)] ++ wsX50)
def wsX5_isCrew : List Cond := .code yX5_isCrew cX5_isCrew 1 (some .boolean) :: ([.methodLink RX5 99 yX5_in, .static yX5_in, .initialized RX5, .code yX5_in cX5_in 3 (some .boolean)])
def wsX5_isBooking : List Cond := .code yX5_isBooking cX5_isBooking 2 (some .boolean) :: ([.fieldLink RX5 106 "KeylessHallModel" "bookings" "I", .methodLink RX5 99 yX5_in, .static yX5_in, .initialized RX5, .code yX5_in cX5_in 3 (some .boolean)] ++ wsX50)
def wsX5_isOut : List Cond := .code yX5_isOut cX5_isOut 2 (some .boolean) :: ([.fieldLink RX5 34 "KeylessHallModel" "prop" "[I", .fieldLink RX5 109 "KeylessHallModel" "broken" "I"] ++ wsX50)
def wsX5_hadOf : List Cond := .code yX5_hadOf cX5_hadOf 6 (some .int) :: ([.fieldLink RX5 13 "KeylessHallModel" "many" "[I", .fieldLink RX5 28 "KeylessHallModel" "needs" "[I", .fieldLink RX5 31 "KeylessHallModel" "gives" "[I", .methodLink RX5 112 yX5_isOut, .instanceMethod yX5_isOut, .selects RX5 yX5_isOut yX5_isOut, .initialized RX5, .code yX5_isOut cX5_isOut 2 (some .boolean), .fieldLink RX5 34 "KeylessHallModel" "prop" "[I", .fieldLink RX5 109 "KeylessHallModel" "broken" "I"] ++ wsX50)
def wsX5_isLeavable : List Cond := .code yX5_isLeavable cX5_isLeavable 2 (some .boolean) :: ([.fieldLink RX5 13 "KeylessHallModel" "many" "[I", .fieldLink RX5 7 "KeylessHallModel" "first" "[I", .methodLink RX5 116 yX5_hadOf, .instanceMethod yX5_hadOf, .selects RX5 yX5_hadOf yX5_hadOf, .initialized RX5, .code yX5_hadOf cX5_hadOf 6 (some .int), .fieldLink RX5 28 "KeylessHallModel" "needs" "[I", .fieldLink RX5 31 "KeylessHallModel" "gives" "[I", .methodLink RX5 112 yX5_isOut, .instanceMethod yX5_isOut, .selects RX5 yX5_isOut yX5_isOut, .code yX5_isOut cX5_isOut 2 (some .boolean), .fieldLink RX5 34 "KeylessHallModel" "prop" "[I", .fieldLink RX5 109 "KeylessHallModel" "broken" "I"] ++ wsX50)
def wsX5_gapOf : List Cond := .code yX5_gapOf cX5_gapOf 4 (some .int) :: ([.fieldLink RX5 13 "KeylessHallModel" "many" "[I", .fieldLink RX5 37 "KeylessHallModel" "takes" "[I"] ++ wsX50)
def wsX5_room : List Cond := .code yX5_room cX5_room 2 (some .int) :: ([.fieldLink RX5 96 "KeylessHallModel" "rooms" "I", .fieldLink RX5 7 "KeylessHallModel" "first" "[I", .fieldLink RX5 25 "KeylessHallModel" "groupIn" "[I", .methodLink RX5 99 yX5_in, .static yX5_in, .initialized RX5, .code yX5_in cX5_in 3 (some .boolean), .methodLink RX5 120 yX5_refused, .instanceMethod yX5_refused, .selects RX5 yX5_refused yX5_refused, .code yX5_refused cX5_refused 2 (some .boolean), .fieldLink RX5 92 "KeylessHallModel" "thrown" "I"] ++ wsX50)
def wsX5_puzzle : List Cond := .code yX5_puzzle cX5_puzzle 9 (some .int) :: ([.fieldLink RX5 16 "KeylessHallModel" "state" "[I", .fieldLink RX5 13 "KeylessHallModel" "many" "[I", .fieldLink RX5 28 "KeylessHallModel" "needs" "[I", .fieldLink RX5 31 "KeylessHallModel" "gives" "[I", .fieldLink RX5 34 "KeylessHallModel" "prop" "[I", .fieldLink RX5 37 "KeylessHallModel" "takes" "[I", .methodLink RX5 123 yX5_isRoom, .instanceMethod yX5_isRoom, .selects RX5 yX5_isRoom yX5_isRoom, .initialized RX5, .code yX5_isRoom cX5_isRoom 2 (some .boolean), .fieldLink RX5 96 "KeylessHallModel" "rooms" "I", .methodLink RX5 99 yX5_in, .static yX5_in, .code yX5_in cX5_in 3 (some .boolean), .methodLink RX5 120 yX5_refused, .instanceMethod yX5_refused, .selects RX5 yX5_refused yX5_refused, .code yX5_refused cX5_refused 2 (some .boolean), .fieldLink RX5 92 "KeylessHallModel" "thrown" "I"] ++ wsX50)
def wsX5_leaves : List Cond := .code yX5_leaves cX5_leaves 4 none :: ([.fieldLink RX5 43 "KeylessHallModel" "roomOf" "[I", .fieldLink RX5 40 "KeylessHallModel" "how" "[I", .fieldLink RX5 16 "KeylessHallModel" "state" "[I", .fieldLink RX5 19 "KeylessHallModel" "toReset" "[I", .fieldLink RX5 49 "KeylessHallModel" "solved" "[I", .fieldLink RX5 25 "KeylessHallModel" "groupIn" "[I"] ++ wsX50)
def wsX5_prop_r1 : List Cond := [Cond.fieldLink RX5 109 "KeylessHallModel" "broken" "I", Cond.fieldLink RX5 96 "KeylessHallModel" "rooms" "I", Cond.fieldLink RX5 16 "KeylessHallModel" "state" "[I", Cond.fieldLink RX5 46 "KeylessHallModel" "holds" "[I", Cond.fieldLink RX5 25 "KeylessHallModel" "groupIn" "[I", Cond.methodLink RX5 99 yX5_in, Cond.static yX5_in, Cond.initialized RX5, Cond.code yX5_in cX5_in 3 (some .boolean), Cond.methodLink RX5 120 yX5_refused, Cond.instanceMethod yX5_refused, Cond.selects RX5 yX5_refused yX5_refused, Cond.code yX5_refused cX5_refused 2 (some .boolean), Cond.fieldLink RX5 92 "KeylessHallModel" "thrown" "I", Cond.methodLink RX5 116 yX5_hadOf, Cond.instanceMethod yX5_hadOf, Cond.selects RX5 yX5_hadOf yX5_hadOf, Cond.code yX5_hadOf cX5_hadOf 6 (some .int), Cond.fieldLink RX5 13 "KeylessHallModel" "many" "[I", Cond.fieldLink RX5 28 "KeylessHallModel" "needs" "[I", Cond.fieldLink RX5 31 "KeylessHallModel" "gives" "[I", Cond.methodLink RX5 112 yX5_isOut, Cond.instanceMethod yX5_isOut, Cond.selects RX5 yX5_isOut yX5_isOut]
def wsX5_prop_r2 : List Cond := [Cond.code yX5_isOut cX5_isOut 2 (some .boolean), Cond.fieldLink RX5 34 "KeylessHallModel" "prop" "[I", Cond.methodLink RX5 126 yX5_leaves, Cond.instanceMethod yX5_leaves, Cond.selects RX5 yX5_leaves yX5_leaves, Cond.code yX5_leaves cX5_leaves 4 none, Cond.fieldLink RX5 43 "KeylessHallModel" "roomOf" "[I", Cond.fieldLink RX5 40 "KeylessHallModel" "how" "[I", Cond.fieldLink RX5 19 "KeylessHallModel" "toReset" "[I", Cond.fieldLink RX5 49 "KeylessHallModel" "solved" "[I"]
def wsX5_prop : List Cond := .code yX5_prop cX5_prop 6 (some .int) :: ((wsX5_prop_r1 ++ wsX5_prop_r2) ++ wsX50)
def wsX5_had_r1 : List Cond := [Cond.methodLink RX5 123 yX5_isRoom, Cond.instanceMethod yX5_isRoom, Cond.selects RX5 yX5_isRoom yX5_isRoom, Cond.initialized RX5, Cond.code yX5_isRoom cX5_isRoom 2 (some .boolean), Cond.fieldLink RX5 96 "KeylessHallModel" "rooms" "I", Cond.methodLink RX5 99 yX5_in, Cond.static yX5_in, Cond.code yX5_in cX5_in 3 (some .boolean), Cond.methodLink RX5 120 yX5_refused, Cond.instanceMethod yX5_refused, Cond.selects RX5 yX5_refused yX5_refused, Cond.code yX5_refused cX5_refused 2 (some .boolean), Cond.fieldLink RX5 92 "KeylessHallModel" "thrown" "I", Cond.methodLink RX5 116 yX5_hadOf, Cond.instanceMethod yX5_hadOf, Cond.selects RX5 yX5_hadOf yX5_hadOf, Cond.code yX5_hadOf cX5_hadOf 6 (some .int), Cond.fieldLink RX5 13 "KeylessHallModel" "many" "[I", Cond.fieldLink RX5 28 "KeylessHallModel" "needs" "[I", Cond.fieldLink RX5 31 "KeylessHallModel" "gives" "[I", Cond.methodLink RX5 112 yX5_isOut, Cond.instanceMethod yX5_isOut, Cond.selects RX5 yX5_isOut yX5_isOut]
def wsX5_had_r2 : List Cond := [Cond.code yX5_isOut cX5_isOut 2 (some .boolean), Cond.fieldLink RX5 34 "KeylessHallModel" "prop" "[I", Cond.fieldLink RX5 109 "KeylessHallModel" "broken" "I"]
def wsX5_had : List Cond := .code yX5_had cX5_had 3 (some .int) :: ((wsX5_had_r1 ++ wsX5_had_r2) ++ wsX50)
def wsX5_canBeLeft_r1 : List Cond := [Cond.methodLink RX5 123 yX5_isRoom, Cond.instanceMethod yX5_isRoom, Cond.selects RX5 yX5_isRoom yX5_isRoom, Cond.initialized RX5, Cond.code yX5_isRoom cX5_isRoom 2 (some .boolean), Cond.fieldLink RX5 96 "KeylessHallModel" "rooms" "I", Cond.methodLink RX5 99 yX5_in, Cond.static yX5_in, Cond.code yX5_in cX5_in 3 (some .boolean), Cond.methodLink RX5 120 yX5_refused, Cond.instanceMethod yX5_refused, Cond.selects RX5 yX5_refused yX5_refused, Cond.code yX5_refused cX5_refused 2 (some .boolean), Cond.fieldLink RX5 92 "KeylessHallModel" "thrown" "I", Cond.methodLink RX5 130 yX5_isLeavable, Cond.instanceMethod yX5_isLeavable, Cond.selects RX5 yX5_isLeavable yX5_isLeavable, Cond.code yX5_isLeavable cX5_isLeavable 2 (some .boolean), Cond.fieldLink RX5 13 "KeylessHallModel" "many" "[I", Cond.fieldLink RX5 7 "KeylessHallModel" "first" "[I", Cond.methodLink RX5 116 yX5_hadOf, Cond.instanceMethod yX5_hadOf, Cond.selects RX5 yX5_hadOf yX5_hadOf, Cond.code yX5_hadOf cX5_hadOf 6 (some .int)]
def wsX5_canBeLeft_r2 : List Cond := [Cond.fieldLink RX5 28 "KeylessHallModel" "needs" "[I", Cond.fieldLink RX5 31 "KeylessHallModel" "gives" "[I", Cond.methodLink RX5 112 yX5_isOut, Cond.instanceMethod yX5_isOut, Cond.selects RX5 yX5_isOut yX5_isOut, Cond.code yX5_isOut cX5_isOut 2 (some .boolean), Cond.fieldLink RX5 34 "KeylessHallModel" "prop" "[I", Cond.fieldLink RX5 109 "KeylessHallModel" "broken" "I"]
def wsX5_canBeLeft : List Cond := .code yX5_canBeLeft cX5_canBeLeft 2 (some .boolean) :: ((wsX5_canBeLeft_r1 ++ wsX5_canBeLeft_r2) ++ wsX50)
def wsX5_heldBy : List Cond := .code yX5_heldBy cX5_heldBy 6 (some .int) :: ([.fieldLink RX5 13 "KeylessHallModel" "many" "[I", .fieldLink RX5 31 "KeylessHallModel" "gives" "[I"] ++ wsX50)
def wsX5_orders_r1 : List Cond := [Cond.fieldLink RX5 13 "KeylessHallModel" "many" "[I", Cond.fieldLink RX5 7 "KeylessHallModel" "first" "[I", Cond.fieldLink RX5 28 "KeylessHallModel" "needs" "[I", Cond.fieldLink RX5 89 "KeylessHallModel" "ways" "[I", Cond.methodLink RX5 123 yX5_isRoom, Cond.instanceMethod yX5_isRoom, Cond.selects RX5 yX5_isRoom yX5_isRoom, Cond.initialized RX5, Cond.code yX5_isRoom cX5_isRoom 2 (some .boolean), Cond.fieldLink RX5 96 "KeylessHallModel" "rooms" "I", Cond.methodLink RX5 99 yX5_in, Cond.static yX5_in, Cond.code yX5_in cX5_in 3 (some .boolean), Cond.methodLink RX5 120 yX5_refused, Cond.instanceMethod yX5_refused, Cond.selects RX5 yX5_refused yX5_refused, Cond.code yX5_refused cX5_refused 2 (some .boolean), Cond.fieldLink RX5 92 "KeylessHallModel" "thrown" "I", Cond.methodLink RX5 133 yX5_heldBy, Cond.instanceMethod yX5_heldBy, Cond.selects RX5 yX5_heldBy yX5_heldBy, Cond.code yX5_heldBy cX5_heldBy 6 (some .int), Cond.fieldLink RX5 31 "KeylessHallModel" "gives" "[I", Cond.methodLink RX5 112 yX5_isOut]
def wsX5_orders_r2 : List Cond := [Cond.instanceMethod yX5_isOut, Cond.selects RX5 yX5_isOut yX5_isOut, Cond.code yX5_isOut cX5_isOut 2 (some .boolean), Cond.fieldLink RX5 34 "KeylessHallModel" "prop" "[I", Cond.fieldLink RX5 109 "KeylessHallModel" "broken" "I"]
def wsX5_orders : List Cond := .code yX5_orders cX5_orders 8 (some .int) :: ((wsX5_orders_r1 ++ wsX5_orders_r2) ++ wsX50)
def wsX5_ordersAnew_r1 : List Cond := [Cond.methodLink RX5 137 yX5_orders, Cond.instanceMethod yX5_orders, Cond.selects RX5 yX5_orders yX5_orders, Cond.initialized RX5, Cond.code yX5_orders cX5_orders 8 (some .int), Cond.fieldLink RX5 13 "KeylessHallModel" "many" "[I", Cond.fieldLink RX5 7 "KeylessHallModel" "first" "[I", Cond.fieldLink RX5 28 "KeylessHallModel" "needs" "[I", Cond.fieldLink RX5 89 "KeylessHallModel" "ways" "[I", Cond.methodLink RX5 123 yX5_isRoom, Cond.instanceMethod yX5_isRoom, Cond.selects RX5 yX5_isRoom yX5_isRoom, Cond.code yX5_isRoom cX5_isRoom 2 (some .boolean), Cond.fieldLink RX5 96 "KeylessHallModel" "rooms" "I", Cond.methodLink RX5 99 yX5_in, Cond.static yX5_in, Cond.code yX5_in cX5_in 3 (some .boolean), Cond.methodLink RX5 120 yX5_refused, Cond.instanceMethod yX5_refused, Cond.selects RX5 yX5_refused yX5_refused, Cond.code yX5_refused cX5_refused 2 (some .boolean), Cond.fieldLink RX5 92 "KeylessHallModel" "thrown" "I", Cond.methodLink RX5 133 yX5_heldBy, Cond.instanceMethod yX5_heldBy]
def wsX5_ordersAnew_r2 : List Cond := [Cond.selects RX5 yX5_heldBy yX5_heldBy, Cond.code yX5_heldBy cX5_heldBy 6 (some .int), Cond.fieldLink RX5 31 "KeylessHallModel" "gives" "[I", Cond.methodLink RX5 112 yX5_isOut, Cond.instanceMethod yX5_isOut, Cond.selects RX5 yX5_isOut yX5_isOut, Cond.code yX5_isOut cX5_isOut 2 (some .boolean), Cond.fieldLink RX5 34 "KeylessHallModel" "prop" "[I", Cond.fieldLink RX5 109 "KeylessHallModel" "broken" "I"]
def wsX5_ordersAnew : List Cond := .code yX5_ordersAnew cX5_ordersAnew 2 (some .int) :: ((wsX5_ordersAnew_r1 ++ wsX5_ordersAnew_r2) ++ wsX50)
def wsX5_bookingFor : List Cond := .code yX5_bookingFor cX5_bookingFor 3 (some .int) :: ([.fieldLink RX5 106 "KeylessHallModel" "bookings" "I", .fieldLink RX5 77 "KeylessHallModel" "bookRoom" "[I", .fieldLink RX5 83 "KeylessHallModel" "bookHow" "[I", .fieldLink RX5 80 "KeylessHallModel" "bookMinute" "[I", .fieldLink RX5 141 "KeylessHallModel" "minute" "I"] ++ wsX50)
def wsX5_isNear : List Cond := .code yX5_isNear cX5_isNear 4 (some .boolean) :: ([.fieldLink RX5 106 "KeylessHallModel" "bookings" "I", .fieldLink RX5 77 "KeylessHallModel" "bookRoom" "[I", .fieldLink RX5 83 "KeylessHallModel" "bookHow" "[I", .fieldLink RX5 80 "KeylessHallModel" "bookMinute" "[I", .fieldLink RX5 141 "KeylessHallModel" "minute" "I", .methodLink RX5 144 yX5_gapOf, .instanceMethod yX5_gapOf, .selects RX5 yX5_gapOf yX5_gapOf, .initialized RX5, .code yX5_gapOf cX5_gapOf 4 (some .int), .fieldLink RX5 13 "KeylessHallModel" "many" "[I", .fieldLink RX5 37 "KeylessHallModel" "takes" "[I"] ++ wsX50)
def wsX5_come_r1 : List Cond := [Cond.fieldLink RX5 16 "KeylessHallModel" "state" "[I", Cond.fieldLink RX5 103 "KeylessHallModel" "groups" "I", Cond.fieldLink RX5 40 "KeylessHallModel" "how" "[I", Cond.fieldLink RX5 43 "KeylessHallModel" "roomOf" "[I", Cond.fieldLink RX5 49 "KeylessHallModel" "solved" "[I", Cond.fieldLink RX5 22 "KeylessHallModel" "forgotten" "[I", Cond.fieldLink RX5 46 "KeylessHallModel" "holds" "[I", Cond.fieldLink RX5 7 "KeylessHallModel" "first" "[I", Cond.fieldLink RX5 52 "KeylessHallModel" "came" "[I", Cond.fieldLink RX5 141 "KeylessHallModel" "minute" "I", Cond.fieldLink RX5 83 "KeylessHallModel" "bookHow" "[I", Cond.fieldLink RX5 86 "KeylessHallModel" "bookGroup" "[I", Cond.fieldLink RX5 25 "KeylessHallModel" "groupIn" "[I", Cond.methodLink RX5 123 yX5_isRoom, Cond.instanceMethod yX5_isRoom, Cond.selects RX5 yX5_isRoom yX5_isRoom, Cond.initialized RX5, Cond.code yX5_isRoom cX5_isRoom 2 (some .boolean), Cond.fieldLink RX5 96 "KeylessHallModel" "rooms" "I", Cond.methodLink RX5 99 yX5_in, Cond.static yX5_in, Cond.code yX5_in cX5_in 3 (some .boolean), Cond.methodLink RX5 147 yX5_bookingFor, Cond.instanceMethod yX5_bookingFor]
def wsX5_come_r2 : List Cond := [Cond.selects RX5 yX5_bookingFor yX5_bookingFor, Cond.code yX5_bookingFor cX5_bookingFor 3 (some .int), Cond.fieldLink RX5 106 "KeylessHallModel" "bookings" "I", Cond.fieldLink RX5 77 "KeylessHallModel" "bookRoom" "[I", Cond.fieldLink RX5 80 "KeylessHallModel" "bookMinute" "[I", Cond.methodLink RX5 130 yX5_isLeavable, Cond.instanceMethod yX5_isLeavable, Cond.selects RX5 yX5_isLeavable yX5_isLeavable, Cond.code yX5_isLeavable cX5_isLeavable 2 (some .boolean), Cond.fieldLink RX5 13 "KeylessHallModel" "many" "[I", Cond.methodLink RX5 116 yX5_hadOf, Cond.instanceMethod yX5_hadOf, Cond.selects RX5 yX5_hadOf yX5_hadOf, Cond.code yX5_hadOf cX5_hadOf 6 (some .int), Cond.fieldLink RX5 28 "KeylessHallModel" "needs" "[I", Cond.fieldLink RX5 31 "KeylessHallModel" "gives" "[I", Cond.methodLink RX5 112 yX5_isOut, Cond.instanceMethod yX5_isOut, Cond.selects RX5 yX5_isOut yX5_isOut, Cond.code yX5_isOut cX5_isOut 2 (some .boolean), Cond.fieldLink RX5 34 "KeylessHallModel" "prop" "[I", Cond.fieldLink RX5 109 "KeylessHallModel" "broken" "I", Cond.methodLink RX5 150 yX5_isNear, Cond.instanceMethod yX5_isNear]
def wsX5_come_r3 : List Cond := [Cond.selects RX5 yX5_isNear yX5_isNear, Cond.code yX5_isNear cX5_isNear 4 (some .boolean), Cond.methodLink RX5 144 yX5_gapOf, Cond.instanceMethod yX5_gapOf, Cond.selects RX5 yX5_gapOf yX5_gapOf, Cond.code yX5_gapOf cX5_gapOf 4 (some .int), Cond.fieldLink RX5 37 "KeylessHallModel" "takes" "[I", Cond.methodLink RX5 120 yX5_refused, Cond.instanceMethod yX5_refused, Cond.selects RX5 yX5_refused yX5_refused, Cond.code yX5_refused cX5_refused 2 (some .boolean), Cond.fieldLink RX5 92 "KeylessHallModel" "thrown" "I", Cond.methodLink RX5 133 yX5_heldBy, Cond.instanceMethod yX5_heldBy, Cond.selects RX5 yX5_heldBy yX5_heldBy, Cond.code yX5_heldBy cX5_heldBy 6 (some .int), Cond.methodLink RX5 126 yX5_leaves, Cond.instanceMethod yX5_leaves, Cond.selects RX5 yX5_leaves yX5_leaves, Cond.code yX5_leaves cX5_leaves 4 none, Cond.fieldLink RX5 19 "KeylessHallModel" "toReset" "[I"]
def wsX5_come : List Cond := .code yX5_come cX5_come 6 (some .int) :: ((wsX5_come_r1 ++ (wsX5_come_r2 ++ wsX5_come_r3)) ++ wsX50)
def wsX5_maySolve : List Cond := .code yX5_maySolve cX5_maySolve 4 (some .boolean) :: ([.fieldLink RX5 43 "KeylessHallModel" "roomOf" "[I", .fieldLink RX5 49 "KeylessHallModel" "solved" "[I", .fieldLink RX5 28 "KeylessHallModel" "needs" "[I", .fieldLink RX5 46 "KeylessHallModel" "holds" "[I", .methodLink RX5 112 yX5_isOut, .instanceMethod yX5_isOut, .selects RX5 yX5_isOut yX5_isOut, .initialized RX5, .code yX5_isOut cX5_isOut 2 (some .boolean), .fieldLink RX5 34 "KeylessHallModel" "prop" "[I", .fieldLink RX5 109 "KeylessHallModel" "broken" "I"] ++ wsX50)
def wsX5_solve_r1 : List Cond := [Cond.fieldLink RX5 13 "KeylessHallModel" "many" "[I", Cond.fieldLink RX5 43 "KeylessHallModel" "roomOf" "[I", Cond.fieldLink RX5 40 "KeylessHallModel" "how" "[I", Cond.fieldLink RX5 49 "KeylessHallModel" "solved" "[I", Cond.fieldLink RX5 46 "KeylessHallModel" "holds" "[I", Cond.fieldLink RX5 31 "KeylessHallModel" "gives" "[I", Cond.methodLink RX5 153 yX5_isGroup, Cond.instanceMethod yX5_isGroup, Cond.selects RX5 yX5_isGroup yX5_isGroup, Cond.initialized RX5, Cond.code yX5_isGroup cX5_isGroup 2 (some .boolean), Cond.fieldLink RX5 103 "KeylessHallModel" "groups" "I", Cond.methodLink RX5 99 yX5_in, Cond.static yX5_in, Cond.code yX5_in cX5_in 3 (some .boolean), Cond.methodLink RX5 156 yX5_maySolve, Cond.instanceMethod yX5_maySolve, Cond.selects RX5 yX5_maySolve yX5_maySolve, Cond.code yX5_maySolve cX5_maySolve 4 (some .boolean), Cond.fieldLink RX5 28 "KeylessHallModel" "needs" "[I", Cond.methodLink RX5 112 yX5_isOut, Cond.instanceMethod yX5_isOut, Cond.selects RX5 yX5_isOut yX5_isOut, Cond.code yX5_isOut cX5_isOut 2 (some .boolean)]
def wsX5_solve_r2 : List Cond := [Cond.fieldLink RX5 34 "KeylessHallModel" "prop" "[I", Cond.fieldLink RX5 109 "KeylessHallModel" "broken" "I", Cond.methodLink RX5 120 yX5_refused, Cond.instanceMethod yX5_refused, Cond.selects RX5 yX5_refused yX5_refused, Cond.code yX5_refused cX5_refused 2 (some .boolean), Cond.fieldLink RX5 92 "KeylessHallModel" "thrown" "I", Cond.methodLink RX5 126 yX5_leaves, Cond.instanceMethod yX5_leaves, Cond.selects RX5 yX5_leaves yX5_leaves, Cond.code yX5_leaves cX5_leaves 4 none, Cond.fieldLink RX5 16 "KeylessHallModel" "state" "[I", Cond.fieldLink RX5 19 "KeylessHallModel" "toReset" "[I", Cond.fieldLink RX5 25 "KeylessHallModel" "groupIn" "[I"]
def wsX5_solve : List Cond := .code yX5_solve cX5_solve 4 (some .int) :: ((wsX5_solve_r1 ++ wsX5_solve_r2) ++ wsX50)
def wsX5_count : List Cond := .code yX5_count cX5_count 3 (some .int) :: ([])
def wsX5_isWay : List Cond := .code yX5_isWay cX5_isWay 10 (some .boolean) :: ([.fieldLink RX5 43 "KeylessHallModel" "roomOf" "[I", .fieldLink RX5 46 "KeylessHallModel" "holds" "[I", .fieldLink RX5 13 "KeylessHallModel" "many" "[I", .fieldLink RX5 49 "KeylessHallModel" "solved" "[I", .fieldLink RX5 28 "KeylessHallModel" "needs" "[I", .methodLink RX5 133 yX5_heldBy, .instanceMethod yX5_heldBy, .selects RX5 yX5_heldBy yX5_heldBy, .initialized RX5, .code yX5_heldBy cX5_heldBy 6 (some .int), .fieldLink RX5 31 "KeylessHallModel" "gives" "[I", .methodLink RX5 112 yX5_isOut, .instanceMethod yX5_isOut, .selects RX5 yX5_isOut yX5_isOut, .code yX5_isOut cX5_isOut 2 (some .boolean), .fieldLink RX5 34 "KeylessHallModel" "prop" "[I", .fieldLink RX5 109 "KeylessHallModel" "broken" "I"] ++ wsX50)
def wsX5_wayOf : List Cond := .code yX5_wayOf cX5_wayOf 4 (some .int) :: ([.fieldLink RX5 13 "KeylessHallModel" "many" "[I", .fieldLink RX5 43 "KeylessHallModel" "roomOf" "[I", .methodLink RX5 160 yX5_count, .static yX5_count, .initialized RX5, .code yX5_count cX5_count 3 (some .int), .methodLink RX5 163 yX5_isWay, .instanceMethod yX5_isWay, .selects RX5 yX5_isWay yX5_isWay, .code yX5_isWay cX5_isWay 10 (some .boolean), .fieldLink RX5 46 "KeylessHallModel" "holds" "[I", .fieldLink RX5 49 "KeylessHallModel" "solved" "[I", .fieldLink RX5 28 "KeylessHallModel" "needs" "[I", .methodLink RX5 133 yX5_heldBy, .instanceMethod yX5_heldBy, .selects RX5 yX5_heldBy yX5_heldBy, .code yX5_heldBy cX5_heldBy 6 (some .int), .fieldLink RX5 31 "KeylessHallModel" "gives" "[I", .methodLink RX5 112 yX5_isOut, .instanceMethod yX5_isOut, .selects RX5 yX5_isOut yX5_isOut, .code yX5_isOut cX5_isOut 2 (some .boolean), .fieldLink RX5 34 "KeylessHallModel" "prop" "[I", .fieldLink RX5 109 "KeylessHallModel" "broken" "I"] ++ wsX50)
def wsX5_left : List Cond := .code yX5_left cX5_left 2 (some .int) :: ([.fieldLink RX5 55 "KeylessHallModel" "cost" "[I", .fieldLink RX5 141 "KeylessHallModel" "minute" "I", .fieldLink RX5 52 "KeylessHallModel" "came" "[I"] ++ wsX50)
def wsX5_hint_r1 : List Cond := [Cond.fieldLink RX5 40 "KeylessHallModel" "how" "[I", Cond.fieldLink RX5 55 "KeylessHallModel" "cost" "[I", Cond.fieldLink RX5 61 "KeylessHallModel" "hintsFor" "[I", Cond.fieldLink RX5 58 "KeylessHallModel" "hintsGot" "[I", Cond.methodLink RX5 153 yX5_isGroup, Cond.instanceMethod yX5_isGroup, Cond.selects RX5 yX5_isGroup yX5_isGroup, Cond.initialized RX5, Cond.code yX5_isGroup cX5_isGroup 2 (some .boolean), Cond.fieldLink RX5 103 "KeylessHallModel" "groups" "I", Cond.methodLink RX5 99 yX5_in, Cond.static yX5_in, Cond.code yX5_in cX5_in 3 (some .boolean), Cond.methodLink RX5 120 yX5_refused, Cond.instanceMethod yX5_refused, Cond.selects RX5 yX5_refused yX5_refused, Cond.code yX5_refused cX5_refused 2 (some .boolean), Cond.fieldLink RX5 92 "KeylessHallModel" "thrown" "I", Cond.methodLink RX5 166 yX5_wayOf, Cond.instanceMethod yX5_wayOf, Cond.selects RX5 yX5_wayOf yX5_wayOf, Cond.code yX5_wayOf cX5_wayOf 4 (some .int), Cond.fieldLink RX5 13 "KeylessHallModel" "many" "[I", Cond.fieldLink RX5 43 "KeylessHallModel" "roomOf" "[I"]
def wsX5_hint_r2 : List Cond := [Cond.methodLink RX5 160 yX5_count, Cond.static yX5_count, Cond.code yX5_count cX5_count 3 (some .int), Cond.methodLink RX5 163 yX5_isWay, Cond.instanceMethod yX5_isWay, Cond.selects RX5 yX5_isWay yX5_isWay, Cond.code yX5_isWay cX5_isWay 10 (some .boolean), Cond.fieldLink RX5 46 "KeylessHallModel" "holds" "[I", Cond.fieldLink RX5 49 "KeylessHallModel" "solved" "[I", Cond.fieldLink RX5 28 "KeylessHallModel" "needs" "[I", Cond.methodLink RX5 133 yX5_heldBy, Cond.instanceMethod yX5_heldBy, Cond.selects RX5 yX5_heldBy yX5_heldBy, Cond.code yX5_heldBy cX5_heldBy 6 (some .int), Cond.fieldLink RX5 31 "KeylessHallModel" "gives" "[I", Cond.methodLink RX5 112 yX5_isOut, Cond.instanceMethod yX5_isOut, Cond.selects RX5 yX5_isOut yX5_isOut, Cond.code yX5_isOut cX5_isOut 2 (some .boolean), Cond.fieldLink RX5 34 "KeylessHallModel" "prop" "[I", Cond.fieldLink RX5 109 "KeylessHallModel" "broken" "I", Cond.methodLink RX5 156 yX5_maySolve, Cond.instanceMethod yX5_maySolve, Cond.selects RX5 yX5_maySolve yX5_maySolve]
def wsX5_hint_r3 : List Cond := [Cond.code yX5_maySolve cX5_maySolve 4 (some .boolean), Cond.methodLink RX5 169 yX5_left, Cond.instanceMethod yX5_left, Cond.selects RX5 yX5_left yX5_left, Cond.code yX5_left cX5_left 2 (some .int), Cond.fieldLink RX5 141 "KeylessHallModel" "minute" "I", Cond.fieldLink RX5 52 "KeylessHallModel" "came" "[I", Cond.methodLink RX5 126 yX5_leaves, Cond.instanceMethod yX5_leaves, Cond.selects RX5 yX5_leaves yX5_leaves, Cond.code yX5_leaves cX5_leaves 4 none, Cond.fieldLink RX5 16 "KeylessHallModel" "state" "[I", Cond.fieldLink RX5 19 "KeylessHallModel" "toReset" "[I", Cond.fieldLink RX5 25 "KeylessHallModel" "groupIn" "[I"]
def wsX5_hint : List Cond := .code yX5_hint cX5_hint 6 (some .int) :: ((wsX5_hint_r1 ++ (wsX5_hint_r2 ++ wsX5_hint_r3)) ++ wsX50)
def wsX5_giveUp : List Cond := .code yX5_giveUp cX5_giveUp 3 none :: ([.fieldLink RX5 40 "KeylessHallModel" "how" "[I", .methodLink RX5 153 yX5_isGroup, .instanceMethod yX5_isGroup, .selects RX5 yX5_isGroup yX5_isGroup, .initialized RX5, .code yX5_isGroup cX5_isGroup 2 (some .boolean), .fieldLink RX5 103 "KeylessHallModel" "groups" "I", .methodLink RX5 99 yX5_in, .static yX5_in, .code yX5_in cX5_in 3 (some .boolean), .methodLink RX5 120 yX5_refused, .instanceMethod yX5_refused, .selects RX5 yX5_refused yX5_refused, .code yX5_refused cX5_refused 2 (some .boolean), .fieldLink RX5 92 "KeylessHallModel" "thrown" "I", .methodLink RX5 126 yX5_leaves, .instanceMethod yX5_leaves, .selects RX5 yX5_leaves yX5_leaves, .code yX5_leaves cX5_leaves 4 none, .fieldLink RX5 43 "KeylessHallModel" "roomOf" "[I", .fieldLink RX5 16 "KeylessHallModel" "state" "[I", .fieldLink RX5 19 "KeylessHallModel" "toReset" "[I", .fieldLink RX5 49 "KeylessHallModel" "solved" "[I", .fieldLink RX5 25 "KeylessHallModel" "groupIn" "[I"] ++ wsX50)
def wsX5_nextToReset : List Cond := .code yX5_nextToReset cX5_nextToReset 8 (some .int) :: ([.fieldLink RX5 13 "KeylessHallModel" "many" "[I", .fieldLink RX5 19 "KeylessHallModel" "toReset" "[I", .fieldLink RX5 31 "KeylessHallModel" "gives" "[I", .fieldLink RX5 7 "KeylessHallModel" "first" "[I", .fieldLink RX5 28 "KeylessHallModel" "needs" "[I"] ++ wsX50)
def wsX5_isDone : List Cond := .code yX5_isDone cX5_isDone 2 none :: ([.fieldLink RX5 16 "KeylessHallModel" "state" "[I", .fieldLink RX5 64 "KeylessHallModel" "crewRoom" "[I", .fieldLink RX5 67 "KeylessHallModel" "crewPuzzle" "[I"] ++ wsX50)
def wsX5_begins : List Cond := .code yX5_begins cX5_begins 4 none :: ([.fieldLink RX5 64 "KeylessHallModel" "crewRoom" "[I", .fieldLink RX5 73 "KeylessHallModel" "crewChecks" "[Z", .fieldLink RX5 22 "KeylessHallModel" "forgotten" "[I", .fieldLink RX5 19 "KeylessHallModel" "toReset" "[I", .fieldLink RX5 67 "KeylessHallModel" "crewPuzzle" "[I", .fieldLink RX5 70 "KeylessHallModel" "crewLeft" "[I", .fieldLink RX5 37 "KeylessHallModel" "takes" "[I", .methodLink RX5 172 yX5_nextToReset, .instanceMethod yX5_nextToReset, .selects RX5 yX5_nextToReset yX5_nextToReset, .initialized RX5, .code yX5_nextToReset cX5_nextToReset 8 (some .int), .fieldLink RX5 13 "KeylessHallModel" "many" "[I", .fieldLink RX5 31 "KeylessHallModel" "gives" "[I", .fieldLink RX5 7 "KeylessHallModel" "first" "[I", .fieldLink RX5 28 "KeylessHallModel" "needs" "[I", .methodLink RX5 175 yX5_isDone, .instanceMethod yX5_isDone, .selects RX5 yX5_isDone yX5_isDone, .code yX5_isDone cX5_isDone 2 none, .fieldLink RX5 16 "KeylessHallModel" "state" "[I"] ++ wsX50)
def wsX5_reset_r1 : List Cond := [Cond.fieldLink RX5 16 "KeylessHallModel" "state" "[I", Cond.fieldLink RX5 64 "KeylessHallModel" "crewRoom" "[I", Cond.fieldLink RX5 22 "KeylessHallModel" "forgotten" "[I", Cond.fieldLink RX5 73 "KeylessHallModel" "crewChecks" "[Z", Cond.methodLink RX5 123 yX5_isRoom, Cond.instanceMethod yX5_isRoom, Cond.selects RX5 yX5_isRoom yX5_isRoom, Cond.initialized RX5, Cond.code yX5_isRoom cX5_isRoom 2 (some .boolean), Cond.fieldLink RX5 96 "KeylessHallModel" "rooms" "I", Cond.methodLink RX5 99 yX5_in, Cond.static yX5_in, Cond.code yX5_in cX5_in 3 (some .boolean), Cond.methodLink RX5 179 yX5_isCrew, Cond.static yX5_isCrew, Cond.code yX5_isCrew cX5_isCrew 1 (some .boolean), Cond.methodLink RX5 120 yX5_refused, Cond.instanceMethod yX5_refused, Cond.selects RX5 yX5_refused yX5_refused, Cond.code yX5_refused cX5_refused 2 (some .boolean), Cond.fieldLink RX5 92 "KeylessHallModel" "thrown" "I", Cond.methodLink RX5 182 yX5_begins, Cond.instanceMethod yX5_begins, Cond.selects RX5 yX5_begins yX5_begins]
def wsX5_reset_r2 : List Cond := [Cond.code yX5_begins cX5_begins 4 none, Cond.fieldLink RX5 19 "KeylessHallModel" "toReset" "[I", Cond.fieldLink RX5 67 "KeylessHallModel" "crewPuzzle" "[I", Cond.fieldLink RX5 70 "KeylessHallModel" "crewLeft" "[I", Cond.fieldLink RX5 37 "KeylessHallModel" "takes" "[I", Cond.methodLink RX5 172 yX5_nextToReset, Cond.instanceMethod yX5_nextToReset, Cond.selects RX5 yX5_nextToReset yX5_nextToReset, Cond.code yX5_nextToReset cX5_nextToReset 8 (some .int), Cond.fieldLink RX5 13 "KeylessHallModel" "many" "[I", Cond.fieldLink RX5 31 "KeylessHallModel" "gives" "[I", Cond.fieldLink RX5 7 "KeylessHallModel" "first" "[I", Cond.fieldLink RX5 28 "KeylessHallModel" "needs" "[I", Cond.methodLink RX5 175 yX5_isDone, Cond.instanceMethod yX5_isDone, Cond.selects RX5 yX5_isDone yX5_isDone, Cond.code yX5_isDone cX5_isDone 2 none]
def wsX5_reset : List Cond := .code yX5_reset cX5_reset 5 none :: ((wsX5_reset_r1 ++ wsX5_reset_r2) ++ wsX50)
def wsX5_forget_r1 : List Cond := [Cond.fieldLink RX5 67 "KeylessHallModel" "crewPuzzle" "[I", Cond.fieldLink RX5 64 "KeylessHallModel" "crewRoom" "[I", Cond.fieldLink RX5 19 "KeylessHallModel" "toReset" "[I", Cond.fieldLink RX5 22 "KeylessHallModel" "forgotten" "[I", Cond.methodLink RX5 179 yX5_isCrew, Cond.static yX5_isCrew, Cond.initialized RX5, Cond.code yX5_isCrew cX5_isCrew 1 (some .boolean), Cond.methodLink RX5 99 yX5_in, Cond.static yX5_in, Cond.code yX5_in cX5_in 3 (some .boolean), Cond.methodLink RX5 120 yX5_refused, Cond.instanceMethod yX5_refused, Cond.selects RX5 yX5_refused yX5_refused, Cond.code yX5_refused cX5_refused 2 (some .boolean), Cond.fieldLink RX5 92 "KeylessHallModel" "thrown" "I", Cond.methodLink RX5 182 yX5_begins, Cond.instanceMethod yX5_begins, Cond.selects RX5 yX5_begins yX5_begins, Cond.code yX5_begins cX5_begins 4 none, Cond.fieldLink RX5 73 "KeylessHallModel" "crewChecks" "[Z", Cond.fieldLink RX5 70 "KeylessHallModel" "crewLeft" "[I", Cond.fieldLink RX5 37 "KeylessHallModel" "takes" "[I", Cond.methodLink RX5 172 yX5_nextToReset]
def wsX5_forget_r2 : List Cond := [Cond.instanceMethod yX5_nextToReset, Cond.selects RX5 yX5_nextToReset yX5_nextToReset, Cond.code yX5_nextToReset cX5_nextToReset 8 (some .int), Cond.fieldLink RX5 13 "KeylessHallModel" "many" "[I", Cond.fieldLink RX5 31 "KeylessHallModel" "gives" "[I", Cond.fieldLink RX5 7 "KeylessHallModel" "first" "[I", Cond.fieldLink RX5 28 "KeylessHallModel" "needs" "[I", Cond.methodLink RX5 175 yX5_isDone, Cond.instanceMethod yX5_isDone, Cond.selects RX5 yX5_isDone yX5_isDone, Cond.code yX5_isDone cX5_isDone 2 none, Cond.fieldLink RX5 16 "KeylessHallModel" "state" "[I"]
def wsX5_forget : List Cond := .code yX5_forget cX5_forget 5 (some .int) :: ((wsX5_forget_r1 ++ wsX5_forget_r2) ++ wsX50)
def wsX5_canBook : List Cond := .code yX5_canBook cX5_canBook 7 (some .boolean) :: ([.fieldLink RX5 106 "KeylessHallModel" "bookings" "I", .fieldLink RX5 80 "KeylessHallModel" "bookMinute" "[I", .fieldLink RX5 77 "KeylessHallModel" "bookRoom" "[I", .fieldLink RX5 83 "KeylessHallModel" "bookHow" "[I", .methodLink RX5 144 yX5_gapOf, .instanceMethod yX5_gapOf, .selects RX5 yX5_gapOf yX5_gapOf, .initialized RX5, .code yX5_gapOf cX5_gapOf 4 (some .int), .fieldLink RX5 13 "KeylessHallModel" "many" "[I", .fieldLink RX5 37 "KeylessHallModel" "takes" "[I"] ++ wsX50)
def wsX5_book_r1 : List Cond := [Cond.fieldLink RX5 141 "KeylessHallModel" "minute" "I", Cond.fieldLink RX5 106 "KeylessHallModel" "bookings" "I", Cond.fieldLink RX5 77 "KeylessHallModel" "bookRoom" "[I", Cond.fieldLink RX5 80 "KeylessHallModel" "bookMinute" "[I", Cond.fieldLink RX5 83 "KeylessHallModel" "bookHow" "[I", Cond.fieldLink RX5 86 "KeylessHallModel" "bookGroup" "[I", Cond.methodLink RX5 123 yX5_isRoom, Cond.instanceMethod yX5_isRoom, Cond.selects RX5 yX5_isRoom yX5_isRoom, Cond.initialized RX5, Cond.code yX5_isRoom cX5_isRoom 2 (some .boolean), Cond.fieldLink RX5 96 "KeylessHallModel" "rooms" "I", Cond.methodLink RX5 99 yX5_in, Cond.static yX5_in, Cond.code yX5_in cX5_in 3 (some .boolean), Cond.methodLink RX5 185 yX5_canBook, Cond.instanceMethod yX5_canBook, Cond.selects RX5 yX5_canBook yX5_canBook, Cond.code yX5_canBook cX5_canBook 7 (some .boolean), Cond.methodLink RX5 144 yX5_gapOf, Cond.instanceMethod yX5_gapOf, Cond.selects RX5 yX5_gapOf yX5_gapOf, Cond.code yX5_gapOf cX5_gapOf 4 (some .int), Cond.fieldLink RX5 13 "KeylessHallModel" "many" "[I"]
def wsX5_book_r2 : List Cond := [Cond.fieldLink RX5 37 "KeylessHallModel" "takes" "[I", Cond.methodLink RX5 120 yX5_refused, Cond.instanceMethod yX5_refused, Cond.selects RX5 yX5_refused yX5_refused, Cond.code yX5_refused cX5_refused 2 (some .boolean), Cond.fieldLink RX5 92 "KeylessHallModel" "thrown" "I"]
def wsX5_book : List Cond := .code yX5_book cX5_book 4 (some .int) :: ((wsX5_book_r1 ++ wsX5_book_r2) ++ wsX50)
def wsX5_cancel : List Cond := .code yX5_cancel cX5_cancel 3 none :: ([.fieldLink RX5 83 "KeylessHallModel" "bookHow" "[I", .methodLink RX5 188 yX5_isBooking, .instanceMethod yX5_isBooking, .selects RX5 yX5_isBooking yX5_isBooking, .initialized RX5, .code yX5_isBooking cX5_isBooking 2 (some .boolean), .fieldLink RX5 106 "KeylessHallModel" "bookings" "I", .methodLink RX5 99 yX5_in, .static yX5_in, .code yX5_in cX5_in 3 (some .boolean), .methodLink RX5 120 yX5_refused, .instanceMethod yX5_refused, .selects RX5 yX5_refused yX5_refused, .code yX5_refused cX5_refused 2 (some .boolean), .fieldLink RX5 92 "KeylessHallModel" "thrown" "I"] ++ wsX50)
def wsX5_offer_r1 : List Cond := [Cond.fieldLink RX5 141 "KeylessHallModel" "minute" "I", Cond.methodLink RX5 123 yX5_isRoom, Cond.instanceMethod yX5_isRoom, Cond.selects RX5 yX5_isRoom yX5_isRoom, Cond.initialized RX5, Cond.code yX5_isRoom cX5_isRoom 2 (some .boolean), Cond.fieldLink RX5 96 "KeylessHallModel" "rooms" "I", Cond.methodLink RX5 99 yX5_in, Cond.static yX5_in, Cond.code yX5_in cX5_in 3 (some .boolean), Cond.methodLink RX5 120 yX5_refused, Cond.instanceMethod yX5_refused, Cond.selects RX5 yX5_refused yX5_refused, Cond.code yX5_refused cX5_refused 2 (some .boolean), Cond.fieldLink RX5 92 "KeylessHallModel" "thrown" "I", Cond.methodLink RX5 185 yX5_canBook, Cond.instanceMethod yX5_canBook, Cond.selects RX5 yX5_canBook yX5_canBook, Cond.code yX5_canBook cX5_canBook 7 (some .boolean), Cond.fieldLink RX5 106 "KeylessHallModel" "bookings" "I", Cond.fieldLink RX5 80 "KeylessHallModel" "bookMinute" "[I", Cond.fieldLink RX5 77 "KeylessHallModel" "bookRoom" "[I", Cond.fieldLink RX5 83 "KeylessHallModel" "bookHow" "[I", Cond.methodLink RX5 144 yX5_gapOf]
def wsX5_offer_r2 : List Cond := [Cond.instanceMethod yX5_gapOf, Cond.selects RX5 yX5_gapOf yX5_gapOf, Cond.code yX5_gapOf cX5_gapOf 4 (some .int), Cond.fieldLink RX5 13 "KeylessHallModel" "many" "[I", Cond.fieldLink RX5 37 "KeylessHallModel" "takes" "[I"]
def wsX5_offer : List Cond := .code yX5_offer cX5_offer 4 (some .int) :: ((wsX5_offer_r1 ++ wsX5_offer_r2) ++ wsX50)
def wsX5_works_r1 : List Cond := [Cond.fieldLink RX5 64 "KeylessHallModel" "crewRoom" "[I", Cond.fieldLink RX5 70 "KeylessHallModel" "crewLeft" "[I", Cond.fieldLink RX5 67 "KeylessHallModel" "crewPuzzle" "[I", Cond.fieldLink RX5 19 "KeylessHallModel" "toReset" "[I", Cond.methodLink RX5 175 yX5_isDone, Cond.instanceMethod yX5_isDone, Cond.selects RX5 yX5_isDone yX5_isDone, Cond.initialized RX5, Cond.code yX5_isDone cX5_isDone 2 none, Cond.fieldLink RX5 16 "KeylessHallModel" "state" "[I", Cond.methodLink RX5 182 yX5_begins, Cond.instanceMethod yX5_begins, Cond.selects RX5 yX5_begins yX5_begins, Cond.code yX5_begins cX5_begins 4 none, Cond.fieldLink RX5 73 "KeylessHallModel" "crewChecks" "[Z", Cond.fieldLink RX5 22 "KeylessHallModel" "forgotten" "[I", Cond.fieldLink RX5 37 "KeylessHallModel" "takes" "[I", Cond.methodLink RX5 172 yX5_nextToReset, Cond.instanceMethod yX5_nextToReset, Cond.selects RX5 yX5_nextToReset yX5_nextToReset, Cond.code yX5_nextToReset cX5_nextToReset 8 (some .int), Cond.fieldLink RX5 13 "KeylessHallModel" "many" "[I", Cond.fieldLink RX5 31 "KeylessHallModel" "gives" "[I", Cond.fieldLink RX5 7 "KeylessHallModel" "first" "[I"]
def wsX5_works_r2 : List Cond := [Cond.fieldLink RX5 28 "KeylessHallModel" "needs" "[I"]
def wsX5_works : List Cond := .code yX5_works cX5_works 2 none :: ((wsX5_works_r1 ++ wsX5_works_r2) ++ wsX50)
def wsX5_pass_r1 : List Cond := [Cond.fieldLink RX5 141 "KeylessHallModel" "minute" "I", Cond.fieldLink RX5 96 "KeylessHallModel" "rooms" "I", Cond.fieldLink RX5 16 "KeylessHallModel" "state" "[I", Cond.fieldLink RX5 25 "KeylessHallModel" "groupIn" "[I", Cond.fieldLink RX5 106 "KeylessHallModel" "bookings" "I", Cond.fieldLink RX5 83 "KeylessHallModel" "bookHow" "[I", Cond.fieldLink RX5 80 "KeylessHallModel" "bookMinute" "[I", Cond.methodLink RX5 99 yX5_in, Cond.static yX5_in, Cond.initialized RX5, Cond.code yX5_in cX5_in 3 (some .boolean), Cond.methodLink RX5 120 yX5_refused, Cond.instanceMethod yX5_refused, Cond.selects RX5 yX5_refused yX5_refused, Cond.code yX5_refused cX5_refused 2 (some .boolean), Cond.fieldLink RX5 92 "KeylessHallModel" "thrown" "I", Cond.methodLink RX5 169 yX5_left, Cond.instanceMethod yX5_left, Cond.selects RX5 yX5_left yX5_left, Cond.code yX5_left cX5_left 2 (some .int), Cond.fieldLink RX5 55 "KeylessHallModel" "cost" "[I", Cond.fieldLink RX5 52 "KeylessHallModel" "came" "[I", Cond.methodLink RX5 126 yX5_leaves, Cond.instanceMethod yX5_leaves]
def wsX5_pass_r2 : List Cond := [Cond.selects RX5 yX5_leaves yX5_leaves, Cond.code yX5_leaves cX5_leaves 4 none, Cond.fieldLink RX5 43 "KeylessHallModel" "roomOf" "[I", Cond.fieldLink RX5 40 "KeylessHallModel" "how" "[I", Cond.fieldLink RX5 19 "KeylessHallModel" "toReset" "[I", Cond.fieldLink RX5 49 "KeylessHallModel" "solved" "[I", Cond.methodLink RX5 191 yX5_works, Cond.instanceMethod yX5_works, Cond.selects RX5 yX5_works yX5_works, Cond.code yX5_works cX5_works 2 none, Cond.fieldLink RX5 64 "KeylessHallModel" "crewRoom" "[I", Cond.fieldLink RX5 70 "KeylessHallModel" "crewLeft" "[I", Cond.fieldLink RX5 67 "KeylessHallModel" "crewPuzzle" "[I", Cond.methodLink RX5 175 yX5_isDone, Cond.instanceMethod yX5_isDone, Cond.selects RX5 yX5_isDone yX5_isDone, Cond.code yX5_isDone cX5_isDone 2 none, Cond.methodLink RX5 182 yX5_begins, Cond.instanceMethod yX5_begins, Cond.selects RX5 yX5_begins yX5_begins, Cond.code yX5_begins cX5_begins 4 none, Cond.fieldLink RX5 73 "KeylessHallModel" "crewChecks" "[Z", Cond.fieldLink RX5 22 "KeylessHallModel" "forgotten" "[I", Cond.fieldLink RX5 37 "KeylessHallModel" "takes" "[I"]
def wsX5_pass_r3 : List Cond := [Cond.methodLink RX5 172 yX5_nextToReset, Cond.instanceMethod yX5_nextToReset, Cond.selects RX5 yX5_nextToReset yX5_nextToReset, Cond.code yX5_nextToReset cX5_nextToReset 8 (some .int), Cond.fieldLink RX5 13 "KeylessHallModel" "many" "[I", Cond.fieldLink RX5 31 "KeylessHallModel" "gives" "[I", Cond.fieldLink RX5 7 "KeylessHallModel" "first" "[I", Cond.fieldLink RX5 28 "KeylessHallModel" "needs" "[I"]
def wsX5_pass : List Cond := .code yX5_pass cX5_pass 4 (some .int) :: ((wsX5_pass_r1 ++ (wsX5_pass_r2 ++ wsX5_pass_r3)) ++ wsX50)
def wsX5_minute : List Cond := .code yX5_minute cX5_minute 1 (some .int) :: ([.fieldLink RX5 92 "KeylessHallModel" "thrown" "I", .fieldLink RX5 141 "KeylessHallModel" "minute" "I"] ++ wsX50)
def wsX5_state : List Cond := .code yX5_state cX5_state 3 (some .int) :: ([.fieldLink RX5 16 "KeylessHallModel" "state" "[I", .fieldLink RX5 19 "KeylessHallModel" "toReset" "[I", .fieldLink RX5 22 "KeylessHallModel" "forgotten" "[I", .fieldLink RX5 25 "KeylessHallModel" "groupIn" "[I", .methodLink RX5 123 yX5_isRoom, .instanceMethod yX5_isRoom, .selects RX5 yX5_isRoom yX5_isRoom, .initialized RX5, .code yX5_isRoom cX5_isRoom 2 (some .boolean), .fieldLink RX5 96 "KeylessHallModel" "rooms" "I", .methodLink RX5 99 yX5_in, .static yX5_in, .code yX5_in cX5_in 3 (some .boolean), .methodLink RX5 120 yX5_refused, .instanceMethod yX5_refused, .selects RX5 yX5_refused yX5_refused, .code yX5_refused cX5_refused 2 (some .boolean), .fieldLink RX5 92 "KeylessHallModel" "thrown" "I", .methodLink RX5 144 yX5_gapOf, .instanceMethod yX5_gapOf, .selects RX5 yX5_gapOf yX5_gapOf, .code yX5_gapOf cX5_gapOf 4 (some .int), .fieldLink RX5 13 "KeylessHallModel" "many" "[I", .fieldLink RX5 37 "KeylessHallModel" "takes" "[I"] ++ wsX50)
def wsX5_group_r1 : List Cond := [Cond.fieldLink RX5 40 "KeylessHallModel" "how" "[I", Cond.fieldLink RX5 43 "KeylessHallModel" "roomOf" "[I", Cond.fieldLink RX5 46 "KeylessHallModel" "holds" "[I", Cond.fieldLink RX5 49 "KeylessHallModel" "solved" "[I", Cond.fieldLink RX5 58 "KeylessHallModel" "hintsGot" "[I", Cond.methodLink RX5 153 yX5_isGroup, Cond.instanceMethod yX5_isGroup, Cond.selects RX5 yX5_isGroup yX5_isGroup, Cond.initialized RX5, Cond.code yX5_isGroup cX5_isGroup 2 (some .boolean), Cond.fieldLink RX5 103 "KeylessHallModel" "groups" "I", Cond.methodLink RX5 99 yX5_in, Cond.static yX5_in, Cond.code yX5_in cX5_in 3 (some .boolean), Cond.methodLink RX5 120 yX5_refused, Cond.instanceMethod yX5_refused, Cond.selects RX5 yX5_refused yX5_refused, Cond.code yX5_refused cX5_refused 2 (some .boolean), Cond.fieldLink RX5 92 "KeylessHallModel" "thrown" "I", Cond.methodLink RX5 169 yX5_left, Cond.instanceMethod yX5_left, Cond.selects RX5 yX5_left yX5_left, Cond.code yX5_left cX5_left 2 (some .int), Cond.fieldLink RX5 55 "KeylessHallModel" "cost" "[I"]
def wsX5_group_r2 : List Cond := [Cond.fieldLink RX5 141 "KeylessHallModel" "minute" "I", Cond.fieldLink RX5 52 "KeylessHallModel" "came" "[I"]
def wsX5_group : List Cond := .code yX5_group cX5_group 3 (some .int) :: ((wsX5_group_r1 ++ wsX5_group_r2) ++ wsX50)
def wsX5_crew : List Cond := .code yX5_crew cX5_crew 3 (some .int) :: ([.fieldLink RX5 64 "KeylessHallModel" "crewRoom" "[I", .fieldLink RX5 67 "KeylessHallModel" "crewPuzzle" "[I", .fieldLink RX5 70 "KeylessHallModel" "crewLeft" "[I", .methodLink RX5 179 yX5_isCrew, .static yX5_isCrew, .initialized RX5, .code yX5_isCrew cX5_isCrew 1 (some .boolean), .methodLink RX5 99 yX5_in, .static yX5_in, .code yX5_in cX5_in 3 (some .boolean), .methodLink RX5 120 yX5_refused, .instanceMethod yX5_refused, .selects RX5 yX5_refused yX5_refused, .code yX5_refused cX5_refused 2 (some .boolean), .fieldLink RX5 92 "KeylessHallModel" "thrown" "I"] ++ wsX50)
def wsX5_booking : List Cond := .code yX5_booking cX5_booking 3 (some .int) :: ([.fieldLink RX5 77 "KeylessHallModel" "bookRoom" "[I", .fieldLink RX5 80 "KeylessHallModel" "bookMinute" "[I", .fieldLink RX5 83 "KeylessHallModel" "bookHow" "[I", .fieldLink RX5 86 "KeylessHallModel" "bookGroup" "[I", .methodLink RX5 188 yX5_isBooking, .instanceMethod yX5_isBooking, .selects RX5 yX5_isBooking yX5_isBooking, .initialized RX5, .code yX5_isBooking cX5_isBooking 2 (some .boolean), .fieldLink RX5 106 "KeylessHallModel" "bookings" "I", .methodLink RX5 99 yX5_in, .static yX5_in, .code yX5_in cX5_in 3 (some .boolean), .methodLink RX5 120 yX5_refused, .instanceMethod yX5_refused, .selects RX5 yX5_refused yX5_refused, .code yX5_refused cX5_refused 2 (some .boolean), .fieldLink RX5 92 "KeylessHallModel" "thrown" "I"] ++ wsX50)
def wsJ9_abs_0f7a4 : List Cond := .code yJ9_abs_0f7a4 cJ9_abs_0f7a4 1 (some .int) :: ([])
def wsJ9_max_7cf53 : List Cond := .code yJ9_max_7cf53 cJ9_max_7cf53 2 (some .int) :: ([])
def wsL_room_r1 : List Cond := [Cond.classLink RL 13 "java/lang/IllegalArgumentException", Cond.classLink RL 15 "java/lang/IllegalStateException", Cond.methodLink RL 7 yX4_room, Cond.instanceMethod yX4_room, Cond.selects RX4 yX4_room yX4_room, Cond.initialized RX4, Cond.code yX4_room cX4_room 3 (some .int), Cond.classLink RX4 42 "java/lang/IllegalArgumentException", Cond.initialized "java/lang/IllegalArgumentException", Cond.classLink RX4 53 "java/lang/IllegalStateException", Cond.initialized "java/lang/IllegalStateException", Cond.fieldLink RX4 49 "KeylessHall" "roomCount" "I", Cond.fieldLink RX4 11 "KeylessHall" "rooms" "[LKeylessHall$Room;", Cond.classLink RX4 9 RX2, Cond.instantiable RX2 13, Cond.initialized RX2, Cond.methodLink RX4 38 yX4_areThings, Cond.static yX4_areThings, Cond.code yX4_areThings cX4_areThings 1 (some .boolean), Cond.methodLink RX4 58 yX2_init, Cond.instanceMethod yX2_init, Cond.code yX2_init cX2_init 3 none, Cond.methodLink RX2 3 objectInit, Cond.instanceMethod objectInit]
def wsL_room_r2 : List Cond := [Cond.code objectInit ⟨#[0xb1]⟩ 1 none, Cond.arrayClass .int, Cond.fieldLink RX2 9 "KeylessHall$Room" "needs" "[I", Cond.fieldLink RX2 15 "KeylessHall$Room" "gives" "[I", Cond.fieldLink RX2 18 "KeylessHall$Room" "props" "[I", Cond.fieldLink RX2 21 "KeylessHall$Room" "minutes" "[I", Cond.fieldLink RX2 24 "KeylessHall$Room" "gap" "I", Cond.fieldLink RX2 28 "KeylessHall$Room" "how" "I", Cond.fieldLink RX2 31 "KeylessHall$Room" "number" "I", Cond.fieldLink RX2 34 "KeylessHall$Room" "things" "I"]
def wsL_room : List Cond := .codeWith yL_room cL_room 4 (some .int) [(0, 9, 12, 13), (0, 9, 15, 15)] :: ((wsL_room_r1 ++ wsL_room_r2) ++ wsX40 ++ wsX20 ++ (vx_atS RX4 46 "java/lang/IllegalArgumentException" ["java/lang/RuntimeException", "java/lang/Exception"]).filter goodWord ++ (vx_atS RX4 57 "java/lang/IllegalStateException" ["java/lang/RuntimeException", "java/lang/Exception"]).filter goodWord)
def wsL_puzzle_r1 : List Cond := [Cond.classLink RL 21 "java/lang/IndexOutOfBoundsException", Cond.classLink RL 13 "java/lang/IllegalArgumentException", Cond.classLink RL 15 "java/lang/IllegalStateException", Cond.methodLink RL 17 yX4_puzzle, Cond.instanceMethod yX4_puzzle, Cond.selects RX4 yX4_puzzle yX4_puzzle, Cond.initialized RX4, Cond.code yX4_puzzle cX4_puzzle 7 (some .int), Cond.classLink RX4 68 "java/lang/IndexOutOfBoundsException", Cond.initialized "java/lang/IndexOutOfBoundsException", Cond.classLink RX4 42 "java/lang/IllegalArgumentException", Cond.initialized "java/lang/IllegalArgumentException", Cond.classLink RX4 53 "java/lang/IllegalStateException", Cond.initialized "java/lang/IllegalStateException", Cond.fieldLink RX4 77 "KeylessHall$Room" "how" "I", Cond.fieldLink RX4 80 "KeylessHall$Room" "puzzleCount" "I", Cond.methodLink RX4 61 yX4_roomNumbered, Cond.instanceMethod yX4_roomNumbered, Cond.selects RX4 yX4_roomNumbered yX4_roomNumbered, Cond.code yX4_roomNumbered cX4_roomNumbered 2 (some (.object "KeylessHall$Room")), Cond.fieldLink RX4 49 "KeylessHall" "roomCount" "I", Cond.fieldLink RX4 11 "KeylessHall" "rooms" "[LKeylessHall$Room;", Cond.methodLink RX4 65 yX4_isProp, Cond.static yX4_isProp]
def wsL_puzzle_r2 : List Cond := [Cond.code yX4_isProp cX4_isProp 1 (some .boolean), Cond.methodLink RX4 38 yX4_areThings, Cond.static yX4_areThings, Cond.code yX4_areThings cX4_areThings 1 (some .boolean), Cond.methodLink RX4 85 yX2_addPuzzle, Cond.instanceMethod yX2_addPuzzle, Cond.selects RX2 yX2_addPuzzle yX2_addPuzzle, Cond.initialized RX2, Cond.code yX2_addPuzzle cX2_addPuzzle 6 (some .int), Cond.fieldLink RX2 37 "KeylessHall$Room" "puzzleCount" "I", Cond.fieldLink RX2 9 "KeylessHall$Room" "needs" "[I", Cond.fieldLink RX2 15 "KeylessHall$Room" "gives" "[I", Cond.fieldLink RX2 18 "KeylessHall$Room" "props" "[I", Cond.fieldLink RX2 21 "KeylessHall$Room" "minutes" "[I", Cond.fieldLink RX2 24 "KeylessHall$Room" "gap" "I"]
def wsL_puzzle : List Cond := .codeWith yL_puzzle cL_puzzle 8 (some .int) [(0, 16, 19, 21), (0, 16, 23, 13), (0, 16, 27, 15)] :: ((wsL_puzzle_r1 ++ wsL_puzzle_r2) ++ wsX20 ++ wsX40 ++ (vx_atS RX4 72 "java/lang/IndexOutOfBoundsException" ["java/lang/RuntimeException", "java/lang/Exception"]).filter goodWord ++ (vx_atS RX4 46 "java/lang/IllegalArgumentException" ["java/lang/RuntimeException", "java/lang/Exception"]).filter goodWord ++ (vx_atS RX4 57 "java/lang/IllegalStateException" ["java/lang/RuntimeException", "java/lang/Exception"]).filter goodWord)
def wsL_prop_r1 : List Cond := [Cond.classLink RL 21 "java/lang/IndexOutOfBoundsException", Cond.methodLink RL 23 yX4_prop, Cond.instanceMethod yX4_prop, Cond.selects RX4 yX4_prop yX4_prop, Cond.initialized RX4, Cond.code yX4_prop cX4_prop 3 (some .int), Cond.classLink RX4 68 "java/lang/IndexOutOfBoundsException", Cond.initialized "java/lang/IndexOutOfBoundsException", Cond.fieldLink RX4 91 "KeylessHall" "brokenProps" "I", Cond.methodLink RX4 65 yX4_isProp, Cond.static yX4_isProp, Cond.code yX4_isProp cX4_isProp 1 (some .boolean), Cond.methodLink RX4 94 yX4_with, Cond.static yX4_with, Cond.code yX4_with cX4_with 2 (some .int), Cond.methodLink RX4 98 yX4_freeLockedIn, Cond.instanceMethod yX4_freeLockedIn, Cond.selects RX4 yX4_freeLockedIn yX4_freeLockedIn, Cond.code yX4_freeLockedIn cX4_freeLockedIn 5 (some .int), Cond.fieldLink RX4 49 "KeylessHall" "roomCount" "I", Cond.fieldLink RX4 11 "KeylessHall" "rooms" "[LKeylessHall$Room;", Cond.fieldLink RX4 273 "KeylessHall$Room" "players" "LKeylessHall$Group;", Cond.fieldLink RX4 166 "KeylessHall$Group" "held" "I", Cond.methodLink RX4 105 yX2_working]
def wsL_prop_r2 : List Cond := [Cond.instanceMethod yX2_working, Cond.selects RX2 yX2_working yX2_working, Cond.initialized RX2, Cond.code yX2_working cX2_working 4 (some .int), Cond.fieldLink RX2 37 "KeylessHall$Room" "puzzleCount" "I", Cond.fieldLink RX2 18 "KeylessHall$Room" "props" "[I", Cond.static yX4_has, Cond.code yX4_has cX4_has 2 (some .boolean), Cond.methodLink RX4 109 yX2_reach, Cond.instanceMethod yX2_reach, Cond.selects RX2 yX2_reach yX2_reach, Cond.code yX2_reach cX2_reach 6 (some .int), Cond.fieldLink RX2 15 "KeylessHall$Room" "gives" "[I", Cond.methodLink RX2 51 yX2_isSolvable, Cond.instanceMethod yX2_isSolvable, Cond.selects RX2 yX2_isSolvable yX2_isSolvable, Cond.code yX2_isSolvable cX2_isSolvable 3 (some .boolean), Cond.fieldLink RX2 9 "KeylessHall$Room" "needs" "[I", Cond.static yX4_isWithin, Cond.code yX4_isWithin cX4_isWithin 2 (some .boolean), Cond.methodLink RX4 123 yX4_has, Cond.methodLink RX4 201 yX4_leave, Cond.static yX4_leave, Cond.code yX4_leave cX4_leave 3 none]
def wsL_prop_r3 : List Cond := [Cond.fieldLink RX4 155 "KeylessHall$Group" "place" "LKeylessHall$Room;", Cond.fieldLink RX4 161 "KeylessHall$Group" "how" "I", Cond.fieldLink RX4 77 "KeylessHall$Room" "how" "I", Cond.fieldLink RX4 174 "KeylessHall$Group" "solved" "I", Cond.fieldLink RX4 228 "KeylessHall$Room" "toReset" "I", Cond.methodLink RX4 102 yX4_without, Cond.static yX4_without, Cond.code yX4_without cX4_without 2 (some .int)]
def wsL_prop : List Cond := .codeWith yL_prop cL_prop 5 (some .int) [(0, 10, 13, 21)] :: ((wsL_prop_r1 ++ (wsL_prop_r2 ++ wsL_prop_r3)) ++ wsX40 ++ wsX20 ++ wsX10 ++ (vx_atS RX4 72 "java/lang/IndexOutOfBoundsException" ["java/lang/RuntimeException", "java/lang/Exception"]).filter goodWord)
def wsL_had_r1 : List Cond := [Cond.classLink RL 21 "java/lang/IndexOutOfBoundsException", Cond.classLink RL 13 "java/lang/IllegalArgumentException", Cond.methodLink RL 27 yX4_had, Cond.instanceMethod yX4_had, Cond.selects RX4 yX4_had yX4_had, Cond.initialized RX4, Cond.code yX4_had cX4_had 4 (some .int), Cond.classLink RX4 42 "java/lang/IllegalArgumentException", Cond.initialized "java/lang/IllegalArgumentException", Cond.fieldLink RX4 91 "KeylessHall" "brokenProps" "I", Cond.methodLink RX4 61 yX4_roomNumbered, Cond.instanceMethod yX4_roomNumbered, Cond.selects RX4 yX4_roomNumbered yX4_roomNumbered, Cond.code yX4_roomNumbered cX4_roomNumbered 2 (some (.object "KeylessHall$Room")), Cond.classLink RX4 68 "java/lang/IndexOutOfBoundsException", Cond.initialized "java/lang/IndexOutOfBoundsException", Cond.fieldLink RX4 49 "KeylessHall" "roomCount" "I", Cond.fieldLink RX4 11 "KeylessHall" "rooms" "[LKeylessHall$Room;", Cond.methodLink RX4 38 yX4_areThings, Cond.static yX4_areThings, Cond.code yX4_areThings cX4_areThings 1 (some .boolean), Cond.methodLink RX4 105 yX2_working, Cond.instanceMethod yX2_working, Cond.selects RX2 yX2_working yX2_working]
def wsL_had_r2 : List Cond := [Cond.initialized RX2, Cond.code yX2_working cX2_working 4 (some .int), Cond.fieldLink RX2 37 "KeylessHall$Room" "puzzleCount" "I", Cond.fieldLink RX2 18 "KeylessHall$Room" "props" "[I", Cond.static yX4_has, Cond.code yX4_has cX4_has 2 (some .boolean), Cond.static yX4_with, Cond.code yX4_with cX4_with 2 (some .int), Cond.methodLink RX4 109 yX2_reach, Cond.instanceMethod yX2_reach, Cond.selects RX2 yX2_reach yX2_reach, Cond.code yX2_reach cX2_reach 6 (some .int), Cond.fieldLink RX2 15 "KeylessHall$Room" "gives" "[I", Cond.methodLink RX2 51 yX2_isSolvable, Cond.instanceMethod yX2_isSolvable, Cond.selects RX2 yX2_isSolvable yX2_isSolvable, Cond.code yX2_isSolvable cX2_isSolvable 3 (some .boolean), Cond.fieldLink RX2 9 "KeylessHall$Room" "needs" "[I", Cond.static yX4_isWithin, Cond.code yX4_isWithin cX4_isWithin 2 (some .boolean)]
def wsL_had : List Cond := .codeWith yL_had cL_had 5 (some .int) [(0, 10, 13, 21), (0, 10, 17, 13)] :: ((wsL_had_r1 ++ wsL_had_r2) ++ wsX40 ++ wsX20 ++ (vx_atS RX4 46 "java/lang/IllegalArgumentException" ["java/lang/RuntimeException", "java/lang/Exception"]).filter goodWord ++ (vx_atS RX4 72 "java/lang/IndexOutOfBoundsException" ["java/lang/RuntimeException", "java/lang/Exception"]).filter goodWord)
def wsL_canBeLeft_r1 : List Cond := [Cond.classLink RL 21 "java/lang/IndexOutOfBoundsException", Cond.methodLink RL 31 yX4_canBeLeft, Cond.instanceMethod yX4_canBeLeft, Cond.selects RX4 yX4_canBeLeft yX4_canBeLeft, Cond.initialized RX4, Cond.code yX4_canBeLeft cX4_canBeLeft 2 (some .boolean), Cond.methodLink RX4 61 yX4_roomNumbered, Cond.instanceMethod yX4_roomNumbered, Cond.selects RX4 yX4_roomNumbered yX4_roomNumbered, Cond.code yX4_roomNumbered cX4_roomNumbered 2 (some (.object "KeylessHall$Room")), Cond.classLink RX4 68 "java/lang/IndexOutOfBoundsException", Cond.initialized "java/lang/IndexOutOfBoundsException", Cond.fieldLink RX4 49 "KeylessHall" "roomCount" "I", Cond.fieldLink RX4 11 "KeylessHall" "rooms" "[LKeylessHall$Room;", Cond.methodLink RX4 112 yX4_hasExit, Cond.instanceMethod yX4_hasExit, Cond.selects RX4 yX4_hasExit yX4_hasExit, Cond.code yX4_hasExit cX4_hasExit 2 (some .boolean), Cond.fieldLink RX4 80 "KeylessHall$Room" "puzzleCount" "I", Cond.fieldLink RX4 120 "KeylessHall$Room" "things" "I", Cond.fieldLink RX4 91 "KeylessHall" "brokenProps" "I", Cond.methodLink RX4 105 yX2_working, Cond.instanceMethod yX2_working, Cond.selects RX2 yX2_working yX2_working]
def wsL_canBeLeft_r2 : List Cond := [Cond.initialized RX2, Cond.code yX2_working cX2_working 4 (some .int), Cond.fieldLink RX2 37 "KeylessHall$Room" "puzzleCount" "I", Cond.fieldLink RX2 18 "KeylessHall$Room" "props" "[I", Cond.static yX4_has, Cond.code yX4_has cX4_has 2 (some .boolean), Cond.static yX4_with, Cond.code yX4_with cX4_with 2 (some .int), Cond.methodLink RX4 109 yX2_reach, Cond.instanceMethod yX2_reach, Cond.selects RX2 yX2_reach yX2_reach, Cond.code yX2_reach cX2_reach 6 (some .int), Cond.fieldLink RX2 15 "KeylessHall$Room" "gives" "[I", Cond.methodLink RX2 51 yX2_isSolvable, Cond.instanceMethod yX2_isSolvable, Cond.selects RX2 yX2_isSolvable yX2_isSolvable, Cond.code yX2_isSolvable cX2_isSolvable 3 (some .boolean), Cond.fieldLink RX2 9 "KeylessHall$Room" "needs" "[I", Cond.static yX4_isWithin, Cond.code yX4_isWithin cX4_isWithin 2 (some .boolean), Cond.methodLink RX4 123 yX4_has]
def wsL_canBeLeft : List Cond := .codeWith yL_canBeLeft cL_canBeLeft 4 (some .int) [(0, 16, 19, 21)] :: ((wsL_canBeLeft_r1 ++ wsL_canBeLeft_r2) ++ wsX40 ++ wsX20 ++ (vx_atS RX4 72 "java/lang/IndexOutOfBoundsException" ["java/lang/RuntimeException", "java/lang/Exception"]).filter goodWord)
def wsL_orders_r1 : List Cond := [Cond.classLink RL 21 "java/lang/IndexOutOfBoundsException", Cond.methodLink RL 35 yX4_orders, Cond.instanceMethod yX4_orders, Cond.selects RX4 yX4_orders yX4_orders, Cond.initialized RX4, Cond.code yX4_orders cX4_orders 2 (some .int), Cond.methodLink RX4 61 yX4_roomNumbered, Cond.instanceMethod yX4_roomNumbered, Cond.selects RX4 yX4_roomNumbered yX4_roomNumbered, Cond.code yX4_roomNumbered cX4_roomNumbered 2 (some (.object "KeylessHall$Room")), Cond.classLink RX4 68 "java/lang/IndexOutOfBoundsException", Cond.initialized "java/lang/IndexOutOfBoundsException", Cond.fieldLink RX4 49 "KeylessHall" "roomCount" "I", Cond.fieldLink RX4 11 "KeylessHall" "rooms" "[LKeylessHall$Room;", Cond.methodLink RX4 116 yX4_countOrdersBySets, Cond.instanceMethod yX4_countOrdersBySets, Cond.selects RX4 yX4_countOrdersBySets yX4_countOrdersBySets, Cond.code yX4_countOrdersBySets cX4_countOrdersBySets 7 (some .int), Cond.fieldLink RX4 91 "KeylessHall" "brokenProps" "I", Cond.fieldLink RX4 80 "KeylessHall$Room" "puzzleCount" "I", Cond.fieldLink RX4 33 "KeylessHall" "ways" "[I", Cond.fieldLink RX4 120 "KeylessHall$Room" "things" "I", Cond.methodLink RX4 105 yX2_working, Cond.instanceMethod yX2_working]
def wsL_orders_r2 : List Cond := [Cond.selects RX2 yX2_working yX2_working, Cond.initialized RX2, Cond.code yX2_working cX2_working 4 (some .int), Cond.fieldLink RX2 37 "KeylessHall$Room" "puzzleCount" "I", Cond.fieldLink RX2 18 "KeylessHall$Room" "props" "[I", Cond.static yX4_has, Cond.code yX4_has cX4_has 2 (some .boolean), Cond.static yX4_with, Cond.code yX4_with cX4_with 2 (some .int), Cond.methodLink RX4 315 yX2_givenBy, Cond.instanceMethod yX2_givenBy, Cond.selects RX2 yX2_givenBy yX2_givenBy, Cond.code yX2_givenBy cX2_givenBy 4 (some .int), Cond.fieldLink RX2 15 "KeylessHall$Room" "gives" "[I", Cond.methodLink RX4 123 yX4_has, Cond.methodLink RX4 318 yX4_addWaysBehind, Cond.instanceMethod yX4_addWaysBehind, Cond.selects RX4 yX4_addWaysBehind yX4_addWaysBehind, Cond.code yX4_addWaysBehind cX4_addWaysBehind 6 none, Cond.methodLink RX4 169 yX2_isSolvable, Cond.instanceMethod yX2_isSolvable, Cond.selects RX2 yX2_isSolvable yX2_isSolvable, Cond.code yX2_isSolvable cX2_isSolvable 3 (some .boolean), Cond.fieldLink RX2 9 "KeylessHall$Room" "needs" "[I"]
def wsL_orders_r3 : List Cond := [Cond.static yX4_isWithin, Cond.code yX4_isWithin cX4_isWithin 2 (some .boolean), Cond.methodLink RX4 94 yX4_with]
def wsL_orders : List Cond := .codeWith yL_orders cL_orders 4 (some .int) [(0, 9, 12, 21)] :: ((wsL_orders_r1 ++ (wsL_orders_r2 ++ wsL_orders_r3)) ++ wsX40 ++ wsX20 ++ (vx_atS RX4 72 "java/lang/IndexOutOfBoundsException" ["java/lang/RuntimeException", "java/lang/Exception"]).filter goodWord)
def wsL_ordersAnew_r1 : List Cond := [Cond.classLink RL 21 "java/lang/IndexOutOfBoundsException", Cond.methodLink RL 38 yX4_ordersAnew, Cond.instanceMethod yX4_ordersAnew, Cond.selects RX4 yX4_ordersAnew yX4_ordersAnew, Cond.initialized RX4, Cond.code yX4_ordersAnew cX4_ordersAnew 4 (some .int), Cond.fieldLink RX4 91 "KeylessHall" "brokenProps" "I", Cond.fieldLink RX4 120 "KeylessHall$Room" "things" "I", Cond.methodLink RX4 61 yX4_roomNumbered, Cond.instanceMethod yX4_roomNumbered, Cond.selects RX4 yX4_roomNumbered yX4_roomNumbered, Cond.code yX4_roomNumbered cX4_roomNumbered 2 (some (.object "KeylessHall$Room")), Cond.classLink RX4 68 "java/lang/IndexOutOfBoundsException", Cond.initialized "java/lang/IndexOutOfBoundsException", Cond.fieldLink RX4 49 "KeylessHall" "roomCount" "I", Cond.fieldLink RX4 11 "KeylessHall" "rooms" "[LKeylessHall$Room;", Cond.methodLink RX4 105 yX2_working, Cond.instanceMethod yX2_working, Cond.selects RX2 yX2_working yX2_working, Cond.initialized RX2, Cond.code yX2_working cX2_working 4 (some .int), Cond.fieldLink RX2 37 "KeylessHall$Room" "puzzleCount" "I", Cond.fieldLink RX2 18 "KeylessHall$Room" "props" "[I", Cond.static yX4_has]
def wsL_ordersAnew_r2 : List Cond := [Cond.code yX4_has cX4_has 2 (some .boolean), Cond.static yX4_with, Cond.code yX4_with cX4_with 2 (some .int), Cond.methodLink RX4 109 yX2_reach, Cond.instanceMethod yX2_reach, Cond.selects RX2 yX2_reach yX2_reach, Cond.code yX2_reach cX2_reach 6 (some .int), Cond.fieldLink RX2 15 "KeylessHall$Room" "gives" "[I", Cond.methodLink RX2 51 yX2_isSolvable, Cond.instanceMethod yX2_isSolvable, Cond.selects RX2 yX2_isSolvable yX2_isSolvable, Cond.code yX2_isSolvable cX2_isSolvable 3 (some .boolean), Cond.fieldLink RX2 9 "KeylessHall$Room" "needs" "[I", Cond.static yX4_isWithin, Cond.code yX4_isWithin cX4_isWithin 2 (some .boolean), Cond.methodLink RX4 123 yX4_has, Cond.methodLink RX4 127 yX4_countOrdersOneByOne, Cond.static yX4_countOrdersOneByOne, Cond.code yX4_countOrdersOneByOne cX4_countOrdersOneByOne 6 (some .int), Cond.fieldLink RX4 80 "KeylessHall$Room" "puzzleCount" "I", Cond.fieldLink RX4 177 "KeylessHall$Room" "gives" "[I", Cond.methodLink RX4 169 yX2_isSolvable, Cond.methodLink RX4 102 yX4_without, Cond.static yX4_without]
def wsL_ordersAnew_r3 : List Cond := [Cond.code yX4_without cX4_without 2 (some .int)]
def wsL_ordersAnew : List Cond := .codeWith yL_ordersAnew cL_ordersAnew 4 (some .int) [(0, 9, 12, 21)] :: ((wsL_ordersAnew_r1 ++ (wsL_ordersAnew_r2 ++ wsL_ordersAnew_r3)) ++ wsX40 ++ wsX20 ++ (vx_atS RX4 72 "java/lang/IndexOutOfBoundsException" ["java/lang/RuntimeException", "java/lang/Exception"]).filter goodWord)
def wsL_come_r1 : List Cond := [Cond.classLink RL 21 "java/lang/IndexOutOfBoundsException", Cond.classLink RL 15 "java/lang/IllegalStateException", Cond.methodLink RL 41 yX4_come, Cond.instanceMethod yX4_come, Cond.selects RX4 yX4_come yX4_come, Cond.initialized RX4, Cond.code yX4_come cX4_come 4 (some .int), Cond.classLink RX4 53 "java/lang/IllegalStateException", Cond.initialized "java/lang/IllegalStateException", Cond.fieldLink RX4 77 "KeylessHall$Room" "how" "I", Cond.fieldLink RX4 142 "KeylessHall" "groupCount" "I", Cond.methodLink RX4 61 yX4_roomNumbered, Cond.instanceMethod yX4_roomNumbered, Cond.selects RX4 yX4_roomNumbered yX4_roomNumbered, Cond.code yX4_roomNumbered cX4_roomNumbered 2 (some (.object "KeylessHall$Room")), Cond.classLink RX4 68 "java/lang/IndexOutOfBoundsException", Cond.initialized "java/lang/IndexOutOfBoundsException", Cond.fieldLink RX4 49 "KeylessHall" "roomCount" "I", Cond.fieldLink RX4 11 "KeylessHall" "rooms" "[LKeylessHall$Room;", Cond.methodLink RX4 112 yX4_hasExit, Cond.instanceMethod yX4_hasExit, Cond.selects RX4 yX4_hasExit yX4_hasExit, Cond.code yX4_hasExit cX4_hasExit 2 (some .boolean), Cond.fieldLink RX4 80 "KeylessHall$Room" "puzzleCount" "I"]
def wsL_come_r2 : List Cond := [Cond.fieldLink RX4 120 "KeylessHall$Room" "things" "I", Cond.fieldLink RX4 91 "KeylessHall" "brokenProps" "I", Cond.methodLink RX4 105 yX2_working, Cond.instanceMethod yX2_working, Cond.selects RX2 yX2_working yX2_working, Cond.initialized RX2, Cond.code yX2_working cX2_working 4 (some .int), Cond.fieldLink RX2 37 "KeylessHall$Room" "puzzleCount" "I", Cond.fieldLink RX2 18 "KeylessHall$Room" "props" "[I", Cond.static yX4_has, Cond.code yX4_has cX4_has 2 (some .boolean), Cond.static yX4_with, Cond.code yX4_with cX4_with 2 (some .int), Cond.methodLink RX4 109 yX2_reach, Cond.instanceMethod yX2_reach, Cond.selects RX2 yX2_reach yX2_reach, Cond.code yX2_reach cX2_reach 6 (some .int), Cond.fieldLink RX2 15 "KeylessHall$Room" "gives" "[I", Cond.methodLink RX2 51 yX2_isSolvable, Cond.instanceMethod yX2_isSolvable, Cond.selects RX2 yX2_isSolvable yX2_isSolvable, Cond.code yX2_isSolvable cX2_isSolvable 3 (some .boolean), Cond.fieldLink RX2 9 "KeylessHall$Room" "needs" "[I", Cond.static yX4_isWithin]
def wsL_come_r3 : List Cond := [Cond.code yX4_isWithin cX4_isWithin 2 (some .boolean), Cond.methodLink RX4 123 yX4_has, Cond.methodLink RX4 133 yX4_bookingDue, Cond.instanceMethod yX4_bookingDue, Cond.selects RX4 yX4_bookingDue yX4_bookingDue, Cond.code yX4_bookingDue cX4_bookingDue 4 (some (.object "KeylessHall$Booking")), Cond.fieldLink RX4 240 "KeylessHall" "bookingCount" "I", Cond.fieldLink RX4 23 "KeylessHall" "bookings" "[LKeylessHall$Booking;", Cond.fieldLink RX4 298 "KeylessHall$Booking" "place" "LKeylessHall$Room;", Cond.fieldLink RX4 252 "KeylessHall$Booking" "how" "I", Cond.fieldLink RX4 299 "KeylessHall$Booking" "begin" "I", Cond.fieldLink RX4 231 "KeylessHall" "now" "I", Cond.methodLink RX4 137 yX4_isKeptForBooking, Cond.instanceMethod yX4_isKeptForBooking, Cond.selects RX4 yX4_isKeptForBooking yX4_isKeptForBooking, Cond.code yX4_isKeptForBooking cX4_isKeptForBooking 4 (some .boolean), Cond.methodLink RX4 348 yX4_bookingDistance, Cond.static yX4_bookingDistance, Cond.code yX4_bookingDistance cX4_bookingDistance 1 (some .int), Cond.fieldLink RX4 280 "KeylessHall$Room" "gap" "I", Cond.methodLink RX4 147 yX4_letIn, Cond.instanceMethod yX4_letIn, Cond.selects RX4 yX4_letIn yX4_letIn, Cond.code yX4_letIn cX4_letIn 6 (some .int)]
def wsL_come_r4 : List Cond := [Cond.fieldLink RX4 212 "KeylessHall$Room" "forgotten" "I", Cond.classLink RX4 15 RX1, Cond.instantiable RX1 9, Cond.initialized RX1, Cond.fieldLink RX4 17 "KeylessHall" "groups" "[LKeylessHall$Group;", Cond.fieldLink RX4 273 "KeylessHall$Room" "players" "LKeylessHall$Group;", Cond.fieldLink RX4 302 "KeylessHall$Booking" "groupNumber" "I", Cond.methodLink RX4 315 yX2_givenBy, Cond.instanceMethod yX2_givenBy, Cond.selects RX2 yX2_givenBy yX2_givenBy, Cond.code yX2_givenBy cX2_givenBy 4 (some .int), Cond.methodLink RX4 330 yX1_init, Cond.instanceMethod yX1_init, Cond.code yX1_init cX1_init 6 none, Cond.methodLink RX1 3 objectInit, Cond.instanceMethod objectInit, Cond.code objectInit ⟨#[0xb1]⟩ 1 none, Cond.arrayClass .int, Cond.fieldLink RX1 9 "KeylessHall$Group" "hintsFor" "[I", Cond.fieldLink RX1 15 "KeylessHall$Group" "how" "I", Cond.fieldLink RX1 19 "KeylessHall$Group" "number" "I", Cond.fieldLink RX1 22 "KeylessHall$Group" "place" "LKeylessHall$Room;", Cond.fieldLink RX1 26 "KeylessHall$Group" "arrival" "I", Cond.fieldLink RX1 29 "KeylessHall$Group" "solved" "I"]
def wsL_come_r5 : List Cond := [Cond.fieldLink RX1 32 "KeylessHall$Group" "held" "I", Cond.methodLink RX4 180 yX4_leaveIfOut, Cond.static yX4_leaveIfOut, Cond.code yX4_leaveIfOut cX4_leaveIfOut 1 none, Cond.fieldLink RX4 166 "KeylessHall$Group" "held" "I", Cond.methodLink RX4 201 yX4_leave, Cond.static yX4_leave, Cond.code yX4_leave cX4_leave 3 none, Cond.fieldLink RX4 155 "KeylessHall$Group" "place" "LKeylessHall$Room;", Cond.fieldLink RX4 161 "KeylessHall$Group" "how" "I", Cond.fieldLink RX4 174 "KeylessHall$Group" "solved" "I", Cond.fieldLink RX4 228 "KeylessHall$Room" "toReset" "I"]
def wsL_come : List Cond := .codeWith yL_come cL_come 4 (some .int) [(0, 9, 12, 21), (0, 9, 15, 15)] :: ((wsL_come_r1 ++ (wsL_come_r2 ++ (wsL_come_r3 ++ (wsL_come_r4 ++ wsL_come_r5)))) ++ wsX20 ++ wsX40 ++ wsX00 ++ wsX10 ++ (vx_atS RX4 57 "java/lang/IllegalStateException" ["java/lang/RuntimeException", "java/lang/Exception"]).filter goodWord ++ (vx_atS RX4 72 "java/lang/IndexOutOfBoundsException" ["java/lang/RuntimeException", "java/lang/Exception"]).filter goodWord)
def wsL_solve_r1 : List Cond := [Cond.classLink RL 21 "java/lang/IndexOutOfBoundsException", Cond.classLink RL 15 "java/lang/IllegalStateException", Cond.methodLink RL 44 yX4_solve, Cond.instanceMethod yX4_solve, Cond.selects RX4 yX4_solve yX4_solve, Cond.initialized RX4, Cond.code yX4_solve cX4_solve 5 (some .int), Cond.classLink RX4 68 "java/lang/IndexOutOfBoundsException", Cond.initialized "java/lang/IndexOutOfBoundsException", Cond.classLink RX4 53 "java/lang/IllegalStateException", Cond.initialized "java/lang/IllegalStateException", Cond.fieldLink RX4 155 "KeylessHall$Group" "place" "LKeylessHall$Room;", Cond.fieldLink RX4 80 "KeylessHall$Room" "puzzleCount" "I", Cond.fieldLink RX4 161 "KeylessHall$Group" "how" "I", Cond.fieldLink RX4 166 "KeylessHall$Group" "held" "I", Cond.fieldLink RX4 174 "KeylessHall$Group" "solved" "I", Cond.fieldLink RX4 177 "KeylessHall$Room" "gives" "[I", Cond.methodLink RX4 151 yX4_groupNumbered, Cond.instanceMethod yX4_groupNumbered, Cond.selects RX4 yX4_groupNumbered yX4_groupNumbered, Cond.code yX4_groupNumbered cX4_groupNumbered 2 (some (.object "KeylessHall$Group")), Cond.fieldLink RX4 142 "KeylessHall" "groupCount" "I", Cond.fieldLink RX4 17 "KeylessHall" "groups" "[LKeylessHall$Group;", Cond.methodLink RX4 162 yX4_openTo]
def wsL_solve_r2 : List Cond := [Cond.instanceMethod yX4_openTo, Cond.selects RX4 yX4_openTo yX4_openTo, Cond.code yX4_openTo cX4_openTo 2 (some .int), Cond.fieldLink RX4 91 "KeylessHall" "brokenProps" "I", Cond.methodLink RX4 105 yX2_working, Cond.instanceMethod yX2_working, Cond.selects RX2 yX2_working yX2_working, Cond.initialized RX2, Cond.code yX2_working cX2_working 4 (some .int), Cond.fieldLink RX2 37 "KeylessHall$Room" "puzzleCount" "I", Cond.fieldLink RX2 18 "KeylessHall$Room" "props" "[I", Cond.static yX4_has, Cond.code yX4_has cX4_has 2 (some .boolean), Cond.static yX4_with, Cond.code yX4_with cX4_with 2 (some .int), Cond.methodLink RX4 123 yX4_has, Cond.methodLink RX4 169 yX2_isSolvable, Cond.instanceMethod yX2_isSolvable, Cond.selects RX2 yX2_isSolvable yX2_isSolvable, Cond.code yX2_isSolvable cX2_isSolvable 3 (some .boolean), Cond.fieldLink RX2 9 "KeylessHall$Room" "needs" "[I", Cond.static yX4_isWithin, Cond.code yX4_isWithin cX4_isWithin 2 (some .boolean), Cond.methodLink RX4 94 yX4_with]
def wsL_solve_r3 : List Cond := [Cond.methodLink RX4 180 yX4_leaveIfOut, Cond.static yX4_leaveIfOut, Cond.code yX4_leaveIfOut cX4_leaveIfOut 1 none, Cond.methodLink RX4 201 yX4_leave, Cond.static yX4_leave, Cond.code yX4_leave cX4_leave 3 none, Cond.fieldLink RX4 77 "KeylessHall$Room" "how" "I", Cond.fieldLink RX4 273 "KeylessHall$Room" "players" "LKeylessHall$Group;", Cond.fieldLink RX4 228 "KeylessHall$Room" "toReset" "I"]
def wsL_solve : List Cond := .codeWith yL_solve cL_solve 5 (some .int) [(0, 10, 13, 21), (0, 10, 17, 15)] :: ((wsL_solve_r1 ++ (wsL_solve_r2 ++ wsL_solve_r3)) ++ wsX10 ++ wsX20 ++ wsX40 ++ (vx_atS RX4 72 "java/lang/IndexOutOfBoundsException" ["java/lang/RuntimeException", "java/lang/Exception"]).filter goodWord ++ (vx_atS RX4 57 "java/lang/IllegalStateException" ["java/lang/RuntimeException", "java/lang/Exception"]).filter goodWord)
def wsL_hint_r1 : List Cond := [Cond.classLink RL 21 "java/lang/IndexOutOfBoundsException", Cond.classLink RL 15 "java/lang/IllegalStateException", Cond.methodLink RL 47 yX4_hint, Cond.instanceMethod yX4_hint, Cond.selects RX4 yX4_hint yX4_hint, Cond.initialized RX4, Cond.code yX4_hint cX4_hint 4 (some .int), Cond.classLink RX4 53 "java/lang/IllegalStateException", Cond.initialized "java/lang/IllegalStateException", Cond.fieldLink RX4 161 "KeylessHall$Group" "how" "I", Cond.fieldLink RX4 155 "KeylessHall$Group" "place" "LKeylessHall$Room;", Cond.fieldLink RX4 166 "KeylessHall$Group" "held" "I", Cond.methodLink RX4 151 yX4_groupNumbered, Cond.instanceMethod yX4_groupNumbered, Cond.selects RX4 yX4_groupNumbered yX4_groupNumbered, Cond.code yX4_groupNumbered cX4_groupNumbered 2 (some (.object "KeylessHall$Group")), Cond.classLink RX4 68 "java/lang/IndexOutOfBoundsException", Cond.initialized "java/lang/IndexOutOfBoundsException", Cond.fieldLink RX4 142 "KeylessHall" "groupCount" "I", Cond.fieldLink RX4 17 "KeylessHall" "groups" "[LKeylessHall$Group;", Cond.methodLink RX4 186 yX4_wayOf, Cond.instanceMethod yX4_wayOf, Cond.selects RX4 yX4_wayOf yX4_wayOf, Cond.code yX4_wayOf cX4_wayOf 8 (some .int)]
def wsL_hint_r2 : List Cond := [Cond.methodLink RX4 162 yX4_openTo, Cond.instanceMethod yX4_openTo, Cond.selects RX4 yX4_openTo yX4_openTo, Cond.code yX4_openTo cX4_openTo 2 (some .int), Cond.fieldLink RX4 91 "KeylessHall" "brokenProps" "I", Cond.fieldLink RX4 174 "KeylessHall$Group" "solved" "I", Cond.methodLink RX4 105 yX2_working, Cond.instanceMethod yX2_working, Cond.selects RX2 yX2_working yX2_working, Cond.initialized RX2, Cond.code yX2_working cX2_working 4 (some .int), Cond.fieldLink RX2 37 "KeylessHall$Room" "puzzleCount" "I", Cond.fieldLink RX2 18 "KeylessHall$Room" "props" "[I", Cond.static yX4_has, Cond.code yX4_has cX4_has 2 (some .boolean), Cond.static yX4_with, Cond.code yX4_with cX4_with 2 (some .int), Cond.methodLink RX4 322 yJ6_bitCount_0f7a4, Cond.static yJ6_bitCount_0f7a4, Cond.initialized RJ6, Cond.code yJ6_bitCount_0f7a4 cJ6_bitCount_0f7a4 1 (some .int), Cond.constant RJ6 265 (1431655765), Cond.constant RJ6 266 (858993459), Cond.constant RJ6 267 (252645135)]
def wsL_hint_r3 : List Cond := [Cond.methodLink RX4 327 yX4_isWithin, Cond.static yX4_isWithin, Cond.code yX4_isWithin cX4_isWithin 2 (some .boolean), Cond.methodLink RX4 109 yX2_reach, Cond.instanceMethod yX2_reach, Cond.selects RX2 yX2_reach yX2_reach, Cond.code yX2_reach cX2_reach 6 (some .int), Cond.fieldLink RX2 15 "KeylessHall$Room" "gives" "[I", Cond.methodLink RX2 51 yX2_isSolvable, Cond.instanceMethod yX2_isSolvable, Cond.selects RX2 yX2_isSolvable yX2_isSolvable, Cond.code yX2_isSolvable cX2_isSolvable 3 (some .boolean), Cond.fieldLink RX2 9 "KeylessHall$Room" "needs" "[I", Cond.methodLink RX4 123 yX4_has, Cond.methodLink RX4 189 yX2_lowestSolvable, Cond.instanceMethod yX2_lowestSolvable, Cond.selects RX2 yX2_lowestSolvable yX2_lowestSolvable, Cond.code yX2_lowestSolvable cX2_lowestSolvable 4 (some .int), Cond.methodLink RX4 194 yX1_takeHint, Cond.instanceMethod yX1_takeHint, Cond.selects RX1 yX1_takeHint yX1_takeHint, Cond.initialized RX1, Cond.code yX1_takeHint cX1_takeHint 2 none, Cond.fieldLink RX1 35 "KeylessHall$Group" "hintCost" "I"]
def wsL_hint_r4 : List Cond := [Cond.fieldLink RX1 9 "KeylessHall$Group" "hintsFor" "[I", Cond.fieldLink RX1 38 "KeylessHall$Group" "hintCount" "I", Cond.methodLink RX4 198 yX4_leaveIfLate, Cond.instanceMethod yX4_leaveIfLate, Cond.selects RX4 yX4_leaveIfLate yX4_leaveIfLate, Cond.code yX4_leaveIfLate cX4_leaveIfLate 2 none, Cond.fieldLink RX4 231 "KeylessHall" "now" "I", Cond.methodLink RX4 286 yX1_minutesLeft, Cond.instanceMethod yX1_minutesLeft, Cond.selects RX1 yX1_minutesLeft yX1_minutesLeft, Cond.code yX1_minutesLeft cX1_minutesLeft 2 (some .int), Cond.fieldLink RX1 26 "KeylessHall$Group" "arrival" "I", Cond.methodLink RX4 201 yX4_leave, Cond.static yX4_leave, Cond.code yX4_leave cX4_leave 3 none, Cond.fieldLink RX4 77 "KeylessHall$Room" "how" "I", Cond.fieldLink RX4 273 "KeylessHall$Room" "players" "LKeylessHall$Group;", Cond.fieldLink RX4 228 "KeylessHall$Room" "toReset" "I"]
def wsL_hint : List Cond := .codeWith yL_hint cL_hint 4 (some .int) [(0, 9, 12, 21), (0, 9, 15, 15)] :: ((wsL_hint_r1 ++ (wsL_hint_r2 ++ (wsL_hint_r3 ++ wsL_hint_r4))) ++ wsX10 ++ wsX40 ++ wsX20 ++ (vx_atS RX4 57 "java/lang/IllegalStateException" ["java/lang/RuntimeException", "java/lang/Exception"]).filter goodWord ++ (vx_atS RX4 72 "java/lang/IndexOutOfBoundsException" ["java/lang/RuntimeException", "java/lang/Exception"]).filter goodWord)
def wsL_giveUp_r1 : List Cond := [Cond.classLink RL 21 "java/lang/IndexOutOfBoundsException", Cond.classLink RL 15 "java/lang/IllegalStateException", Cond.methodLink RL 50 yX4_giveUp, Cond.instanceMethod yX4_giveUp, Cond.selects RX4 yX4_giveUp yX4_giveUp, Cond.initialized RX4, Cond.code yX4_giveUp cX4_giveUp 3 none, Cond.classLink RX4 53 "java/lang/IllegalStateException", Cond.initialized "java/lang/IllegalStateException", Cond.fieldLink RX4 161 "KeylessHall$Group" "how" "I", Cond.methodLink RX4 151 yX4_groupNumbered, Cond.instanceMethod yX4_groupNumbered, Cond.selects RX4 yX4_groupNumbered yX4_groupNumbered, Cond.code yX4_groupNumbered cX4_groupNumbered 2 (some (.object "KeylessHall$Group")), Cond.classLink RX4 68 "java/lang/IndexOutOfBoundsException", Cond.initialized "java/lang/IndexOutOfBoundsException", Cond.fieldLink RX4 142 "KeylessHall" "groupCount" "I", Cond.fieldLink RX4 17 "KeylessHall" "groups" "[LKeylessHall$Group;", Cond.methodLink RX4 201 yX4_leave, Cond.static yX4_leave, Cond.code yX4_leave cX4_leave 3 none, Cond.fieldLink RX4 155 "KeylessHall$Group" "place" "LKeylessHall$Room;", Cond.fieldLink RX4 77 "KeylessHall$Room" "how" "I", Cond.fieldLink RX4 273 "KeylessHall$Room" "players" "LKeylessHall$Group;"]
def wsL_giveUp_r2 : List Cond := [Cond.fieldLink RX4 174 "KeylessHall$Group" "solved" "I", Cond.fieldLink RX4 228 "KeylessHall$Room" "toReset" "I"]
def wsL_giveUp : List Cond := .codeWith yL_giveUp cL_giveUp 3 (some .int) [(0, 5, 8, 21), (0, 5, 11, 15)] :: ((wsL_giveUp_r1 ++ wsL_giveUp_r2) ++ wsX10 ++ wsX40 ++ wsX20 ++ (vx_atS RX4 57 "java/lang/IllegalStateException" ["java/lang/RuntimeException", "java/lang/Exception"]).filter goodWord ++ (vx_atS RX4 72 "java/lang/IndexOutOfBoundsException" ["java/lang/RuntimeException", "java/lang/Exception"]).filter goodWord)
def wsL_reset_r1 : List Cond := [Cond.classLink RL 21 "java/lang/IndexOutOfBoundsException", Cond.classLink RL 15 "java/lang/IllegalStateException", Cond.methodLink RL 54 yX4_reset, Cond.instanceMethod yX4_reset, Cond.selects RX4 yX4_reset yX4_reset, Cond.initialized RX4, Cond.code yX4_reset cX4_reset 6 none, Cond.classLink RX4 53 "java/lang/IllegalStateException", Cond.initialized "java/lang/IllegalStateException", Cond.fieldLink RX4 77 "KeylessHall$Room" "how" "I", Cond.fieldLink RX4 209 "KeylessHall$Worker" "place" "LKeylessHall$Room;", Cond.fieldLink RX4 212 "KeylessHall$Room" "forgotten" "I", Cond.fieldLink RX4 215 "KeylessHall$Room" "isToBeChecked" "Z", Cond.methodLink RX4 61 yX4_roomNumbered, Cond.instanceMethod yX4_roomNumbered, Cond.selects RX4 yX4_roomNumbered yX4_roomNumbered, Cond.code yX4_roomNumbered cX4_roomNumbered 2 (some (.object "KeylessHall$Room")), Cond.classLink RX4 68 "java/lang/IndexOutOfBoundsException", Cond.initialized "java/lang/IndexOutOfBoundsException", Cond.fieldLink RX4 49 "KeylessHall" "roomCount" "I", Cond.fieldLink RX4 11 "KeylessHall" "rooms" "[LKeylessHall$Room;", Cond.methodLink RX4 205 yX4_workerNumbered, Cond.instanceMethod yX4_workerNumbered, Cond.selects RX4 yX4_workerNumbered yX4_workerNumbered]
def wsL_reset_r2 : List Cond := [Cond.code yX4_workerNumbered cX4_workerNumbered 2 (some (.object "KeylessHall$Worker")), Cond.fieldLink RX4 29 "KeylessHall" "workers" "[LKeylessHall$Worker;", Cond.methodLink RX4 219 yX4_beginNext, Cond.static yX4_beginNext, Cond.code yX4_beginNext cX4_beginNext 3 none, Cond.fieldLink RX4 228 "KeylessHall$Room" "toReset" "I", Cond.fieldLink RX4 336 "KeylessHall$Room" "minutes" "[I", Cond.methodLink RX4 333 yX2_nextToReset, Cond.instanceMethod yX2_nextToReset, Cond.selects RX2 yX2_nextToReset yX2_nextToReset, Cond.initialized RX2, Cond.code yX2_nextToReset cX2_nextToReset 4 (some .int), Cond.fieldLink RX2 37 "KeylessHall$Room" "puzzleCount" "I", Cond.fieldLink RX2 54 "KeylessHall$Room" "toReset" "I", Cond.static yX4_has, Cond.code yX4_has cX4_has 2 (some .boolean), Cond.methodLink RX2 57 yX2_isNeededByOther, Cond.instanceMethod yX2_isNeededByOther, Cond.selects RX2 yX2_isNeededByOther yX2_isNeededByOther, Cond.code yX2_isNeededByOther cX2_isNeededByOther 4 (some .boolean), Cond.fieldLink RX2 15 "KeylessHall$Room" "gives" "[I", Cond.fieldLink RX2 34 "KeylessHall$Room" "things" "I", Cond.fieldLink RX2 9 "KeylessHall$Room" "needs" "[I", Cond.methodLink RX4 339 yX3_begin]
def wsL_reset_r3 : List Cond := [Cond.instanceMethod yX3_begin, Cond.selects RX3 yX3_begin yX3_begin, Cond.initialized RX3, Cond.code yX3_begin cX3_begin 4 none, Cond.fieldLink RX3 18 "KeylessHall$Worker" "place" "LKeylessHall$Room;", Cond.fieldLink RX3 9 "KeylessHall$Worker" "puzzle" "I", Cond.fieldLink RX3 15 "KeylessHall$Worker" "minutesLeft" "I", Cond.methodLink RX4 342 yX4_finishReset, Cond.static yX4_finishReset, Cond.code yX4_finishReset cX4_finishReset 2 none, Cond.methodLink RX4 345 yX3_stop, Cond.instanceMethod yX3_stop, Cond.selects RX3 yX3_stop yX3_stop, Cond.code yX3_stop cX3_stop 1 none]
def wsL_reset : List Cond := .codeWith yL_reset cL_reset 5 (some .int) [(0, 7, 10, 21), (0, 7, 14, 15)] :: ((wsL_reset_r1 ++ (wsL_reset_r2 ++ wsL_reset_r3)) ++ wsX20 ++ wsX30 ++ wsX40 ++ (vx_atS RX4 57 "java/lang/IllegalStateException" ["java/lang/RuntimeException", "java/lang/Exception"]).filter goodWord ++ (vx_atS RX4 72 "java/lang/IndexOutOfBoundsException" ["java/lang/RuntimeException", "java/lang/Exception"]).filter goodWord)
def wsL_forget_r1 : List Cond := [Cond.classLink RL 21 "java/lang/IndexOutOfBoundsException", Cond.classLink RL 15 "java/lang/IllegalStateException", Cond.methodLink RL 58 yX4_forget, Cond.instanceMethod yX4_forget, Cond.selects RX4 yX4_forget yX4_forget, Cond.initialized RX4, Cond.code yX4_forget cX4_forget 5 (some .int), Cond.classLink RX4 53 "java/lang/IllegalStateException", Cond.initialized "java/lang/IllegalStateException", Cond.fieldLink RX4 209 "KeylessHall$Worker" "place" "LKeylessHall$Room;", Cond.fieldLink RX4 223 "KeylessHall$Worker" "puzzle" "I", Cond.fieldLink RX4 212 "KeylessHall$Room" "forgotten" "I", Cond.fieldLink RX4 228 "KeylessHall$Room" "toReset" "I", Cond.methodLink RX4 205 yX4_workerNumbered, Cond.instanceMethod yX4_workerNumbered, Cond.selects RX4 yX4_workerNumbered yX4_workerNumbered, Cond.code yX4_workerNumbered cX4_workerNumbered 2 (some (.object "KeylessHall$Worker")), Cond.classLink RX4 68 "java/lang/IndexOutOfBoundsException", Cond.initialized "java/lang/IndexOutOfBoundsException", Cond.fieldLink RX4 29 "KeylessHall" "workers" "[LKeylessHall$Worker;", Cond.methodLink RX4 94 yX4_with, Cond.static yX4_with, Cond.code yX4_with cX4_with 2 (some .int), Cond.methodLink RX4 102 yX4_without]
def wsL_forget_r2 : List Cond := [Cond.static yX4_without, Cond.code yX4_without cX4_without 2 (some .int), Cond.methodLink RX4 219 yX4_beginNext, Cond.static yX4_beginNext, Cond.code yX4_beginNext cX4_beginNext 3 none, Cond.fieldLink RX4 215 "KeylessHall$Room" "isToBeChecked" "Z", Cond.fieldLink RX4 336 "KeylessHall$Room" "minutes" "[I", Cond.methodLink RX4 333 yX2_nextToReset, Cond.instanceMethod yX2_nextToReset, Cond.selects RX2 yX2_nextToReset yX2_nextToReset, Cond.initialized RX2, Cond.code yX2_nextToReset cX2_nextToReset 4 (some .int), Cond.fieldLink RX2 37 "KeylessHall$Room" "puzzleCount" "I", Cond.fieldLink RX2 54 "KeylessHall$Room" "toReset" "I", Cond.static yX4_has, Cond.code yX4_has cX4_has 2 (some .boolean), Cond.methodLink RX2 57 yX2_isNeededByOther, Cond.instanceMethod yX2_isNeededByOther, Cond.selects RX2 yX2_isNeededByOther yX2_isNeededByOther, Cond.code yX2_isNeededByOther cX2_isNeededByOther 4 (some .boolean), Cond.fieldLink RX2 15 "KeylessHall$Room" "gives" "[I", Cond.fieldLink RX2 34 "KeylessHall$Room" "things" "I", Cond.fieldLink RX2 9 "KeylessHall$Room" "needs" "[I", Cond.methodLink RX4 339 yX3_begin]
def wsL_forget_r3 : List Cond := [Cond.instanceMethod yX3_begin, Cond.selects RX3 yX3_begin yX3_begin, Cond.initialized RX3, Cond.code yX3_begin cX3_begin 4 none, Cond.fieldLink RX3 18 "KeylessHall$Worker" "place" "LKeylessHall$Room;", Cond.fieldLink RX3 9 "KeylessHall$Worker" "puzzle" "I", Cond.fieldLink RX3 15 "KeylessHall$Worker" "minutesLeft" "I", Cond.methodLink RX4 342 yX4_finishReset, Cond.static yX4_finishReset, Cond.code yX4_finishReset cX4_finishReset 2 none, Cond.fieldLink RX4 77 "KeylessHall$Room" "how" "I", Cond.methodLink RX4 345 yX3_stop, Cond.instanceMethod yX3_stop, Cond.selects RX3 yX3_stop yX3_stop, Cond.code yX3_stop cX3_stop 1 none]
def wsL_forget : List Cond := .codeWith yL_forget cL_forget 4 (some .int) [(0, 9, 12, 21), (0, 9, 15, 15)] :: ((wsL_forget_r1 ++ (wsL_forget_r2 ++ wsL_forget_r3)) ++ wsX30 ++ wsX20 ++ wsX40 ++ (vx_atS RX4 57 "java/lang/IllegalStateException" ["java/lang/RuntimeException", "java/lang/Exception"]).filter goodWord ++ (vx_atS RX4 72 "java/lang/IndexOutOfBoundsException" ["java/lang/RuntimeException", "java/lang/Exception"]).filter goodWord)
def wsL_book_r1 : List Cond := [Cond.classLink RL 21 "java/lang/IndexOutOfBoundsException", Cond.classLink RL 13 "java/lang/IllegalArgumentException", Cond.classLink RL 15 "java/lang/IllegalStateException", Cond.methodLink RL 61 yX4_book, Cond.instanceMethod yX4_book, Cond.selects RX4 yX4_book yX4_book, Cond.initialized RX4, Cond.code yX4_book cX4_book 5 (some .int), Cond.classLink RX4 42 "java/lang/IllegalArgumentException", Cond.initialized "java/lang/IllegalArgumentException", Cond.classLink RX4 53 "java/lang/IllegalStateException", Cond.initialized "java/lang/IllegalStateException", Cond.fieldLink RX4 231 "KeylessHall" "now" "I", Cond.fieldLink RX4 240 "KeylessHall" "bookingCount" "I", Cond.fieldLink RX4 23 "KeylessHall" "bookings" "[LKeylessHall$Booking;", Cond.classLink RX4 21 RX0, Cond.instantiable RX0 4, Cond.initialized RX0, Cond.methodLink RX4 61 yX4_roomNumbered, Cond.instanceMethod yX4_roomNumbered, Cond.selects RX4 yX4_roomNumbered yX4_roomNumbered, Cond.code yX4_roomNumbered cX4_roomNumbered 2 (some (.object "KeylessHall$Room")), Cond.classLink RX4 68 "java/lang/IndexOutOfBoundsException", Cond.initialized "java/lang/IndexOutOfBoundsException"]
def wsL_book_r2 : List Cond := [Cond.fieldLink RX4 49 "KeylessHall" "roomCount" "I", Cond.fieldLink RX4 11 "KeylessHall" "rooms" "[LKeylessHall$Room;", Cond.methodLink RX4 236 yX4_bookingTooNear, Cond.instanceMethod yX4_bookingTooNear, Cond.selects RX4 yX4_bookingTooNear yX4_bookingTooNear, Cond.code yX4_bookingTooNear cX4_bookingTooNear 5 (some (.object "KeylessHall$Booking")), Cond.fieldLink RX4 298 "KeylessHall$Booking" "place" "LKeylessHall$Room;", Cond.fieldLink RX4 252 "KeylessHall$Booking" "how" "I", Cond.fieldLink RX4 299 "KeylessHall$Booking" "begin" "I", Cond.methodLink RX4 351 Lib.Math.abs.name, Cond.static Lib.Math.abs.name, Cond.initialized "java/lang/Math", Cond.code Lib.Math.abs.name Lib.Math.abs.code 1 (some .int), Cond.methodLink RX4 348 yX4_bookingDistance, Cond.static yX4_bookingDistance, Cond.code yX4_bookingDistance cX4_bookingDistance 1 (some .int), Cond.fieldLink RX4 280 "KeylessHall$Room" "gap" "I", Cond.methodLink RX4 245 yX0_init, Cond.instanceMethod yX0_init, Cond.code yX0_init cX0_init 3 none, Cond.methodLink RX0 3 objectInit, Cond.instanceMethod objectInit, Cond.code objectInit ⟨#[0xb1]⟩ 1 none, Cond.fieldLink RX0 9 "KeylessHall$Booking" "how" "I"]
def wsL_book_r3 : List Cond := [Cond.fieldLink RX0 15 "KeylessHall$Booking" "groupNumber" "I", Cond.fieldLink RX0 18 "KeylessHall$Booking" "place" "LKeylessHall$Room;", Cond.fieldLink RX0 22 "KeylessHall$Booking" "begin" "I"]
def wsL_book : List Cond := .codeWith yL_book cL_book 5 (some .int) [(0, 10, 13, 21), (0, 10, 17, 13), (0, 10, 21, 15)] :: ((wsL_book_r1 ++ (wsL_book_r2 ++ wsL_book_r3)) ++ wsX40 ++ wsX00 ++ wsX20 ++ (vx_atS RX4 46 "java/lang/IllegalArgumentException" ["java/lang/RuntimeException", "java/lang/Exception"]).filter goodWord ++ (vx_atS RX4 57 "java/lang/IllegalStateException" ["java/lang/RuntimeException", "java/lang/Exception"]).filter goodWord ++ (vx_atS RX4 72 "java/lang/IndexOutOfBoundsException" ["java/lang/RuntimeException", "java/lang/Exception"]).filter goodWord)
def wsL_cancel : List Cond := .codeWith yL_cancel cL_cancel 3 (some .int) [(0, 5, 8, 21), (0, 5, 11, 15)] :: ([.classLink RL 21 "java/lang/IndexOutOfBoundsException", .classLink RL 15 "java/lang/IllegalStateException", .methodLink RL 64 yX4_cancel, .instanceMethod yX4_cancel, .selects RX4 yX4_cancel yX4_cancel, .initialized RX4, .code yX4_cancel cX4_cancel 3 none, .classLink RX4 53 "java/lang/IllegalStateException", .initialized "java/lang/IllegalStateException", .fieldLink RX4 252 "KeylessHall$Booking" "how" "I", .methodLink RX4 248 yX4_bookingNumbered, .instanceMethod yX4_bookingNumbered, .selects RX4 yX4_bookingNumbered yX4_bookingNumbered, .code yX4_bookingNumbered cX4_bookingNumbered 2 (some (.object "KeylessHall$Booking")), .classLink RX4 68 "java/lang/IndexOutOfBoundsException", .initialized "java/lang/IndexOutOfBoundsException", .fieldLink RX4 240 "KeylessHall" "bookingCount" "I", .fieldLink RX4 23 "KeylessHall" "bookings" "[LKeylessHall$Booking;"] ++ wsX00 ++ wsX40 ++ (vx_atS RX4 57 "java/lang/IllegalStateException" ["java/lang/RuntimeException", "java/lang/Exception"]).filter goodWord ++ (vx_atS RX4 72 "java/lang/IndexOutOfBoundsException" ["java/lang/RuntimeException", "java/lang/Exception"]).filter goodWord)
def wsL_offer_r1 : List Cond := [Cond.classLink RL 21 "java/lang/IndexOutOfBoundsException", Cond.classLink RL 13 "java/lang/IllegalArgumentException", Cond.methodLink RL 67 yX4_offer, Cond.instanceMethod yX4_offer, Cond.selects RX4 yX4_offer yX4_offer, Cond.initialized RX4, Cond.code yX4_offer cX4_offer 5 (some .int), Cond.classLink RX4 42 "java/lang/IllegalArgumentException", Cond.initialized "java/lang/IllegalArgumentException", Cond.fieldLink RX4 231 "KeylessHall" "now" "I", Cond.methodLink RX4 257 Lib.Math.max.name, Cond.static Lib.Math.max.name, Cond.initialized "java/lang/Math", Cond.code Lib.Math.max.name Lib.Math.max.code 2 (some .int), Cond.methodLink RX4 61 yX4_roomNumbered, Cond.instanceMethod yX4_roomNumbered, Cond.selects RX4 yX4_roomNumbered yX4_roomNumbered, Cond.code yX4_roomNumbered cX4_roomNumbered 2 (some (.object "KeylessHall$Room")), Cond.classLink RX4 68 "java/lang/IndexOutOfBoundsException", Cond.initialized "java/lang/IndexOutOfBoundsException", Cond.fieldLink RX4 49 "KeylessHall" "roomCount" "I", Cond.fieldLink RX4 11 "KeylessHall" "rooms" "[LKeylessHall$Room;", Cond.methodLink RX4 262 yX4_firstFree, Cond.instanceMethod yX4_firstFree]
def wsL_offer_r2 : List Cond := [Cond.selects RX4 yX4_firstFree yX4_firstFree, Cond.code yX4_firstFree cX4_firstFree 6 (some .int), Cond.fieldLink RX4 240 "KeylessHall" "bookingCount" "I", Cond.fieldLink RX4 299 "KeylessHall$Booking" "begin" "I", Cond.methodLink RX4 236 yX4_bookingTooNear, Cond.instanceMethod yX4_bookingTooNear, Cond.selects RX4 yX4_bookingTooNear yX4_bookingTooNear, Cond.code yX4_bookingTooNear cX4_bookingTooNear 5 (some (.object "KeylessHall$Booking")), Cond.fieldLink RX4 23 "KeylessHall" "bookings" "[LKeylessHall$Booking;", Cond.fieldLink RX4 298 "KeylessHall$Booking" "place" "LKeylessHall$Room;", Cond.fieldLink RX4 252 "KeylessHall$Booking" "how" "I", Cond.methodLink RX4 351 Lib.Math.abs.name, Cond.static Lib.Math.abs.name, Cond.code Lib.Math.abs.name Lib.Math.abs.code 1 (some .int), Cond.methodLink RX4 348 yX4_bookingDistance, Cond.static yX4_bookingDistance, Cond.code yX4_bookingDistance cX4_bookingDistance 1 (some .int), Cond.fieldLink RX4 280 "KeylessHall$Room" "gap" "I"]
def wsL_offer : List Cond := .codeWith yL_offer cL_offer 5 (some .int) [(0, 10, 13, 21), (0, 10, 17, 13)] :: ((wsL_offer_r1 ++ wsL_offer_r2) ++ wsX40 ++ wsX00 ++ wsX20 ++ (vx_atS RX4 46 "java/lang/IllegalArgumentException" ["java/lang/RuntimeException", "java/lang/Exception"]).filter goodWord ++ (vx_atS RX4 72 "java/lang/IndexOutOfBoundsException" ["java/lang/RuntimeException", "java/lang/Exception"]).filter goodWord)
def wsL_pass_r1 : List Cond := [Cond.classLink RL 13 "java/lang/IllegalArgumentException", Cond.classLink RL 15 "java/lang/IllegalStateException", Cond.methodLink RL 70 yX4_pass, Cond.instanceMethod yX4_pass, Cond.selects RX4 yX4_pass yX4_pass, Cond.initialized RX4, Cond.code yX4_pass cX4_pass 3 (some .int), Cond.classLink RX4 42 "java/lang/IllegalArgumentException", Cond.initialized "java/lang/IllegalArgumentException", Cond.classLink RX4 53 "java/lang/IllegalStateException", Cond.initialized "java/lang/IllegalStateException", Cond.fieldLink RX4 231 "KeylessHall" "now" "I", Cond.methodLink RX4 270 yX4_passOne, Cond.instanceMethod yX4_passOne, Cond.selects RX4 yX4_passOne yX4_passOne, Cond.code yX4_passOne cX4_passOne 3 none, Cond.fieldLink RX4 49 "KeylessHall" "roomCount" "I", Cond.fieldLink RX4 11 "KeylessHall" "rooms" "[LKeylessHall$Room;", Cond.fieldLink RX4 273 "KeylessHall$Room" "players" "LKeylessHall$Group;", Cond.fieldLink RX4 29 "KeylessHall" "workers" "[LKeylessHall$Worker;", Cond.methodLink RX4 198 yX4_leaveIfLate, Cond.instanceMethod yX4_leaveIfLate, Cond.selects RX4 yX4_leaveIfLate yX4_leaveIfLate, Cond.code yX4_leaveIfLate cX4_leaveIfLate 2 none]
def wsL_pass_r2 : List Cond := [Cond.methodLink RX4 286 yX1_minutesLeft, Cond.instanceMethod yX1_minutesLeft, Cond.selects RX1 yX1_minutesLeft yX1_minutesLeft, Cond.initialized RX1, Cond.code yX1_minutesLeft cX1_minutesLeft 2 (some .int), Cond.fieldLink RX1 35 "KeylessHall$Group" "hintCost" "I", Cond.fieldLink RX1 26 "KeylessHall$Group" "arrival" "I", Cond.methodLink RX4 201 yX4_leave, Cond.static yX4_leave, Cond.code yX4_leave cX4_leave 3 none, Cond.fieldLink RX4 155 "KeylessHall$Group" "place" "LKeylessHall$Room;", Cond.fieldLink RX4 161 "KeylessHall$Group" "how" "I", Cond.fieldLink RX4 77 "KeylessHall$Room" "how" "I", Cond.fieldLink RX4 174 "KeylessHall$Group" "solved" "I", Cond.fieldLink RX4 228 "KeylessHall$Room" "toReset" "I", Cond.methodLink RX4 354 yX4_workOneMinute, Cond.static yX4_workOneMinute, Cond.code yX4_workOneMinute cX4_workOneMinute 2 none, Cond.fieldLink RX4 209 "KeylessHall$Worker" "place" "LKeylessHall$Room;", Cond.fieldLink RX4 294 "KeylessHall$Worker" "minutesLeft" "I", Cond.fieldLink RX4 223 "KeylessHall$Worker" "puzzle" "I", Cond.methodLink RX4 342 yX4_finishReset, Cond.static yX4_finishReset, Cond.code yX4_finishReset cX4_finishReset 2 none]
def wsL_pass_r3 : List Cond := [Cond.methodLink RX4 345 yX3_stop, Cond.instanceMethod yX3_stop, Cond.selects RX3 yX3_stop yX3_stop, Cond.initialized RX3, Cond.code yX3_stop cX3_stop 1 none, Cond.fieldLink RX3 18 "KeylessHall$Worker" "place" "LKeylessHall$Room;", Cond.fieldLink RX3 9 "KeylessHall$Worker" "puzzle" "I", Cond.fieldLink RX3 15 "KeylessHall$Worker" "minutesLeft" "I", Cond.methodLink RX4 102 yX4_without, Cond.static yX4_without, Cond.code yX4_without cX4_without 2 (some .int), Cond.methodLink RX4 219 yX4_beginNext, Cond.static yX4_beginNext, Cond.code yX4_beginNext cX4_beginNext 3 none, Cond.fieldLink RX4 215 "KeylessHall$Room" "isToBeChecked" "Z", Cond.fieldLink RX4 212 "KeylessHall$Room" "forgotten" "I", Cond.fieldLink RX4 336 "KeylessHall$Room" "minutes" "[I", Cond.methodLink RX4 333 yX2_nextToReset, Cond.instanceMethod yX2_nextToReset, Cond.selects RX2 yX2_nextToReset yX2_nextToReset, Cond.initialized RX2, Cond.code yX2_nextToReset cX2_nextToReset 4 (some .int), Cond.fieldLink RX2 37 "KeylessHall$Room" "puzzleCount" "I", Cond.fieldLink RX2 54 "KeylessHall$Room" "toReset" "I"]
def wsL_pass_r4 : List Cond := [Cond.static yX4_has, Cond.code yX4_has cX4_has 2 (some .boolean), Cond.methodLink RX2 57 yX2_isNeededByOther, Cond.instanceMethod yX2_isNeededByOther, Cond.selects RX2 yX2_isNeededByOther yX2_isNeededByOther, Cond.code yX2_isNeededByOther cX2_isNeededByOther 4 (some .boolean), Cond.fieldLink RX2 15 "KeylessHall$Room" "gives" "[I", Cond.fieldLink RX2 34 "KeylessHall$Room" "things" "I", Cond.fieldLink RX2 9 "KeylessHall$Room" "needs" "[I", Cond.methodLink RX4 339 yX3_begin, Cond.instanceMethod yX3_begin, Cond.selects RX3 yX3_begin yX3_begin, Cond.code yX3_begin cX3_begin 4 none, Cond.methodLink RX4 358 yX4_dropUnusedBookings, Cond.instanceMethod yX4_dropUnusedBookings, Cond.selects RX4 yX4_dropUnusedBookings yX4_dropUnusedBookings, Cond.code yX4_dropUnusedBookings cX4_dropUnusedBookings 3 none, Cond.fieldLink RX4 240 "KeylessHall" "bookingCount" "I", Cond.fieldLink RX4 23 "KeylessHall" "bookings" "[LKeylessHall$Booking;", Cond.fieldLink RX4 252 "KeylessHall$Booking" "how" "I", Cond.fieldLink RX4 299 "KeylessHall$Booking" "begin" "I"]
def wsL_pass : List Cond := .codeWith yL_pass cL_pass 4 (some .int) [(0, 9, 12, 13), (0, 9, 15, 15)] :: ((wsL_pass_r1 ++ (wsL_pass_r2 ++ (wsL_pass_r3 ++ wsL_pass_r4))) ++ wsX40 ++ wsX20 ++ wsX10 ++ wsX30 ++ wsX00 ++ (vx_atS RX4 46 "java/lang/IllegalArgumentException" ["java/lang/RuntimeException", "java/lang/Exception"]).filter goodWord ++ (vx_atS RX4 57 "java/lang/IllegalStateException" ["java/lang/RuntimeException", "java/lang/Exception"]).filter goodWord)
def wsL_state : List Cond := .codeWith yL_state cL_state 5 (some .int) [(0, 10, 13, 21), (0, 10, 17, 13)] :: ([.classLink RL 21 "java/lang/IndexOutOfBoundsException", .classLink RL 13 "java/lang/IllegalArgumentException", .methodLink RL 73 yX4_state, .instanceMethod yX4_state, .selects RX4 yX4_state yX4_state, .initialized RX4, .code yX4_state cX4_state 4 (some .int), .classLink RX4 42 "java/lang/IllegalArgumentException", .initialized "java/lang/IllegalArgumentException", .fieldLink RX4 77 "KeylessHall$Room" "how" "I", .fieldLink RX4 228 "KeylessHall$Room" "toReset" "I", .fieldLink RX4 212 "KeylessHall$Room" "forgotten" "I", .fieldLink RX4 273 "KeylessHall$Room" "players" "LKeylessHall$Group;", .fieldLink RX4 277 "KeylessHall$Group" "number" "I", .fieldLink RX4 280 "KeylessHall$Room" "gap" "I", .methodLink RX4 61 yX4_roomNumbered, .instanceMethod yX4_roomNumbered, .selects RX4 yX4_roomNumbered yX4_roomNumbered, .code yX4_roomNumbered cX4_roomNumbered 2 (some (.object "KeylessHall$Room")), .classLink RX4 68 "java/lang/IndexOutOfBoundsException", .initialized "java/lang/IndexOutOfBoundsException", .fieldLink RX4 49 "KeylessHall" "roomCount" "I", .fieldLink RX4 11 "KeylessHall" "rooms" "[LKeylessHall$Room;"] ++ wsX20 ++ wsX10 ++ wsX40 ++ (vx_atS RX4 46 "java/lang/IllegalArgumentException" ["java/lang/RuntimeException", "java/lang/Exception"]).filter goodWord ++ (vx_atS RX4 72 "java/lang/IndexOutOfBoundsException" ["java/lang/RuntimeException", "java/lang/Exception"]).filter goodWord)
def wsL_group_r1 : List Cond := [Cond.classLink RL 21 "java/lang/IndexOutOfBoundsException", Cond.classLink RL 13 "java/lang/IllegalArgumentException", Cond.methodLink RL 76 yX4_group, Cond.instanceMethod yX4_group, Cond.selects RX4 yX4_group yX4_group, Cond.initialized RX4, Cond.code yX4_group cX4_group 4 (some .int), Cond.classLink RX4 42 "java/lang/IllegalArgumentException", Cond.initialized "java/lang/IllegalArgumentException", Cond.fieldLink RX4 161 "KeylessHall$Group" "how" "I", Cond.fieldLink RX4 155 "KeylessHall$Group" "place" "LKeylessHall$Room;", Cond.fieldLink RX4 285 "KeylessHall$Room" "number" "I", Cond.fieldLink RX4 166 "KeylessHall$Group" "held" "I", Cond.fieldLink RX4 174 "KeylessHall$Group" "solved" "I", Cond.fieldLink RX4 231 "KeylessHall" "now" "I", Cond.fieldLink RX4 289 "KeylessHall$Group" "hintCount" "I", Cond.methodLink RX4 151 yX4_groupNumbered, Cond.instanceMethod yX4_groupNumbered, Cond.selects RX4 yX4_groupNumbered yX4_groupNumbered, Cond.code yX4_groupNumbered cX4_groupNumbered 2 (some (.object "KeylessHall$Group")), Cond.classLink RX4 68 "java/lang/IndexOutOfBoundsException", Cond.initialized "java/lang/IndexOutOfBoundsException", Cond.fieldLink RX4 142 "KeylessHall" "groupCount" "I", Cond.fieldLink RX4 17 "KeylessHall" "groups" "[LKeylessHall$Group;"]
def wsL_group_r2 : List Cond := [Cond.methodLink RX4 286 yX1_minutesLeft, Cond.instanceMethod yX1_minutesLeft, Cond.selects RX1 yX1_minutesLeft yX1_minutesLeft, Cond.initialized RX1, Cond.code yX1_minutesLeft cX1_minutesLeft 2 (some .int), Cond.fieldLink RX1 35 "KeylessHall$Group" "hintCost" "I", Cond.fieldLink RX1 26 "KeylessHall$Group" "arrival" "I"]
def wsL_group : List Cond := .codeWith yL_group cL_group 5 (some .int) [(0, 10, 13, 21), (0, 10, 17, 13)] :: ((wsL_group_r1 ++ wsL_group_r2) ++ wsX10 ++ wsX20 ++ wsX40 ++ (vx_atS RX4 46 "java/lang/IllegalArgumentException" ["java/lang/RuntimeException", "java/lang/Exception"]).filter goodWord ++ (vx_atS RX4 72 "java/lang/IndexOutOfBoundsException" ["java/lang/RuntimeException", "java/lang/Exception"]).filter goodWord)
def wsL_crew : List Cond := .codeWith yL_crew cL_crew 5 (some .int) [(0, 10, 13, 21), (0, 10, 17, 13)] :: ([.classLink RL 21 "java/lang/IndexOutOfBoundsException", .classLink RL 13 "java/lang/IllegalArgumentException", .methodLink RL 79 yX4_crew, .instanceMethod yX4_crew, .selects RX4 yX4_crew yX4_crew, .initialized RX4, .code yX4_crew cX4_crew 4 (some .int), .classLink RX4 42 "java/lang/IllegalArgumentException", .initialized "java/lang/IllegalArgumentException", .fieldLink RX4 209 "KeylessHall$Worker" "place" "LKeylessHall$Room;", .fieldLink RX4 285 "KeylessHall$Room" "number" "I", .fieldLink RX4 223 "KeylessHall$Worker" "puzzle" "I", .fieldLink RX4 294 "KeylessHall$Worker" "minutesLeft" "I", .methodLink RX4 205 yX4_workerNumbered, .instanceMethod yX4_workerNumbered, .selects RX4 yX4_workerNumbered yX4_workerNumbered, .code yX4_workerNumbered cX4_workerNumbered 2 (some (.object "KeylessHall$Worker")), .classLink RX4 68 "java/lang/IndexOutOfBoundsException", .initialized "java/lang/IndexOutOfBoundsException", .fieldLink RX4 29 "KeylessHall" "workers" "[LKeylessHall$Worker;"] ++ wsX30 ++ wsX20 ++ wsX40 ++ (vx_atS RX4 46 "java/lang/IllegalArgumentException" ["java/lang/RuntimeException", "java/lang/Exception"]).filter goodWord ++ (vx_atS RX4 72 "java/lang/IndexOutOfBoundsException" ["java/lang/RuntimeException", "java/lang/Exception"]).filter goodWord)
def wsL_booking : List Cond := .codeWith yL_booking cL_booking 5 (some .int) [(0, 10, 13, 21), (0, 10, 17, 13)] :: ([.classLink RL 21 "java/lang/IndexOutOfBoundsException", .classLink RL 13 "java/lang/IllegalArgumentException", .methodLink RL 82 yX4_booking, .instanceMethod yX4_booking, .selects RX4 yX4_booking yX4_booking, .initialized RX4, .code yX4_booking cX4_booking 4 (some .int), .classLink RX4 42 "java/lang/IllegalArgumentException", .initialized "java/lang/IllegalArgumentException", .fieldLink RX4 298 "KeylessHall$Booking" "place" "LKeylessHall$Room;", .fieldLink RX4 285 "KeylessHall$Room" "number" "I", .fieldLink RX4 299 "KeylessHall$Booking" "begin" "I", .fieldLink RX4 252 "KeylessHall$Booking" "how" "I", .fieldLink RX4 302 "KeylessHall$Booking" "groupNumber" "I", .methodLink RX4 248 yX4_bookingNumbered, .instanceMethod yX4_bookingNumbered, .selects RX4 yX4_bookingNumbered yX4_bookingNumbered, .code yX4_bookingNumbered cX4_bookingNumbered 2 (some (.object "KeylessHall$Booking")), .classLink RX4 68 "java/lang/IndexOutOfBoundsException", .initialized "java/lang/IndexOutOfBoundsException", .fieldLink RX4 240 "KeylessHall" "bookingCount" "I", .fieldLink RX4 23 "KeylessHall" "bookings" "[LKeylessHall$Booking;"] ++ wsX00 ++ wsX20 ++ wsX40 ++ (vx_atS RX4 46 "java/lang/IllegalArgumentException" ["java/lang/RuntimeException", "java/lang/Exception"]).filter goodWord ++ (vx_atS RX4 72 "java/lang/IndexOutOfBoundsException" ["java/lang/RuntimeException", "java/lang/Exception"]).filter goodWord)
def wsL_law0_r1 : List Cond := [Cond.classLink RL 8 RX4, Cond.instantiable RX4 10, Cond.initialized RX4, Cond.classLink RL 86 RX5, Cond.instantiable RX5 33, Cond.initialized RX5, Cond.arrayClass .long, Cond.methodLink RL 85 yX4_init, Cond.instanceMethod yX4_init, Cond.code yX4_init cX4_init 2 none, Cond.methodLink RX4 3 objectInit, Cond.instanceMethod objectInit, Cond.code objectInit ⟨#[0xb1]⟩ 1 none, Cond.classLink RX4 9 RX2, Cond.fieldLink RX4 11 "KeylessHall" "rooms" "[LKeylessHall$Room;", Cond.classLink RX4 15 RX1, Cond.fieldLink RX4 17 "KeylessHall" "groups" "[LKeylessHall$Group;", Cond.classLink RX4 21 RX0, Cond.fieldLink RX4 23 "KeylessHall" "bookings" "[LKeylessHall$Booking;", Cond.classLink RX4 27 RX3, Cond.fieldLink RX4 29 "KeylessHall" "workers" "[LKeylessHall$Worker;", Cond.arrayClass .int, Cond.fieldLink RX4 33 "KeylessHall" "ways" "[I", Cond.instantiable RX3 3]
def wsL_law0_r2 : List Cond := [Cond.initialized RX3, Cond.instanceMethod yX3_init, Cond.code yX3_init cX3_init 1 none, Cond.methodLink RX3 3 objectInit, Cond.fieldLink RX3 9 "KeylessHall$Worker" "puzzle" "I", Cond.fieldLink RX3 15 "KeylessHall$Worker" "minutesLeft" "I", Cond.methodLink RL 88 yX5_init, Cond.instanceMethod yX5_init, Cond.code yX5_init cX5_init 2 none, Cond.methodLink RX5 1 objectInit, Cond.fieldLink RX5 7 "KeylessHallModel" "first" "[I", Cond.fieldLink RX5 13 "KeylessHallModel" "many" "[I", Cond.fieldLink RX5 16 "KeylessHallModel" "state" "[I", Cond.fieldLink RX5 19 "KeylessHallModel" "toReset" "[I", Cond.fieldLink RX5 22 "KeylessHallModel" "forgotten" "[I", Cond.fieldLink RX5 25 "KeylessHallModel" "groupIn" "[I", Cond.fieldLink RX5 28 "KeylessHallModel" "needs" "[I", Cond.fieldLink RX5 31 "KeylessHallModel" "gives" "[I", Cond.fieldLink RX5 34 "KeylessHallModel" "prop" "[I", Cond.fieldLink RX5 37 "KeylessHallModel" "takes" "[I", Cond.fieldLink RX5 40 "KeylessHallModel" "how" "[I", Cond.fieldLink RX5 43 "KeylessHallModel" "roomOf" "[I", Cond.fieldLink RX5 46 "KeylessHallModel" "holds" "[I", Cond.fieldLink RX5 49 "KeylessHallModel" "solved" "[I"]
def wsL_law0_r3 : List Cond := [Cond.fieldLink RX5 52 "KeylessHallModel" "came" "[I", Cond.fieldLink RX5 55 "KeylessHallModel" "cost" "[I", Cond.fieldLink RX5 58 "KeylessHallModel" "hintsGot" "[I", Cond.fieldLink RX5 61 "KeylessHallModel" "hintsFor" "[I", Cond.fieldLink RX5 64 "KeylessHallModel" "crewRoom" "[I", Cond.fieldLink RX5 67 "KeylessHallModel" "crewPuzzle" "[I", Cond.fieldLink RX5 70 "KeylessHallModel" "crewLeft" "[I", Cond.arrayClass .boolean, Cond.fieldLink RX5 73 "KeylessHallModel" "crewChecks" "[Z", Cond.fieldLink RX5 77 "KeylessHallModel" "bookRoom" "[I", Cond.fieldLink RX5 80 "KeylessHallModel" "bookMinute" "[I", Cond.fieldLink RX5 83 "KeylessHallModel" "bookHow" "[I", Cond.fieldLink RX5 86 "KeylessHallModel" "bookGroup" "[I", Cond.fieldLink RX5 89 "KeylessHallModel" "ways" "[I", Cond.methodLink RL 89 yL_room, Cond.static yL_room, Cond.initialized RL, Cond.codeWith yL_room cL_room 4 (some .int) [(0, 9, 12, 13), (0, 9, 15, 15)], Cond.classLink RL 13 "java/lang/IllegalArgumentException", Cond.classLink RL 15 "java/lang/IllegalStateException", Cond.methodLink RL 7 yX4_room, Cond.instanceMethod yX4_room, Cond.selects RX4 yX4_room yX4_room, Cond.code yX4_room cX4_room 3 (some .int)]
def wsL_law0_r4 : List Cond := [Cond.classLink RX4 42 "java/lang/IllegalArgumentException", Cond.initialized "java/lang/IllegalArgumentException", Cond.classLink RX4 53 "java/lang/IllegalStateException", Cond.initialized "java/lang/IllegalStateException", Cond.fieldLink RX4 49 "KeylessHall" "roomCount" "I", Cond.instantiable RX2 13, Cond.initialized RX2, Cond.methodLink RX4 38 yX4_areThings, Cond.static yX4_areThings, Cond.code yX4_areThings cX4_areThings 1 (some .boolean), Cond.methodLink RX4 58 yX2_init, Cond.instanceMethod yX2_init, Cond.code yX2_init cX2_init 3 none, Cond.methodLink RX2 3 objectInit, Cond.fieldLink RX2 9 "KeylessHall$Room" "needs" "[I", Cond.fieldLink RX2 15 "KeylessHall$Room" "gives" "[I", Cond.fieldLink RX2 18 "KeylessHall$Room" "props" "[I", Cond.fieldLink RX2 21 "KeylessHall$Room" "minutes" "[I", Cond.fieldLink RX2 24 "KeylessHall$Room" "gap" "I", Cond.fieldLink RX2 28 "KeylessHall$Room" "how" "I", Cond.fieldLink RX2 31 "KeylessHall$Room" "number" "I", Cond.fieldLink RX2 34 "KeylessHall$Room" "things" "I", Cond.methodLink RL 94 yX5_room, Cond.instanceMethod yX5_room]
def wsL_law0_r5 : List Cond := [Cond.selects RX5 yX5_room yX5_room, Cond.code yX5_room cX5_room 2 (some .int), Cond.fieldLink RX5 96 "KeylessHallModel" "rooms" "I", Cond.methodLink RX5 99 yX5_in, Cond.static yX5_in, Cond.code yX5_in cX5_in 3 (some .boolean), Cond.methodLink RX5 120 yX5_refused, Cond.instanceMethod yX5_refused, Cond.selects RX5 yX5_refused yX5_refused, Cond.code yX5_refused cX5_refused 2 (some .boolean), Cond.fieldLink RX5 92 "KeylessHallModel" "thrown" "I", Cond.methodLink RL 95 yX5_thrown, Cond.instanceMethod yX5_thrown, Cond.selects RX5 yX5_thrown yX5_thrown, Cond.code yX5_thrown cX5_thrown 1 (some .int), Cond.methodLink RL 99 yL_puzzle, Cond.static yL_puzzle, Cond.codeWith yL_puzzle cL_puzzle 8 (some .int) [(0, 16, 19, 21), (0, 16, 23, 13), (0, 16, 27, 15)], Cond.classLink RL 21 "java/lang/IndexOutOfBoundsException", Cond.methodLink RL 17 yX4_puzzle, Cond.instanceMethod yX4_puzzle, Cond.selects RX4 yX4_puzzle yX4_puzzle, Cond.code yX4_puzzle cX4_puzzle 7 (some .int), Cond.classLink RX4 68 "java/lang/IndexOutOfBoundsException"]
def wsL_law0_r6 : List Cond := [Cond.initialized "java/lang/IndexOutOfBoundsException", Cond.fieldLink RX4 77 "KeylessHall$Room" "how" "I", Cond.fieldLink RX4 80 "KeylessHall$Room" "puzzleCount" "I", Cond.methodLink RX4 61 yX4_roomNumbered, Cond.instanceMethod yX4_roomNumbered, Cond.selects RX4 yX4_roomNumbered yX4_roomNumbered, Cond.code yX4_roomNumbered cX4_roomNumbered 2 (some (.object "KeylessHall$Room")), Cond.methodLink RX4 65 yX4_isProp, Cond.static yX4_isProp, Cond.code yX4_isProp cX4_isProp 1 (some .boolean), Cond.methodLink RX4 85 yX2_addPuzzle, Cond.instanceMethod yX2_addPuzzle, Cond.selects RX2 yX2_addPuzzle yX2_addPuzzle, Cond.code yX2_addPuzzle cX2_addPuzzle 6 (some .int), Cond.fieldLink RX2 37 "KeylessHall$Room" "puzzleCount" "I", Cond.methodLink RL 102 yX5_puzzle, Cond.instanceMethod yX5_puzzle, Cond.selects RX5 yX5_puzzle yX5_puzzle, Cond.code yX5_puzzle cX5_puzzle 9 (some .int), Cond.methodLink RX5 123 yX5_isRoom, Cond.instanceMethod yX5_isRoom, Cond.selects RX5 yX5_isRoom yX5_isRoom, Cond.code yX5_isRoom cX5_isRoom 2 (some .boolean), Cond.methodLink RL 103 yL_prop]
def wsL_law0_r7 : List Cond := [Cond.static yL_prop, Cond.codeWith yL_prop cL_prop 5 (some .int) [(0, 10, 13, 21)], Cond.methodLink RL 23 yX4_prop, Cond.instanceMethod yX4_prop, Cond.selects RX4 yX4_prop yX4_prop, Cond.code yX4_prop cX4_prop 3 (some .int), Cond.fieldLink RX4 91 "KeylessHall" "brokenProps" "I", Cond.methodLink RX4 94 yX4_with, Cond.static yX4_with, Cond.code yX4_with cX4_with 2 (some .int), Cond.methodLink RX4 98 yX4_freeLockedIn, Cond.instanceMethod yX4_freeLockedIn, Cond.selects RX4 yX4_freeLockedIn yX4_freeLockedIn, Cond.code yX4_freeLockedIn cX4_freeLockedIn 5 (some .int), Cond.fieldLink RX4 273 "KeylessHall$Room" "players" "LKeylessHall$Group;", Cond.fieldLink RX4 166 "KeylessHall$Group" "held" "I", Cond.methodLink RX4 105 yX2_working, Cond.instanceMethod yX2_working, Cond.selects RX2 yX2_working yX2_working, Cond.code yX2_working cX2_working 4 (some .int), Cond.static yX4_has, Cond.code yX4_has cX4_has 2 (some .boolean), Cond.methodLink RX4 109 yX2_reach, Cond.instanceMethod yX2_reach]
def wsL_law0_r8 : List Cond := [Cond.selects RX2 yX2_reach yX2_reach, Cond.code yX2_reach cX2_reach 6 (some .int), Cond.methodLink RX2 51 yX2_isSolvable, Cond.instanceMethod yX2_isSolvable, Cond.selects RX2 yX2_isSolvable yX2_isSolvable, Cond.code yX2_isSolvable cX2_isSolvable 3 (some .boolean), Cond.static yX4_isWithin, Cond.code yX4_isWithin cX4_isWithin 2 (some .boolean), Cond.methodLink RX4 123 yX4_has, Cond.methodLink RX4 201 yX4_leave, Cond.static yX4_leave, Cond.code yX4_leave cX4_leave 3 none, Cond.fieldLink RX4 155 "KeylessHall$Group" "place" "LKeylessHall$Room;", Cond.fieldLink RX4 161 "KeylessHall$Group" "how" "I", Cond.fieldLink RX4 174 "KeylessHall$Group" "solved" "I", Cond.fieldLink RX4 228 "KeylessHall$Room" "toReset" "I", Cond.methodLink RX4 102 yX4_without, Cond.static yX4_without, Cond.code yX4_without cX4_without 2 (some .int), Cond.methodLink RL 106 yX5_prop, Cond.instanceMethod yX5_prop, Cond.selects RX5 yX5_prop yX5_prop, Cond.code yX5_prop cX5_prop 6 (some .int), Cond.fieldLink RX5 109 "KeylessHallModel" "broken" "I"]
def wsL_law0_r9 : List Cond := [Cond.methodLink RX5 116 yX5_hadOf, Cond.instanceMethod yX5_hadOf, Cond.selects RX5 yX5_hadOf yX5_hadOf, Cond.code yX5_hadOf cX5_hadOf 6 (some .int), Cond.methodLink RX5 112 yX5_isOut, Cond.instanceMethod yX5_isOut, Cond.selects RX5 yX5_isOut yX5_isOut, Cond.code yX5_isOut cX5_isOut 2 (some .boolean), Cond.methodLink RX5 126 yX5_leaves, Cond.instanceMethod yX5_leaves, Cond.selects RX5 yX5_leaves yX5_leaves, Cond.code yX5_leaves cX5_leaves 4 none, Cond.methodLink RL 107 yL_had, Cond.static yL_had, Cond.codeWith yL_had cL_had 5 (some .int) [(0, 10, 13, 21), (0, 10, 17, 13)], Cond.methodLink RL 27 yX4_had, Cond.instanceMethod yX4_had, Cond.selects RX4 yX4_had yX4_had, Cond.code yX4_had cX4_had 4 (some .int), Cond.methodLink RL 110 yX5_had, Cond.instanceMethod yX5_had, Cond.selects RX5 yX5_had yX5_had, Cond.code yX5_had cX5_had 3 (some .int), Cond.methodLink RL 111 yL_canBeLeft]
def wsL_law0_r10 : List Cond := [Cond.static yL_canBeLeft, Cond.codeWith yL_canBeLeft cL_canBeLeft 4 (some .int) [(0, 16, 19, 21)], Cond.methodLink RL 31 yX4_canBeLeft, Cond.instanceMethod yX4_canBeLeft, Cond.selects RX4 yX4_canBeLeft yX4_canBeLeft, Cond.code yX4_canBeLeft cX4_canBeLeft 2 (some .boolean), Cond.methodLink RX4 112 yX4_hasExit, Cond.instanceMethod yX4_hasExit, Cond.selects RX4 yX4_hasExit yX4_hasExit, Cond.code yX4_hasExit cX4_hasExit 2 (some .boolean), Cond.fieldLink RX4 120 "KeylessHall$Room" "things" "I", Cond.methodLink RL 113 yX5_canBeLeft, Cond.instanceMethod yX5_canBeLeft, Cond.selects RX5 yX5_canBeLeft yX5_canBeLeft, Cond.code yX5_canBeLeft cX5_canBeLeft 2 (some .boolean), Cond.methodLink RX5 130 yX5_isLeavable, Cond.instanceMethod yX5_isLeavable, Cond.selects RX5 yX5_isLeavable yX5_isLeavable, Cond.code yX5_isLeavable cX5_isLeavable 2 (some .boolean), Cond.methodLink RL 114 yL_orders, Cond.static yL_orders, Cond.codeWith yL_orders cL_orders 4 (some .int) [(0, 9, 12, 21)], Cond.methodLink RL 35 yX4_orders, Cond.instanceMethod yX4_orders]
def wsL_law0_r11 : List Cond := [Cond.selects RX4 yX4_orders yX4_orders, Cond.code yX4_orders cX4_orders 2 (some .int), Cond.methodLink RX4 116 yX4_countOrdersBySets, Cond.instanceMethod yX4_countOrdersBySets, Cond.selects RX4 yX4_countOrdersBySets yX4_countOrdersBySets, Cond.code yX4_countOrdersBySets cX4_countOrdersBySets 7 (some .int), Cond.methodLink RX4 315 yX2_givenBy, Cond.instanceMethod yX2_givenBy, Cond.selects RX2 yX2_givenBy yX2_givenBy, Cond.code yX2_givenBy cX2_givenBy 4 (some .int), Cond.methodLink RX4 318 yX4_addWaysBehind, Cond.instanceMethod yX4_addWaysBehind, Cond.selects RX4 yX4_addWaysBehind yX4_addWaysBehind, Cond.code yX4_addWaysBehind cX4_addWaysBehind 6 none, Cond.methodLink RX4 169 yX2_isSolvable, Cond.methodLink RL 116 yX5_orders, Cond.instanceMethod yX5_orders, Cond.selects RX5 yX5_orders yX5_orders, Cond.code yX5_orders cX5_orders 8 (some .int), Cond.methodLink RX5 133 yX5_heldBy, Cond.instanceMethod yX5_heldBy, Cond.selects RX5 yX5_heldBy yX5_heldBy, Cond.code yX5_heldBy cX5_heldBy 6 (some .int), Cond.methodLink RL 117 yL_ordersAnew]
def wsL_law0_r12 : List Cond := [Cond.static yL_ordersAnew, Cond.codeWith yL_ordersAnew cL_ordersAnew 4 (some .int) [(0, 9, 12, 21)], Cond.methodLink RL 38 yX4_ordersAnew, Cond.instanceMethod yX4_ordersAnew, Cond.selects RX4 yX4_ordersAnew yX4_ordersAnew, Cond.code yX4_ordersAnew cX4_ordersAnew 4 (some .int), Cond.methodLink RX4 127 yX4_countOrdersOneByOne, Cond.static yX4_countOrdersOneByOne, Cond.code yX4_countOrdersOneByOne cX4_countOrdersOneByOne 6 (some .int), Cond.fieldLink RX4 177 "KeylessHall$Room" "gives" "[I", Cond.methodLink RL 119 yX5_ordersAnew, Cond.instanceMethod yX5_ordersAnew, Cond.selects RX5 yX5_ordersAnew yX5_ordersAnew, Cond.code yX5_ordersAnew cX5_ordersAnew 2 (some .int), Cond.methodLink RX5 137 yX5_orders, Cond.methodLink RL 120 yL_come, Cond.static yL_come, Cond.codeWith yL_come cL_come 4 (some .int) [(0, 9, 12, 21), (0, 9, 15, 15)], Cond.methodLink RL 41 yX4_come, Cond.instanceMethod yX4_come, Cond.selects RX4 yX4_come yX4_come, Cond.code yX4_come cX4_come 4 (some .int), Cond.fieldLink RX4 142 "KeylessHall" "groupCount" "I", Cond.methodLink RX4 133 yX4_bookingDue]
def wsL_law0_r13 : List Cond := [Cond.instanceMethod yX4_bookingDue, Cond.selects RX4 yX4_bookingDue yX4_bookingDue, Cond.code yX4_bookingDue cX4_bookingDue 4 (some (.object "KeylessHall$Booking")), Cond.fieldLink RX4 240 "KeylessHall" "bookingCount" "I", Cond.fieldLink RX4 298 "KeylessHall$Booking" "place" "LKeylessHall$Room;", Cond.fieldLink RX4 252 "KeylessHall$Booking" "how" "I", Cond.fieldLink RX4 299 "KeylessHall$Booking" "begin" "I", Cond.fieldLink RX4 231 "KeylessHall" "now" "I", Cond.methodLink RX4 137 yX4_isKeptForBooking, Cond.instanceMethod yX4_isKeptForBooking, Cond.selects RX4 yX4_isKeptForBooking yX4_isKeptForBooking, Cond.code yX4_isKeptForBooking cX4_isKeptForBooking 4 (some .boolean), Cond.methodLink RX4 348 yX4_bookingDistance, Cond.static yX4_bookingDistance, Cond.code yX4_bookingDistance cX4_bookingDistance 1 (some .int), Cond.fieldLink RX4 280 "KeylessHall$Room" "gap" "I", Cond.methodLink RX4 147 yX4_letIn, Cond.instanceMethod yX4_letIn, Cond.selects RX4 yX4_letIn yX4_letIn, Cond.code yX4_letIn cX4_letIn 6 (some .int), Cond.fieldLink RX4 212 "KeylessHall$Room" "forgotten" "I", Cond.instantiable RX1 9, Cond.initialized RX1, Cond.fieldLink RX4 302 "KeylessHall$Booking" "groupNumber" "I"]
def wsL_law0_r14 : List Cond := [Cond.methodLink RX4 330 yX1_init, Cond.instanceMethod yX1_init, Cond.code yX1_init cX1_init 6 none, Cond.methodLink RX1 3 objectInit, Cond.fieldLink RX1 9 "KeylessHall$Group" "hintsFor" "[I", Cond.fieldLink RX1 15 "KeylessHall$Group" "how" "I", Cond.fieldLink RX1 19 "KeylessHall$Group" "number" "I", Cond.fieldLink RX1 22 "KeylessHall$Group" "place" "LKeylessHall$Room;", Cond.fieldLink RX1 26 "KeylessHall$Group" "arrival" "I", Cond.fieldLink RX1 29 "KeylessHall$Group" "solved" "I", Cond.fieldLink RX1 32 "KeylessHall$Group" "held" "I", Cond.methodLink RX4 180 yX4_leaveIfOut, Cond.static yX4_leaveIfOut, Cond.code yX4_leaveIfOut cX4_leaveIfOut 1 none, Cond.methodLink RL 122 yX5_come, Cond.instanceMethod yX5_come, Cond.selects RX5 yX5_come yX5_come, Cond.code yX5_come cX5_come 6 (some .int), Cond.fieldLink RX5 103 "KeylessHallModel" "groups" "I", Cond.fieldLink RX5 141 "KeylessHallModel" "minute" "I", Cond.methodLink RX5 147 yX5_bookingFor, Cond.instanceMethod yX5_bookingFor, Cond.selects RX5 yX5_bookingFor yX5_bookingFor, Cond.code yX5_bookingFor cX5_bookingFor 3 (some .int)]
def wsL_law0_r15 : List Cond := [Cond.fieldLink RX5 106 "KeylessHallModel" "bookings" "I", Cond.methodLink RX5 150 yX5_isNear, Cond.instanceMethod yX5_isNear, Cond.selects RX5 yX5_isNear yX5_isNear, Cond.code yX5_isNear cX5_isNear 4 (some .boolean), Cond.methodLink RX5 144 yX5_gapOf, Cond.instanceMethod yX5_gapOf, Cond.selects RX5 yX5_gapOf yX5_gapOf, Cond.code yX5_gapOf cX5_gapOf 4 (some .int), Cond.methodLink RL 123 yL_solve, Cond.static yL_solve, Cond.codeWith yL_solve cL_solve 5 (some .int) [(0, 10, 13, 21), (0, 10, 17, 15)], Cond.methodLink RL 44 yX4_solve, Cond.instanceMethod yX4_solve, Cond.selects RX4 yX4_solve yX4_solve, Cond.code yX4_solve cX4_solve 5 (some .int), Cond.methodLink RX4 151 yX4_groupNumbered, Cond.instanceMethod yX4_groupNumbered, Cond.selects RX4 yX4_groupNumbered yX4_groupNumbered, Cond.code yX4_groupNumbered cX4_groupNumbered 2 (some (.object "KeylessHall$Group")), Cond.methodLink RX4 162 yX4_openTo, Cond.instanceMethod yX4_openTo, Cond.selects RX4 yX4_openTo yX4_openTo, Cond.code yX4_openTo cX4_openTo 2 (some .int)]
def wsL_law0_r16 : List Cond := [Cond.methodLink RL 125 yX5_solve, Cond.instanceMethod yX5_solve, Cond.selects RX5 yX5_solve yX5_solve, Cond.code yX5_solve cX5_solve 4 (some .int), Cond.methodLink RX5 153 yX5_isGroup, Cond.instanceMethod yX5_isGroup, Cond.selects RX5 yX5_isGroup yX5_isGroup, Cond.code yX5_isGroup cX5_isGroup 2 (some .boolean), Cond.methodLink RX5 156 yX5_maySolve, Cond.instanceMethod yX5_maySolve, Cond.selects RX5 yX5_maySolve yX5_maySolve, Cond.code yX5_maySolve cX5_maySolve 4 (some .boolean), Cond.methodLink RL 126 yL_hint, Cond.static yL_hint, Cond.codeWith yL_hint cL_hint 4 (some .int) [(0, 9, 12, 21), (0, 9, 15, 15)], Cond.methodLink RL 47 yX4_hint, Cond.instanceMethod yX4_hint, Cond.selects RX4 yX4_hint yX4_hint, Cond.code yX4_hint cX4_hint 4 (some .int), Cond.methodLink RX4 186 yX4_wayOf, Cond.instanceMethod yX4_wayOf, Cond.selects RX4 yX4_wayOf yX4_wayOf, Cond.code yX4_wayOf cX4_wayOf 8 (some .int), Cond.methodLink RX4 322 yJ6_bitCount_0f7a4]
def wsL_law0_r17 : List Cond := [Cond.static yJ6_bitCount_0f7a4, Cond.initialized RJ6, Cond.code yJ6_bitCount_0f7a4 cJ6_bitCount_0f7a4 1 (some .int), Cond.constant RJ6 265 (1431655765), Cond.constant RJ6 266 (858993459), Cond.constant RJ6 267 (252645135), Cond.methodLink RX4 327 yX4_isWithin, Cond.methodLink RX4 189 yX2_lowestSolvable, Cond.instanceMethod yX2_lowestSolvable, Cond.selects RX2 yX2_lowestSolvable yX2_lowestSolvable, Cond.code yX2_lowestSolvable cX2_lowestSolvable 4 (some .int), Cond.methodLink RX4 194 yX1_takeHint, Cond.instanceMethod yX1_takeHint, Cond.selects RX1 yX1_takeHint yX1_takeHint, Cond.code yX1_takeHint cX1_takeHint 2 none, Cond.fieldLink RX1 35 "KeylessHall$Group" "hintCost" "I", Cond.fieldLink RX1 38 "KeylessHall$Group" "hintCount" "I", Cond.methodLink RX4 198 yX4_leaveIfLate, Cond.instanceMethod yX4_leaveIfLate, Cond.selects RX4 yX4_leaveIfLate yX4_leaveIfLate, Cond.code yX4_leaveIfLate cX4_leaveIfLate 2 none, Cond.methodLink RX4 286 yX1_minutesLeft, Cond.instanceMethod yX1_minutesLeft, Cond.selects RX1 yX1_minutesLeft yX1_minutesLeft]
def wsL_law0_r18 : List Cond := [Cond.code yX1_minutesLeft cX1_minutesLeft 2 (some .int), Cond.methodLink RL 128 yX5_hint, Cond.instanceMethod yX5_hint, Cond.selects RX5 yX5_hint yX5_hint, Cond.code yX5_hint cX5_hint 6 (some .int), Cond.methodLink RX5 166 yX5_wayOf, Cond.instanceMethod yX5_wayOf, Cond.selects RX5 yX5_wayOf yX5_wayOf, Cond.code yX5_wayOf cX5_wayOf 4 (some .int), Cond.methodLink RX5 160 yX5_count, Cond.static yX5_count, Cond.code yX5_count cX5_count 3 (some .int), Cond.methodLink RX5 163 yX5_isWay, Cond.instanceMethod yX5_isWay, Cond.selects RX5 yX5_isWay yX5_isWay, Cond.code yX5_isWay cX5_isWay 10 (some .boolean), Cond.methodLink RX5 169 yX5_left, Cond.instanceMethod yX5_left, Cond.selects RX5 yX5_left yX5_left, Cond.code yX5_left cX5_left 2 (some .int), Cond.methodLink RL 129 yL_giveUp, Cond.static yL_giveUp, Cond.codeWith yL_giveUp cL_giveUp 3 (some .int) [(0, 5, 8, 21), (0, 5, 11, 15)], Cond.methodLink RL 50 yX4_giveUp]
def wsL_law0_r19 : List Cond := [Cond.instanceMethod yX4_giveUp, Cond.selects RX4 yX4_giveUp yX4_giveUp, Cond.code yX4_giveUp cX4_giveUp 3 none, Cond.methodLink RL 132 yX5_giveUp, Cond.instanceMethod yX5_giveUp, Cond.selects RX5 yX5_giveUp yX5_giveUp, Cond.code yX5_giveUp cX5_giveUp 3 none, Cond.methodLink RL 133 yL_reset, Cond.static yL_reset, Cond.codeWith yL_reset cL_reset 5 (some .int) [(0, 7, 10, 21), (0, 7, 14, 15)], Cond.methodLink RL 54 yX4_reset, Cond.instanceMethod yX4_reset, Cond.selects RX4 yX4_reset yX4_reset, Cond.code yX4_reset cX4_reset 6 none, Cond.fieldLink RX4 209 "KeylessHall$Worker" "place" "LKeylessHall$Room;", Cond.fieldLink RX4 215 "KeylessHall$Room" "isToBeChecked" "Z", Cond.methodLink RX4 205 yX4_workerNumbered, Cond.instanceMethod yX4_workerNumbered, Cond.selects RX4 yX4_workerNumbered yX4_workerNumbered, Cond.code yX4_workerNumbered cX4_workerNumbered 2 (some (.object "KeylessHall$Worker")), Cond.methodLink RX4 219 yX4_beginNext, Cond.static yX4_beginNext, Cond.code yX4_beginNext cX4_beginNext 3 none, Cond.fieldLink RX4 336 "KeylessHall$Room" "minutes" "[I"]
def wsL_law0_r20 : List Cond := [Cond.methodLink RX4 333 yX2_nextToReset, Cond.instanceMethod yX2_nextToReset, Cond.selects RX2 yX2_nextToReset yX2_nextToReset, Cond.code yX2_nextToReset cX2_nextToReset 4 (some .int), Cond.fieldLink RX2 54 "KeylessHall$Room" "toReset" "I", Cond.methodLink RX2 57 yX2_isNeededByOther, Cond.instanceMethod yX2_isNeededByOther, Cond.selects RX2 yX2_isNeededByOther yX2_isNeededByOther, Cond.code yX2_isNeededByOther cX2_isNeededByOther 4 (some .boolean), Cond.methodLink RX4 339 yX3_begin, Cond.instanceMethod yX3_begin, Cond.selects RX3 yX3_begin yX3_begin, Cond.code yX3_begin cX3_begin 4 none, Cond.fieldLink RX3 18 "KeylessHall$Worker" "place" "LKeylessHall$Room;", Cond.methodLink RX4 342 yX4_finishReset, Cond.static yX4_finishReset, Cond.code yX4_finishReset cX4_finishReset 2 none, Cond.methodLink RX4 345 yX3_stop, Cond.instanceMethod yX3_stop, Cond.selects RX3 yX3_stop yX3_stop, Cond.code yX3_stop cX3_stop 1 none, Cond.methodLink RL 136 yX5_reset, Cond.instanceMethod yX5_reset, Cond.selects RX5 yX5_reset yX5_reset]
def wsL_law0_r21 : List Cond := [Cond.code yX5_reset cX5_reset 5 none, Cond.methodLink RX5 179 yX5_isCrew, Cond.static yX5_isCrew, Cond.code yX5_isCrew cX5_isCrew 1 (some .boolean), Cond.methodLink RX5 182 yX5_begins, Cond.instanceMethod yX5_begins, Cond.selects RX5 yX5_begins yX5_begins, Cond.code yX5_begins cX5_begins 4 none, Cond.methodLink RX5 172 yX5_nextToReset, Cond.instanceMethod yX5_nextToReset, Cond.selects RX5 yX5_nextToReset yX5_nextToReset, Cond.code yX5_nextToReset cX5_nextToReset 8 (some .int), Cond.methodLink RX5 175 yX5_isDone, Cond.instanceMethod yX5_isDone, Cond.selects RX5 yX5_isDone yX5_isDone, Cond.code yX5_isDone cX5_isDone 2 none, Cond.methodLink RL 137 yL_forget, Cond.static yL_forget, Cond.codeWith yL_forget cL_forget 4 (some .int) [(0, 9, 12, 21), (0, 9, 15, 15)], Cond.methodLink RL 58 yX4_forget, Cond.instanceMethod yX4_forget, Cond.selects RX4 yX4_forget yX4_forget, Cond.code yX4_forget cX4_forget 5 (some .int), Cond.fieldLink RX4 223 "KeylessHall$Worker" "puzzle" "I"]
def wsL_law0_r22 : List Cond := [Cond.methodLink RL 139 yX5_forget, Cond.instanceMethod yX5_forget, Cond.selects RX5 yX5_forget yX5_forget, Cond.code yX5_forget cX5_forget 5 (some .int), Cond.methodLink RL 140 yL_book, Cond.static yL_book, Cond.codeWith yL_book cL_book 5 (some .int) [(0, 10, 13, 21), (0, 10, 17, 13), (0, 10, 21, 15)], Cond.methodLink RL 61 yX4_book, Cond.instanceMethod yX4_book, Cond.selects RX4 yX4_book yX4_book, Cond.code yX4_book cX4_book 5 (some .int), Cond.instantiable RX0 4, Cond.initialized RX0, Cond.methodLink RX4 236 yX4_bookingTooNear, Cond.instanceMethod yX4_bookingTooNear, Cond.selects RX4 yX4_bookingTooNear yX4_bookingTooNear, Cond.code yX4_bookingTooNear cX4_bookingTooNear 5 (some (.object "KeylessHall$Booking")), Cond.methodLink RX4 351 Lib.Math.abs.name, Cond.static Lib.Math.abs.name, Cond.initialized "java/lang/Math", Cond.code Lib.Math.abs.name Lib.Math.abs.code 1 (some .int), Cond.methodLink RX4 245 yX0_init, Cond.instanceMethod yX0_init, Cond.code yX0_init cX0_init 3 none]
def wsL_law0_r23 : List Cond := [Cond.methodLink RX0 3 objectInit, Cond.fieldLink RX0 9 "KeylessHall$Booking" "how" "I", Cond.fieldLink RX0 15 "KeylessHall$Booking" "groupNumber" "I", Cond.fieldLink RX0 18 "KeylessHall$Booking" "place" "LKeylessHall$Room;", Cond.fieldLink RX0 22 "KeylessHall$Booking" "begin" "I", Cond.methodLink RL 142 yX5_book, Cond.instanceMethod yX5_book, Cond.selects RX5 yX5_book yX5_book, Cond.code yX5_book cX5_book 4 (some .int), Cond.methodLink RX5 185 yX5_canBook, Cond.instanceMethod yX5_canBook, Cond.selects RX5 yX5_canBook yX5_canBook, Cond.code yX5_canBook cX5_canBook 7 (some .boolean), Cond.methodLink RL 143 yL_cancel, Cond.static yL_cancel, Cond.codeWith yL_cancel cL_cancel 3 (some .int) [(0, 5, 8, 21), (0, 5, 11, 15)], Cond.methodLink RL 64 yX4_cancel, Cond.instanceMethod yX4_cancel, Cond.selects RX4 yX4_cancel yX4_cancel, Cond.code yX4_cancel cX4_cancel 3 none, Cond.methodLink RX4 248 yX4_bookingNumbered, Cond.instanceMethod yX4_bookingNumbered, Cond.selects RX4 yX4_bookingNumbered yX4_bookingNumbered, Cond.code yX4_bookingNumbered cX4_bookingNumbered 2 (some (.object "KeylessHall$Booking"))]
def wsL_law0_r24 : List Cond := [Cond.methodLink RL 145 yX5_cancel, Cond.instanceMethod yX5_cancel, Cond.selects RX5 yX5_cancel yX5_cancel, Cond.code yX5_cancel cX5_cancel 3 none, Cond.methodLink RX5 188 yX5_isBooking, Cond.instanceMethod yX5_isBooking, Cond.selects RX5 yX5_isBooking yX5_isBooking, Cond.code yX5_isBooking cX5_isBooking 2 (some .boolean), Cond.methodLink RL 146 yL_offer, Cond.static yL_offer, Cond.codeWith yL_offer cL_offer 5 (some .int) [(0, 10, 13, 21), (0, 10, 17, 13)], Cond.methodLink RL 67 yX4_offer, Cond.instanceMethod yX4_offer, Cond.selects RX4 yX4_offer yX4_offer, Cond.code yX4_offer cX4_offer 5 (some .int), Cond.methodLink RX4 257 Lib.Math.max.name, Cond.static Lib.Math.max.name, Cond.code Lib.Math.max.name Lib.Math.max.code 2 (some .int), Cond.methodLink RX4 262 yX4_firstFree, Cond.instanceMethod yX4_firstFree, Cond.selects RX4 yX4_firstFree yX4_firstFree, Cond.code yX4_firstFree cX4_firstFree 6 (some .int), Cond.methodLink RL 148 yX5_offer, Cond.instanceMethod yX5_offer]
def wsL_law0_r25 : List Cond := [Cond.selects RX5 yX5_offer yX5_offer, Cond.code yX5_offer cX5_offer 4 (some .int), Cond.methodLink RL 149 yL_pass, Cond.static yL_pass, Cond.codeWith yL_pass cL_pass 4 (some .int) [(0, 9, 12, 13), (0, 9, 15, 15)], Cond.methodLink RL 70 yX4_pass, Cond.instanceMethod yX4_pass, Cond.selects RX4 yX4_pass yX4_pass, Cond.code yX4_pass cX4_pass 3 (some .int), Cond.methodLink RX4 270 yX4_passOne, Cond.instanceMethod yX4_passOne, Cond.selects RX4 yX4_passOne yX4_passOne, Cond.code yX4_passOne cX4_passOne 3 none, Cond.methodLink RX4 354 yX4_workOneMinute, Cond.static yX4_workOneMinute, Cond.code yX4_workOneMinute cX4_workOneMinute 2 none, Cond.fieldLink RX4 294 "KeylessHall$Worker" "minutesLeft" "I", Cond.methodLink RX4 358 yX4_dropUnusedBookings, Cond.instanceMethod yX4_dropUnusedBookings, Cond.selects RX4 yX4_dropUnusedBookings yX4_dropUnusedBookings, Cond.code yX4_dropUnusedBookings cX4_dropUnusedBookings 3 none, Cond.methodLink RL 151 yX5_pass, Cond.instanceMethod yX5_pass, Cond.selects RX5 yX5_pass yX5_pass]
def wsL_law0_r26 : List Cond := [Cond.code yX5_pass cX5_pass 4 (some .int), Cond.methodLink RX5 191 yX5_works, Cond.instanceMethod yX5_works, Cond.selects RX5 yX5_works yX5_works, Cond.code yX5_works cX5_works 2 none, Cond.methodLink RL 152 yX4_minute, Cond.instanceMethod yX4_minute, Cond.selects RX4 yX4_minute yX4_minute, Cond.code yX4_minute cX4_minute 1 (some .int), Cond.methodLink RL 155 yX5_minute, Cond.instanceMethod yX5_minute, Cond.selects RX5 yX5_minute yX5_minute, Cond.code yX5_minute cX5_minute 1 (some .int), Cond.methodLink RL 156 yL_state, Cond.static yL_state, Cond.codeWith yL_state cL_state 5 (some .int) [(0, 10, 13, 21), (0, 10, 17, 13)], Cond.methodLink RL 73 yX4_state, Cond.instanceMethod yX4_state, Cond.selects RX4 yX4_state yX4_state, Cond.code yX4_state cX4_state 4 (some .int), Cond.fieldLink RX4 277 "KeylessHall$Group" "number" "I", Cond.methodLink RL 158 yX5_state, Cond.instanceMethod yX5_state, Cond.selects RX5 yX5_state yX5_state]
def wsL_law0_r27 : List Cond := [Cond.code yX5_state cX5_state 3 (some .int), Cond.methodLink RL 159 yL_group, Cond.static yL_group, Cond.codeWith yL_group cL_group 5 (some .int) [(0, 10, 13, 21), (0, 10, 17, 13)], Cond.methodLink RL 76 yX4_group, Cond.instanceMethod yX4_group, Cond.selects RX4 yX4_group yX4_group, Cond.code yX4_group cX4_group 4 (some .int), Cond.fieldLink RX4 285 "KeylessHall$Room" "number" "I", Cond.fieldLink RX4 289 "KeylessHall$Group" "hintCount" "I", Cond.methodLink RL 161 yX5_group, Cond.instanceMethod yX5_group, Cond.selects RX5 yX5_group yX5_group, Cond.code yX5_group cX5_group 3 (some .int), Cond.methodLink RL 162 yL_crew, Cond.static yL_crew, Cond.codeWith yL_crew cL_crew 5 (some .int) [(0, 10, 13, 21), (0, 10, 17, 13)], Cond.methodLink RL 79 yX4_crew, Cond.instanceMethod yX4_crew, Cond.selects RX4 yX4_crew yX4_crew, Cond.code yX4_crew cX4_crew 4 (some .int), Cond.methodLink RL 164 yX5_crew, Cond.instanceMethod yX5_crew, Cond.selects RX5 yX5_crew yX5_crew]
def wsL_law0_r28 : List Cond := [Cond.code yX5_crew cX5_crew 3 (some .int), Cond.methodLink RL 165 yL_booking, Cond.static yL_booking, Cond.codeWith yL_booking cL_booking 5 (some .int) [(0, 10, 13, 21), (0, 10, 17, 13)], Cond.methodLink RL 82 yX4_booking, Cond.instanceMethod yX4_booking, Cond.selects RX4 yX4_booking yX4_booking, Cond.code yX4_booking cX4_booking 4 (some .int), Cond.methodLink RL 167 yX5_booking, Cond.instanceMethod yX5_booking, Cond.selects RX5 yX5_booking yX5_booking, Cond.code yX5_booking cX5_booking 3 (some .int)]
def wsL_law0 : List Cond := (wsL_law0_r1 ++ (wsL_law0_r2 ++ (wsL_law0_r3 ++ (wsL_law0_r4 ++ (wsL_law0_r5 ++ (wsL_law0_r6 ++ (wsL_law0_r7 ++ (wsL_law0_r8 ++ (wsL_law0_r9 ++ (wsL_law0_r10 ++ (wsL_law0_r11 ++ (wsL_law0_r12 ++ (wsL_law0_r13 ++ (wsL_law0_r14 ++ (wsL_law0_r15 ++ (wsL_law0_r16 ++ (wsL_law0_r17 ++ (wsL_law0_r18 ++ (wsL_law0_r19 ++ (wsL_law0_r20 ++ (wsL_law0_r21 ++ (wsL_law0_r22 ++ (wsL_law0_r23 ++ (wsL_law0_r24 ++ (wsL_law0_r25 ++ (wsL_law0_r26 ++ (wsL_law0_r27 ++ wsL_law0_r28))))))))))))))))))))))))))) ++ wsX40 ++ wsX50 ++ wsX30 ++ wsX20 ++ wsX10 ++ wsX00 ++ ([] : List Cond)
def wsL_law : List Cond := wsL_law0 ++ (vx_atS RX4 46 "java/lang/IllegalArgumentException" ["java/lang/RuntimeException", "java/lang/Exception"]).filter goodWord ++ (vx_atS RX4 57 "java/lang/IllegalStateException" ["java/lang/RuntimeException", "java/lang/Exception"]).filter goodWord ++ (vx_atS RX4 72 "java/lang/IndexOutOfBoundsException" ["java/lang/RuntimeException", "java/lang/Exception"]).filter goodWord
abbrev vwCl : List vw_C := [(RX0, TX0, 4), (RX1, TX1, 9), (RX2, TX2, 13), (RX3, TX3, 3), (RX4, TX4, 10), (RX5, TX5, 33)]
end
section
/-! THE WORLD of this claim: all cells of the class and of the reference, numbered by kind and index; what they hold is one table of ints (references are coded by the index of their object, null by a negative number). -/
abbrev kh_S : Type := Nat → Nat → Nat → Nat → Int32
def kh_up (ρ : kh_S) (k s i j : Nat) (v : Int32) : kh_S := fun k' s' i' j' => if k' = k ∧ s' = s ∧ i' = i ∧ j' = j then v else ρ k' s' i' j'
def kh_rc (ad : Nat → Nat → Nat) (k : Nat) (x : Int32) : Option Nat := if x < 0 then none else some (ad k x.toNatClampNeg)
/-- how many of a kind there are -/
def kh_n (ρ : kh_S) (k : Nat) : Nat := if k < 6 then 1 else if k < 11 then (ρ 61 0 0 0).toNatClampNeg else if k < 13 then (ρ 61 1 0 0).toNatClampNeg else if k = 13 then 3 else if k = 14 then (ρ 61 2 0 0).toNatClampNeg else if k = 15 then 1 else if k < 24 then 0 else if k = 34 then 0 else if k = 47 then 0 else if k < 53 then 1 else if k = 60 then 1 else 0
/-- a kind's shape: 0 an object, 1 ints, 2 booleans, 3 longs, 4 references; its class or the kind referred to; the length -/
def kh_kd (k : Nat) : Nat × Nat × Nat := if k = 0 then (0, 4, 0) else if k = 1 then (4, 6, 4) else if k = 2 then (4, 11, 30) else if k = 3 then (4, 14, 30) else if k = 4 then (4, 13, 3) else if k = 5 then (1, 0, 256) else if k = 6 then (0, 2, 0) else if k < 11 then (1, 0, 8) else if k = 11 then (0, 1, 0) else if k = 12 then (1, 0, 8) else if k = 13 then (0, 3, 0) else if k = 14 then (0, 0, 0) else if k = 15 then (0, 5, 0) else if k < 30 then (1, 0, 4) else if k < 34 then (1, 0, 32) else if k < 42 then (1, 0, 30) else if k = 42 then (1, 0, 240) else if k < 46 then (1, 0, 3) else if k = 46 then (2, 0, 3) else if k < 52 then (1, 0, 30) else if k = 52 then (1, 0, 256) else if k = 60 then (3, 0, 1) else (1, 0, 0)
/-- an object's fields: 0 an int; 1 a reference to a kind, coded; 2 the cell of a kind with the object's own index -/
def kh_ds (k : Nat) : List (Nat × Nat) :=
  if k = 0 then [(2, 1), (0, 0), (2, 2), (0, 0), (2, 3), (0, 0), (2, 4), (0, 0), (0, 0), (2, 5)]
  else if k = 6 then [(0, 0), (0, 0), (2, 7), (2, 8), (2, 9), (2, 10), (0, 0), (0, 0), (0, 0), (0, 0), (0, 0), (0, 0), (1, 11)]
  else if k = 11 then [(0, 0), (1, 6), (0, 0), (2, 12), (0, 0), (0, 0), (0, 0), (0, 0), (0, 0)]
  else if k = 13 then [(1, 6), (0, 0), (0, 0)]
  else if k = 14 then [(1, 6), (0, 0), (0, 0), (0, 0)]
  else if k = 15 then [(0, 0), (0, 0), (0, 0), (0, 0), (2, 24), (2, 25), (2, 26), (2, 27), (2, 28), (2, 29), (2, 30), (2, 31), (2, 32), (2, 33), (0, 0), (2, 35), (2, 36), (2, 37), (2, 38), (2, 39), (2, 40), (2, 41), (2, 42), (2, 43), (2, 44), (2, 45), (2, 46), (0, 0), (2, 48), (2, 49), (2, 50), (2, 51), (2, 52)]
  else []
def kh_dv (ad : Nat → Nat → Nat) (ρ : kh_S) (k i s : Nat) (d : Nat × Nat) : Value := if d.1 = 0 then .int (ρ k s i 0) else if d.1 = 1 then va_rf (kh_rc ad d.2 (ρ k s i 0)) else .ref (ad d.2 i)
def kh_fs (ad : Nat → Nat → Nat) (ρ : kh_S) (k i : Nat) : Nat → List (Nat × Nat) → List Value
  | _, [] => []
  | s, d :: t => kh_dv ad ρ k i s d :: kh_fs ad ρ k i (s + 1) t
def kh_e (ca : Nat → ClassId) (ad : Nat → Nat → Nat) (ρ : kh_S) (k i : Nat) : va_E :=
  if (kh_kd k).1 = 0 then .inr ((kh_kd k).2.1, kh_fs ad ρ k i 0 (kh_ds k))
  else if (kh_kd k).1 = 3 then .inl (ca k, (kh_kd k).2.2, .inr (.inl (fun j => (ρ k 0 i j).toInt64)))
  else if (kh_kd k).1 = 4 then .inl (ca k, (kh_kd k).2.2, .inr (.inr (.inr (.inr (fun j => kh_rc ad (kh_kd k).2.1 (ρ k 0 i j))))))
  else .inl (ca k, (kh_kd k).2.2, .inl (ρ k 0 i))
def kh_w (D : va_G) (ca : Nat → ClassId) (A : Nat → Prop) (ad : Nat → Nat → Nat) (ρ : kh_S) (H : Heap) : Prop :=
  (∀ k i : Nat, i < kh_n ρ k → va_at D vwCl (ad k i, kh_e ca ad ρ k i) H ∧ A (ad k i)) ∧ ∀ k i k' i' : Nat, i < kh_n ρ k → i' < kh_n ρ k' → ad k i = ad k' i' → k = k' ∧ i = i'
/-- the class of an array's elements -/
def kh_ty (k : Nat) : FieldType := if (kh_kd k).1 = 1 then .int else if (kh_kd k).1 = 2 then .boolean else if (kh_kd k).1 = 3 then .long else if k = 1 then .object RX2 else if k = 2 then .object RX1 else if k = 3 then .object RX0 else .object RX3
/-- the words on the classes' fields, and on the private members that a nest mate uses -/
def kh_L (U : State) : Prop := ∀ (ci : Nat) (q : vw_C), vwCl[ci]? = some q → ∀ w ∈ u_ws q.1 q.2.1 q.2.2, ∀ a : Array Value, w.before a U = true
def kh_Ns (U : State) : Prop := va_Nw (.methodLinkNest RX2 40 yX4_has RX4) U ∧ va_Nw (.methodLinkNest RX2 44 yX4_with RX4) U ∧ va_Nw (.methodLinkNest RX2 48 yX4_isWithin RX4) U ∧ va_Nw (.methodLinkNest RX4 37 yX3_init RX4) U
def kh_K (D : va_G) (ca : Nat → ClassId) (U : State) : Prop := va_K D vwCl [] U ∧ (∀ k : Nat, (kh_kd k).1 ≠ 0 → ArrOfT U (ca k) (kh_ty k) ∧ va_RA U (ca k) (kh_ty k)) ∧ kh_L U ∧ kh_Ns U
def kh_C (p : Program) (s : State) (m : MethodId) (args : Array Value) (c : Code) (cc : ByteArray) (nL : Nat) (own : String) (Ts : List Cond) (D : va_G) (ca : Nat → ClassId) (A : Nat → Prop) : Prop :=
  p.tables.exec = Jvm.exec ∧ c.code = cc ∧ c.maxLocals = nL ∧ s.vm.findClass own = some m.cls ∧ (∀ w ∈ Ts, w.before args s = true) ∧ kh_K D ca s ∧ ∀ q : Nat, s.heap.size ≤ q → A q
def kh_I (D : va_G) (ca : Nat → ClassId) (A : Nat → Prop) (ad : Nat → Nat → Nat) (ρ : kh_S) (U : State) : Prop := kh_K D ca U ∧ kh_w D ca A ad ρ U.heap ∧ ∀ q : Nat, U.heap.size ≤ q → A q
/-! pure rows -/
theorem kh_up_self (ρ : kh_S) (k s i j : Nat) (v : Int32) : kh_up ρ k s i j v k s i j = v := by simp [kh_up]
theorem kh_up_ne {ρ : kh_S} {k s i j k' s' i' j' : Nat} {v : Int32} (h : ¬ (k' = k ∧ s' = s ∧ i' = i ∧ j' = j)) : kh_up ρ k s i j v k' s' i' j' = ρ k' s' i' j' := if_neg h
theorem kh_n_up {ρ : kh_S} {k s i j : Nat} {v : Int32} (hk : k ≠ 61) (k' : Nat) : kh_n (kh_up ρ k s i j v) k' = kh_n ρ k' := by
  have e : ∀ a b d : Nat, kh_up ρ k s i j v 61 a b d = ρ 61 a b d := fun a b d => kh_up_ne (fun h => hk h.1.symm)
  simp only [kh_n, e]
theorem kh_lu {ρ : kh_S} {k s i j x k' : Nat} {v : Int32} (h : x < kh_n ρ k') (hk : k ≠ 61 := by decide) : x < kh_n (kh_up ρ k s i j v) k' := by rw [kh_n_up hk]; exact h
theorem kh_fs_congr {ad : Nat → Nat → Nat} {ρ ρ' : kh_S} {k i : Nat} (h : ∀ s : Nat, ρ k s i 0 = ρ' k s i 0) : ∀ (ds : List (Nat × Nat)) (s : Nat), kh_fs ad ρ k i s ds = kh_fs ad ρ' k i s ds
  | [], _ => rfl
  | d :: t, s => by
    show kh_dv ad ρ k i s d :: kh_fs ad ρ k i (s + 1) t = kh_dv ad ρ' k i s d :: kh_fs ad ρ' k i (s + 1) t
    rw [kh_fs_congr h t (s + 1)]
    simp only [kh_dv, h s]
theorem kh_e_congr {ca : Nat → ClassId} {ad : Nat → Nat → Nat} {ρ ρ' : kh_S} {k i : Nat} (h : ∀ s j : Nat, ρ k s i j = ρ' k s i j) : kh_e ca ad ρ k i = kh_e ca ad ρ' k i := by
  have h1 : ρ k 0 i = ρ' k 0 i := funext (h 0)
  simp only [kh_e, kh_fs_congr (fun s => h s 0), h1]
theorem kh_fs_len (ad : Nat → Nat → Nat) (ρ : kh_S) (k i : Nat) : ∀ (ds : List (Nat × Nat)) (s : Nat), (kh_fs ad ρ k i s ds).length = ds.length
  | [], _ => rfl
  | d :: t, s => by
    show (kh_fs ad ρ k i (s + 1) t).length + 1 = t.length + 1
    rw [kh_fs_len ad ρ k i t (s + 1)]
theorem kh_fs_set {ad : Nat → Nat → Nat} {ρ : kh_S} {k i : Nat} {x : Int32} {d : Nat × Nat} : ∀ (ds : List (Nat × Nat)) (s n : Nat), ds[n]? = some d → kh_fs ad (kh_up ρ k (s + n) i 0 x) k i s ds = (kh_fs ad ρ k i s ds).set n (kh_dv ad (kh_up ρ k (s + n) i 0 x) k i (s + n) d)
  | [], _, _, h => by simp at h
  | d0 :: t, s, 0, h => by
    cases h
    show kh_dv ad _ k i s d :: kh_fs ad _ k i (s + 1) t = kh_dv ad _ k i (s + 0) d :: kh_fs ad ρ k i (s + 1) t
    congr 1
    have key : ∀ (l : List (Nat × Nat)) (s1 : Nat), s < s1 → kh_fs ad (kh_up ρ k (s + 0) i 0 x) k i s1 l = kh_fs ad ρ k i s1 l := by
      intro l
      induction l with
      | nil => intro s1 _; rfl
      | cons a l ih =>
        intro s1 h1
        show kh_dv ad _ k i s1 a :: _ = kh_dv ad ρ k i s1 a :: _
        rw [ih (s1 + 1) (by omega)]
        congr 1
        have e : kh_up ρ k (s + 0) i 0 x k s1 i 0 = ρ k s1 i 0 := kh_up_ne (fun z => by omega)
        simp only [kh_dv, e]
    exact key t (s + 1) (by omega)
  | d0 :: t, s, n + 1, h => by
    have h' : t[n]? = some d := by simpa using h
    have e : kh_up ρ k (s + (n + 1)) i 0 x k s i 0 = ρ k s i 0 := kh_up_ne (fun z => by omega)
    show kh_dv ad _ k i s d0 :: kh_fs ad _ k i (s + 1) t = kh_dv ad ρ k i s d0 :: (kh_fs ad ρ k i (s + 1) t).set n _
    have e2 : s + (n + 1) = (s + 1) + n := by omega
    rw [show kh_dv ad (kh_up ρ k (s + (n + 1)) i 0 x) k i s d0 = kh_dv ad ρ k i s d0 by simp only [kh_dv, e]]
    rw [e2, kh_fs_set t (s + 1) n h']
/-- an index of something that is there -/
def kh_in (x : Int32) (n : Nat) : Bool := decide (0 ≤ x) && decide (x.toNatClampNeg < n)
theorem kh_in_vp {x : Int32} {n : Nat} (h : kh_in x n = true) : vp_in x n := by
  simp only [kh_in, Bool.and_eq_true, decide_eq_true_eq] at h
  intro q
  rcases q with q | q
  · exact absurd h.1 (Int32.not_le.mpr q)
  · omega
theorem kh_in_lt {x : Int32} {n : Nat} (h : kh_in x n = true) : x.toNatClampNeg < n := by
  simp only [kh_in, Bool.and_eq_true, decide_eq_true_eq] at h
  exact h.2
theorem kh_in_nn {x : Int32} {n : Nat} (h : kh_in x n = true) : ¬ x < 0 := by
  simp only [kh_in, Bool.and_eq_true, decide_eq_true_eq] at h
  exact Int32.not_lt.mpr h.1
theorem kh_rf {ad : Nat → Nat → Nat} {k n : Nat} {x : Int32} (h : kh_in x n = true) : va_rf (kh_rc ad k x) = .ref (ad k x.toNatClampNeg) := by
  rw [kh_rc, if_neg (kh_in_nn h)]; rfl
/-- partial answers -/
def kh_gd {α : Type} (b : Bool) (x : Option α) : Option α := if b = true then x else none
theorem kh_gd_ok {α : Type} {b : Bool} {x : Option α} {y : α} (h : kh_gd b x = some y) : b = true ∧ x = some y := by
  unfold kh_gd at h
  by_cases hb : b = true
  · rw [if_pos hb] at h; exact ⟨hb, h⟩
  · rw [if_neg hb] at h; cases h
def kh_bd {α β : Type} (x : Option α) (f : α → Option β) : Option β := match x with
  | none => none
  | some a => f a
theorem kh_bd_ok {α β : Type} {x : Option α} {f : α → Option β} {y : β} (h : kh_bd x f = some y) : ∃ a, x = some a ∧ f a = some y := by
  cases x with
  | none => cases h
  | some a => exact ⟨a, rfl, h⟩
theorem kh_ift {c : Prop} [Decidable c] {α : Type} {a b x : α} (h : ite c a b = x) (hc : c) : a = x := by rw [if_pos hc] at h; exact h
theorem kh_iff {c : Prop} [Decidable c] {α : Type} {a b x : α} (h : ite c a b = x) (hc : ¬ c) : b = x := by rw [if_neg hc] at h; exact h
/-- a loop: its step goes on (inl) or ends (inr) -/
def kh_lp {α β : Type} (f : α → Option (α ⊕ β)) : Nat → α → Option β
  | 0, _ => none
  | n + 1, a => match f a with
    | none => none
    | some (.inl a') => kh_lp f n a'
    | some (.inr b) => some b
theorem kh_lp_ok {α β : Type} {f : α → Option (α ⊕ β)} {n : Nat} {a : α} {b : β} (h : kh_lp f (n + 1) a = some b) : ∃ q, f a = some q ∧ ((∃ a', q = .inl a' ∧ kh_lp f n a' = some b) ∨ q = .inr b) := by
  unfold kh_lp at h
  cases e : f a with
  | none => rw [e] at h; cases h
  | some q =>
    rw [e] at h
    cases q with
    | inl a' => exact ⟨_, rfl, Or.inl ⟨a', rfl, h⟩⟩
    | inr b' =>
      have : b' = b := Option.some.inj h
      subst this
      exact ⟨_, rfl, Or.inr rfl⟩
/-! what is moved -/
theorem kh_L.moved {s U : State} (hW : s.WarmedH U.vm) (h : kh_L s) : kh_L U := by
  intro ci q hq w hw a
  have h1 := h ci q hq w hw a
  obtain ⟨k, -, rfl⟩ := List.mem_map.mp hw
  unfold u_lay at h1 ⊢
  split
  · rename_i z
    rw [if_pos z] at h1
    exact word_at hW (Or.inl rfl) h1
  · rename_i z
    rw [if_neg z] at h1
    exact word_at hW (Or.inl rfl) h1
theorem kh_K.moved {D : va_G} {ca : Nat → ClassId} {s U : State} (hW : s.WarmedH U.vm) (h : kh_K D ca s) : kh_K D ca U :=
  ⟨va_K.moved hW.alike h.1, fun k hk => ⟨arrOfT_moved hW.alike (h.2.1 k hk).1, (h.2.1 k hk).2.moved hW.alike⟩, h.2.2.1.moved hW, va_Nw.warmM hW h.2.2.2.1, va_Nw.warmM hW h.2.2.2.2.1, va_Nw.warmM hW h.2.2.2.2.2.1, va_Nw.warmM hW h.2.2.2.2.2.2⟩
theorem kh_blind {D : va_G} {ca : Nat → ClassId} {A : Nat → Prop} {ad : Nat → Nat → Nat} {ρ : kh_S} {as : List Value} : FrameBlind (va_Pc as (kh_I D ca A ad ρ)) :=
  fun a U g mk q => ⟨q.1, kh_K.moved (U := U.calling g mk a) (State.WarmedH.refl U) q.2.1, q.2.2.1, q.2.2.2⟩
theorem kh_w.lt {D : va_G} {ca : Nat → ClassId} {A : Nat → Prop} {ad : Nat → Nat → Nat} {ρ : kh_S} {H : Heap} (hw : kh_w D ca A ad ρ H) {k i : Nat} (hi : i < kh_n ρ k) : ad k i < H.size := (hw.1 k i hi).1.lt
theorem kh_w.put {D : va_G} {ca : Nat → ClassId} {A : Nat → Prop} {ad : Nat → Nat → Nat} {ρ : kh_S} {H H1 : Heap} (hw : kh_w D ca A ad ρ H) {k s i j : Nat} {v : Int32} (hk : k ≠ 61) (hi : i < kh_n ρ k) (oq : ∀ q : Nat, q ≠ ad k i → H1[q]? = H[q]?)
    (he : va_at D vwCl (ad k i, kh_e ca ad (kh_up ρ k s i j v) k i) H1) : kh_w D ca A ad (kh_up ρ k s i j v) H1 := by
  refine ⟨fun k' i' hi' => ?_, fun k1 i1 k2 i2 h1 h2 h3 => ?_⟩
  · rw [kh_n_up hk] at hi'
    by_cases h : k' = k ∧ i' = i
    · obtain ⟨rfl, rfl⟩ := h
      exact ⟨he, (hw.1 _ _ hi).2⟩
    · have e : kh_e ca ad (kh_up ρ k s i j v) k' i' = kh_e ca ad ρ k' i' := kh_e_congr (fun s' j' => kh_up_ne (fun z => h ⟨z.1, z.2.2.1⟩))
      rw [e]
      exact ⟨(hw.1 k' i' hi').1.kept (oq _ (fun z => h (hw.2 k' i' k i hi' hi z))), (hw.1 k' i' hi').2⟩
  · rw [kh_n_up hk] at h1 h2
    exact hw.2 k1 i1 k2 i2 h1 h2 h3
theorem kh_cls {ci : Nat} {q : vw_C} (h : vwCl[ci]? = some q) : (∃ ty0 : Nat → FieldType, ∀ k, k < q.2.2 → parseFieldDescriptor (q.2.1 k).2.2.1 = some (ty0 k)) ∧ ∀ a, a < q.2.2 → ∀ b, b < q.2.2 → a ≠ b → (q.2.1 a).2.1 ≠ (q.2.1 b).2.1 := by
  match ci, h with
  | 0, h => cases h; exact ⟨⟨_, tyX0_ok⟩, nmX0⟩
  | 1, h => cases h; exact ⟨⟨_, tyX1_ok⟩, nmX1⟩
  | 2, h => cases h; exact ⟨⟨_, tyX2_ok⟩, nmX2⟩
  | 3, h => cases h; exact ⟨⟨_, tyX3_ok⟩, nmX3⟩
  | 4, h => cases h; exact ⟨⟨_, tyX4_ok⟩, nmX4⟩
  | 5, h => cases h; exact ⟨⟨_, tyX5_ok⟩, nmX5⟩
  | n + 6, h => simp [vwCl] at h
end
section
/-! ROWS over the world of 03: an instruction each. -/
/-! locals, all of one slot -/
def kh_lv (ls : Array Slot) (nL : Nat) (l : List (Nat × Value)) : Prop := lv_has ls nL l ∧ ∀ q ∈ l, q.2.category = 1
theorem kh_c1 (r : Option Nat) : (va_rf r).category = 1 := by cases r <;> rfl
theorem kh_at {ls : Array Slot} {nL : Nat} {l : List (Nat × Value)} (h : kh_lv ls nL l) (k : Nat) {i : Nat} {v : Value} (hk : l[k]? = some (i, v)) : ls[i]? = some (.val v) := lv_at h.1 k hk
theorem kh_sub {ls : Array Slot} {nL : Nat} {l l' : List (Nat × Value)} (h : kh_lv ls nL l) (ks : List Nat) (hl : lv_pick l ks = l') : kh_lv ls nL l' := by
  refine ⟨lv_sub h.1 ks hl, fun q hq => ?_⟩
  rw [← hl] at hq
  obtain ⟨k, -, hk⟩ := List.mem_filterMap.mp hq
  exact h.2 q (List.mem_of_getElem? hk)
theorem kh_flt {ls ls' : Array Slot} {nL i : Nat} {v : Value} {l l' : List (Nat × Value)} (h : kh_lv ls nL l) (hc : v.category = 1) (h' : lv_has ls' nL ((i, v) :: l.filter (fun q => !(q.1 == i) && !(q.1 + 1 == i && q.2.category == 2)))) (hl : (i, v) :: l.filter (fun q => !(q.1 == i)) = l') : kh_lv ls' nL l' := by
  have e : l.filter (fun q => !(q.1 == i) && !(q.1 + 1 == i && q.2.category == 2)) = l.filter (fun q => !(q.1 == i)) := by
    refine List.filter_congr fun q hq => ?_
    rw [h.2 q hq]
    simp
  rw [e, hl] at h'
  refine ⟨h', fun q hq => ?_⟩
  rw [← hl] at hq
  rcases List.mem_cons.mp hq with e | hq
  · rw [e]; exact hc
  · exact h.2 q (List.mem_filter.mp hq).1
theorem kh_c1s {ls : Array Slot} {nL : Nat} {l : List (Nat × Value)} (h : lv_has ls nL l) (hc : (l.map fun q => q.2.category) = l.map fun _ => 1) : kh_lv ls nL l := by
  refine ⟨h, fun q hq => ?_⟩
  obtain ⟨k, hk⟩ := List.getElem?_of_mem hq
  have h1 := congrArg (fun z => z[k]?) hc
  simpa [hk] using h1
section KHR
variable {p : Program} {l : Launch} {e : Env} {R : Room} {s : State} {m : MethodId} {args : Array Value} {below : List Frame} {meth : Method} {c : Code} {H : Heap} {locs : List Loc} {cells slots : Nat} {Q : State → Prop}
variable {cc : ByteArray} {nL pc index : Nat} {own : String} {Ts : List Cond} {ls : Array Slot} {rest : List Value} {D : va_G} {ca : Nat → ClassId} {A : Nat → Prop} {ad : Nat → Nat → Nat} {ρ : kh_S}
theorem kh_get (C : kh_C p s m args c cc nL own Ts D ca A) (hw : kh_w D ca A ad ρ H) (k sl : Nat) {i : Nat} {z v : Value} (hz : z = .ref (ad k i)) (hi : i < kh_n ρ k) {ci N : Nat} {Cn : String} {T : u_T} (hkd : kh_kd k = (0, ci, 0)) (hc : vwCl[ci]? = some (Cn, T, N)) (hsl : sl < N)
    (hlink : (Cond.fieldLink own index (T sl).1 (T sl).2.1 (T sl).2.2.1).before args s = true) (hv : (kh_fs ad ρ k i 0 (kh_ds k))[sl]? = some v) (hdg : decode cc pc = .ok (.getfield index, 3))
    (kk : W p l e R s m args below meth c H locs cells slots Q (F0 m (pc + 3) ls (v :: rest))) : W p l e R s m args below meth c H locs cells slots Q (F0 m pc ls (z :: rest)) := by
  subst hz
  obtain ⟨hx, hb, -, hown, -, hK, -⟩ := C
  have h1 := (hw.1 k i hi).1
  rw [show kh_e ca ad ρ k i = .inr (ci, kh_fs ad ρ k i 0 (kh_ds k)) by simp only [kh_e, hkd, if_true]] at h1
  obtain ⟨r, hr0, cell, q1, q2, q3, q4⟩ := h1
  have hr : r = (Cn, T, N) := Option.some.inj (hr0.symm.trans hc)
  subst hr
  obtain ⟨hS, hfc, kC, hkC, hkind⟩ := hK.1.1 ci _ hc
  obtain ⟨cf, kf, fi, f, hfi, hslot⟩ := hS sl hsl
  refine W.getf hx hb hown hlink hfi (u_facts (args := args) hfc hkC (u_lays (fun w h => hK.2.2.1 ci _ hc w h args) (fun w h => h) hsl) hfi).1 q1 (by rw [q3]; exact fun h => by cases h) (v := v) ?_ rfl rfl hdg kk
  rw [hslot, q4 sl hsl]
  have h2 : vp_V (kh_fs ad ρ k i 0 (kh_ds k)) sl = v := by simp only [vp_V, List.getD_eq_getElem?_getD, hv]; rfl
  exact congrArg some h2
theorem kh_put (C : kh_C p s m args c cc nL own Ts D ca A) (hw : kh_w D ca A ad ρ H) (hS0 : va_S A s.heap H locs) (k sl : Nat) {i : Nat} {z v : Value} {x : Int32} (hz : z = .ref (ad k i)) (hi : i < kh_n ρ k) {ci N : Nat} {Cn : String} {T : u_T} (hkd : kh_kd k = (0, ci, 0)) (hk61 : k ≠ 61) (hc : vwCl[ci]? = some (Cn, T, N)) (hsl : sl < N) {d : Nat × Nat} (hd : (kh_ds k)[sl]? = some d)
    (hlink : (Cond.fieldLink own index (T sl).1 (T sl).2.1 (T sl).2.2.1).before args s = true) (hfin : (T sl).2.2.2 = false) (hv : kh_dv ad (kh_up ρ k sl i 0 x) k i sl d = v) {ty : FieldType} (hty : parseFieldDescriptor (T sl).2.2.1 = some ty) (hn : narrow ty v = v) (hfit : fits ty v = true) (hdg : decode cc pc = .ok (.putfield index, 3))
    (kk : ∀ (H1 : Heap) (locs1 : List Loc), kh_w D ca A ad (kh_up ρ k sl i 0 x) H1 → va_S A s.heap H1 locs1 → W p l e R s m args below meth c H1 locs1 cells slots Q (F0 m (pc + 3) ls rest)) : W p l e R s m args below meth c H locs cells slots Q (F0 m pc ls (v :: z :: rest)) := by
  subst hz
  obtain ⟨hx, hb, -, hown, -, hK, -⟩ := C
  have h1 := (hw.1 k i hi).1
  have he : ∀ ρ' : kh_S, kh_e ca ad ρ' k i = .inr (ci, kh_fs ad ρ' k i 0 (kh_ds k)) := fun ρ' => by simp only [kh_e, hkd, if_true]
  rw [he] at h1
  obtain ⟨r, hr0, cell, q1, q2, q3, q4⟩ := h1
  have hr : r = (Cn, T, N) := Option.some.inj (hr0.symm.trans hc)
  subst hr
  obtain ⟨hSl, hfc, kC, hkC, hkind⟩ := hK.1.1 ci _ hc
  obtain ⟨cf, kf, fi, f, hfi, hslot⟩ := hSl sl hsl
  have hLw := fun w h => hK.2.2.1 ci _ hc w h args
  have hlay : (u_lay Cn T sl).before args s = true := hLw _ (u_in_lay hsl)
  unfold u_lay at hlay
  rw [if_neg (by rw [hfin]; decide)] at hlay
  have hst := (u_facts (args := args) hfc hkC (u_lays hLw (fun w h => h) hsl) hfi).1
  have h6 := u_store hfc hkC hkind hlay hfi hty hn hfit
  obtain ⟨⟨ty0, hty0⟩, hnm⟩ := kh_cls hc
  have hap := va_apart (own := own) (Ts := u_ws Cn T N) hLw (fun w h => h) ty0 hty0 hnm hK.1 hc
  have hlen : sl < (kh_fs ad ρ k i 0 (kh_ds k)).length := by rw [kh_fs_len]; exact (List.getElem?_eq_some_iff.mp hd).1
  refine W.putK hx hb (f := f) ⟨hown, hlink, ⟨_, _, _, hfi⟩, hst⟩ (by rw [q2]; exact h6) q1 q3 (by rw [hslot]; exact k2_hasslot (q4 sl hsl)) rfl rfl hdg fun H' e1 e2 e3 => ?_
  rw [hslot] at e1 ⊢
  have hfs : kh_fs ad (kh_up ρ k sl i 0 x) k i 0 (kh_ds k) = (kh_fs ad ρ k i 0 (kh_ds k)).set sl v := by
    have h9 := kh_fs_set (ad := ad) (ρ := ρ) (k := k) (i := i) (x := x) (kh_ds k) 0 sl hd
    rw [Nat.zero_add] at h9
    rw [h9, hv]
  refine kk H' _ (hw.put hk61 hi e3 ?_) (hS0.put e2 e3 (hw.1 k i hi).2)
  rw [he, hfs]
  exact ⟨_, hc, t_OB.to (V := updV (vp_V (kh_fs ad ρ k i 0 (kh_ds k))) sl v) ⟨_, e1, q2, q3, t_set q4 hap hsl v⟩ (fun j _ => vp_updV_set hlen v j)⟩
theorem kh_putI (C : kh_C p s m args c cc nL own Ts D ca A) (hw : kh_w D ca A ad ρ H) (hS0 : va_S A s.heap H locs) (k sl : Nat) {i : Nat} {z : Value} {x : Int32} (hz : z = .ref (ad k i)) (hi : i < kh_n ρ k) {ci N : Nat} {Cn : String} {T : u_T} (hkd : kh_kd k = (0, ci, 0)) (hk61 : k ≠ 61) (hc : vwCl[ci]? = some (Cn, T, N)) (hsl : sl < N) (hd : (kh_ds k)[sl]? = some (0, 0))
    (hlink : (Cond.fieldLink own index (T sl).1 (T sl).2.1 (T sl).2.2.1).before args s = true) (hfin : (T sl).2.2.2 = false) (hty : parseFieldDescriptor (T sl).2.2.1 = some .int) (hdg : decode cc pc = .ok (.putfield index, 3))
    (kk : ∀ (H1 : Heap) (locs1 : List Loc), kh_w D ca A ad (kh_up ρ k sl i 0 x) H1 → va_S A s.heap H1 locs1 → W p l e R s m args below meth c H1 locs1 cells slots Q (F0 m (pc + 3) ls rest)) : W p l e R s m args below meth c H locs cells slots Q (F0 m pc ls (.int x :: z :: rest)) :=
  kh_put C hw hS0 k sl (v := .int x) hz hi hkd hk61 hc hsl hd hlink hfin (by show Value.int _ = _; rw [kh_up_self]) hty rfl rfl hdg kk
def kh_b (x : Int32) : Bool := decide (x = 0) || decide (x = 1)
theorem kh_b_ok {x : Int32} (h : kh_b x = true) : narrow .boolean (.int x) = .int x ∧ fits .boolean (.int x) = true := by
  simp only [kh_b, Bool.or_eq_true, decide_eq_true_eq] at h
  rcases h with rfl | rfl <;> exact ⟨rfl, rfl⟩
theorem kh_putZ (C : kh_C p s m args c cc nL own Ts D ca A) (hw : kh_w D ca A ad ρ H) (hS0 : va_S A s.heap H locs) (k sl : Nat) {i : Nat} {z : Value} {x : Int32} (hz : z = .ref (ad k i)) (hi : i < kh_n ρ k) {ci N : Nat} {Cn : String} {T : u_T} (hkd : kh_kd k = (0, ci, 0)) (hk61 : k ≠ 61) (hc : vwCl[ci]? = some (Cn, T, N)) (hsl : sl < N) (hd : (kh_ds k)[sl]? = some (0, 0))
    (hlink : (Cond.fieldLink own index (T sl).1 (T sl).2.1 (T sl).2.2.1).before args s = true) (hfin : (T sl).2.2.2 = false) (hty : parseFieldDescriptor (T sl).2.2.1 = some .boolean) (hx : kh_b x = true) (hdg : decode cc pc = .ok (.putfield index, 3))
    (kk : ∀ (H1 : Heap) (locs1 : List Loc), kh_w D ca A ad (kh_up ρ k sl i 0 x) H1 → va_S A s.heap H1 locs1 → W p l e R s m args below meth c H1 locs1 cells slots Q (F0 m (pc + 3) ls rest)) : W p l e R s m args below meth c H locs cells slots Q (F0 m pc ls (.int x :: z :: rest)) :=
  kh_put C hw hS0 k sl (v := .int x) hz hi hkd hk61 hc hsl hd hlink hfin (by show Value.int _ = _; rw [kh_up_self]) hty (kh_b_ok hx).1 (kh_b_ok hx).2 hdg kk
/-- a reference field: the value on the stack is the coded reference, or null -/
theorem kh_putR (C : kh_C p s m args c cc nL own Ts D ca A) (hw : kh_w D ca A ad ρ H) (hS0 : va_S A s.heap H locs) (k sl kt : Nat) {i : Nat} {z v : Value} {x : Int32} {C2 : String} (hz : z = .ref (ad k i)) (hi : i < kh_n ρ k) {ci N : Nat} {Cn : String} {T : u_T} (hkd : kh_kd k = (0, ci, 0)) (hk61 : k ≠ 61) (hc : vwCl[ci]? = some (Cn, T, N)) (hsl : sl < N) (hd : (kh_ds k)[sl]? = some (1, kt))
    (hlink : (Cond.fieldLink own index (T sl).1 (T sl).2.1 (T sl).2.2.1).before args s = true) (hfin : (T sl).2.2.2 = false) (hty : parseFieldDescriptor (T sl).2.2.1 = some (.object C2)) (hx : v = va_rf (kh_rc ad kt x)) (hdg : decode cc pc = .ok (.putfield index, 3))
    (kk : ∀ (H1 : Heap) (locs1 : List Loc), kh_w D ca A ad (kh_up ρ k sl i 0 x) H1 → va_S A s.heap H1 locs1 → W p l e R s m args below meth c H1 locs1 cells slots Q (F0 m (pc + 3) ls rest)) : W p l e R s m args below meth c H locs cells slots Q (F0 m pc ls (v :: z :: rest)) := by
  have h1 : narrow (.object C2) v = v ∧ fits (.object C2) v = true := by
    rw [hx]
    rcases va_rf_or (kh_rc ad kt x) with h | ⟨a, h⟩ <;> rw [h] <;> exact ⟨rfl, rfl⟩
  exact kh_put C hw hS0 k sl (v := v) hz hi hkd hk61 hc hsl hd hlink hfin (by rw [hx]; show va_rf (kh_rc ad kt _) = _; rw [kh_up_self]) hty h1.1 h1.2 hdg kk
theorem kh_arr (hw : kh_w D ca A ad ρ H) {k i n q : Nat} (hi : i < kh_n ρ k) (hkd : kh_kd k = (1, q, n) ∨ kh_kd k = (2, q, n)) : H[ad k i]? = some (arrV (ca k) n (fun j => .int (ρ k 0 i j))) := by
  have h1 := (hw.1 k i hi).1
  have he : kh_e ca ad ρ k i = .inl (ca k, n, .inl (ρ k 0 i)) := by
    rcases hkd with h | h <;> simp [kh_e, h]
  rw [he] at h1
  exact h1
theorem kh_iald (C : kh_C p s m args c cc nL own Ts D ca A) (hw : kh_w D ca A ad ρ H) (k : Nat) {i n q : Nat} {z : Value} {j : Int32} (hz : z = .ref (ad k i)) (hi : i < kh_n ρ k) (hkd : kh_kd k = (1, q, n)) (hj : kh_in j n = true) (hdg : decode cc pc = .ok (.iaload, 1))
    (kk : W p l e R s m args below meth c H locs cells slots Q (F0 m (pc + 1) ls (.int (ρ k 0 i j.toNatClampNeg) :: rest))) : W p l e R s m args below meth c H locs cells slots Q (F0 m pc ls (.int j :: z :: rest)) := by
  subst hz
  obtain ⟨hx, hb, -, hown, -, hK, -⟩ := C
  have hA := (hK.2.1 k (by rw [hkd]; decide)).1
  rw [show kh_ty k = .int by simp [kh_ty, hkd]] at hA
  exact W.iald (v := .int (ρ k 0 i j.toNatClampNeg)) hx hb (kh_arr hw hi (Or.inl hkd)) (hA _ _) (fun q => by cases q) (by rw [arrV_size]; exact kh_in_vp hj) (by rw [arrV_read _ _ (kh_in_lt hj)]) rfl rfl hdg kk
theorem kh_zald (C : kh_C p s m args c cc nL own Ts D ca A) (hw : kh_w D ca A ad ρ H) (k : Nat) {i n q : Nat} {z : Value} {j : Int32} (hz : z = .ref (ad k i)) (hi : i < kh_n ρ k) (hkd : kh_kd k = (2, q, n)) (hj : kh_in j n = true) (hdg : decode cc pc = .ok (.baload, 1))
    (kk : W p l e R s m args below meth c H locs cells slots Q (F0 m (pc + 1) ls (.int (ρ k 0 i j.toNatClampNeg) :: rest))) : W p l e R s m args below meth c H locs cells slots Q (F0 m pc ls (.int j :: z :: rest)) := by
  subst hz
  obtain ⟨hx, hb, -, hown, -, hK, -⟩ := C
  have hA := (hK.2.1 k (by rw [hkd]; decide)).1
  rw [show kh_ty k = .boolean by simp [kh_ty, hkd]] at hA
  exact W.zald (v := .int (ρ k 0 i j.toNatClampNeg)) hx hb (kh_arr hw hi (Or.inr hkd)) (hA _ _) (fun q => by cases q) (by rw [arrV_size]; exact kh_in_vp hj) (by rw [arrV_read _ _ (kh_in_lt hj)]) rfl rfl hdg kk
theorem kh_arr_up {ρ : kh_S} {k i n : Nat} {j x : Int32} {cA : ClassId} : (arrV cA n (fun q => .int (ρ k 0 i q))).setSlot j.toNatClampNeg (.int x) = arrV cA n (fun q => .int (kh_up ρ k 0 i j.toNatClampNeg x k 0 i q)) := by
  rw [arrV_store]
  congr 1
  funext q
  by_cases hq : q = j.toNatClampNeg
  · subst hq
    simp [updV, kh_up_self]
  · rw [kh_up_ne (fun h => hq h.2.2.2)]
    simp [updV, hq]
theorem kh_iast (C : kh_C p s m args c cc nL own Ts D ca A) (hw : kh_w D ca A ad ρ H) (hS0 : va_S A s.heap H locs) (k : Nat) {i n q : Nat} {z : Value} {j x : Int32} (hz : z = .ref (ad k i)) (hi : i < kh_n ρ k) (hk61 : k ≠ 61) (hkd : kh_kd k = (1, q, n)) (hj : kh_in j n = true) (hdg : decode cc pc = .ok (.iastore, 1))
    (kk : ∀ (H1 : Heap) (locs1 : List Loc), kh_w D ca A ad (kh_up ρ k 0 i j.toNatClampNeg x) H1 → va_S A s.heap H1 locs1 → W p l e R s m args below meth c H1 locs1 cells slots Q (F0 m (pc + 1) ls rest)) : W p l e R s m args below meth c H locs cells slots Q (F0 m pc ls (.int x :: .int j :: z :: rest)) := by
  subst hz
  obtain ⟨hx, hb, -, hown, -, hK, -⟩ := C
  have hA := (hK.2.1 k (by rw [hkd]; decide)).1
  rw [show kh_ty k = .int by simp [kh_ty, hkd]] at hA
  refine W.iast hx hb (kh_arr hw hi (Or.inl hkd)) (hA _ _) (fun q => by cases q) (by rw [arrV_size]; exact kh_in_vp hj) rfl rfl hdg fun H1 e z oq => ?_
  refine kk H1 _ (hw.put hk61 hi oq ?_) (hS0.put z oq (hw.1 k i hi).2)
  rw [show kh_e ca ad (kh_up ρ k 0 i j.toNatClampNeg x) k i = .inl (ca k, n, .inl (kh_up ρ k 0 i j.toNatClampNeg x k 0 i)) by simp [kh_e, hkd]]
  exact e.trans (congrArg some kh_arr_up)
theorem kh_zast (C : kh_C p s m args c cc nL own Ts D ca A) (hw : kh_w D ca A ad ρ H) (hS0 : va_S A s.heap H locs) (k : Nat) {i n q : Nat} {z : Value} {j x : Int32} (hz : z = .ref (ad k i)) (hi : i < kh_n ρ k) (hk61 : k ≠ 61) (hkd : kh_kd k = (2, q, n)) (hj : kh_in j n = true) (hx : kh_b x = true) (hdg : decode cc pc = .ok (.bastore, 1))
    (kk : ∀ (H1 : Heap) (locs1 : List Loc), kh_w D ca A ad (kh_up ρ k 0 i j.toNatClampNeg x) H1 → va_S A s.heap H1 locs1 → W p l e R s m args below meth c H1 locs1 cells slots Q (F0 m (pc + 1) ls rest)) : W p l e R s m args below meth c H locs cells slots Q (F0 m pc ls (.int x :: .int j :: z :: rest)) := by
  subst hz
  obtain ⟨hxe, hb, -, hown, -, hK, -⟩ := C
  have hA := (hK.2.1 k (by rw [hkd]; decide)).1
  rw [show kh_ty k = .boolean by simp [kh_ty, hkd]] at hA
  refine W.zast hxe hb (kh_arr hw hi (Or.inr hkd)) (hA _ _) (fun q => by cases q) (by rw [arrV_size]; exact kh_in_vp hj) rfl rfl hdg fun H1 e z oq => ?_
  refine kk H1 _ (hw.put hk61 hi oq ?_) (hS0.put z oq (hw.1 k i hi).2)
  rw [show kh_e ca ad (kh_up ρ k 0 i j.toNatClampNeg x) k i = .inl (ca k, n, .inl (kh_up ρ k 0 i j.toNatClampNeg x k 0 i)) by simp [kh_e, hkd]]
  rw [(kh_b_ok hx).1] at e
  exact e.trans (congrArg some kh_arr_up)
theorem kh_aald (C : kh_C p s m args c cc nL own Ts D ca A) (hw : kh_w D ca A ad ρ H) (k : Nat) {i n kt : Nat} {z : Value} {j : Int32} {Cr : String} (hz : z = .ref (ad k i)) (hi : i < kh_n ρ k) (hkd : kh_kd k = (4, kt, n)) (hty : kh_ty k = .object Cr) (hj : kh_in j n = true) (hdg : decode cc pc = .ok (.aaload, 1))
    (kk : W p l e R s m args below meth c H locs cells slots Q (F0 m (pc + 1) ls (va_rf (kh_rc ad kt (ρ k 0 i j.toNatClampNeg)) :: rest))) : W p l e R s m args below meth c H locs cells slots Q (F0 m pc ls (.int j :: z :: rest)) := by
  subst hz
  obtain ⟨hx, hb, -, hown, -, hK, -⟩ := C
  have hA := (hK.2.1 k (by rw [hkd]; decide)).1
  rw [hty] at hA
  have h1 := (hw.1 k i hi).1
  rw [show kh_e ca ad ρ k i = .inl (ca k, n, .inr (.inr (.inr (.inr (fun j => kh_rc ad kt (ρ k 0 i j)))))) by simp [kh_e, hkd]] at h1
  have h2 : H[ad k i]? = some (arrV (ca k) n (fun j => va_rf (kh_rc ad kt (ρ k 0 i j)))) := h1
  exact W.aald (v := va_rf (kh_rc ad kt (ρ k 0 i j.toNatClampNeg))) (ty := .object Cr) hx hb h2 (hA _ _) rfl (fun q => by cases q) (by rw [arrV_size]; exact kh_in_vp hj) (by rw [arrV_read _ _ (kh_in_lt hj)]) rfl rfl hdg kk
theorem kh_istore_n (hx : p.tables.exec = Jvm.exec) (hb : c.code = cc) {k : Fin 4} {i : Nat} {x : Int32} {lv lv' : List (Nat × Value)} (hdg : decode cc pc = .ok (.istore_n k, 1)) (hi : (k : Nat) = i) (h : kh_lv ls nL lv) (hn : i < nL) (hl : (i, Value.int x) :: lv.filter (fun q => !(q.1 == i)) = lv')
    (kk : ∀ ls' : Array Slot, kh_lv ls' nL lv' → W p l e R s m args below meth c H locs cells slots Q (F0 m (pc + 1) ls' rest)) : W p l e R s m args below meth c H locs cells slots Q (F0 m pc ls (.int x :: rest)) :=
  lv_istore_n hx hb hdg hi h.1 hn rfl (fun ls' h' => kk ls' (kh_flt h rfl h' hl))
theorem kh_istore (hx : p.tables.exec = Jvm.exec) (hb : c.code = cc) {i : Nat} {x : Int32} {lv lv' : List (Nat × Value)} (hdg : decode cc pc = .ok (.istore i, 2)) (h : kh_lv ls nL lv) (hn : i < nL) (hl : (i, Value.int x) :: lv.filter (fun q => !(q.1 == i)) = lv')
    (kk : ∀ ls' : Array Slot, kh_lv ls' nL lv' → W p l e R s m args below meth c H locs cells slots Q (F0 m (pc + 2) ls' rest)) : W p l e R s m args below meth c H locs cells slots Q (F0 m pc ls (.int x :: rest)) :=
  lv_istore hx hb hdg h.1 hn rfl (fun ls' h' => kk ls' (kh_flt h rfl h' hl))
theorem kh_iinc (hx : p.tables.exec = Jvm.exec) (hb : c.code = cc) {i k : Nat} {n : Int} {x v : Int32} {lv lv' : List (Nat × Value)} (hdg : decode cc pc = .ok (.iinc i n, 3)) (h : kh_lv ls nL lv) (hk : lv[k]? = some (i, .int x)) (hv : x + Int32.ofInt n = v) (hn : i < nL) (hl : (i, Value.int v) :: lv.filter (fun q => !(q.1 == i)) = lv')
    (kk : ∀ ls' : Array Slot, kh_lv ls' nL lv' → W p l e R s m args below meth c H locs cells slots Q (F0 m (pc + 3) ls' rest)) : W p l e R s m args below meth c H locs cells slots Q (F0 m pc ls rest) :=
  lv_iinc hx hb hdg h.1 hk hv hn rfl (fun ls' h' => kk ls' (kh_flt h rfl h' hl))
/-! references as values -/
theorem kh_aload_n (hx : p.tables.exec = Jvm.exec) (hb : c.code = cc) {k : Fin 4} {i : Nat} {r : Option Nat} (hdg : decode cc pc = .ok (.aload_n k, 1)) (hi : (k : Nat) = i) (hl : ls[i]? = some (.val (va_rf r)))
    (kk : W p l e R s m args below meth c H locs cells slots Q (F0 m (pc + 1) ls (va_rf r :: rest))) : W p l e R s m args below meth c H locs cells slots Q (F0 m pc ls rest) := by
  cases r with
  | none => exact lv_aload_nN hx hb hdg hi hl kk
  | some a => exact lv_aload_n hx hb hdg hi hl kk
theorem kh_aload (hx : p.tables.exec = Jvm.exec) (hb : c.code = cc) {i : Nat} {r : Option Nat} (hdg : decode cc pc = .ok (.aload i, 2)) (hl : ls[i]? = some (.val (va_rf r)))
    (kk : W p l e R s m args below meth c H locs cells slots Q (F0 m (pc + 2) ls (va_rf r :: rest))) : W p l e R s m args below meth c H locs cells slots Q (F0 m pc ls rest) := by
  cases r with
  | none => exact lv_aloadN hx hb hdg hl kk
  | some a => exact lv_aload hx hb hdg hl kk
theorem kh_astore_n (hx : p.tables.exec = Jvm.exec) (hb : c.code = cc) {k : Fin 4} {i : Nat} {r : Option Nat} {lv lv' : List (Nat × Value)} (hdg : decode cc pc = .ok (.astore_n k, 1)) (hi : (k : Nat) = i) (h : kh_lv ls nL lv) (hn : i < nL) (hl : (i, va_rf r) :: lv.filter (fun q => !(q.1 == i)) = lv')
    (kk : ∀ ls' : Array Slot, kh_lv ls' nL lv' → W p l e R s m args below meth c H locs cells slots Q (F0 m (pc + 1) ls' rest)) : W p l e R s m args below meth c H locs cells slots Q (F0 m pc ls (va_rf r :: rest)) := by
  cases r with
  | none => exact lv_astore_nN hx hb hdg hi h.1 hn rfl (fun ls' h' => kk ls' (kh_flt h rfl h' hl))
  | some a => exact lv_astore_n hx hb hdg hi h.1 hn rfl (fun ls' h' => kk ls' (kh_flt h rfl h' hl))
theorem kh_astore (hx : p.tables.exec = Jvm.exec) (hb : c.code = cc) {i : Nat} {r : Option Nat} {lv lv' : List (Nat × Value)} (hdg : decode cc pc = .ok (.astore i, 2)) (h : kh_lv ls nL lv) (hn : i < nL) (hl : (i, va_rf r) :: lv.filter (fun q => !(q.1 == i)) = lv')
    (kk : ∀ ls' : Array Slot, kh_lv ls' nL lv' → W p l e R s m args below meth c H locs cells slots Q (F0 m (pc + 2) ls' rest)) : W p l e R s m args below meth c H locs cells slots Q (F0 m pc ls (va_rf r :: rest)) := by
  cases r with
  | none => exact lv_astoreN hx hb hdg h.1 hn rfl (fun ls' h' => kk ls' (kh_flt h rfl h' hl))
  | some a => exact lv_astore hx hb hdg h.1 hn rfl (fun ls' h' => kk ls' (kh_flt h rfl h' hl))
theorem kh_ifnull (hx : p.tables.exec = Jvm.exec) (hb : c.code = cc) {k : Nat} {x : Int32} {off : Int} {tgt : Nat} (hdg : decode cc pc = .ok (.ifnull off, 3)) (ht : (pc : Int) + off = (tgt : Int))
    (kt : x < 0 → W p l e R s m args below meth c H locs cells slots Q (F0 m tgt ls rest)) (kf : ¬ x < 0 → W p l e R s m args below meth c H locs cells slots Q (F0 m (pc + 3) ls rest)) : W p l e R s m args below meth c H locs cells slots Q (F0 m pc ls (va_rf (kh_rc ad k x) :: rest)) := by
  by_cases h : x < 0
  · rw [kh_rc, if_pos h]; exact lv_ifnullN hx hb hdg ht (kt h)
  · rw [kh_rc, if_neg h]; exact lv_ifnull hx hb hdg (kf h)
theorem kh_ifnonnull (hx : p.tables.exec = Jvm.exec) (hb : c.code = cc) {k : Nat} {x : Int32} {off : Int} {tgt : Nat} (hdg : decode cc pc = .ok (.ifnonnull off, 3)) (ht : (pc : Int) + off = (tgt : Int))
    (kt : ¬ x < 0 → W p l e R s m args below meth c H locs cells slots Q (F0 m tgt ls rest)) (kf : x < 0 → W p l e R s m args below meth c H locs cells slots Q (F0 m (pc + 3) ls rest)) : W p l e R s m args below meth c H locs cells slots Q (F0 m pc ls (va_rf (kh_rc ad k x) :: rest)) := by
  by_cases h : x < 0
  · rw [kh_rc, if_pos h]; exact lv_ifnonnullN hx hb hdg (kf h)
  · rw [kh_rc, if_neg h]; exact lv_ifnonnull hx hb hdg ht (kt h)
theorem kh_rc_inj (hw : kh_w D ca A ad ρ H) {k : Nat} {x y : Int32} (hx : kh_in x (kh_n ρ k) = true) (hy : kh_in y (kh_n ρ k) = true) : kh_rc ad k x = kh_rc ad k y ↔ x = y := by
  constructor
  · intro h
    rw [kh_rc, kh_rc, if_neg (kh_in_nn hx), if_neg (kh_in_nn hy)] at h
    have h1 := (hw.2 k _ k _ (kh_in_lt hx) (kh_in_lt hy) (Option.some.inj h)).2
    have nx := kh_in_nn hx
    have ny := kh_in_nn hy
    rw [Int32.lt_iff_toInt_lt, Int32.toInt_zero] at nx ny
    refine Int32.toInt_inj.mp ?_
    have e : ∀ z : Int32, z.toNatClampNeg = z.toInt.toNat := fun _ => rfl
    rw [e, e] at h1
    omega
  · intro h; rw [h]
theorem kh_acmp_ne (C : kh_C p s m args c cc nL own Ts D ca A) (hw : kh_w D ca A ad ρ H) {k : Nat} {x y : Int32} (hx : kh_in x (kh_n ρ k) = true) (hy : kh_in y (kh_n ρ k) = true) {off : Int} {tgt : Nat} (hdg : decode cc pc = .ok (.if_acmp .ne off, 3)) (ht : (pc : Int) + off = (tgt : Int))
    (kt : ¬ x = y → W p l e R s m args below meth c H locs cells slots Q (F0 m tgt ls rest)) (kf : x = y → W p l e R s m args below meth c H locs cells slots Q (F0 m (pc + 3) ls rest)) : W p l e R s m args below meth c H locs cells slots Q (F0 m pc ls (va_rf (kh_rc ad k y) :: va_rf (kh_rc ad k x) :: rest)) :=
  lv_acmp_ne C.1 C.2.1 hdg ht (fun h => kt (fun z => h ((kh_rc_inj hw hx hy).mpr z))) (fun h => kf ((kh_rc_inj hw hx hy).mp h))
/-- the receiver of a call is there -/
theorem kh_recv (hK : kh_K D ca s) (hw : kh_w D ca A ad ρ H) (k : Nat) {i ci N : Nat} {Cn : String} {T : u_T} (hi : i < kh_n ρ k) (hkd : kh_kd k = (0, ci, 0)) (hc : vwCl[ci]? = some (Cn, T, N)) : ∃ cellB : Cell, H[ad k i]? = some cellB ∧ cellB.vm.isStatics = false ∧ s.vm.findClass Cn = some cellB.cls := by
  have h1 := (hw.1 k i hi).1
  rw [show kh_e ca ad ρ k i = .inr (ci, kh_fs ad ρ k i 0 (kh_ds k)) by simp only [kh_e, hkd, if_true]] at h1
  obtain ⟨r, hr0, cell, q1, q2, q3, -⟩ := h1
  have hr : r = (Cn, T, N) := Option.some.inj (hr0.symm.trans hc)
  subst hr
  exact ⟨cell, q1, by rw [q3]; rfl, by rw [q2]; exact (hK.1.1 ci _ hc).2.1⟩
theorem kh_pre (C : kh_C p s m args c cc nL own Ts D ca A) (hw : kh_w D ca A ad ρ H) (hS : va_S A s.heap H locs) {as : List Value} (U : State) (hU : U.heap = H) (hW : s.WarmedH U.vm) : va_Pc as (kh_I D ca A ad ρ) as.toArray U :=
  ⟨rfl, kh_K.moved hW C.2.2.2.2.2.1, by rw [hU]; exact hw, fun q h => C.2.2.2.2.2.2 q (Nat.le_trans hS.1 (by rw [← hU]; exact h))⟩
theorem kh_preV (C : kh_C p s m args c cc nL own Ts D ca A) (hw : kh_w D ca A ad ρ H) (hS : va_S A s.heap H locs) (k : Nat) {i ci N : Nat} {Cn : String} {T : u_T} {As : List Value} (hi : i < kh_n ρ k) (hkd : kh_kd k = (0, ci, 0)) (hc : vwCl[ci]? = some (Cn, T, N)) : PreV s H Cn (ad k i) (va_Pc (.ref (ad k i) :: As) (kh_I D ca A ad ρ)) As :=
  ⟨kh_blind, kh_recv C.2.2.2.2.2.1 hw k hi hkd hc, fun U hU hW => kh_pre C hw hS U hU hW⟩
theorem kh_preS (C : kh_C p s m args c cc nL own Ts D ca A) (hw : kh_w D ca A ad ρ H) (hS : va_S A s.heap H locs) {As : List Value} : PreS s H (va_Pc As (kh_I D ca A ad ρ)) As :=
  ⟨kh_blind, fun U hU hW => kh_pre C hw hS U hU hW⟩
end KHR
/-! contracts: a method that reads and writes the world as the partial function F says -/
abbrev kh_Qi (D : va_G) (ca : Nat → ClassId) (A : Nat → Prop) (ad : Nat → Nat → Nat) (F : Option (Int32 × kh_S)) : Array Value → State → Outcome → State → Prop := va_Qi (fun (r : Int32) (u : kh_S) => F = some (r, u)) (fun u t => kh_w D ca A ad u t.heap) A
abbrev kh_Qv (D : va_G) (ca : Nat → ClassId) (A : Nat → Prop) (ad : Nat → Nat → Nat) (F : Option kh_S) : Array Value → State → Outcome → State → Prop := va_Qv (fun (u : kh_S) => F = some u) (fun u t => kh_w D ca A ad u t.heap) A
abbrev kh_Qq (D : va_G) (ca : Nat → ClassId) (A : Nat → Prop) (ad : Nat → Nat → Nat) (k : Nat) (F : Option (Int32 × kh_S)) : Array Value → State → Outcome → State → Prop := va_Qq (fun (r : Option Nat) (u : Int32 × kh_S) => r = kh_rc ad k u.1 ∧ F = some u) (fun u t => kh_w D ca A ad u.2 t.heap) A
section KHC
variable {p : Program} {l : Launch} {e : Env} {R : Room} {s : State} {m : MethodId} {args : Array Value} {below : List Frame} {meth : Method} {c : Code} {H : Heap} {locs : List Loc} {cells slots : Nat} {Q : State → Prop}
variable {pc : Nat} {ls : Array Slot} {rest st0 : List Value} {D : va_G} {ca : Nat → ClassId} {A : Nat → Prop} {ad : Nat → Nat → Nat} {a : Array Value}
theorem kh_calli {F : Option (Int32 × kh_S)} {r : Int32} {ρ1 : kh_S} (hr : va_Run p l e R s m args below meth c H locs cells slots 0 0 (F0 m pc ls st0) rest (kh_Qi D ca A ad F a) A) (hS : va_S A s.heap H locs) (hF : F = some (r, ρ1))
    (kk : ∀ (H1 : Heap) (locs1 : List Loc), kh_w D ca A ad ρ1 H1 → va_S A s.heap H1 locs1 → W p l e R s m args below meth c H1 locs1 cells slots Q (F0 m (pc + 3) ls (.int r :: rest))) : W p l e R s m args below meth c H locs cells slots Q (F0 m pc ls st0) := by
  refine va_calli hr hS (fun q _ h => h) (fun q h => h) (fun r' u t H1 locs1 ht hvm hp hB hz hk hS1 => ?_)
  have h9 := hF.symm.trans hp
  obtain ⟨rfl, rfl⟩ := Prod.mk.inj (Option.some.inj h9)
  exact kk H1 locs1 (by rw [← ht]; exact hB) hS1
theorem kh_callv {F : Option kh_S} {ρ1 : kh_S} (hr : va_Run p l e R s m args below meth c H locs cells slots 0 0 (F0 m pc ls st0) rest (kh_Qv D ca A ad F a) A) (hS : va_S A s.heap H locs) (hF : F = some ρ1)
    (kk : ∀ (H1 : Heap) (locs1 : List Loc), kh_w D ca A ad ρ1 H1 → va_S A s.heap H1 locs1 → W p l e R s m args below meth c H1 locs1 cells slots Q (F0 m (pc + 3) ls rest)) : W p l e R s m args below meth c H locs cells slots Q (F0 m pc ls st0) := by
  refine va_callv hr hS (fun q _ h => h) (fun q h => h) (fun u t H1 locs1 ht hvm hp hB hz hk hS1 => ?_)
  have h9 := hF.symm.trans hp
  obtain rfl := Option.some.inj h9
  exact kk H1 locs1 (by rw [← ht]; exact hB) hS1
theorem kh_callq {F : Option (Int32 × kh_S)} {k : Nat} {r : Int32} {ρ1 : kh_S} (hr : va_Run p l e R s m args below meth c H locs cells slots 0 0 (F0 m pc ls st0) rest (kh_Qq D ca A ad k F a) A) (hS : va_S A s.heap H locs) (hF : F = some (r, ρ1))
    (kk : ∀ (H1 : Heap) (locs1 : List Loc), kh_w D ca A ad ρ1 H1 → va_S A s.heap H1 locs1 → W p l e R s m args below meth c H1 locs1 cells slots Q (F0 m (pc + 3) ls (va_rf (kh_rc ad k r) :: rest))) : W p l e R s m args below meth c H locs cells slots Q (F0 m pc ls st0) := by
  refine va_callq hr hS (fun q _ h => h) (fun q h => h) (fun r' u t H1 locs1 ht hvm hp hB hz hk hS1 => ?_)
  obtain ⟨rfl, hp⟩ := hp
  have h9 := hF.symm.trans hp
  obtain rfl := Option.some.inj h9
  exact kk H1 locs1 (by rw [← ht]; exact hB) hS1
end KHC
end
