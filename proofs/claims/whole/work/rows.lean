section
-- ===== PART A: goes FIRST, ahead of the names: the tables' words, and 'selects' of the private methods out of them =====
/-- a private method of a class that the tables say can be made, by its rows of tables_1 -/
def lw_okq (q : MethodName × Nat) : Prop := (q.1.cls ≠ "java/lang/invoke/MethodHandle" ∧ q.1.cls ≠ "java/lang/invoke/VarHandle") ∧ Cond.instantiable q.1.cls q.2 ∈ tables_1 ∧ Cond.privateMethod q.1 ∈ tables_1 ∧ Cond.instanceMethod q.1 ∈ tables_1
theorem lw_p0 : lw_okq (⟨"MoonVeto$Sheet", "faultOfCells", "(III)I"⟩, 3) := ⟨⟨by decide +kernel, by decide +kernel⟩, List.mem_of_getElem? (i := 143) (by decide +kernel), List.mem_of_getElem? (i := 189) (by decide +kernel), List.mem_of_getElem? (i := 190) (by decide +kernel)⟩
theorem lw_p1 : lw_okq (⟨"MoonVeto$Sheet", "faultOfLane", "(I)I"⟩, 3) := ⟨⟨by decide +kernel, by decide +kernel⟩, List.mem_of_getElem? (i := 143) (by decide +kernel), List.mem_of_getElem? (i := 193) (by decide +kernel), List.mem_of_getElem? (i := 194) (by decide +kernel)⟩
theorem lw_p2 : lw_okq (⟨"MoonVeto$Sheet", "isNothing", "()Z"⟩, 3) := ⟨⟨by decide +kernel, by decide +kernel⟩, List.mem_of_getElem? (i := 143) (by decide +kernel), List.mem_of_getElem? (i := 197) (by decide +kernel), List.mem_of_getElem? (i := 198) (by decide +kernel)⟩
theorem lw_p3 : lw_okq (⟨"MoonVeto$Sheet", "hasAll", "(II)Z"⟩, 3) := ⟨⟨by decide +kernel, by decide +kernel⟩, List.mem_of_getElem? (i := 143) (by decide +kernel), List.mem_of_getElem? (i := 201) (by decide +kernel), List.mem_of_getElem? (i := 202) (by decide +kernel)⟩
theorem lw_p4 : lw_okq (⟨"MoonVeto", "failed", "(I)I"⟩, 5) := ⟨⟨by decide +kernel, by decide +kernel⟩, List.mem_of_getElem? (i := 19) (by decide +kernel), List.mem_of_getElem? (i := 206) (by decide +kernel), List.mem_of_getElem? (i := 207) (by decide +kernel)⟩
theorem lw_p5 : lw_okq (⟨"MoonVeto$Council", "found", "(LMoonVeto$Sheet;II)V"⟩, 5) := ⟨⟨by decide +kernel, by decide +kernel⟩, List.mem_of_getElem? (i := 27) (by decide +kernel), List.mem_of_getElem? (i := 261) (by decide +kernel), List.mem_of_getElem? (i := 262) (by decide +kernel)⟩
theorem lw_p6 : lw_okq (⟨"MoonVeto$Sky", "read", "(LMoonVeto$Sheet;I)V"⟩, 5) := ⟨⟨by decide +kernel, by decide +kernel⟩, List.mem_of_getElem? (i := 33) (by decide +kernel), List.mem_of_getElem? (i := 265) (by decide +kernel), List.mem_of_getElem? (i := 266) (by decide +kernel)⟩
theorem lw_p7 : lw_okq (⟨"MoonVeto$Sheet", "has", "(I)Z"⟩, 3) := ⟨⟨by decide +kernel, by decide +kernel⟩, List.mem_of_getElem? (i := 143) (by decide +kernel), List.mem_of_getElem? (i := 275) (by decide +kernel), List.mem_of_getElem? (i := 276) (by decide +kernel)⟩
theorem lw_p8 : lw_okq (⟨"MoonVeto$Bill", "read", "(LMoonVeto$Sheet;I)V"⟩, 6) := ⟨⟨by decide +kernel, by decide +kernel⟩, List.mem_of_getElem? (i := 60) (by decide +kernel), List.mem_of_getElem? (i := 284) (by decide +kernel), List.mem_of_getElem? (i := 285) (by decide +kernel)⟩
theorem lw_p9 : lw_okq (⟨"MoonVeto", "noBill", "(I)Z"⟩, 5) := ⟨⟨by decide +kernel, by decide +kernel⟩, List.mem_of_getElem? (i := 19) (by decide +kernel), List.mem_of_getElem? (i := 297) (by decide +kernel), List.mem_of_getElem? (i := 298) (by decide +kernel)⟩
theorem lw_p10 : lw_okq (⟨"MoonVeto", "noCouncil", "()Z"⟩, 5) := ⟨⟨by decide +kernel, by decide +kernel⟩, List.mem_of_getElem? (i := 19) (by decide +kernel), List.mem_of_getElem? (i := 305) (by decide +kernel), List.mem_of_getElem? (i := 306) (by decide +kernel)⟩
theorem lw_p11 : lw_okq (⟨"MoonVeto$Sky", "dayOfMoon", "(I)I"⟩, 5) := ⟨⟨by decide +kernel, by decide +kernel⟩, List.mem_of_getElem? (i := 33) (by decide +kernel), List.mem_of_getElem? (i := 309) (by decide +kernel), List.mem_of_getElem? (i := 310) (by decide +kernel)⟩
theorem lw_p12 : lw_okq (⟨"MoonVeto$Sky", "cover", "(IZ)Z"⟩, 5) := ⟨⟨by decide +kernel, by decide +kernel⟩, List.mem_of_getElem? (i := 33) (by decide +kernel), List.mem_of_getElem? (i := 325) (by decide +kernel), List.mem_of_getElem? (i := 326) (by decide +kernel)⟩
theorem lw_p13 : lw_okq (⟨"MoonVeto$Council", "settle", "()V"⟩, 5) := ⟨⟨by decide +kernel, by decide +kernel⟩, List.mem_of_getElem? (i := 27) (by decide +kernel), List.mem_of_getElem? (i := 333) (by decide +kernel), List.mem_of_getElem? (i := 334) (by decide +kernel)⟩
theorem lw_p14 : lw_okq (⟨"MoonVeto$Council", "watchAll", "()V"⟩, 5) := ⟨⟨by decide +kernel, by decide +kernel⟩, List.mem_of_getElem? (i := 27) (by decide +kernel), List.mem_of_getElem? (i := 337) (by decide +kernel), List.mem_of_getElem? (i := 338) (by decide +kernel)⟩
theorem lw_p15 : lw_okq (⟨"MoonVeto$Sky", "moonsWithin", "(II)I"⟩, 5) := ⟨⟨by decide +kernel, by decide +kernel⟩, List.mem_of_getElem? (i := 33) (by decide +kernel), List.mem_of_getElem? (i := 341) (by decide +kernel), List.mem_of_getElem? (i := 342) (by decide +kernel)⟩
def lw_privs_1 : List (MethodName × Nat) := [(⟨"MoonVeto$Sheet", "faultOfCells", "(III)I"⟩, 3), (⟨"MoonVeto$Sheet", "faultOfLane", "(I)I"⟩, 3), (⟨"MoonVeto$Sheet", "isNothing", "()Z"⟩, 3), (⟨"MoonVeto$Sheet", "hasAll", "(II)Z"⟩, 3), (⟨"MoonVeto", "failed", "(I)I"⟩, 5), (⟨"MoonVeto$Council", "found", "(LMoonVeto$Sheet;II)V"⟩, 5), (⟨"MoonVeto$Sky", "read", "(LMoonVeto$Sheet;I)V"⟩, 5), (⟨"MoonVeto$Sheet", "has", "(I)Z"⟩, 3), (⟨"MoonVeto$Bill", "read", "(LMoonVeto$Sheet;I)V"⟩, 6), (⟨"MoonVeto", "noBill", "(I)Z"⟩, 5), (⟨"MoonVeto", "noCouncil", "()Z"⟩, 5), (⟨"MoonVeto$Sky", "dayOfMoon", "(I)I"⟩, 5), (⟨"MoonVeto$Sky", "cover", "(IZ)Z"⟩, 5), (⟨"MoonVeto$Council", "settle", "()V"⟩, 5), (⟨"MoonVeto$Council", "watchAll", "()V"⟩, 5), (⟨"MoonVeto$Sky", "moonsWithin", "(II)I"⟩, 5)]
theorem lw_r1 : ∀ q ∈ lw_privs_1, lw_okq q := List.forall_mem_cons.mpr ⟨lw_p0, List.forall_mem_cons.mpr ⟨lw_p1, List.forall_mem_cons.mpr ⟨lw_p2, List.forall_mem_cons.mpr ⟨lw_p3, List.forall_mem_cons.mpr ⟨lw_p4, List.forall_mem_cons.mpr ⟨lw_p5, List.forall_mem_cons.mpr ⟨lw_p6, List.forall_mem_cons.mpr ⟨lw_p7, List.forall_mem_cons.mpr ⟨lw_p8, List.forall_mem_cons.mpr ⟨lw_p9, List.forall_mem_cons.mpr ⟨lw_p10, List.forall_mem_cons.mpr ⟨lw_p11, List.forall_mem_cons.mpr ⟨lw_p12, List.forall_mem_cons.mpr ⟨lw_p13, List.forall_mem_cons.mpr ⟨lw_p14, List.forall_mem_cons.mpr ⟨lw_p15, fun _ h => absurd h List.not_mem_nil⟩⟩⟩⟩⟩⟩⟩⟩⟩⟩⟩⟩⟩⟩⟩⟩
theorem lw_p16 : lw_okq (⟨"MoonVeto$Sky", "cloudedMoons", "()I"⟩, 5) := ⟨⟨by decide +kernel, by decide +kernel⟩, List.mem_of_getElem? (i := 33) (by decide +kernel), List.mem_of_getElem? (i := 346) (by decide +kernel), List.mem_of_getElem? (i := 347) (by decide +kernel)⟩
theorem lw_p17 : lw_okq (⟨"MoonVeto$Council", "pass", "(II)V"⟩, 5) := ⟨⟨by decide +kernel, by decide +kernel⟩, List.mem_of_getElem? (i := 27) (by decide +kernel), List.mem_of_getElem? (i := 350) (by decide +kernel), List.mem_of_getElem? (i := 351) (by decide +kernel)⟩
theorem lw_p18 : lw_okq (⟨"MoonVeto$Council", "earliestBut", "(I)I"⟩, 5) := ⟨⟨by decide +kernel, by decide +kernel⟩, List.mem_of_getElem? (i := 27) (by decide +kernel), List.mem_of_getElem? (i := 354) (by decide +kernel), List.mem_of_getElem? (i := 355) (by decide +kernel)⟩
theorem lw_p19 : lw_okq (⟨"MoonVeto$Council", "isInForce", "(II)Z"⟩, 5) := ⟨⟨by decide +kernel, by decide +kernel⟩, List.mem_of_getElem? (i := 27) (by decide +kernel), List.mem_of_getElem? (i := 358) (by decide +kernel), List.mem_of_getElem? (i := 359) (by decide +kernel)⟩
theorem lw_p20 : lw_okq (⟨"MoonVeto$Council", "daysInForce", "(III)J"⟩, 5) := ⟨⟨by decide +kernel, by decide +kernel⟩, List.mem_of_getElem? (i := 27) (by decide +kernel), List.mem_of_getElem? (i := 362) (by decide +kernel), List.mem_of_getElem? (i := 363) (by decide +kernel)⟩
theorem lw_p21 : lw_okq (⟨"MoonVeto$Bill", "term", "(I)J"⟩, 6) := ⟨⟨by decide +kernel, by decide +kernel⟩, List.mem_of_getElem? (i := 60) (by decide +kernel), List.mem_of_getElem? (i := 366) (by decide +kernel), List.mem_of_getElem? (i := 367) (by decide +kernel)⟩
theorem lw_p22 : lw_okq (⟨"MoonVeto$Council", "isLater", "(II)Z"⟩, 5) := ⟨⟨by decide +kernel, by decide +kernel⟩, List.mem_of_getElem? (i := 27) (by decide +kernel), List.mem_of_getElem? (i := 374) (by decide +kernel), List.mem_of_getElem? (i := 375) (by decide +kernel)⟩
theorem lw_p23 : lw_okq (⟨"MoonVeto$Council", "allInForce", "(I)I"⟩, 5) := ⟨⟨by decide +kernel, by decide +kernel⟩, List.mem_of_getElem? (i := 27) (by decide +kernel), List.mem_of_getElem? (i := 392) (by decide +kernel), List.mem_of_getElem? (i := 393) (by decide +kernel)⟩
theorem lw_p24 : lw_okq (⟨"MoonVeto$Council", "daysHeld", "(I)I"⟩, 5) := ⟨⟨by decide +kernel, by decide +kernel⟩, List.mem_of_getElem? (i := 27) (by decide +kernel), List.mem_of_getElem? (i := 400) (by decide +kernel), List.mem_of_getElem? (i := 401) (by decide +kernel)⟩
theorem lw_p25 : lw_okq (⟨"MoonVeto$Council", "allMoons", "()I"⟩, 5) := ⟨⟨by decide +kernel, by decide +kernel⟩, List.mem_of_getElem? (i := 27) (by decide +kernel), List.mem_of_getElem? (i := 423) (by decide +kernel), List.mem_of_getElem? (i := 424) (by decide +kernel)⟩
theorem lw_p26 : lw_okq (⟨"MoonVeto$Council", "daysHeldByOthers", "(I)I"⟩, 5) := ⟨⟨by decide +kernel, by decide +kernel⟩, List.mem_of_getElem? (i := 27) (by decide +kernel), List.mem_of_getElem? (i := 458) (by decide +kernel), List.mem_of_getElem? (i := 459) (by decide +kernel)⟩
theorem lw_p27 : lw_okq (⟨"MoonVeto$Readings", "append", "(IIZ)I"⟩, 4) := ⟨⟨by decide +kernel, by decide +kernel⟩, List.mem_of_getElem? (i := 121) (by decide +kernel), List.mem_of_getElem? (i := 467) (by decide +kernel), List.mem_of_getElem? (i := 468) (by decide +kernel)⟩
theorem lw_p28 : lw_okq (⟨"MoonVeto$Readings", "areSo", "(LMoonVeto$Council;)Z"⟩, 4) := ⟨⟨by decide +kernel, by decide +kernel⟩, List.mem_of_getElem? (i := 121) (by decide +kernel), List.mem_of_getElem? (i := 482) (by decide +kernel), List.mem_of_getElem? (i := 483) (by decide +kernel)⟩
theorem lw_p29 : lw_okq (⟨"MoonVeto$Sheet", "begin", "(II)V"⟩, 3) := ⟨⟨by decide +kernel, by decide +kernel⟩, List.mem_of_getElem? (i := 143) (by decide +kernel), List.mem_of_getElem? (i := 520) (by decide +kernel), List.mem_of_getElem? (i := 521) (by decide +kernel)⟩
theorem lw_p30 : lw_okq (⟨"MoonVeto$Sheet", "drop", "()V"⟩, 3) := ⟨⟨by decide +kernel, by decide +kernel⟩, List.mem_of_getElem? (i := 143) (by decide +kernel), List.mem_of_getElem? (i := 529) (by decide +kernel), List.mem_of_getElem? (i := 530) (by decide +kernel)⟩
theorem lw_p31 : lw_okq (⟨"MoonVeto$Sheet", "cut", "(I)I"⟩, 3) := ⟨⟨by decide +kernel, by decide +kernel⟩, List.mem_of_getElem? (i := 143) (by decide +kernel), List.mem_of_getElem? (i := 538) (by decide +kernel), List.mem_of_getElem? (i := 539) (by decide +kernel)⟩
def lw_privs_2 : List (MethodName × Nat) := [(⟨"MoonVeto$Sky", "cloudedMoons", "()I"⟩, 5), (⟨"MoonVeto$Council", "pass", "(II)V"⟩, 5), (⟨"MoonVeto$Council", "earliestBut", "(I)I"⟩, 5), (⟨"MoonVeto$Council", "isInForce", "(II)Z"⟩, 5), (⟨"MoonVeto$Council", "daysInForce", "(III)J"⟩, 5), (⟨"MoonVeto$Bill", "term", "(I)J"⟩, 6), (⟨"MoonVeto$Council", "isLater", "(II)Z"⟩, 5), (⟨"MoonVeto$Council", "allInForce", "(I)I"⟩, 5), (⟨"MoonVeto$Council", "daysHeld", "(I)I"⟩, 5), (⟨"MoonVeto$Council", "allMoons", "()I"⟩, 5), (⟨"MoonVeto$Council", "daysHeldByOthers", "(I)I"⟩, 5), (⟨"MoonVeto$Readings", "append", "(IIZ)I"⟩, 4), (⟨"MoonVeto$Readings", "areSo", "(LMoonVeto$Council;)Z"⟩, 4), (⟨"MoonVeto$Sheet", "begin", "(II)V"⟩, 3), (⟨"MoonVeto$Sheet", "drop", "()V"⟩, 3), (⟨"MoonVeto$Sheet", "cut", "(I)I"⟩, 3)]
theorem lw_r2 : ∀ q ∈ lw_privs_2, lw_okq q := List.forall_mem_cons.mpr ⟨lw_p16, List.forall_mem_cons.mpr ⟨lw_p17, List.forall_mem_cons.mpr ⟨lw_p18, List.forall_mem_cons.mpr ⟨lw_p19, List.forall_mem_cons.mpr ⟨lw_p20, List.forall_mem_cons.mpr ⟨lw_p21, List.forall_mem_cons.mpr ⟨lw_p22, List.forall_mem_cons.mpr ⟨lw_p23, List.forall_mem_cons.mpr ⟨lw_p24, List.forall_mem_cons.mpr ⟨lw_p25, List.forall_mem_cons.mpr ⟨lw_p26, List.forall_mem_cons.mpr ⟨lw_p27, List.forall_mem_cons.mpr ⟨lw_p28, List.forall_mem_cons.mpr ⟨lw_p29, List.forall_mem_cons.mpr ⟨lw_p30, List.forall_mem_cons.mpr ⟨lw_p31, fun _ h => absurd h List.not_mem_nil⟩⟩⟩⟩⟩⟩⟩⟩⟩⟩⟩⟩⟩⟩⟩⟩
theorem lw_p32 : lw_okq (⟨"MoonVeto", "sunsetBody", "(LMoonVeto$Bill;)I"⟩, 5) := ⟨⟨by decide +kernel, by decide +kernel⟩, List.mem_of_getElem? (i := 19) (by decide +kernel), List.mem_of_getElem? (i := 559) (by decide +kernel), List.mem_of_getElem? (i := 560) (by decide +kernel)⟩
theorem lw_p33 : lw_okq (⟨"MoonVeto", "leave", "(I)V"⟩, 5) := ⟨⟨by decide +kernel, by decide +kernel⟩, List.mem_of_getElem? (i := 19) (by decide +kernel), List.mem_of_getElem? (i := 563) (by decide +kernel), List.mem_of_getElem? (i := 564) (by decide +kernel)⟩
theorem lw_p34 : lw_okq (⟨"MoonVeto", "billBody", "(LMoonVeto$Bill;)I"⟩, 5) := ⟨⟨by decide +kernel, by decide +kernel⟩, List.mem_of_getElem? (i := 19) (by decide +kernel), List.mem_of_getElem? (i := 567) (by decide +kernel), List.mem_of_getElem? (i := 568) (by decide +kernel)⟩
theorem lw_p35 : lw_okq (⟨"MoonVeto", "repealBody", "(LMoonVeto$Bill;)I"⟩, 5) := ⟨⟨by decide +kernel, by decide +kernel⟩, List.mem_of_getElem? (i := 19) (by decide +kernel), List.mem_of_getElem? (i := 571) (by decide +kernel), List.mem_of_getElem? (i := 572) (by decide +kernel)⟩
theorem lw_p36 : lw_okq (⟨"MoonVeto", "ownSeal", "()I"⟩, 5) := ⟨⟨by decide +kernel, by decide +kernel⟩, List.mem_of_getElem? (i := 19) (by decide +kernel), List.mem_of_getElem? (i := 579) (by decide +kernel), List.mem_of_getElem? (i := 580) (by decide +kernel)⟩
theorem lw_p37 : lw_okq (⟨"MoonVeto", "lentSeal", "(I)I"⟩, 5) := ⟨⟨by decide +kernel, by decide +kernel⟩, List.mem_of_getElem? (i := 19) (by decide +kernel), List.mem_of_getElem? (i := 583) (by decide +kernel), List.mem_of_getElem? (i := 584) (by decide +kernel)⟩
theorem lw_p38 : lw_okq (⟨"MoonVetoModel", "against", "(IIII)I"⟩, 34) := ⟨⟨by decide +kernel, by decide +kernel⟩, List.mem_of_getElem? (i := 603) (by decide +kernel), List.mem_of_getElem? (i := 725) (by decide +kernel), List.mem_of_getElem? (i := 726) (by decide +kernel)⟩
theorem lw_p39 : lw_okq (⟨"MoonVetoModel", "fails", "(I)I"⟩, 34) := ⟨⟨by decide +kernel, by decide +kernel⟩, List.mem_of_getElem? (i := 603) (by decide +kernel), List.mem_of_getElem? (i := 729) (by decide +kernel), List.mem_of_getElem? (i := 730) (by decide +kernel)⟩
theorem lw_p40 : lw_okq (⟨"MoonVetoModel", "readCouncil", "(I)Z"⟩, 34) := ⟨⟨by decide +kernel, by decide +kernel⟩, List.mem_of_getElem? (i := 603) (by decide +kernel), List.mem_of_getElem? (i := 733) (by decide +kernel), List.mem_of_getElem? (i := 734) (by decide +kernel)⟩
theorem lw_p41 : lw_okq (⟨"MoonVetoModel", "isSign", "(II)Z"⟩, 34) := ⟨⟨by decide +kernel, by decide +kernel⟩, List.mem_of_getElem? (i := 603) (by decide +kernel), List.mem_of_getElem? (i := 737) (by decide +kernel), List.mem_of_getElem? (i := 738) (by decide +kernel)⟩
theorem lw_p42 : lw_okq (⟨"MoonVetoModel", "readCalendar", "(I)Z"⟩, 34) := ⟨⟨by decide +kernel, by decide +kernel⟩, List.mem_of_getElem? (i := 603) (by decide +kernel), List.mem_of_getElem? (i := 741) (by decide +kernel), List.mem_of_getElem? (i := 742) (by decide +kernel)⟩
theorem lw_p43 : lw_okq (⟨"MoonVetoModel", "number", "(III)I"⟩, 34) := ⟨⟨by decide +kernel, by decide +kernel⟩, List.mem_of_getElem? (i := 603) (by decide +kernel), List.mem_of_getElem? (i := 745) (by decide +kernel), List.mem_of_getElem? (i := 746) (by decide +kernel)⟩
theorem lw_p44 : lw_okq (⟨"MoonVetoModel", "digit", "(III)I"⟩, 34) := ⟨⟨by decide +kernel, by decide +kernel⟩, List.mem_of_getElem? (i := 603) (by decide +kernel), List.mem_of_getElem? (i := 749) (by decide +kernel), List.mem_of_getElem? (i := 750) (by decide +kernel)⟩
theorem lw_p45 : lw_okq (⟨"MoonVetoModel", "readBill", "(I)Z"⟩, 34) := ⟨⟨by decide +kernel, by decide +kernel⟩, List.mem_of_getElem? (i := 603) (by decide +kernel), List.mem_of_getElem? (i := 753) (by decide +kernel), List.mem_of_getElem? (i := 754) (by decide +kernel)⟩
theorem lw_p46 : lw_okq (⟨"MoonVetoModel", "isBill", "(I)Z"⟩, 34) := ⟨⟨by decide +kernel, by decide +kernel⟩, List.mem_of_getElem? (i := 603) (by decide +kernel), List.mem_of_getElem? (i := 761) (by decide +kernel), List.mem_of_getElem? (i := 762) (by decide +kernel)⟩
theorem lw_p47 : lw_okq (⟨"MoonVetoModel", "moonDay", "(I)I"⟩, 34) := ⟨⟨by decide +kernel, by decide +kernel⟩, List.mem_of_getElem? (i := 603) (by decide +kernel), List.mem_of_getElem? (i := 769) (by decide +kernel), List.mem_of_getElem? (i := 770) (by decide +kernel)⟩
def lw_privs_3 : List (MethodName × Nat) := [(⟨"MoonVeto", "sunsetBody", "(LMoonVeto$Bill;)I"⟩, 5), (⟨"MoonVeto", "leave", "(I)V"⟩, 5), (⟨"MoonVeto", "billBody", "(LMoonVeto$Bill;)I"⟩, 5), (⟨"MoonVeto", "repealBody", "(LMoonVeto$Bill;)I"⟩, 5), (⟨"MoonVeto", "ownSeal", "()I"⟩, 5), (⟨"MoonVeto", "lentSeal", "(I)I"⟩, 5), (⟨"MoonVetoModel", "against", "(IIII)I"⟩, 34), (⟨"MoonVetoModel", "fails", "(I)I"⟩, 34), (⟨"MoonVetoModel", "readCouncil", "(I)Z"⟩, 34), (⟨"MoonVetoModel", "isSign", "(II)Z"⟩, 34), (⟨"MoonVetoModel", "readCalendar", "(I)Z"⟩, 34), (⟨"MoonVetoModel", "number", "(III)I"⟩, 34), (⟨"MoonVetoModel", "digit", "(III)I"⟩, 34), (⟨"MoonVetoModel", "readBill", "(I)Z"⟩, 34), (⟨"MoonVetoModel", "isBill", "(I)Z"⟩, 34), (⟨"MoonVetoModel", "moonDay", "(I)I"⟩, 34)]
theorem lw_r3 : ∀ q ∈ lw_privs_3, lw_okq q := List.forall_mem_cons.mpr ⟨lw_p32, List.forall_mem_cons.mpr ⟨lw_p33, List.forall_mem_cons.mpr ⟨lw_p34, List.forall_mem_cons.mpr ⟨lw_p35, List.forall_mem_cons.mpr ⟨lw_p36, List.forall_mem_cons.mpr ⟨lw_p37, List.forall_mem_cons.mpr ⟨lw_p38, List.forall_mem_cons.mpr ⟨lw_p39, List.forall_mem_cons.mpr ⟨lw_p40, List.forall_mem_cons.mpr ⟨lw_p41, List.forall_mem_cons.mpr ⟨lw_p42, List.forall_mem_cons.mpr ⟨lw_p43, List.forall_mem_cons.mpr ⟨lw_p44, List.forall_mem_cons.mpr ⟨lw_p45, List.forall_mem_cons.mpr ⟨lw_p46, List.forall_mem_cons.mpr ⟨lw_p47, fun _ h => absurd h List.not_mem_nil⟩⟩⟩⟩⟩⟩⟩⟩⟩⟩⟩⟩⟩⟩⟩⟩
theorem lw_p48 : lw_okq (⟨"MoonVetoModel", "struckOn", "(I)I"⟩, 34) := ⟨⟨by decide +kernel, by decide +kernel⟩, List.mem_of_getElem? (i := 603) (by decide +kernel), List.mem_of_getElem? (i := 792) (by decide +kernel), List.mem_of_getElem? (i := 793) (by decide +kernel)⟩
theorem lw_p49 : lw_okq (⟨"MoonVetoModel", "isDark", "(I)Z"⟩, 34) := ⟨⟨by decide +kernel, by decide +kernel⟩, List.mem_of_getElem? (i := 603) (by decide +kernel), List.mem_of_getElem? (i := 796) (by decide +kernel), List.mem_of_getElem? (i := 797) (by decide +kernel)⟩
theorem lw_p50 : lw_okq (⟨"MoonVetoModel", "layPassing", "()V"⟩, 34) := ⟨⟨by decide +kernel, by decide +kernel⟩, List.mem_of_getElem? (i := 603) (by decide +kernel), List.mem_of_getElem? (i := 804) (by decide +kernel), List.mem_of_getElem? (i := 805) (by decide +kernel)⟩
theorem lw_p51 : lw_okq (⟨"MoonVetoModel", "layOrder", "()V"⟩, 34) := ⟨⟨by decide +kernel, by decide +kernel⟩, List.mem_of_getElem? (i := 603) (by decide +kernel), List.mem_of_getElem? (i := 808) (by decide +kernel), List.mem_of_getElem? (i := 809) (by decide +kernel)⟩
theorem lw_p52 : lw_okq (⟨"MoonVetoModel", "layForce", "(I)V"⟩, 34) := ⟨⟨by decide +kernel, by decide +kernel⟩, List.mem_of_getElem? (i := 603) (by decide +kernel), List.mem_of_getElem? (i := 812) (by decide +kernel), List.mem_of_getElem? (i := 813) (by decide +kernel)⟩
theorem lw_p53 : lw_okq (⟨"MoonVetoModel", "isOn", "(II)Z"⟩, 34) := ⟨⟨by decide +kernel, by decide +kernel⟩, List.mem_of_getElem? (i := 603) (by decide +kernel), List.mem_of_getElem? (i := 816) (by decide +kernel), List.mem_of_getElem? (i := 817) (by decide +kernel)⟩
theorem lw_p54 : lw_okq (⟨"MoonVetoModel", "forceOn", "(I)I"⟩, 34) := ⟨⟨by decide +kernel, by decide +kernel⟩, List.mem_of_getElem? (i := 603) (by decide +kernel), List.mem_of_getElem? (i := 824) (by decide +kernel), List.mem_of_getElem? (i := 825) (by decide +kernel)⟩
theorem lw_p55 : lw_okq (⟨"MoonVetoModel", "forceNow", "(I)I"⟩, 34) := ⟨⟨by decide +kernel, by decide +kernel⟩, List.mem_of_getElem? (i := 603) (by decide +kernel), List.mem_of_getElem? (i := 828) (by decide +kernel), List.mem_of_getElem? (i := 829) (by decide +kernel)⟩
theorem lw_p56 : lw_okq (⟨"MoonVetoModel", "holdsNow", "(I)I"⟩, 34) := ⟨⟨by decide +kernel, by decide +kernel⟩, List.mem_of_getElem? (i := 603) (by decide +kernel), List.mem_of_getElem? (i := 836) (by decide +kernel), List.mem_of_getElem? (i := 837) (by decide +kernel)⟩
theorem lw_p57 : lw_okq (⟨"MoonVetoModel", "darkMoons", "()I"⟩, 34) := ⟨⟨by decide +kernel, by decide +kernel⟩, List.mem_of_getElem? (i := 603) (by decide +kernel), List.mem_of_getElem? (i := 848) (by decide +kernel), List.mem_of_getElem? (i := 849) (by decide +kernel)⟩
theorem lw_p58 : lw_okq (⟨"MoonVetoModel", "moons", "()I"⟩, 34) := ⟨⟨by decide +kernel, by decide +kernel⟩, List.mem_of_getElem? (i := 603) (by decide +kernel), List.mem_of_getElem? (i := 852) (by decide +kernel), List.mem_of_getElem? (i := 853) (by decide +kernel)⟩
theorem lw_p59 : lw_okq (⟨"MoonVetoModel", "othersHold", "(I)I"⟩, 34) := ⟨⟨by decide +kernel, by decide +kernel⟩, List.mem_of_getElem? (i := 603) (by decide +kernel), List.mem_of_getElem? (i := 871) (by decide +kernel), List.mem_of_getElem? (i := 872) (by decide +kernel)⟩
theorem lw_p60 : lw_okq (⟨"MoonVetoModel", "areSo", "()Z"⟩, 34) := ⟨⟨by decide +kernel, by decide +kernel⟩, List.mem_of_getElem? (i := 603) (by decide +kernel), List.mem_of_getElem? (i := 887) (by decide +kernel), List.mem_of_getElem? (i := 888) (by decide +kernel)⟩
theorem lw_p61 : lw_okq (⟨"MoonVetoModel", "lost", "(I)J"⟩, 34) := ⟨⟨by decide +kernel, by decide +kernel⟩, List.mem_of_getElem? (i := 603) (by decide +kernel), List.mem_of_getElem? (i := 927) (by decide +kernel), List.mem_of_getElem? (i := 928) (by decide +kernel)⟩
theorem lw_p62 : lw_okq (⟨"MoonVetoModel", "begins", "(I)V"⟩, 34) := ⟨⟨by decide +kernel, by decide +kernel⟩, List.mem_of_getElem? (i := 603) (by decide +kernel), List.mem_of_getElem? (i := 939) (by decide +kernel), List.mem_of_getElem? (i := 940) (by decide +kernel)⟩
def lw_privs_4 : List (MethodName × Nat) := [(⟨"MoonVetoModel", "struckOn", "(I)I"⟩, 34), (⟨"MoonVetoModel", "isDark", "(I)Z"⟩, 34), (⟨"MoonVetoModel", "layPassing", "()V"⟩, 34), (⟨"MoonVetoModel", "layOrder", "()V"⟩, 34), (⟨"MoonVetoModel", "layForce", "(I)V"⟩, 34), (⟨"MoonVetoModel", "isOn", "(II)Z"⟩, 34), (⟨"MoonVetoModel", "forceOn", "(I)I"⟩, 34), (⟨"MoonVetoModel", "forceNow", "(I)I"⟩, 34), (⟨"MoonVetoModel", "holdsNow", "(I)I"⟩, 34), (⟨"MoonVetoModel", "darkMoons", "()I"⟩, 34), (⟨"MoonVetoModel", "moons", "()I"⟩, 34), (⟨"MoonVetoModel", "othersHold", "(I)I"⟩, 34), (⟨"MoonVetoModel", "areSo", "()Z"⟩, 34), (⟨"MoonVetoModel", "lost", "(I)J"⟩, 34), (⟨"MoonVetoModel", "begins", "(I)V"⟩, 34)]
theorem lw_r4 : ∀ q ∈ lw_privs_4, lw_okq q := List.forall_mem_cons.mpr ⟨lw_p48, List.forall_mem_cons.mpr ⟨lw_p49, List.forall_mem_cons.mpr ⟨lw_p50, List.forall_mem_cons.mpr ⟨lw_p51, List.forall_mem_cons.mpr ⟨lw_p52, List.forall_mem_cons.mpr ⟨lw_p53, List.forall_mem_cons.mpr ⟨lw_p54, List.forall_mem_cons.mpr ⟨lw_p55, List.forall_mem_cons.mpr ⟨lw_p56, List.forall_mem_cons.mpr ⟨lw_p57, List.forall_mem_cons.mpr ⟨lw_p58, List.forall_mem_cons.mpr ⟨lw_p59, List.forall_mem_cons.mpr ⟨lw_p60, List.forall_mem_cons.mpr ⟨lw_p61, List.forall_mem_cons.mpr ⟨lw_p62, fun _ h => absurd h List.not_mem_nil⟩⟩⟩⟩⟩⟩⟩⟩⟩⟩⟩⟩⟩⟩⟩
def lw_privs : List (MethodName × Nat) := lw_privs_1 ++ (lw_privs_2 ++ (lw_privs_3 ++ (lw_privs_4)))
def lw_tbl : List Cond := k2_sels lw_privs ++ tables_1
theorem lw_privs_ok : ∀ q ∈ lw_privs, lw_okq q := by
  show ∀ q ∈ lw_privs_1 ++ (lw_privs_2 ++ (lw_privs_3 ++ (lw_privs_4))), lw_okq q
  exact List.forall_mem_append.mpr ⟨lw_r1, List.forall_mem_append.mpr ⟨lw_r2, List.forall_mem_append.mpr ⟨lw_r3, lw_r4⟩⟩⟩
end
section
def RX0 : String := "MoonVeto$Bill"
def TX0 : u_T := fun k => match k with
  | 0 => ("MoonVeto$Bill", "kind", "I", false)
  | 1 => ("MoonVeto$Bill", "day", "I", false)
  | 2 => ("MoonVeto$Bill", "needs", "I", false)
  | 3 => ("MoonVeto$Bill", "names", "I", false)
  | 4 => ("MoonVeto$Bill", "lasts", "I", false)
  | _ => ("MoonVeto$Bill", "moons", "I", false)
def tyX0 : Nat → FieldType := fun k => match k with
  | 0 => .int
  | 1 => .int
  | 2 => .int
  | 3 => .int
  | 4 => .int
  | _ => .int
theorem nmX0 : ∀ a, a < 6 → ∀ b, b < 6 → a ≠ b → (TX0 a).2.1 ≠ (TX0 b).2.1 := by decide +kernel
theorem tyX0_ok : ∀ k, k < 6 → parseFieldDescriptor (TX0 k).2.2.1 = some (tyX0 k) := by decide +kernel
abbrev cX0_init : ByteArray := prog_2_method_1_code
def yX0_init : MethodName := ⟨RX0, "<init>", "()V"⟩
abbrev cX0_read : ByteArray := prog_2_method_2_code
def yX0_read : MethodName := ⟨RX0, "read", "(LMoonVeto$Sheet;I)V"⟩
abbrev cX0_term : ByteArray := prog_2_method_3_code
def yX0_term : MethodName := ⟨RX0, "term", "(I)J"⟩
def RX1 : String := "MoonVeto$Council"
def TX1 : u_T := fun k => match k with
  | 0 => ("MoonVeto$Council", "sky", "LMoonVeto$Sky;", true)
  | 1 => ("MoonVeto$Council", "bills", "[LMoonVeto$Bill;", true)
  | 2 => ("MoonVeto$Council", "count", "I", false)
  | 3 => ("MoonVeto$Council", "watch", "I", false)
  | _ => ("MoonVeto$Council", "passes", "I", false)
def tyX1 : Nat → FieldType := fun k => match k with
  | 0 => .object "MoonVeto$Sky"
  | 1 => .array (.object "MoonVeto$Bill")
  | 2 => .int
  | 3 => .int
  | _ => .int
theorem nmX1 : ∀ a, a < 5 → ∀ b, b < 5 → a ≠ b → (TX1 a).2.1 ≠ (TX1 b).2.1 := by decide +kernel
theorem tyX1_ok : ∀ k, k < 5 → parseFieldDescriptor (TX1 k).2.2.1 = some (tyX1 k) := by decide +kernel
abbrev cX1_init : ByteArray := prog_3_method_1_code
def yX1_init : MethodName := ⟨RX1, "<init>", "()V"⟩
abbrev cX1_found : ByteArray := prog_3_method_2_code
def yX1_found : MethodName := ⟨RX1, "found", "(LMoonVeto$Sheet;II)V"⟩
abbrev cX1_settle : ByteArray := prog_3_method_3_code
def yX1_settle : MethodName := ⟨RX1, "settle", "()V"⟩
abbrev cX1_watchAll : ByteArray := prog_3_method_4_code
def yX1_watchAll : MethodName := ⟨RX1, "watchAll", "()V"⟩
abbrev cX1_allMoons : ByteArray := prog_3_method_5_code
def yX1_allMoons : MethodName := ⟨RX1, "allMoons", "()I"⟩
abbrev cX1_pass : ByteArray := prog_3_method_6_code
def yX1_pass : MethodName := ⟨RX1, "pass", "(II)V"⟩
abbrev cX1_earliestBut : ByteArray := prog_3_method_7_code
def yX1_earliestBut : MethodName := ⟨RX1, "earliestBut", "(I)I"⟩
abbrev cX1_isLater : ByteArray := prog_3_method_8_code
def yX1_isLater : MethodName := ⟨RX1, "isLater", "(II)Z"⟩
abbrev cX1_daysInForce : ByteArray := prog_3_method_9_code
def yX1_daysInForce : MethodName := ⟨RX1, "daysInForce", "(III)J"⟩
abbrev cX1_isInForce : ByteArray := prog_3_method_10_code
def yX1_isInForce : MethodName := ⟨RX1, "isInForce", "(II)Z"⟩
abbrev cX1_allInForce : ByteArray := prog_3_method_11_code
def yX1_allInForce : MethodName := ⟨RX1, "allInForce", "(I)I"⟩
abbrev cX1_daysHeld : ByteArray := prog_3_method_12_code
def yX1_daysHeld : MethodName := ⟨RX1, "daysHeld", "(I)I"⟩
abbrev cX1_daysHeldByOthers : ByteArray := prog_3_method_13_code
def yX1_daysHeldByOthers : MethodName := ⟨RX1, "daysHeldByOthers", "(I)I"⟩
def RX2 : String := "MoonVeto$Readings"
def TX2 : u_T := fun k => match k with
  | 0 => ("MoonVeto$Readings", "bills", "[I", true)
  | 1 => ("MoonVeto$Readings", "days", "[I", true)
  | 2 => ("MoonVeto$Readings", "were", "[Z", true)
  | _ => ("MoonVeto$Readings", "count", "I", false)
def tyX2 : Nat → FieldType := fun k => match k with
  | 0 => .array .int
  | 1 => .array .int
  | 2 => .array .boolean
  | _ => .int
theorem nmX2 : ∀ a, a < 4 → ∀ b, b < 4 → a ≠ b → (TX2 a).2.1 ≠ (TX2 b).2.1 := by decide +kernel
theorem tyX2_ok : ∀ k, k < 4 → parseFieldDescriptor (TX2 k).2.2.1 = some (tyX2 k) := by decide +kernel
abbrev cX2_init : ByteArray := prog_4_method_1_code
def yX2_init : MethodName := ⟨RX2, "<init>", "()V"⟩
abbrev cX2_append : ByteArray := prog_4_method_2_code
def yX2_append : MethodName := ⟨RX2, "append", "(IIZ)I"⟩
abbrev cX2_areSo : ByteArray := prog_4_method_3_code
def yX2_areSo : MethodName := ⟨RX2, "areSo", "(LMoonVeto$Council;)Z"⟩
def RX3 : String := "MoonVeto$Sheet"
def TX3 : u_T := fun k => match k with
  | 0 => ("MoonVeto$Sheet", "cells", "[I", true)
  | 1 => ("MoonVeto$Sheet", "lane", "I", false)
  | _ => ("MoonVeto$Sheet", "length", "I", false)
def tyX3 : Nat → FieldType := fun k => match k with
  | 0 => .array .int
  | 1 => .int
  | _ => .int
theorem nmX3 : ∀ a, a < 3 → ∀ b, b < 3 → a ≠ b → (TX3 a).2.1 ≠ (TX3 b).2.1 := by decide +kernel
theorem tyX3_ok : ∀ k, k < 3 → parseFieldDescriptor (TX3 k).2.2.1 = some (tyX3 k) := by decide +kernel
abbrev cX3_init : ByteArray := prog_5_method_1_code
def yX3_init : MethodName := ⟨RX3, "<init>", "()V"⟩
abbrev cX3_begin : ByteArray := prog_5_method_2_code
def yX3_begin : MethodName := ⟨RX3, "begin", "(II)V"⟩
abbrev cX3_drop : ByteArray := prog_5_method_3_code
def yX3_drop : MethodName := ⟨RX3, "drop", "()V"⟩
abbrev cX3_isNothing : ByteArray := prog_5_method_4_code
def yX3_isNothing : MethodName := ⟨RX3, "isNothing", "()Z"⟩
abbrev cX3_has : ByteArray := prog_5_method_5_code
def yX3_has : MethodName := ⟨RX3, "has", "(I)Z"⟩
abbrev cX3_hasAll : ByteArray := prog_5_method_6_code
def yX3_hasAll : MethodName := ⟨RX3, "hasAll", "(II)Z"⟩
abbrev cX3_cut : ByteArray := prog_5_method_7_code
def yX3_cut : MethodName := ⟨RX3, "cut", "(I)I"⟩
abbrev cX3_faultOfLane : ByteArray := prog_5_method_8_code
def yX3_faultOfLane : MethodName := ⟨RX3, "faultOfLane", "(I)I"⟩
abbrev cX3_faultOfCells : ByteArray := prog_5_method_9_code
def yX3_faultOfCells : MethodName := ⟨RX3, "faultOfCells", "(III)I"⟩
def RX4 : String := "MoonVeto$Sky"
def TX4 : u_T := fun k => match k with
  | 0 => ("MoonVeto$Sky", "clouded", "[Z", true)
  | 1 => ("MoonVeto$Sky", "cloudedNights", "I", false)
  | 2 => ("MoonVeto$Sky", "begins", "I", false)
  | 3 => ("MoonVeto$Sky", "upper", "I", false)
  | _ => ("MoonVeto$Sky", "lower", "I", false)
def tyX4 : Nat → FieldType := fun k => match k with
  | 0 => .array .boolean
  | 1 => .int
  | 2 => .int
  | 3 => .int
  | _ => .int
theorem nmX4 : ∀ a, a < 5 → ∀ b, b < 5 → a ≠ b → (TX4 a).2.1 ≠ (TX4 b).2.1 := by decide +kernel
theorem tyX4_ok : ∀ k, k < 5 → parseFieldDescriptor (TX4 k).2.2.1 = some (tyX4 k) := by decide +kernel
abbrev cX4_init : ByteArray := prog_6_method_1_code
def yX4_init : MethodName := ⟨RX4, "<init>", "()V"⟩
abbrev cX4_read : ByteArray := prog_6_method_2_code
def yX4_read : MethodName := ⟨RX4, "read", "(LMoonVeto$Sheet;I)V"⟩
abbrev cX4_cover : ByteArray := prog_6_method_3_code
def yX4_cover : MethodName := ⟨RX4, "cover", "(IZ)Z"⟩
abbrev cX4_dayOfMoon : ByteArray := prog_6_method_4_code
def yX4_dayOfMoon : MethodName := ⟨RX4, "dayOfMoon", "(I)I"⟩
abbrev cX4_moonsWithin : ByteArray := prog_6_method_5_code
def yX4_moonsWithin : MethodName := ⟨RX4, "moonsWithin", "(II)I"⟩
abbrev cX4_cloudedMoons : ByteArray := prog_6_method_6_code
def yX4_cloudedMoons : MethodName := ⟨RX4, "cloudedMoons", "()I"⟩
def RX5 : String := "MoonVeto$Text"
def TX5 : u_T := fun k => match k with
  | _ => ("", "", "", false)
def tyX5 : Nat → FieldType := fun k => match k with
  | _ => .int
theorem nmX5 : ∀ a, a < 0 → ∀ b, b < 0 → a ≠ b → (TX5 a).2.1 ≠ (TX5 b).2.1 := by decide +kernel
theorem tyX5_ok : ∀ k, k < 0 → parseFieldDescriptor (TX5 k).2.2.1 = some (tyX5 k) := by decide +kernel
abbrev cX5_firstFault : ByteArray := prog_7_method_2_code
def yX5_firstFault : MethodName := ⟨RX5, "firstFault", "(LMoonVeto$Sheet;II)I"⟩
abbrev cX5_fits : ByteArray := prog_7_method_3_code
def yX5_fits : MethodName := ⟨RX5, "fits", "(III)Z"⟩
abbrev cX5_kindOf : ByteArray := prog_7_method_4_code
def yX5_kindOf : MethodName := ⟨RX5, "kindOf", "(I)I"⟩
abbrev cX5_digit : ByteArray := prog_7_method_5_code
def yX5_digit : MethodName := ⟨RX5, "digit", "(LMoonVeto$Sheet;I)I"⟩
abbrev cX5_twoDigits : ByteArray := prog_7_method_6_code
def yX5_twoDigits : MethodName := ⟨RX5, "twoDigits", "(LMoonVeto$Sheet;I)I"⟩
def RX6 : String := "MoonVeto$Trials"
def TX6 : u_T := fun k => match k with
  | _ => ("", "", "", false)
def tyX6 : Nat → FieldType := fun k => match k with
  | _ => .int
theorem nmX6 : ∀ a, a < 0 → ∀ b, b < 0 → a ≠ b → (TX6 a).2.1 ≠ (TX6 b).2.1 := by decide +kernel
theorem tyX6_ok : ∀ k, k < 0 → parseFieldDescriptor (TX6 k).2.2.1 = some (tyX6 k) := by decide +kernel
abbrev cX6_fewestClouds : ByteArray := prog_8_method_2_code
def yX6_fewestClouds : MethodName := ⟨RX6, "fewestClouds", "(LMoonVeto$Council;II)I"⟩
abbrev cX6_firstMove : ByteArray := prog_8_method_3_code
def yX6_firstMove : MethodName := ⟨RX6, "firstMove", "(LMoonVeto$Council;II)I"⟩
abbrev cX6_longestMove : ByteArray := prog_8_method_4_code
def yX6_longestMove : MethodName := ⟨RX6, "longestMove", "(LMoonVeto$Council;IZ)I"⟩
abbrev cX6_gainOfOthers : ByteArray := prog_8_method_5_code
def yX6_gainOfOthers : MethodName := ⟨RX6, "gainOfOthers", "(LMoonVeto$Council;I)I"⟩
abbrev cX6_possibleSpans : ByteArray := prog_8_method_6_code
def yX6_possibleSpans : MethodName := ⟨RX6, "possibleSpans", "(LMoonVeto$Council;LMoonVeto$Readings;)I"⟩
abbrev cX6_possibleOrigins : ByteArray := prog_8_method_7_code
def yX6_possibleOrigins : MethodName := ⟨RX6, "possibleOrigins", "(LMoonVeto$Council;LMoonVeto$Readings;)I"⟩
abbrev cX6_possibleKinds : ByteArray := prog_8_method_8_code
def yX6_possibleKinds : MethodName := ⟨RX6, "possibleKinds", "(LMoonVeto$Council;LMoonVeto$Readings;I)I"⟩
abbrev cX6_possibleMoves : ByteArray := prog_8_method_9_code
def yX6_possibleMoves : MethodName := ⟨RX6, "possibleMoves", "(LMoonVeto$Council;LMoonVeto$Readings;IZ)I"⟩
abbrev cX6_shareOfClouds : ByteArray := prog_8_method_10_code
def yX6_shareOfClouds : MethodName := ⟨RX6, "shareOfClouds", "(LMoonVeto$Council;IIZ)J"⟩
def RX7 : String := "MoonVeto"
def TX7 : u_T := fun k => match k with
  | 0 => ("MoonVeto", "council", "LMoonVeto$Council;", true)
  | 1 => ("MoonVeto", "readings", "LMoonVeto$Readings;", true)
  | 2 => ("MoonVeto", "sheets", "[LMoonVeto$Sheet;", true)
  | 3 => ("MoonVeto", "traced", "I", false)
  | _ => ("MoonVeto", "latestFault", "I", false)
def tyX7 : Nat → FieldType := fun k => match k with
  | 0 => .object "MoonVeto$Council"
  | 1 => .object "MoonVeto$Readings"
  | 2 => .array (.object "MoonVeto$Sheet")
  | 3 => .int
  | _ => .int
theorem nmX7 : ∀ a, a < 5 → ∀ b, b < 5 → a ≠ b → (TX7 a).2.1 ≠ (TX7 b).2.1 := by decide +kernel
theorem tyX7_ok : ∀ k, k < 5 → parseFieldDescriptor (TX7 k).2.2.1 = some (tyX7 k) := by decide +kernel
abbrev cX7_init : ByteArray := prog_1_method_1_code
def yX7_init : MethodName := ⟨RX7, "<init>", "()V"⟩
abbrev cX7_council : ByteArray := prog_1_method_2_code
def yX7_council : MethodName := ⟨RX7, "council", "(IIII)I"⟩
abbrev cX7_ofBill : ByteArray := prog_1_method_3_code
def yX7_ofBill : MethodName := ⟨RX7, "ofBill", "(II)I"⟩
abbrev cX7_moon : ByteArray := prog_1_method_4_code
def yX7_moon : MethodName := ⟨RX7, "moon", "(I)I"⟩
abbrev cX7_span : ByteArray := prog_1_method_5_code
def yX7_span : MethodName := ⟨RX7, "span", "(I)I"⟩
abbrev cX7_move : ByteArray := prog_1_method_6_code
def yX7_move : MethodName := ⟨RX7, "move", "(II)I"⟩
abbrev cX7_cloud : ByteArray := prog_1_method_7_code
def yX7_cloud : MethodName := ⟨RX7, "cloud", "(IZ)I"⟩
abbrev cX7_struck : ByteArray := prog_1_method_8_code
def yX7_struck : MethodName := ⟨RX7, "struck", "(I)I"⟩
abbrev cX7_passing : ByteArray := prog_1_method_9_code
def yX7_passing : MethodName := ⟨RX7, "passing", "()I"⟩
abbrev cX7_force : ByteArray := prog_1_method_10_code
def yX7_force : MethodName := ⟨RX7, "force", "(I)I"⟩
abbrev cX7_holds : ByteArray := prog_1_method_11_code
def yX7_holds : MethodName := ⟨RX7, "holds", "(I)I"⟩
abbrev cX7_chronicle : ByteArray := prog_1_method_12_code
def yX7_chronicle : MethodName := ⟨RX7, "chronicle", "(IIII)I"⟩
abbrev cX7_buy : ByteArray := prog_1_method_13_code
def yX7_buy : MethodName := ⟨RX7, "buy", "(II)I"⟩
abbrev cX7_when : ByteArray := prog_1_method_14_code
def yX7_when : MethodName := ⟨RX7, "when", "(II)I"⟩
abbrev cX7_longest : ByteArray := prog_1_method_15_code
def yX7_longest : MethodName := ⟨RX7, "longest", "(II)I"⟩
abbrev cX7_worth : ByteArray := prog_1_method_16_code
def yX7_worth : MethodName := ⟨RX7, "worth", "(I)I"⟩
abbrev cX7_reading : ByteArray := prog_1_method_17_code
def yX7_reading : MethodName := ⟨RX7, "reading", "(IIZ)I"⟩
abbrev cX7_back : ByteArray := prog_1_method_18_code
def yX7_back : MethodName := ⟨RX7, "back", "(I)I"⟩
abbrev cX7_spans : ByteArray := prog_1_method_19_code
def yX7_spans : MethodName := ⟨RX7, "spans", "()I"⟩
abbrev cX7_origins : ByteArray := prog_1_method_20_code
def yX7_origins : MethodName := ⟨RX7, "origins", "()I"⟩
abbrev cX7_kinds : ByteArray := prog_1_method_21_code
def yX7_kinds : MethodName := ⟨RX7, "kinds", "(I)I"⟩
abbrev cX7_moved : ByteArray := prog_1_method_22_code
def yX7_moved : MethodName := ⟨RX7, "moved", "(II)I"⟩
abbrev cX7_odds : ByteArray := prog_1_method_23_code
def yX7_odds : MethodName := ⟨RX7, "odds", "(III)J"⟩
abbrev cX7_sheet : ByteArray := prog_1_method_24_code
def yX7_sheet : MethodName := ⟨RX7, "sheet", "(III)I"⟩
abbrev cX7_lose : ByteArray := prog_1_method_25_code
def yX7_lose : MethodName := ⟨RX7, "lose", "(I)I"⟩
abbrev cX7_put : ByteArray := prog_1_method_26_code
def yX7_put : MethodName := ⟨RX7, "put", "(III)I"⟩
abbrev cX7_cell : ByteArray := prog_1_method_27_code
def yX7_cell : MethodName := ⟨RX7, "cell", "(III)J"⟩
abbrev cX7_copy : ByteArray := prog_1_method_28_code
def yX7_copy : MethodName := ⟨RX7, "copy", "(IIIII)I"⟩
abbrev cX7_tell : ByteArray := prog_1_method_29_code
def yX7_tell : MethodName := ⟨RX7, "tell", "(I)I"⟩
abbrev cX7_seal : ByteArray := prog_1_method_30_code
def yX7_seal : MethodName := ⟨RX7, "seal", "(I)I"⟩
abbrev cX7_as : ByteArray := prog_1_method_31_code
def yX7_as : MethodName := ⟨RX7, "as", "(II)I"⟩
abbrev cX7_trace : ByteArray := prog_1_method_32_code
def yX7_trace : MethodName := ⟨RX7, "trace", "()I"⟩
abbrev cX7_fault : ByteArray := prog_1_method_33_code
def yX7_fault : MethodName := ⟨RX7, "fault", "()I"⟩
abbrev cX7_many : ByteArray := prog_1_method_34_code
def yX7_many : MethodName := ⟨RX7, "many", "(I)I"⟩
abbrev cX7_within : ByteArray := prog_1_method_35_code
def yX7_within : MethodName := ⟨RX7, "within", "(II)Z"⟩
abbrev cX7_noSheet : ByteArray := prog_1_method_36_code
def yX7_noSheet : MethodName := ⟨RX7, "noSheet", "(I)Z"⟩
abbrev cX7_noBill : ByteArray := prog_1_method_37_code
def yX7_noBill : MethodName := ⟨RX7, "noBill", "(I)Z"⟩
abbrev cX7_noCouncil : ByteArray := prog_1_method_38_code
def yX7_noCouncil : MethodName := ⟨RX7, "noCouncil", "()Z"⟩
abbrev cX7_failed : ByteArray := prog_1_method_39_code
def yX7_failed : MethodName := ⟨RX7, "failed", "(I)I"⟩
abbrev cX7_leave : ByteArray := prog_1_method_40_code
def yX7_leave : MethodName := ⟨RX7, "leave", "(I)V"⟩
abbrev cX7_billBody : ByteArray := prog_1_method_41_code
def yX7_billBody : MethodName := ⟨RX7, "billBody", "(LMoonVeto$Bill;)I"⟩
abbrev cX7_sunsetBody : ByteArray := prog_1_method_42_code
def yX7_sunsetBody : MethodName := ⟨RX7, "sunsetBody", "(LMoonVeto$Bill;)I"⟩
abbrev cX7_repealBody : ByteArray := prog_1_method_43_code
def yX7_repealBody : MethodName := ⟨RX7, "repealBody", "(LMoonVeto$Bill;)I"⟩
abbrev cX7_lentSeal : ByteArray := prog_1_method_44_code
def yX7_lentSeal : MethodName := ⟨RX7, "lentSeal", "(I)I"⟩
abbrev cX7_ownSeal : ByteArray := prog_1_method_45_code
def yX7_ownSeal : MethodName := ⟨RX7, "ownSeal", "()I"⟩
def RX8 : String := "MoonVetoModel"
def TX8 : u_T := fun k => match k with
  | 0 => ("MoonVetoModel", "fault", "I", false)
  | 1 => ("MoonVetoModel", "trace", "I", false)
  | 2 => ("MoonVetoModel", "sorts", "[I", true)
  | 3 => ("MoonVetoModel", "sheetLong", "[I", true)
  | 4 => ("MoonVetoModel", "cells", "[I", true)
  | 5 => ("MoonVetoModel", "origin", "I", false)
  | 6 => ("MoonVetoModel", "upper", "I", false)
  | 7 => ("MoonVetoModel", "lower", "I", false)
  | 8 => ("MoonVetoModel", "span", "I", false)
  | 9 => ("MoonVetoModel", "bills", "I", false)
  | 10 => ("MoonVetoModel", "kind", "[I", true)
  | 11 => ("MoonVetoModel", "dayOf", "[I", true)
  | 12 => ("MoonVetoModel", "needs", "[I", true)
  | 13 => ("MoonVetoModel", "names", "[I", true)
  | 14 => ("MoonVetoModel", "lasts", "[I", true)
  | 15 => ("MoonVetoModel", "nights", "I", false)
  | 16 => ("MoonVetoModel", "isClouded", "[Z", true)
  | 17 => ("MoonVetoModel", "cloudedToo", "I", false)
  | 18 => ("MoonVetoModel", "onlyThese", "Z", false)
  | 19 => ("MoonVetoModel", "struckToo", "I", false)
  | 20 => ("MoonVetoModel", "at", "I", false)
  | 21 => ("MoonVetoModel", "readOrigin", "I", false)
  | 22 => ("MoonVetoModel", "readUpper", "I", false)
  | 23 => ("MoonVetoModel", "readLower", "I", false)
  | 24 => ("MoonVetoModel", "readSpan", "I", false)
  | 25 => ("MoonVetoModel", "readMany", "I", false)
  | 26 => ("MoonVetoModel", "read", "[I", true)
  | 27 => ("MoonVetoModel", "order", "[I", true)
  | 28 => ("MoonVetoModel", "doesPass", "[Z", true)
  | 29 => ("MoonVetoModel", "inForce", "[Z", true)
  | 30 => ("MoonVetoModel", "readings", "I", false)
  | 31 => ("MoonVetoModel", "readBillOf", "[I", true)
  | 32 => ("MoonVetoModel", "readDay", "[I", true)
  | _ => ("MoonVetoModel", "readWas", "[Z", true)
def tyX8 : Nat → FieldType := fun k => match k with
  | 0 => .int
  | 1 => .int
  | 2 => .array .int
  | 3 => .array .int
  | 4 => .array .int
  | 5 => .int
  | 6 => .int
  | 7 => .int
  | 8 => .int
  | 9 => .int
  | 10 => .array .int
  | 11 => .array .int
  | 12 => .array .int
  | 13 => .array .int
  | 14 => .array .int
  | 15 => .int
  | 16 => .array .boolean
  | 17 => .int
  | 18 => .boolean
  | 19 => .int
  | 20 => .int
  | 21 => .int
  | 22 => .int
  | 23 => .int
  | 24 => .int
  | 25 => .int
  | 26 => .array .int
  | 27 => .array .int
  | 28 => .array .boolean
  | 29 => .array .boolean
  | 30 => .int
  | 31 => .array .int
  | 32 => .array .int
  | _ => .array .boolean
theorem nmX8 : ∀ a, a < 34 → ∀ b, b < 34 → a ≠ b → (TX8 a).2.1 ≠ (TX8 b).2.1 := by decide +kernel
theorem tyX8_ok : ∀ k, k < 34 → parseFieldDescriptor (TX8 k).2.2.1 = some (tyX8 k) := by decide +kernel
abbrev cX8_init : ByteArray := prog_10_method_1_code
def yX8_init : MethodName := ⟨RX8, "<init>", "()V"⟩
abbrev cX8_fails : ByteArray := prog_10_method_3_code
def yX8_fails : MethodName := ⟨RX8, "fails", "(I)I"⟩
abbrev cX8_lost : ByteArray := prog_10_method_4_code
def yX8_lost : MethodName := ⟨RX8, "lost", "(I)J"⟩
abbrev cX8_within : ByteArray := prog_10_method_5_code
def yX8_within : MethodName := ⟨RX8, "within", "(III)Z"⟩
abbrev cX8_isSheet : ByteArray := prog_10_method_6_code
def yX8_isSheet : MethodName := ⟨RX8, "isSheet", "(I)Z"⟩
abbrev cX8_isSort : ByteArray := prog_10_method_7_code
def yX8_isSort : MethodName := ⟨RX8, "isSort", "(I)Z"⟩
abbrev cX8_against : ByteArray := prog_10_method_8_code
def yX8_against : MethodName := ⟨RX8, "against", "(IIII)I"⟩
abbrev cX8_isBill : ByteArray := prog_10_method_9_code
def yX8_isBill : MethodName := ⟨RX8, "isBill", "(I)Z"⟩
abbrev cX8_isDay : ByteArray := prog_10_method_10_code
def yX8_isDay : MethodName := ⟨RX8, "isDay", "(I)Z"⟩
abbrev cX8_digit : ByteArray := prog_10_method_11_code
def yX8_digit : MethodName := ⟨RX8, "digit", "(III)I"⟩
abbrev cX8_isSign : ByteArray := prog_10_method_12_code
def yX8_isSign : MethodName := ⟨RX8, "isSign", "(II)Z"⟩
abbrev cX8_number : ByteArray := prog_10_method_13_code
def yX8_number : MethodName := ⟨RX8, "number", "(III)I"⟩
abbrev cX8_council : ByteArray := prog_10_method_14_code
def yX8_council : MethodName := ⟨RX8, "council", "(IIII)I"⟩
abbrev cX8_readCouncil : ByteArray := prog_10_method_15_code
def yX8_readCouncil : MethodName := ⟨RX8, "readCouncil", "(I)Z"⟩
abbrev cX8_readCalendar : ByteArray := prog_10_method_16_code
def yX8_readCalendar : MethodName := ⟨RX8, "readCalendar", "(I)Z"⟩
abbrev cX8_readBill : ByteArray := prog_10_method_17_code
def yX8_readBill : MethodName := ⟨RX8, "readBill", "(I)Z"⟩
abbrev cX8_ofBill : ByteArray := prog_10_method_18_code
def yX8_ofBill : MethodName := ⟨RX8, "ofBill", "(II)I"⟩
abbrev cX8_moonDay : ByteArray := prog_10_method_19_code
def yX8_moonDay : MethodName := ⟨RX8, "moonDay", "(I)I"⟩
abbrev cX8_moon : ByteArray := prog_10_method_20_code
def yX8_moon : MethodName := ⟨RX8, "moon", "(I)I"⟩
abbrev cX8_span : ByteArray := prog_10_method_21_code
def yX8_span : MethodName := ⟨RX8, "span", "(I)I"⟩
abbrev cX8_move : ByteArray := prog_10_method_22_code
def yX8_move : MethodName := ⟨RX8, "move", "(II)I"⟩
abbrev cX8_cloud : ByteArray := prog_10_method_23_code
def yX8_cloud : MethodName := ⟨RX8, "cloud", "(IZ)I"⟩
abbrev cX8_moons : ByteArray := prog_10_method_24_code
def yX8_moons : MethodName := ⟨RX8, "moons", "()I"⟩
abbrev cX8_isDark : ByteArray := prog_10_method_25_code
def yX8_isDark : MethodName := ⟨RX8, "isDark", "(I)Z"⟩
abbrev cX8_struckOn : ByteArray := prog_10_method_26_code
def yX8_struckOn : MethodName := ⟨RX8, "struckOn", "(I)I"⟩
abbrev cX8_struck : ByteArray := prog_10_method_27_code
def yX8_struck : MethodName := ⟨RX8, "struck", "(I)I"⟩
abbrev cX8_layOrder : ByteArray := prog_10_method_28_code
def yX8_layOrder : MethodName := ⟨RX8, "layOrder", "()V"⟩
abbrev cX8_isOn : ByteArray := prog_10_method_29_code
def yX8_isOn : MethodName := ⟨RX8, "isOn", "(II)Z"⟩
abbrev cX8_layForce : ByteArray := prog_10_method_30_code
def yX8_layForce : MethodName := ⟨RX8, "layForce", "(I)V"⟩
abbrev cX8_layPassing : ByteArray := prog_10_method_31_code
def yX8_layPassing : MethodName := ⟨RX8, "layPassing", "()V"⟩
abbrev cX8_passing : ByteArray := prog_10_method_32_code
def yX8_passing : MethodName := ⟨RX8, "passing", "()I"⟩
abbrev cX8_forceNow : ByteArray := prog_10_method_33_code
def yX8_forceNow : MethodName := ⟨RX8, "forceNow", "(I)I"⟩
abbrev cX8_forceOn : ByteArray := prog_10_method_34_code
def yX8_forceOn : MethodName := ⟨RX8, "forceOn", "(I)I"⟩
abbrev cX8_force : ByteArray := prog_10_method_35_code
def yX8_force : MethodName := ⟨RX8, "force", "(I)I"⟩
abbrev cX8_holdsNow : ByteArray := prog_10_method_36_code
def yX8_holdsNow : MethodName := ⟨RX8, "holdsNow", "(I)I"⟩
abbrev cX8_holds : ByteArray := prog_10_method_37_code
def yX8_holds : MethodName := ⟨RX8, "holds", "(I)I"⟩
abbrev cX8_chronicle : ByteArray := prog_10_method_38_code
def yX8_chronicle : MethodName := ⟨RX8, "chronicle", "(IIII)I"⟩
abbrev cX8_size : ByteArray := prog_10_method_39_code
def yX8_size : MethodName := ⟨RX8, "size", "(I)I"⟩
abbrev cX8_darkMoons : ByteArray := prog_10_method_40_code
def yX8_darkMoons : MethodName := ⟨RX8, "darkMoons", "()I"⟩
abbrev cX8_buy : ByteArray := prog_10_method_41_code
def yX8_buy : MethodName := ⟨RX8, "buy", "(II)I"⟩
abbrev cX8_when : ByteArray := prog_10_method_42_code
def yX8_when : MethodName := ⟨RX8, "when", "(II)I"⟩
abbrev cX8_longest : ByteArray := prog_10_method_43_code
def yX8_longest : MethodName := ⟨RX8, "longest", "(II)I"⟩
abbrev cX8_othersHold : ByteArray := prog_10_method_44_code
def yX8_othersHold : MethodName := ⟨RX8, "othersHold", "(I)I"⟩
abbrev cX8_worth : ByteArray := prog_10_method_45_code
def yX8_worth : MethodName := ⟨RX8, "worth", "(I)I"⟩
abbrev cX8_reading : ByteArray := prog_10_method_46_code
def yX8_reading : MethodName := ⟨RX8, "reading", "(IIZ)I"⟩
abbrev cX8_back : ByteArray := prog_10_method_47_code
def yX8_back : MethodName := ⟨RX8, "back", "(I)I"⟩
abbrev cX8_areSo : ByteArray := prog_10_method_48_code
def yX8_areSo : MethodName := ⟨RX8, "areSo", "()Z"⟩
abbrev cX8_spans : ByteArray := prog_10_method_49_code
def yX8_spans : MethodName := ⟨RX8, "spans", "()I"⟩
abbrev cX8_origins : ByteArray := prog_10_method_50_code
def yX8_origins : MethodName := ⟨RX8, "origins", "()I"⟩
abbrev cX8_kinds : ByteArray := prog_10_method_51_code
def yX8_kinds : MethodName := ⟨RX8, "kinds", "(I)I"⟩
abbrev cX8_moved : ByteArray := prog_10_method_52_code
def yX8_moved : MethodName := ⟨RX8, "moved", "(II)I"⟩
abbrev cX8_inLeastTerms : ByteArray := prog_10_method_53_code
def yX8_inLeastTerms : MethodName := ⟨RX8, "inLeastTerms", "(JJI)J"⟩
abbrev cX8_odds : ByteArray := prog_10_method_54_code
def yX8_odds : MethodName := ⟨RX8, "odds", "(III)J"⟩
abbrev cX8_sheet : ByteArray := prog_10_method_55_code
def yX8_sheet : MethodName := ⟨RX8, "sheet", "(III)I"⟩
abbrev cX8_lose : ByteArray := prog_10_method_56_code
def yX8_lose : MethodName := ⟨RX8, "lose", "(I)I"⟩
abbrev cX8_put : ByteArray := prog_10_method_57_code
def yX8_put : MethodName := ⟨RX8, "put", "(III)I"⟩
abbrev cX8_cell : ByteArray := prog_10_method_58_code
def yX8_cell : MethodName := ⟨RX8, "cell", "(III)J"⟩
abbrev cX8_copy : ByteArray := prog_10_method_59_code
def yX8_copy : MethodName := ⟨RX8, "copy", "(IIIII)I"⟩
abbrev cX8_begins : ByteArray := prog_10_method_60_code
def yX8_begins : MethodName := ⟨RX8, "begins", "(I)V"⟩
abbrev cX8_tell : ByteArray := prog_10_method_61_code
def yX8_tell : MethodName := ⟨RX8, "tell", "(I)I"⟩
abbrev cX8_seal : ByteArray := prog_10_method_62_code
def yX8_seal : MethodName := ⟨RX8, "seal", "(I)I"⟩
abbrev cX8_as : ByteArray := prog_10_method_63_code
def yX8_as : MethodName := ⟨RX8, "as", "(II)I"⟩
abbrev cX8_trace : ByteArray := prog_10_method_64_code
def yX8_trace : MethodName := ⟨RX8, "trace", "()I"⟩
abbrev cX8_fault : ByteArray := prog_10_method_65_code
def yX8_fault : MethodName := ⟨RX8, "fault", "()I"⟩
abbrev cX8_many : ByteArray := prog_10_method_66_code
def yX8_many : MethodName := ⟨RX8, "many", "(I)I"⟩
def RJ6 : String := "java/lang/Integer"
def TJ6 : u_T := fun k => match k with
  | _ => ("", "", "", false)
def tyJ6 : Nat → FieldType := fun k => match k with
  | _ => .int
theorem nmJ6 : ∀ a, a < 0 → ∀ b, b < 0 → a ≠ b → (TJ6 a).2.1 ≠ (TJ6 b).2.1 := by decide +kernel
theorem tyJ6_ok : ∀ k, k < 0 → parseFieldDescriptor (TJ6 k).2.2.1 = some (tyJ6 k) := by decide +kernel
abbrev cJ6_numberOfTrailingZeros_0f7a4 : ByteArray := prog_11_method_48_code
def yJ6_numberOfTrailingZeros_0f7a4 : MethodName := ⟨RJ6, "numberOfTrailingZeros", "(I)I"⟩
abbrev cJ6_bitCount_0f7a4 : ByteArray := prog_11_method_49_code
def yJ6_bitCount_0f7a4 : MethodName := ⟨RJ6, "bitCount", "(I)I"⟩
def RJ13 : String := "java/lang/Long"
def TJ13 : u_T := fun k => match k with
  | _ => ("", "", "", false)
def tyJ13 : Nat → FieldType := fun k => match k with
  | _ => .int
theorem nmJ13 : ∀ a, a < 0 → ∀ b, b < 0 → a ≠ b → (TJ13 a).2.1 ≠ (TJ13 b).2.1 := by decide +kernel
theorem tyJ13_ok : ∀ k, k < 0 → parseFieldDescriptor (TJ13 k).2.2.1 = some (tyJ13 k) := by decide +kernel
abbrev cJ13_bitCount_95d88 : ByteArray := prog_12_method_50_code
def yJ13_bitCount_95d88 : MethodName := ⟨RJ13, "bitCount", "(J)I"⟩
def RJ9 : String := "java/lang/Math"
def TJ9 : u_T := fun k => match k with
  | _ => ("", "", "", false)
def tyJ9 : Nat → FieldType := fun k => match k with
  | _ => .int
theorem nmJ9 : ∀ a, a < 0 → ∀ b, b < 0 → a ≠ b → (TJ9 a).2.1 ≠ (TJ9 b).2.1 := by decide +kernel
theorem tyJ9_ok : ∀ k, k < 0 → parseFieldDescriptor (TJ9 k).2.2.1 = some (tyJ9 k) := by decide +kernel
abbrev cJ9_max_7cf53 : ByteArray := prog_13_method_65_code
def yJ9_max_7cf53 : MethodName := ⟨RJ9, "max", "(II)I"⟩
abbrev cJ9_min_7cf53 : ByteArray := prog_13_method_69_code
def yJ9_min_7cf53 : MethodName := ⟨RJ9, "min", "(II)I"⟩
def RJ0 : String := "java/lang/String"
def TJ0 : u_T := fun k => match k with
  | _ => ("", "", "", false)
def tyJ0 : Nat → FieldType := fun k => match k with
  | _ => .int
theorem nmJ0 : ∀ a, a < 0 → ∀ b, b < 0 → a ≠ b → (TJ0 a).2.1 ≠ (TJ0 b).2.1 := by decide +kernel
theorem tyJ0_ok : ∀ k, k < 0 → parseFieldDescriptor (TJ0 k).2.2.1 = some (tyJ0 k) := by decide +kernel
abbrev cJ0_charAt_5068e : ByteArray := prog_14_method_56_code
def yJ0_charAt_5068e : MethodName := ⟨RJ0, "charAt", "(I)C"⟩
abbrev cJ0_isLatin1_aae02 : ByteArray := prog_14_method_154_code
def yJ0_isLatin1_aae02 : MethodName := ⟨RJ0, "isLatin1", "()Z"⟩
abbrev cJ0_checkIndex_df160 : ByteArray := prog_14_method_155_code
def yJ0_checkIndex_df160 : MethodName := ⟨RJ0, "checkIndex", "(II)V"⟩
def RJ1 : String := "java/lang/StringLatin1"
def TJ1 : u_T := fun k => match k with
  | _ => ("", "", "", false)
def tyJ1 : Nat → FieldType := fun k => match k with
  | _ => .int
theorem nmJ1 : ∀ a, a < 0 → ∀ b, b < 0 → a ≠ b → (TJ1 a).2.1 ≠ (TJ1 b).2.1 := by decide +kernel
theorem tyJ1_ok : ∀ k, k < 0 → parseFieldDescriptor (TJ1 k).2.2.1 = some (tyJ1 k) := by decide +kernel
abbrev cJ1_charAt_3b067 : ByteArray := prog_15_method_2_code
def yJ1_charAt_3b067 : MethodName := ⟨RJ1, "charAt", "([BI)C"⟩
def RJ2 : String := "java/lang/StringUTF16"
def TJ2 : u_T := fun k => match k with
  | _ => ("", "", "", false)
def tyJ2 : Nat → FieldType := fun k => match k with
  | _ => .int
theorem nmJ2 : ∀ a, a < 0 → ∀ b, b < 0 → a ≠ b → (TJ2 a).2.1 ≠ (TJ2 b).2.1 := by decide +kernel
theorem tyJ2_ok : ∀ k, k < 0 → parseFieldDescriptor (TJ2 k).2.2.1 = some (tyJ2 k) := by decide +kernel
abbrev cJ2_getChar_3b067 : ByteArray := prog_16_method_5_code
def yJ2_getChar_3b067 : MethodName := ⟨RJ2, "getChar", "([BI)C"⟩
abbrev cJ2_length_9d52b : ByteArray := prog_16_method_6_code
def yJ2_length_9d52b : MethodName := ⟨RJ2, "length", "([B)I"⟩
abbrev cJ2_charAt_3b067 : ByteArray := prog_16_method_83_code
def yJ2_charAt_3b067 : MethodName := ⟨RJ2, "charAt", "([BI)C"⟩
abbrev cJ2_checkIndex_2214a : ByteArray := prog_16_method_91_code
def yJ2_checkIndex_2214a : MethodName := ⟨RJ2, "checkIndex", "(I[B)V"⟩
def RJ10 : String := "java/lang/System"
def TJ10 : u_T := fun k => match k with
  | _ => ("", "", "", false)
def tyJ10 : Nat → FieldType := fun k => match k with
  | _ => .int
theorem nmJ10 : ∀ a, a < 0 → ∀ b, b < 0 → a ≠ b → (TJ10 a).2.1 ≠ (TJ10 b).2.1 := by decide +kernel
theorem tyJ10_ok : ∀ k, k < 0 → parseFieldDescriptor (TJ10 k).2.2.1 = some (tyJ10 k) := by decide +kernel
def RJ3 : String := "jdk/internal/util/Preconditions"
def TJ3 : u_T := fun k => match k with
  | _ => ("", "", "", false)
def tyJ3 : Nat → FieldType := fun k => match k with
  | _ => .int
theorem nmJ3 : ∀ a, a < 0 → ∀ b, b < 0 → a ≠ b → (TJ3 a).2.1 ≠ (TJ3 b).2.1 := by decide +kernel
theorem tyJ3_ok : ∀ k, k < 0 → parseFieldDescriptor (TJ3 k).2.2.1 = some (tyJ3 k) := by decide +kernel
abbrev cJ3_checkIndex_8e157 : ByteArray := prog_18_method_11_code
def yJ3_checkIndex_8e157 : MethodName := ⟨RJ3, "checkIndex", "(IILjava/util/function/BiFunction;)I"⟩
def RL : String := "MoonVetoLaw"
abbrev cL_law : ByteArray := code
def yL_law : MethodName := ⟨RL, "law", "([I)Z"⟩
abbrev vwCl : List vw_C := [(RX0, TX0, 6), (RX1, TX1, 5), (RX2, TX2, 4), (RX3, TX3, 3), (RX4, TX4, 5), (RX7, TX7, 5), (RX8, TX8, 34)]
end
section
theorem dX0_init_0 : decode cX0_init 0 = .ok (.aload_n 0, 1) := by decide +kernel
theorem dX0_init_1 : decode cX0_init 1 = .ok (.invokespecial 3, 3) := by decide +kernel
theorem dX0_init_4 : decode cX0_init 4 = .ok (.return_, 1) := by decide +kernel
theorem dX0_read_0 : decode cX0_read 0 = .ok (.aload_n 0, 1) := by decide +kernel
theorem dX0_read_1 : decode cX0_read 1 = .ok (.aload_n 1, 1) := by decide +kernel
theorem dX0_read_2 : decode cX0_read 2 = .ok (.iload_n 2, 1) := by decide +kernel
theorem dX0_read_3 : decode cX0_read 3 = .ok (.iconst 1, 1) := by decide +kernel
theorem dX0_read_4 : decode cX0_read 4 = .ok (.iadd, 1) := by decide +kernel
theorem dX0_read_5 : decode cX0_read 5 = .ok (.invokevirtual 9, 3) := by decide +kernel
theorem dX0_read_8 : decode cX0_read 8 = .ok (.ifCond .eq 17, 3) := by decide +kernel
theorem dX0_read_11 : decode cX0_read 11 = .ok (.aload_n 1, 1) := by decide +kernel
theorem dX0_read_12 : decode cX0_read 12 = .ok (.getfield 15, 3) := by decide +kernel
theorem dX0_read_15 : decode cX0_read 15 = .ok (.iload_n 2, 1) := by decide +kernel
theorem dX0_read_16 : decode cX0_read 16 = .ok (.iconst 1, 1) := by decide +kernel
theorem dX0_read_17 : decode cX0_read 17 = .ok (.iadd, 1) := by decide +kernel
theorem dX0_read_18 : decode cX0_read 18 = .ok (.iaload, 1) := by decide +kernel
theorem dX0_read_19 : decode cX0_read 19 = .ok (.invokestatic 19, 3) := by decide +kernel
theorem dX0_read_22 : decode cX0_read 22 = .ok (.goto 4, 3) := by decide +kernel
theorem dX0_read_25 : decode cX0_read 25 = .ok (.iconst 0, 1) := by decide +kernel
theorem dX0_read_26 : decode cX0_read 26 = .ok (.putfield 25, 3) := by decide +kernel
theorem dX0_read_29 : decode cX0_read 29 = .ok (.aload_n 0, 1) := by decide +kernel
theorem dX0_read_30 : decode cX0_read 30 = .ok (.aload_n 1, 1) := by decide +kernel
theorem dX0_read_31 : decode cX0_read 31 = .ok (.iload_n 2, 1) := by decide +kernel
theorem dX0_read_32 : decode cX0_read 32 = .ok (.iconst 2, 1) := by decide +kernel
theorem dX0_read_33 : decode cX0_read 33 = .ok (.iadd, 1) := by decide +kernel
theorem dX0_read_34 : decode cX0_read 34 = .ok (.invokestatic 31, 3) := by decide +kernel
theorem dX0_read_37 : decode cX0_read 37 = .ok (.putfield 35, 3) := by decide +kernel
theorem dX0_read_40 : decode cX0_read 40 = .ok (.aload_n 0, 1) := by decide +kernel
theorem dX0_read_41 : decode cX0_read 41 = .ok (.aload_n 1, 1) := by decide +kernel
theorem dX0_read_42 : decode cX0_read 42 = .ok (.iload_n 2, 1) := by decide +kernel
theorem dX0_read_43 : decode cX0_read 43 = .ok (.iconst 4, 1) := by decide +kernel
theorem dX0_read_44 : decode cX0_read 44 = .ok (.iadd, 1) := by decide +kernel
theorem dX0_read_45 : decode cX0_read 45 = .ok (.invokestatic 38, 3) := by decide +kernel
theorem dX0_read_48 : decode cX0_read 48 = .ok (.putfield 41, 3) := by decide +kernel
theorem dX0_read_51 : decode cX0_read 51 = .ok (.aload_n 0, 1) := by decide +kernel
theorem dX0_read_52 : decode cX0_read 52 = .ok (.aload_n 1, 1) := by decide +kernel
theorem dX0_read_53 : decode cX0_read 53 = .ok (.iload_n 2, 1) := by decide +kernel
theorem dX0_read_54 : decode cX0_read 54 = .ok (.iconst 5, 1) := by decide +kernel
theorem dX0_read_55 : decode cX0_read 55 = .ok (.iadd, 1) := by decide +kernel
theorem dX0_read_56 : decode cX0_read 56 = .ok (.invokestatic 38, 3) := by decide +kernel
theorem dX0_read_59 : decode cX0_read 59 = .ok (.putfield 44, 3) := by decide +kernel
theorem dX0_read_62 : decode cX0_read 62 = .ok (.aload_n 0, 1) := by decide +kernel
theorem dX0_read_63 : decode cX0_read 63 = .ok (.aload_n 1, 1) := by decide +kernel
theorem dX0_read_64 : decode cX0_read 64 = .ok (.iload_n 2, 1) := by decide +kernel
theorem dX0_read_65 : decode cX0_read 65 = .ok (.bipush 6, 2) := by decide +kernel
theorem dX0_read_67 : decode cX0_read 67 = .ok (.iadd, 1) := by decide +kernel
theorem dX0_read_68 : decode cX0_read 68 = .ok (.invokestatic 38, 3) := by decide +kernel
theorem dX0_read_71 : decode cX0_read 71 = .ok (.putfield 47, 3) := by decide +kernel
theorem dX0_read_74 : decode cX0_read 74 = .ok (.return_, 1) := by decide +kernel
theorem dX0_term_0 : decode cX0_term 0 = .ok (.iload_n 1, 1) := by decide +kernel
theorem dX0_term_1 : decode cX0_term 1 = .ok (.bipush 55, 2) := by decide +kernel
theorem dX0_term_3 : decode cX0_term 3 = .ok (.imul, 1) := by decide +kernel
theorem dX0_term_4 : decode cX0_term 4 = .ok (.istore_n 2, 1) := by decide +kernel
theorem dX0_term_5 : decode cX0_term 5 = .ok (.aload_n 0, 1) := by decide +kernel
theorem dX0_term_6 : decode cX0_term 6 = .ok (.getfield 35, 3) := by decide +kernel
theorem dX0_term_9 : decode cX0_term 9 = .ok (.iconst 1, 1) := by decide +kernel
theorem dX0_term_10 : decode cX0_term 10 = .ok (.iadd, 1) := by decide +kernel
theorem dX0_term_11 : decode cX0_term 11 = .ok (.iload_n 2, 1) := by decide +kernel
theorem dX0_term_12 : decode cX0_term 12 = .ok (.invokestatic 50, 3) := by decide +kernel
theorem dX0_term_15 : decode cX0_term 15 = .ok (.istore_n 3, 1) := by decide +kernel
theorem dX0_term_16 : decode cX0_term 16 = .ok (.iload_n 2, 1) := by decide +kernel
theorem dX0_term_17 : decode cX0_term 17 = .ok (.bipush 55, 2) := by decide +kernel
theorem dX0_term_19 : decode cX0_term 19 = .ok (.iadd, 1) := by decide +kernel
theorem dX0_term_20 : decode cX0_term 20 = .ok (.iconst 1, 1) := by decide +kernel
theorem dX0_term_21 : decode cX0_term 21 = .ok (.isub, 1) := by decide +kernel
theorem dX0_term_22 : decode cX0_term 22 = .ok (.istore 4, 2) := by decide +kernel
theorem dX0_term_24 : decode cX0_term 24 = .ok (.aload_n 0, 1) := by decide +kernel
theorem dX0_term_25 : decode cX0_term 25 = .ok (.getfield 25, 3) := by decide +kernel
theorem dX0_term_28 : decode cX0_term 28 = .ok (.iconst 1, 1) := by decide +kernel
theorem dX0_term_29 : decode cX0_term 29 = .ok (.if_icmp .ne 22, 3) := by decide +kernel
theorem dX0_term_32 : decode cX0_term 32 = .ok (.aload_n 0, 1) := by decide +kernel
theorem dX0_term_33 : decode cX0_term 33 = .ok (.getfield 35, 3) := by decide +kernel
theorem dX0_term_36 : decode cX0_term 36 = .ok (.bipush 10, 2) := by decide +kernel
theorem dX0_term_38 : decode cX0_term 38 = .ok (.aload_n 0, 1) := by decide +kernel
theorem dX0_term_39 : decode cX0_term 39 = .ok (.getfield 47, 3) := by decide +kernel
theorem dX0_term_42 : decode cX0_term 42 = .ok (.imul, 1) := by decide +kernel
theorem dX0_term_43 : decode cX0_term 43 = .ok (.iadd, 1) := by decide +kernel
theorem dX0_term_44 : decode cX0_term 44 = .ok (.iload 4, 2) := by decide +kernel
theorem dX0_term_46 : decode cX0_term 46 = .ok (.invokestatic 56, 3) := by decide +kernel
theorem dX0_term_49 : decode cX0_term 49 = .ok (.istore 4, 2) := by decide +kernel
theorem dX0_term_51 : decode cX0_term 51 = .ok (.iload 4, 2) := by decide +kernel
theorem dX0_term_53 : decode cX0_term 53 = .ok (.iload_n 3, 1) := by decide +kernel
theorem dX0_term_54 : decode cX0_term 54 = .ok (.isub, 1) := by decide +kernel
theorem dX0_term_55 : decode cX0_term 55 = .ok (.iconst 1, 1) := by decide +kernel
theorem dX0_term_56 : decode cX0_term 56 = .ok (.iadd, 1) := by decide +kernel
theorem dX0_term_57 : decode cX0_term 57 = .ok (.istore 5, 2) := by decide +kernel
theorem dX0_term_59 : decode cX0_term 59 = .ok (.iload 5, 2) := by decide +kernel
theorem dX0_term_61 : decode cX0_term 61 = .ok (.ifCond .gt 7, 3) := by decide +kernel
theorem dX0_term_64 : decode cX0_term 64 = .ok (.lconst 0, 1) := by decide +kernel
theorem dX0_term_65 : decode cX0_term 65 = .ok (.goto 13, 3) := by decide +kernel
theorem dX0_term_68 : decode cX0_term 68 = .ok (.lconst 1, 1) := by decide +kernel
theorem dX0_term_69 : decode cX0_term 69 = .ok (.iload 5, 2) := by decide +kernel
theorem dX0_term_71 : decode cX0_term 71 = .ok (.lshl, 1) := by decide +kernel
theorem dX0_term_72 : decode cX0_term 72 = .ok (.lconst 1, 1) := by decide +kernel
theorem dX0_term_73 : decode cX0_term 73 = .ok (.lsub, 1) := by decide +kernel
theorem dX0_term_74 : decode cX0_term 74 = .ok (.iload_n 3, 1) := by decide +kernel
theorem dX0_term_75 : decode cX0_term 75 = .ok (.iload_n 2, 1) := by decide +kernel
theorem dX0_term_76 : decode cX0_term 76 = .ok (.isub, 1) := by decide +kernel
theorem dX0_term_77 : decode cX0_term 77 = .ok (.lshl, 1) := by decide +kernel
theorem dX0_term_78 : decode cX0_term 78 = .ok (.lreturn, 1) := by decide +kernel
theorem dX1_init_0 : decode cX1_init 0 = .ok (.aload_n 0, 1) := by decide +kernel
theorem dX1_init_1 : decode cX1_init 1 = .ok (.invokespecial 3, 3) := by decide +kernel
theorem dX1_init_4 : decode cX1_init 4 = .ok (.aload_n 0, 1) := by decide +kernel
theorem dX1_init_5 : decode cX1_init 5 = .ok (.new 9, 3) := by decide +kernel
theorem dX1_init_8 : decode cX1_init 8 = .ok (.dup, 1) := by decide +kernel
theorem dX1_init_9 : decode cX1_init 9 = .ok (.invokespecial 11, 3) := by decide +kernel
theorem dX1_init_12 : decode cX1_init 12 = .ok (.putfield 12, 3) := by decide +kernel
theorem dX1_init_15 : decode cX1_init 15 = .ok (.aload_n 0, 1) := by decide +kernel
theorem dX1_init_16 : decode cX1_init 16 = .ok (.bipush 6, 2) := by decide +kernel
theorem dX1_init_18 : decode cX1_init 18 = .ok (.anewarray 18, 3) := by decide +kernel
theorem dX1_init_21 : decode cX1_init 21 = .ok (.putfield 20, 3) := by decide +kernel
theorem dX1_init_24 : decode cX1_init 24 = .ok (.iconst 0, 1) := by decide +kernel
theorem dX1_init_25 : decode cX1_init 25 = .ok (.istore_n 1, 1) := by decide +kernel
theorem dX1_init_26 : decode cX1_init 26 = .ok (.iload_n 1, 1) := by decide +kernel
theorem dX1_init_27 : decode cX1_init 27 = .ok (.bipush 6, 2) := by decide +kernel
theorem dX1_init_29 : decode cX1_init 29 = .ok (.if_icmp .ge 22, 3) := by decide +kernel
theorem dX1_init_32 : decode cX1_init 32 = .ok (.aload_n 0, 1) := by decide +kernel
theorem dX1_init_33 : decode cX1_init 33 = .ok (.getfield 20, 3) := by decide +kernel
theorem dX1_init_36 : decode cX1_init 36 = .ok (.iload_n 1, 1) := by decide +kernel
theorem dX1_init_37 : decode cX1_init 37 = .ok (.new 18, 3) := by decide +kernel
theorem dX1_init_40 : decode cX1_init 40 = .ok (.dup, 1) := by decide +kernel
theorem dX1_init_41 : decode cX1_init 41 = .ok (.invokespecial 24, 3) := by decide +kernel
theorem dX1_init_44 : decode cX1_init 44 = .ok (.aastore, 1) := by decide +kernel
theorem dX1_init_45 : decode cX1_init 45 = .ok (.iinc 1 1, 3) := by decide +kernel
theorem dX1_init_48 : decode cX1_init 48 = .ok (.goto (-22), 3) := by decide +kernel
theorem dX1_init_51 : decode cX1_init 51 = .ok (.return_, 1) := by decide +kernel
theorem dX1_found_0 : decode cX1_found 0 = .ok (.aload_n 0, 1) := by decide +kernel
theorem dX1_found_1 : decode cX1_found 1 = .ok (.getfield 12, 3) := by decide +kernel
theorem dX1_found_4 : decode cX1_found 4 = .ok (.aload_n 1, 1) := by decide +kernel
theorem dX1_found_5 : decode cX1_found 5 = .ok (.iload_n 2, 1) := by decide +kernel
theorem dX1_found_6 : decode cX1_found 6 = .ok (.invokevirtual 25, 3) := by decide +kernel
theorem dX1_found_9 : decode cX1_found 9 = .ok (.aload_n 0, 1) := by decide +kernel
theorem dX1_found_10 : decode cX1_found 10 = .ok (.aload_n 1, 1) := by decide +kernel
theorem dX1_found_11 : decode cX1_found 11 = .ok (.iload_n 2, 1) := by decide +kernel
theorem dX1_found_12 : decode cX1_found 12 = .ok (.bipush 6, 2) := by decide +kernel
theorem dX1_found_14 : decode cX1_found 14 = .ok (.iadd, 1) := by decide +kernel
theorem dX1_found_15 : decode cX1_found 15 = .ok (.invokestatic 29, 3) := by decide +kernel
theorem dX1_found_18 : decode cX1_found 18 = .ok (.putfield 35, 3) := by decide +kernel
theorem dX1_found_21 : decode cX1_found 21 = .ok (.aload_n 0, 1) := by decide +kernel
theorem dX1_found_22 : decode cX1_found 22 = .ok (.iload_n 3, 1) := by decide +kernel
theorem dX1_found_23 : decode cX1_found 23 = .ok (.bipush 7, 2) := by decide +kernel
theorem dX1_found_25 : decode cX1_found 25 = .ok (.idiv, 1) := by decide +kernel
theorem dX1_found_26 : decode cX1_found 26 = .ok (.iconst 1, 1) := by decide +kernel
theorem dX1_found_27 : decode cX1_found 27 = .ok (.isub, 1) := by decide +kernel
theorem dX1_found_28 : decode cX1_found 28 = .ok (.bipush 6, 2) := by decide +kernel
theorem dX1_found_30 : decode cX1_found 30 = .ok (.invokestatic 39, 3) := by decide +kernel
theorem dX1_found_33 : decode cX1_found 33 = .ok (.putfield 45, 3) := by decide +kernel
theorem dX1_found_36 : decode cX1_found 36 = .ok (.iconst 0, 1) := by decide +kernel
theorem dX1_found_37 : decode cX1_found 37 = .ok (.istore 4, 2) := by decide +kernel
theorem dX1_found_39 : decode cX1_found 39 = .ok (.iload 4, 2) := by decide +kernel
theorem dX1_found_41 : decode cX1_found 41 = .ok (.aload_n 0, 1) := by decide +kernel
theorem dX1_found_42 : decode cX1_found 42 = .ok (.getfield 45, 3) := by decide +kernel
theorem dX1_found_45 : decode cX1_found 45 = .ok (.if_icmp .ge 29, 3) := by decide +kernel
theorem dX1_found_48 : decode cX1_found 48 = .ok (.aload_n 0, 1) := by decide +kernel
theorem dX1_found_49 : decode cX1_found 49 = .ok (.getfield 20, 3) := by decide +kernel
theorem dX1_found_52 : decode cX1_found 52 = .ok (.iload 4, 2) := by decide +kernel
theorem dX1_found_54 : decode cX1_found 54 = .ok (.aaload, 1) := by decide +kernel
theorem dX1_found_55 : decode cX1_found 55 = .ok (.aload_n 1, 1) := by decide +kernel
theorem dX1_found_56 : decode cX1_found 56 = .ok (.iload_n 2, 1) := by decide +kernel
theorem dX1_found_57 : decode cX1_found 57 = .ok (.bipush 7, 2) := by decide +kernel
theorem dX1_found_59 : decode cX1_found 59 = .ok (.iload 4, 2) := by decide +kernel
theorem dX1_found_61 : decode cX1_found 61 = .ok (.iconst 1, 1) := by decide +kernel
theorem dX1_found_62 : decode cX1_found 62 = .ok (.iadd, 1) := by decide +kernel
theorem dX1_found_63 : decode cX1_found 63 = .ok (.imul, 1) := by decide +kernel
theorem dX1_found_64 : decode cX1_found 64 = .ok (.iadd, 1) := by decide +kernel
theorem dX1_found_65 : decode cX1_found 65 = .ok (.invokevirtual 48, 3) := by decide +kernel
theorem dX1_found_68 : decode cX1_found 68 = .ok (.iinc 4 1, 3) := by decide +kernel
theorem dX1_found_71 : decode cX1_found 71 = .ok (.goto (-32), 3) := by decide +kernel
theorem dX1_found_74 : decode cX1_found 74 = .ok (.return_, 1) := by decide +kernel
theorem dX1_settle_0 : decode cX1_settle 0 = .ok (.aload_n 0, 1) := by decide +kernel
theorem dX1_settle_1 : decode cX1_settle 1 = .ok (.invokevirtual 49, 3) := by decide +kernel
theorem dX1_settle_4 : decode cX1_settle 4 = .ok (.aload_n 0, 1) := by decide +kernel
theorem dX1_settle_5 : decode cX1_settle 5 = .ok (.aload_n 0, 1) := by decide +kernel
theorem dX1_settle_6 : decode cX1_settle 6 = .ok (.getfield 12, 3) := by decide +kernel
theorem dX1_settle_9 : decode cX1_settle 9 = .ok (.invokevirtual 52, 3) := by decide +kernel
theorem dX1_settle_12 : decode cX1_settle 12 = .ok (.bipush 6, 2) := by decide +kernel
theorem dX1_settle_14 : decode cX1_settle 14 = .ok (.invokevirtual 56, 3) := by decide +kernel
theorem dX1_settle_17 : decode cX1_settle 17 = .ok (.return_, 1) := by decide +kernel
theorem dX1_watchAll_0 : decode cX1_watchAll 0 = .ok (.iconst 0, 1) := by decide +kernel
theorem dX1_watchAll_1 : decode cX1_watchAll 1 = .ok (.istore_n 1, 1) := by decide +kernel
theorem dX1_watchAll_2 : decode cX1_watchAll 2 = .ok (.iload_n 1, 1) := by decide +kernel
theorem dX1_watchAll_3 : decode cX1_watchAll 3 = .ok (.aload_n 0, 1) := by decide +kernel
theorem dX1_watchAll_4 : decode cX1_watchAll 4 = .ok (.getfield 45, 3) := by decide +kernel
theorem dX1_watchAll_7 : decode cX1_watchAll 7 = .ok (.if_icmp .ge 40, 3) := by decide +kernel
theorem dX1_watchAll_10 : decode cX1_watchAll 10 = .ok (.aload_n 0, 1) := by decide +kernel
theorem dX1_watchAll_11 : decode cX1_watchAll 11 = .ok (.getfield 20, 3) := by decide +kernel
theorem dX1_watchAll_14 : decode cX1_watchAll 14 = .ok (.iload_n 1, 1) := by decide +kernel
theorem dX1_watchAll_15 : decode cX1_watchAll 15 = .ok (.aaload, 1) := by decide +kernel
theorem dX1_watchAll_16 : decode cX1_watchAll 16 = .ok (.astore_n 2, 1) := by decide +kernel
theorem dX1_watchAll_17 : decode cX1_watchAll 17 = .ok (.aload_n 2, 1) := by decide +kernel
theorem dX1_watchAll_18 : decode cX1_watchAll 18 = .ok (.aload_n 0, 1) := by decide +kernel
theorem dX1_watchAll_19 : decode cX1_watchAll 19 = .ok (.getfield 12, 3) := by decide +kernel
theorem dX1_watchAll_22 : decode cX1_watchAll 22 = .ok (.aload_n 2, 1) := by decide +kernel
theorem dX1_watchAll_23 : decode cX1_watchAll 23 = .ok (.getfield 60, 3) := by decide +kernel
theorem dX1_watchAll_26 : decode cX1_watchAll 26 = .ok (.aload_n 2, 1) := by decide +kernel
theorem dX1_watchAll_27 : decode cX1_watchAll 27 = .ok (.getfield 60, 3) := by decide +kernel
theorem dX1_watchAll_30 : decode cX1_watchAll 30 = .ok (.aload_n 0, 1) := by decide +kernel
theorem dX1_watchAll_31 : decode cX1_watchAll 31 = .ok (.getfield 35, 3) := by decide +kernel
theorem dX1_watchAll_34 : decode cX1_watchAll 34 = .ok (.iadd, 1) := by decide +kernel
theorem dX1_watchAll_35 : decode cX1_watchAll 35 = .ok (.invokevirtual 63, 3) := by decide +kernel
theorem dX1_watchAll_38 : decode cX1_watchAll 38 = .ok (.putfield 66, 3) := by decide +kernel
theorem dX1_watchAll_41 : decode cX1_watchAll 41 = .ok (.iinc 1 1, 3) := by decide +kernel
theorem dX1_watchAll_44 : decode cX1_watchAll 44 = .ok (.goto (-42), 3) := by decide +kernel
theorem dX1_watchAll_47 : decode cX1_watchAll 47 = .ok (.return_, 1) := by decide +kernel
theorem dX1_allMoons_0 : decode cX1_allMoons 0 = .ok (.iconst 0, 1) := by decide +kernel
theorem dX1_allMoons_1 : decode cX1_allMoons 1 = .ok (.istore_n 1, 1) := by decide +kernel
theorem dX1_allMoons_2 : decode cX1_allMoons 2 = .ok (.iconst 0, 1) := by decide +kernel
theorem dX1_allMoons_3 : decode cX1_allMoons 3 = .ok (.istore_n 2, 1) := by decide +kernel
theorem dX1_allMoons_4 : decode cX1_allMoons 4 = .ok (.iload_n 2, 1) := by decide +kernel
theorem dX1_allMoons_5 : decode cX1_allMoons 5 = .ok (.aload_n 0, 1) := by decide +kernel
theorem dX1_allMoons_6 : decode cX1_allMoons 6 = .ok (.getfield 45, 3) := by decide +kernel
theorem dX1_allMoons_9 : decode cX1_allMoons 9 = .ok (.if_icmp .ge 21, 3) := by decide +kernel
theorem dX1_allMoons_12 : decode cX1_allMoons 12 = .ok (.iload_n 1, 1) := by decide +kernel
theorem dX1_allMoons_13 : decode cX1_allMoons 13 = .ok (.aload_n 0, 1) := by decide +kernel
theorem dX1_allMoons_14 : decode cX1_allMoons 14 = .ok (.getfield 20, 3) := by decide +kernel
theorem dX1_allMoons_17 : decode cX1_allMoons 17 = .ok (.iload_n 2, 1) := by decide +kernel
theorem dX1_allMoons_18 : decode cX1_allMoons 18 = .ok (.aaload, 1) := by decide +kernel
theorem dX1_allMoons_19 : decode cX1_allMoons 19 = .ok (.getfield 66, 3) := by decide +kernel
theorem dX1_allMoons_22 : decode cX1_allMoons 22 = .ok (.ior, 1) := by decide +kernel
theorem dX1_allMoons_23 : decode cX1_allMoons 23 = .ok (.istore_n 1, 1) := by decide +kernel
theorem dX1_allMoons_24 : decode cX1_allMoons 24 = .ok (.iinc 2 1, 3) := by decide +kernel
theorem dX1_allMoons_27 : decode cX1_allMoons 27 = .ok (.goto (-23), 3) := by decide +kernel
theorem dX1_allMoons_30 : decode cX1_allMoons 30 = .ok (.iload_n 1, 1) := by decide +kernel
theorem dX1_allMoons_31 : decode cX1_allMoons 31 = .ok (.ireturn, 1) := by decide +kernel
theorem dX1_pass_0 : decode cX1_pass 0 = .ok (.aload_n 0, 1) := by decide +kernel
theorem dX1_pass_1 : decode cX1_pass 1 = .ok (.iconst 0, 1) := by decide +kernel
theorem dX1_pass_2 : decode cX1_pass 2 = .ok (.putfield 69, 3) := by decide +kernel
theorem dX1_pass_5 : decode cX1_pass 5 = .ok (.iconst 0, 1) := by decide +kernel
theorem dX1_pass_6 : decode cX1_pass 6 = .ok (.istore_n 3, 1) := by decide +kernel
theorem dX1_pass_7 : decode cX1_pass 7 = .ok (.iconst 0, 1) := by decide +kernel
theorem dX1_pass_8 : decode cX1_pass 8 = .ok (.istore 4, 2) := by decide +kernel
theorem dX1_pass_10 : decode cX1_pass 10 = .ok (.iload 4, 2) := by decide +kernel
theorem dX1_pass_12 : decode cX1_pass 12 = .ok (.aload_n 0, 1) := by decide +kernel
theorem dX1_pass_13 : decode cX1_pass 13 = .ok (.getfield 45, 3) := by decide +kernel
theorem dX1_pass_16 : decode cX1_pass 16 = .ok (.if_icmp .ge 126, 3) := by decide +kernel
theorem dX1_pass_19 : decode cX1_pass 19 = .ok (.aload_n 0, 1) := by decide +kernel
theorem dX1_pass_20 : decode cX1_pass 20 = .ok (.iload_n 3, 1) := by decide +kernel
theorem dX1_pass_21 : decode cX1_pass 21 = .ok (.invokevirtual 72, 3) := by decide +kernel
theorem dX1_pass_24 : decode cX1_pass 24 = .ok (.istore 5, 2) := by decide +kernel
theorem dX1_pass_26 : decode cX1_pass 26 = .ok (.iload_n 3, 1) := by decide +kernel
theorem dX1_pass_27 : decode cX1_pass 27 = .ok (.iconst 1, 1) := by decide +kernel
theorem dX1_pass_28 : decode cX1_pass 28 = .ok (.iload 5, 2) := by decide +kernel
theorem dX1_pass_30 : decode cX1_pass 30 = .ok (.ishl, 1) := by decide +kernel
theorem dX1_pass_31 : decode cX1_pass 31 = .ok (.ior, 1) := by decide +kernel
theorem dX1_pass_32 : decode cX1_pass 32 = .ok (.istore_n 3, 1) := by decide +kernel
theorem dX1_pass_33 : decode cX1_pass 33 = .ok (.aload_n 0, 1) := by decide +kernel
theorem dX1_pass_34 : decode cX1_pass 34 = .ok (.getfield 20, 3) := by decide +kernel
theorem dX1_pass_37 : decode cX1_pass 37 = .ok (.iload 5, 2) := by decide +kernel
theorem dX1_pass_39 : decode cX1_pass 39 = .ok (.aaload, 1) := by decide +kernel
theorem dX1_pass_40 : decode cX1_pass 40 = .ok (.astore 6, 2) := by decide +kernel
theorem dX1_pass_42 : decode cX1_pass 42 = .ok (.iload 5, 2) := by decide +kernel
theorem dX1_pass_44 : decode cX1_pass 44 = .ok (.iload_n 2, 1) := by decide +kernel
theorem dX1_pass_45 : decode cX1_pass 45 = .ok (.if_icmp .eq 15, 3) := by decide +kernel
theorem dX1_pass_48 : decode cX1_pass 48 = .ok (.aload 6, 2) := by decide +kernel
theorem dX1_pass_50 : decode cX1_pass 50 = .ok (.getfield 66, 3) := by decide +kernel
theorem dX1_pass_53 : decode cX1_pass 53 = .ok (.iload_n 1, 1) := by decide +kernel
theorem dX1_pass_54 : decode cX1_pass 54 = .ok (.iconst (-1), 1) := by decide +kernel
theorem dX1_pass_55 : decode cX1_pass 55 = .ok (.ixor, 1) := by decide +kernel
theorem dX1_pass_56 : decode cX1_pass 56 = .ok (.iand, 1) := by decide +kernel
theorem dX1_pass_57 : decode cX1_pass 57 = .ok (.ifCond .eq 7, 3) := by decide +kernel
theorem dX1_pass_60 : decode cX1_pass 60 = .ok (.iconst 1, 1) := by decide +kernel
theorem dX1_pass_61 : decode cX1_pass 61 = .ok (.goto 4, 3) := by decide +kernel
theorem dX1_pass_64 : decode cX1_pass 64 = .ok (.iconst 0, 1) := by decide +kernel
theorem dX1_pass_65 : decode cX1_pass 65 = .ok (.istore 7, 2) := by decide +kernel
theorem dX1_pass_67 : decode cX1_pass 67 = .ok (.aload 6, 2) := by decide +kernel
theorem dX1_pass_69 : decode cX1_pass 69 = .ok (.getfield 76, 3) := by decide +kernel
theorem dX1_pass_72 : decode cX1_pass 72 = .ok (.bipush 6, 2) := by decide +kernel
theorem dX1_pass_74 : decode cX1_pass 74 = .ok (.if_icmp .eq 32, 3) := by decide +kernel
theorem dX1_pass_77 : decode cX1_pass 77 = .ok (.aload 6, 2) := by decide +kernel
theorem dX1_pass_79 : decode cX1_pass 79 = .ok (.getfield 76, 3) := by decide +kernel
theorem dX1_pass_82 : decode cX1_pass 82 = .ok (.aload_n 0, 1) := by decide +kernel
theorem dX1_pass_83 : decode cX1_pass 83 = .ok (.getfield 45, 3) := by decide +kernel
theorem dX1_pass_86 : decode cX1_pass 86 = .ok (.if_icmp .ge 24, 3) := by decide +kernel
theorem dX1_pass_89 : decode cX1_pass 89 = .ok (.aload_n 0, 1) := by decide +kernel
theorem dX1_pass_90 : decode cX1_pass 90 = .ok (.aload 6, 2) := by decide +kernel
theorem dX1_pass_92 : decode cX1_pass 92 = .ok (.getfield 76, 3) := by decide +kernel
theorem dX1_pass_95 : decode cX1_pass 95 = .ok (.aload 6, 2) := by decide +kernel
theorem dX1_pass_97 : decode cX1_pass 97 = .ok (.getfield 60, 3) := by decide +kernel
theorem dX1_pass_100 : decode cX1_pass 100 = .ok (.invokevirtual 79, 3) := by decide +kernel
theorem dX1_pass_103 : decode cX1_pass 103 = .ok (.ifCond .eq 7, 3) := by decide +kernel
theorem dX1_pass_106 : decode cX1_pass 106 = .ok (.iconst 1, 1) := by decide +kernel
theorem dX1_pass_107 : decode cX1_pass 107 = .ok (.goto 4, 3) := by decide +kernel
theorem dX1_pass_110 : decode cX1_pass 110 = .ok (.iconst 0, 1) := by decide +kernel
theorem dX1_pass_111 : decode cX1_pass 111 = .ok (.istore 8, 2) := by decide +kernel
theorem dX1_pass_113 : decode cX1_pass 113 = .ok (.iload 7, 2) := by decide +kernel
theorem dX1_pass_115 : decode cX1_pass 115 = .ok (.ifCond .ne 21, 3) := by decide +kernel
theorem dX1_pass_118 : decode cX1_pass 118 = .ok (.iload 8, 2) := by decide +kernel
theorem dX1_pass_120 : decode cX1_pass 120 = .ok (.ifCond .eq 16, 3) := by decide +kernel
theorem dX1_pass_123 : decode cX1_pass 123 = .ok (.aload_n 0, 1) := by decide +kernel
theorem dX1_pass_124 : decode cX1_pass 124 = .ok (.dup, 1) := by decide +kernel
theorem dX1_pass_125 : decode cX1_pass 125 = .ok (.getfield 69, 3) := by decide +kernel
theorem dX1_pass_128 : decode cX1_pass 128 = .ok (.iconst 1, 1) := by decide +kernel
theorem dX1_pass_129 : decode cX1_pass 129 = .ok (.iload 5, 2) := by decide +kernel
theorem dX1_pass_131 : decode cX1_pass 131 = .ok (.ishl, 1) := by decide +kernel
theorem dX1_pass_132 : decode cX1_pass 132 = .ok (.ior, 1) := by decide +kernel
theorem dX1_pass_133 : decode cX1_pass 133 = .ok (.putfield 69, 3) := by decide +kernel
theorem dX1_pass_136 : decode cX1_pass 136 = .ok (.iinc 4 1, 3) := by decide +kernel
theorem dX1_pass_139 : decode cX1_pass 139 = .ok (.goto (-129), 3) := by decide +kernel
theorem dX1_pass_142 : decode cX1_pass 142 = .ok (.return_, 1) := by decide +kernel
theorem dX1_earliestBut_0 : decode cX1_earliestBut 0 = .ok (.iconst 0, 1) := by decide +kernel
theorem dX1_earliestBut_1 : decode cX1_earliestBut 1 = .ok (.istore_n 2, 1) := by decide +kernel
theorem dX1_earliestBut_2 : decode cX1_earliestBut 2 = .ok (.bipush 110, 2) := by decide +kernel
theorem dX1_earliestBut_4 : decode cX1_earliestBut 4 = .ok (.istore_n 3, 1) := by decide +kernel
theorem dX1_earliestBut_5 : decode cX1_earliestBut 5 = .ok (.iconst 0, 1) := by decide +kernel
theorem dX1_earliestBut_6 : decode cX1_earliestBut 6 = .ok (.istore 4, 2) := by decide +kernel
theorem dX1_earliestBut_8 : decode cX1_earliestBut 8 = .ok (.iload 4, 2) := by decide +kernel
theorem dX1_earliestBut_10 : decode cX1_earliestBut 10 = .ok (.aload_n 0, 1) := by decide +kernel
theorem dX1_earliestBut_11 : decode cX1_earliestBut 11 = .ok (.getfield 45, 3) := by decide +kernel
theorem dX1_earliestBut_14 : decode cX1_earliestBut 14 = .ok (.if_icmp .ge 46, 3) := by decide +kernel
theorem dX1_earliestBut_17 : decode cX1_earliestBut 17 = .ok (.iload_n 1, 1) := by decide +kernel
theorem dX1_earliestBut_18 : decode cX1_earliestBut 18 = .ok (.iload 4, 2) := by decide +kernel
theorem dX1_earliestBut_20 : decode cX1_earliestBut 20 = .ok (.ishr, 1) := by decide +kernel
theorem dX1_earliestBut_21 : decode cX1_earliestBut 21 = .ok (.iconst 1, 1) := by decide +kernel
theorem dX1_earliestBut_22 : decode cX1_earliestBut 22 = .ok (.iand, 1) := by decide +kernel
theorem dX1_earliestBut_23 : decode cX1_earliestBut 23 = .ok (.ifCond .ne 31, 3) := by decide +kernel
theorem dX1_earliestBut_26 : decode cX1_earliestBut 26 = .ok (.aload_n 0, 1) := by decide +kernel
theorem dX1_earliestBut_27 : decode cX1_earliestBut 27 = .ok (.getfield 20, 3) := by decide +kernel
theorem dX1_earliestBut_30 : decode cX1_earliestBut 30 = .ok (.iload 4, 2) := by decide +kernel
theorem dX1_earliestBut_32 : decode cX1_earliestBut 32 = .ok (.aaload, 1) := by decide +kernel
theorem dX1_earliestBut_33 : decode cX1_earliestBut 33 = .ok (.getfield 60, 3) := by decide +kernel
theorem dX1_earliestBut_36 : decode cX1_earliestBut 36 = .ok (.iload_n 3, 1) := by decide +kernel
theorem dX1_earliestBut_37 : decode cX1_earliestBut 37 = .ok (.if_icmp .ge 17, 3) := by decide +kernel
theorem dX1_earliestBut_40 : decode cX1_earliestBut 40 = .ok (.iload 4, 2) := by decide +kernel
theorem dX1_earliestBut_42 : decode cX1_earliestBut 42 = .ok (.istore_n 2, 1) := by decide +kernel
theorem dX1_earliestBut_43 : decode cX1_earliestBut 43 = .ok (.aload_n 0, 1) := by decide +kernel
theorem dX1_earliestBut_44 : decode cX1_earliestBut 44 = .ok (.getfield 20, 3) := by decide +kernel
theorem dX1_earliestBut_47 : decode cX1_earliestBut 47 = .ok (.iload 4, 2) := by decide +kernel
theorem dX1_earliestBut_49 : decode cX1_earliestBut 49 = .ok (.aaload, 1) := by decide +kernel
theorem dX1_earliestBut_50 : decode cX1_earliestBut 50 = .ok (.getfield 60, 3) := by decide +kernel
theorem dX1_earliestBut_53 : decode cX1_earliestBut 53 = .ok (.istore_n 3, 1) := by decide +kernel
theorem dX1_earliestBut_54 : decode cX1_earliestBut 54 = .ok (.iinc 4 1, 3) := by decide +kernel
theorem dX1_earliestBut_57 : decode cX1_earliestBut 57 = .ok (.goto (-49), 3) := by decide +kernel
theorem dX1_earliestBut_60 : decode cX1_earliestBut 60 = .ok (.iload_n 2, 1) := by decide +kernel
theorem dX1_earliestBut_61 : decode cX1_earliestBut 61 = .ok (.ireturn, 1) := by decide +kernel
theorem dX1_isLater_0 : decode cX1_isLater 0 = .ok (.aload_n 0, 1) := by decide +kernel
theorem dX1_isLater_1 : decode cX1_isLater 1 = .ok (.getfield 20, 3) := by decide +kernel
theorem dX1_isLater_4 : decode cX1_isLater 4 = .ok (.iload_n 1, 1) := by decide +kernel
theorem dX1_isLater_5 : decode cX1_isLater 5 = .ok (.aaload, 1) := by decide +kernel
theorem dX1_isLater_6 : decode cX1_isLater 6 = .ok (.getfield 60, 3) := by decide +kernel
theorem dX1_isLater_9 : decode cX1_isLater 9 = .ok (.aload_n 0, 1) := by decide +kernel
theorem dX1_isLater_10 : decode cX1_isLater 10 = .ok (.getfield 20, 3) := by decide +kernel
theorem dX1_isLater_13 : decode cX1_isLater 13 = .ok (.iload_n 2, 1) := by decide +kernel
theorem dX1_isLater_14 : decode cX1_isLater 14 = .ok (.aaload, 1) := by decide +kernel
theorem dX1_isLater_15 : decode cX1_isLater 15 = .ok (.getfield 60, 3) := by decide +kernel
theorem dX1_isLater_18 : decode cX1_isLater 18 = .ok (.isub, 1) := by decide +kernel
theorem dX1_isLater_19 : decode cX1_isLater 19 = .ok (.istore_n 3, 1) := by decide +kernel
theorem dX1_isLater_20 : decode cX1_isLater 20 = .ok (.iload_n 3, 1) := by decide +kernel
theorem dX1_isLater_21 : decode cX1_isLater 21 = .ok (.ifCond .gt 12, 3) := by decide +kernel
theorem dX1_isLater_24 : decode cX1_isLater 24 = .ok (.iload_n 3, 1) := by decide +kernel
theorem dX1_isLater_25 : decode cX1_isLater 25 = .ok (.ifCond .ne 12, 3) := by decide +kernel
theorem dX1_isLater_28 : decode cX1_isLater 28 = .ok (.iload_n 1, 1) := by decide +kernel
theorem dX1_isLater_29 : decode cX1_isLater 29 = .ok (.iload_n 2, 1) := by decide +kernel
theorem dX1_isLater_30 : decode cX1_isLater 30 = .ok (.if_icmp .le 7, 3) := by decide +kernel
theorem dX1_isLater_33 : decode cX1_isLater 33 = .ok (.iconst 1, 1) := by decide +kernel
theorem dX1_isLater_34 : decode cX1_isLater 34 = .ok (.goto 4, 3) := by decide +kernel
theorem dX1_isLater_37 : decode cX1_isLater 37 = .ok (.iconst 0, 1) := by decide +kernel
theorem dX1_isLater_38 : decode cX1_isLater 38 = .ok (.ireturn, 1) := by decide +kernel
theorem dX1_daysInForce_0 : decode cX1_daysInForce 0 = .ok (.aload_n 0, 1) := by decide +kernel
theorem dX1_daysInForce_1 : decode cX1_daysInForce 1 = .ok (.getfield 69, 3) := by decide +kernel
theorem dX1_daysInForce_4 : decode cX1_daysInForce 4 = .ok (.iload_n 1, 1) := by decide +kernel
theorem dX1_daysInForce_5 : decode cX1_daysInForce 5 = .ok (.ishr, 1) := by decide +kernel
theorem dX1_daysInForce_6 : decode cX1_daysInForce 6 = .ok (.iconst 1, 1) := by decide +kernel
theorem dX1_daysInForce_7 : decode cX1_daysInForce 7 = .ok (.iand, 1) := by decide +kernel
theorem dX1_daysInForce_8 : decode cX1_daysInForce 8 = .ok (.ifCond .eq 9, 3) := by decide +kernel
theorem dX1_daysInForce_11 : decode cX1_daysInForce 11 = .ok (.iload_n 3, 1) := by decide +kernel
theorem dX1_daysInForce_12 : decode cX1_daysInForce 12 = .ok (.bipush 6, 2) := by decide +kernel
theorem dX1_daysInForce_14 : decode cX1_daysInForce 14 = .ok (.if_icmp .le 5, 3) := by decide +kernel
theorem dX1_daysInForce_17 : decode cX1_daysInForce 17 = .ok (.lconst 0, 1) := by decide +kernel
theorem dX1_daysInForce_18 : decode cX1_daysInForce 18 = .ok (.lreturn, 1) := by decide +kernel
theorem dX1_daysInForce_19 : decode cX1_daysInForce 19 = .ok (.aload_n 0, 1) := by decide +kernel
theorem dX1_daysInForce_20 : decode cX1_daysInForce 20 = .ok (.getfield 20, 3) := by decide +kernel
theorem dX1_daysInForce_23 : decode cX1_daysInForce 23 = .ok (.iload_n 1, 1) := by decide +kernel
theorem dX1_daysInForce_24 : decode cX1_daysInForce 24 = .ok (.aaload, 1) := by decide +kernel
theorem dX1_daysInForce_25 : decode cX1_daysInForce 25 = .ok (.iload_n 2, 1) := by decide +kernel
theorem dX1_daysInForce_26 : decode cX1_daysInForce 26 = .ok (.invokevirtual 83, 3) := by decide +kernel
theorem dX1_daysInForce_29 : decode cX1_daysInForce 29 = .ok (.lstore 4, 2) := by decide +kernel
theorem dX1_daysInForce_31 : decode cX1_daysInForce 31 = .ok (.iconst 0, 1) := by decide +kernel
theorem dX1_daysInForce_32 : decode cX1_daysInForce 32 = .ok (.istore 6, 2) := by decide +kernel
theorem dX1_daysInForce_34 : decode cX1_daysInForce 34 = .ok (.iload 6, 2) := by decide +kernel
theorem dX1_daysInForce_36 : decode cX1_daysInForce 36 = .ok (.aload_n 0, 1) := by decide +kernel
theorem dX1_daysInForce_37 : decode cX1_daysInForce 37 = .ok (.getfield 45, 3) := by decide +kernel
theorem dX1_daysInForce_40 : decode cX1_daysInForce 40 = .ok (.if_icmp .ge 73, 3) := by decide +kernel
theorem dX1_daysInForce_43 : decode cX1_daysInForce 43 = .ok (.lload 4, 2) := by decide +kernel
theorem dX1_daysInForce_45 : decode cX1_daysInForce 45 = .ok (.lconst 0, 1) := by decide +kernel
theorem dX1_daysInForce_46 : decode cX1_daysInForce 46 = .ok (.lcmp, 1) := by decide +kernel
theorem dX1_daysInForce_47 : decode cX1_daysInForce 47 = .ok (.ifCond .eq 66, 3) := by decide +kernel
theorem dX1_daysInForce_50 : decode cX1_daysInForce 50 = .ok (.aload_n 0, 1) := by decide +kernel
theorem dX1_daysInForce_51 : decode cX1_daysInForce 51 = .ok (.getfield 20, 3) := by decide +kernel
theorem dX1_daysInForce_54 : decode cX1_daysInForce 54 = .ok (.iload 6, 2) := by decide +kernel
theorem dX1_daysInForce_56 : decode cX1_daysInForce 56 = .ok (.aaload, 1) := by decide +kernel
theorem dX1_daysInForce_57 : decode cX1_daysInForce 57 = .ok (.getfield 87, 3) := by decide +kernel
theorem dX1_daysInForce_60 : decode cX1_daysInForce 60 = .ok (.iconst 2, 1) := by decide +kernel
theorem dX1_daysInForce_61 : decode cX1_daysInForce 61 = .ok (.if_icmp .ne 46, 3) := by decide +kernel
theorem dX1_daysInForce_64 : decode cX1_daysInForce 64 = .ok (.aload_n 0, 1) := by decide +kernel
theorem dX1_daysInForce_65 : decode cX1_daysInForce 65 = .ok (.getfield 20, 3) := by decide +kernel
theorem dX1_daysInForce_68 : decode cX1_daysInForce 68 = .ok (.iload 6, 2) := by decide +kernel
theorem dX1_daysInForce_70 : decode cX1_daysInForce 70 = .ok (.aaload, 1) := by decide +kernel
theorem dX1_daysInForce_71 : decode cX1_daysInForce 71 = .ok (.getfield 90, 3) := by decide +kernel
theorem dX1_daysInForce_74 : decode cX1_daysInForce 74 = .ok (.iload_n 1, 1) := by decide +kernel
theorem dX1_daysInForce_75 : decode cX1_daysInForce 75 = .ok (.if_icmp .ne 32, 3) := by decide +kernel
theorem dX1_daysInForce_78 : decode cX1_daysInForce 78 = .ok (.aload_n 0, 1) := by decide +kernel
theorem dX1_daysInForce_79 : decode cX1_daysInForce 79 = .ok (.iload 6, 2) := by decide +kernel
theorem dX1_daysInForce_81 : decode cX1_daysInForce 81 = .ok (.iload_n 1, 1) := by decide +kernel
theorem dX1_daysInForce_82 : decode cX1_daysInForce 82 = .ok (.invokevirtual 93, 3) := by decide +kernel
theorem dX1_daysInForce_85 : decode cX1_daysInForce 85 = .ok (.ifCond .eq 22, 3) := by decide +kernel
theorem dX1_daysInForce_88 : decode cX1_daysInForce 88 = .ok (.lload 4, 2) := by decide +kernel
theorem dX1_daysInForce_90 : decode cX1_daysInForce 90 = .ok (.aload_n 0, 1) := by decide +kernel
theorem dX1_daysInForce_91 : decode cX1_daysInForce 91 = .ok (.iload 6, 2) := by decide +kernel
theorem dX1_daysInForce_93 : decode cX1_daysInForce 93 = .ok (.iload_n 2, 1) := by decide +kernel
theorem dX1_daysInForce_94 : decode cX1_daysInForce 94 = .ok (.iload_n 3, 1) := by decide +kernel
theorem dX1_daysInForce_95 : decode cX1_daysInForce 95 = .ok (.iconst 1, 1) := by decide +kernel
theorem dX1_daysInForce_96 : decode cX1_daysInForce 96 = .ok (.iadd, 1) := by decide +kernel
theorem dX1_daysInForce_97 : decode cX1_daysInForce 97 = .ok (.invokevirtual 96, 3) := by decide +kernel
theorem dX1_daysInForce_100 : decode cX1_daysInForce 100 = .ok (.ldc2_w 100, 3) := by decide +kernel
theorem dX1_daysInForce_103 : decode cX1_daysInForce 103 = .ok (.lxor, 1) := by decide +kernel
theorem dX1_daysInForce_104 : decode cX1_daysInForce 104 = .ok (.land, 1) := by decide +kernel
theorem dX1_daysInForce_105 : decode cX1_daysInForce 105 = .ok (.lstore 4, 2) := by decide +kernel
theorem dX1_daysInForce_107 : decode cX1_daysInForce 107 = .ok (.iinc 6 1, 3) := by decide +kernel
theorem dX1_daysInForce_110 : decode cX1_daysInForce 110 = .ok (.goto (-76), 3) := by decide +kernel
theorem dX1_daysInForce_113 : decode cX1_daysInForce 113 = .ok (.lload 4, 2) := by decide +kernel
theorem dX1_daysInForce_115 : decode cX1_daysInForce 115 = .ok (.lreturn, 1) := by decide +kernel
theorem dX1_isInForce_0 : decode cX1_isInForce 0 = .ok (.aload_n 0, 1) := by decide +kernel
theorem dX1_isInForce_1 : decode cX1_isInForce 1 = .ok (.iload_n 1, 1) := by decide +kernel
theorem dX1_isInForce_2 : decode cX1_isInForce 2 = .ok (.iload_n 2, 1) := by decide +kernel
theorem dX1_isInForce_3 : decode cX1_isInForce 3 = .ok (.bipush 55, 2) := by decide +kernel
theorem dX1_isInForce_5 : decode cX1_isInForce 5 = .ok (.idiv, 1) := by decide +kernel
theorem dX1_isInForce_6 : decode cX1_isInForce 6 = .ok (.iconst 1, 1) := by decide +kernel
theorem dX1_isInForce_7 : decode cX1_isInForce 7 = .ok (.invokevirtual 96, 3) := by decide +kernel
theorem dX1_isInForce_10 : decode cX1_isInForce 10 = .ok (.iload_n 2, 1) := by decide +kernel
theorem dX1_isInForce_11 : decode cX1_isInForce 11 = .ok (.bipush 55, 2) := by decide +kernel
theorem dX1_isInForce_13 : decode cX1_isInForce 13 = .ok (.irem, 1) := by decide +kernel
theorem dX1_isInForce_14 : decode cX1_isInForce 14 = .ok (.lshr, 1) := by decide +kernel
theorem dX1_isInForce_15 : decode cX1_isInForce 15 = .ok (.lconst 1, 1) := by decide +kernel
theorem dX1_isInForce_16 : decode cX1_isInForce 16 = .ok (.land, 1) := by decide +kernel
theorem dX1_isInForce_17 : decode cX1_isInForce 17 = .ok (.lconst 0, 1) := by decide +kernel
theorem dX1_isInForce_18 : decode cX1_isInForce 18 = .ok (.lcmp, 1) := by decide +kernel
theorem dX1_isInForce_19 : decode cX1_isInForce 19 = .ok (.ifCond .eq 7, 3) := by decide +kernel
theorem dX1_isInForce_22 : decode cX1_isInForce 22 = .ok (.iconst 1, 1) := by decide +kernel
theorem dX1_isInForce_23 : decode cX1_isInForce 23 = .ok (.goto 4, 3) := by decide +kernel
theorem dX1_isInForce_26 : decode cX1_isInForce 26 = .ok (.iconst 0, 1) := by decide +kernel
theorem dX1_isInForce_27 : decode cX1_isInForce 27 = .ok (.ireturn, 1) := by decide +kernel
theorem dX1_allInForce_0 : decode cX1_allInForce 0 = .ok (.iconst 0, 1) := by decide +kernel
theorem dX1_allInForce_1 : decode cX1_allInForce 1 = .ok (.istore_n 2, 1) := by decide +kernel
theorem dX1_allInForce_2 : decode cX1_allInForce 2 = .ok (.iconst 0, 1) := by decide +kernel
theorem dX1_allInForce_3 : decode cX1_allInForce 3 = .ok (.istore_n 3, 1) := by decide +kernel
theorem dX1_allInForce_4 : decode cX1_allInForce 4 = .ok (.iload_n 3, 1) := by decide +kernel
theorem dX1_allInForce_5 : decode cX1_allInForce 5 = .ok (.aload_n 0, 1) := by decide +kernel
theorem dX1_allInForce_6 : decode cX1_allInForce 6 = .ok (.getfield 45, 3) := by decide +kernel
theorem dX1_allInForce_9 : decode cX1_allInForce 9 = .ok (.if_icmp .ge 24, 3) := by decide +kernel
theorem dX1_allInForce_12 : decode cX1_allInForce 12 = .ok (.aload_n 0, 1) := by decide +kernel
theorem dX1_allInForce_13 : decode cX1_allInForce 13 = .ok (.iload_n 3, 1) := by decide +kernel
theorem dX1_allInForce_14 : decode cX1_allInForce 14 = .ok (.iload_n 1, 1) := by decide +kernel
theorem dX1_allInForce_15 : decode cX1_allInForce 15 = .ok (.invokevirtual 79, 3) := by decide +kernel
theorem dX1_allInForce_18 : decode cX1_allInForce 18 = .ok (.ifCond .eq 9, 3) := by decide +kernel
theorem dX1_allInForce_21 : decode cX1_allInForce 21 = .ok (.iload_n 2, 1) := by decide +kernel
theorem dX1_allInForce_22 : decode cX1_allInForce 22 = .ok (.iconst 1, 1) := by decide +kernel
theorem dX1_allInForce_23 : decode cX1_allInForce 23 = .ok (.iload_n 3, 1) := by decide +kernel
theorem dX1_allInForce_24 : decode cX1_allInForce 24 = .ok (.ishl, 1) := by decide +kernel
theorem dX1_allInForce_25 : decode cX1_allInForce 25 = .ok (.ior, 1) := by decide +kernel
theorem dX1_allInForce_26 : decode cX1_allInForce 26 = .ok (.istore_n 2, 1) := by decide +kernel
theorem dX1_allInForce_27 : decode cX1_allInForce 27 = .ok (.iinc 3 1, 3) := by decide +kernel
theorem dX1_allInForce_30 : decode cX1_allInForce 30 = .ok (.goto (-26), 3) := by decide +kernel
theorem dX1_allInForce_33 : decode cX1_allInForce 33 = .ok (.iload_n 2, 1) := by decide +kernel
theorem dX1_allInForce_34 : decode cX1_allInForce 34 = .ok (.ireturn, 1) := by decide +kernel
theorem dX1_daysHeld_0 : decode cX1_daysHeld 0 = .ok (.aload_n 0, 1) := by decide +kernel
theorem dX1_daysHeld_1 : decode cX1_daysHeld 1 = .ok (.iload_n 1, 1) := by decide +kernel
theorem dX1_daysHeld_2 : decode cX1_daysHeld 2 = .ok (.iconst 0, 1) := by decide +kernel
theorem dX1_daysHeld_3 : decode cX1_daysHeld 3 = .ok (.iconst 1, 1) := by decide +kernel
theorem dX1_daysHeld_4 : decode cX1_daysHeld 4 = .ok (.invokevirtual 96, 3) := by decide +kernel
theorem dX1_daysHeld_7 : decode cX1_daysHeld 7 = .ok (.invokestatic 102, 3) := by decide +kernel
theorem dX1_daysHeld_10 : decode cX1_daysHeld 10 = .ok (.aload_n 0, 1) := by decide +kernel
theorem dX1_daysHeld_11 : decode cX1_daysHeld 11 = .ok (.iload_n 1, 1) := by decide +kernel
theorem dX1_daysHeld_12 : decode cX1_daysHeld 12 = .ok (.iconst 1, 1) := by decide +kernel
theorem dX1_daysHeld_13 : decode cX1_daysHeld 13 = .ok (.iconst 1, 1) := by decide +kernel
theorem dX1_daysHeld_14 : decode cX1_daysHeld 14 = .ok (.invokevirtual 96, 3) := by decide +kernel
theorem dX1_daysHeld_17 : decode cX1_daysHeld 17 = .ok (.invokestatic 102, 3) := by decide +kernel
theorem dX1_daysHeld_20 : decode cX1_daysHeld 20 = .ok (.iadd, 1) := by decide +kernel
theorem dX1_daysHeld_21 : decode cX1_daysHeld 21 = .ok (.ireturn, 1) := by decide +kernel
theorem dX1_daysHeldByOthers_0 : decode cX1_daysHeldByOthers 0 = .ok (.iconst 0, 1) := by decide +kernel
theorem dX1_daysHeldByOthers_1 : decode cX1_daysHeldByOthers 1 = .ok (.istore_n 2, 1) := by decide +kernel
theorem dX1_daysHeldByOthers_2 : decode cX1_daysHeldByOthers 2 = .ok (.iconst 0, 1) := by decide +kernel
theorem dX1_daysHeldByOthers_3 : decode cX1_daysHeldByOthers 3 = .ok (.istore_n 3, 1) := by decide +kernel
theorem dX1_daysHeldByOthers_4 : decode cX1_daysHeldByOthers 4 = .ok (.iload_n 3, 1) := by decide +kernel
theorem dX1_daysHeldByOthers_5 : decode cX1_daysHeldByOthers 5 = .ok (.aload_n 0, 1) := by decide +kernel
theorem dX1_daysHeldByOthers_6 : decode cX1_daysHeldByOthers 6 = .ok (.getfield 45, 3) := by decide +kernel
theorem dX1_daysHeldByOthers_9 : decode cX1_daysHeldByOthers 9 = .ok (.if_icmp .ge 26, 3) := by decide +kernel
theorem dX1_daysHeldByOthers_12 : decode cX1_daysHeldByOthers 12 = .ok (.iload_n 2, 1) := by decide +kernel
theorem dX1_daysHeldByOthers_13 : decode cX1_daysHeldByOthers 13 = .ok (.iload_n 3, 1) := by decide +kernel
theorem dX1_daysHeldByOthers_14 : decode cX1_daysHeldByOthers 14 = .ok (.iload_n 1, 1) := by decide +kernel
theorem dX1_daysHeldByOthers_15 : decode cX1_daysHeldByOthers 15 = .ok (.if_icmp .ne 7, 3) := by decide +kernel
theorem dX1_daysHeldByOthers_18 : decode cX1_daysHeldByOthers 18 = .ok (.iconst 0, 1) := by decide +kernel
theorem dX1_daysHeldByOthers_19 : decode cX1_daysHeldByOthers 19 = .ok (.goto 8, 3) := by decide +kernel
theorem dX1_daysHeldByOthers_22 : decode cX1_daysHeldByOthers 22 = .ok (.aload_n 0, 1) := by decide +kernel
theorem dX1_daysHeldByOthers_23 : decode cX1_daysHeldByOthers 23 = .ok (.iload_n 3, 1) := by decide +kernel
theorem dX1_daysHeldByOthers_24 : decode cX1_daysHeldByOthers 24 = .ok (.invokevirtual 108, 3) := by decide +kernel
theorem dX1_daysHeldByOthers_27 : decode cX1_daysHeldByOthers 27 = .ok (.iadd, 1) := by decide +kernel
theorem dX1_daysHeldByOthers_28 : decode cX1_daysHeldByOthers 28 = .ok (.istore_n 2, 1) := by decide +kernel
theorem dX1_daysHeldByOthers_29 : decode cX1_daysHeldByOthers 29 = .ok (.iinc 3 1, 3) := by decide +kernel
theorem dX1_daysHeldByOthers_32 : decode cX1_daysHeldByOthers 32 = .ok (.goto (-28), 3) := by decide +kernel
theorem dX1_daysHeldByOthers_35 : decode cX1_daysHeldByOthers 35 = .ok (.iload_n 2, 1) := by decide +kernel
theorem dX1_daysHeldByOthers_36 : decode cX1_daysHeldByOthers 36 = .ok (.ireturn, 1) := by decide +kernel
theorem dX2_init_0 : decode cX2_init 0 = .ok (.aload_n 0, 1) := by decide +kernel
theorem dX2_init_1 : decode cX2_init 1 = .ok (.invokespecial 3, 3) := by decide +kernel
theorem dX2_init_4 : decode cX2_init 4 = .ok (.aload_n 0, 1) := by decide +kernel
theorem dX2_init_5 : decode cX2_init 5 = .ok (.bipush 8, 2) := by decide +kernel
theorem dX2_init_7 : decode cX2_init 7 = .ok (.newarray .int, 2) := by decide +kernel
theorem dX2_init_9 : decode cX2_init 9 = .ok (.putfield 9, 3) := by decide +kernel
theorem dX2_init_12 : decode cX2_init 12 = .ok (.aload_n 0, 1) := by decide +kernel
theorem dX2_init_13 : decode cX2_init 13 = .ok (.bipush 8, 2) := by decide +kernel
theorem dX2_init_15 : decode cX2_init 15 = .ok (.newarray .int, 2) := by decide +kernel
theorem dX2_init_17 : decode cX2_init 17 = .ok (.putfield 15, 3) := by decide +kernel
theorem dX2_init_20 : decode cX2_init 20 = .ok (.aload_n 0, 1) := by decide +kernel
theorem dX2_init_21 : decode cX2_init 21 = .ok (.bipush 8, 2) := by decide +kernel
theorem dX2_init_23 : decode cX2_init 23 = .ok (.newarray .boolean, 2) := by decide +kernel
theorem dX2_init_25 : decode cX2_init 25 = .ok (.putfield 18, 3) := by decide +kernel
theorem dX2_init_28 : decode cX2_init 28 = .ok (.return_, 1) := by decide +kernel
theorem dX2_append_0 : decode cX2_append 0 = .ok (.aload_n 0, 1) := by decide +kernel
theorem dX2_append_1 : decode cX2_append 1 = .ok (.getfield 22, 3) := by decide +kernel
theorem dX2_append_4 : decode cX2_append 4 = .ok (.istore 4, 2) := by decide +kernel
theorem dX2_append_6 : decode cX2_append 6 = .ok (.aload_n 0, 1) := by decide +kernel
theorem dX2_append_7 : decode cX2_append 7 = .ok (.getfield 9, 3) := by decide +kernel
theorem dX2_append_10 : decode cX2_append 10 = .ok (.iload 4, 2) := by decide +kernel
theorem dX2_append_12 : decode cX2_append 12 = .ok (.iload_n 1, 1) := by decide +kernel
theorem dX2_append_13 : decode cX2_append 13 = .ok (.iastore, 1) := by decide +kernel
theorem dX2_append_14 : decode cX2_append 14 = .ok (.aload_n 0, 1) := by decide +kernel
theorem dX2_append_15 : decode cX2_append 15 = .ok (.getfield 15, 3) := by decide +kernel
theorem dX2_append_18 : decode cX2_append 18 = .ok (.iload 4, 2) := by decide +kernel
theorem dX2_append_20 : decode cX2_append 20 = .ok (.iload_n 2, 1) := by decide +kernel
theorem dX2_append_21 : decode cX2_append 21 = .ok (.iastore, 1) := by decide +kernel
theorem dX2_append_22 : decode cX2_append 22 = .ok (.aload_n 0, 1) := by decide +kernel
theorem dX2_append_23 : decode cX2_append 23 = .ok (.getfield 18, 3) := by decide +kernel
theorem dX2_append_26 : decode cX2_append 26 = .ok (.iload 4, 2) := by decide +kernel
theorem dX2_append_28 : decode cX2_append 28 = .ok (.iload_n 3, 1) := by decide +kernel
theorem dX2_append_29 : decode cX2_append 29 = .ok (.bastore, 1) := by decide +kernel
theorem dX2_append_30 : decode cX2_append 30 = .ok (.aload_n 0, 1) := by decide +kernel
theorem dX2_append_31 : decode cX2_append 31 = .ok (.dup, 1) := by decide +kernel
theorem dX2_append_32 : decode cX2_append 32 = .ok (.getfield 22, 3) := by decide +kernel
theorem dX2_append_35 : decode cX2_append 35 = .ok (.iconst 1, 1) := by decide +kernel
theorem dX2_append_36 : decode cX2_append 36 = .ok (.iadd, 1) := by decide +kernel
theorem dX2_append_37 : decode cX2_append 37 = .ok (.putfield 22, 3) := by decide +kernel
theorem dX2_append_40 : decode cX2_append 40 = .ok (.iload 4, 2) := by decide +kernel
theorem dX2_append_42 : decode cX2_append 42 = .ok (.ireturn, 1) := by decide +kernel
theorem dX2_areSo_0 : decode cX2_areSo 0 = .ok (.iconst 0, 1) := by decide +kernel
theorem dX2_areSo_1 : decode cX2_areSo 1 = .ok (.istore_n 2, 1) := by decide +kernel
theorem dX2_areSo_2 : decode cX2_areSo 2 = .ok (.iload_n 2, 1) := by decide +kernel
theorem dX2_areSo_3 : decode cX2_areSo 3 = .ok (.aload_n 0, 1) := by decide +kernel
theorem dX2_areSo_4 : decode cX2_areSo 4 = .ok (.getfield 22, 3) := by decide +kernel
theorem dX2_areSo_7 : decode cX2_areSo 7 = .ok (.if_icmp .ge 36, 3) := by decide +kernel
theorem dX2_areSo_10 : decode cX2_areSo 10 = .ok (.aload_n 1, 1) := by decide +kernel
theorem dX2_areSo_11 : decode cX2_areSo 11 = .ok (.aload_n 0, 1) := by decide +kernel
theorem dX2_areSo_12 : decode cX2_areSo 12 = .ok (.getfield 9, 3) := by decide +kernel
theorem dX2_areSo_15 : decode cX2_areSo 15 = .ok (.iload_n 2, 1) := by decide +kernel
theorem dX2_areSo_16 : decode cX2_areSo 16 = .ok (.iaload, 1) := by decide +kernel
theorem dX2_areSo_17 : decode cX2_areSo 17 = .ok (.aload_n 0, 1) := by decide +kernel
theorem dX2_areSo_18 : decode cX2_areSo 18 = .ok (.getfield 15, 3) := by decide +kernel
theorem dX2_areSo_21 : decode cX2_areSo 21 = .ok (.iload_n 2, 1) := by decide +kernel
theorem dX2_areSo_22 : decode cX2_areSo 22 = .ok (.iaload, 1) := by decide +kernel
theorem dX2_areSo_23 : decode cX2_areSo 23 = .ok (.invokevirtual 26, 3) := by decide +kernel
theorem dX2_areSo_26 : decode cX2_areSo 26 = .ok (.aload_n 0, 1) := by decide +kernel
theorem dX2_areSo_27 : decode cX2_areSo 27 = .ok (.getfield 18, 3) := by decide +kernel
theorem dX2_areSo_30 : decode cX2_areSo 30 = .ok (.iload_n 2, 1) := by decide +kernel
theorem dX2_areSo_31 : decode cX2_areSo 31 = .ok (.baload, 1) := by decide +kernel
theorem dX2_areSo_32 : decode cX2_areSo 32 = .ok (.if_icmp .eq 5, 3) := by decide +kernel
theorem dX2_areSo_35 : decode cX2_areSo 35 = .ok (.iconst 0, 1) := by decide +kernel
theorem dX2_areSo_36 : decode cX2_areSo 36 = .ok (.ireturn, 1) := by decide +kernel
theorem dX2_areSo_37 : decode cX2_areSo 37 = .ok (.iinc 2 1, 3) := by decide +kernel
theorem dX2_areSo_40 : decode cX2_areSo 40 = .ok (.goto (-38), 3) := by decide +kernel
theorem dX2_areSo_43 : decode cX2_areSo 43 = .ok (.iconst 1, 1) := by decide +kernel
theorem dX2_areSo_44 : decode cX2_areSo 44 = .ok (.ireturn, 1) := by decide +kernel
theorem dX3_init_0 : decode cX3_init 0 = .ok (.aload_n 0, 1) := by decide +kernel
theorem dX3_init_1 : decode cX3_init 1 = .ok (.invokespecial 3, 3) := by decide +kernel
theorem dX3_init_4 : decode cX3_init 4 = .ok (.aload_n 0, 1) := by decide +kernel
theorem dX3_init_5 : decode cX3_init 5 = .ok (.bipush 60, 2) := by decide +kernel
theorem dX3_init_7 : decode cX3_init 7 = .ok (.newarray .int, 2) := by decide +kernel
theorem dX3_init_9 : decode cX3_init 9 = .ok (.putfield 9, 3) := by decide +kernel
theorem dX3_init_12 : decode cX3_init 12 = .ok (.aload_n 0, 1) := by decide +kernel
theorem dX3_init_13 : decode cX3_init 13 = .ok (.iconst (-1), 1) := by decide +kernel
theorem dX3_init_14 : decode cX3_init 14 = .ok (.putfield 15, 3) := by decide +kernel
theorem dX3_init_17 : decode cX3_init 17 = .ok (.return_, 1) := by decide +kernel
theorem dX3_begin_0 : decode cX3_begin 0 = .ok (.aload_n 0, 1) := by decide +kernel
theorem dX3_begin_1 : decode cX3_begin 1 = .ok (.iload_n 1, 1) := by decide +kernel
theorem dX3_begin_2 : decode cX3_begin 2 = .ok (.putfield 15, 3) := by decide +kernel
theorem dX3_begin_5 : decode cX3_begin 5 = .ok (.aload_n 0, 1) := by decide +kernel
theorem dX3_begin_6 : decode cX3_begin 6 = .ok (.iload_n 2, 1) := by decide +kernel
theorem dX3_begin_7 : decode cX3_begin 7 = .ok (.putfield 19, 3) := by decide +kernel
theorem dX3_begin_10 : decode cX3_begin 10 = .ok (.iconst 0, 1) := by decide +kernel
theorem dX3_begin_11 : decode cX3_begin 11 = .ok (.istore_n 3, 1) := by decide +kernel
theorem dX3_begin_12 : decode cX3_begin 12 = .ok (.iload_n 3, 1) := by decide +kernel
theorem dX3_begin_13 : decode cX3_begin 13 = .ok (.bipush 60, 2) := by decide +kernel
theorem dX3_begin_15 : decode cX3_begin 15 = .ok (.if_icmp .ge 16, 3) := by decide +kernel
theorem dX3_begin_18 : decode cX3_begin 18 = .ok (.aload_n 0, 1) := by decide +kernel
theorem dX3_begin_19 : decode cX3_begin 19 = .ok (.getfield 9, 3) := by decide +kernel
theorem dX3_begin_22 : decode cX3_begin 22 = .ok (.iload_n 3, 1) := by decide +kernel
theorem dX3_begin_23 : decode cX3_begin 23 = .ok (.iconst 0, 1) := by decide +kernel
theorem dX3_begin_24 : decode cX3_begin 24 = .ok (.iastore, 1) := by decide +kernel
theorem dX3_begin_25 : decode cX3_begin 25 = .ok (.iinc 3 1, 3) := by decide +kernel
theorem dX3_begin_28 : decode cX3_begin 28 = .ok (.goto (-16), 3) := by decide +kernel
theorem dX3_begin_31 : decode cX3_begin 31 = .ok (.return_, 1) := by decide +kernel
theorem dX3_drop_0 : decode cX3_drop 0 = .ok (.aload_n 0, 1) := by decide +kernel
theorem dX3_drop_1 : decode cX3_drop 1 = .ok (.iconst (-1), 1) := by decide +kernel
theorem dX3_drop_2 : decode cX3_drop 2 = .ok (.putfield 15, 3) := by decide +kernel
theorem dX3_drop_5 : decode cX3_drop 5 = .ok (.aload_n 0, 1) := by decide +kernel
theorem dX3_drop_6 : decode cX3_drop 6 = .ok (.iconst 0, 1) := by decide +kernel
theorem dX3_drop_7 : decode cX3_drop 7 = .ok (.putfield 19, 3) := by decide +kernel
theorem dX3_drop_10 : decode cX3_drop 10 = .ok (.return_, 1) := by decide +kernel
theorem dX3_isNothing_0 : decode cX3_isNothing 0 = .ok (.aload_n 0, 1) := by decide +kernel
theorem dX3_isNothing_1 : decode cX3_isNothing 1 = .ok (.getfield 15, 3) := by decide +kernel
theorem dX3_isNothing_4 : decode cX3_isNothing 4 = .ok (.iconst (-1), 1) := by decide +kernel
theorem dX3_isNothing_5 : decode cX3_isNothing 5 = .ok (.if_icmp .ne 7, 3) := by decide +kernel
theorem dX3_isNothing_8 : decode cX3_isNothing 8 = .ok (.iconst 1, 1) := by decide +kernel
theorem dX3_isNothing_9 : decode cX3_isNothing 9 = .ok (.goto 4, 3) := by decide +kernel
theorem dX3_isNothing_12 : decode cX3_isNothing 12 = .ok (.iconst 0, 1) := by decide +kernel
theorem dX3_isNothing_13 : decode cX3_isNothing 13 = .ok (.ireturn, 1) := by decide +kernel
theorem dX3_has_0 : decode cX3_has 0 = .ok (.iload_n 1, 1) := by decide +kernel
theorem dX3_has_1 : decode cX3_has 1 = .ok (.ifCond .lt 15, 3) := by decide +kernel
theorem dX3_has_4 : decode cX3_has 4 = .ok (.iload_n 1, 1) := by decide +kernel
theorem dX3_has_5 : decode cX3_has 5 = .ok (.aload_n 0, 1) := by decide +kernel
theorem dX3_has_6 : decode cX3_has 6 = .ok (.getfield 19, 3) := by decide +kernel
theorem dX3_has_9 : decode cX3_has 9 = .ok (.if_icmp .ge 7, 3) := by decide +kernel
theorem dX3_has_12 : decode cX3_has 12 = .ok (.iconst 1, 1) := by decide +kernel
theorem dX3_has_13 : decode cX3_has 13 = .ok (.goto 4, 3) := by decide +kernel
theorem dX3_has_16 : decode cX3_has 16 = .ok (.iconst 0, 1) := by decide +kernel
theorem dX3_has_17 : decode cX3_has 17 = .ok (.ireturn, 1) := by decide +kernel
theorem dX3_hasAll_0 : decode cX3_hasAll 0 = .ok (.iload_n 1, 1) := by decide +kernel
theorem dX3_hasAll_1 : decode cX3_hasAll 1 = .ok (.aload_n 0, 1) := by decide +kernel
theorem dX3_hasAll_2 : decode cX3_hasAll 2 = .ok (.getfield 19, 3) := by decide +kernel
theorem dX3_hasAll_5 : decode cX3_hasAll 5 = .ok (.invokestatic 22, 3) := by decide +kernel
theorem dX3_hasAll_8 : decode cX3_hasAll 8 = .ok (.ifCond .eq 17, 3) := by decide +kernel
theorem dX3_hasAll_11 : decode cX3_hasAll 11 = .ok (.iload_n 2, 1) := by decide +kernel
theorem dX3_hasAll_12 : decode cX3_hasAll 12 = .ok (.aload_n 0, 1) := by decide +kernel
theorem dX3_hasAll_13 : decode cX3_hasAll 13 = .ok (.getfield 19, 3) := by decide +kernel
theorem dX3_hasAll_16 : decode cX3_hasAll 16 = .ok (.iload_n 1, 1) := by decide +kernel
theorem dX3_hasAll_17 : decode cX3_hasAll 17 = .ok (.isub, 1) := by decide +kernel
theorem dX3_hasAll_18 : decode cX3_hasAll 18 = .ok (.if_icmp .gt 7, 3) := by decide +kernel
theorem dX3_hasAll_21 : decode cX3_hasAll 21 = .ok (.iconst 1, 1) := by decide +kernel
theorem dX3_hasAll_22 : decode cX3_hasAll 22 = .ok (.goto 4, 3) := by decide +kernel
theorem dX3_hasAll_25 : decode cX3_hasAll 25 = .ok (.iconst 0, 1) := by decide +kernel
theorem dX3_hasAll_26 : decode cX3_hasAll 26 = .ok (.ireturn, 1) := by decide +kernel
theorem dX3_cut_0 : decode cX3_cut 0 = .ok (.aload_n 0, 1) := by decide +kernel
theorem dX3_cut_1 : decode cX3_cut 1 = .ok (.getfield 15, 3) := by decide +kernel
theorem dX3_cut_4 : decode cX3_cut 4 = .ok (.ifCond .ne 6, 3) := by decide +kernel
theorem dX3_cut_7 : decode cX3_cut 7 = .ok (.iload_n 1, 1) := by decide +kernel
theorem dX3_cut_8 : decode cX3_cut 8 = .ok (.i2b, 1) := by decide +kernel
theorem dX3_cut_9 : decode cX3_cut 9 = .ok (.ireturn, 1) := by decide +kernel
theorem dX3_cut_10 : decode cX3_cut 10 = .ok (.aload_n 0, 1) := by decide +kernel
theorem dX3_cut_11 : decode cX3_cut 11 = .ok (.getfield 15, 3) := by decide +kernel
theorem dX3_cut_14 : decode cX3_cut 14 = .ok (.iconst 1, 1) := by decide +kernel
theorem dX3_cut_15 : decode cX3_cut 15 = .ok (.if_icmp .ne 8, 3) := by decide +kernel
theorem dX3_cut_18 : decode cX3_cut 18 = .ok (.iload_n 1, 1) := by decide +kernel
theorem dX3_cut_19 : decode cX3_cut 19 = .ok (.i2s, 1) := by decide +kernel
theorem dX3_cut_20 : decode cX3_cut 20 = .ok (.goto 4, 3) := by decide +kernel
theorem dX3_cut_23 : decode cX3_cut 23 = .ok (.iload_n 1, 1) := by decide +kernel
theorem dX3_cut_24 : decode cX3_cut 24 = .ok (.ireturn, 1) := by decide +kernel
theorem dX3_faultOfLane_0 : decode cX3_faultOfLane 0 = .ok (.aload_n 0, 1) := by decide +kernel
theorem dX3_faultOfLane_1 : decode cX3_faultOfLane 1 = .ok (.invokevirtual 26, 3) := by decide +kernel
theorem dX3_faultOfLane_4 : decode cX3_faultOfLane 4 = .ok (.ifCond .eq 5, 3) := by decide +kernel
theorem dX3_faultOfLane_7 : decode cX3_faultOfLane 7 = .ok (.iconst 1, 1) := by decide +kernel
theorem dX3_faultOfLane_8 : decode cX3_faultOfLane 8 = .ok (.ireturn, 1) := by decide +kernel
theorem dX3_faultOfLane_9 : decode cX3_faultOfLane 9 = .ok (.aload_n 0, 1) := by decide +kernel
theorem dX3_faultOfLane_10 : decode cX3_faultOfLane 10 = .ok (.getfield 15, 3) := by decide +kernel
theorem dX3_faultOfLane_13 : decode cX3_faultOfLane 13 = .ok (.iload_n 1, 1) := by decide +kernel
theorem dX3_faultOfLane_14 : decode cX3_faultOfLane 14 = .ok (.if_icmp .ne 7, 3) := by decide +kernel
theorem dX3_faultOfLane_17 : decode cX3_faultOfLane 17 = .ok (.iconst 0, 1) := by decide +kernel
theorem dX3_faultOfLane_18 : decode cX3_faultOfLane 18 = .ok (.goto 4, 3) := by decide +kernel
theorem dX3_faultOfLane_21 : decode cX3_faultOfLane 21 = .ok (.iconst 2, 1) := by decide +kernel
theorem dX3_faultOfLane_22 : decode cX3_faultOfLane 22 = .ok (.ireturn, 1) := by decide +kernel
theorem dX3_faultOfCells_0 : decode cX3_faultOfCells 0 = .ok (.aload_n 0, 1) := by decide +kernel
theorem dX3_faultOfCells_1 : decode cX3_faultOfCells 1 = .ok (.iload_n 1, 1) := by decide +kernel
theorem dX3_faultOfCells_2 : decode cX3_faultOfCells 2 = .ok (.invokevirtual 30, 3) := by decide +kernel
theorem dX3_faultOfCells_5 : decode cX3_faultOfCells 5 = .ok (.istore 4, 2) := by decide +kernel
theorem dX3_faultOfCells_7 : decode cX3_faultOfCells 7 = .ok (.iload 4, 2) := by decide +kernel
theorem dX3_faultOfCells_9 : decode cX3_faultOfCells 9 = .ok (.ifCond .eq 6, 3) := by decide +kernel
theorem dX3_faultOfCells_12 : decode cX3_faultOfCells 12 = .ok (.iload 4, 2) := by decide +kernel
theorem dX3_faultOfCells_14 : decode cX3_faultOfCells 14 = .ok (.ireturn, 1) := by decide +kernel
theorem dX3_faultOfCells_15 : decode cX3_faultOfCells 15 = .ok (.iload_n 3, 1) := by decide +kernel
theorem dX3_faultOfCells_16 : decode cX3_faultOfCells 16 = .ok (.ifCond .ge 5, 3) := by decide +kernel
theorem dX3_faultOfCells_19 : decode cX3_faultOfCells 19 = .ok (.iconst 4, 1) := by decide +kernel
theorem dX3_faultOfCells_20 : decode cX3_faultOfCells 20 = .ok (.ireturn, 1) := by decide +kernel
theorem dX3_faultOfCells_21 : decode cX3_faultOfCells 21 = .ok (.aload_n 0, 1) := by decide +kernel
theorem dX3_faultOfCells_22 : decode cX3_faultOfCells 22 = .ok (.iload_n 2, 1) := by decide +kernel
theorem dX3_faultOfCells_23 : decode cX3_faultOfCells 23 = .ok (.iload_n 3, 1) := by decide +kernel
theorem dX3_faultOfCells_24 : decode cX3_faultOfCells 24 = .ok (.invokevirtual 34, 3) := by decide +kernel
theorem dX3_faultOfCells_27 : decode cX3_faultOfCells 27 = .ok (.ifCond .eq 7, 3) := by decide +kernel
theorem dX3_faultOfCells_30 : decode cX3_faultOfCells 30 = .ok (.iconst 0, 1) := by decide +kernel
theorem dX3_faultOfCells_31 : decode cX3_faultOfCells 31 = .ok (.goto 4, 3) := by decide +kernel
theorem dX3_faultOfCells_34 : decode cX3_faultOfCells 34 = .ok (.iconst 3, 1) := by decide +kernel
theorem dX3_faultOfCells_35 : decode cX3_faultOfCells 35 = .ok (.ireturn, 1) := by decide +kernel
theorem dX4_init_0 : decode cX4_init 0 = .ok (.aload_n 0, 1) := by decide +kernel
theorem dX4_init_1 : decode cX4_init 1 = .ok (.invokespecial 3, 3) := by decide +kernel
theorem dX4_init_4 : decode cX4_init 4 = .ok (.aload_n 0, 1) := by decide +kernel
theorem dX4_init_5 : decode cX4_init 5 = .ok (.bipush 110, 2) := by decide +kernel
theorem dX4_init_7 : decode cX4_init 7 = .ok (.newarray .boolean, 2) := by decide +kernel
theorem dX4_init_9 : decode cX4_init 9 = .ok (.putfield 9, 3) := by decide +kernel
theorem dX4_init_12 : decode cX4_init 12 = .ok (.return_, 1) := by decide +kernel
theorem dX4_read_0 : decode cX4_read 0 = .ok (.aload_n 0, 1) := by decide +kernel
theorem dX4_read_1 : decode cX4_read 1 = .ok (.aload_n 1, 1) := by decide +kernel
theorem dX4_read_2 : decode cX4_read 2 = .ok (.iload_n 2, 1) := by decide +kernel
theorem dX4_read_3 : decode cX4_read 3 = .ok (.iconst 1, 1) := by decide +kernel
theorem dX4_read_4 : decode cX4_read 4 = .ok (.iadd, 1) := by decide +kernel
theorem dX4_read_5 : decode cX4_read 5 = .ok (.invokestatic 15, 3) := by decide +kernel
end
section
theorem dX4_read_8 : decode cX4_read 8 = .ok (.putfield 21, 3) := by decide +kernel
theorem dX4_read_11 : decode cX4_read 11 = .ok (.aload_n 0, 1) := by decide +kernel
theorem dX4_read_12 : decode cX4_read 12 = .ok (.aload_n 1, 1) := by decide +kernel
theorem dX4_read_13 : decode cX4_read 13 = .ok (.iload_n 2, 1) := by decide +kernel
theorem dX4_read_14 : decode cX4_read 14 = .ok (.iconst 3, 1) := by decide +kernel
theorem dX4_read_15 : decode cX4_read 15 = .ok (.iadd, 1) := by decide +kernel
theorem dX4_read_16 : decode cX4_read 16 = .ok (.invokestatic 15, 3) := by decide +kernel
theorem dX4_read_19 : decode cX4_read 19 = .ok (.putfield 25, 3) := by decide +kernel
theorem dX4_read_22 : decode cX4_read 22 = .ok (.aload_n 0, 1) := by decide +kernel
theorem dX4_read_23 : decode cX4_read 23 = .ok (.aload_n 1, 1) := by decide +kernel
theorem dX4_read_24 : decode cX4_read 24 = .ok (.iload_n 2, 1) := by decide +kernel
theorem dX4_read_25 : decode cX4_read 25 = .ok (.iconst 5, 1) := by decide +kernel
theorem dX4_read_26 : decode cX4_read 26 = .ok (.iadd, 1) := by decide +kernel
theorem dX4_read_27 : decode cX4_read 27 = .ok (.invokestatic 28, 3) := by decide +kernel
theorem dX4_read_30 : decode cX4_read 30 = .ok (.putfield 31, 3) := by decide +kernel
theorem dX4_read_33 : decode cX4_read 33 = .ok (.aload_n 0, 1) := by decide +kernel
theorem dX4_read_34 : decode cX4_read 34 = .ok (.iconst 0, 1) := by decide +kernel
theorem dX4_read_35 : decode cX4_read 35 = .ok (.putfield 34, 3) := by decide +kernel
theorem dX4_read_38 : decode cX4_read 38 = .ok (.iconst 0, 1) := by decide +kernel
theorem dX4_read_39 : decode cX4_read 39 = .ok (.istore_n 3, 1) := by decide +kernel
theorem dX4_read_40 : decode cX4_read 40 = .ok (.iload_n 3, 1) := by decide +kernel
theorem dX4_read_41 : decode cX4_read 41 = .ok (.bipush 109, 2) := by decide +kernel
theorem dX4_read_43 : decode cX4_read 43 = .ok (.if_icmp .gt 16, 3) := by decide +kernel
theorem dX4_read_46 : decode cX4_read 46 = .ok (.aload_n 0, 1) := by decide +kernel
theorem dX4_read_47 : decode cX4_read 47 = .ok (.getfield 9, 3) := by decide +kernel
theorem dX4_read_50 : decode cX4_read 50 = .ok (.iload_n 3, 1) := by decide +kernel
theorem dX4_read_51 : decode cX4_read 51 = .ok (.iconst 0, 1) := by decide +kernel
theorem dX4_read_52 : decode cX4_read 52 = .ok (.bastore, 1) := by decide +kernel
theorem dX4_read_53 : decode cX4_read 53 = .ok (.iinc 3 1, 3) := by decide +kernel
theorem dX4_read_56 : decode cX4_read 56 = .ok (.goto (-16), 3) := by decide +kernel
theorem dX4_read_59 : decode cX4_read 59 = .ok (.return_, 1) := by decide +kernel
theorem dX4_cover_0 : decode cX4_cover 0 = .ok (.aload_n 0, 1) := by decide +kernel
theorem dX4_cover_1 : decode cX4_cover 1 = .ok (.getfield 9, 3) := by decide +kernel
theorem dX4_cover_4 : decode cX4_cover 4 = .ok (.iload_n 1, 1) := by decide +kernel
theorem dX4_cover_5 : decode cX4_cover 5 = .ok (.baload, 1) := by decide +kernel
theorem dX4_cover_6 : decode cX4_cover 6 = .ok (.iload_n 2, 1) := by decide +kernel
theorem dX4_cover_7 : decode cX4_cover 7 = .ok (.if_icmp .ne 5, 3) := by decide +kernel
theorem dX4_cover_10 : decode cX4_cover 10 = .ok (.iconst 0, 1) := by decide +kernel
theorem dX4_cover_11 : decode cX4_cover 11 = .ok (.ireturn, 1) := by decide +kernel
theorem dX4_cover_12 : decode cX4_cover 12 = .ok (.aload_n 0, 1) := by decide +kernel
theorem dX4_cover_13 : decode cX4_cover 13 = .ok (.getfield 9, 3) := by decide +kernel
theorem dX4_cover_16 : decode cX4_cover 16 = .ok (.iload_n 1, 1) := by decide +kernel
theorem dX4_cover_17 : decode cX4_cover 17 = .ok (.iload_n 2, 1) := by decide +kernel
theorem dX4_cover_18 : decode cX4_cover 18 = .ok (.bastore, 1) := by decide +kernel
theorem dX4_cover_19 : decode cX4_cover 19 = .ok (.aload_n 0, 1) := by decide +kernel
theorem dX4_cover_20 : decode cX4_cover 20 = .ok (.dup, 1) := by decide +kernel
theorem dX4_cover_21 : decode cX4_cover 21 = .ok (.getfield 34, 3) := by decide +kernel
theorem dX4_cover_24 : decode cX4_cover 24 = .ok (.iload_n 2, 1) := by decide +kernel
theorem dX4_cover_25 : decode cX4_cover 25 = .ok (.ifCond .eq 7, 3) := by decide +kernel
theorem dX4_cover_28 : decode cX4_cover 28 = .ok (.iconst 1, 1) := by decide +kernel
theorem dX4_cover_29 : decode cX4_cover 29 = .ok (.goto 4, 3) := by decide +kernel
theorem dX4_cover_32 : decode cX4_cover 32 = .ok (.iconst (-1), 1) := by decide +kernel
theorem dX4_cover_33 : decode cX4_cover 33 = .ok (.iadd, 1) := by decide +kernel
theorem dX4_cover_34 : decode cX4_cover 34 = .ok (.putfield 34, 3) := by decide +kernel
theorem dX4_cover_37 : decode cX4_cover 37 = .ok (.iconst 1, 1) := by decide +kernel
theorem dX4_cover_38 : decode cX4_cover 38 = .ok (.ireturn, 1) := by decide +kernel
theorem dX4_dayOfMoon_0 : decode cX4_dayOfMoon 0 = .ok (.iload_n 1, 1) := by decide +kernel
theorem dX4_dayOfMoon_1 : decode cX4_dayOfMoon 1 = .ok (.aload_n 0, 1) := by decide +kernel
theorem dX4_dayOfMoon_2 : decode cX4_dayOfMoon 2 = .ok (.getfield 25, 3) := by decide +kernel
theorem dX4_dayOfMoon_5 : decode cX4_dayOfMoon 5 = .ok (.imul, 1) := by decide +kernel
theorem dX4_dayOfMoon_6 : decode cX4_dayOfMoon 6 = .ok (.istore_n 2, 1) := by decide +kernel
theorem dX4_dayOfMoon_7 : decode cX4_dayOfMoon 7 = .ok (.aload_n 0, 1) := by decide +kernel
theorem dX4_dayOfMoon_8 : decode cX4_dayOfMoon 8 = .ok (.getfield 21, 3) := by decide +kernel
theorem dX4_dayOfMoon_11 : decode cX4_dayOfMoon 11 = .ok (.aload_n 0, 1) := by decide +kernel
theorem dX4_dayOfMoon_12 : decode cX4_dayOfMoon 12 = .ok (.getfield 31, 3) := by decide +kernel
theorem dX4_dayOfMoon_15 : decode cX4_dayOfMoon 15 = .ok (.iconst 2, 1) := by decide +kernel
theorem dX4_dayOfMoon_16 : decode cX4_dayOfMoon 16 = .ok (.if_icmp .ne 9, 3) := by decide +kernel
theorem dX4_dayOfMoon_19 : decode cX4_dayOfMoon 19 = .ok (.iload_n 2, 1) := by decide +kernel
theorem dX4_dayOfMoon_20 : decode cX4_dayOfMoon 20 = .ok (.iconst 2, 1) := by decide +kernel
theorem dX4_dayOfMoon_21 : decode cX4_dayOfMoon 21 = .ok (.idiv, 1) := by decide +kernel
theorem dX4_dayOfMoon_22 : decode cX4_dayOfMoon 22 = .ok (.goto 4, 3) := by decide +kernel
theorem dX4_dayOfMoon_25 : decode cX4_dayOfMoon 25 = .ok (.iload_n 2, 1) := by decide +kernel
theorem dX4_dayOfMoon_26 : decode cX4_dayOfMoon 26 = .ok (.iadd, 1) := by decide +kernel
theorem dX4_dayOfMoon_27 : decode cX4_dayOfMoon 27 = .ok (.ireturn, 1) := by decide +kernel
theorem dX4_moonsWithin_0 : decode cX4_moonsWithin 0 = .ok (.iconst 0, 1) := by decide +kernel
theorem dX4_moonsWithin_1 : decode cX4_moonsWithin 1 = .ok (.istore_n 3, 1) := by decide +kernel
theorem dX4_moonsWithin_2 : decode cX4_moonsWithin 2 = .ok (.iconst 0, 1) := by decide +kernel
theorem dX4_moonsWithin_3 : decode cX4_moonsWithin 3 = .ok (.istore 4, 2) := by decide +kernel
theorem dX4_moonsWithin_5 : decode cX4_moonsWithin 5 = .ok (.iload 4, 2) := by decide +kernel
theorem dX4_moonsWithin_7 : decode cX4_moonsWithin 7 = .ok (.bipush 11, 2) := by decide +kernel
theorem dX4_moonsWithin_9 : decode cX4_moonsWithin 9 = .ok (.if_icmp .ge 39, 3) := by decide +kernel
theorem dX4_moonsWithin_12 : decode cX4_moonsWithin 12 = .ok (.aload_n 0, 1) := by decide +kernel
theorem dX4_moonsWithin_13 : decode cX4_moonsWithin 13 = .ok (.iload 4, 2) := by decide +kernel
theorem dX4_moonsWithin_15 : decode cX4_moonsWithin 15 = .ok (.invokevirtual 37, 3) := by decide +kernel
theorem dX4_moonsWithin_18 : decode cX4_moonsWithin 18 = .ok (.istore 5, 2) := by decide +kernel
theorem dX4_moonsWithin_20 : decode cX4_moonsWithin 20 = .ok (.iload 5, 2) := by decide +kernel
theorem dX4_moonsWithin_22 : decode cX4_moonsWithin 22 = .ok (.iload_n 2, 1) := by decide +kernel
theorem dX4_moonsWithin_23 : decode cX4_moonsWithin 23 = .ok (.if_icmp .le 6, 3) := by decide +kernel
theorem dX4_moonsWithin_26 : decode cX4_moonsWithin 26 = .ok (.goto 22, 3) := by decide +kernel
theorem dX4_moonsWithin_29 : decode cX4_moonsWithin 29 = .ok (.iload 5, 2) := by decide +kernel
theorem dX4_moonsWithin_31 : decode cX4_moonsWithin 31 = .ok (.iload_n 1, 1) := by decide +kernel
theorem dX4_moonsWithin_32 : decode cX4_moonsWithin 32 = .ok (.if_icmp .lt 10, 3) := by decide +kernel
theorem dX4_moonsWithin_35 : decode cX4_moonsWithin 35 = .ok (.iload_n 3, 1) := by decide +kernel
theorem dX4_moonsWithin_36 : decode cX4_moonsWithin 36 = .ok (.iconst 1, 1) := by decide +kernel
theorem dX4_moonsWithin_37 : decode cX4_moonsWithin 37 = .ok (.iload 4, 2) := by decide +kernel
theorem dX4_moonsWithin_39 : decode cX4_moonsWithin 39 = .ok (.ishl, 1) := by decide +kernel
theorem dX4_moonsWithin_40 : decode cX4_moonsWithin 40 = .ok (.ior, 1) := by decide +kernel
theorem dX4_moonsWithin_41 : decode cX4_moonsWithin 41 = .ok (.istore_n 3, 1) := by decide +kernel
theorem dX4_moonsWithin_42 : decode cX4_moonsWithin 42 = .ok (.iinc 4 1, 3) := by decide +kernel
theorem dX4_moonsWithin_45 : decode cX4_moonsWithin 45 = .ok (.goto (-40), 3) := by decide +kernel
theorem dX4_moonsWithin_48 : decode cX4_moonsWithin 48 = .ok (.iload_n 3, 1) := by decide +kernel
theorem dX4_moonsWithin_49 : decode cX4_moonsWithin 49 = .ok (.ireturn, 1) := by decide +kernel
theorem dX4_cloudedMoons_0 : decode cX4_cloudedMoons 0 = .ok (.iconst 0, 1) := by decide +kernel
theorem dX4_cloudedMoons_1 : decode cX4_cloudedMoons 1 = .ok (.istore_n 1, 1) := by decide +kernel
theorem dX4_cloudedMoons_2 : decode cX4_cloudedMoons 2 = .ok (.iconst 0, 1) := by decide +kernel
theorem dX4_cloudedMoons_3 : decode cX4_cloudedMoons 3 = .ok (.istore_n 2, 1) := by decide +kernel
theorem dX4_cloudedMoons_4 : decode cX4_cloudedMoons 4 = .ok (.iload_n 2, 1) := by decide +kernel
theorem dX4_cloudedMoons_5 : decode cX4_cloudedMoons 5 = .ok (.bipush 11, 2) := by decide +kernel
theorem dX4_cloudedMoons_7 : decode cX4_cloudedMoons 7 = .ok (.if_icmp .ge 39, 3) := by decide +kernel
theorem dX4_cloudedMoons_10 : decode cX4_cloudedMoons 10 = .ok (.aload_n 0, 1) := by decide +kernel
theorem dX4_cloudedMoons_11 : decode cX4_cloudedMoons 11 = .ok (.iload_n 2, 1) := by decide +kernel
theorem dX4_cloudedMoons_12 : decode cX4_cloudedMoons 12 = .ok (.invokevirtual 37, 3) := by decide +kernel
theorem dX4_cloudedMoons_15 : decode cX4_cloudedMoons 15 = .ok (.istore_n 3, 1) := by decide +kernel
theorem dX4_cloudedMoons_16 : decode cX4_cloudedMoons 16 = .ok (.iload_n 3, 1) := by decide +kernel
theorem dX4_cloudedMoons_17 : decode cX4_cloudedMoons 17 = .ok (.bipush 109, 2) := by decide +kernel
theorem dX4_cloudedMoons_19 : decode cX4_cloudedMoons 19 = .ok (.if_icmp .le 6, 3) := by decide +kernel
theorem dX4_cloudedMoons_22 : decode cX4_cloudedMoons 22 = .ok (.goto 24, 3) := by decide +kernel
theorem dX4_cloudedMoons_25 : decode cX4_cloudedMoons 25 = .ok (.aload_n 0, 1) := by decide +kernel
theorem dX4_cloudedMoons_26 : decode cX4_cloudedMoons 26 = .ok (.getfield 9, 3) := by decide +kernel
theorem dX4_cloudedMoons_29 : decode cX4_cloudedMoons 29 = .ok (.iload_n 3, 1) := by decide +kernel
theorem dX4_cloudedMoons_30 : decode cX4_cloudedMoons 30 = .ok (.baload, 1) := by decide +kernel
theorem dX4_cloudedMoons_31 : decode cX4_cloudedMoons 31 = .ok (.ifCond .eq 9, 3) := by decide +kernel
theorem dX4_cloudedMoons_34 : decode cX4_cloudedMoons 34 = .ok (.iload_n 1, 1) := by decide +kernel
theorem dX4_cloudedMoons_35 : decode cX4_cloudedMoons 35 = .ok (.iconst 1, 1) := by decide +kernel
theorem dX4_cloudedMoons_36 : decode cX4_cloudedMoons 36 = .ok (.iload_n 2, 1) := by decide +kernel
theorem dX4_cloudedMoons_37 : decode cX4_cloudedMoons 37 = .ok (.ishl, 1) := by decide +kernel
theorem dX4_cloudedMoons_38 : decode cX4_cloudedMoons 38 = .ok (.ior, 1) := by decide +kernel
theorem dX4_cloudedMoons_39 : decode cX4_cloudedMoons 39 = .ok (.istore_n 1, 1) := by decide +kernel
theorem dX4_cloudedMoons_40 : decode cX4_cloudedMoons 40 = .ok (.iinc 2 1, 3) := by decide +kernel
theorem dX4_cloudedMoons_43 : decode cX4_cloudedMoons 43 = .ok (.goto (-39), 3) := by decide +kernel
theorem dX4_cloudedMoons_46 : decode cX4_cloudedMoons 46 = .ok (.iload_n 1, 1) := by decide +kernel
theorem dX4_cloudedMoons_47 : decode cX4_cloudedMoons 47 = .ok (.ireturn, 1) := by decide +kernel
theorem dX5_firstFault_0 : decode cX5_firstFault 0 = .ok (.iconst 0, 1) := by decide +kernel
theorem dX5_firstFault_1 : decode cX5_firstFault 1 = .ok (.istore_n 3, 1) := by decide +kernel
theorem dX5_firstFault_2 : decode cX5_firstFault 2 = .ok (.iload_n 3, 1) := by decide +kernel
theorem dX5_firstFault_3 : decode cX5_firstFault 3 = .ok (.iload_n 2, 1) := by decide +kernel
theorem dX5_firstFault_4 : decode cX5_firstFault 4 = .ok (.if_icmp .ge 48, 3) := by decide +kernel
theorem dX5_firstFault_7 : decode cX5_firstFault 7 = .ok (.iload_n 3, 1) := by decide +kernel
theorem dX5_firstFault_8 : decode cX5_firstFault 8 = .ok (.ifCond .ne 7, 3) := by decide +kernel
theorem dX5_firstFault_11 : decode cX5_firstFault 11 = .ok (.iconst 0, 1) := by decide +kernel
theorem dX5_firstFault_12 : decode cX5_firstFault 12 = .ok (.goto 13, 3) := by decide +kernel
theorem dX5_firstFault_15 : decode cX5_firstFault 15 = .ok (.aload_n 0, 1) := by decide +kernel
theorem dX5_firstFault_16 : decode cX5_firstFault 16 = .ok (.getfield 9, 3) := by decide +kernel
theorem dX5_firstFault_19 : decode cX5_firstFault 19 = .ok (.iload_n 1, 1) := by decide +kernel
theorem dX5_firstFault_20 : decode cX5_firstFault 20 = .ok (.iload_n 3, 1) := by decide +kernel
theorem dX5_firstFault_21 : decode cX5_firstFault 21 = .ok (.iadd, 1) := by decide +kernel
theorem dX5_firstFault_22 : decode cX5_firstFault 22 = .ok (.iconst 1, 1) := by decide +kernel
theorem dX5_firstFault_23 : decode cX5_firstFault 23 = .ok (.isub, 1) := by decide +kernel
theorem dX5_firstFault_24 : decode cX5_firstFault 24 = .ok (.iaload, 1) := by decide +kernel
theorem dX5_firstFault_25 : decode cX5_firstFault 25 = .ok (.istore 4, 2) := by decide +kernel
theorem dX5_firstFault_27 : decode cX5_firstFault 27 = .ok (.iload_n 3, 1) := by decide +kernel
theorem dX5_firstFault_28 : decode cX5_firstFault 28 = .ok (.aload_n 0, 1) := by decide +kernel
theorem dX5_firstFault_29 : decode cX5_firstFault 29 = .ok (.getfield 9, 3) := by decide +kernel
theorem dX5_firstFault_32 : decode cX5_firstFault 32 = .ok (.iload_n 1, 1) := by decide +kernel
theorem dX5_firstFault_33 : decode cX5_firstFault 33 = .ok (.iload_n 3, 1) := by decide +kernel
theorem dX5_firstFault_34 : decode cX5_firstFault 34 = .ok (.iadd, 1) := by decide +kernel
theorem dX5_firstFault_35 : decode cX5_firstFault 35 = .ok (.iaload, 1) := by decide +kernel
theorem dX5_firstFault_36 : decode cX5_firstFault 36 = .ok (.iload 4, 2) := by decide +kernel
theorem dX5_firstFault_38 : decode cX5_firstFault 38 = .ok (.invokestatic 15, 3) := by decide +kernel
theorem dX5_firstFault_41 : decode cX5_firstFault 41 = .ok (.ifCond .ne 5, 3) := by decide +kernel
theorem dX5_firstFault_44 : decode cX5_firstFault 44 = .ok (.iload_n 3, 1) := by decide +kernel
theorem dX5_firstFault_45 : decode cX5_firstFault 45 = .ok (.ireturn, 1) := by decide +kernel
theorem dX5_firstFault_46 : decode cX5_firstFault 46 = .ok (.iinc 3 1, 3) := by decide +kernel
theorem dX5_firstFault_49 : decode cX5_firstFault 49 = .ok (.goto (-47), 3) := by decide +kernel
theorem dX5_firstFault_52 : decode cX5_firstFault 52 = .ok (.iload_n 2, 1) := by decide +kernel
theorem dX5_firstFault_53 : decode cX5_firstFault 53 = .ok (.bipush 14, 2) := by decide +kernel
theorem dX5_firstFault_55 : decode cX5_firstFault 55 = .ok (.if_icmp .lt 14, 3) := by decide +kernel
theorem dX5_firstFault_58 : decode cX5_firstFault 58 = .ok (.iload_n 2, 1) := by decide +kernel
theorem dX5_firstFault_59 : decode cX5_firstFault 59 = .ok (.bipush 7, 2) := by decide +kernel
theorem dX5_firstFault_61 : decode cX5_firstFault 61 = .ok (.irem, 1) := by decide +kernel
theorem dX5_firstFault_62 : decode cX5_firstFault 62 = .ok (.ifCond .ne 7, 3) := by decide +kernel
theorem dX5_firstFault_65 : decode cX5_firstFault 65 = .ok (.iconst 1, 1) := by decide +kernel
theorem dX5_firstFault_66 : decode cX5_firstFault 66 = .ok (.goto 4, 3) := by decide +kernel
theorem dX5_firstFault_69 : decode cX5_firstFault 69 = .ok (.iconst 0, 1) := by decide +kernel
theorem dX5_firstFault_70 : decode cX5_firstFault 70 = .ok (.istore_n 3, 1) := by decide +kernel
theorem dX5_firstFault_71 : decode cX5_firstFault 71 = .ok (.iload_n 3, 1) := by decide +kernel
theorem dX5_firstFault_72 : decode cX5_firstFault 72 = .ok (.ifCond .eq 8, 3) := by decide +kernel
theorem dX5_firstFault_75 : decode cX5_firstFault 75 = .ok (.bipush (-9), 2) := by decide +kernel
theorem dX5_firstFault_77 : decode cX5_firstFault 77 = .ok (.goto 4, 3) := by decide +kernel
theorem dX5_firstFault_80 : decode cX5_firstFault 80 = .ok (.iload_n 2, 1) := by decide +kernel
theorem dX5_firstFault_81 : decode cX5_firstFault 81 = .ok (.ireturn, 1) := by decide +kernel
theorem dX5_fits_0 : decode cX5_fits 0 = .ok (.iload_n 0, 1) := by decide +kernel
theorem dX5_fits_1 : decode cX5_fits 1 = .ok (.bipush 49, 2) := by decide +kernel
theorem dX5_fits_3 : decode cX5_fits 3 = .ok (.if_icmp .lt 5, 3) := by decide +kernel
theorem dX5_fits_6 : decode cX5_fits 6 = .ok (.iconst 0, 1) := by decide +kernel
theorem dX5_fits_7 : decode cX5_fits 7 = .ok (.ireturn, 1) := by decide +kernel
theorem dX5_fits_8 : decode cX5_fits 8 = .ok (.iload_n 0, 1) := by decide +kernel
theorem dX5_fits_9 : decode cX5_fits 9 = .ok (.bipush 7, 2) := by decide +kernel
theorem dX5_fits_11 : decode cX5_fits 11 = .ok (.if_icmp .lt 26, 3) := by decide +kernel
theorem dX5_fits_14 : decode cX5_fits 14 = .ok (.iload_n 0, 1) := by decide +kernel
theorem dX5_fits_15 : decode cX5_fits 15 = .ok (.bipush 7, 2) := by decide +kernel
theorem dX5_fits_17 : decode cX5_fits 17 = .ok (.irem, 1) := by decide +kernel
theorem dX5_fits_18 : decode cX5_fits 18 = .ok (.iconst 1, 1) := by decide +kernel
theorem dX5_fits_19 : decode cX5_fits 19 = .ok (.if_icmp .ne 18, 3) := by decide +kernel
theorem dX5_fits_22 : decode cX5_fits 22 = .ok (.iload_n 1, 1) := by decide +kernel
theorem dX5_fits_23 : decode cX5_fits 23 = .ok (.invokestatic 21, 3) := by decide +kernel
theorem dX5_fits_26 : decode cX5_fits 26 = .ok (.bipush (-9), 2) := by decide +kernel
theorem dX5_fits_28 : decode cX5_fits 28 = .ok (.if_icmp .eq 7, 3) := by decide +kernel
theorem dX5_fits_31 : decode cX5_fits 31 = .ok (.iconst 1, 1) := by decide +kernel
theorem dX5_fits_32 : decode cX5_fits 32 = .ok (.goto 4, 3) := by decide +kernel
theorem dX5_fits_35 : decode cX5_fits 35 = .ok (.iconst 0, 1) := by decide +kernel
theorem dX5_fits_36 : decode cX5_fits 36 = .ok (.ireturn, 1) := by decide +kernel
theorem dX5_fits_37 : decode cX5_fits 37 = .ok (.iload_n 0, 1) := by decide +kernel
theorem dX5_fits_38 : decode cX5_fits 38 = .ok (.iconst 4, 1) := by decide +kernel
theorem dX5_fits_39 : decode cX5_fits 39 = .ok (.if_icmp .ne 21, 3) := by decide +kernel
theorem dX5_fits_42 : decode cX5_fits 42 = .ok (.iload_n 2, 1) := by decide +kernel
theorem dX5_fits_43 : decode cX5_fits 43 = .ok (.bipush 54, 2) := by decide +kernel
theorem dX5_fits_45 : decode cX5_fits 45 = .ok (.if_icmp .ne 15, 3) := by decide +kernel
theorem dX5_fits_48 : decode cX5_fits 48 = .ok (.iload_n 1, 1) := by decide +kernel
theorem dX5_fits_49 : decode cX5_fits 49 = .ok (.bipush 48, 2) := by decide +kernel
theorem dX5_fits_51 : decode cX5_fits 51 = .ok (.if_icmp .ne 7, 3) := by decide +kernel
theorem dX5_fits_54 : decode cX5_fits 54 = .ok (.iconst 1, 1) := by decide +kernel
theorem dX5_fits_55 : decode cX5_fits 55 = .ok (.goto 4, 3) := by decide +kernel
theorem dX5_fits_58 : decode cX5_fits 58 = .ok (.iconst 0, 1) := by decide +kernel
theorem dX5_fits_59 : decode cX5_fits 59 = .ok (.ireturn, 1) := by decide +kernel
theorem dX5_fits_60 : decode cX5_fits 60 = .ok (.iload_n 0, 1) := by decide +kernel
theorem dX5_fits_61 : decode cX5_fits 61 = .ok (.bipush 7, 2) := by decide +kernel
theorem dX5_fits_63 : decode cX5_fits 63 = .ok (.if_icmp .ge 7, 3) := by decide +kernel
theorem dX5_fits_66 : decode cX5_fits 66 = .ok (.iload_n 0, 1) := by decide +kernel
theorem dX5_fits_67 : decode cX5_fits 67 = .ok (.goto 10, 3) := by decide +kernel
theorem dX5_fits_70 : decode cX5_fits 70 = .ok (.bipush 7, 2) := by decide +kernel
theorem dX5_fits_72 : decode cX5_fits 72 = .ok (.iload_n 0, 1) := by decide +kernel
theorem dX5_fits_73 : decode cX5_fits 73 = .ok (.bipush 7, 2) := by decide +kernel
theorem dX5_fits_75 : decode cX5_fits 75 = .ok (.irem, 1) := by decide +kernel
theorem dX5_fits_76 : decode cX5_fits 76 = .ok (.iadd, 1) := by decide +kernel
theorem dX5_fits_77 : decode cX5_fits 77 = .ok (.istore_n 3, 1) := by decide +kernel
theorem dX5_fits_78 : decode cX5_fits 78 = .ok (.iload_n 1, 1) := by decide +kernel
theorem dX5_fits_79 : decode cX5_fits 79 = .ok (.ldc 25, 2) := by decide +kernel
theorem dX5_fits_81 : decode cX5_fits 81 = .ok (.iload_n 3, 1) := by decide +kernel
theorem dX5_fits_82 : decode cX5_fits 82 = .ok (.invokevirtual 27, 3) := by decide +kernel
theorem dX5_fits_85 : decode cX5_fits 85 = .ok (.if_icmp .lt 17, 3) := by decide +kernel
theorem dX5_fits_88 : decode cX5_fits 88 = .ok (.iload_n 1, 1) := by decide +kernel
theorem dX5_fits_89 : decode cX5_fits 89 = .ok (.ldc 33, 2) := by decide +kernel
theorem dX5_fits_91 : decode cX5_fits 91 = .ok (.iload_n 3, 1) := by decide +kernel
theorem dX5_fits_92 : decode cX5_fits 92 = .ok (.invokevirtual 27, 3) := by decide +kernel
theorem dX5_fits_95 : decode cX5_fits 95 = .ok (.if_icmp .gt 7, 3) := by decide +kernel
theorem dX5_fits_98 : decode cX5_fits 98 = .ok (.iconst 1, 1) := by decide +kernel
theorem dX5_fits_99 : decode cX5_fits 99 = .ok (.goto 4, 3) := by decide +kernel
theorem dX5_fits_102 : decode cX5_fits 102 = .ok (.iconst 0, 1) := by decide +kernel
theorem dX5_fits_103 : decode cX5_fits 103 = .ok (.ireturn, 1) := by decide +kernel
theorem dX5_kindOf_0 : decode cX5_kindOf 0 = .ok (.iload_n 0, 1) := by decide +kernel
theorem dX5_kindOf_1 : decode cX5_kindOf 1 = .ok (.lookupswitch 41 #[(98, 35), (114, 39), (115, 37)], 35) := by decide +kernel
theorem dX5_kindOf_36 : decode cX5_kindOf 36 = .ok (.iconst 0, 1) := by decide +kernel
theorem dX5_kindOf_37 : decode cX5_kindOf 37 = .ok (.ireturn, 1) := by decide +kernel
theorem dX5_kindOf_38 : decode cX5_kindOf 38 = .ok (.iconst 1, 1) := by decide +kernel
theorem dX5_kindOf_39 : decode cX5_kindOf 39 = .ok (.ireturn, 1) := by decide +kernel
theorem dX5_kindOf_40 : decode cX5_kindOf 40 = .ok (.iconst 2, 1) := by decide +kernel
theorem dX5_kindOf_41 : decode cX5_kindOf 41 = .ok (.ireturn, 1) := by decide +kernel
theorem dX5_kindOf_42 : decode cX5_kindOf 42 = .ok (.bipush (-9), 2) := by decide +kernel
theorem dX5_kindOf_44 : decode cX5_kindOf 44 = .ok (.ireturn, 1) := by decide +kernel
theorem dX5_digit_0 : decode cX5_digit 0 = .ok (.aload_n 0, 1) := by decide +kernel
theorem dX5_digit_1 : decode cX5_digit 1 = .ok (.iload_n 1, 1) := by decide +kernel
theorem dX5_digit_2 : decode cX5_digit 2 = .ok (.invokevirtual 35, 3) := by decide +kernel
theorem dX5_digit_5 : decode cX5_digit 5 = .ok (.ifCond .eq 15, 3) := by decide +kernel
theorem dX5_digit_8 : decode cX5_digit 8 = .ok (.aload_n 0, 1) := by decide +kernel
theorem dX5_digit_9 : decode cX5_digit 9 = .ok (.getfield 9, 3) := by decide +kernel
theorem dX5_digit_12 : decode cX5_digit 12 = .ok (.iload_n 1, 1) := by decide +kernel
theorem dX5_digit_13 : decode cX5_digit 13 = .ok (.iaload, 1) := by decide +kernel
theorem dX5_digit_14 : decode cX5_digit 14 = .ok (.bipush 48, 2) := by decide +kernel
theorem dX5_digit_16 : decode cX5_digit 16 = .ok (.isub, 1) := by decide +kernel
theorem dX5_digit_17 : decode cX5_digit 17 = .ok (.goto 4, 3) := by decide +kernel
theorem dX5_digit_20 : decode cX5_digit 20 = .ok (.iconst 0, 1) := by decide +kernel
theorem dX5_digit_21 : decode cX5_digit 21 = .ok (.ireturn, 1) := by decide +kernel
theorem dX5_twoDigits_0 : decode cX5_twoDigits 0 = .ok (.bipush 10, 2) := by decide +kernel
theorem dX5_twoDigits_2 : decode cX5_twoDigits 2 = .ok (.aload_n 0, 1) := by decide +kernel
theorem dX5_twoDigits_3 : decode cX5_twoDigits 3 = .ok (.iload_n 1, 1) := by decide +kernel
theorem dX5_twoDigits_4 : decode cX5_twoDigits 4 = .ok (.invokestatic 39, 3) := by decide +kernel
theorem dX5_twoDigits_7 : decode cX5_twoDigits 7 = .ok (.imul, 1) := by decide +kernel
theorem dX5_twoDigits_8 : decode cX5_twoDigits 8 = .ok (.aload_n 0, 1) := by decide +kernel
theorem dX5_twoDigits_9 : decode cX5_twoDigits 9 = .ok (.iload_n 1, 1) := by decide +kernel
theorem dX5_twoDigits_10 : decode cX5_twoDigits 10 = .ok (.iconst 1, 1) := by decide +kernel
theorem dX5_twoDigits_11 : decode cX5_twoDigits 11 = .ok (.iadd, 1) := by decide +kernel
theorem dX5_twoDigits_12 : decode cX5_twoDigits 12 = .ok (.invokestatic 39, 3) := by decide +kernel
theorem dX5_twoDigits_15 : decode cX5_twoDigits 15 = .ok (.iadd, 1) := by decide +kernel
theorem dX5_twoDigits_16 : decode cX5_twoDigits 16 = .ok (.ireturn, 1) := by decide +kernel
theorem dX6_fewestClouds_0 : decode cX6_fewestClouds 0 = .ok (.aload_n 0, 1) := by decide +kernel
theorem dX6_fewestClouds_1 : decode cX6_fewestClouds 1 = .ok (.invokevirtual 9, 3) := by decide +kernel
theorem dX6_fewestClouds_4 : decode cX6_fewestClouds 4 = .ok (.aload_n 0, 1) := by decide +kernel
theorem dX6_fewestClouds_5 : decode cX6_fewestClouds 5 = .ok (.getfield 14, 3) := by decide +kernel
theorem dX6_fewestClouds_8 : decode cX6_fewestClouds 8 = .ok (.invokevirtual 18, 3) := by decide +kernel
theorem dX6_fewestClouds_11 : decode cX6_fewestClouds 11 = .ok (.istore_n 3, 1) := by decide +kernel
theorem dX6_fewestClouds_12 : decode cX6_fewestClouds 12 = .ok (.aload_n 0, 1) := by decide +kernel
theorem dX6_fewestClouds_13 : decode cX6_fewestClouds 13 = .ok (.invokevirtual 24, 3) := by decide +kernel
theorem dX6_fewestClouds_16 : decode cX6_fewestClouds 16 = .ok (.iload_n 3, 1) := by decide +kernel
theorem dX6_fewestClouds_17 : decode cX6_fewestClouds 17 = .ok (.iconst (-1), 1) := by decide +kernel
theorem dX6_fewestClouds_18 : decode cX6_fewestClouds 18 = .ok (.ixor, 1) := by decide +kernel
theorem dX6_fewestClouds_19 : decode cX6_fewestClouds 19 = .ok (.iand, 1) := by decide +kernel
theorem dX6_fewestClouds_20 : decode cX6_fewestClouds 20 = .ok (.istore 4, 2) := by decide +kernel
theorem dX6_fewestClouds_22 : decode cX6_fewestClouds 22 = .ok (.bipush (-9), 2) := by decide +kernel
theorem dX6_fewestClouds_24 : decode cX6_fewestClouds 24 = .ok (.istore 5, 2) := by decide +kernel
theorem dX6_fewestClouds_26 : decode cX6_fewestClouds 26 = .ok (.iconst 0, 1) := by decide +kernel
theorem dX6_fewestClouds_27 : decode cX6_fewestClouds 27 = .ok (.istore 6, 2) := by decide +kernel
theorem dX6_fewestClouds_29 : decode cX6_fewestClouds 29 = .ok (.iload 6, 2) := by decide +kernel
theorem dX6_fewestClouds_31 : decode cX6_fewestClouds 31 = .ok (.iload 4, 2) := by decide +kernel
theorem dX6_fewestClouds_33 : decode cX6_fewestClouds 33 = .ok (.if_icmp .gt 79, 3) := by decide +kernel
theorem dX6_fewestClouds_36 : decode cX6_fewestClouds 36 = .ok (.iload 5, 2) := by decide +kernel
theorem dX6_fewestClouds_38 : decode cX6_fewestClouds 38 = .ok (.bipush (-9), 2) := by decide +kernel
theorem dX6_fewestClouds_40 : decode cX6_fewestClouds 40 = .ok (.if_icmp .eq 16, 3) := by decide +kernel
theorem dX6_fewestClouds_43 : decode cX6_fewestClouds 43 = .ok (.iload 6, 2) := by decide +kernel
theorem dX6_fewestClouds_45 : decode cX6_fewestClouds 45 = .ok (.invokestatic 27, 3) := by decide +kernel
theorem dX6_fewestClouds_48 : decode cX6_fewestClouds 48 = .ok (.iload 5, 2) := by decide +kernel
theorem dX6_fewestClouds_50 : decode cX6_fewestClouds 50 = .ok (.invokestatic 27, 3) := by decide +kernel
theorem dX6_fewestClouds_53 : decode cX6_fewestClouds 53 = .ok (.if_icmp .ge 7, 3) := by decide +kernel
theorem dX6_fewestClouds_56 : decode cX6_fewestClouds 56 = .ok (.iconst 1, 1) := by decide +kernel
theorem dX6_fewestClouds_57 : decode cX6_fewestClouds 57 = .ok (.goto 4, 3) := by decide +kernel
theorem dX6_fewestClouds_60 : decode cX6_fewestClouds 60 = .ok (.iconst 0, 1) := by decide +kernel
theorem dX6_fewestClouds_61 : decode cX6_fewestClouds 61 = .ok (.istore 7, 2) := by decide +kernel
theorem dX6_fewestClouds_63 : decode cX6_fewestClouds 63 = .ok (.iload 6, 2) := by decide +kernel
theorem dX6_fewestClouds_65 : decode cX6_fewestClouds 65 = .ok (.iload 4, 2) := by decide +kernel
theorem dX6_fewestClouds_67 : decode cX6_fewestClouds 67 = .ok (.iconst (-1), 1) := by decide +kernel
theorem dX6_fewestClouds_68 : decode cX6_fewestClouds 68 = .ok (.ixor, 1) := by decide +kernel
theorem dX6_fewestClouds_69 : decode cX6_fewestClouds 69 = .ok (.iand, 1) := by decide +kernel
theorem dX6_fewestClouds_70 : decode cX6_fewestClouds 70 = .ok (.ifCond .ne 36, 3) := by decide +kernel
theorem dX6_fewestClouds_73 : decode cX6_fewestClouds 73 = .ok (.iload 7, 2) := by decide +kernel
theorem dX6_fewestClouds_75 : decode cX6_fewestClouds 75 = .ok (.ifCond .eq 31, 3) := by decide +kernel
theorem dX6_fewestClouds_78 : decode cX6_fewestClouds 78 = .ok (.aload_n 0, 1) := by decide +kernel
theorem dX6_fewestClouds_79 : decode cX6_fewestClouds 79 = .ok (.iload_n 3, 1) := by decide +kernel
theorem dX6_fewestClouds_80 : decode cX6_fewestClouds 80 = .ok (.iload 6, 2) := by decide +kernel
theorem dX6_fewestClouds_82 : decode cX6_fewestClouds 82 = .ok (.ior, 1) := by decide +kernel
theorem dX6_fewestClouds_83 : decode cX6_fewestClouds 83 = .ok (.bipush 6, 2) := by decide +kernel
theorem dX6_fewestClouds_85 : decode cX6_fewestClouds 85 = .ok (.invokevirtual 33, 3) := by decide +kernel
theorem dX6_fewestClouds_88 : decode cX6_fewestClouds 88 = .ok (.aload_n 0, 1) := by decide +kernel
theorem dX6_fewestClouds_89 : decode cX6_fewestClouds 89 = .ok (.iload_n 1, 1) := by decide +kernel
theorem dX6_fewestClouds_90 : decode cX6_fewestClouds 90 = .ok (.iload_n 2, 1) := by decide +kernel
theorem dX6_fewestClouds_91 : decode cX6_fewestClouds 91 = .ok (.invokevirtual 37, 3) := by decide +kernel
theorem dX6_fewestClouds_94 : decode cX6_fewestClouds 94 = .ok (.ifCond .eq 8, 3) := by decide +kernel
theorem dX6_fewestClouds_97 : decode cX6_fewestClouds 97 = .ok (.iload 6, 2) := by decide +kernel
theorem dX6_fewestClouds_99 : decode cX6_fewestClouds 99 = .ok (.goto 5, 3) := by decide +kernel
theorem dX6_fewestClouds_102 : decode cX6_fewestClouds 102 = .ok (.iload 5, 2) := by decide +kernel
theorem dX6_fewestClouds_104 : decode cX6_fewestClouds 104 = .ok (.istore 5, 2) := by decide +kernel
theorem dX6_fewestClouds_106 : decode cX6_fewestClouds 106 = .ok (.iinc 6 1, 3) := by decide +kernel
theorem dX6_fewestClouds_109 : decode cX6_fewestClouds 109 = .ok (.goto (-80), 3) := by decide +kernel
theorem dX6_fewestClouds_112 : decode cX6_fewestClouds 112 = .ok (.iload 5, 2) := by decide +kernel
theorem dX6_fewestClouds_114 : decode cX6_fewestClouds 114 = .ok (.ireturn, 1) := by decide +kernel
theorem dX6_firstMove_0 : decode cX6_firstMove 0 = .ok (.aload_n 0, 1) := by decide +kernel
theorem dX6_firstMove_1 : decode cX6_firstMove 1 = .ok (.getfield 41, 3) := by decide +kernel
theorem dX6_firstMove_4 : decode cX6_firstMove 4 = .ok (.iload_n 1, 1) := by decide +kernel
theorem dX6_firstMove_5 : decode cX6_firstMove 5 = .ok (.aaload, 1) := by decide +kernel
theorem dX6_firstMove_6 : decode cX6_firstMove 6 = .ok (.astore_n 3, 1) := by decide +kernel
theorem dX6_firstMove_7 : decode cX6_firstMove 7 = .ok (.aload_n 3, 1) := by decide +kernel
theorem dX6_firstMove_8 : decode cX6_firstMove 8 = .ok (.getfield 45, 3) := by decide +kernel
theorem dX6_firstMove_11 : decode cX6_firstMove 11 = .ok (.istore 4, 2) := by decide +kernel
theorem dX6_firstMove_13 : decode cX6_firstMove 13 = .ok (.bipush (-9), 2) := by decide +kernel
theorem dX6_firstMove_15 : decode cX6_firstMove 15 = .ok (.istore 5, 2) := by decide +kernel
theorem dX6_firstMove_17 : decode cX6_firstMove 17 = .ok (.iconst 0, 1) := by decide +kernel
theorem dX6_firstMove_18 : decode cX6_firstMove 18 = .ok (.istore 6, 2) := by decide +kernel
theorem dX6_firstMove_20 : decode cX6_firstMove 20 = .ok (.iload 6, 2) := by decide +kernel
theorem dX6_firstMove_22 : decode cX6_firstMove 22 = .ok (.bipush 99, 2) := by decide +kernel
theorem dX6_firstMove_24 : decode cX6_firstMove 24 = .ok (.if_icmp .gt 44, 3) := by decide +kernel
theorem dX6_firstMove_27 : decode cX6_firstMove 27 = .ok (.iload 5, 2) := by decide +kernel
theorem dX6_firstMove_29 : decode cX6_firstMove 29 = .ok (.bipush (-9), 2) := by decide +kernel
theorem dX6_firstMove_31 : decode cX6_firstMove 31 = .ok (.if_icmp .ne 37, 3) := by decide +kernel
theorem dX6_firstMove_34 : decode cX6_firstMove 34 = .ok (.aload_n 3, 1) := by decide +kernel
theorem dX6_firstMove_35 : decode cX6_firstMove 35 = .ok (.iload 6, 2) := by decide +kernel
theorem dX6_firstMove_37 : decode cX6_firstMove 37 = .ok (.putfield 45, 3) := by decide +kernel
theorem dX6_firstMove_40 : decode cX6_firstMove 40 = .ok (.aload_n 0, 1) := by decide +kernel
theorem dX6_firstMove_41 : decode cX6_firstMove 41 = .ok (.invokevirtual 51, 3) := by decide +kernel
theorem dX6_firstMove_44 : decode cX6_firstMove 44 = .ok (.aload_n 0, 1) := by decide +kernel
theorem dX6_firstMove_45 : decode cX6_firstMove 45 = .ok (.iload_n 1, 1) := by decide +kernel
theorem dX6_firstMove_46 : decode cX6_firstMove 46 = .ok (.iload_n 2, 1) := by decide +kernel
theorem dX6_firstMove_47 : decode cX6_firstMove 47 = .ok (.invokevirtual 37, 3) := by decide +kernel
theorem dX6_firstMove_50 : decode cX6_firstMove 50 = .ok (.ifCond .eq 8, 3) := by decide +kernel
theorem dX6_firstMove_53 : decode cX6_firstMove 53 = .ok (.iload 6, 2) := by decide +kernel
theorem dX6_firstMove_55 : decode cX6_firstMove 55 = .ok (.goto 5, 3) := by decide +kernel
theorem dX6_firstMove_58 : decode cX6_firstMove 58 = .ok (.bipush (-9), 2) := by decide +kernel
theorem dX6_firstMove_60 : decode cX6_firstMove 60 = .ok (.istore 5, 2) := by decide +kernel
theorem dX6_firstMove_62 : decode cX6_firstMove 62 = .ok (.iinc 6 1, 3) := by decide +kernel
theorem dX6_firstMove_65 : decode cX6_firstMove 65 = .ok (.goto (-45), 3) := by decide +kernel
theorem dX6_firstMove_68 : decode cX6_firstMove 68 = .ok (.aload_n 3, 1) := by decide +kernel
theorem dX6_firstMove_69 : decode cX6_firstMove 69 = .ok (.iload 4, 2) := by decide +kernel
theorem dX6_firstMove_71 : decode cX6_firstMove 71 = .ok (.putfield 45, 3) := by decide +kernel
theorem dX6_firstMove_74 : decode cX6_firstMove 74 = .ok (.iload 5, 2) := by decide +kernel
theorem dX6_firstMove_76 : decode cX6_firstMove 76 = .ok (.ireturn, 1) := by decide +kernel
theorem dX6_longestMove_0 : decode cX6_longestMove 0 = .ok (.aload_n 0, 1) := by decide +kernel
theorem dX6_longestMove_1 : decode cX6_longestMove 1 = .ok (.getfield 41, 3) := by decide +kernel
theorem dX6_longestMove_4 : decode cX6_longestMove 4 = .ok (.iload_n 1, 1) := by decide +kernel
theorem dX6_longestMove_5 : decode cX6_longestMove 5 = .ok (.aaload, 1) := by decide +kernel
theorem dX6_longestMove_6 : decode cX6_longestMove 6 = .ok (.astore_n 3, 1) := by decide +kernel
theorem dX6_longestMove_7 : decode cX6_longestMove 7 = .ok (.aload_n 3, 1) := by decide +kernel
theorem dX6_longestMove_8 : decode cX6_longestMove 8 = .ok (.getfield 45, 3) := by decide +kernel
theorem dX6_longestMove_11 : decode cX6_longestMove 11 = .ok (.istore 4, 2) := by decide +kernel
theorem dX6_longestMove_13 : decode cX6_longestMove 13 = .ok (.iconst (-1), 1) := by decide +kernel
theorem dX6_longestMove_14 : decode cX6_longestMove 14 = .ok (.istore 5, 2) := by decide +kernel
theorem dX6_longestMove_16 : decode cX6_longestMove 16 = .ok (.iconst 0, 1) := by decide +kernel
theorem dX6_longestMove_17 : decode cX6_longestMove 17 = .ok (.istore 6, 2) := by decide +kernel
theorem dX6_longestMove_19 : decode cX6_longestMove 19 = .ok (.iconst 0, 1) := by decide +kernel
theorem dX6_longestMove_20 : decode cX6_longestMove 20 = .ok (.istore 7, 2) := by decide +kernel
theorem dX6_longestMove_22 : decode cX6_longestMove 22 = .ok (.iload 7, 2) := by decide +kernel
theorem dX6_longestMove_24 : decode cX6_longestMove 24 = .ok (.bipush 99, 2) := by decide +kernel
theorem dX6_longestMove_26 : decode cX6_longestMove 26 = .ok (.if_icmp .gt 41, 3) := by decide +kernel
theorem dX6_longestMove_29 : decode cX6_longestMove 29 = .ok (.aload_n 3, 1) := by decide +kernel
theorem dX6_longestMove_30 : decode cX6_longestMove 30 = .ok (.iload 7, 2) := by decide +kernel
theorem dX6_longestMove_32 : decode cX6_longestMove 32 = .ok (.putfield 45, 3) := by decide +kernel
theorem dX6_longestMove_35 : decode cX6_longestMove 35 = .ok (.aload_n 0, 1) := by decide +kernel
theorem dX6_longestMove_36 : decode cX6_longestMove 36 = .ok (.invokevirtual 51, 3) := by decide +kernel
theorem dX6_longestMove_39 : decode cX6_longestMove 39 = .ok (.aload_n 0, 1) := by decide +kernel
theorem dX6_longestMove_40 : decode cX6_longestMove 40 = .ok (.iload_n 1, 1) := by decide +kernel
theorem dX6_longestMove_41 : decode cX6_longestMove 41 = .ok (.invokevirtual 54, 3) := by decide +kernel
theorem dX6_longestMove_44 : decode cX6_longestMove 44 = .ok (.istore 8, 2) := by decide +kernel
theorem dX6_longestMove_46 : decode cX6_longestMove 46 = .ok (.iload 8, 2) := by decide +kernel
theorem dX6_longestMove_48 : decode cX6_longestMove 48 = .ok (.iload 5, 2) := by decide +kernel
theorem dX6_longestMove_50 : decode cX6_longestMove 50 = .ok (.if_icmp .le 11, 3) := by decide +kernel
theorem dX6_longestMove_53 : decode cX6_longestMove 53 = .ok (.iload 8, 2) := by decide +kernel
theorem dX6_longestMove_55 : decode cX6_longestMove 55 = .ok (.istore 5, 2) := by decide +kernel
theorem dX6_longestMove_57 : decode cX6_longestMove 57 = .ok (.iload 7, 2) := by decide +kernel
theorem dX6_longestMove_59 : decode cX6_longestMove 59 = .ok (.istore 6, 2) := by decide +kernel
theorem dX6_longestMove_61 : decode cX6_longestMove 61 = .ok (.iinc 7 1, 3) := by decide +kernel
theorem dX6_longestMove_64 : decode cX6_longestMove 64 = .ok (.goto (-42), 3) := by decide +kernel
theorem dX6_longestMove_67 : decode cX6_longestMove 67 = .ok (.aload_n 3, 1) := by decide +kernel
theorem dX6_longestMove_68 : decode cX6_longestMove 68 = .ok (.iload 4, 2) := by decide +kernel
theorem dX6_longestMove_70 : decode cX6_longestMove 70 = .ok (.putfield 45, 3) := by decide +kernel
theorem dX6_longestMove_73 : decode cX6_longestMove 73 = .ok (.iload_n 2, 1) := by decide +kernel
theorem dX6_longestMove_74 : decode cX6_longestMove 74 = .ok (.ifCond .eq 8, 3) := by decide +kernel
theorem dX6_longestMove_77 : decode cX6_longestMove 77 = .ok (.iload 5, 2) := by decide +kernel
theorem dX6_longestMove_79 : decode cX6_longestMove 79 = .ok (.goto 5, 3) := by decide +kernel
theorem dX6_longestMove_82 : decode cX6_longestMove 82 = .ok (.iload 6, 2) := by decide +kernel
theorem dX6_longestMove_84 : decode cX6_longestMove 84 = .ok (.ireturn, 1) := by decide +kernel
theorem dX6_gainOfOthers_0 : decode cX6_gainOfOthers 0 = .ok (.aload_n 0, 1) := by decide +kernel
theorem dX6_gainOfOthers_1 : decode cX6_gainOfOthers 1 = .ok (.invokevirtual 51, 3) := by decide +kernel
theorem dX6_gainOfOthers_4 : decode cX6_gainOfOthers 4 = .ok (.aload_n 0, 1) := by decide +kernel
theorem dX6_gainOfOthers_5 : decode cX6_gainOfOthers 5 = .ok (.iload_n 1, 1) := by decide +kernel
theorem dX6_gainOfOthers_6 : decode cX6_gainOfOthers 6 = .ok (.invokevirtual 57, 3) := by decide +kernel
theorem dX6_gainOfOthers_9 : decode cX6_gainOfOthers 9 = .ok (.istore_n 2, 1) := by decide +kernel
theorem dX6_gainOfOthers_10 : decode cX6_gainOfOthers 10 = .ok (.aload_n 0, 1) := by decide +kernel
theorem dX6_gainOfOthers_11 : decode cX6_gainOfOthers 11 = .ok (.aload_n 0, 1) := by decide +kernel
theorem dX6_gainOfOthers_12 : decode cX6_gainOfOthers 12 = .ok (.getfield 14, 3) := by decide +kernel
theorem dX6_gainOfOthers_15 : decode cX6_gainOfOthers 15 = .ok (.invokevirtual 18, 3) := by decide +kernel
theorem dX6_gainOfOthers_18 : decode cX6_gainOfOthers 18 = .ok (.iload_n 1, 1) := by decide +kernel
theorem dX6_gainOfOthers_19 : decode cX6_gainOfOthers 19 = .ok (.invokevirtual 33, 3) := by decide +kernel
theorem dX6_gainOfOthers_22 : decode cX6_gainOfOthers 22 = .ok (.iload_n 2, 1) := by decide +kernel
theorem dX6_gainOfOthers_23 : decode cX6_gainOfOthers 23 = .ok (.aload_n 0, 1) := by decide +kernel
theorem dX6_gainOfOthers_24 : decode cX6_gainOfOthers 24 = .ok (.iload_n 1, 1) := by decide +kernel
theorem dX6_gainOfOthers_25 : decode cX6_gainOfOthers 25 = .ok (.invokevirtual 57, 3) := by decide +kernel
theorem dX6_gainOfOthers_28 : decode cX6_gainOfOthers 28 = .ok (.isub, 1) := by decide +kernel
theorem dX6_gainOfOthers_29 : decode cX6_gainOfOthers 29 = .ok (.ireturn, 1) := by decide +kernel
theorem dX6_possibleSpans_0 : decode cX6_possibleSpans 0 = .ok (.aload_n 0, 1) := by decide +kernel
theorem dX6_possibleSpans_1 : decode cX6_possibleSpans 1 = .ok (.getfield 60, 3) := by decide +kernel
theorem dX6_possibleSpans_4 : decode cX6_possibleSpans 4 = .ok (.istore_n 2, 1) := by decide +kernel
theorem dX6_possibleSpans_5 : decode cX6_possibleSpans 5 = .ok (.iconst 0, 1) := by decide +kernel
theorem dX6_possibleSpans_6 : decode cX6_possibleSpans 6 = .ok (.istore_n 3, 1) := by decide +kernel
theorem dX6_possibleSpans_7 : decode cX6_possibleSpans 7 = .ok (.iconst 0, 1) := by decide +kernel
theorem dX6_possibleSpans_8 : decode cX6_possibleSpans 8 = .ok (.istore 4, 2) := by decide +kernel
theorem dX6_possibleSpans_10 : decode cX6_possibleSpans 10 = .ok (.iload 4, 2) := by decide +kernel
theorem dX6_possibleSpans_12 : decode cX6_possibleSpans 12 = .ok (.bipush 9, 2) := by decide +kernel
theorem dX6_possibleSpans_14 : decode cX6_possibleSpans 14 = .ok (.if_icmp .gt 38, 3) := by decide +kernel
theorem dX6_possibleSpans_17 : decode cX6_possibleSpans 17 = .ok (.aload_n 0, 1) := by decide +kernel
theorem dX6_possibleSpans_18 : decode cX6_possibleSpans 18 = .ok (.iload 4, 2) := by decide +kernel
theorem dX6_possibleSpans_20 : decode cX6_possibleSpans 20 = .ok (.putfield 60, 3) := by decide +kernel
theorem dX6_possibleSpans_23 : decode cX6_possibleSpans 23 = .ok (.aload_n 0, 1) := by decide +kernel
theorem dX6_possibleSpans_24 : decode cX6_possibleSpans 24 = .ok (.invokevirtual 51, 3) := by decide +kernel
theorem dX6_possibleSpans_27 : decode cX6_possibleSpans 27 = .ok (.iload_n 3, 1) := by decide +kernel
theorem dX6_possibleSpans_28 : decode cX6_possibleSpans 28 = .ok (.aload_n 1, 1) := by decide +kernel
theorem dX6_possibleSpans_29 : decode cX6_possibleSpans 29 = .ok (.aload_n 0, 1) := by decide +kernel
theorem dX6_possibleSpans_30 : decode cX6_possibleSpans 30 = .ok (.invokevirtual 63, 3) := by decide +kernel
theorem dX6_possibleSpans_33 : decode cX6_possibleSpans 33 = .ok (.ifCond .eq 10, 3) := by decide +kernel
theorem dX6_possibleSpans_36 : decode cX6_possibleSpans 36 = .ok (.iconst 1, 1) := by decide +kernel
theorem dX6_possibleSpans_37 : decode cX6_possibleSpans 37 = .ok (.iload 4, 2) := by decide +kernel
theorem dX6_possibleSpans_39 : decode cX6_possibleSpans 39 = .ok (.ishl, 1) := by decide +kernel
theorem dX6_possibleSpans_40 : decode cX6_possibleSpans 40 = .ok (.goto 4, 3) := by decide +kernel
theorem dX6_possibleSpans_43 : decode cX6_possibleSpans 43 = .ok (.iconst 0, 1) := by decide +kernel
theorem dX6_possibleSpans_44 : decode cX6_possibleSpans 44 = .ok (.ior, 1) := by decide +kernel
theorem dX6_possibleSpans_45 : decode cX6_possibleSpans 45 = .ok (.istore_n 3, 1) := by decide +kernel
theorem dX6_possibleSpans_46 : decode cX6_possibleSpans 46 = .ok (.iinc 4 1, 3) := by decide +kernel
theorem dX6_possibleSpans_49 : decode cX6_possibleSpans 49 = .ok (.goto (-39), 3) := by decide +kernel
theorem dX6_possibleSpans_52 : decode cX6_possibleSpans 52 = .ok (.aload_n 0, 1) := by decide +kernel
theorem dX6_possibleSpans_53 : decode cX6_possibleSpans 53 = .ok (.iload_n 2, 1) := by decide +kernel
theorem dX6_possibleSpans_54 : decode cX6_possibleSpans 54 = .ok (.putfield 60, 3) := by decide +kernel
theorem dX6_possibleSpans_57 : decode cX6_possibleSpans 57 = .ok (.iload_n 3, 1) := by decide +kernel
theorem dX6_possibleSpans_58 : decode cX6_possibleSpans 58 = .ok (.ireturn, 1) := by decide +kernel
theorem dX6_possibleOrigins_0 : decode cX6_possibleOrigins 0 = .ok (.aload_n 0, 1) := by decide +kernel
theorem dX6_possibleOrigins_1 : decode cX6_possibleOrigins 1 = .ok (.getfield 14, 3) := by decide +kernel
theorem dX6_possibleOrigins_4 : decode cX6_possibleOrigins 4 = .ok (.getfield 69, 3) := by decide +kernel
theorem dX6_possibleOrigins_7 : decode cX6_possibleOrigins 7 = .ok (.istore_n 2, 1) := by decide +kernel
theorem dX6_possibleOrigins_8 : decode cX6_possibleOrigins 8 = .ok (.iconst 0, 1) := by decide +kernel
theorem dX6_possibleOrigins_9 : decode cX6_possibleOrigins 9 = .ok (.istore_n 3, 1) := by decide +kernel
theorem dX6_possibleOrigins_10 : decode cX6_possibleOrigins 10 = .ok (.iconst 0, 1) := by decide +kernel
theorem dX6_possibleOrigins_11 : decode cX6_possibleOrigins 11 = .ok (.istore 4, 2) := by decide +kernel
theorem dX6_possibleOrigins_13 : decode cX6_possibleOrigins 13 = .ok (.iload 4, 2) := by decide +kernel
theorem dX6_possibleOrigins_15 : decode cX6_possibleOrigins 15 = .ok (.bipush 29, 2) := by decide +kernel
theorem dX6_possibleOrigins_17 : decode cX6_possibleOrigins 17 = .ok (.if_icmp .gt 41, 3) := by decide +kernel
theorem dX6_possibleOrigins_20 : decode cX6_possibleOrigins 20 = .ok (.aload_n 0, 1) := by decide +kernel
theorem dX6_possibleOrigins_21 : decode cX6_possibleOrigins 21 = .ok (.getfield 14, 3) := by decide +kernel
theorem dX6_possibleOrigins_24 : decode cX6_possibleOrigins 24 = .ok (.iload 4, 2) := by decide +kernel
theorem dX6_possibleOrigins_26 : decode cX6_possibleOrigins 26 = .ok (.putfield 69, 3) := by decide +kernel
theorem dX6_possibleOrigins_29 : decode cX6_possibleOrigins 29 = .ok (.aload_n 0, 1) := by decide +kernel
theorem dX6_possibleOrigins_30 : decode cX6_possibleOrigins 30 = .ok (.invokevirtual 51, 3) := by decide +kernel
theorem dX6_possibleOrigins_33 : decode cX6_possibleOrigins 33 = .ok (.iload_n 3, 1) := by decide +kernel
theorem dX6_possibleOrigins_34 : decode cX6_possibleOrigins 34 = .ok (.aload_n 1, 1) := by decide +kernel
theorem dX6_possibleOrigins_35 : decode cX6_possibleOrigins 35 = .ok (.aload_n 0, 1) := by decide +kernel
theorem dX6_possibleOrigins_36 : decode cX6_possibleOrigins 36 = .ok (.invokevirtual 63, 3) := by decide +kernel
theorem dX6_possibleOrigins_39 : decode cX6_possibleOrigins 39 = .ok (.ifCond .eq 10, 3) := by decide +kernel
theorem dX6_possibleOrigins_42 : decode cX6_possibleOrigins 42 = .ok (.iconst 1, 1) := by decide +kernel
theorem dX6_possibleOrigins_43 : decode cX6_possibleOrigins 43 = .ok (.iload 4, 2) := by decide +kernel
theorem dX6_possibleOrigins_45 : decode cX6_possibleOrigins 45 = .ok (.ishl, 1) := by decide +kernel
theorem dX6_possibleOrigins_46 : decode cX6_possibleOrigins 46 = .ok (.goto 4, 3) := by decide +kernel
theorem dX6_possibleOrigins_49 : decode cX6_possibleOrigins 49 = .ok (.iconst 0, 1) := by decide +kernel
theorem dX6_possibleOrigins_50 : decode cX6_possibleOrigins 50 = .ok (.ior, 1) := by decide +kernel
theorem dX6_possibleOrigins_51 : decode cX6_possibleOrigins 51 = .ok (.istore_n 3, 1) := by decide +kernel
theorem dX6_possibleOrigins_52 : decode cX6_possibleOrigins 52 = .ok (.iinc 4 1, 3) := by decide +kernel
theorem dX6_possibleOrigins_55 : decode cX6_possibleOrigins 55 = .ok (.goto (-42), 3) := by decide +kernel
theorem dX6_possibleOrigins_58 : decode cX6_possibleOrigins 58 = .ok (.aload_n 0, 1) := by decide +kernel
theorem dX6_possibleOrigins_59 : decode cX6_possibleOrigins 59 = .ok (.getfield 14, 3) := by decide +kernel
theorem dX6_possibleOrigins_62 : decode cX6_possibleOrigins 62 = .ok (.iload_n 2, 1) := by decide +kernel
theorem dX6_possibleOrigins_63 : decode cX6_possibleOrigins 63 = .ok (.putfield 69, 3) := by decide +kernel
theorem dX6_possibleOrigins_66 : decode cX6_possibleOrigins 66 = .ok (.iload_n 3, 1) := by decide +kernel
theorem dX6_possibleOrigins_67 : decode cX6_possibleOrigins 67 = .ok (.ireturn, 1) := by decide +kernel
theorem dX6_possibleKinds_0 : decode cX6_possibleKinds 0 = .ok (.aload_n 0, 1) := by decide +kernel
theorem dX6_possibleKinds_1 : decode cX6_possibleKinds 1 = .ok (.getfield 41, 3) := by decide +kernel
theorem dX6_possibleKinds_4 : decode cX6_possibleKinds 4 = .ok (.iload_n 2, 1) := by decide +kernel
theorem dX6_possibleKinds_5 : decode cX6_possibleKinds 5 = .ok (.aaload, 1) := by decide +kernel
theorem dX6_possibleKinds_6 : decode cX6_possibleKinds 6 = .ok (.astore_n 3, 1) := by decide +kernel
theorem dX6_possibleKinds_7 : decode cX6_possibleKinds 7 = .ok (.aload_n 3, 1) := by decide +kernel
theorem dX6_possibleKinds_8 : decode cX6_possibleKinds 8 = .ok (.getfield 72, 3) := by decide +kernel
theorem dX6_possibleKinds_11 : decode cX6_possibleKinds 11 = .ok (.istore 4, 2) := by decide +kernel
theorem dX6_possibleKinds_13 : decode cX6_possibleKinds 13 = .ok (.iconst 0, 1) := by decide +kernel
theorem dX6_possibleKinds_14 : decode cX6_possibleKinds 14 = .ok (.istore 5, 2) := by decide +kernel
theorem dX6_possibleKinds_16 : decode cX6_possibleKinds 16 = .ok (.iconst 0, 1) := by decide +kernel
theorem dX6_possibleKinds_17 : decode cX6_possibleKinds 17 = .ok (.istore 6, 2) := by decide +kernel
theorem dX6_possibleKinds_19 : decode cX6_possibleKinds 19 = .ok (.iload 6, 2) := by decide +kernel
theorem dX6_possibleKinds_21 : decode cX6_possibleKinds 21 = .ok (.iconst 2, 1) := by decide +kernel
theorem dX6_possibleKinds_22 : decode cX6_possibleKinds 22 = .ok (.if_icmp .gt 40, 3) := by decide +kernel
theorem dX6_possibleKinds_25 : decode cX6_possibleKinds 25 = .ok (.aload_n 3, 1) := by decide +kernel
theorem dX6_possibleKinds_26 : decode cX6_possibleKinds 26 = .ok (.iload 6, 2) := by decide +kernel
theorem dX6_possibleKinds_28 : decode cX6_possibleKinds 28 = .ok (.putfield 72, 3) := by decide +kernel
theorem dX6_possibleKinds_31 : decode cX6_possibleKinds 31 = .ok (.aload_n 0, 1) := by decide +kernel
theorem dX6_possibleKinds_32 : decode cX6_possibleKinds 32 = .ok (.invokevirtual 51, 3) := by decide +kernel
theorem dX6_possibleKinds_35 : decode cX6_possibleKinds 35 = .ok (.iload 5, 2) := by decide +kernel
theorem dX6_possibleKinds_37 : decode cX6_possibleKinds 37 = .ok (.aload_n 1, 1) := by decide +kernel
theorem dX6_possibleKinds_38 : decode cX6_possibleKinds 38 = .ok (.aload_n 0, 1) := by decide +kernel
theorem dX6_possibleKinds_39 : decode cX6_possibleKinds 39 = .ok (.invokevirtual 63, 3) := by decide +kernel
theorem dX6_possibleKinds_42 : decode cX6_possibleKinds 42 = .ok (.ifCond .eq 10, 3) := by decide +kernel
theorem dX6_possibleKinds_45 : decode cX6_possibleKinds 45 = .ok (.iconst 1, 1) := by decide +kernel
theorem dX6_possibleKinds_46 : decode cX6_possibleKinds 46 = .ok (.iload 6, 2) := by decide +kernel
theorem dX6_possibleKinds_48 : decode cX6_possibleKinds 48 = .ok (.ishl, 1) := by decide +kernel
theorem dX6_possibleKinds_49 : decode cX6_possibleKinds 49 = .ok (.goto 4, 3) := by decide +kernel
theorem dX6_possibleKinds_52 : decode cX6_possibleKinds 52 = .ok (.iconst 0, 1) := by decide +kernel
theorem dX6_possibleKinds_53 : decode cX6_possibleKinds 53 = .ok (.ior, 1) := by decide +kernel
theorem dX6_possibleKinds_54 : decode cX6_possibleKinds 54 = .ok (.istore 5, 2) := by decide +kernel
theorem dX6_possibleKinds_56 : decode cX6_possibleKinds 56 = .ok (.iinc 6 1, 3) := by decide +kernel
theorem dX6_possibleKinds_59 : decode cX6_possibleKinds 59 = .ok (.goto (-40), 3) := by decide +kernel
theorem dX6_possibleKinds_62 : decode cX6_possibleKinds 62 = .ok (.aload_n 3, 1) := by decide +kernel
theorem dX6_possibleKinds_63 : decode cX6_possibleKinds 63 = .ok (.iload 4, 2) := by decide +kernel
theorem dX6_possibleKinds_65 : decode cX6_possibleKinds 65 = .ok (.putfield 72, 3) := by decide +kernel
theorem dX6_possibleKinds_68 : decode cX6_possibleKinds 68 = .ok (.iload 5, 2) := by decide +kernel
theorem dX6_possibleKinds_70 : decode cX6_possibleKinds 70 = .ok (.ireturn, 1) := by decide +kernel
theorem dX6_possibleMoves_0 : decode cX6_possibleMoves 0 = .ok (.aload_n 0, 1) := by decide +kernel
theorem dX6_possibleMoves_1 : decode cX6_possibleMoves 1 = .ok (.getfield 41, 3) := by decide +kernel
theorem dX6_possibleMoves_4 : decode cX6_possibleMoves 4 = .ok (.iload_n 2, 1) := by decide +kernel
theorem dX6_possibleMoves_5 : decode cX6_possibleMoves 5 = .ok (.aaload, 1) := by decide +kernel
theorem dX6_possibleMoves_6 : decode cX6_possibleMoves 6 = .ok (.astore 4, 2) := by decide +kernel
theorem dX6_possibleMoves_8 : decode cX6_possibleMoves 8 = .ok (.aload 4, 2) := by decide +kernel
theorem dX6_possibleMoves_10 : decode cX6_possibleMoves 10 = .ok (.getfield 45, 3) := by decide +kernel
theorem dX6_possibleMoves_13 : decode cX6_possibleMoves 13 = .ok (.istore 5, 2) := by decide +kernel
theorem dX6_possibleMoves_15 : decode cX6_possibleMoves 15 = .ok (.iconst 0, 1) := by decide +kernel
theorem dX6_possibleMoves_16 : decode cX6_possibleMoves 16 = .ok (.istore 6, 2) := by decide +kernel
theorem dX6_possibleMoves_18 : decode cX6_possibleMoves 18 = .ok (.bipush (-9), 2) := by decide +kernel
theorem dX6_possibleMoves_20 : decode cX6_possibleMoves 20 = .ok (.istore 7, 2) := by decide +kernel
theorem dX6_possibleMoves_22 : decode cX6_possibleMoves 22 = .ok (.iconst 0, 1) := by decide +kernel
theorem dX6_possibleMoves_23 : decode cX6_possibleMoves 23 = .ok (.istore 8, 2) := by decide +kernel
theorem dX6_possibleMoves_25 : decode cX6_possibleMoves 25 = .ok (.iload 8, 2) := by decide +kernel
theorem dX6_possibleMoves_27 : decode cX6_possibleMoves 27 = .ok (.bipush 99, 2) := by decide +kernel
theorem dX6_possibleMoves_29 : decode cX6_possibleMoves 29 = .ok (.if_icmp .gt 47, 3) := by decide +kernel
theorem dX6_possibleMoves_32 : decode cX6_possibleMoves 32 = .ok (.aload 4, 2) := by decide +kernel
theorem dX6_possibleMoves_34 : decode cX6_possibleMoves 34 = .ok (.iload 8, 2) := by decide +kernel
theorem dX6_possibleMoves_36 : decode cX6_possibleMoves 36 = .ok (.putfield 45, 3) := by decide +kernel
theorem dX6_possibleMoves_39 : decode cX6_possibleMoves 39 = .ok (.aload_n 0, 1) := by decide +kernel
theorem dX6_possibleMoves_40 : decode cX6_possibleMoves 40 = .ok (.invokevirtual 51, 3) := by decide +kernel
theorem dX6_possibleMoves_43 : decode cX6_possibleMoves 43 = .ok (.aload_n 1, 1) := by decide +kernel
theorem dX6_possibleMoves_44 : decode cX6_possibleMoves 44 = .ok (.aload_n 0, 1) := by decide +kernel
theorem dX6_possibleMoves_45 : decode cX6_possibleMoves 45 = .ok (.invokevirtual 63, 3) := by decide +kernel
theorem dX6_possibleMoves_48 : decode cX6_possibleMoves 48 = .ok (.ifCond .eq 22, 3) := by decide +kernel
theorem dX6_possibleMoves_51 : decode cX6_possibleMoves 51 = .ok (.iinc 6 1, 3) := by decide +kernel
theorem dX6_possibleMoves_54 : decode cX6_possibleMoves 54 = .ok (.iload 7, 2) := by decide +kernel
theorem dX6_possibleMoves_56 : decode cX6_possibleMoves 56 = .ok (.bipush (-9), 2) := by decide +kernel
theorem dX6_possibleMoves_58 : decode cX6_possibleMoves 58 = .ok (.if_icmp .ne 8, 3) := by decide +kernel
theorem dX6_possibleMoves_61 : decode cX6_possibleMoves 61 = .ok (.iload 8, 2) := by decide +kernel
theorem dX6_possibleMoves_63 : decode cX6_possibleMoves 63 = .ok (.goto 5, 3) := by decide +kernel
theorem dX6_possibleMoves_66 : decode cX6_possibleMoves 66 = .ok (.iload 7, 2) := by decide +kernel
theorem dX6_possibleMoves_68 : decode cX6_possibleMoves 68 = .ok (.istore 7, 2) := by decide +kernel
theorem dX6_possibleMoves_70 : decode cX6_possibleMoves 70 = .ok (.iinc 8 1, 3) := by decide +kernel
theorem dX6_possibleMoves_73 : decode cX6_possibleMoves 73 = .ok (.goto (-48), 3) := by decide +kernel
theorem dX6_possibleMoves_76 : decode cX6_possibleMoves 76 = .ok (.aload 4, 2) := by decide +kernel
theorem dX6_possibleMoves_78 : decode cX6_possibleMoves 78 = .ok (.iload 5, 2) := by decide +kernel
theorem dX6_possibleMoves_80 : decode cX6_possibleMoves 80 = .ok (.putfield 45, 3) := by decide +kernel
theorem dX6_possibleMoves_83 : decode cX6_possibleMoves 83 = .ok (.iload_n 3, 1) := by decide +kernel
theorem dX6_possibleMoves_84 : decode cX6_possibleMoves 84 = .ok (.ifCond .eq 8, 3) := by decide +kernel
theorem dX6_possibleMoves_87 : decode cX6_possibleMoves 87 = .ok (.iload 7, 2) := by decide +kernel
theorem dX6_possibleMoves_89 : decode cX6_possibleMoves 89 = .ok (.goto 5, 3) := by decide +kernel
theorem dX6_possibleMoves_92 : decode cX6_possibleMoves 92 = .ok (.iload 6, 2) := by decide +kernel
theorem dX6_possibleMoves_94 : decode cX6_possibleMoves 94 = .ok (.ireturn, 1) := by decide +kernel
theorem dX6_shareOfClouds_0 : decode cX6_shareOfClouds 0 = .ok (.aload_n 0, 1) := by decide +kernel
theorem dX6_shareOfClouds_1 : decode cX6_shareOfClouds 1 = .ok (.invokevirtual 9, 3) := by decide +kernel
theorem dX6_shareOfClouds_4 : decode cX6_shareOfClouds 4 = .ok (.aload_n 0, 1) := by decide +kernel
theorem dX6_shareOfClouds_5 : decode cX6_shareOfClouds 5 = .ok (.invokevirtual 24, 3) := by decide +kernel
theorem dX6_shareOfClouds_8 : decode cX6_shareOfClouds 8 = .ok (.istore 4, 2) := by decide +kernel
theorem dX6_shareOfClouds_10 : decode cX6_shareOfClouds 10 = .ok (.iconst 0, 1) := by decide +kernel
theorem dX6_shareOfClouds_11 : decode cX6_shareOfClouds 11 = .ok (.istore 5, 2) := by decide +kernel
theorem dX6_shareOfClouds_13 : decode cX6_shareOfClouds 13 = .ok (.iconst 0, 1) := by decide +kernel
theorem dX6_shareOfClouds_14 : decode cX6_shareOfClouds 14 = .ok (.istore 6, 2) := by decide +kernel
theorem dX6_shareOfClouds_16 : decode cX6_shareOfClouds 16 = .ok (.iconst 0, 1) := by decide +kernel
theorem dX6_shareOfClouds_17 : decode cX6_shareOfClouds 17 = .ok (.istore 7, 2) := by decide +kernel
theorem dX6_shareOfClouds_19 : decode cX6_shareOfClouds 19 = .ok (.iload 7, 2) := by decide +kernel
theorem dX6_shareOfClouds_21 : decode cX6_shareOfClouds 21 = .ok (.iload 4, 2) := by decide +kernel
theorem dX6_shareOfClouds_23 : decode cX6_shareOfClouds 23 = .ok (.if_icmp .gt 49, 3) := by decide +kernel
theorem dX6_shareOfClouds_26 : decode cX6_shareOfClouds 26 = .ok (.iload 7, 2) := by decide +kernel
theorem dX6_shareOfClouds_28 : decode cX6_shareOfClouds 28 = .ok (.iload 4, 2) := by decide +kernel
theorem dX6_shareOfClouds_30 : decode cX6_shareOfClouds 30 = .ok (.iconst (-1), 1) := by decide +kernel
theorem dX6_shareOfClouds_31 : decode cX6_shareOfClouds 31 = .ok (.ixor, 1) := by decide +kernel
theorem dX6_shareOfClouds_32 : decode cX6_shareOfClouds 32 = .ok (.iand, 1) := by decide +kernel
theorem dX6_shareOfClouds_33 : decode cX6_shareOfClouds 33 = .ok (.ifCond .ne 33, 3) := by decide +kernel
theorem dX6_shareOfClouds_36 : decode cX6_shareOfClouds 36 = .ok (.aload_n 0, 1) := by decide +kernel
theorem dX6_shareOfClouds_37 : decode cX6_shareOfClouds 37 = .ok (.iload 7, 2) := by decide +kernel
theorem dX6_shareOfClouds_39 : decode cX6_shareOfClouds 39 = .ok (.bipush 6, 2) := by decide +kernel
theorem dX6_shareOfClouds_41 : decode cX6_shareOfClouds 41 = .ok (.invokevirtual 33, 3) := by decide +kernel
theorem dX6_shareOfClouds_44 : decode cX6_shareOfClouds 44 = .ok (.iload 5, 2) := by decide +kernel
theorem dX6_shareOfClouds_46 : decode cX6_shareOfClouds 46 = .ok (.aload_n 0, 1) := by decide +kernel
theorem dX6_shareOfClouds_47 : decode cX6_shareOfClouds 47 = .ok (.iload_n 1, 1) := by decide +kernel
theorem dX6_shareOfClouds_48 : decode cX6_shareOfClouds 48 = .ok (.iload_n 2, 1) := by decide +kernel
theorem dX6_shareOfClouds_49 : decode cX6_shareOfClouds 49 = .ok (.invokevirtual 37, 3) := by decide +kernel
theorem dX6_shareOfClouds_52 : decode cX6_shareOfClouds 52 = .ok (.ifCond .eq 7, 3) := by decide +kernel
theorem dX6_shareOfClouds_55 : decode cX6_shareOfClouds 55 = .ok (.iconst 1, 1) := by decide +kernel
theorem dX6_shareOfClouds_56 : decode cX6_shareOfClouds 56 = .ok (.goto 4, 3) := by decide +kernel
theorem dX6_shareOfClouds_59 : decode cX6_shareOfClouds 59 = .ok (.iconst 0, 1) := by decide +kernel
theorem dX6_shareOfClouds_60 : decode cX6_shareOfClouds 60 = .ok (.iadd, 1) := by decide +kernel
theorem dX6_shareOfClouds_61 : decode cX6_shareOfClouds 61 = .ok (.istore 5, 2) := by decide +kernel
theorem dX6_shareOfClouds_63 : decode cX6_shareOfClouds 63 = .ok (.iinc 6 1, 3) := by decide +kernel
theorem dX6_shareOfClouds_66 : decode cX6_shareOfClouds 66 = .ok (.iinc 7 1, 3) := by decide +kernel
theorem dX6_shareOfClouds_69 : decode cX6_shareOfClouds 69 = .ok (.goto (-50), 3) := by decide +kernel
theorem dX6_shareOfClouds_72 : decode cX6_shareOfClouds 72 = .ok (.iload 6, 2) := by decide +kernel
theorem dX6_shareOfClouds_74 : decode cX6_shareOfClouds 74 = .ok (.iconst 1, 1) := by decide +kernel
theorem dX6_shareOfClouds_75 : decode cX6_shareOfClouds 75 = .ok (.if_icmp .le 25, 3) := by decide +kernel
theorem dX6_shareOfClouds_78 : decode cX6_shareOfClouds 78 = .ok (.iload 5, 2) := by decide +kernel
theorem dX6_shareOfClouds_80 : decode cX6_shareOfClouds 80 = .ok (.iconst 2, 1) := by decide +kernel
theorem dX6_shareOfClouds_81 : decode cX6_shareOfClouds 81 = .ok (.irem, 1) := by decide +kernel
theorem dX6_shareOfClouds_82 : decode cX6_shareOfClouds 82 = .ok (.ifCond .ne 18, 3) := by decide +kernel
theorem dX6_shareOfClouds_85 : decode cX6_shareOfClouds 85 = .ok (.iload 5, 2) := by decide +kernel
theorem dX6_shareOfClouds_87 : decode cX6_shareOfClouds 87 = .ok (.iconst 2, 1) := by decide +kernel
theorem dX6_shareOfClouds_88 : decode cX6_shareOfClouds 88 = .ok (.idiv, 1) := by decide +kernel
theorem dX6_shareOfClouds_89 : decode cX6_shareOfClouds 89 = .ok (.istore 5, 2) := by decide +kernel
theorem dX6_shareOfClouds_91 : decode cX6_shareOfClouds 91 = .ok (.iload 6, 2) := by decide +kernel
theorem dX6_shareOfClouds_93 : decode cX6_shareOfClouds 93 = .ok (.iconst 2, 1) := by decide +kernel
theorem dX6_shareOfClouds_94 : decode cX6_shareOfClouds 94 = .ok (.idiv, 1) := by decide +kernel
theorem dX6_shareOfClouds_95 : decode cX6_shareOfClouds 95 = .ok (.istore 6, 2) := by decide +kernel
theorem dX6_shareOfClouds_97 : decode cX6_shareOfClouds 97 = .ok (.goto (-25), 3) := by decide +kernel
theorem dX6_shareOfClouds_100 : decode cX6_shareOfClouds 100 = .ok (.iload_n 3, 1) := by decide +kernel
theorem dX6_shareOfClouds_101 : decode cX6_shareOfClouds 101 = .ok (.ifCond .eq 9, 3) := by decide +kernel
theorem dX6_shareOfClouds_104 : decode cX6_shareOfClouds 104 = .ok (.iload 6, 2) := by decide +kernel
theorem dX6_shareOfClouds_106 : decode cX6_shareOfClouds 106 = .ok (.i2l, 1) := by decide +kernel
theorem dX6_shareOfClouds_107 : decode cX6_shareOfClouds 107 = .ok (.goto 6, 3) := by decide +kernel
theorem dX6_shareOfClouds_110 : decode cX6_shareOfClouds 110 = .ok (.iload 5, 2) := by decide +kernel
theorem dX6_shareOfClouds_112 : decode cX6_shareOfClouds 112 = .ok (.i2l, 1) := by decide +kernel
theorem dX6_shareOfClouds_113 : decode cX6_shareOfClouds 113 = .ok (.lreturn, 1) := by decide +kernel
theorem dX7_init_0 : decode cX7_init 0 = .ok (.aload_n 0, 1) := by decide +kernel
theorem dX7_init_1 : decode cX7_init 1 = .ok (.invokespecial 3, 3) := by decide +kernel
theorem dX7_init_4 : decode cX7_init 4 = .ok (.aload_n 0, 1) := by decide +kernel
theorem dX7_init_5 : decode cX7_init 5 = .ok (.new 9, 3) := by decide +kernel
theorem dX7_init_8 : decode cX7_init 8 = .ok (.dup, 1) := by decide +kernel
theorem dX7_init_9 : decode cX7_init 9 = .ok (.invokespecial 11, 3) := by decide +kernel
theorem dX7_init_12 : decode cX7_init 12 = .ok (.putfield 12, 3) := by decide +kernel
theorem dX7_init_15 : decode cX7_init 15 = .ok (.aload_n 0, 1) := by decide +kernel
theorem dX7_init_16 : decode cX7_init 16 = .ok (.new 18, 3) := by decide +kernel
theorem dX7_init_19 : decode cX7_init 19 = .ok (.dup, 1) := by decide +kernel
theorem dX7_init_20 : decode cX7_init 20 = .ok (.invokespecial 20, 3) := by decide +kernel
theorem dX7_init_23 : decode cX7_init 23 = .ok (.putfield 21, 3) := by decide +kernel
theorem dX7_init_26 : decode cX7_init 26 = .ok (.aload_n 0, 1) := by decide +kernel
theorem dX7_init_27 : decode cX7_init 27 = .ok (.iconst 4, 1) := by decide +kernel
theorem dX7_init_28 : decode cX7_init 28 = .ok (.anewarray 25, 3) := by decide +kernel
theorem dX7_init_31 : decode cX7_init 31 = .ok (.putfield 27, 3) := by decide +kernel
theorem dX7_init_34 : decode cX7_init 34 = .ok (.iconst 0, 1) := by decide +kernel
theorem dX7_init_35 : decode cX7_init 35 = .ok (.istore_n 1, 1) := by decide +kernel
theorem dX7_init_36 : decode cX7_init 36 = .ok (.iload_n 1, 1) := by decide +kernel
theorem dX7_init_37 : decode cX7_init 37 = .ok (.iconst 4, 1) := by decide +kernel
theorem dX7_init_38 : decode cX7_init 38 = .ok (.if_icmp .ge 22, 3) := by decide +kernel
theorem dX7_init_41 : decode cX7_init 41 = .ok (.aload_n 0, 1) := by decide +kernel
theorem dX7_init_42 : decode cX7_init 42 = .ok (.getfield 27, 3) := by decide +kernel
theorem dX7_init_45 : decode cX7_init 45 = .ok (.iload_n 1, 1) := by decide +kernel
theorem dX7_init_46 : decode cX7_init 46 = .ok (.new 25, 3) := by decide +kernel
theorem dX7_init_49 : decode cX7_init 49 = .ok (.dup, 1) := by decide +kernel
theorem dX7_init_50 : decode cX7_init 50 = .ok (.invokespecial 31, 3) := by decide +kernel
theorem dX7_init_53 : decode cX7_init 53 = .ok (.aastore, 1) := by decide +kernel
theorem dX7_init_54 : decode cX7_init 54 = .ok (.iinc 1 1, 3) := by decide +kernel
theorem dX7_init_57 : decode cX7_init 57 = .ok (.goto (-21), 3) := by decide +kernel
theorem dX7_init_60 : decode cX7_init 60 = .ok (.return_, 1) := by decide +kernel
theorem dX7_council_0 : decode cX7_council 0 = .ok (.aload_n 0, 1) := by decide +kernel
theorem dX7_council_1 : decode cX7_council 1 = .ok (.iconst 0, 1) := by decide +kernel
theorem dX7_council_2 : decode cX7_council 2 = .ok (.putfield 32, 3) := by decide +kernel
theorem dX7_council_5 : decode cX7_council 5 = .ok (.iload_n 1, 1) := by decide +kernel
theorem dX7_council_6 : decode cX7_council 6 = .ok (.invokestatic 36, 3) := by decide +kernel
theorem dX7_council_9 : decode cX7_council 9 = .ok (.ifCond .eq 5, 3) := by decide +kernel
theorem dX7_council_12 : decode cX7_council 12 = .ok (.iconst (-1), 1) := by decide +kernel
theorem dX7_council_13 : decode cX7_council 13 = .ok (.ireturn, 1) := by decide +kernel
theorem dX7_council_14 : decode cX7_council 14 = .ok (.iload_n 2, 1) := by decide +kernel
theorem dX7_council_15 : decode cX7_council 15 = .ok (.iconst 2, 1) := by decide +kernel
theorem dX7_council_16 : decode cX7_council 16 = .ok (.invokestatic 40, 3) := by decide +kernel
theorem dX7_council_19 : decode cX7_council 19 = .ok (.ifCond .ne 6, 3) := by decide +kernel
theorem dX7_council_22 : decode cX7_council 22 = .ok (.bipush (-2), 2) := by decide +kernel
theorem dX7_council_24 : decode cX7_council 24 = .ok (.ireturn, 1) := by decide +kernel
theorem dX7_council_25 : decode cX7_council 25 = .ok (.aload_n 0, 1) := by decide +kernel
theorem dX7_council_26 : decode cX7_council 26 = .ok (.getfield 27, 3) := by decide +kernel
theorem dX7_council_29 : decode cX7_council 29 = .ok (.iload_n 1, 1) := by decide +kernel
end
section
theorem dX7_council_30 : decode cX7_council 30 = .ok (.aaload, 1) := by decide +kernel
theorem dX7_council_31 : decode cX7_council 31 = .ok (.astore 5, 2) := by decide +kernel
theorem dX7_council_33 : decode cX7_council 33 = .ok (.aload 5, 2) := by decide +kernel
theorem dX7_council_35 : decode cX7_council 35 = .ok (.iload_n 2, 1) := by decide +kernel
theorem dX7_council_36 : decode cX7_council 36 = .ok (.iload_n 3, 1) := by decide +kernel
theorem dX7_council_37 : decode cX7_council 37 = .ok (.iload 4, 2) := by decide +kernel
theorem dX7_council_39 : decode cX7_council 39 = .ok (.invokevirtual 44, 3) := by decide +kernel
theorem dX7_council_42 : decode cX7_council 42 = .ok (.istore 6, 2) := by decide +kernel
theorem dX7_council_44 : decode cX7_council 44 = .ok (.iload 6, 2) := by decide +kernel
theorem dX7_council_46 : decode cX7_council 46 = .ok (.ifCond .eq 10, 3) := by decide +kernel
theorem dX7_council_49 : decode cX7_council 49 = .ok (.aload_n 0, 1) := by decide +kernel
theorem dX7_council_50 : decode cX7_council 50 = .ok (.iload 6, 2) := by decide +kernel
theorem dX7_council_52 : decode cX7_council 52 = .ok (.invokevirtual 48, 3) := by decide +kernel
theorem dX7_council_55 : decode cX7_council 55 = .ok (.ireturn, 1) := by decide +kernel
theorem dX7_council_56 : decode cX7_council 56 = .ok (.aload 5, 2) := by decide +kernel
theorem dX7_council_58 : decode cX7_council 58 = .ok (.iload_n 3, 1) := by decide +kernel
theorem dX7_council_59 : decode cX7_council 59 = .ok (.iload 4, 2) := by decide +kernel
theorem dX7_council_61 : decode cX7_council 61 = .ok (.invokestatic 52, 3) := by decide +kernel
theorem dX7_council_64 : decode cX7_council 64 = .ok (.istore 7, 2) := by decide +kernel
theorem dX7_council_66 : decode cX7_council 66 = .ok (.iload 7, 2) := by decide +kernel
theorem dX7_council_68 : decode cX7_council 68 = .ok (.bipush (-9), 2) := by decide +kernel
theorem dX7_council_70 : decode cX7_council 70 = .ok (.if_icmp .eq 9, 3) := by decide +kernel
theorem dX7_council_73 : decode cX7_council 73 = .ok (.bipush (-100), 2) := by decide +kernel
theorem dX7_council_75 : decode cX7_council 75 = .ok (.iload 7, 2) := by decide +kernel
theorem dX7_council_77 : decode cX7_council 77 = .ok (.isub, 1) := by decide +kernel
theorem dX7_council_78 : decode cX7_council 78 = .ok (.ireturn, 1) := by decide +kernel
theorem dX7_council_79 : decode cX7_council 79 = .ok (.aload_n 0, 1) := by decide +kernel
theorem dX7_council_80 : decode cX7_council 80 = .ok (.getfield 12, 3) := by decide +kernel
theorem dX7_council_83 : decode cX7_council 83 = .ok (.aload 5, 2) := by decide +kernel
theorem dX7_council_85 : decode cX7_council 85 = .ok (.iload_n 3, 1) := by decide +kernel
theorem dX7_council_86 : decode cX7_council 86 = .ok (.iload 4, 2) := by decide +kernel
theorem dX7_council_88 : decode cX7_council 88 = .ok (.invokevirtual 58, 3) := by decide +kernel
theorem dX7_council_91 : decode cX7_council 91 = .ok (.aload_n 0, 1) := by decide +kernel
theorem dX7_council_92 : decode cX7_council 92 = .ok (.getfield 21, 3) := by decide +kernel
theorem dX7_council_95 : decode cX7_council 95 = .ok (.iconst 0, 1) := by decide +kernel
theorem dX7_council_96 : decode cX7_council 96 = .ok (.putfield 62, 3) := by decide +kernel
theorem dX7_council_99 : decode cX7_council 99 = .ok (.aload_n 0, 1) := by decide +kernel
theorem dX7_council_100 : decode cX7_council 100 = .ok (.getfield 12, 3) := by decide +kernel
theorem dX7_council_103 : decode cX7_council 103 = .ok (.getfield 65, 3) := by decide +kernel
theorem dX7_council_106 : decode cX7_council 106 = .ok (.ireturn, 1) := by decide +kernel
theorem dX7_ofBill_0 : decode cX7_ofBill 0 = .ok (.aload_n 0, 1) := by decide +kernel
theorem dX7_ofBill_1 : decode cX7_ofBill 1 = .ok (.iload_n 1, 1) := by decide +kernel
theorem dX7_ofBill_2 : decode cX7_ofBill 2 = .ok (.invokevirtual 66, 3) := by decide +kernel
theorem dX7_ofBill_5 : decode cX7_ofBill 5 = .ok (.ifCond .eq 5, 3) := by decide +kernel
theorem dX7_ofBill_8 : decode cX7_ofBill 8 = .ok (.iconst (-1), 1) := by decide +kernel
theorem dX7_ofBill_9 : decode cX7_ofBill 9 = .ok (.ireturn, 1) := by decide +kernel
theorem dX7_ofBill_10 : decode cX7_ofBill 10 = .ok (.aload_n 0, 1) := by decide +kernel
theorem dX7_ofBill_11 : decode cX7_ofBill 11 = .ok (.getfield 12, 3) := by decide +kernel
theorem dX7_ofBill_14 : decode cX7_ofBill 14 = .ok (.getfield 69, 3) := by decide +kernel
theorem dX7_ofBill_17 : decode cX7_ofBill 17 = .ok (.iload_n 1, 1) := by decide +kernel
theorem dX7_ofBill_18 : decode cX7_ofBill 18 = .ok (.aaload, 1) := by decide +kernel
theorem dX7_ofBill_19 : decode cX7_ofBill 19 = .ok (.astore_n 3, 1) := by decide +kernel
theorem dX7_ofBill_20 : decode cX7_ofBill 20 = .ok (.iload_n 2, 1) := by decide +kernel
theorem dX7_ofBill_21 : decode cX7_ofBill 21 = .ok (.tableswitch 60 0 4 #[35, 40, 45, 50, 55], 35) := by decide +kernel
theorem dX7_ofBill_56 : decode cX7_ofBill 56 = .ok (.aload_n 3, 1) := by decide +kernel
theorem dX7_ofBill_57 : decode cX7_ofBill 57 = .ok (.getfield 73, 3) := by decide +kernel
theorem dX7_ofBill_60 : decode cX7_ofBill 60 = .ok (.ireturn, 1) := by decide +kernel
theorem dX7_ofBill_61 : decode cX7_ofBill 61 = .ok (.aload_n 3, 1) := by decide +kernel
theorem dX7_ofBill_62 : decode cX7_ofBill 62 = .ok (.getfield 78, 3) := by decide +kernel
theorem dX7_ofBill_65 : decode cX7_ofBill 65 = .ok (.ireturn, 1) := by decide +kernel
theorem dX7_ofBill_66 : decode cX7_ofBill 66 = .ok (.aload_n 3, 1) := by decide +kernel
theorem dX7_ofBill_67 : decode cX7_ofBill 67 = .ok (.getfield 81, 3) := by decide +kernel
theorem dX7_ofBill_70 : decode cX7_ofBill 70 = .ok (.ireturn, 1) := by decide +kernel
theorem dX7_ofBill_71 : decode cX7_ofBill 71 = .ok (.aload_n 3, 1) := by decide +kernel
theorem dX7_ofBill_72 : decode cX7_ofBill 72 = .ok (.getfield 84, 3) := by decide +kernel
theorem dX7_ofBill_75 : decode cX7_ofBill 75 = .ok (.ireturn, 1) := by decide +kernel
theorem dX7_ofBill_76 : decode cX7_ofBill 76 = .ok (.aload_n 3, 1) := by decide +kernel
theorem dX7_ofBill_77 : decode cX7_ofBill 77 = .ok (.getfield 87, 3) := by decide +kernel
theorem dX7_ofBill_80 : decode cX7_ofBill 80 = .ok (.ireturn, 1) := by decide +kernel
theorem dX7_ofBill_81 : decode cX7_ofBill 81 = .ok (.bipush (-2), 2) := by decide +kernel
theorem dX7_ofBill_83 : decode cX7_ofBill 83 = .ok (.ireturn, 1) := by decide +kernel
theorem dX7_moon_0 : decode cX7_moon 0 = .ok (.iload_n 1, 1) := by decide +kernel
theorem dX7_moon_1 : decode cX7_moon 1 = .ok (.bipush 99, 2) := by decide +kernel
theorem dX7_moon_3 : decode cX7_moon 3 = .ok (.invokestatic 40, 3) := by decide +kernel
theorem dX7_moon_6 : decode cX7_moon 6 = .ok (.ifCond .ne 6, 3) := by decide +kernel
theorem dX7_moon_9 : decode cX7_moon 9 = .ok (.bipush (-2), 2) := by decide +kernel
theorem dX7_moon_11 : decode cX7_moon 11 = .ok (.ireturn, 1) := by decide +kernel
theorem dX7_moon_12 : decode cX7_moon 12 = .ok (.aload_n 0, 1) := by decide +kernel
theorem dX7_moon_13 : decode cX7_moon 13 = .ok (.invokevirtual 90, 3) := by decide +kernel
theorem dX7_moon_16 : decode cX7_moon 16 = .ok (.ifCond .eq 6, 3) := by decide +kernel
theorem dX7_moon_19 : decode cX7_moon 19 = .ok (.bipush (-3), 2) := by decide +kernel
theorem dX7_moon_21 : decode cX7_moon 21 = .ok (.ireturn, 1) := by decide +kernel
theorem dX7_moon_22 : decode cX7_moon 22 = .ok (.aload_n 0, 1) := by decide +kernel
theorem dX7_moon_23 : decode cX7_moon 23 = .ok (.getfield 12, 3) := by decide +kernel
theorem dX7_moon_26 : decode cX7_moon 26 = .ok (.getfield 94, 3) := by decide +kernel
theorem dX7_moon_29 : decode cX7_moon 29 = .ok (.iload_n 1, 1) := by decide +kernel
theorem dX7_moon_30 : decode cX7_moon 30 = .ok (.invokevirtual 98, 3) := by decide +kernel
theorem dX7_moon_33 : decode cX7_moon 33 = .ok (.ireturn, 1) := by decide +kernel
theorem dX7_span_0 : decode cX7_span 0 = .ok (.iload_n 1, 1) := by decide +kernel
theorem dX7_span_1 : decode cX7_span 1 = .ok (.bipush 9, 2) := by decide +kernel
theorem dX7_span_3 : decode cX7_span 3 = .ok (.invokestatic 40, 3) := by decide +kernel
theorem dX7_span_6 : decode cX7_span 6 = .ok (.ifCond .ne 6, 3) := by decide +kernel
theorem dX7_span_9 : decode cX7_span 9 = .ok (.bipush (-2), 2) := by decide +kernel
theorem dX7_span_11 : decode cX7_span 11 = .ok (.ireturn, 1) := by decide +kernel
theorem dX7_span_12 : decode cX7_span 12 = .ok (.aload_n 0, 1) := by decide +kernel
theorem dX7_span_13 : decode cX7_span 13 = .ok (.invokevirtual 90, 3) := by decide +kernel
theorem dX7_span_16 : decode cX7_span 16 = .ok (.ifCond .eq 6, 3) := by decide +kernel
theorem dX7_span_19 : decode cX7_span 19 = .ok (.bipush (-3), 2) := by decide +kernel
theorem dX7_span_21 : decode cX7_span 21 = .ok (.ireturn, 1) := by decide +kernel
theorem dX7_span_22 : decode cX7_span 22 = .ok (.aload_n 0, 1) := by decide +kernel
theorem dX7_span_23 : decode cX7_span 23 = .ok (.getfield 12, 3) := by decide +kernel
theorem dX7_span_26 : decode cX7_span 26 = .ok (.getfield 103, 3) := by decide +kernel
theorem dX7_span_29 : decode cX7_span 29 = .ok (.istore_n 2, 1) := by decide +kernel
theorem dX7_span_30 : decode cX7_span 30 = .ok (.aload_n 0, 1) := by decide +kernel
theorem dX7_span_31 : decode cX7_span 31 = .ok (.getfield 12, 3) := by decide +kernel
theorem dX7_span_34 : decode cX7_span 34 = .ok (.iload_n 1, 1) := by decide +kernel
theorem dX7_span_35 : decode cX7_span 35 = .ok (.putfield 103, 3) := by decide +kernel
theorem dX7_span_38 : decode cX7_span 38 = .ok (.iload_n 2, 1) := by decide +kernel
theorem dX7_span_39 : decode cX7_span 39 = .ok (.ireturn, 1) := by decide +kernel
theorem dX7_move_0 : decode cX7_move 0 = .ok (.aload_n 0, 1) := by decide +kernel
theorem dX7_move_1 : decode cX7_move 1 = .ok (.iload_n 1, 1) := by decide +kernel
theorem dX7_move_2 : decode cX7_move 2 = .ok (.invokevirtual 66, 3) := by decide +kernel
theorem dX7_move_5 : decode cX7_move 5 = .ok (.ifCond .eq 5, 3) := by decide +kernel
theorem dX7_move_8 : decode cX7_move 8 = .ok (.iconst (-1), 1) := by decide +kernel
theorem dX7_move_9 : decode cX7_move 9 = .ok (.ireturn, 1) := by decide +kernel
theorem dX7_move_10 : decode cX7_move 10 = .ok (.iload_n 2, 1) := by decide +kernel
theorem dX7_move_11 : decode cX7_move 11 = .ok (.bipush 99, 2) := by decide +kernel
theorem dX7_move_13 : decode cX7_move 13 = .ok (.invokestatic 40, 3) := by decide +kernel
theorem dX7_move_16 : decode cX7_move 16 = .ok (.ifCond .ne 6, 3) := by decide +kernel
theorem dX7_move_19 : decode cX7_move 19 = .ok (.bipush (-2), 2) := by decide +kernel
theorem dX7_move_21 : decode cX7_move 21 = .ok (.ireturn, 1) := by decide +kernel
theorem dX7_move_22 : decode cX7_move 22 = .ok (.aload_n 0, 1) := by decide +kernel
theorem dX7_move_23 : decode cX7_move 23 = .ok (.getfield 12, 3) := by decide +kernel
theorem dX7_move_26 : decode cX7_move 26 = .ok (.getfield 69, 3) := by decide +kernel
theorem dX7_move_29 : decode cX7_move 29 = .ok (.iload_n 1, 1) := by decide +kernel
theorem dX7_move_30 : decode cX7_move 30 = .ok (.aaload, 1) := by decide +kernel
theorem dX7_move_31 : decode cX7_move 31 = .ok (.getfield 78, 3) := by decide +kernel
theorem dX7_move_34 : decode cX7_move 34 = .ok (.istore_n 3, 1) := by decide +kernel
theorem dX7_move_35 : decode cX7_move 35 = .ok (.aload_n 0, 1) := by decide +kernel
theorem dX7_move_36 : decode cX7_move 36 = .ok (.getfield 12, 3) := by decide +kernel
theorem dX7_move_39 : decode cX7_move 39 = .ok (.getfield 69, 3) := by decide +kernel
theorem dX7_move_42 : decode cX7_move 42 = .ok (.iload_n 1, 1) := by decide +kernel
theorem dX7_move_43 : decode cX7_move 43 = .ok (.aaload, 1) := by decide +kernel
theorem dX7_move_44 : decode cX7_move 44 = .ok (.iload_n 2, 1) := by decide +kernel
theorem dX7_move_45 : decode cX7_move 45 = .ok (.putfield 78, 3) := by decide +kernel
theorem dX7_move_48 : decode cX7_move 48 = .ok (.iload_n 3, 1) := by decide +kernel
theorem dX7_move_49 : decode cX7_move 49 = .ok (.ireturn, 1) := by decide +kernel
theorem dX7_cloud_0 : decode cX7_cloud 0 = .ok (.iload_n 1, 1) := by decide +kernel
theorem dX7_cloud_1 : decode cX7_cloud 1 = .ok (.bipush 109, 2) := by decide +kernel
theorem dX7_cloud_3 : decode cX7_cloud 3 = .ok (.invokestatic 40, 3) := by decide +kernel
theorem dX7_cloud_6 : decode cX7_cloud 6 = .ok (.ifCond .ne 6, 3) := by decide +kernel
theorem dX7_cloud_9 : decode cX7_cloud 9 = .ok (.bipush (-2), 2) := by decide +kernel
theorem dX7_cloud_11 : decode cX7_cloud 11 = .ok (.ireturn, 1) := by decide +kernel
theorem dX7_cloud_12 : decode cX7_cloud 12 = .ok (.aload_n 0, 1) := by decide +kernel
theorem dX7_cloud_13 : decode cX7_cloud 13 = .ok (.invokevirtual 90, 3) := by decide +kernel
theorem dX7_cloud_16 : decode cX7_cloud 16 = .ok (.ifCond .eq 6, 3) := by decide +kernel
theorem dX7_cloud_19 : decode cX7_cloud 19 = .ok (.bipush (-3), 2) := by decide +kernel
theorem dX7_cloud_21 : decode cX7_cloud 21 = .ok (.ireturn, 1) := by decide +kernel
theorem dX7_cloud_22 : decode cX7_cloud 22 = .ok (.aload_n 0, 1) := by decide +kernel
theorem dX7_cloud_23 : decode cX7_cloud 23 = .ok (.getfield 12, 3) := by decide +kernel
theorem dX7_cloud_26 : decode cX7_cloud 26 = .ok (.getfield 94, 3) := by decide +kernel
theorem dX7_cloud_29 : decode cX7_cloud 29 = .ok (.iload_n 1, 1) := by decide +kernel
theorem dX7_cloud_30 : decode cX7_cloud 30 = .ok (.iload_n 2, 1) := by decide +kernel
theorem dX7_cloud_31 : decode cX7_cloud 31 = .ok (.invokevirtual 106, 3) := by decide +kernel
theorem dX7_cloud_34 : decode cX7_cloud 34 = .ok (.ifCond .eq 7, 3) := by decide +kernel
theorem dX7_cloud_37 : decode cX7_cloud 37 = .ok (.iconst 1, 1) := by decide +kernel
theorem dX7_cloud_38 : decode cX7_cloud 38 = .ok (.goto 4, 3) := by decide +kernel
theorem dX7_cloud_41 : decode cX7_cloud 41 = .ok (.iconst 0, 1) := by decide +kernel
theorem dX7_cloud_42 : decode cX7_cloud 42 = .ok (.ireturn, 1) := by decide +kernel
theorem dX7_struck_0 : decode cX7_struck 0 = .ok (.aload_n 0, 1) := by decide +kernel
theorem dX7_struck_1 : decode cX7_struck 1 = .ok (.iload_n 1, 1) := by decide +kernel
theorem dX7_struck_2 : decode cX7_struck 2 = .ok (.invokevirtual 66, 3) := by decide +kernel
theorem dX7_struck_5 : decode cX7_struck 5 = .ok (.ifCond .eq 5, 3) := by decide +kernel
theorem dX7_struck_8 : decode cX7_struck 8 = .ok (.iconst (-1), 1) := by decide +kernel
theorem dX7_struck_9 : decode cX7_struck 9 = .ok (.ireturn, 1) := by decide +kernel
theorem dX7_struck_10 : decode cX7_struck 10 = .ok (.aload_n 0, 1) := by decide +kernel
theorem dX7_struck_11 : decode cX7_struck 11 = .ok (.getfield 12, 3) := by decide +kernel
theorem dX7_struck_14 : decode cX7_struck 14 = .ok (.invokevirtual 110, 3) := by decide +kernel
theorem dX7_struck_17 : decode cX7_struck 17 = .ok (.aload_n 0, 1) := by decide +kernel
theorem dX7_struck_18 : decode cX7_struck 18 = .ok (.getfield 12, 3) := by decide +kernel
theorem dX7_struck_21 : decode cX7_struck 21 = .ok (.getfield 69, 3) := by decide +kernel
theorem dX7_struck_24 : decode cX7_struck 24 = .ok (.iload_n 1, 1) := by decide +kernel
theorem dX7_struck_25 : decode cX7_struck 25 = .ok (.aaload, 1) := by decide +kernel
theorem dX7_struck_26 : decode cX7_struck 26 = .ok (.getfield 113, 3) := by decide +kernel
theorem dX7_struck_29 : decode cX7_struck 29 = .ok (.aload_n 0, 1) := by decide +kernel
theorem dX7_struck_30 : decode cX7_struck 30 = .ok (.getfield 12, 3) := by decide +kernel
theorem dX7_struck_33 : decode cX7_struck 33 = .ok (.getfield 94, 3) := by decide +kernel
theorem dX7_struck_36 : decode cX7_struck 36 = .ok (.invokevirtual 116, 3) := by decide +kernel
theorem dX7_struck_39 : decode cX7_struck 39 = .ok (.iconst (-1), 1) := by decide +kernel
theorem dX7_struck_40 : decode cX7_struck 40 = .ok (.ixor, 1) := by decide +kernel
theorem dX7_struck_41 : decode cX7_struck 41 = .ok (.iand, 1) := by decide +kernel
theorem dX7_struck_42 : decode cX7_struck 42 = .ok (.istore_n 2, 1) := by decide +kernel
theorem dX7_struck_43 : decode cX7_struck 43 = .ok (.iload_n 2, 1) := by decide +kernel
theorem dX7_struck_44 : decode cX7_struck 44 = .ok (.ifCond .ne 8, 3) := by decide +kernel
theorem dX7_struck_47 : decode cX7_struck 47 = .ok (.bipush (-9), 2) := by decide +kernel
theorem dX7_struck_49 : decode cX7_struck 49 = .ok (.goto 17, 3) := by decide +kernel
theorem dX7_struck_52 : decode cX7_struck 52 = .ok (.aload_n 0, 1) := by decide +kernel
theorem dX7_struck_53 : decode cX7_struck 53 = .ok (.getfield 12, 3) := by decide +kernel
theorem dX7_struck_56 : decode cX7_struck 56 = .ok (.getfield 94, 3) := by decide +kernel
theorem dX7_struck_59 : decode cX7_struck 59 = .ok (.iload_n 2, 1) := by decide +kernel
theorem dX7_struck_60 : decode cX7_struck 60 = .ok (.invokestatic 120, 3) := by decide +kernel
theorem dX7_struck_63 : decode cX7_struck 63 = .ok (.invokevirtual 98, 3) := by decide +kernel
theorem dX7_struck_66 : decode cX7_struck 66 = .ok (.ireturn, 1) := by decide +kernel
theorem dX7_passing_0 : decode cX7_passing 0 = .ok (.aload_n 0, 1) := by decide +kernel
theorem dX7_passing_1 : decode cX7_passing 1 = .ok (.invokevirtual 90, 3) := by decide +kernel
theorem dX7_passing_4 : decode cX7_passing 4 = .ok (.ifCond .eq 6, 3) := by decide +kernel
theorem dX7_passing_7 : decode cX7_passing 7 = .ok (.bipush (-3), 2) := by decide +kernel
theorem dX7_passing_9 : decode cX7_passing 9 = .ok (.ireturn, 1) := by decide +kernel
theorem dX7_passing_10 : decode cX7_passing 10 = .ok (.aload_n 0, 1) := by decide +kernel
theorem dX7_passing_11 : decode cX7_passing 11 = .ok (.getfield 12, 3) := by decide +kernel
theorem dX7_passing_14 : decode cX7_passing 14 = .ok (.invokevirtual 110, 3) := by decide +kernel
theorem dX7_passing_17 : decode cX7_passing 17 = .ok (.aload_n 0, 1) := by decide +kernel
theorem dX7_passing_18 : decode cX7_passing 18 = .ok (.getfield 12, 3) := by decide +kernel
theorem dX7_passing_21 : decode cX7_passing 21 = .ok (.getfield 125, 3) := by decide +kernel
theorem dX7_passing_24 : decode cX7_passing 24 = .ok (.ireturn, 1) := by decide +kernel
theorem dX7_force_0 : decode cX7_force 0 = .ok (.iload_n 1, 1) := by decide +kernel
theorem dX7_force_1 : decode cX7_force 1 = .ok (.bipush 109, 2) := by decide +kernel
theorem dX7_force_3 : decode cX7_force 3 = .ok (.invokestatic 40, 3) := by decide +kernel
theorem dX7_force_6 : decode cX7_force 6 = .ok (.ifCond .ne 6, 3) := by decide +kernel
theorem dX7_force_9 : decode cX7_force 9 = .ok (.bipush (-2), 2) := by decide +kernel
theorem dX7_force_11 : decode cX7_force 11 = .ok (.ireturn, 1) := by decide +kernel
theorem dX7_force_12 : decode cX7_force 12 = .ok (.aload_n 0, 1) := by decide +kernel
theorem dX7_force_13 : decode cX7_force 13 = .ok (.invokevirtual 90, 3) := by decide +kernel
theorem dX7_force_16 : decode cX7_force 16 = .ok (.ifCond .eq 6, 3) := by decide +kernel
theorem dX7_force_19 : decode cX7_force 19 = .ok (.bipush (-3), 2) := by decide +kernel
theorem dX7_force_21 : decode cX7_force 21 = .ok (.ireturn, 1) := by decide +kernel
theorem dX7_force_22 : decode cX7_force 22 = .ok (.aload_n 0, 1) := by decide +kernel
theorem dX7_force_23 : decode cX7_force 23 = .ok (.getfield 12, 3) := by decide +kernel
theorem dX7_force_26 : decode cX7_force 26 = .ok (.invokevirtual 110, 3) := by decide +kernel
theorem dX7_force_29 : decode cX7_force 29 = .ok (.aload_n 0, 1) := by decide +kernel
theorem dX7_force_30 : decode cX7_force 30 = .ok (.getfield 12, 3) := by decide +kernel
theorem dX7_force_33 : decode cX7_force 33 = .ok (.iload_n 1, 1) := by decide +kernel
theorem dX7_force_34 : decode cX7_force 34 = .ok (.invokevirtual 128, 3) := by decide +kernel
theorem dX7_force_37 : decode cX7_force 37 = .ok (.ireturn, 1) := by decide +kernel
theorem dX7_holds_0 : decode cX7_holds 0 = .ok (.aload_n 0, 1) := by decide +kernel
theorem dX7_holds_1 : decode cX7_holds 1 = .ok (.iload_n 1, 1) := by decide +kernel
theorem dX7_holds_2 : decode cX7_holds 2 = .ok (.invokevirtual 66, 3) := by decide +kernel
theorem dX7_holds_5 : decode cX7_holds 5 = .ok (.ifCond .eq 5, 3) := by decide +kernel
theorem dX7_holds_8 : decode cX7_holds 8 = .ok (.iconst (-1), 1) := by decide +kernel
theorem dX7_holds_9 : decode cX7_holds 9 = .ok (.ireturn, 1) := by decide +kernel
theorem dX7_holds_10 : decode cX7_holds 10 = .ok (.aload_n 0, 1) := by decide +kernel
theorem dX7_holds_11 : decode cX7_holds 11 = .ok (.getfield 12, 3) := by decide +kernel
theorem dX7_holds_14 : decode cX7_holds 14 = .ok (.invokevirtual 110, 3) := by decide +kernel
theorem dX7_holds_17 : decode cX7_holds 17 = .ok (.aload_n 0, 1) := by decide +kernel
theorem dX7_holds_18 : decode cX7_holds 18 = .ok (.getfield 12, 3) := by decide +kernel
theorem dX7_holds_21 : decode cX7_holds 21 = .ok (.iload_n 1, 1) := by decide +kernel
theorem dX7_holds_22 : decode cX7_holds 22 = .ok (.invokevirtual 131, 3) := by decide +kernel
theorem dX7_holds_25 : decode cX7_holds 25 = .ok (.ireturn, 1) := by decide +kernel
theorem dX7_chronicle_0 : decode cX7_chronicle 0 = .ok (.aload_n 0, 1) := by decide +kernel
theorem dX7_chronicle_1 : decode cX7_chronicle 1 = .ok (.iconst 0, 1) := by decide +kernel
theorem dX7_chronicle_2 : decode cX7_chronicle 2 = .ok (.putfield 32, 3) := by decide +kernel
theorem dX7_chronicle_5 : decode cX7_chronicle 5 = .ok (.iload_n 1, 1) := by decide +kernel
theorem dX7_chronicle_6 : decode cX7_chronicle 6 = .ok (.invokestatic 36, 3) := by decide +kernel
theorem dX7_chronicle_9 : decode cX7_chronicle 9 = .ok (.ifCond .eq 5, 3) := by decide +kernel
theorem dX7_chronicle_12 : decode cX7_chronicle 12 = .ok (.iconst (-1), 1) := by decide +kernel
theorem dX7_chronicle_13 : decode cX7_chronicle 13 = .ok (.ireturn, 1) := by decide +kernel
theorem dX7_chronicle_14 : decode cX7_chronicle 14 = .ok (.iload_n 2, 1) := by decide +kernel
theorem dX7_chronicle_15 : decode cX7_chronicle 15 = .ok (.iconst 2, 1) := by decide +kernel
theorem dX7_chronicle_16 : decode cX7_chronicle 16 = .ok (.invokestatic 40, 3) := by decide +kernel
theorem dX7_chronicle_19 : decode cX7_chronicle 19 = .ok (.ifCond .ne 6, 3) := by decide +kernel
theorem dX7_chronicle_22 : decode cX7_chronicle 22 = .ok (.bipush (-2), 2) := by decide +kernel
theorem dX7_chronicle_24 : decode cX7_chronicle 24 = .ok (.ireturn, 1) := by decide +kernel
theorem dX7_chronicle_25 : decode cX7_chronicle 25 = .ok (.aload_n 0, 1) := by decide +kernel
theorem dX7_chronicle_26 : decode cX7_chronicle 26 = .ok (.getfield 27, 3) := by decide +kernel
theorem dX7_chronicle_29 : decode cX7_chronicle 29 = .ok (.iload_n 1, 1) := by decide +kernel
theorem dX7_chronicle_30 : decode cX7_chronicle 30 = .ok (.aaload, 1) := by decide +kernel
theorem dX7_chronicle_31 : decode cX7_chronicle 31 = .ok (.astore 5, 2) := by decide +kernel
theorem dX7_chronicle_33 : decode cX7_chronicle 33 = .ok (.aload 5, 2) := by decide +kernel
theorem dX7_chronicle_35 : decode cX7_chronicle 35 = .ok (.iload_n 2, 1) := by decide +kernel
theorem dX7_chronicle_36 : decode cX7_chronicle 36 = .ok (.iload_n 3, 1) := by decide +kernel
theorem dX7_chronicle_37 : decode cX7_chronicle 37 = .ok (.iload 4, 2) := by decide +kernel
theorem dX7_chronicle_39 : decode cX7_chronicle 39 = .ok (.invokevirtual 44, 3) := by decide +kernel
theorem dX7_chronicle_42 : decode cX7_chronicle 42 = .ok (.istore 6, 2) := by decide +kernel
theorem dX7_chronicle_44 : decode cX7_chronicle 44 = .ok (.iload 6, 2) := by decide +kernel
theorem dX7_chronicle_46 : decode cX7_chronicle 46 = .ok (.ifCond .eq 10, 3) := by decide +kernel
theorem dX7_chronicle_49 : decode cX7_chronicle 49 = .ok (.aload_n 0, 1) := by decide +kernel
theorem dX7_chronicle_50 : decode cX7_chronicle 50 = .ok (.iload 6, 2) := by decide +kernel
theorem dX7_chronicle_52 : decode cX7_chronicle 52 = .ok (.invokevirtual 48, 3) := by decide +kernel
theorem dX7_chronicle_55 : decode cX7_chronicle 55 = .ok (.ireturn, 1) := by decide +kernel
theorem dX7_chronicle_56 : decode cX7_chronicle 56 = .ok (.aload_n 0, 1) := by decide +kernel
theorem dX7_chronicle_57 : decode cX7_chronicle 57 = .ok (.invokevirtual 90, 3) := by decide +kernel
theorem dX7_chronicle_60 : decode cX7_chronicle 60 = .ok (.ifCond .eq 6, 3) := by decide +kernel
theorem dX7_chronicle_63 : decode cX7_chronicle 63 = .ok (.bipush (-3), 2) := by decide +kernel
theorem dX7_chronicle_65 : decode cX7_chronicle 65 = .ok (.ireturn, 1) := by decide +kernel
theorem dX7_chronicle_66 : decode cX7_chronicle 66 = .ok (.aload_n 0, 1) := by decide +kernel
theorem dX7_chronicle_67 : decode cX7_chronicle 67 = .ok (.getfield 12, 3) := by decide +kernel
theorem dX7_chronicle_70 : decode cX7_chronicle 70 = .ok (.invokevirtual 110, 3) := by decide +kernel
theorem dX7_chronicle_73 : decode cX7_chronicle 73 = .ok (.iconst 0, 1) := by decide +kernel
theorem dX7_chronicle_74 : decode cX7_chronicle 74 = .ok (.istore 7, 2) := by decide +kernel
theorem dX7_chronicle_76 : decode cX7_chronicle 76 = .ok (.iload 7, 2) := by decide +kernel
theorem dX7_chronicle_78 : decode cX7_chronicle 78 = .ok (.iload 4, 2) := by decide +kernel
theorem dX7_chronicle_80 : decode cX7_chronicle 80 = .ok (.if_icmp .ge 34, 3) := by decide +kernel
theorem dX7_chronicle_83 : decode cX7_chronicle 83 = .ok (.aload 5, 2) := by decide +kernel
theorem dX7_chronicle_85 : decode cX7_chronicle 85 = .ok (.getfield 134, 3) := by decide +kernel
theorem dX7_chronicle_88 : decode cX7_chronicle 88 = .ok (.iload_n 3, 1) := by decide +kernel
theorem dX7_chronicle_89 : decode cX7_chronicle 89 = .ok (.iload 7, 2) := by decide +kernel
theorem dX7_chronicle_91 : decode cX7_chronicle 91 = .ok (.iadd, 1) := by decide +kernel
theorem dX7_chronicle_92 : decode cX7_chronicle 92 = .ok (.iaload, 1) := by decide +kernel
theorem dX7_chronicle_93 : decode cX7_chronicle 93 = .ok (.aload_n 0, 1) := by decide +kernel
theorem dX7_chronicle_94 : decode cX7_chronicle 94 = .ok (.getfield 12, 3) := by decide +kernel
theorem dX7_chronicle_97 : decode cX7_chronicle 97 = .ok (.iload 7, 2) := by decide +kernel
theorem dX7_chronicle_99 : decode cX7_chronicle 99 = .ok (.invokevirtual 128, 3) := by decide +kernel
theorem dX7_chronicle_102 : decode cX7_chronicle 102 = .ok (.if_icmp .eq 6, 3) := by decide +kernel
theorem dX7_chronicle_105 : decode cX7_chronicle 105 = .ok (.iload 7, 2) := by decide +kernel
theorem dX7_chronicle_107 : decode cX7_chronicle 107 = .ok (.ireturn, 1) := by decide +kernel
theorem dX7_chronicle_108 : decode cX7_chronicle 108 = .ok (.iinc 7 1, 3) := by decide +kernel
theorem dX7_chronicle_111 : decode cX7_chronicle 111 = .ok (.goto (-35), 3) := by decide +kernel
theorem dX7_chronicle_114 : decode cX7_chronicle 114 = .ok (.bipush (-9), 2) := by decide +kernel
theorem dX7_chronicle_116 : decode cX7_chronicle 116 = .ok (.ireturn, 1) := by decide +kernel
theorem dX7_buy_0 : decode cX7_buy 0 = .ok (.aload_n 0, 1) := by decide +kernel
theorem dX7_buy_1 : decode cX7_buy 1 = .ok (.iload_n 1, 1) := by decide +kernel
theorem dX7_buy_2 : decode cX7_buy 2 = .ok (.invokevirtual 66, 3) := by decide +kernel
theorem dX7_buy_5 : decode cX7_buy 5 = .ok (.ifCond .eq 5, 3) := by decide +kernel
theorem dX7_buy_8 : decode cX7_buy 8 = .ok (.iconst (-1), 1) := by decide +kernel
theorem dX7_buy_9 : decode cX7_buy 9 = .ok (.ireturn, 1) := by decide +kernel
theorem dX7_buy_10 : decode cX7_buy 10 = .ok (.iload_n 2, 1) := by decide +kernel
theorem dX7_buy_11 : decode cX7_buy 11 = .ok (.bipush 109, 2) := by decide +kernel
theorem dX7_buy_13 : decode cX7_buy 13 = .ok (.invokestatic 40, 3) := by decide +kernel
theorem dX7_buy_16 : decode cX7_buy 16 = .ok (.ifCond .ne 6, 3) := by decide +kernel
theorem dX7_buy_19 : decode cX7_buy 19 = .ok (.bipush (-2), 2) := by decide +kernel
theorem dX7_buy_21 : decode cX7_buy 21 = .ok (.ireturn, 1) := by decide +kernel
theorem dX7_buy_22 : decode cX7_buy 22 = .ok (.aload_n 0, 1) := by decide +kernel
theorem dX7_buy_23 : decode cX7_buy 23 = .ok (.getfield 12, 3) := by decide +kernel
theorem dX7_buy_26 : decode cX7_buy 26 = .ok (.iload_n 1, 1) := by decide +kernel
theorem dX7_buy_27 : decode cX7_buy 27 = .ok (.iload_n 2, 1) := by decide +kernel
theorem dX7_buy_28 : decode cX7_buy 28 = .ok (.invokestatic 138, 3) := by decide +kernel
theorem dX7_buy_31 : decode cX7_buy 31 = .ok (.ireturn, 1) := by decide +kernel
theorem dX7_when_0 : decode cX7_when 0 = .ok (.aload_n 0, 1) := by decide +kernel
theorem dX7_when_1 : decode cX7_when 1 = .ok (.iload_n 1, 1) := by decide +kernel
theorem dX7_when_2 : decode cX7_when 2 = .ok (.invokevirtual 66, 3) := by decide +kernel
theorem dX7_when_5 : decode cX7_when 5 = .ok (.ifCond .eq 5, 3) := by decide +kernel
theorem dX7_when_8 : decode cX7_when 8 = .ok (.iconst (-1), 1) := by decide +kernel
theorem dX7_when_9 : decode cX7_when 9 = .ok (.ireturn, 1) := by decide +kernel
theorem dX7_when_10 : decode cX7_when 10 = .ok (.iload_n 2, 1) := by decide +kernel
theorem dX7_when_11 : decode cX7_when 11 = .ok (.bipush 109, 2) := by decide +kernel
theorem dX7_when_13 : decode cX7_when 13 = .ok (.invokestatic 40, 3) := by decide +kernel
theorem dX7_when_16 : decode cX7_when 16 = .ok (.ifCond .ne 6, 3) := by decide +kernel
theorem dX7_when_19 : decode cX7_when 19 = .ok (.bipush (-2), 2) := by decide +kernel
theorem dX7_when_21 : decode cX7_when 21 = .ok (.ireturn, 1) := by decide +kernel
theorem dX7_when_22 : decode cX7_when 22 = .ok (.aload_n 0, 1) := by decide +kernel
theorem dX7_when_23 : decode cX7_when 23 = .ok (.getfield 12, 3) := by decide +kernel
theorem dX7_when_26 : decode cX7_when 26 = .ok (.iload_n 1, 1) := by decide +kernel
theorem dX7_when_27 : decode cX7_when 27 = .ok (.iload_n 2, 1) := by decide +kernel
theorem dX7_when_28 : decode cX7_when 28 = .ok (.invokestatic 144, 3) := by decide +kernel
theorem dX7_when_31 : decode cX7_when 31 = .ok (.ireturn, 1) := by decide +kernel
theorem dX7_longest_0 : decode cX7_longest 0 = .ok (.aload_n 0, 1) := by decide +kernel
theorem dX7_longest_1 : decode cX7_longest 1 = .ok (.iload_n 1, 1) := by decide +kernel
theorem dX7_longest_2 : decode cX7_longest 2 = .ok (.invokevirtual 66, 3) := by decide +kernel
theorem dX7_longest_5 : decode cX7_longest 5 = .ok (.ifCond .eq 5, 3) := by decide +kernel
theorem dX7_longest_8 : decode cX7_longest 8 = .ok (.iconst (-1), 1) := by decide +kernel
theorem dX7_longest_9 : decode cX7_longest 9 = .ok (.ireturn, 1) := by decide +kernel
theorem dX7_longest_10 : decode cX7_longest 10 = .ok (.iload_n 2, 1) := by decide +kernel
theorem dX7_longest_11 : decode cX7_longest 11 = .ok (.iconst 1, 1) := by decide +kernel
theorem dX7_longest_12 : decode cX7_longest 12 = .ok (.invokestatic 40, 3) := by decide +kernel
theorem dX7_longest_15 : decode cX7_longest 15 = .ok (.ifCond .ne 6, 3) := by decide +kernel
theorem dX7_longest_18 : decode cX7_longest 18 = .ok (.bipush (-2), 2) := by decide +kernel
theorem dX7_longest_20 : decode cX7_longest 20 = .ok (.ireturn, 1) := by decide +kernel
theorem dX7_longest_21 : decode cX7_longest 21 = .ok (.aload_n 0, 1) := by decide +kernel
theorem dX7_longest_22 : decode cX7_longest 22 = .ok (.getfield 12, 3) := by decide +kernel
theorem dX7_longest_25 : decode cX7_longest 25 = .ok (.iload_n 1, 1) := by decide +kernel
theorem dX7_longest_26 : decode cX7_longest 26 = .ok (.iload_n 2, 1) := by decide +kernel
theorem dX7_longest_27 : decode cX7_longest 27 = .ok (.iconst 1, 1) := by decide +kernel
theorem dX7_longest_28 : decode cX7_longest 28 = .ok (.if_icmp .ne 7, 3) := by decide +kernel
theorem dX7_longest_31 : decode cX7_longest 31 = .ok (.iconst 1, 1) := by decide +kernel
theorem dX7_longest_32 : decode cX7_longest 32 = .ok (.goto 4, 3) := by decide +kernel
theorem dX7_longest_35 : decode cX7_longest 35 = .ok (.iconst 0, 1) := by decide +kernel
theorem dX7_longest_36 : decode cX7_longest 36 = .ok (.invokestatic 147, 3) := by decide +kernel
theorem dX7_longest_39 : decode cX7_longest 39 = .ok (.ireturn, 1) := by decide +kernel
theorem dX7_worth_0 : decode cX7_worth 0 = .ok (.aload_n 0, 1) := by decide +kernel
theorem dX7_worth_1 : decode cX7_worth 1 = .ok (.iload_n 1, 1) := by decide +kernel
theorem dX7_worth_2 : decode cX7_worth 2 = .ok (.invokevirtual 66, 3) := by decide +kernel
theorem dX7_worth_5 : decode cX7_worth 5 = .ok (.ifCond .eq 5, 3) := by decide +kernel
theorem dX7_worth_8 : decode cX7_worth 8 = .ok (.iconst (-1), 1) := by decide +kernel
theorem dX7_worth_9 : decode cX7_worth 9 = .ok (.ireturn, 1) := by decide +kernel
theorem dX7_worth_10 : decode cX7_worth 10 = .ok (.aload_n 0, 1) := by decide +kernel
theorem dX7_worth_11 : decode cX7_worth 11 = .ok (.getfield 12, 3) := by decide +kernel
theorem dX7_worth_14 : decode cX7_worth 14 = .ok (.iload_n 1, 1) := by decide +kernel
theorem dX7_worth_15 : decode cX7_worth 15 = .ok (.invokestatic 151, 3) := by decide +kernel
theorem dX7_worth_18 : decode cX7_worth 18 = .ok (.sipush 1000, 3) := by decide +kernel
theorem dX7_worth_21 : decode cX7_worth 21 = .ok (.iadd, 1) := by decide +kernel
theorem dX7_worth_22 : decode cX7_worth 22 = .ok (.ireturn, 1) := by decide +kernel
theorem dX7_reading_0 : decode cX7_reading 0 = .ok (.aload_n 0, 1) := by decide +kernel
theorem dX7_reading_1 : decode cX7_reading 1 = .ok (.iload_n 1, 1) := by decide +kernel
theorem dX7_reading_2 : decode cX7_reading 2 = .ok (.invokevirtual 66, 3) := by decide +kernel
theorem dX7_reading_5 : decode cX7_reading 5 = .ok (.ifCond .eq 5, 3) := by decide +kernel
theorem dX7_reading_8 : decode cX7_reading 8 = .ok (.iconst (-1), 1) := by decide +kernel
theorem dX7_reading_9 : decode cX7_reading 9 = .ok (.ireturn, 1) := by decide +kernel
theorem dX7_reading_10 : decode cX7_reading 10 = .ok (.iload_n 2, 1) := by decide +kernel
theorem dX7_reading_11 : decode cX7_reading 11 = .ok (.bipush 109, 2) := by decide +kernel
theorem dX7_reading_13 : decode cX7_reading 13 = .ok (.invokestatic 40, 3) := by decide +kernel
theorem dX7_reading_16 : decode cX7_reading 16 = .ok (.ifCond .ne 6, 3) := by decide +kernel
theorem dX7_reading_19 : decode cX7_reading 19 = .ok (.bipush (-2), 2) := by decide +kernel
theorem dX7_reading_21 : decode cX7_reading 21 = .ok (.ireturn, 1) := by decide +kernel
theorem dX7_reading_22 : decode cX7_reading 22 = .ok (.aload_n 0, 1) := by decide +kernel
theorem dX7_reading_23 : decode cX7_reading 23 = .ok (.getfield 21, 3) := by decide +kernel
theorem dX7_reading_26 : decode cX7_reading 26 = .ok (.getfield 62, 3) := by decide +kernel
theorem dX7_reading_29 : decode cX7_reading 29 = .ok (.bipush 8, 2) := by decide +kernel
theorem dX7_reading_31 : decode cX7_reading 31 = .ok (.if_icmp .lt 6, 3) := by decide +kernel
theorem dX7_reading_34 : decode cX7_reading 34 = .ok (.bipush (-4), 2) := by decide +kernel
theorem dX7_reading_36 : decode cX7_reading 36 = .ok (.ireturn, 1) := by decide +kernel
theorem dX7_reading_37 : decode cX7_reading 37 = .ok (.aload_n 0, 1) := by decide +kernel
theorem dX7_reading_38 : decode cX7_reading 38 = .ok (.getfield 21, 3) := by decide +kernel
theorem dX7_reading_41 : decode cX7_reading 41 = .ok (.iload_n 1, 1) := by decide +kernel
theorem dX7_reading_42 : decode cX7_reading 42 = .ok (.iload_n 2, 1) := by decide +kernel
theorem dX7_reading_43 : decode cX7_reading 43 = .ok (.iload_n 3, 1) := by decide +kernel
theorem dX7_reading_44 : decode cX7_reading 44 = .ok (.invokevirtual 155, 3) := by decide +kernel
theorem dX7_reading_47 : decode cX7_reading 47 = .ok (.ireturn, 1) := by decide +kernel
theorem dX7_back_0 : decode cX7_back 0 = .ok (.iload_n 1, 1) := by decide +kernel
theorem dX7_back_1 : decode cX7_back 1 = .ok (.aload_n 0, 1) := by decide +kernel
theorem dX7_back_2 : decode cX7_back 2 = .ok (.getfield 21, 3) := by decide +kernel
theorem dX7_back_5 : decode cX7_back 5 = .ok (.getfield 62, 3) := by decide +kernel
theorem dX7_back_8 : decode cX7_back 8 = .ok (.invokestatic 40, 3) := by decide +kernel
theorem dX7_back_11 : decode cX7_back 11 = .ok (.ifCond .ne 6, 3) := by decide +kernel
theorem dX7_back_14 : decode cX7_back 14 = .ok (.bipush (-2), 2) := by decide +kernel
theorem dX7_back_16 : decode cX7_back 16 = .ok (.ireturn, 1) := by decide +kernel
theorem dX7_back_17 : decode cX7_back 17 = .ok (.aload_n 0, 1) := by decide +kernel
theorem dX7_back_18 : decode cX7_back 18 = .ok (.getfield 21, 3) := by decide +kernel
theorem dX7_back_21 : decode cX7_back 21 = .ok (.dup, 1) := by decide +kernel
theorem dX7_back_22 : decode cX7_back 22 = .ok (.getfield 62, 3) := by decide +kernel
theorem dX7_back_25 : decode cX7_back 25 = .ok (.iload_n 1, 1) := by decide +kernel
theorem dX7_back_26 : decode cX7_back 26 = .ok (.isub, 1) := by decide +kernel
theorem dX7_back_27 : decode cX7_back 27 = .ok (.putfield 62, 3) := by decide +kernel
theorem dX7_back_30 : decode cX7_back 30 = .ok (.aload_n 0, 1) := by decide +kernel
theorem dX7_back_31 : decode cX7_back 31 = .ok (.getfield 21, 3) := by decide +kernel
theorem dX7_back_34 : decode cX7_back 34 = .ok (.getfield 62, 3) := by decide +kernel
theorem dX7_back_37 : decode cX7_back 37 = .ok (.ireturn, 1) := by decide +kernel
theorem dX7_spans_0 : decode cX7_spans 0 = .ok (.aload_n 0, 1) := by decide +kernel
theorem dX7_spans_1 : decode cX7_spans 1 = .ok (.invokevirtual 90, 3) := by decide +kernel
theorem dX7_spans_4 : decode cX7_spans 4 = .ok (.ifCond .eq 6, 3) := by decide +kernel
theorem dX7_spans_7 : decode cX7_spans 7 = .ok (.bipush (-3), 2) := by decide +kernel
theorem dX7_spans_9 : decode cX7_spans 9 = .ok (.ireturn, 1) := by decide +kernel
theorem dX7_spans_10 : decode cX7_spans 10 = .ok (.aload_n 0, 1) := by decide +kernel
theorem dX7_spans_11 : decode cX7_spans 11 = .ok (.getfield 12, 3) := by decide +kernel
theorem dX7_spans_14 : decode cX7_spans 14 = .ok (.aload_n 0, 1) := by decide +kernel
theorem dX7_spans_15 : decode cX7_spans 15 = .ok (.getfield 21, 3) := by decide +kernel
theorem dX7_spans_18 : decode cX7_spans 18 = .ok (.invokestatic 159, 3) := by decide +kernel
theorem dX7_spans_21 : decode cX7_spans 21 = .ok (.ireturn, 1) := by decide +kernel
theorem dX7_origins_0 : decode cX7_origins 0 = .ok (.aload_n 0, 1) := by decide +kernel
theorem dX7_origins_1 : decode cX7_origins 1 = .ok (.invokevirtual 90, 3) := by decide +kernel
theorem dX7_origins_4 : decode cX7_origins 4 = .ok (.ifCond .eq 6, 3) := by decide +kernel
theorem dX7_origins_7 : decode cX7_origins 7 = .ok (.bipush (-3), 2) := by decide +kernel
theorem dX7_origins_9 : decode cX7_origins 9 = .ok (.ireturn, 1) := by decide +kernel
theorem dX7_origins_10 : decode cX7_origins 10 = .ok (.aload_n 0, 1) := by decide +kernel
theorem dX7_origins_11 : decode cX7_origins 11 = .ok (.getfield 12, 3) := by decide +kernel
theorem dX7_origins_14 : decode cX7_origins 14 = .ok (.aload_n 0, 1) := by decide +kernel
theorem dX7_origins_15 : decode cX7_origins 15 = .ok (.getfield 21, 3) := by decide +kernel
theorem dX7_origins_18 : decode cX7_origins 18 = .ok (.invokestatic 163, 3) := by decide +kernel
theorem dX7_origins_21 : decode cX7_origins 21 = .ok (.ireturn, 1) := by decide +kernel
theorem dX7_kinds_0 : decode cX7_kinds 0 = .ok (.aload_n 0, 1) := by decide +kernel
theorem dX7_kinds_1 : decode cX7_kinds 1 = .ok (.iload_n 1, 1) := by decide +kernel
theorem dX7_kinds_2 : decode cX7_kinds 2 = .ok (.invokevirtual 66, 3) := by decide +kernel
theorem dX7_kinds_5 : decode cX7_kinds 5 = .ok (.ifCond .eq 5, 3) := by decide +kernel
theorem dX7_kinds_8 : decode cX7_kinds 8 = .ok (.iconst (-1), 1) := by decide +kernel
theorem dX7_kinds_9 : decode cX7_kinds 9 = .ok (.ireturn, 1) := by decide +kernel
theorem dX7_kinds_10 : decode cX7_kinds 10 = .ok (.aload_n 0, 1) := by decide +kernel
theorem dX7_kinds_11 : decode cX7_kinds 11 = .ok (.getfield 12, 3) := by decide +kernel
theorem dX7_kinds_14 : decode cX7_kinds 14 = .ok (.aload_n 0, 1) := by decide +kernel
theorem dX7_kinds_15 : decode cX7_kinds 15 = .ok (.getfield 21, 3) := by decide +kernel
theorem dX7_kinds_18 : decode cX7_kinds 18 = .ok (.iload_n 1, 1) := by decide +kernel
theorem dX7_kinds_19 : decode cX7_kinds 19 = .ok (.invokestatic 166, 3) := by decide +kernel
theorem dX7_kinds_22 : decode cX7_kinds 22 = .ok (.ireturn, 1) := by decide +kernel
theorem dX7_moved_0 : decode cX7_moved 0 = .ok (.aload_n 0, 1) := by decide +kernel
theorem dX7_moved_1 : decode cX7_moved 1 = .ok (.iload_n 1, 1) := by decide +kernel
theorem dX7_moved_2 : decode cX7_moved 2 = .ok (.invokevirtual 66, 3) := by decide +kernel
theorem dX7_moved_5 : decode cX7_moved 5 = .ok (.ifCond .eq 5, 3) := by decide +kernel
theorem dX7_moved_8 : decode cX7_moved 8 = .ok (.iconst (-1), 1) := by decide +kernel
theorem dX7_moved_9 : decode cX7_moved 9 = .ok (.ireturn, 1) := by decide +kernel
theorem dX7_moved_10 : decode cX7_moved 10 = .ok (.iload_n 2, 1) := by decide +kernel
theorem dX7_moved_11 : decode cX7_moved 11 = .ok (.iconst 1, 1) := by decide +kernel
theorem dX7_moved_12 : decode cX7_moved 12 = .ok (.invokestatic 40, 3) := by decide +kernel
theorem dX7_moved_15 : decode cX7_moved 15 = .ok (.ifCond .ne 6, 3) := by decide +kernel
theorem dX7_moved_18 : decode cX7_moved 18 = .ok (.bipush (-2), 2) := by decide +kernel
theorem dX7_moved_20 : decode cX7_moved 20 = .ok (.ireturn, 1) := by decide +kernel
theorem dX7_moved_21 : decode cX7_moved 21 = .ok (.aload_n 0, 1) := by decide +kernel
theorem dX7_moved_22 : decode cX7_moved 22 = .ok (.getfield 12, 3) := by decide +kernel
theorem dX7_moved_25 : decode cX7_moved 25 = .ok (.aload_n 0, 1) := by decide +kernel
theorem dX7_moved_26 : decode cX7_moved 26 = .ok (.getfield 21, 3) := by decide +kernel
theorem dX7_moved_29 : decode cX7_moved 29 = .ok (.iload_n 1, 1) := by decide +kernel
theorem dX7_moved_30 : decode cX7_moved 30 = .ok (.iload_n 2, 1) := by decide +kernel
theorem dX7_moved_31 : decode cX7_moved 31 = .ok (.iconst 1, 1) := by decide +kernel
theorem dX7_moved_32 : decode cX7_moved 32 = .ok (.if_icmp .ne 7, 3) := by decide +kernel
theorem dX7_moved_35 : decode cX7_moved 35 = .ok (.iconst 1, 1) := by decide +kernel
theorem dX7_moved_36 : decode cX7_moved 36 = .ok (.goto 4, 3) := by decide +kernel
theorem dX7_moved_39 : decode cX7_moved 39 = .ok (.iconst 0, 1) := by decide +kernel
theorem dX7_moved_40 : decode cX7_moved 40 = .ok (.invokestatic 170, 3) := by decide +kernel
theorem dX7_moved_43 : decode cX7_moved 43 = .ok (.ireturn, 1) := by decide +kernel
theorem dX7_odds_0 : decode cX7_odds 0 = .ok (.aload_n 0, 1) := by decide +kernel
theorem dX7_odds_1 : decode cX7_odds 1 = .ok (.iload_n 1, 1) := by decide +kernel
theorem dX7_odds_2 : decode cX7_odds 2 = .ok (.invokevirtual 66, 3) := by decide +kernel
theorem dX7_odds_5 : decode cX7_odds 5 = .ok (.ifCond .ne 20, 3) := by decide +kernel
theorem dX7_odds_8 : decode cX7_odds 8 = .ok (.iload_n 2, 1) := by decide +kernel
theorem dX7_odds_9 : decode cX7_odds 9 = .ok (.bipush 109, 2) := by decide +kernel
theorem dX7_odds_11 : decode cX7_odds 11 = .ok (.invokestatic 40, 3) := by decide +kernel
theorem dX7_odds_14 : decode cX7_odds 14 = .ok (.ifCond .eq 11, 3) := by decide +kernel
theorem dX7_odds_17 : decode cX7_odds 17 = .ok (.iload_n 3, 1) := by decide +kernel
theorem dX7_odds_18 : decode cX7_odds 18 = .ok (.iconst 1, 1) := by decide +kernel
theorem dX7_odds_19 : decode cX7_odds 19 = .ok (.invokestatic 40, 3) := by decide +kernel
theorem dX7_odds_22 : decode cX7_odds 22 = .ok (.ifCond .ne 7, 3) := by decide +kernel
theorem dX7_odds_25 : decode cX7_odds 25 = .ok (.ldc2_w 174, 3) := by decide +kernel
theorem dX7_odds_28 : decode cX7_odds 28 = .ok (.lreturn, 1) := by decide +kernel
theorem dX7_odds_29 : decode cX7_odds 29 = .ok (.aload_n 0, 1) := by decide +kernel
theorem dX7_odds_30 : decode cX7_odds 30 = .ok (.getfield 12, 3) := by decide +kernel
theorem dX7_odds_33 : decode cX7_odds 33 = .ok (.iload_n 1, 1) := by decide +kernel
theorem dX7_odds_34 : decode cX7_odds 34 = .ok (.iload_n 2, 1) := by decide +kernel
theorem dX7_odds_35 : decode cX7_odds 35 = .ok (.iload_n 3, 1) := by decide +kernel
theorem dX7_odds_36 : decode cX7_odds 36 = .ok (.iconst 1, 1) := by decide +kernel
theorem dX7_odds_37 : decode cX7_odds 37 = .ok (.if_icmp .ne 7, 3) := by decide +kernel
theorem dX7_odds_40 : decode cX7_odds 40 = .ok (.iconst 1, 1) := by decide +kernel
theorem dX7_odds_41 : decode cX7_odds 41 = .ok (.goto 4, 3) := by decide +kernel
theorem dX7_odds_44 : decode cX7_odds 44 = .ok (.iconst 0, 1) := by decide +kernel
theorem dX7_odds_45 : decode cX7_odds 45 = .ok (.invokestatic 176, 3) := by decide +kernel
theorem dX7_odds_48 : decode cX7_odds 48 = .ok (.lreturn, 1) := by decide +kernel
theorem dX7_sheet_0 : decode cX7_sheet 0 = .ok (.aload_n 0, 1) := by decide +kernel
theorem dX7_sheet_1 : decode cX7_sheet 1 = .ok (.iconst 0, 1) := by decide +kernel
theorem dX7_sheet_2 : decode cX7_sheet 2 = .ok (.putfield 32, 3) := by decide +kernel
theorem dX7_sheet_5 : decode cX7_sheet 5 = .ok (.iload_n 1, 1) := by decide +kernel
theorem dX7_sheet_6 : decode cX7_sheet 6 = .ok (.invokestatic 36, 3) := by decide +kernel
theorem dX7_sheet_9 : decode cX7_sheet 9 = .ok (.ifCond .eq 5, 3) := by decide +kernel
theorem dX7_sheet_12 : decode cX7_sheet 12 = .ok (.iconst (-1), 1) := by decide +kernel
theorem dX7_sheet_13 : decode cX7_sheet 13 = .ok (.ireturn, 1) := by decide +kernel
theorem dX7_sheet_14 : decode cX7_sheet 14 = .ok (.iload_n 2, 1) := by decide +kernel
theorem dX7_sheet_15 : decode cX7_sheet 15 = .ok (.iconst 2, 1) := by decide +kernel
theorem dX7_sheet_16 : decode cX7_sheet 16 = .ok (.invokestatic 40, 3) := by decide +kernel
theorem dX7_sheet_19 : decode cX7_sheet 19 = .ok (.ifCond .eq 9, 3) := by decide +kernel
theorem dX7_sheet_22 : decode cX7_sheet 22 = .ok (.iload_n 3, 1) := by decide +kernel
theorem dX7_sheet_23 : decode cX7_sheet 23 = .ok (.bipush 60, 2) := by decide +kernel
theorem dX7_sheet_25 : decode cX7_sheet 25 = .ok (.if_icmp .le 6, 3) := by decide +kernel
theorem dX7_sheet_28 : decode cX7_sheet 28 = .ok (.bipush (-2), 2) := by decide +kernel
theorem dX7_sheet_30 : decode cX7_sheet 30 = .ok (.ireturn, 1) := by decide +kernel
theorem dX7_sheet_31 : decode cX7_sheet 31 = .ok (.iload_n 3, 1) := by decide +kernel
theorem dX7_sheet_32 : decode cX7_sheet 32 = .ok (.ifCond .ge 9, 3) := by decide +kernel
theorem dX7_sheet_35 : decode cX7_sheet 35 = .ok (.aload_n 0, 1) := by decide +kernel
theorem dX7_sheet_36 : decode cX7_sheet 36 = .ok (.iconst 4, 1) := by decide +kernel
theorem dX7_sheet_37 : decode cX7_sheet 37 = .ok (.invokevirtual 48, 3) := by decide +kernel
theorem dX7_sheet_40 : decode cX7_sheet 40 = .ok (.ireturn, 1) := by decide +kernel
theorem dX7_sheet_41 : decode cX7_sheet 41 = .ok (.aload_n 0, 1) := by decide +kernel
theorem dX7_sheet_42 : decode cX7_sheet 42 = .ok (.getfield 27, 3) := by decide +kernel
theorem dX7_sheet_45 : decode cX7_sheet 45 = .ok (.iload_n 1, 1) := by decide +kernel
theorem dX7_sheet_46 : decode cX7_sheet 46 = .ok (.aaload, 1) := by decide +kernel
theorem dX7_sheet_47 : decode cX7_sheet 47 = .ok (.iload_n 2, 1) := by decide +kernel
theorem dX7_sheet_48 : decode cX7_sheet 48 = .ok (.iload_n 3, 1) := by decide +kernel
theorem dX7_sheet_49 : decode cX7_sheet 49 = .ok (.invokevirtual 180, 3) := by decide +kernel
theorem dX7_sheet_52 : decode cX7_sheet 52 = .ok (.iconst 1, 1) := by decide +kernel
theorem dX7_sheet_53 : decode cX7_sheet 53 = .ok (.ireturn, 1) := by decide +kernel
theorem dX7_lose_0 : decode cX7_lose 0 = .ok (.iload_n 1, 1) := by decide +kernel
theorem dX7_lose_1 : decode cX7_lose 1 = .ok (.invokestatic 36, 3) := by decide +kernel
theorem dX7_lose_4 : decode cX7_lose 4 = .ok (.ifCond .eq 5, 3) := by decide +kernel
theorem dX7_lose_7 : decode cX7_lose 7 = .ok (.iconst (-1), 1) := by decide +kernel
theorem dX7_lose_8 : decode cX7_lose 8 = .ok (.ireturn, 1) := by decide +kernel
theorem dX7_lose_9 : decode cX7_lose 9 = .ok (.aload_n 0, 1) := by decide +kernel
theorem dX7_lose_10 : decode cX7_lose 10 = .ok (.getfield 27, 3) := by decide +kernel
theorem dX7_lose_13 : decode cX7_lose 13 = .ok (.iload_n 1, 1) := by decide +kernel
theorem dX7_lose_14 : decode cX7_lose 14 = .ok (.aaload, 1) := by decide +kernel
theorem dX7_lose_15 : decode cX7_lose 15 = .ok (.invokevirtual 184, 3) := by decide +kernel
theorem dX7_lose_18 : decode cX7_lose 18 = .ok (.ifCond .eq 7, 3) := by decide +kernel
theorem dX7_lose_21 : decode cX7_lose 21 = .ok (.iconst 0, 1) := by decide +kernel
theorem dX7_lose_22 : decode cX7_lose 22 = .ok (.goto 4, 3) := by decide +kernel
theorem dX7_lose_25 : decode cX7_lose 25 = .ok (.iconst 1, 1) := by decide +kernel
theorem dX7_lose_26 : decode cX7_lose 26 = .ok (.istore_n 2, 1) := by decide +kernel
theorem dX7_lose_27 : decode cX7_lose 27 = .ok (.aload_n 0, 1) := by decide +kernel
theorem dX7_lose_28 : decode cX7_lose 28 = .ok (.getfield 27, 3) := by decide +kernel
theorem dX7_lose_31 : decode cX7_lose 31 = .ok (.iload_n 1, 1) := by decide +kernel
theorem dX7_lose_32 : decode cX7_lose 32 = .ok (.aaload, 1) := by decide +kernel
theorem dX7_lose_33 : decode cX7_lose 33 = .ok (.invokevirtual 187, 3) := by decide +kernel
theorem dX7_lose_36 : decode cX7_lose 36 = .ok (.iload_n 2, 1) := by decide +kernel
theorem dX7_lose_37 : decode cX7_lose 37 = .ok (.ireturn, 1) := by decide +kernel
theorem dX7_put_0 : decode cX7_put 0 = .ok (.aload_n 0, 1) := by decide +kernel
theorem dX7_put_1 : decode cX7_put 1 = .ok (.iconst 0, 1) := by decide +kernel
theorem dX7_put_2 : decode cX7_put 2 = .ok (.putfield 32, 3) := by decide +kernel
theorem dX7_put_5 : decode cX7_put 5 = .ok (.iload_n 1, 1) := by decide +kernel
theorem dX7_put_6 : decode cX7_put 6 = .ok (.invokestatic 36, 3) := by decide +kernel
theorem dX7_put_9 : decode cX7_put 9 = .ok (.ifCond .eq 5, 3) := by decide +kernel
theorem dX7_put_12 : decode cX7_put 12 = .ok (.iconst (-1), 1) := by decide +kernel
theorem dX7_put_13 : decode cX7_put 13 = .ok (.ireturn, 1) := by decide +kernel
theorem dX7_put_14 : decode cX7_put 14 = .ok (.aload_n 0, 1) := by decide +kernel
theorem dX7_put_15 : decode cX7_put 15 = .ok (.getfield 27, 3) := by decide +kernel
theorem dX7_put_18 : decode cX7_put 18 = .ok (.iload_n 1, 1) := by decide +kernel
theorem dX7_put_19 : decode cX7_put 19 = .ok (.aaload, 1) := by decide +kernel
theorem dX7_put_20 : decode cX7_put 20 = .ok (.astore 4, 2) := by decide +kernel
theorem dX7_put_22 : decode cX7_put 22 = .ok (.aload 4, 2) := by decide +kernel
theorem dX7_put_24 : decode cX7_put 24 = .ok (.invokevirtual 184, 3) := by decide +kernel
theorem dX7_put_27 : decode cX7_put 27 = .ok (.ifCond .eq 9, 3) := by decide +kernel
theorem dX7_put_30 : decode cX7_put 30 = .ok (.aload_n 0, 1) := by decide +kernel
theorem dX7_put_31 : decode cX7_put 31 = .ok (.iconst 1, 1) := by decide +kernel
theorem dX7_put_32 : decode cX7_put 32 = .ok (.invokevirtual 48, 3) := by decide +kernel
theorem dX7_put_35 : decode cX7_put 35 = .ok (.ireturn, 1) := by decide +kernel
theorem dX7_put_36 : decode cX7_put 36 = .ok (.aload 4, 2) := by decide +kernel
theorem dX7_put_38 : decode cX7_put 38 = .ok (.iload_n 2, 1) := by decide +kernel
theorem dX7_put_39 : decode cX7_put 39 = .ok (.invokevirtual 190, 3) := by decide +kernel
theorem dX7_put_42 : decode cX7_put 42 = .ok (.ifCond .ne 9, 3) := by decide +kernel
theorem dX7_put_45 : decode cX7_put 45 = .ok (.aload_n 0, 1) := by decide +kernel
theorem dX7_put_46 : decode cX7_put 46 = .ok (.iconst 3, 1) := by decide +kernel
theorem dX7_put_47 : decode cX7_put 47 = .ok (.invokevirtual 48, 3) := by decide +kernel
theorem dX7_put_50 : decode cX7_put 50 = .ok (.ireturn, 1) := by decide +kernel
theorem dX7_put_51 : decode cX7_put 51 = .ok (.aload 4, 2) := by decide +kernel
theorem dX7_put_53 : decode cX7_put 53 = .ok (.getfield 134, 3) := by decide +kernel
theorem dX7_put_56 : decode cX7_put 56 = .ok (.iload_n 2, 1) := by decide +kernel
theorem dX7_put_57 : decode cX7_put 57 = .ok (.aload 4, 2) := by decide +kernel
theorem dX7_put_59 : decode cX7_put 59 = .ok (.iload_n 3, 1) := by decide +kernel
theorem dX7_put_60 : decode cX7_put 60 = .ok (.invokevirtual 193, 3) := by decide +kernel
theorem dX7_put_63 : decode cX7_put 63 = .ok (.iastore, 1) := by decide +kernel
theorem dX7_put_64 : decode cX7_put 64 = .ok (.iconst 1, 1) := by decide +kernel
theorem dX7_put_65 : decode cX7_put 65 = .ok (.ireturn, 1) := by decide +kernel
theorem dX7_cell_0 : decode cX7_cell 0 = .ok (.aload_n 0, 1) := by decide +kernel
theorem dX7_cell_1 : decode cX7_cell 1 = .ok (.iconst 0, 1) := by decide +kernel
theorem dX7_cell_2 : decode cX7_cell 2 = .ok (.putfield 32, 3) := by decide +kernel
theorem dX7_cell_5 : decode cX7_cell 5 = .ok (.iload_n 1, 1) := by decide +kernel
theorem dX7_cell_6 : decode cX7_cell 6 = .ok (.invokestatic 36, 3) := by decide +kernel
theorem dX7_cell_9 : decode cX7_cell 9 = .ok (.ifCond .ne 11, 3) := by decide +kernel
theorem dX7_cell_12 : decode cX7_cell 12 = .ok (.iload_n 3, 1) := by decide +kernel
theorem dX7_cell_13 : decode cX7_cell 13 = .ok (.iconst 2, 1) := by decide +kernel
theorem dX7_cell_14 : decode cX7_cell 14 = .ok (.invokestatic 40, 3) := by decide +kernel
theorem dX7_cell_17 : decode cX7_cell 17 = .ok (.ifCond .ne 7, 3) := by decide +kernel
theorem dX7_cell_20 : decode cX7_cell 20 = .ok (.ldc2_w 174, 3) := by decide +kernel
theorem dX7_cell_23 : decode cX7_cell 23 = .ok (.lreturn, 1) := by decide +kernel
theorem dX7_cell_24 : decode cX7_cell 24 = .ok (.aload_n 0, 1) := by decide +kernel
theorem dX7_cell_25 : decode cX7_cell 25 = .ok (.getfield 27, 3) := by decide +kernel
theorem dX7_cell_28 : decode cX7_cell 28 = .ok (.iload_n 1, 1) := by decide +kernel
theorem dX7_cell_29 : decode cX7_cell 29 = .ok (.aaload, 1) := by decide +kernel
theorem dX7_cell_30 : decode cX7_cell 30 = .ok (.astore 4, 2) := by decide +kernel
theorem dX7_cell_32 : decode cX7_cell 32 = .ok (.aload_n 0, 1) := by decide +kernel
theorem dX7_cell_33 : decode cX7_cell 33 = .ok (.aload 4, 2) := by decide +kernel
theorem dX7_cell_35 : decode cX7_cell 35 = .ok (.iload_n 3, 1) := by decide +kernel
theorem dX7_cell_36 : decode cX7_cell 36 = .ok (.invokevirtual 196, 3) := by decide +kernel
theorem dX7_cell_39 : decode cX7_cell 39 = .ok (.putfield 32, 3) := by decide +kernel
theorem dX7_cell_42 : decode cX7_cell 42 = .ok (.aload_n 0, 1) := by decide +kernel
theorem dX7_cell_43 : decode cX7_cell 43 = .ok (.getfield 32, 3) := by decide +kernel
theorem dX7_cell_46 : decode cX7_cell 46 = .ok (.ifCond .ne 17, 3) := by decide +kernel
theorem dX7_cell_49 : decode cX7_cell 49 = .ok (.aload 4, 2) := by decide +kernel
theorem dX7_cell_51 : decode cX7_cell 51 = .ok (.iload_n 2, 1) := by decide +kernel
theorem dX7_cell_52 : decode cX7_cell 52 = .ok (.invokevirtual 190, 3) := by decide +kernel
theorem dX7_cell_55 : decode cX7_cell 55 = .ok (.ifCond .ne 8, 3) := by decide +kernel
theorem dX7_cell_58 : decode cX7_cell 58 = .ok (.aload_n 0, 1) := by decide +kernel
theorem dX7_cell_59 : decode cX7_cell 59 = .ok (.iconst 3, 1) := by decide +kernel
theorem dX7_cell_60 : decode cX7_cell 60 = .ok (.putfield 32, 3) := by decide +kernel
theorem dX7_cell_63 : decode cX7_cell 63 = .ok (.aload_n 0, 1) := by decide +kernel
theorem dX7_cell_64 : decode cX7_cell 64 = .ok (.getfield 32, 3) := by decide +kernel
theorem dX7_cell_67 : decode cX7_cell 67 = .ok (.ifCond .ne 14, 3) := by decide +kernel
theorem dX7_cell_70 : decode cX7_cell 70 = .ok (.aload 4, 2) := by decide +kernel
theorem dX7_cell_72 : decode cX7_cell 72 = .ok (.getfield 134, 3) := by decide +kernel
theorem dX7_cell_75 : decode cX7_cell 75 = .ok (.iload_n 2, 1) := by decide +kernel
theorem dX7_cell_76 : decode cX7_cell 76 = .ok (.iaload, 1) := by decide +kernel
theorem dX7_cell_77 : decode cX7_cell 77 = .ok (.i2l, 1) := by decide +kernel
theorem dX7_cell_78 : decode cX7_cell 78 = .ok (.goto 6, 3) := by decide +kernel
theorem dX7_cell_81 : decode cX7_cell 81 = .ok (.ldc2_w 174, 3) := by decide +kernel
theorem dX7_cell_84 : decode cX7_cell 84 = .ok (.lreturn, 1) := by decide +kernel
theorem dX7_copy_0 : decode cX7_copy 0 = .ok (.aload_n 0, 1) := by decide +kernel
theorem dX7_copy_1 : decode cX7_copy 1 = .ok (.iconst 0, 1) := by decide +kernel
theorem dX7_copy_2 : decode cX7_copy 2 = .ok (.putfield 32, 3) := by decide +kernel
theorem dX7_copy_5 : decode cX7_copy 5 = .ok (.iload_n 1, 1) := by decide +kernel
theorem dX7_copy_6 : decode cX7_copy 6 = .ok (.invokestatic 36, 3) := by decide +kernel
theorem dX7_copy_9 : decode cX7_copy 9 = .ok (.ifCond .ne 10, 3) := by decide +kernel
theorem dX7_copy_12 : decode cX7_copy 12 = .ok (.iload_n 3, 1) := by decide +kernel
theorem dX7_copy_13 : decode cX7_copy 13 = .ok (.invokestatic 36, 3) := by decide +kernel
theorem dX7_copy_16 : decode cX7_copy 16 = .ok (.ifCond .eq 5, 3) := by decide +kernel
theorem dX7_copy_19 : decode cX7_copy 19 = .ok (.iconst (-1), 1) := by decide +kernel
theorem dX7_copy_20 : decode cX7_copy 20 = .ok (.ireturn, 1) := by decide +kernel
theorem dX7_copy_21 : decode cX7_copy 21 = .ok (.aload_n 0, 1) := by decide +kernel
theorem dX7_copy_22 : decode cX7_copy 22 = .ok (.getfield 27, 3) := by decide +kernel
theorem dX7_copy_25 : decode cX7_copy 25 = .ok (.iload_n 1, 1) := by decide +kernel
theorem dX7_copy_26 : decode cX7_copy 26 = .ok (.aaload, 1) := by decide +kernel
theorem dX7_copy_27 : decode cX7_copy 27 = .ok (.astore 6, 2) := by decide +kernel
theorem dX7_copy_29 : decode cX7_copy 29 = .ok (.aload_n 0, 1) := by decide +kernel
theorem dX7_copy_30 : decode cX7_copy 30 = .ok (.getfield 27, 3) := by decide +kernel
theorem dX7_copy_33 : decode cX7_copy 33 = .ok (.iload_n 3, 1) := by decide +kernel
theorem dX7_copy_34 : decode cX7_copy 34 = .ok (.aaload, 1) := by decide +kernel
theorem dX7_copy_35 : decode cX7_copy 35 = .ok (.astore 7, 2) := by decide +kernel
theorem dX7_copy_37 : decode cX7_copy 37 = .ok (.aload 6, 2) := by decide +kernel
theorem dX7_copy_39 : decode cX7_copy 39 = .ok (.invokevirtual 184, 3) := by decide +kernel
theorem dX7_copy_42 : decode cX7_copy 42 = .ok (.ifCond .ne 11, 3) := by decide +kernel
theorem dX7_copy_45 : decode cX7_copy 45 = .ok (.aload 7, 2) := by decide +kernel
theorem dX7_copy_47 : decode cX7_copy 47 = .ok (.invokevirtual 184, 3) := by decide +kernel
theorem dX7_copy_50 : decode cX7_copy 50 = .ok (.ifCond .eq 9, 3) := by decide +kernel
theorem dX7_copy_53 : decode cX7_copy 53 = .ok (.aload_n 0, 1) := by decide +kernel
theorem dX7_copy_54 : decode cX7_copy 54 = .ok (.iconst 1, 1) := by decide +kernel
theorem dX7_copy_55 : decode cX7_copy 55 = .ok (.invokevirtual 48, 3) := by decide +kernel
theorem dX7_copy_58 : decode cX7_copy 58 = .ok (.ireturn, 1) := by decide +kernel
theorem dX7_copy_59 : decode cX7_copy 59 = .ok (.aload 6, 2) := by decide +kernel
theorem dX7_copy_61 : decode cX7_copy 61 = .ok (.getfield 199, 3) := by decide +kernel
theorem dX7_copy_64 : decode cX7_copy 64 = .ok (.aload 7, 2) := by decide +kernel
theorem dX7_copy_66 : decode cX7_copy 66 = .ok (.getfield 199, 3) := by decide +kernel
theorem dX7_copy_69 : decode cX7_copy 69 = .ok (.if_icmp .eq 9, 3) := by decide +kernel
theorem dX7_copy_72 : decode cX7_copy 72 = .ok (.aload_n 0, 1) := by decide +kernel
theorem dX7_copy_73 : decode cX7_copy 73 = .ok (.iconst 2, 1) := by decide +kernel
theorem dX7_copy_74 : decode cX7_copy 74 = .ok (.invokevirtual 48, 3) := by decide +kernel
theorem dX7_copy_77 : decode cX7_copy 77 = .ok (.ireturn, 1) := by decide +kernel
theorem dX7_copy_78 : decode cX7_copy 78 = .ok (.iload 5, 2) := by decide +kernel
theorem dX7_copy_80 : decode cX7_copy 80 = .ok (.ifCond .lt 26, 3) := by decide +kernel
theorem dX7_copy_83 : decode cX7_copy 83 = .ok (.aload 6, 2) := by decide +kernel
theorem dX7_copy_85 : decode cX7_copy 85 = .ok (.iload_n 2, 1) := by decide +kernel
theorem dX7_copy_86 : decode cX7_copy 86 = .ok (.iload 5, 2) := by decide +kernel
theorem dX7_copy_88 : decode cX7_copy 88 = .ok (.invokevirtual 202, 3) := by decide +kernel
theorem dX7_copy_91 : decode cX7_copy 91 = .ok (.ifCond .eq 15, 3) := by decide +kernel
theorem dX7_copy_94 : decode cX7_copy 94 = .ok (.aload 7, 2) := by decide +kernel
theorem dX7_copy_96 : decode cX7_copy 96 = .ok (.iload 4, 2) := by decide +kernel
theorem dX7_copy_98 : decode cX7_copy 98 = .ok (.iload 5, 2) := by decide +kernel
theorem dX7_copy_100 : decode cX7_copy 100 = .ok (.invokevirtual 202, 3) := by decide +kernel
theorem dX7_copy_103 : decode cX7_copy 103 = .ok (.ifCond .ne 9, 3) := by decide +kernel
theorem dX7_copy_106 : decode cX7_copy 106 = .ok (.aload_n 0, 1) := by decide +kernel
theorem dX7_copy_107 : decode cX7_copy 107 = .ok (.iconst 3, 1) := by decide +kernel
theorem dX7_copy_108 : decode cX7_copy 108 = .ok (.invokevirtual 48, 3) := by decide +kernel
theorem dX7_copy_111 : decode cX7_copy 111 = .ok (.ireturn, 1) := by decide +kernel
theorem dX7_copy_112 : decode cX7_copy 112 = .ok (.aload 6, 2) := by decide +kernel
theorem dX7_copy_114 : decode cX7_copy 114 = .ok (.getfield 134, 3) := by decide +kernel
theorem dX7_copy_117 : decode cX7_copy 117 = .ok (.iload_n 2, 1) := by decide +kernel
theorem dX7_copy_118 : decode cX7_copy 118 = .ok (.aload 7, 2) := by decide +kernel
theorem dX7_copy_120 : decode cX7_copy 120 = .ok (.getfield 134, 3) := by decide +kernel
theorem dX7_copy_123 : decode cX7_copy 123 = .ok (.iload 4, 2) := by decide +kernel
theorem dX7_copy_125 : decode cX7_copy 125 = .ok (.iload 5, 2) := by decide +kernel
theorem dX7_copy_127 : decode cX7_copy 127 = .ok (.invokestatic 205, 3) := by decide +kernel
end
section
theorem dX7_copy_130 : decode cX7_copy 130 = .ok (.iload 5, 2) := by decide +kernel
theorem dX7_copy_132 : decode cX7_copy 132 = .ok (.ireturn, 1) := by decide +kernel
theorem dX7_tell_0 : decode cX7_tell 0 = .ok (.aload_n 0, 1) := by decide +kernel
theorem dX7_tell_1 : decode cX7_tell 1 = .ok (.iload_n 1, 1) := by decide +kernel
theorem dX7_tell_2 : decode cX7_tell 2 = .ok (.invokevirtual 66, 3) := by decide +kernel
theorem dX7_tell_5 : decode cX7_tell 5 = .ok (.ifCond .eq 5, 3) := by decide +kernel
theorem dX7_tell_8 : decode cX7_tell 8 = .ok (.iconst (-1), 1) := by decide +kernel
theorem dX7_tell_9 : decode cX7_tell 9 = .ok (.ireturn, 1) := by decide +kernel
theorem dX7_tell_10 : decode cX7_tell 10 = .ok (.aload_n 0, 1) := by decide +kernel
theorem dX7_tell_11 : decode cX7_tell 11 = .ok (.getfield 12, 3) := by decide +kernel
theorem dX7_tell_14 : decode cX7_tell 14 = .ok (.getfield 69, 3) := by decide +kernel
theorem dX7_tell_17 : decode cX7_tell 17 = .ok (.iload_n 1, 1) := by decide +kernel
theorem dX7_tell_18 : decode cX7_tell 18 = .ok (.aaload, 1) := by decide +kernel
theorem dX7_tell_19 : decode cX7_tell 19 = .ok (.astore_n 2, 1) := by decide +kernel
theorem dX7_tell_20 : decode cX7_tell 20 = .ok (.aload_n 2, 1) := by decide +kernel
theorem dX7_tell_21 : decode cX7_tell 21 = .ok (.getfield 73, 3) := by decide +kernel
theorem dX7_tell_24 : decode cX7_tell 24 = .ok (.lookupswitch 40 #[(1, 28), (2, 34)], 28) := by decide +kernel
theorem dX7_tell_52 : decode cX7_tell 52 = .ok (.aload_n 0, 1) := by decide +kernel
theorem dX7_tell_53 : decode cX7_tell 53 = .ok (.aload_n 2, 1) := by decide +kernel
theorem dX7_tell_54 : decode cX7_tell 54 = .ok (.invokevirtual 211, 3) := by decide +kernel
theorem dX7_tell_57 : decode cX7_tell 57 = .ok (.ireturn, 1) := by decide +kernel
theorem dX7_tell_58 : decode cX7_tell 58 = .ok (.aload_n 0, 1) := by decide +kernel
theorem dX7_tell_59 : decode cX7_tell 59 = .ok (.aload_n 2, 1) := by decide +kernel
theorem dX7_tell_60 : decode cX7_tell 60 = .ok (.invokevirtual 215, 3) := by decide +kernel
theorem dX7_tell_63 : decode cX7_tell 63 = .ok (.ireturn, 1) := by decide +kernel
theorem dX7_tell_64 : decode cX7_tell 64 = .ok (.aload_n 0, 1) := by decide +kernel
theorem dX7_tell_65 : decode cX7_tell 65 = .ok (.aload_n 2, 1) := by decide +kernel
theorem dX7_tell_66 : decode cX7_tell 66 = .ok (.invokevirtual 218, 3) := by decide +kernel
theorem dX7_tell_69 : decode cX7_tell 69 = .ok (.ireturn, 1) := by decide +kernel
theorem dX7_seal_0 : decode cX7_seal 0 = .ok (.aload_n 0, 1) := by decide +kernel
theorem dX7_seal_1 : decode cX7_seal 1 = .ok (.iload_n 1, 1) := by decide +kernel
theorem dX7_seal_2 : decode cX7_seal 2 = .ok (.invokevirtual 66, 3) := by decide +kernel
theorem dX7_seal_5 : decode cX7_seal 5 = .ok (.ifCond .eq 5, 3) := by decide +kernel
theorem dX7_seal_8 : decode cX7_seal 8 = .ok (.iconst (-1), 1) := by decide +kernel
theorem dX7_seal_9 : decode cX7_seal 9 = .ok (.ireturn, 1) := by decide +kernel
theorem dX7_seal_10 : decode cX7_seal 10 = .ok (.aload_n 0, 1) := by decide +kernel
theorem dX7_seal_11 : decode cX7_seal 11 = .ok (.getfield 12, 3) := by decide +kernel
theorem dX7_seal_14 : decode cX7_seal 14 = .ok (.getfield 69, 3) := by decide +kernel
theorem dX7_seal_17 : decode cX7_seal 17 = .ok (.iload_n 1, 1) := by decide +kernel
theorem dX7_seal_18 : decode cX7_seal 18 = .ok (.aaload, 1) := by decide +kernel
theorem dX7_seal_19 : decode cX7_seal 19 = .ok (.getfield 73, 3) := by decide +kernel
theorem dX7_seal_22 : decode cX7_seal 22 = .ok (.iconst 2, 1) := by decide +kernel
theorem dX7_seal_23 : decode cX7_seal 23 = .ok (.if_icmp .ne 10, 3) := by decide +kernel
theorem dX7_seal_26 : decode cX7_seal 26 = .ok (.aload_n 0, 1) := by decide +kernel
theorem dX7_seal_27 : decode cX7_seal 27 = .ok (.invokevirtual 221, 3) := by decide +kernel
theorem dX7_seal_30 : decode cX7_seal 30 = .ok (.goto 8, 3) := by decide +kernel
theorem dX7_seal_33 : decode cX7_seal 33 = .ok (.aload_n 0, 1) := by decide +kernel
theorem dX7_seal_34 : decode cX7_seal 34 = .ok (.iload_n 1, 1) := by decide +kernel
theorem dX7_seal_35 : decode cX7_seal 35 = .ok (.invokevirtual 224, 3) := by decide +kernel
theorem dX7_seal_38 : decode cX7_seal 38 = .ok (.ireturn, 1) := by decide +kernel
theorem dX7_as_0 : decode cX7_as 0 = .ok (.aload_n 0, 1) := by decide +kernel
theorem dX7_as_1 : decode cX7_as 1 = .ok (.iconst 0, 1) := by decide +kernel
theorem dX7_as_2 : decode cX7_as 2 = .ok (.putfield 32, 3) := by decide +kernel
theorem dX7_as_5 : decode cX7_as 5 = .ok (.aload_n 0, 1) := by decide +kernel
theorem dX7_as_6 : decode cX7_as 6 = .ok (.iload_n 1, 1) := by decide +kernel
theorem dX7_as_7 : decode cX7_as 7 = .ok (.invokevirtual 66, 3) := by decide +kernel
theorem dX7_as_10 : decode cX7_as 10 = .ok (.ifCond .eq 5, 3) := by decide +kernel
theorem dX7_as_13 : decode cX7_as 13 = .ok (.iconst (-1), 1) := by decide +kernel
theorem dX7_as_14 : decode cX7_as 14 = .ok (.ireturn, 1) := by decide +kernel
theorem dX7_as_15 : decode cX7_as 15 = .ok (.iload_n 2, 1) := by decide +kernel
theorem dX7_as_16 : decode cX7_as 16 = .ok (.iconst 2, 1) := by decide +kernel
theorem dX7_as_17 : decode cX7_as 17 = .ok (.invokestatic 40, 3) := by decide +kernel
theorem dX7_as_20 : decode cX7_as 20 = .ok (.ifCond .ne 6, 3) := by decide +kernel
theorem dX7_as_23 : decode cX7_as 23 = .ok (.bipush (-2), 2) := by decide +kernel
theorem dX7_as_25 : decode cX7_as 25 = .ok (.ireturn, 1) := by decide +kernel
theorem dX7_as_26 : decode cX7_as 26 = .ok (.aload_n 0, 1) := by decide +kernel
theorem dX7_as_27 : decode cX7_as 27 = .ok (.getfield 12, 3) := by decide +kernel
theorem dX7_as_30 : decode cX7_as 30 = .ok (.getfield 69, 3) := by decide +kernel
theorem dX7_as_33 : decode cX7_as 33 = .ok (.iload_n 1, 1) := by decide +kernel
theorem dX7_as_34 : decode cX7_as 34 = .ok (.aaload, 1) := by decide +kernel
theorem dX7_as_35 : decode cX7_as 35 = .ok (.getfield 73, 3) := by decide +kernel
theorem dX7_as_38 : decode cX7_as 38 = .ok (.iload_n 2, 1) := by decide +kernel
theorem dX7_as_39 : decode cX7_as 39 = .ok (.if_icmp .ge 11, 3) := by decide +kernel
theorem dX7_as_42 : decode cX7_as 42 = .ok (.aload_n 0, 1) := by decide +kernel
theorem dX7_as_43 : decode cX7_as 43 = .ok (.iconst 2, 1) := by decide +kernel
theorem dX7_as_44 : decode cX7_as 44 = .ok (.invokevirtual 48, 3) := by decide +kernel
theorem dX7_as_47 : decode cX7_as 47 = .ok (.goto 4, 3) := by decide +kernel
theorem dX7_as_50 : decode cX7_as 50 = .ok (.iconst 1, 1) := by decide +kernel
theorem dX7_as_51 : decode cX7_as 51 = .ok (.ireturn, 1) := by decide +kernel
theorem dX7_trace_0 : decode cX7_trace 0 = .ok (.aload_n 0, 1) := by decide +kernel
theorem dX7_trace_1 : decode cX7_trace 1 = .ok (.getfield 227, 3) := by decide +kernel
theorem dX7_trace_4 : decode cX7_trace 4 = .ok (.ireturn, 1) := by decide +kernel
theorem dX7_fault_0 : decode cX7_fault 0 = .ok (.aload_n 0, 1) := by decide +kernel
theorem dX7_fault_1 : decode cX7_fault 1 = .ok (.getfield 32, 3) := by decide +kernel
theorem dX7_fault_4 : decode cX7_fault 4 = .ok (.ireturn, 1) := by decide +kernel
theorem dX7_many_0 : decode cX7_many 0 = .ok (.iload_n 1, 1) := by decide +kernel
theorem dX7_many_1 : decode cX7_many 1 = .ok (.tableswitch 81 0 4 #[35, 43, 54, 62, 70], 35) := by decide +kernel
theorem dX7_many_36 : decode cX7_many 36 = .ok (.aload_n 0, 1) := by decide +kernel
theorem dX7_many_37 : decode cX7_many 37 = .ok (.getfield 12, 3) := by decide +kernel
theorem dX7_many_40 : decode cX7_many 40 = .ok (.getfield 65, 3) := by decide +kernel
theorem dX7_many_43 : decode cX7_many 43 = .ok (.ireturn, 1) := by decide +kernel
theorem dX7_many_44 : decode cX7_many 44 = .ok (.aload_n 0, 1) := by decide +kernel
theorem dX7_many_45 : decode cX7_many 45 = .ok (.getfield 12, 3) := by decide +kernel
theorem dX7_many_48 : decode cX7_many 48 = .ok (.getfield 94, 3) := by decide +kernel
theorem dX7_many_51 : decode cX7_many 51 = .ok (.getfield 230, 3) := by decide +kernel
theorem dX7_many_54 : decode cX7_many 54 = .ok (.ireturn, 1) := by decide +kernel
theorem dX7_many_55 : decode cX7_many 55 = .ok (.aload_n 0, 1) := by decide +kernel
theorem dX7_many_56 : decode cX7_many 56 = .ok (.getfield 12, 3) := by decide +kernel
theorem dX7_many_59 : decode cX7_many 59 = .ok (.getfield 103, 3) := by decide +kernel
theorem dX7_many_62 : decode cX7_many 62 = .ok (.ireturn, 1) := by decide +kernel
theorem dX7_many_63 : decode cX7_many 63 = .ok (.aload_n 0, 1) := by decide +kernel
theorem dX7_many_64 : decode cX7_many 64 = .ok (.getfield 21, 3) := by decide +kernel
theorem dX7_many_67 : decode cX7_many 67 = .ok (.getfield 62, 3) := by decide +kernel
theorem dX7_many_70 : decode cX7_many 70 = .ok (.ireturn, 1) := by decide +kernel
theorem dX7_many_71 : decode cX7_many 71 = .ok (.aload_n 0, 1) := by decide +kernel
theorem dX7_many_72 : decode cX7_many 72 = .ok (.getfield 12, 3) := by decide +kernel
theorem dX7_many_75 : decode cX7_many 75 = .ok (.getfield 94, 3) := by decide +kernel
theorem dX7_many_78 : decode cX7_many 78 = .ok (.getfield 233, 3) := by decide +kernel
theorem dX7_many_81 : decode cX7_many 81 = .ok (.ireturn, 1) := by decide +kernel
theorem dX7_many_82 : decode cX7_many 82 = .ok (.bipush (-2), 2) := by decide +kernel
theorem dX7_many_84 : decode cX7_many 84 = .ok (.ireturn, 1) := by decide +kernel
theorem dX7_within_0 : decode cX7_within 0 = .ok (.iload_n 0, 1) := by decide +kernel
theorem dX7_within_1 : decode cX7_within 1 = .ok (.ifCond .lt 12, 3) := by decide +kernel
theorem dX7_within_4 : decode cX7_within 4 = .ok (.iload_n 0, 1) := by decide +kernel
theorem dX7_within_5 : decode cX7_within 5 = .ok (.iload_n 1, 1) := by decide +kernel
theorem dX7_within_6 : decode cX7_within 6 = .ok (.if_icmp .gt 7, 3) := by decide +kernel
theorem dX7_within_9 : decode cX7_within 9 = .ok (.iconst 1, 1) := by decide +kernel
theorem dX7_within_10 : decode cX7_within 10 = .ok (.goto 4, 3) := by decide +kernel
theorem dX7_within_13 : decode cX7_within 13 = .ok (.iconst 0, 1) := by decide +kernel
theorem dX7_within_14 : decode cX7_within 14 = .ok (.ireturn, 1) := by decide +kernel
theorem dX7_noSheet_0 : decode cX7_noSheet 0 = .ok (.iload_n 0, 1) := by decide +kernel
theorem dX7_noSheet_1 : decode cX7_noSheet 1 = .ok (.iconst 3, 1) := by decide +kernel
theorem dX7_noSheet_2 : decode cX7_noSheet 2 = .ok (.invokestatic 40, 3) := by decide +kernel
theorem dX7_noSheet_5 : decode cX7_noSheet 5 = .ok (.ifCond .ne 7, 3) := by decide +kernel
theorem dX7_noSheet_8 : decode cX7_noSheet 8 = .ok (.iconst 1, 1) := by decide +kernel
theorem dX7_noSheet_9 : decode cX7_noSheet 9 = .ok (.goto 4, 3) := by decide +kernel
theorem dX7_noSheet_12 : decode cX7_noSheet 12 = .ok (.iconst 0, 1) := by decide +kernel
theorem dX7_noSheet_13 : decode cX7_noSheet 13 = .ok (.ireturn, 1) := by decide +kernel
theorem dX7_noBill_0 : decode cX7_noBill 0 = .ok (.iload_n 1, 1) := by decide +kernel
theorem dX7_noBill_1 : decode cX7_noBill 1 = .ok (.aload_n 0, 1) := by decide +kernel
theorem dX7_noBill_2 : decode cX7_noBill 2 = .ok (.getfield 12, 3) := by decide +kernel
theorem dX7_noBill_5 : decode cX7_noBill 5 = .ok (.getfield 65, 3) := by decide +kernel
theorem dX7_noBill_8 : decode cX7_noBill 8 = .ok (.iconst 1, 1) := by decide +kernel
theorem dX7_noBill_9 : decode cX7_noBill 9 = .ok (.isub, 1) := by decide +kernel
theorem dX7_noBill_10 : decode cX7_noBill 10 = .ok (.invokestatic 40, 3) := by decide +kernel
theorem dX7_noBill_13 : decode cX7_noBill 13 = .ok (.ifCond .ne 7, 3) := by decide +kernel
theorem dX7_noBill_16 : decode cX7_noBill 16 = .ok (.iconst 1, 1) := by decide +kernel
theorem dX7_noBill_17 : decode cX7_noBill 17 = .ok (.goto 4, 3) := by decide +kernel
theorem dX7_noBill_20 : decode cX7_noBill 20 = .ok (.iconst 0, 1) := by decide +kernel
theorem dX7_noBill_21 : decode cX7_noBill 21 = .ok (.ireturn, 1) := by decide +kernel
theorem dX7_noCouncil_0 : decode cX7_noCouncil 0 = .ok (.aload_n 0, 1) := by decide +kernel
theorem dX7_noCouncil_1 : decode cX7_noCouncil 1 = .ok (.getfield 12, 3) := by decide +kernel
theorem dX7_noCouncil_4 : decode cX7_noCouncil 4 = .ok (.getfield 65, 3) := by decide +kernel
theorem dX7_noCouncil_7 : decode cX7_noCouncil 7 = .ok (.ifCond .ne 7, 3) := by decide +kernel
theorem dX7_noCouncil_10 : decode cX7_noCouncil 10 = .ok (.iconst 1, 1) := by decide +kernel
theorem dX7_noCouncil_11 : decode cX7_noCouncil 11 = .ok (.goto 4, 3) := by decide +kernel
theorem dX7_noCouncil_14 : decode cX7_noCouncil 14 = .ok (.iconst 0, 1) := by decide +kernel
theorem dX7_noCouncil_15 : decode cX7_noCouncil 15 = .ok (.ireturn, 1) := by decide +kernel
theorem dX7_failed_0 : decode cX7_failed 0 = .ok (.aload_n 0, 1) := by decide +kernel
theorem dX7_failed_1 : decode cX7_failed 1 = .ok (.iload_n 1, 1) := by decide +kernel
theorem dX7_failed_2 : decode cX7_failed 2 = .ok (.putfield 32, 3) := by decide +kernel
theorem dX7_failed_5 : decode cX7_failed 5 = .ok (.bipush (-10), 2) := by decide +kernel
theorem dX7_failed_7 : decode cX7_failed 7 = .ok (.iload_n 1, 1) := by decide +kernel
theorem dX7_failed_8 : decode cX7_failed 8 = .ok (.isub, 1) := by decide +kernel
theorem dX7_failed_9 : decode cX7_failed 9 = .ok (.ireturn, 1) := by decide +kernel
theorem dX7_leave_0 : decode cX7_leave 0 = .ok (.aload_n 0, 1) := by decide +kernel
theorem dX7_leave_1 : decode cX7_leave 1 = .ok (.bipush 31, 2) := by decide +kernel
theorem dX7_leave_3 : decode cX7_leave 3 = .ok (.aload_n 0, 1) := by decide +kernel
theorem dX7_leave_4 : decode cX7_leave 4 = .ok (.getfield 227, 3) := by decide +kernel
theorem dX7_leave_7 : decode cX7_leave 7 = .ok (.imul, 1) := by decide +kernel
theorem dX7_leave_8 : decode cX7_leave 8 = .ok (.iload_n 1, 1) := by decide +kernel
theorem dX7_leave_9 : decode cX7_leave 9 = .ok (.iadd, 1) := by decide +kernel
theorem dX7_leave_10 : decode cX7_leave 10 = .ok (.putfield 227, 3) := by decide +kernel
theorem dX7_leave_13 : decode cX7_leave 13 = .ok (.return_, 1) := by decide +kernel
theorem dX7_billBody_0 : decode cX7_billBody 0 = .ok (.aload_n 0, 1) := by decide +kernel
theorem dX7_billBody_1 : decode cX7_billBody 1 = .ok (.iconst 1, 1) := by decide +kernel
theorem dX7_billBody_2 : decode cX7_billBody 2 = .ok (.invokevirtual 236, 3) := by decide +kernel
theorem dX7_billBody_5 : decode cX7_billBody 5 = .ok (.aload_n 1, 1) := by decide +kernel
theorem dX7_billBody_6 : decode cX7_billBody 6 = .ok (.getfield 87, 3) := by decide +kernel
theorem dX7_billBody_9 : decode cX7_billBody 9 = .ok (.ireturn, 1) := by decide +kernel
theorem dX7_sunsetBody_0 : decode cX7_sunsetBody 0 = .ok (.aload_n 0, 1) := by decide +kernel
theorem dX7_sunsetBody_1 : decode cX7_sunsetBody 1 = .ok (.iconst 2, 1) := by decide +kernel
theorem dX7_sunsetBody_2 : decode cX7_sunsetBody 2 = .ok (.invokevirtual 236, 3) := by decide +kernel
theorem dX7_sunsetBody_5 : decode cX7_sunsetBody 5 = .ok (.aload_n 0, 1) := by decide +kernel
theorem dX7_sunsetBody_6 : decode cX7_sunsetBody 6 = .ok (.aload_n 1, 1) := by decide +kernel
theorem dX7_sunsetBody_7 : decode cX7_sunsetBody 7 = .ok (.invokevirtual 218, 3) := by decide +kernel
theorem dX7_sunsetBody_10 : decode cX7_sunsetBody 10 = .ok (.bipush 100, 2) := by decide +kernel
theorem dX7_sunsetBody_12 : decode cX7_sunsetBody 12 = .ok (.iadd, 1) := by decide +kernel
theorem dX7_sunsetBody_13 : decode cX7_sunsetBody 13 = .ok (.ireturn, 1) := by decide +kernel
theorem dX7_repealBody_0 : decode cX7_repealBody 0 = .ok (.aload_n 0, 1) := by decide +kernel
theorem dX7_repealBody_1 : decode cX7_repealBody 1 = .ok (.iconst 3, 1) := by decide +kernel
theorem dX7_repealBody_2 : decode cX7_repealBody 2 = .ok (.invokevirtual 236, 3) := by decide +kernel
theorem dX7_repealBody_5 : decode cX7_repealBody 5 = .ok (.aload_n 0, 1) := by decide +kernel
theorem dX7_repealBody_6 : decode cX7_repealBody 6 = .ok (.aload_n 1, 1) := by decide +kernel
theorem dX7_repealBody_7 : decode cX7_repealBody 7 = .ok (.invokevirtual 211, 3) := by decide +kernel
theorem dX7_repealBody_10 : decode cX7_repealBody 10 = .ok (.istore_n 2, 1) := by decide +kernel
theorem dX7_repealBody_11 : decode cX7_repealBody 11 = .ok (.iload_n 2, 1) := by decide +kernel
theorem dX7_repealBody_12 : decode cX7_repealBody 12 = .ok (.aload_n 0, 1) := by decide +kernel
theorem dX7_repealBody_13 : decode cX7_repealBody 13 = .ok (.aload_n 1, 1) := by decide +kernel
theorem dX7_repealBody_14 : decode cX7_repealBody 14 = .ok (.invokevirtual 218, 3) := by decide +kernel
theorem dX7_repealBody_17 : decode cX7_repealBody 17 = .ok (.iadd, 1) := by decide +kernel
theorem dX7_repealBody_18 : decode cX7_repealBody 18 = .ok (.ireturn, 1) := by decide +kernel
theorem dX7_lentSeal_0 : decode cX7_lentSeal 0 = .ok (.aload_n 0, 1) := by decide +kernel
theorem dX7_lentSeal_1 : decode cX7_lentSeal 1 = .ok (.iconst 4, 1) := by decide +kernel
theorem dX7_lentSeal_2 : decode cX7_lentSeal 2 = .ok (.invokevirtual 236, 3) := by decide +kernel
theorem dX7_lentSeal_5 : decode cX7_lentSeal 5 = .ok (.iload_n 1, 1) := by decide +kernel
theorem dX7_lentSeal_6 : decode cX7_lentSeal 6 = .ok (.ireturn, 1) := by decide +kernel
theorem dX7_ownSeal_0 : decode cX7_ownSeal 0 = .ok (.aload_n 0, 1) := by decide +kernel
theorem dX7_ownSeal_1 : decode cX7_ownSeal 1 = .ok (.iconst 5, 1) := by decide +kernel
theorem dX7_ownSeal_2 : decode cX7_ownSeal 2 = .ok (.invokevirtual 236, 3) := by decide +kernel
theorem dX7_ownSeal_5 : decode cX7_ownSeal 5 = .ok (.bipush 40, 2) := by decide +kernel
theorem dX7_ownSeal_7 : decode cX7_ownSeal 7 = .ok (.ireturn, 1) := by decide +kernel
theorem dX8_init_0 : decode cX8_init 0 = .ok (.aload_n 0, 1) := by decide +kernel
theorem dX8_init_1 : decode cX8_init 1 = .ok (.invokespecial 1, 3) := by decide +kernel
theorem dX8_init_4 : decode cX8_init 4 = .ok (.aload_n 0, 1) := by decide +kernel
theorem dX8_init_5 : decode cX8_init 5 = .ok (.iconst 4, 1) := by decide +kernel
theorem dX8_init_6 : decode cX8_init 6 = .ok (.newarray .int, 2) := by decide +kernel
theorem dX8_init_8 : decode cX8_init 8 = .ok (.dup, 1) := by decide +kernel
theorem dX8_init_9 : decode cX8_init 9 = .ok (.iconst 0, 1) := by decide +kernel
theorem dX8_init_10 : decode cX8_init 10 = .ok (.bipush (-9), 2) := by decide +kernel
theorem dX8_init_12 : decode cX8_init 12 = .ok (.iastore, 1) := by decide +kernel
theorem dX8_init_13 : decode cX8_init 13 = .ok (.dup, 1) := by decide +kernel
theorem dX8_init_14 : decode cX8_init 14 = .ok (.iconst 1, 1) := by decide +kernel
theorem dX8_init_15 : decode cX8_init 15 = .ok (.bipush (-9), 2) := by decide +kernel
theorem dX8_init_17 : decode cX8_init 17 = .ok (.iastore, 1) := by decide +kernel
theorem dX8_init_18 : decode cX8_init 18 = .ok (.dup, 1) := by decide +kernel
theorem dX8_init_19 : decode cX8_init 19 = .ok (.iconst 2, 1) := by decide +kernel
theorem dX8_init_20 : decode cX8_init 20 = .ok (.bipush (-9), 2) := by decide +kernel
theorem dX8_init_22 : decode cX8_init 22 = .ok (.iastore, 1) := by decide +kernel
theorem dX8_init_23 : decode cX8_init 23 = .ok (.dup, 1) := by decide +kernel
theorem dX8_init_24 : decode cX8_init 24 = .ok (.iconst 3, 1) := by decide +kernel
theorem dX8_init_25 : decode cX8_init 25 = .ok (.bipush (-9), 2) := by decide +kernel
theorem dX8_init_27 : decode cX8_init 27 = .ok (.iastore, 1) := by decide +kernel
theorem dX8_init_28 : decode cX8_init 28 = .ok (.putfield 9, 3) := by decide +kernel
theorem dX8_init_31 : decode cX8_init 31 = .ok (.aload_n 0, 1) := by decide +kernel
theorem dX8_init_32 : decode cX8_init 32 = .ok (.iconst 4, 1) := by decide +kernel
theorem dX8_init_33 : decode cX8_init 33 = .ok (.newarray .int, 2) := by decide +kernel
theorem dX8_init_35 : decode cX8_init 35 = .ok (.putfield 13, 3) := by decide +kernel
theorem dX8_init_38 : decode cX8_init 38 = .ok (.aload_n 0, 1) := by decide +kernel
theorem dX8_init_39 : decode cX8_init 39 = .ok (.sipush 240, 3) := by decide +kernel
theorem dX8_init_42 : decode cX8_init 42 = .ok (.newarray .int, 2) := by decide +kernel
theorem dX8_init_44 : decode cX8_init 44 = .ok (.putfield 16, 3) := by decide +kernel
theorem dX8_init_47 : decode cX8_init 47 = .ok (.aload_n 0, 1) := by decide +kernel
theorem dX8_init_48 : decode cX8_init 48 = .ok (.bipush 6, 2) := by decide +kernel
theorem dX8_init_50 : decode cX8_init 50 = .ok (.newarray .int, 2) := by decide +kernel
theorem dX8_init_52 : decode cX8_init 52 = .ok (.putfield 19, 3) := by decide +kernel
theorem dX8_init_55 : decode cX8_init 55 = .ok (.aload_n 0, 1) := by decide +kernel
theorem dX8_init_56 : decode cX8_init 56 = .ok (.bipush 6, 2) := by decide +kernel
theorem dX8_init_58 : decode cX8_init 58 = .ok (.newarray .int, 2) := by decide +kernel
theorem dX8_init_60 : decode cX8_init 60 = .ok (.putfield 22, 3) := by decide +kernel
theorem dX8_init_63 : decode cX8_init 63 = .ok (.aload_n 0, 1) := by decide +kernel
theorem dX8_init_64 : decode cX8_init 64 = .ok (.bipush 6, 2) := by decide +kernel
theorem dX8_init_66 : decode cX8_init 66 = .ok (.newarray .int, 2) := by decide +kernel
theorem dX8_init_68 : decode cX8_init 68 = .ok (.putfield 25, 3) := by decide +kernel
theorem dX8_init_71 : decode cX8_init 71 = .ok (.aload_n 0, 1) := by decide +kernel
theorem dX8_init_72 : decode cX8_init 72 = .ok (.bipush 6, 2) := by decide +kernel
theorem dX8_init_74 : decode cX8_init 74 = .ok (.newarray .int, 2) := by decide +kernel
theorem dX8_init_76 : decode cX8_init 76 = .ok (.putfield 28, 3) := by decide +kernel
theorem dX8_init_79 : decode cX8_init 79 = .ok (.aload_n 0, 1) := by decide +kernel
theorem dX8_init_80 : decode cX8_init 80 = .ok (.bipush 6, 2) := by decide +kernel
theorem dX8_init_82 : decode cX8_init 82 = .ok (.newarray .int, 2) := by decide +kernel
theorem dX8_init_84 : decode cX8_init 84 = .ok (.putfield 31, 3) := by decide +kernel
theorem dX8_init_87 : decode cX8_init 87 = .ok (.aload_n 0, 1) := by decide +kernel
theorem dX8_init_88 : decode cX8_init 88 = .ok (.bipush 110, 2) := by decide +kernel
theorem dX8_init_90 : decode cX8_init 90 = .ok (.newarray .boolean, 2) := by decide +kernel
theorem dX8_init_92 : decode cX8_init 92 = .ok (.putfield 34, 3) := by decide +kernel
theorem dX8_init_95 : decode cX8_init 95 = .ok (.aload_n 0, 1) := by decide +kernel
theorem dX8_init_96 : decode cX8_init 96 = .ok (.bipush (-9), 2) := by decide +kernel
theorem dX8_init_98 : decode cX8_init 98 = .ok (.putfield 38, 3) := by decide +kernel
theorem dX8_init_101 : decode cX8_init 101 = .ok (.aload_n 0, 1) := by decide +kernel
theorem dX8_init_102 : decode cX8_init 102 = .ok (.bipush 30, 2) := by decide +kernel
theorem dX8_init_104 : decode cX8_init 104 = .ok (.newarray .int, 2) := by decide +kernel
theorem dX8_init_106 : decode cX8_init 106 = .ok (.putfield 42, 3) := by decide +kernel
theorem dX8_init_109 : decode cX8_init 109 = .ok (.aload_n 0, 1) := by decide +kernel
theorem dX8_init_110 : decode cX8_init 110 = .ok (.bipush 6, 2) := by decide +kernel
theorem dX8_init_112 : decode cX8_init 112 = .ok (.newarray .int, 2) := by decide +kernel
theorem dX8_init_114 : decode cX8_init 114 = .ok (.putfield 45, 3) := by decide +kernel
theorem dX8_init_117 : decode cX8_init 117 = .ok (.aload_n 0, 1) := by decide +kernel
theorem dX8_init_118 : decode cX8_init 118 = .ok (.bipush 6, 2) := by decide +kernel
theorem dX8_init_120 : decode cX8_init 120 = .ok (.newarray .boolean, 2) := by decide +kernel
theorem dX8_init_122 : decode cX8_init 122 = .ok (.putfield 48, 3) := by decide +kernel
theorem dX8_init_125 : decode cX8_init 125 = .ok (.aload_n 0, 1) := by decide +kernel
theorem dX8_init_126 : decode cX8_init 126 = .ok (.bipush 6, 2) := by decide +kernel
theorem dX8_init_128 : decode cX8_init 128 = .ok (.newarray .boolean, 2) := by decide +kernel
theorem dX8_init_130 : decode cX8_init 130 = .ok (.putfield 51, 3) := by decide +kernel
theorem dX8_init_133 : decode cX8_init 133 = .ok (.aload_n 0, 1) := by decide +kernel
theorem dX8_init_134 : decode cX8_init 134 = .ok (.bipush 8, 2) := by decide +kernel
theorem dX8_init_136 : decode cX8_init 136 = .ok (.newarray .int, 2) := by decide +kernel
theorem dX8_init_138 : decode cX8_init 138 = .ok (.putfield 54, 3) := by decide +kernel
theorem dX8_init_141 : decode cX8_init 141 = .ok (.aload_n 0, 1) := by decide +kernel
theorem dX8_init_142 : decode cX8_init 142 = .ok (.bipush 8, 2) := by decide +kernel
theorem dX8_init_144 : decode cX8_init 144 = .ok (.newarray .int, 2) := by decide +kernel
theorem dX8_init_146 : decode cX8_init 146 = .ok (.putfield 57, 3) := by decide +kernel
theorem dX8_init_149 : decode cX8_init 149 = .ok (.aload_n 0, 1) := by decide +kernel
theorem dX8_init_150 : decode cX8_init 150 = .ok (.bipush 8, 2) := by decide +kernel
theorem dX8_init_152 : decode cX8_init 152 = .ok (.newarray .boolean, 2) := by decide +kernel
theorem dX8_init_154 : decode cX8_init 154 = .ok (.putfield 60, 3) := by decide +kernel
theorem dX8_init_157 : decode cX8_init 157 = .ok (.return_, 1) := by decide +kernel
theorem dX8_fails_0 : decode cX8_fails 0 = .ok (.aload_n 0, 1) := by decide +kernel
theorem dX8_fails_1 : decode cX8_fails 1 = .ok (.iload_n 1, 1) := by decide +kernel
theorem dX8_fails_2 : decode cX8_fails 2 = .ok (.putfield 63, 3) := by decide +kernel
theorem dX8_fails_5 : decode cX8_fails 5 = .ok (.bipush (-10), 2) := by decide +kernel
theorem dX8_fails_7 : decode cX8_fails 7 = .ok (.iload_n 1, 1) := by decide +kernel
theorem dX8_fails_8 : decode cX8_fails 8 = .ok (.isub, 1) := by decide +kernel
theorem dX8_fails_9 : decode cX8_fails 9 = .ok (.ireturn, 1) := by decide +kernel
theorem dX8_lost_0 : decode cX8_lost 0 = .ok (.aload_n 0, 1) := by decide +kernel
theorem dX8_lost_1 : decode cX8_lost 1 = .ok (.iload_n 1, 1) := by decide +kernel
theorem dX8_lost_2 : decode cX8_lost 2 = .ok (.putfield 63, 3) := by decide +kernel
theorem dX8_lost_5 : decode cX8_lost 5 = .ok (.ldc2_w 66, 3) := by decide +kernel
theorem dX8_lost_8 : decode cX8_lost 8 = .ok (.lreturn, 1) := by decide +kernel
theorem dX8_within_0 : decode cX8_within 0 = .ok (.iload_n 0, 1) := by decide +kernel
theorem dX8_within_1 : decode cX8_within 1 = .ok (.iload_n 1, 1) := by decide +kernel
theorem dX8_within_2 : decode cX8_within 2 = .ok (.if_icmp .lt 12, 3) := by decide +kernel
theorem dX8_within_5 : decode cX8_within 5 = .ok (.iload_n 0, 1) := by decide +kernel
theorem dX8_within_6 : decode cX8_within 6 = .ok (.iload_n 2, 1) := by decide +kernel
theorem dX8_within_7 : decode cX8_within 7 = .ok (.if_icmp .gt 7, 3) := by decide +kernel
theorem dX8_within_10 : decode cX8_within 10 = .ok (.iconst 1, 1) := by decide +kernel
theorem dX8_within_11 : decode cX8_within 11 = .ok (.goto 4, 3) := by decide +kernel
theorem dX8_within_14 : decode cX8_within 14 = .ok (.iconst 0, 1) := by decide +kernel
theorem dX8_within_15 : decode cX8_within 15 = .ok (.ireturn, 1) := by decide +kernel
theorem dX8_isSheet_0 : decode cX8_isSheet 0 = .ok (.iload_n 0, 1) := by decide +kernel
theorem dX8_isSheet_1 : decode cX8_isSheet 1 = .ok (.iconst 0, 1) := by decide +kernel
theorem dX8_isSheet_2 : decode cX8_isSheet 2 = .ok (.iconst 3, 1) := by decide +kernel
theorem dX8_isSheet_3 : decode cX8_isSheet 3 = .ok (.invokestatic 68, 3) := by decide +kernel
theorem dX8_isSheet_6 : decode cX8_isSheet 6 = .ok (.ireturn, 1) := by decide +kernel
theorem dX8_isSort_0 : decode cX8_isSort 0 = .ok (.iload_n 0, 1) := by decide +kernel
theorem dX8_isSort_1 : decode cX8_isSort 1 = .ok (.iconst 0, 1) := by decide +kernel
theorem dX8_isSort_2 : decode cX8_isSort 2 = .ok (.iconst 2, 1) := by decide +kernel
theorem dX8_isSort_3 : decode cX8_isSort 3 = .ok (.invokestatic 68, 3) := by decide +kernel
theorem dX8_isSort_6 : decode cX8_isSort 6 = .ok (.ireturn, 1) := by decide +kernel
theorem dX8_against_0 : decode cX8_against 0 = .ok (.aload_n 0, 1) := by decide +kernel
theorem dX8_against_1 : decode cX8_against 1 = .ok (.getfield 9, 3) := by decide +kernel
theorem dX8_against_4 : decode cX8_against 4 = .ok (.iload_n 1, 1) := by decide +kernel
theorem dX8_against_5 : decode cX8_against 5 = .ok (.iaload, 1) := by decide +kernel
theorem dX8_against_6 : decode cX8_against 6 = .ok (.bipush (-9), 2) := by decide +kernel
theorem dX8_against_8 : decode cX8_against 8 = .ok (.if_icmp .eq 15, 3) := by decide +kernel
theorem dX8_against_11 : decode cX8_against 11 = .ok (.aload_n 0, 1) := by decide +kernel
theorem dX8_against_12 : decode cX8_against 12 = .ok (.getfield 9, 3) := by decide +kernel
theorem dX8_against_15 : decode cX8_against 15 = .ok (.iload_n 1, 1) := by decide +kernel
theorem dX8_against_16 : decode cX8_against 16 = .ok (.iaload, 1) := by decide +kernel
theorem dX8_against_17 : decode cX8_against 17 = .ok (.iload_n 2, 1) := by decide +kernel
theorem dX8_against_18 : decode cX8_against 18 = .ok (.if_icmp .eq 5, 3) := by decide +kernel
theorem dX8_against_21 : decode cX8_against 21 = .ok (.iconst 2, 1) := by decide +kernel
theorem dX8_against_22 : decode cX8_against 22 = .ok (.ireturn, 1) := by decide +kernel
theorem dX8_against_23 : decode cX8_against 23 = .ok (.aload_n 0, 1) := by decide +kernel
theorem dX8_against_24 : decode cX8_against 24 = .ok (.getfield 9, 3) := by decide +kernel
theorem dX8_against_27 : decode cX8_against 27 = .ok (.iload_n 1, 1) := by decide +kernel
theorem dX8_against_28 : decode cX8_against 28 = .ok (.iaload, 1) := by decide +kernel
theorem dX8_against_29 : decode cX8_against 29 = .ok (.bipush (-9), 2) := by decide +kernel
theorem dX8_against_31 : decode cX8_against 31 = .ok (.if_icmp .ne 5, 3) := by decide +kernel
theorem dX8_against_34 : decode cX8_against 34 = .ok (.iconst 1, 1) := by decide +kernel
theorem dX8_against_35 : decode cX8_against 35 = .ok (.ireturn, 1) := by decide +kernel
theorem dX8_against_36 : decode cX8_against 36 = .ok (.iload 4, 2) := by decide +kernel
theorem dX8_against_38 : decode cX8_against 38 = .ok (.ifCond .ge 5, 3) := by decide +kernel
theorem dX8_against_41 : decode cX8_against 41 = .ok (.iconst 4, 1) := by decide +kernel
theorem dX8_against_42 : decode cX8_against 42 = .ok (.ireturn, 1) := by decide +kernel
theorem dX8_against_43 : decode cX8_against 43 = .ok (.iload_n 3, 1) := by decide +kernel
theorem dX8_against_44 : decode cX8_against 44 = .ok (.ifCond .lt 26, 3) := by decide +kernel
theorem dX8_against_47 : decode cX8_against 47 = .ok (.iload_n 3, 1) := by decide +kernel
theorem dX8_against_48 : decode cX8_against 48 = .ok (.aload_n 0, 1) := by decide +kernel
theorem dX8_against_49 : decode cX8_against 49 = .ok (.getfield 13, 3) := by decide +kernel
theorem dX8_against_52 : decode cX8_against 52 = .ok (.iload_n 1, 1) := by decide +kernel
theorem dX8_against_53 : decode cX8_against 53 = .ok (.iaload, 1) := by decide +kernel
theorem dX8_against_54 : decode cX8_against 54 = .ok (.if_icmp .gt 16, 3) := by decide +kernel
theorem dX8_against_57 : decode cX8_against 57 = .ok (.iload 4, 2) := by decide +kernel
theorem dX8_against_59 : decode cX8_against 59 = .ok (.aload_n 0, 1) := by decide +kernel
theorem dX8_against_60 : decode cX8_against 60 = .ok (.getfield 13, 3) := by decide +kernel
theorem dX8_against_63 : decode cX8_against 63 = .ok (.iload_n 1, 1) := by decide +kernel
theorem dX8_against_64 : decode cX8_against 64 = .ok (.iaload, 1) := by decide +kernel
theorem dX8_against_65 : decode cX8_against 65 = .ok (.iload_n 3, 1) := by decide +kernel
theorem dX8_against_66 : decode cX8_against 66 = .ok (.isub, 1) := by decide +kernel
theorem dX8_against_67 : decode cX8_against 67 = .ok (.if_icmp .le 7, 3) := by decide +kernel
theorem dX8_against_70 : decode cX8_against 70 = .ok (.iconst 3, 1) := by decide +kernel
theorem dX8_against_71 : decode cX8_against 71 = .ok (.goto 4, 3) := by decide +kernel
theorem dX8_against_74 : decode cX8_against 74 = .ok (.iconst 0, 1) := by decide +kernel
theorem dX8_against_75 : decode cX8_against 75 = .ok (.ireturn, 1) := by decide +kernel
theorem dX8_isBill_0 : decode cX8_isBill 0 = .ok (.iload_n 1, 1) := by decide +kernel
theorem dX8_isBill_1 : decode cX8_isBill 1 = .ok (.ifCond .lt 15, 3) := by decide +kernel
theorem dX8_isBill_4 : decode cX8_isBill 4 = .ok (.iload_n 1, 1) := by decide +kernel
theorem dX8_isBill_5 : decode cX8_isBill 5 = .ok (.aload_n 0, 1) := by decide +kernel
theorem dX8_isBill_6 : decode cX8_isBill 6 = .ok (.getfield 72, 3) := by decide +kernel
theorem dX8_isBill_9 : decode cX8_isBill 9 = .ok (.if_icmp .ge 7, 3) := by decide +kernel
theorem dX8_isBill_12 : decode cX8_isBill 12 = .ok (.iconst 1, 1) := by decide +kernel
theorem dX8_isBill_13 : decode cX8_isBill 13 = .ok (.goto 4, 3) := by decide +kernel
theorem dX8_isBill_16 : decode cX8_isBill 16 = .ok (.iconst 0, 1) := by decide +kernel
theorem dX8_isBill_17 : decode cX8_isBill 17 = .ok (.ireturn, 1) := by decide +kernel
theorem dX8_isDay_0 : decode cX8_isDay 0 = .ok (.iload_n 0, 1) := by decide +kernel
theorem dX8_isDay_1 : decode cX8_isDay 1 = .ok (.iconst 0, 1) := by decide +kernel
theorem dX8_isDay_2 : decode cX8_isDay 2 = .ok (.bipush 109, 2) := by decide +kernel
theorem dX8_isDay_4 : decode cX8_isDay 4 = .ok (.invokestatic 68, 3) := by decide +kernel
theorem dX8_isDay_7 : decode cX8_isDay 7 = .ok (.ireturn, 1) := by decide +kernel
theorem dX8_digit_0 : decode cX8_digit 0 = .ok (.aload_n 0, 1) := by decide +kernel
theorem dX8_digit_1 : decode cX8_digit 1 = .ok (.getfield 75, 3) := by decide +kernel
theorem dX8_digit_4 : decode cX8_digit 4 = .ok (.iload_n 1, 1) := by decide +kernel
theorem dX8_digit_5 : decode cX8_digit 5 = .ok (.if_icmp .ge 26, 3) := by decide +kernel
theorem dX8_digit_8 : decode cX8_digit 8 = .ok (.aload_n 0, 1) := by decide +kernel
theorem dX8_digit_9 : decode cX8_digit 9 = .ok (.getfield 16, 3) := by decide +kernel
theorem dX8_digit_12 : decode cX8_digit 12 = .ok (.aload_n 0, 1) := by decide +kernel
theorem dX8_digit_13 : decode cX8_digit 13 = .ok (.getfield 75, 3) := by decide +kernel
theorem dX8_digit_16 : decode cX8_digit 16 = .ok (.iaload, 1) := by decide +kernel
theorem dX8_digit_17 : decode cX8_digit 17 = .ok (.bipush 48, 2) := by decide +kernel
theorem dX8_digit_19 : decode cX8_digit 19 = .ok (.iload_n 2, 1) := by decide +kernel
theorem dX8_digit_20 : decode cX8_digit 20 = .ok (.iadd, 1) := by decide +kernel
theorem dX8_digit_21 : decode cX8_digit 21 = .ok (.bipush 48, 2) := by decide +kernel
theorem dX8_digit_23 : decode cX8_digit 23 = .ok (.iload_n 3, 1) := by decide +kernel
theorem dX8_digit_24 : decode cX8_digit 24 = .ok (.iadd, 1) := by decide +kernel
theorem dX8_digit_25 : decode cX8_digit 25 = .ok (.invokestatic 68, 3) := by decide +kernel
theorem dX8_digit_28 : decode cX8_digit 28 = .ok (.ifCond .ne 6, 3) := by decide +kernel
theorem dX8_digit_31 : decode cX8_digit 31 = .ok (.bipush (-9), 2) := by decide +kernel
theorem dX8_digit_33 : decode cX8_digit 33 = .ok (.ireturn, 1) := by decide +kernel
theorem dX8_digit_34 : decode cX8_digit 34 = .ok (.aload_n 0, 1) := by decide +kernel
theorem dX8_digit_35 : decode cX8_digit 35 = .ok (.dup, 1) := by decide +kernel
theorem dX8_digit_36 : decode cX8_digit 36 = .ok (.getfield 75, 3) := by decide +kernel
theorem dX8_digit_39 : decode cX8_digit 39 = .ok (.iconst 1, 1) := by decide +kernel
theorem dX8_digit_40 : decode cX8_digit 40 = .ok (.iadd, 1) := by decide +kernel
theorem dX8_digit_41 : decode cX8_digit 41 = .ok (.putfield 75, 3) := by decide +kernel
theorem dX8_digit_44 : decode cX8_digit 44 = .ok (.aload_n 0, 1) := by decide +kernel
theorem dX8_digit_45 : decode cX8_digit 45 = .ok (.getfield 16, 3) := by decide +kernel
theorem dX8_digit_48 : decode cX8_digit 48 = .ok (.aload_n 0, 1) := by decide +kernel
theorem dX8_digit_49 : decode cX8_digit 49 = .ok (.getfield 75, 3) := by decide +kernel
theorem dX8_digit_52 : decode cX8_digit 52 = .ok (.iconst 1, 1) := by decide +kernel
theorem dX8_digit_53 : decode cX8_digit 53 = .ok (.isub, 1) := by decide +kernel
theorem dX8_digit_54 : decode cX8_digit 54 = .ok (.iaload, 1) := by decide +kernel
theorem dX8_digit_55 : decode cX8_digit 55 = .ok (.bipush 48, 2) := by decide +kernel
theorem dX8_digit_57 : decode cX8_digit 57 = .ok (.isub, 1) := by decide +kernel
theorem dX8_digit_58 : decode cX8_digit 58 = .ok (.ireturn, 1) := by decide +kernel
theorem dX8_isSign_0 : decode cX8_isSign 0 = .ok (.aload_n 0, 1) := by decide +kernel
theorem dX8_isSign_1 : decode cX8_isSign 1 = .ok (.getfield 75, 3) := by decide +kernel
theorem dX8_isSign_4 : decode cX8_isSign 4 = .ok (.iload_n 1, 1) := by decide +kernel
theorem dX8_isSign_5 : decode cX8_isSign 5 = .ok (.if_icmp .ge 16, 3) := by decide +kernel
theorem dX8_isSign_8 : decode cX8_isSign 8 = .ok (.aload_n 0, 1) := by decide +kernel
theorem dX8_isSign_9 : decode cX8_isSign 9 = .ok (.getfield 16, 3) := by decide +kernel
theorem dX8_isSign_12 : decode cX8_isSign 12 = .ok (.aload_n 0, 1) := by decide +kernel
theorem dX8_isSign_13 : decode cX8_isSign 13 = .ok (.getfield 75, 3) := by decide +kernel
theorem dX8_isSign_16 : decode cX8_isSign 16 = .ok (.iaload, 1) := by decide +kernel
theorem dX8_isSign_17 : decode cX8_isSign 17 = .ok (.iload_n 2, 1) := by decide +kernel
theorem dX8_isSign_18 : decode cX8_isSign 18 = .ok (.if_icmp .eq 5, 3) := by decide +kernel
theorem dX8_isSign_21 : decode cX8_isSign 21 = .ok (.iconst 0, 1) := by decide +kernel
theorem dX8_isSign_22 : decode cX8_isSign 22 = .ok (.ireturn, 1) := by decide +kernel
theorem dX8_isSign_23 : decode cX8_isSign 23 = .ok (.aload_n 0, 1) := by decide +kernel
theorem dX8_isSign_24 : decode cX8_isSign 24 = .ok (.dup, 1) := by decide +kernel
theorem dX8_isSign_25 : decode cX8_isSign 25 = .ok (.getfield 75, 3) := by decide +kernel
theorem dX8_isSign_28 : decode cX8_isSign 28 = .ok (.iconst 1, 1) := by decide +kernel
theorem dX8_isSign_29 : decode cX8_isSign 29 = .ok (.iadd, 1) := by decide +kernel
theorem dX8_isSign_30 : decode cX8_isSign 30 = .ok (.putfield 75, 3) := by decide +kernel
theorem dX8_isSign_33 : decode cX8_isSign 33 = .ok (.iconst 1, 1) := by decide +kernel
theorem dX8_isSign_34 : decode cX8_isSign 34 = .ok (.ireturn, 1) := by decide +kernel
theorem dX8_number_0 : decode cX8_number 0 = .ok (.aload_n 0, 1) := by decide +kernel
theorem dX8_number_1 : decode cX8_number 1 = .ok (.iload_n 1, 1) := by decide +kernel
theorem dX8_number_2 : decode cX8_number 2 = .ok (.iload_n 2, 1) := by decide +kernel
theorem dX8_number_3 : decode cX8_number 3 = .ok (.bipush 10, 2) := by decide +kernel
theorem dX8_number_5 : decode cX8_number 5 = .ok (.idiv, 1) := by decide +kernel
theorem dX8_number_6 : decode cX8_number 6 = .ok (.iload_n 3, 1) := by decide +kernel
theorem dX8_number_7 : decode cX8_number 7 = .ok (.bipush 10, 2) := by decide +kernel
theorem dX8_number_9 : decode cX8_number 9 = .ok (.idiv, 1) := by decide +kernel
theorem dX8_number_10 : decode cX8_number 10 = .ok (.invokevirtual 78, 3) := by decide +kernel
theorem dX8_number_13 : decode cX8_number 13 = .ok (.istore 4, 2) := by decide +kernel
theorem dX8_number_15 : decode cX8_number 15 = .ok (.iload 4, 2) := by decide +kernel
theorem dX8_number_17 : decode cX8_number 17 = .ok (.bipush (-9), 2) := by decide +kernel
theorem dX8_number_19 : decode cX8_number 19 = .ok (.if_icmp .ne 6, 3) := by decide +kernel
theorem dX8_number_22 : decode cX8_number 22 = .ok (.bipush (-9), 2) := by decide +kernel
theorem dX8_number_24 : decode cX8_number 24 = .ok (.ireturn, 1) := by decide +kernel
theorem dX8_number_25 : decode cX8_number 25 = .ok (.aload_n 0, 1) := by decide +kernel
theorem dX8_number_26 : decode cX8_number 26 = .ok (.iload_n 1, 1) := by decide +kernel
theorem dX8_number_27 : decode cX8_number 27 = .ok (.iconst 0, 1) := by decide +kernel
theorem dX8_number_28 : decode cX8_number 28 = .ok (.iload 4, 2) := by decide +kernel
theorem dX8_number_30 : decode cX8_number 30 = .ok (.iload_n 3, 1) := by decide +kernel
theorem dX8_number_31 : decode cX8_number 31 = .ok (.bipush 10, 2) := by decide +kernel
theorem dX8_number_33 : decode cX8_number 33 = .ok (.idiv, 1) := by decide +kernel
theorem dX8_number_34 : decode cX8_number 34 = .ok (.if_icmp .ne 10, 3) := by decide +kernel
theorem dX8_number_37 : decode cX8_number 37 = .ok (.iload_n 3, 1) := by decide +kernel
theorem dX8_number_38 : decode cX8_number 38 = .ok (.bipush 10, 2) := by decide +kernel
theorem dX8_number_40 : decode cX8_number 40 = .ok (.irem, 1) := by decide +kernel
theorem dX8_number_41 : decode cX8_number 41 = .ok (.goto 5, 3) := by decide +kernel
theorem dX8_number_44 : decode cX8_number 44 = .ok (.bipush 9, 2) := by decide +kernel
theorem dX8_number_46 : decode cX8_number 46 = .ok (.invokevirtual 78, 3) := by decide +kernel
theorem dX8_number_49 : decode cX8_number 49 = .ok (.istore 5, 2) := by decide +kernel
theorem dX8_number_51 : decode cX8_number 51 = .ok (.iload 5, 2) := by decide +kernel
theorem dX8_number_53 : decode cX8_number 53 = .ok (.bipush (-9), 2) := by decide +kernel
theorem dX8_number_55 : decode cX8_number 55 = .ok (.if_icmp .ne 8, 3) := by decide +kernel
theorem dX8_number_58 : decode cX8_number 58 = .ok (.bipush (-9), 2) := by decide +kernel
theorem dX8_number_60 : decode cX8_number 60 = .ok (.goto 11, 3) := by decide +kernel
theorem dX8_number_63 : decode cX8_number 63 = .ok (.bipush 10, 2) := by decide +kernel
theorem dX8_number_65 : decode cX8_number 65 = .ok (.iload 4, 2) := by decide +kernel
theorem dX8_number_67 : decode cX8_number 67 = .ok (.imul, 1) := by decide +kernel
theorem dX8_number_68 : decode cX8_number 68 = .ok (.iload 5, 2) := by decide +kernel
theorem dX8_number_70 : decode cX8_number 70 = .ok (.iadd, 1) := by decide +kernel
theorem dX8_number_71 : decode cX8_number 71 = .ok (.ireturn, 1) := by decide +kernel
theorem dX8_council_0 : decode cX8_council 0 = .ok (.aload_n 0, 1) := by decide +kernel
theorem dX8_council_1 : decode cX8_council 1 = .ok (.iconst 0, 1) := by decide +kernel
theorem dX8_council_2 : decode cX8_council 2 = .ok (.putfield 63, 3) := by decide +kernel
theorem dX8_council_5 : decode cX8_council 5 = .ok (.iload_n 1, 1) := by decide +kernel
theorem dX8_council_6 : decode cX8_council 6 = .ok (.invokestatic 82, 3) := by decide +kernel
theorem dX8_council_9 : decode cX8_council 9 = .ok (.ifCond .ne 5, 3) := by decide +kernel
theorem dX8_council_12 : decode cX8_council 12 = .ok (.iconst (-1), 1) := by decide +kernel
theorem dX8_council_13 : decode cX8_council 13 = .ok (.ireturn, 1) := by decide +kernel
theorem dX8_council_14 : decode cX8_council 14 = .ok (.iload_n 2, 1) := by decide +kernel
theorem dX8_council_15 : decode cX8_council 15 = .ok (.invokestatic 86, 3) := by decide +kernel
theorem dX8_council_18 : decode cX8_council 18 = .ok (.ifCond .ne 6, 3) := by decide +kernel
theorem dX8_council_21 : decode cX8_council 21 = .ok (.bipush (-2), 2) := by decide +kernel
theorem dX8_council_23 : decode cX8_council 23 = .ok (.ireturn, 1) := by decide +kernel
theorem dX8_council_24 : decode cX8_council 24 = .ok (.aload_n 0, 1) := by decide +kernel
theorem dX8_council_25 : decode cX8_council 25 = .ok (.iload_n 1, 1) := by decide +kernel
theorem dX8_council_26 : decode cX8_council 26 = .ok (.iload_n 2, 1) := by decide +kernel
theorem dX8_council_27 : decode cX8_council 27 = .ok (.iload_n 3, 1) := by decide +kernel
theorem dX8_council_28 : decode cX8_council 28 = .ok (.iload 4, 2) := by decide +kernel
theorem dX8_council_30 : decode cX8_council 30 = .ok (.invokevirtual 89, 3) := by decide +kernel
theorem dX8_council_33 : decode cX8_council 33 = .ok (.istore 5, 2) := by decide +kernel
theorem dX8_council_35 : decode cX8_council 35 = .ok (.iload 5, 2) := by decide +kernel
theorem dX8_council_37 : decode cX8_council 37 = .ok (.ifCond .eq 10, 3) := by decide +kernel
theorem dX8_council_40 : decode cX8_council 40 = .ok (.aload_n 0, 1) := by decide +kernel
theorem dX8_council_41 : decode cX8_council 41 = .ok (.iload 5, 2) := by decide +kernel
theorem dX8_council_43 : decode cX8_council 43 = .ok (.invokevirtual 93, 3) := by decide +kernel
theorem dX8_council_46 : decode cX8_council 46 = .ok (.ireturn, 1) := by decide +kernel
theorem dX8_council_47 : decode cX8_council 47 = .ok (.bipush 60, 2) := by decide +kernel
theorem dX8_council_49 : decode cX8_council 49 = .ok (.iload_n 1, 1) := by decide +kernel
theorem dX8_council_50 : decode cX8_council 50 = .ok (.imul, 1) := by decide +kernel
theorem dX8_council_51 : decode cX8_council 51 = .ok (.iload_n 3, 1) := by decide +kernel
theorem dX8_council_52 : decode cX8_council 52 = .ok (.iadd, 1) := by decide +kernel
theorem dX8_council_53 : decode cX8_council 53 = .ok (.istore 6, 2) := by decide +kernel
theorem dX8_council_55 : decode cX8_council 55 = .ok (.aload_n 0, 1) := by decide +kernel
theorem dX8_council_56 : decode cX8_council 56 = .ok (.iload 6, 2) := by decide +kernel
theorem dX8_council_58 : decode cX8_council 58 = .ok (.putfield 75, 3) := by decide +kernel
theorem dX8_council_61 : decode cX8_council 61 = .ok (.aload_n 0, 1) := by decide +kernel
theorem dX8_council_62 : decode cX8_council 62 = .ok (.iload 6, 2) := by decide +kernel
theorem dX8_council_64 : decode cX8_council 64 = .ok (.iload 4, 2) := by decide +kernel
theorem dX8_council_66 : decode cX8_council 66 = .ok (.iadd, 1) := by decide +kernel
theorem dX8_council_67 : decode cX8_council 67 = .ok (.invokevirtual 97, 3) := by decide +kernel
theorem dX8_council_70 : decode cX8_council 70 = .ok (.ifCond .ne 14, 3) := by decide +kernel
theorem dX8_council_73 : decode cX8_council 73 = .ok (.bipush (-100), 2) := by decide +kernel
theorem dX8_council_75 : decode cX8_council 75 = .ok (.aload_n 0, 1) := by decide +kernel
theorem dX8_council_76 : decode cX8_council 76 = .ok (.getfield 75, 3) := by decide +kernel
theorem dX8_council_79 : decode cX8_council 79 = .ok (.iload 6, 2) := by decide +kernel
theorem dX8_council_81 : decode cX8_council 81 = .ok (.isub, 1) := by decide +kernel
theorem dX8_council_82 : decode cX8_council 82 = .ok (.isub, 1) := by decide +kernel
theorem dX8_council_83 : decode cX8_council 83 = .ok (.ireturn, 1) := by decide +kernel
theorem dX8_council_84 : decode cX8_council 84 = .ok (.aload_n 0, 1) := by decide +kernel
theorem dX8_council_85 : decode cX8_council 85 = .ok (.aload_n 0, 1) := by decide +kernel
theorem dX8_council_86 : decode cX8_council 86 = .ok (.getfield 100, 3) := by decide +kernel
theorem dX8_council_89 : decode cX8_council 89 = .ok (.putfield 103, 3) := by decide +kernel
theorem dX8_council_92 : decode cX8_council 92 = .ok (.aload_n 0, 1) := by decide +kernel
theorem dX8_council_93 : decode cX8_council 93 = .ok (.aload_n 0, 1) := by decide +kernel
theorem dX8_council_94 : decode cX8_council 94 = .ok (.getfield 106, 3) := by decide +kernel
theorem dX8_council_97 : decode cX8_council 97 = .ok (.putfield 109, 3) := by decide +kernel
theorem dX8_council_100 : decode cX8_council 100 = .ok (.aload_n 0, 1) := by decide +kernel
theorem dX8_council_101 : decode cX8_council 101 = .ok (.aload_n 0, 1) := by decide +kernel
theorem dX8_council_102 : decode cX8_council 102 = .ok (.getfield 112, 3) := by decide +kernel
theorem dX8_council_105 : decode cX8_council 105 = .ok (.putfield 115, 3) := by decide +kernel
theorem dX8_council_108 : decode cX8_council 108 = .ok (.aload_n 0, 1) := by decide +kernel
theorem dX8_council_109 : decode cX8_council 109 = .ok (.aload_n 0, 1) := by decide +kernel
theorem dX8_council_110 : decode cX8_council 110 = .ok (.getfield 118, 3) := by decide +kernel
theorem dX8_council_113 : decode cX8_council 113 = .ok (.putfield 121, 3) := by decide +kernel
theorem dX8_council_116 : decode cX8_council 116 = .ok (.aload_n 0, 1) := by decide +kernel
theorem dX8_council_117 : decode cX8_council 117 = .ok (.aload_n 0, 1) := by decide +kernel
theorem dX8_council_118 : decode cX8_council 118 = .ok (.getfield 124, 3) := by decide +kernel
theorem dX8_council_121 : decode cX8_council 121 = .ok (.putfield 72, 3) := by decide +kernel
theorem dX8_council_124 : decode cX8_council 124 = .ok (.iconst 0, 1) := by decide +kernel
theorem dX8_council_125 : decode cX8_council 125 = .ok (.istore 7, 2) := by decide +kernel
theorem dX8_council_127 : decode cX8_council 127 = .ok (.iload 7, 2) := by decide +kernel
theorem dX8_council_129 : decode cX8_council 129 = .ok (.aload_n 0, 1) := by decide +kernel
theorem dX8_council_130 : decode cX8_council 130 = .ok (.getfield 72, 3) := by decide +kernel
theorem dX8_council_133 : decode cX8_council 133 = .ok (.if_icmp .ge 97, 3) := by decide +kernel
theorem dX8_council_136 : decode cX8_council 136 = .ok (.aload_n 0, 1) := by decide +kernel
theorem dX8_council_137 : decode cX8_council 137 = .ok (.getfield 19, 3) := by decide +kernel
theorem dX8_council_140 : decode cX8_council 140 = .ok (.iload 7, 2) := by decide +kernel
theorem dX8_council_142 : decode cX8_council 142 = .ok (.aload_n 0, 1) := by decide +kernel
theorem dX8_council_143 : decode cX8_council 143 = .ok (.getfield 42, 3) := by decide +kernel
theorem dX8_council_146 : decode cX8_council 146 = .ok (.iconst 5, 1) := by decide +kernel
theorem dX8_council_147 : decode cX8_council 147 = .ok (.iload 7, 2) := by decide +kernel
theorem dX8_council_149 : decode cX8_council 149 = .ok (.imul, 1) := by decide +kernel
theorem dX8_council_150 : decode cX8_council 150 = .ok (.iaload, 1) := by decide +kernel
theorem dX8_council_151 : decode cX8_council 151 = .ok (.iastore, 1) := by decide +kernel
theorem dX8_council_152 : decode cX8_council 152 = .ok (.aload_n 0, 1) := by decide +kernel
theorem dX8_council_153 : decode cX8_council 153 = .ok (.getfield 22, 3) := by decide +kernel
theorem dX8_council_156 : decode cX8_council 156 = .ok (.iload 7, 2) := by decide +kernel
theorem dX8_council_158 : decode cX8_council 158 = .ok (.aload_n 0, 1) := by decide +kernel
theorem dX8_council_159 : decode cX8_council 159 = .ok (.getfield 42, 3) := by decide +kernel
theorem dX8_council_162 : decode cX8_council 162 = .ok (.iconst 5, 1) := by decide +kernel
theorem dX8_council_163 : decode cX8_council 163 = .ok (.iload 7, 2) := by decide +kernel
theorem dX8_council_165 : decode cX8_council 165 = .ok (.imul, 1) := by decide +kernel
theorem dX8_council_166 : decode cX8_council 166 = .ok (.iconst 1, 1) := by decide +kernel
theorem dX8_council_167 : decode cX8_council 167 = .ok (.iadd, 1) := by decide +kernel
theorem dX8_council_168 : decode cX8_council 168 = .ok (.iaload, 1) := by decide +kernel
theorem dX8_council_169 : decode cX8_council 169 = .ok (.iastore, 1) := by decide +kernel
theorem dX8_council_170 : decode cX8_council 170 = .ok (.aload_n 0, 1) := by decide +kernel
theorem dX8_council_171 : decode cX8_council 171 = .ok (.getfield 25, 3) := by decide +kernel
theorem dX8_council_174 : decode cX8_council 174 = .ok (.iload 7, 2) := by decide +kernel
theorem dX8_council_176 : decode cX8_council 176 = .ok (.aload_n 0, 1) := by decide +kernel
theorem dX8_council_177 : decode cX8_council 177 = .ok (.getfield 42, 3) := by decide +kernel
theorem dX8_council_180 : decode cX8_council 180 = .ok (.iconst 5, 1) := by decide +kernel
theorem dX8_council_181 : decode cX8_council 181 = .ok (.iload 7, 2) := by decide +kernel
theorem dX8_council_183 : decode cX8_council 183 = .ok (.imul, 1) := by decide +kernel
theorem dX8_council_184 : decode cX8_council 184 = .ok (.iconst 2, 1) := by decide +kernel
theorem dX8_council_185 : decode cX8_council 185 = .ok (.iadd, 1) := by decide +kernel
theorem dX8_council_186 : decode cX8_council 186 = .ok (.iaload, 1) := by decide +kernel
theorem dX8_council_187 : decode cX8_council 187 = .ok (.iastore, 1) := by decide +kernel
theorem dX8_council_188 : decode cX8_council 188 = .ok (.aload_n 0, 1) := by decide +kernel
theorem dX8_council_189 : decode cX8_council 189 = .ok (.getfield 28, 3) := by decide +kernel
theorem dX8_council_192 : decode cX8_council 192 = .ok (.iload 7, 2) := by decide +kernel
theorem dX8_council_194 : decode cX8_council 194 = .ok (.aload_n 0, 1) := by decide +kernel
theorem dX8_council_195 : decode cX8_council 195 = .ok (.getfield 42, 3) := by decide +kernel
theorem dX8_council_198 : decode cX8_council 198 = .ok (.iconst 5, 1) := by decide +kernel
theorem dX8_council_199 : decode cX8_council 199 = .ok (.iload 7, 2) := by decide +kernel
theorem dX8_council_201 : decode cX8_council 201 = .ok (.imul, 1) := by decide +kernel
theorem dX8_council_202 : decode cX8_council 202 = .ok (.iconst 3, 1) := by decide +kernel
theorem dX8_council_203 : decode cX8_council 203 = .ok (.iadd, 1) := by decide +kernel
theorem dX8_council_204 : decode cX8_council 204 = .ok (.iaload, 1) := by decide +kernel
theorem dX8_council_205 : decode cX8_council 205 = .ok (.iastore, 1) := by decide +kernel
theorem dX8_council_206 : decode cX8_council 206 = .ok (.aload_n 0, 1) := by decide +kernel
theorem dX8_council_207 : decode cX8_council 207 = .ok (.getfield 31, 3) := by decide +kernel
theorem dX8_council_210 : decode cX8_council 210 = .ok (.iload 7, 2) := by decide +kernel
theorem dX8_council_212 : decode cX8_council 212 = .ok (.aload_n 0, 1) := by decide +kernel
theorem dX8_council_213 : decode cX8_council 213 = .ok (.getfield 42, 3) := by decide +kernel
theorem dX8_council_216 : decode cX8_council 216 = .ok (.iconst 5, 1) := by decide +kernel
theorem dX8_council_217 : decode cX8_council 217 = .ok (.iload 7, 2) := by decide +kernel
theorem dX8_council_219 : decode cX8_council 219 = .ok (.imul, 1) := by decide +kernel
theorem dX8_council_220 : decode cX8_council 220 = .ok (.iconst 4, 1) := by decide +kernel
theorem dX8_council_221 : decode cX8_council 221 = .ok (.iadd, 1) := by decide +kernel
theorem dX8_council_222 : decode cX8_council 222 = .ok (.iaload, 1) := by decide +kernel
theorem dX8_council_223 : decode cX8_council 223 = .ok (.iastore, 1) := by decide +kernel
theorem dX8_council_224 : decode cX8_council 224 = .ok (.iinc 7 1, 3) := by decide +kernel
theorem dX8_council_227 : decode cX8_council 227 = .ok (.goto (-100), 3) := by decide +kernel
theorem dX8_council_230 : decode cX8_council 230 = .ok (.iconst 0, 1) := by decide +kernel
theorem dX8_council_231 : decode cX8_council 231 = .ok (.istore 7, 2) := by decide +kernel
theorem dX8_council_233 : decode cX8_council 233 = .ok (.iload 7, 2) := by decide +kernel
theorem dX8_council_235 : decode cX8_council 235 = .ok (.bipush 110, 2) := by decide +kernel
theorem dX8_council_237 : decode cX8_council 237 = .ok (.if_icmp .ge 17, 3) := by decide +kernel
theorem dX8_council_240 : decode cX8_council 240 = .ok (.aload_n 0, 1) := by decide +kernel
theorem dX8_council_241 : decode cX8_council 241 = .ok (.getfield 34, 3) := by decide +kernel
theorem dX8_council_244 : decode cX8_council 244 = .ok (.iload 7, 2) := by decide +kernel
theorem dX8_council_246 : decode cX8_council 246 = .ok (.iconst 0, 1) := by decide +kernel
theorem dX8_council_247 : decode cX8_council 247 = .ok (.bastore, 1) := by decide +kernel
theorem dX8_council_248 : decode cX8_council 248 = .ok (.iinc 7 1, 3) := by decide +kernel
theorem dX8_council_251 : decode cX8_council 251 = .ok (.goto (-18), 3) := by decide +kernel
theorem dX8_council_254 : decode cX8_council 254 = .ok (.aload_n 0, 1) := by decide +kernel
theorem dX8_council_255 : decode cX8_council 255 = .ok (.iconst 0, 1) := by decide +kernel
theorem dX8_council_256 : decode cX8_council 256 = .ok (.putfield 127, 3) := by decide +kernel
theorem dX8_council_259 : decode cX8_council 259 = .ok (.aload_n 0, 1) := by decide +kernel
theorem dX8_council_260 : decode cX8_council 260 = .ok (.iconst 0, 1) := by decide +kernel
theorem dX8_council_261 : decode cX8_council 261 = .ok (.putfield 130, 3) := by decide +kernel
theorem dX8_council_264 : decode cX8_council 264 = .ok (.aload_n 0, 1) := by decide +kernel
theorem dX8_council_265 : decode cX8_council 265 = .ok (.getfield 72, 3) := by decide +kernel
theorem dX8_council_268 : decode cX8_council 268 = .ok (.ireturn, 1) := by decide +kernel
theorem dX8_readCouncil_0 : decode cX8_readCouncil 0 = .ok (.aload_n 0, 1) := by decide +kernel
theorem dX8_readCouncil_1 : decode cX8_readCouncil 1 = .ok (.iconst 0, 1) := by decide +kernel
theorem dX8_readCouncil_2 : decode cX8_readCouncil 2 = .ok (.putfield 124, 3) := by decide +kernel
theorem dX8_readCouncil_5 : decode cX8_readCouncil 5 = .ok (.aload_n 0, 1) := by decide +kernel
theorem dX8_readCouncil_6 : decode cX8_readCouncil 6 = .ok (.iload_n 1, 1) := by decide +kernel
theorem dX8_readCouncil_7 : decode cX8_readCouncil 7 = .ok (.bipush 109, 2) := by decide +kernel
theorem dX8_readCouncil_9 : decode cX8_readCouncil 9 = .ok (.invokevirtual 133, 3) := by decide +kernel
theorem dX8_readCouncil_12 : decode cX8_readCouncil 12 = .ok (.ifCond .eq 11, 3) := by decide +kernel
theorem dX8_readCouncil_15 : decode cX8_readCouncil 15 = .ok (.aload_n 0, 1) := by decide +kernel
theorem dX8_readCouncil_16 : decode cX8_readCouncil 16 = .ok (.iload_n 1, 1) := by decide +kernel
theorem dX8_readCouncil_17 : decode cX8_readCouncil 17 = .ok (.invokevirtual 137, 3) := by decide +kernel
theorem dX8_readCouncil_20 : decode cX8_readCouncil 20 = .ok (.ifCond .ne 5, 3) := by decide +kernel
theorem dX8_readCouncil_23 : decode cX8_readCouncil 23 = .ok (.iconst 0, 1) := by decide +kernel
theorem dX8_readCouncil_24 : decode cX8_readCouncil 24 = .ok (.ireturn, 1) := by decide +kernel
theorem dX8_readCouncil_25 : decode cX8_readCouncil 25 = .ok (.aload_n 0, 1) := by decide +kernel
theorem dX8_readCouncil_26 : decode cX8_readCouncil 26 = .ok (.getfield 124, 3) := by decide +kernel
theorem dX8_readCouncil_29 : decode cX8_readCouncil 29 = .ok (.ifCond .eq 20, 3) := by decide +kernel
theorem dX8_readCouncil_32 : decode cX8_readCouncil 32 = .ok (.aload_n 0, 1) := by decide +kernel
theorem dX8_readCouncil_33 : decode cX8_readCouncil 33 = .ok (.getfield 124, 3) := by decide +kernel
theorem dX8_readCouncil_36 : decode cX8_readCouncil 36 = .ok (.bipush 6, 2) := by decide +kernel
theorem dX8_readCouncil_38 : decode cX8_readCouncil 38 = .ok (.if_icmp .ge 31, 3) := by decide +kernel
theorem dX8_readCouncil_41 : decode cX8_readCouncil 41 = .ok (.aload_n 0, 1) := by decide +kernel
theorem dX8_readCouncil_42 : decode cX8_readCouncil 42 = .ok (.getfield 75, 3) := by decide +kernel
theorem dX8_readCouncil_45 : decode cX8_readCouncil 45 = .ok (.iload_n 1, 1) := by decide +kernel
theorem dX8_readCouncil_46 : decode cX8_readCouncil 46 = .ok (.if_icmp .ge 23, 3) := by decide +kernel
theorem dX8_readCouncil_49 : decode cX8_readCouncil 49 = .ok (.aload_n 0, 1) := by decide +kernel
theorem dX8_readCouncil_50 : decode cX8_readCouncil 50 = .ok (.iload_n 1, 1) := by decide +kernel
theorem dX8_readCouncil_51 : decode cX8_readCouncil 51 = .ok (.bipush 59, 2) := by decide +kernel
theorem dX8_readCouncil_53 : decode cX8_readCouncil 53 = .ok (.invokevirtual 133, 3) := by decide +kernel
theorem dX8_readCouncil_56 : decode cX8_readCouncil 56 = .ok (.ifCond .eq 11, 3) := by decide +kernel
theorem dX8_readCouncil_59 : decode cX8_readCouncil 59 = .ok (.aload_n 0, 1) := by decide +kernel
theorem dX8_readCouncil_60 : decode cX8_readCouncil 60 = .ok (.iload_n 1, 1) := by decide +kernel
theorem dX8_readCouncil_61 : decode cX8_readCouncil 61 = .ok (.invokevirtual 140, 3) := by decide +kernel
theorem dX8_readCouncil_64 : decode cX8_readCouncil 64 = .ok (.ifCond .ne (-39), 3) := by decide +kernel
theorem dX8_readCouncil_67 : decode cX8_readCouncil 67 = .ok (.iconst 0, 1) := by decide +kernel
theorem dX8_readCouncil_68 : decode cX8_readCouncil 68 = .ok (.ireturn, 1) := by decide +kernel
theorem dX8_readCouncil_69 : decode cX8_readCouncil 69 = .ok (.aload_n 0, 1) := by decide +kernel
theorem dX8_readCouncil_70 : decode cX8_readCouncil 70 = .ok (.getfield 75, 3) := by decide +kernel
theorem dX8_readCouncil_73 : decode cX8_readCouncil 73 = .ok (.iload_n 1, 1) := by decide +kernel
theorem dX8_readCouncil_74 : decode cX8_readCouncil 74 = .ok (.if_icmp .ne 7, 3) := by decide +kernel
theorem dX8_readCouncil_77 : decode cX8_readCouncil 77 = .ok (.iconst 1, 1) := by decide +kernel
theorem dX8_readCouncil_78 : decode cX8_readCouncil 78 = .ok (.goto 4, 3) := by decide +kernel
theorem dX8_readCouncil_81 : decode cX8_readCouncil 81 = .ok (.iconst 0, 1) := by decide +kernel
theorem dX8_readCouncil_82 : decode cX8_readCouncil 82 = .ok (.ireturn, 1) := by decide +kernel
theorem dX8_readCalendar_0 : decode cX8_readCalendar 0 = .ok (.aload_n 0, 1) := by decide +kernel
theorem dX8_readCalendar_1 : decode cX8_readCalendar 1 = .ok (.aload_n 0, 1) := by decide +kernel
theorem dX8_readCalendar_2 : decode cX8_readCalendar 2 = .ok (.iload_n 1, 1) := by decide +kernel
theorem dX8_readCalendar_3 : decode cX8_readCalendar 3 = .ok (.iconst 0, 1) := by decide +kernel
theorem dX8_readCalendar_4 : decode cX8_readCalendar 4 = .ok (.bipush 29, 2) := by decide +kernel
theorem dX8_readCalendar_6 : decode cX8_readCalendar 6 = .ok (.invokevirtual 143, 3) := by decide +kernel
theorem dX8_readCalendar_9 : decode cX8_readCalendar 9 = .ok (.putfield 100, 3) := by decide +kernel
theorem dX8_readCalendar_12 : decode cX8_readCalendar 12 = .ok (.aload_n 0, 1) := by decide +kernel
theorem dX8_readCalendar_13 : decode cX8_readCalendar 13 = .ok (.getfield 100, 3) := by decide +kernel
theorem dX8_readCalendar_16 : decode cX8_readCalendar 16 = .ok (.bipush (-9), 2) := by decide +kernel
theorem dX8_readCalendar_18 : decode cX8_readCalendar 18 = .ok (.if_icmp .ne 5, 3) := by decide +kernel
theorem dX8_readCalendar_21 : decode cX8_readCalendar 21 = .ok (.iconst 0, 1) := by decide +kernel
theorem dX8_readCalendar_22 : decode cX8_readCalendar 22 = .ok (.ireturn, 1) := by decide +kernel
theorem dX8_readCalendar_23 : decode cX8_readCalendar 23 = .ok (.aload_n 0, 1) := by decide +kernel
theorem dX8_readCalendar_24 : decode cX8_readCalendar 24 = .ok (.aload_n 0, 1) := by decide +kernel
theorem dX8_readCalendar_25 : decode cX8_readCalendar 25 = .ok (.iload_n 1, 1) := by decide +kernel
theorem dX8_readCalendar_26 : decode cX8_readCalendar 26 = .ok (.bipush 20, 2) := by decide +kernel
theorem dX8_readCalendar_28 : decode cX8_readCalendar 28 = .ok (.bipush 60, 2) := by decide +kernel
theorem dX8_readCalendar_30 : decode cX8_readCalendar 30 = .ok (.invokevirtual 143, 3) := by decide +kernel
theorem dX8_readCalendar_33 : decode cX8_readCalendar 33 = .ok (.putfield 106, 3) := by decide +kernel
theorem dX8_readCalendar_36 : decode cX8_readCalendar 36 = .ok (.aload_n 0, 1) := by decide +kernel
theorem dX8_readCalendar_37 : decode cX8_readCalendar 37 = .ok (.getfield 106, 3) := by decide +kernel
theorem dX8_readCalendar_40 : decode cX8_readCalendar 40 = .ok (.bipush (-9), 2) := by decide +kernel
end
section
theorem dX8_readCalendar_42 : decode cX8_readCalendar 42 = .ok (.if_icmp .ne 5, 3) := by decide +kernel
theorem dX8_readCalendar_45 : decode cX8_readCalendar 45 = .ok (.iconst 0, 1) := by decide +kernel
theorem dX8_readCalendar_46 : decode cX8_readCalendar 46 = .ok (.ireturn, 1) := by decide +kernel
theorem dX8_readCalendar_47 : decode cX8_readCalendar 47 = .ok (.aload_n 0, 1) := by decide +kernel
theorem dX8_readCalendar_48 : decode cX8_readCalendar 48 = .ok (.aload_n 0, 1) := by decide +kernel
theorem dX8_readCalendar_49 : decode cX8_readCalendar 49 = .ok (.iload_n 1, 1) := by decide +kernel
theorem dX8_readCalendar_50 : decode cX8_readCalendar 50 = .ok (.iconst 1, 1) := by decide +kernel
theorem dX8_readCalendar_51 : decode cX8_readCalendar 51 = .ok (.iconst 2, 1) := by decide +kernel
theorem dX8_readCalendar_52 : decode cX8_readCalendar 52 = .ok (.invokevirtual 78, 3) := by decide +kernel
theorem dX8_readCalendar_55 : decode cX8_readCalendar 55 = .ok (.putfield 112, 3) := by decide +kernel
theorem dX8_readCalendar_58 : decode cX8_readCalendar 58 = .ok (.aload_n 0, 1) := by decide +kernel
theorem dX8_readCalendar_59 : decode cX8_readCalendar 59 = .ok (.getfield 112, 3) := by decide +kernel
theorem dX8_readCalendar_62 : decode cX8_readCalendar 62 = .ok (.bipush (-9), 2) := by decide +kernel
theorem dX8_readCalendar_64 : decode cX8_readCalendar 64 = .ok (.if_icmp .ne 5, 3) := by decide +kernel
theorem dX8_readCalendar_67 : decode cX8_readCalendar 67 = .ok (.iconst 0, 1) := by decide +kernel
theorem dX8_readCalendar_68 : decode cX8_readCalendar 68 = .ok (.ireturn, 1) := by decide +kernel
theorem dX8_readCalendar_69 : decode cX8_readCalendar 69 = .ok (.aload_n 0, 1) := by decide +kernel
theorem dX8_readCalendar_70 : decode cX8_readCalendar 70 = .ok (.aload_n 0, 1) := by decide +kernel
theorem dX8_readCalendar_71 : decode cX8_readCalendar 71 = .ok (.iload_n 1, 1) := by decide +kernel
theorem dX8_readCalendar_72 : decode cX8_readCalendar 72 = .ok (.iconst 0, 1) := by decide +kernel
theorem dX8_readCalendar_73 : decode cX8_readCalendar 73 = .ok (.bipush 9, 2) := by decide +kernel
theorem dX8_readCalendar_75 : decode cX8_readCalendar 75 = .ok (.invokevirtual 78, 3) := by decide +kernel
theorem dX8_readCalendar_78 : decode cX8_readCalendar 78 = .ok (.putfield 118, 3) := by decide +kernel
theorem dX8_readCalendar_81 : decode cX8_readCalendar 81 = .ok (.aload_n 0, 1) := by decide +kernel
theorem dX8_readCalendar_82 : decode cX8_readCalendar 82 = .ok (.getfield 118, 3) := by decide +kernel
theorem dX8_readCalendar_85 : decode cX8_readCalendar 85 = .ok (.bipush (-9), 2) := by decide +kernel
theorem dX8_readCalendar_87 : decode cX8_readCalendar 87 = .ok (.if_icmp .eq 7, 3) := by decide +kernel
theorem dX8_readCalendar_90 : decode cX8_readCalendar 90 = .ok (.iconst 1, 1) := by decide +kernel
theorem dX8_readCalendar_91 : decode cX8_readCalendar 91 = .ok (.goto 4, 3) := by decide +kernel
theorem dX8_readCalendar_94 : decode cX8_readCalendar 94 = .ok (.iconst 0, 1) := by decide +kernel
theorem dX8_readCalendar_95 : decode cX8_readCalendar 95 = .ok (.ireturn, 1) := by decide +kernel
theorem dX8_readBill_0 : decode cX8_readBill 0 = .ok (.iconst 5, 1) := by decide +kernel
theorem dX8_readBill_1 : decode cX8_readBill 1 = .ok (.aload_n 0, 1) := by decide +kernel
theorem dX8_readBill_2 : decode cX8_readBill 2 = .ok (.getfield 124, 3) := by decide +kernel
theorem dX8_readBill_5 : decode cX8_readBill 5 = .ok (.imul, 1) := by decide +kernel
theorem dX8_readBill_6 : decode cX8_readBill 6 = .ok (.istore_n 2, 1) := by decide +kernel
theorem dX8_readBill_7 : decode cX8_readBill 7 = .ok (.aload_n 0, 1) := by decide +kernel
theorem dX8_readBill_8 : decode cX8_readBill 8 = .ok (.getfield 75, 3) := by decide +kernel
theorem dX8_readBill_11 : decode cX8_readBill 11 = .ok (.iload_n 1, 1) := by decide +kernel
theorem dX8_readBill_12 : decode cX8_readBill 12 = .ok (.if_icmp .ge 15, 3) := by decide +kernel
theorem dX8_readBill_15 : decode cX8_readBill 15 = .ok (.aload_n 0, 1) := by decide +kernel
theorem dX8_readBill_16 : decode cX8_readBill 16 = .ok (.getfield 16, 3) := by decide +kernel
theorem dX8_readBill_19 : decode cX8_readBill 19 = .ok (.aload_n 0, 1) := by decide +kernel
theorem dX8_readBill_20 : decode cX8_readBill 20 = .ok (.getfield 75, 3) := by decide +kernel
theorem dX8_readBill_23 : decode cX8_readBill 23 = .ok (.iaload, 1) := by decide +kernel
theorem dX8_readBill_24 : decode cX8_readBill 24 = .ok (.goto 4, 3) := by decide +kernel
theorem dX8_readBill_27 : decode cX8_readBill 27 = .ok (.iconst 0, 1) := by decide +kernel
theorem dX8_readBill_28 : decode cX8_readBill 28 = .ok (.istore_n 3, 1) := by decide +kernel
theorem dX8_readBill_29 : decode cX8_readBill 29 = .ok (.aload_n 0, 1) := by decide +kernel
theorem dX8_readBill_30 : decode cX8_readBill 30 = .ok (.getfield 42, 3) := by decide +kernel
theorem dX8_readBill_33 : decode cX8_readBill 33 = .ok (.iload_n 2, 1) := by decide +kernel
theorem dX8_readBill_34 : decode cX8_readBill 34 = .ok (.iload_n 3, 1) := by decide +kernel
theorem dX8_readBill_35 : decode cX8_readBill 35 = .ok (.bipush 98, 2) := by decide +kernel
theorem dX8_readBill_37 : decode cX8_readBill 37 = .ok (.if_icmp .ne 7, 3) := by decide +kernel
theorem dX8_readBill_40 : decode cX8_readBill 40 = .ok (.iconst 0, 1) := by decide +kernel
theorem dX8_readBill_41 : decode cX8_readBill 41 = .ok (.goto 25, 3) := by decide +kernel
theorem dX8_readBill_44 : decode cX8_readBill 44 = .ok (.iload_n 3, 1) := by decide +kernel
theorem dX8_readBill_45 : decode cX8_readBill 45 = .ok (.bipush 115, 2) := by decide +kernel
theorem dX8_readBill_47 : decode cX8_readBill 47 = .ok (.if_icmp .ne 7, 3) := by decide +kernel
theorem dX8_readBill_50 : decode cX8_readBill 50 = .ok (.iconst 1, 1) := by decide +kernel
theorem dX8_readBill_51 : decode cX8_readBill 51 = .ok (.goto 15, 3) := by decide +kernel
theorem dX8_readBill_54 : decode cX8_readBill 54 = .ok (.iload_n 3, 1) := by decide +kernel
theorem dX8_readBill_55 : decode cX8_readBill 55 = .ok (.bipush 114, 2) := by decide +kernel
theorem dX8_readBill_57 : decode cX8_readBill 57 = .ok (.if_icmp .ne 7, 3) := by decide +kernel
theorem dX8_readBill_60 : decode cX8_readBill 60 = .ok (.iconst 2, 1) := by decide +kernel
theorem dX8_readBill_61 : decode cX8_readBill 61 = .ok (.goto 5, 3) := by decide +kernel
theorem dX8_readBill_64 : decode cX8_readBill 64 = .ok (.bipush (-9), 2) := by decide +kernel
theorem dX8_readBill_66 : decode cX8_readBill 66 = .ok (.iastore, 1) := by decide +kernel
theorem dX8_readBill_67 : decode cX8_readBill 67 = .ok (.aload_n 0, 1) := by decide +kernel
theorem dX8_readBill_68 : decode cX8_readBill 68 = .ok (.getfield 42, 3) := by decide +kernel
theorem dX8_readBill_71 : decode cX8_readBill 71 = .ok (.iload_n 2, 1) := by decide +kernel
theorem dX8_readBill_72 : decode cX8_readBill 72 = .ok (.iaload, 1) := by decide +kernel
theorem dX8_readBill_73 : decode cX8_readBill 73 = .ok (.bipush (-9), 2) := by decide +kernel
theorem dX8_readBill_75 : decode cX8_readBill 75 = .ok (.if_icmp .ne 5, 3) := by decide +kernel
theorem dX8_readBill_78 : decode cX8_readBill 78 = .ok (.iconst 0, 1) := by decide +kernel
theorem dX8_readBill_79 : decode cX8_readBill 79 = .ok (.ireturn, 1) := by decide +kernel
theorem dX8_readBill_80 : decode cX8_readBill 80 = .ok (.aload_n 0, 1) := by decide +kernel
theorem dX8_readBill_81 : decode cX8_readBill 81 = .ok (.dup, 1) := by decide +kernel
theorem dX8_readBill_82 : decode cX8_readBill 82 = .ok (.getfield 75, 3) := by decide +kernel
theorem dX8_readBill_85 : decode cX8_readBill 85 = .ok (.iconst 1, 1) := by decide +kernel
theorem dX8_readBill_86 : decode cX8_readBill 86 = .ok (.iadd, 1) := by decide +kernel
theorem dX8_readBill_87 : decode cX8_readBill 87 = .ok (.putfield 75, 3) := by decide +kernel
theorem dX8_readBill_90 : decode cX8_readBill 90 = .ok (.aload_n 0, 1) := by decide +kernel
theorem dX8_readBill_91 : decode cX8_readBill 91 = .ok (.getfield 42, 3) := by decide +kernel
theorem dX8_readBill_94 : decode cX8_readBill 94 = .ok (.iload_n 2, 1) := by decide +kernel
theorem dX8_readBill_95 : decode cX8_readBill 95 = .ok (.iconst 1, 1) := by decide +kernel
theorem dX8_readBill_96 : decode cX8_readBill 96 = .ok (.iadd, 1) := by decide +kernel
theorem dX8_readBill_97 : decode cX8_readBill 97 = .ok (.aload_n 0, 1) := by decide +kernel
theorem dX8_readBill_98 : decode cX8_readBill 98 = .ok (.iload_n 1, 1) := by decide +kernel
theorem dX8_readBill_99 : decode cX8_readBill 99 = .ok (.iconst 0, 1) := by decide +kernel
theorem dX8_readBill_100 : decode cX8_readBill 100 = .ok (.bipush 99, 2) := by decide +kernel
theorem dX8_readBill_102 : decode cX8_readBill 102 = .ok (.invokevirtual 143, 3) := by decide +kernel
theorem dX8_readBill_105 : decode cX8_readBill 105 = .ok (.iastore, 1) := by decide +kernel
theorem dX8_readBill_106 : decode cX8_readBill 106 = .ok (.aload_n 0, 1) := by decide +kernel
theorem dX8_readBill_107 : decode cX8_readBill 107 = .ok (.getfield 42, 3) := by decide +kernel
theorem dX8_readBill_110 : decode cX8_readBill 110 = .ok (.iload_n 2, 1) := by decide +kernel
theorem dX8_readBill_111 : decode cX8_readBill 111 = .ok (.iconst 1, 1) := by decide +kernel
theorem dX8_readBill_112 : decode cX8_readBill 112 = .ok (.iadd, 1) := by decide +kernel
theorem dX8_readBill_113 : decode cX8_readBill 113 = .ok (.iaload, 1) := by decide +kernel
theorem dX8_readBill_114 : decode cX8_readBill 114 = .ok (.bipush (-9), 2) := by decide +kernel
theorem dX8_readBill_116 : decode cX8_readBill 116 = .ok (.if_icmp .ne 5, 3) := by decide +kernel
theorem dX8_readBill_119 : decode cX8_readBill 119 = .ok (.iconst 0, 1) := by decide +kernel
theorem dX8_readBill_120 : decode cX8_readBill 120 = .ok (.ireturn, 1) := by decide +kernel
theorem dX8_readBill_121 : decode cX8_readBill 121 = .ok (.iconst 2, 1) := by decide +kernel
theorem dX8_readBill_122 : decode cX8_readBill 122 = .ok (.istore 4, 2) := by decide +kernel
theorem dX8_readBill_124 : decode cX8_readBill 124 = .ok (.iload 4, 2) := by decide +kernel
theorem dX8_readBill_126 : decode cX8_readBill 126 = .ok (.iconst 5, 1) := by decide +kernel
theorem dX8_readBill_127 : decode cX8_readBill 127 = .ok (.if_icmp .ge 63, 3) := by decide +kernel
theorem dX8_readBill_130 : decode cX8_readBill 130 = .ok (.aload_n 0, 1) := by decide +kernel
theorem dX8_readBill_131 : decode cX8_readBill 131 = .ok (.getfield 42, 3) := by decide +kernel
theorem dX8_readBill_134 : decode cX8_readBill 134 = .ok (.iload_n 2, 1) := by decide +kernel
theorem dX8_readBill_135 : decode cX8_readBill 135 = .ok (.iload 4, 2) := by decide +kernel
theorem dX8_readBill_137 : decode cX8_readBill 137 = .ok (.iadd, 1) := by decide +kernel
theorem dX8_readBill_138 : decode cX8_readBill 138 = .ok (.aload_n 0, 1) := by decide +kernel
theorem dX8_readBill_139 : decode cX8_readBill 139 = .ok (.iload_n 1, 1) := by decide +kernel
theorem dX8_readBill_140 : decode cX8_readBill 140 = .ok (.iload 4, 2) := by decide +kernel
theorem dX8_readBill_142 : decode cX8_readBill 142 = .ok (.iconst 4, 1) := by decide +kernel
theorem dX8_readBill_143 : decode cX8_readBill 143 = .ok (.if_icmp .ne 7, 3) := by decide +kernel
theorem dX8_readBill_146 : decode cX8_readBill 146 = .ok (.iconst 1, 1) := by decide +kernel
theorem dX8_readBill_147 : decode cX8_readBill 147 = .ok (.goto 4, 3) := by decide +kernel
theorem dX8_readBill_150 : decode cX8_readBill 150 = .ok (.iconst 0, 1) := by decide +kernel
theorem dX8_readBill_151 : decode cX8_readBill 151 = .ok (.iload 4, 2) := by decide +kernel
theorem dX8_readBill_153 : decode cX8_readBill 153 = .ok (.iconst 4, 1) := by decide +kernel
theorem dX8_readBill_154 : decode cX8_readBill 154 = .ok (.if_icmp .ne 8, 3) := by decide +kernel
theorem dX8_readBill_157 : decode cX8_readBill 157 = .ok (.bipush 9, 2) := by decide +kernel
theorem dX8_readBill_159 : decode cX8_readBill 159 = .ok (.goto 5, 3) := by decide +kernel
theorem dX8_readBill_162 : decode cX8_readBill 162 = .ok (.bipush 6, 2) := by decide +kernel
theorem dX8_readBill_164 : decode cX8_readBill 164 = .ok (.invokevirtual 78, 3) := by decide +kernel
theorem dX8_readBill_167 : decode cX8_readBill 167 = .ok (.iastore, 1) := by decide +kernel
theorem dX8_readBill_168 : decode cX8_readBill 168 = .ok (.aload_n 0, 1) := by decide +kernel
theorem dX8_readBill_169 : decode cX8_readBill 169 = .ok (.getfield 42, 3) := by decide +kernel
theorem dX8_readBill_172 : decode cX8_readBill 172 = .ok (.iload_n 2, 1) := by decide +kernel
theorem dX8_readBill_173 : decode cX8_readBill 173 = .ok (.iload 4, 2) := by decide +kernel
theorem dX8_readBill_175 : decode cX8_readBill 175 = .ok (.iadd, 1) := by decide +kernel
theorem dX8_readBill_176 : decode cX8_readBill 176 = .ok (.iaload, 1) := by decide +kernel
theorem dX8_readBill_177 : decode cX8_readBill 177 = .ok (.bipush (-9), 2) := by decide +kernel
theorem dX8_readBill_179 : decode cX8_readBill 179 = .ok (.if_icmp .ne 5, 3) := by decide +kernel
theorem dX8_readBill_182 : decode cX8_readBill 182 = .ok (.iconst 0, 1) := by decide +kernel
theorem dX8_readBill_183 : decode cX8_readBill 183 = .ok (.ireturn, 1) := by decide +kernel
theorem dX8_readBill_184 : decode cX8_readBill 184 = .ok (.iinc 4 1, 3) := by decide +kernel
theorem dX8_readBill_187 : decode cX8_readBill 187 = .ok (.goto (-63), 3) := by decide +kernel
theorem dX8_readBill_190 : decode cX8_readBill 190 = .ok (.aload_n 0, 1) := by decide +kernel
theorem dX8_readBill_191 : decode cX8_readBill 191 = .ok (.dup, 1) := by decide +kernel
theorem dX8_readBill_192 : decode cX8_readBill 192 = .ok (.getfield 124, 3) := by decide +kernel
theorem dX8_readBill_195 : decode cX8_readBill 195 = .ok (.iconst 1, 1) := by decide +kernel
theorem dX8_readBill_196 : decode cX8_readBill 196 = .ok (.iadd, 1) := by decide +kernel
theorem dX8_readBill_197 : decode cX8_readBill 197 = .ok (.putfield 124, 3) := by decide +kernel
theorem dX8_readBill_200 : decode cX8_readBill 200 = .ok (.iconst 1, 1) := by decide +kernel
theorem dX8_readBill_201 : decode cX8_readBill 201 = .ok (.ireturn, 1) := by decide +kernel
theorem dX8_ofBill_0 : decode cX8_ofBill 0 = .ok (.aload_n 0, 1) := by decide +kernel
theorem dX8_ofBill_1 : decode cX8_ofBill 1 = .ok (.iload_n 1, 1) := by decide +kernel
theorem dX8_ofBill_2 : decode cX8_ofBill 2 = .ok (.invokevirtual 146, 3) := by decide +kernel
theorem dX8_ofBill_5 : decode cX8_ofBill 5 = .ok (.ifCond .ne 5, 3) := by decide +kernel
theorem dX8_ofBill_8 : decode cX8_ofBill 8 = .ok (.iconst (-1), 1) := by decide +kernel
theorem dX8_ofBill_9 : decode cX8_ofBill 9 = .ok (.ireturn, 1) := by decide +kernel
theorem dX8_ofBill_10 : decode cX8_ofBill 10 = .ok (.iload_n 2, 1) := by decide +kernel
theorem dX8_ofBill_11 : decode cX8_ofBill 11 = .ok (.tableswitch 68 0 4 #[33, 40, 47, 54, 61], 33) := by decide +kernel
theorem dX8_ofBill_44 : decode cX8_ofBill 44 = .ok (.aload_n 0, 1) := by decide +kernel
theorem dX8_ofBill_45 : decode cX8_ofBill 45 = .ok (.getfield 19, 3) := by decide +kernel
theorem dX8_ofBill_48 : decode cX8_ofBill 48 = .ok (.iload_n 1, 1) := by decide +kernel
theorem dX8_ofBill_49 : decode cX8_ofBill 49 = .ok (.iaload, 1) := by decide +kernel
theorem dX8_ofBill_50 : decode cX8_ofBill 50 = .ok (.ireturn, 1) := by decide +kernel
theorem dX8_ofBill_51 : decode cX8_ofBill 51 = .ok (.aload_n 0, 1) := by decide +kernel
theorem dX8_ofBill_52 : decode cX8_ofBill 52 = .ok (.getfield 22, 3) := by decide +kernel
theorem dX8_ofBill_55 : decode cX8_ofBill 55 = .ok (.iload_n 1, 1) := by decide +kernel
theorem dX8_ofBill_56 : decode cX8_ofBill 56 = .ok (.iaload, 1) := by decide +kernel
theorem dX8_ofBill_57 : decode cX8_ofBill 57 = .ok (.ireturn, 1) := by decide +kernel
theorem dX8_ofBill_58 : decode cX8_ofBill 58 = .ok (.aload_n 0, 1) := by decide +kernel
theorem dX8_ofBill_59 : decode cX8_ofBill 59 = .ok (.getfield 25, 3) := by decide +kernel
theorem dX8_ofBill_62 : decode cX8_ofBill 62 = .ok (.iload_n 1, 1) := by decide +kernel
theorem dX8_ofBill_63 : decode cX8_ofBill 63 = .ok (.iaload, 1) := by decide +kernel
theorem dX8_ofBill_64 : decode cX8_ofBill 64 = .ok (.ireturn, 1) := by decide +kernel
theorem dX8_ofBill_65 : decode cX8_ofBill 65 = .ok (.aload_n 0, 1) := by decide +kernel
theorem dX8_ofBill_66 : decode cX8_ofBill 66 = .ok (.getfield 28, 3) := by decide +kernel
theorem dX8_ofBill_69 : decode cX8_ofBill 69 = .ok (.iload_n 1, 1) := by decide +kernel
theorem dX8_ofBill_70 : decode cX8_ofBill 70 = .ok (.iaload, 1) := by decide +kernel
theorem dX8_ofBill_71 : decode cX8_ofBill 71 = .ok (.ireturn, 1) := by decide +kernel
theorem dX8_ofBill_72 : decode cX8_ofBill 72 = .ok (.aload_n 0, 1) := by decide +kernel
theorem dX8_ofBill_73 : decode cX8_ofBill 73 = .ok (.getfield 31, 3) := by decide +kernel
theorem dX8_ofBill_76 : decode cX8_ofBill 76 = .ok (.iload_n 1, 1) := by decide +kernel
theorem dX8_ofBill_77 : decode cX8_ofBill 77 = .ok (.iaload, 1) := by decide +kernel
theorem dX8_ofBill_78 : decode cX8_ofBill 78 = .ok (.ireturn, 1) := by decide +kernel
theorem dX8_ofBill_79 : decode cX8_ofBill 79 = .ok (.bipush (-2), 2) := by decide +kernel
theorem dX8_ofBill_81 : decode cX8_ofBill 81 = .ok (.ireturn, 1) := by decide +kernel
theorem dX8_moonDay_0 : decode cX8_moonDay 0 = .ok (.aload_n 0, 1) := by decide +kernel
theorem dX8_moonDay_1 : decode cX8_moonDay 1 = .ok (.getfield 103, 3) := by decide +kernel
theorem dX8_moonDay_4 : decode cX8_moonDay 4 = .ok (.iload_n 1, 1) := by decide +kernel
theorem dX8_moonDay_5 : decode cX8_moonDay 5 = .ok (.aload_n 0, 1) := by decide +kernel
theorem dX8_moonDay_6 : decode cX8_moonDay 6 = .ok (.getfield 109, 3) := by decide +kernel
theorem dX8_moonDay_9 : decode cX8_moonDay 9 = .ok (.imul, 1) := by decide +kernel
theorem dX8_moonDay_10 : decode cX8_moonDay 10 = .ok (.aload_n 0, 1) := by decide +kernel
theorem dX8_moonDay_11 : decode cX8_moonDay 11 = .ok (.getfield 115, 3) := by decide +kernel
theorem dX8_moonDay_14 : decode cX8_moonDay 14 = .ok (.idiv, 1) := by decide +kernel
theorem dX8_moonDay_15 : decode cX8_moonDay 15 = .ok (.iadd, 1) := by decide +kernel
theorem dX8_moonDay_16 : decode cX8_moonDay 16 = .ok (.ireturn, 1) := by decide +kernel
theorem dX8_moon_0 : decode cX8_moon 0 = .ok (.iload_n 1, 1) := by decide +kernel
theorem dX8_moon_1 : decode cX8_moon 1 = .ok (.iconst 0, 1) := by decide +kernel
theorem dX8_moon_2 : decode cX8_moon 2 = .ok (.bipush 99, 2) := by decide +kernel
theorem dX8_moon_4 : decode cX8_moon 4 = .ok (.invokestatic 68, 3) := by decide +kernel
theorem dX8_moon_7 : decode cX8_moon 7 = .ok (.ifCond .ne 6, 3) := by decide +kernel
theorem dX8_moon_10 : decode cX8_moon 10 = .ok (.bipush (-2), 2) := by decide +kernel
theorem dX8_moon_12 : decode cX8_moon 12 = .ok (.ireturn, 1) := by decide +kernel
theorem dX8_moon_13 : decode cX8_moon 13 = .ok (.aload_n 0, 1) := by decide +kernel
theorem dX8_moon_14 : decode cX8_moon 14 = .ok (.getfield 72, 3) := by decide +kernel
theorem dX8_moon_17 : decode cX8_moon 17 = .ok (.ifCond .ne 8, 3) := by decide +kernel
theorem dX8_moon_20 : decode cX8_moon 20 = .ok (.bipush (-3), 2) := by decide +kernel
theorem dX8_moon_22 : decode cX8_moon 22 = .ok (.goto 8, 3) := by decide +kernel
theorem dX8_moon_25 : decode cX8_moon 25 = .ok (.aload_n 0, 1) := by decide +kernel
theorem dX8_moon_26 : decode cX8_moon 26 = .ok (.iload_n 1, 1) := by decide +kernel
theorem dX8_moon_27 : decode cX8_moon 27 = .ok (.invokevirtual 149, 3) := by decide +kernel
theorem dX8_moon_30 : decode cX8_moon 30 = .ok (.ireturn, 1) := by decide +kernel
theorem dX8_span_0 : decode cX8_span 0 = .ok (.iload_n 1, 1) := by decide +kernel
theorem dX8_span_1 : decode cX8_span 1 = .ok (.iconst 0, 1) := by decide +kernel
theorem dX8_span_2 : decode cX8_span 2 = .ok (.bipush 9, 2) := by decide +kernel
theorem dX8_span_4 : decode cX8_span 4 = .ok (.invokestatic 68, 3) := by decide +kernel
theorem dX8_span_7 : decode cX8_span 7 = .ok (.ifCond .ne 6, 3) := by decide +kernel
theorem dX8_span_10 : decode cX8_span 10 = .ok (.bipush (-2), 2) := by decide +kernel
theorem dX8_span_12 : decode cX8_span 12 = .ok (.ireturn, 1) := by decide +kernel
theorem dX8_span_13 : decode cX8_span 13 = .ok (.aload_n 0, 1) := by decide +kernel
theorem dX8_span_14 : decode cX8_span 14 = .ok (.getfield 72, 3) := by decide +kernel
theorem dX8_span_17 : decode cX8_span 17 = .ok (.ifCond .ne 6, 3) := by decide +kernel
theorem dX8_span_20 : decode cX8_span 20 = .ok (.bipush (-3), 2) := by decide +kernel
theorem dX8_span_22 : decode cX8_span 22 = .ok (.ireturn, 1) := by decide +kernel
theorem dX8_span_23 : decode cX8_span 23 = .ok (.aload_n 0, 1) := by decide +kernel
theorem dX8_span_24 : decode cX8_span 24 = .ok (.getfield 121, 3) := by decide +kernel
theorem dX8_span_27 : decode cX8_span 27 = .ok (.istore_n 2, 1) := by decide +kernel
theorem dX8_span_28 : decode cX8_span 28 = .ok (.aload_n 0, 1) := by decide +kernel
theorem dX8_span_29 : decode cX8_span 29 = .ok (.iload_n 1, 1) := by decide +kernel
theorem dX8_span_30 : decode cX8_span 30 = .ok (.putfield 121, 3) := by decide +kernel
theorem dX8_span_33 : decode cX8_span 33 = .ok (.iload_n 2, 1) := by decide +kernel
theorem dX8_span_34 : decode cX8_span 34 = .ok (.ireturn, 1) := by decide +kernel
theorem dX8_move_0 : decode cX8_move 0 = .ok (.aload_n 0, 1) := by decide +kernel
theorem dX8_move_1 : decode cX8_move 1 = .ok (.iload_n 1, 1) := by decide +kernel
theorem dX8_move_2 : decode cX8_move 2 = .ok (.invokevirtual 146, 3) := by decide +kernel
theorem dX8_move_5 : decode cX8_move 5 = .ok (.ifCond .ne 5, 3) := by decide +kernel
theorem dX8_move_8 : decode cX8_move 8 = .ok (.iconst (-1), 1) := by decide +kernel
theorem dX8_move_9 : decode cX8_move 9 = .ok (.ireturn, 1) := by decide +kernel
theorem dX8_move_10 : decode cX8_move 10 = .ok (.iload_n 2, 1) := by decide +kernel
theorem dX8_move_11 : decode cX8_move 11 = .ok (.iconst 0, 1) := by decide +kernel
theorem dX8_move_12 : decode cX8_move 12 = .ok (.bipush 99, 2) := by decide +kernel
theorem dX8_move_14 : decode cX8_move 14 = .ok (.invokestatic 68, 3) := by decide +kernel
theorem dX8_move_17 : decode cX8_move 17 = .ok (.ifCond .ne 6, 3) := by decide +kernel
theorem dX8_move_20 : decode cX8_move 20 = .ok (.bipush (-2), 2) := by decide +kernel
theorem dX8_move_22 : decode cX8_move 22 = .ok (.ireturn, 1) := by decide +kernel
theorem dX8_move_23 : decode cX8_move 23 = .ok (.aload_n 0, 1) := by decide +kernel
theorem dX8_move_24 : decode cX8_move 24 = .ok (.getfield 22, 3) := by decide +kernel
theorem dX8_move_27 : decode cX8_move 27 = .ok (.iload_n 1, 1) := by decide +kernel
theorem dX8_move_28 : decode cX8_move 28 = .ok (.iaload, 1) := by decide +kernel
theorem dX8_move_29 : decode cX8_move 29 = .ok (.istore_n 3, 1) := by decide +kernel
theorem dX8_move_30 : decode cX8_move 30 = .ok (.aload_n 0, 1) := by decide +kernel
theorem dX8_move_31 : decode cX8_move 31 = .ok (.getfield 22, 3) := by decide +kernel
theorem dX8_move_34 : decode cX8_move 34 = .ok (.iload_n 1, 1) := by decide +kernel
theorem dX8_move_35 : decode cX8_move 35 = .ok (.iload_n 2, 1) := by decide +kernel
theorem dX8_move_36 : decode cX8_move 36 = .ok (.iastore, 1) := by decide +kernel
theorem dX8_move_37 : decode cX8_move 37 = .ok (.iload_n 3, 1) := by decide +kernel
theorem dX8_move_38 : decode cX8_move 38 = .ok (.ireturn, 1) := by decide +kernel
theorem dX8_cloud_0 : decode cX8_cloud 0 = .ok (.iload_n 1, 1) := by decide +kernel
theorem dX8_cloud_1 : decode cX8_cloud 1 = .ok (.invokestatic 152, 3) := by decide +kernel
theorem dX8_cloud_4 : decode cX8_cloud 4 = .ok (.ifCond .ne 6, 3) := by decide +kernel
theorem dX8_cloud_7 : decode cX8_cloud 7 = .ok (.bipush (-2), 2) := by decide +kernel
theorem dX8_cloud_9 : decode cX8_cloud 9 = .ok (.ireturn, 1) := by decide +kernel
theorem dX8_cloud_10 : decode cX8_cloud 10 = .ok (.aload_n 0, 1) := by decide +kernel
theorem dX8_cloud_11 : decode cX8_cloud 11 = .ok (.getfield 72, 3) := by decide +kernel
theorem dX8_cloud_14 : decode cX8_cloud 14 = .ok (.ifCond .ne 6, 3) := by decide +kernel
theorem dX8_cloud_17 : decode cX8_cloud 17 = .ok (.bipush (-3), 2) := by decide +kernel
theorem dX8_cloud_19 : decode cX8_cloud 19 = .ok (.ireturn, 1) := by decide +kernel
theorem dX8_cloud_20 : decode cX8_cloud 20 = .ok (.aload_n 0, 1) := by decide +kernel
theorem dX8_cloud_21 : decode cX8_cloud 21 = .ok (.getfield 34, 3) := by decide +kernel
theorem dX8_cloud_24 : decode cX8_cloud 24 = .ok (.iload_n 1, 1) := by decide +kernel
theorem dX8_cloud_25 : decode cX8_cloud 25 = .ok (.baload, 1) := by decide +kernel
theorem dX8_cloud_26 : decode cX8_cloud 26 = .ok (.istore_n 3, 1) := by decide +kernel
theorem dX8_cloud_27 : decode cX8_cloud 27 = .ok (.aload_n 0, 1) := by decide +kernel
theorem dX8_cloud_28 : decode cX8_cloud 28 = .ok (.getfield 34, 3) := by decide +kernel
theorem dX8_cloud_31 : decode cX8_cloud 31 = .ok (.iload_n 1, 1) := by decide +kernel
theorem dX8_cloud_32 : decode cX8_cloud 32 = .ok (.iload_n 2, 1) := by decide +kernel
theorem dX8_cloud_33 : decode cX8_cloud 33 = .ok (.bastore, 1) := by decide +kernel
theorem dX8_cloud_34 : decode cX8_cloud 34 = .ok (.aload_n 0, 1) := by decide +kernel
theorem dX8_cloud_35 : decode cX8_cloud 35 = .ok (.dup, 1) := by decide +kernel
theorem dX8_cloud_36 : decode cX8_cloud 36 = .ok (.getfield 127, 3) := by decide +kernel
theorem dX8_cloud_39 : decode cX8_cloud 39 = .ok (.iload_n 3, 1) := by decide +kernel
theorem dX8_cloud_40 : decode cX8_cloud 40 = .ok (.iload_n 2, 1) := by decide +kernel
theorem dX8_cloud_41 : decode cX8_cloud 41 = .ok (.if_icmp .ne 7, 3) := by decide +kernel
theorem dX8_cloud_44 : decode cX8_cloud 44 = .ok (.iconst 0, 1) := by decide +kernel
theorem dX8_cloud_45 : decode cX8_cloud 45 = .ok (.goto 12, 3) := by decide +kernel
theorem dX8_cloud_48 : decode cX8_cloud 48 = .ok (.iload_n 2, 1) := by decide +kernel
theorem dX8_cloud_49 : decode cX8_cloud 49 = .ok (.ifCond .eq 7, 3) := by decide +kernel
theorem dX8_cloud_52 : decode cX8_cloud 52 = .ok (.iconst 1, 1) := by decide +kernel
theorem dX8_cloud_53 : decode cX8_cloud 53 = .ok (.goto 4, 3) := by decide +kernel
theorem dX8_cloud_56 : decode cX8_cloud 56 = .ok (.iconst (-1), 1) := by decide +kernel
theorem dX8_cloud_57 : decode cX8_cloud 57 = .ok (.iadd, 1) := by decide +kernel
theorem dX8_cloud_58 : decode cX8_cloud 58 = .ok (.putfield 127, 3) := by decide +kernel
theorem dX8_cloud_61 : decode cX8_cloud 61 = .ok (.iload_n 3, 1) := by decide +kernel
theorem dX8_cloud_62 : decode cX8_cloud 62 = .ok (.iload_n 2, 1) := by decide +kernel
theorem dX8_cloud_63 : decode cX8_cloud 63 = .ok (.if_icmp .ne 7, 3) := by decide +kernel
theorem dX8_cloud_66 : decode cX8_cloud 66 = .ok (.iconst 0, 1) := by decide +kernel
theorem dX8_cloud_67 : decode cX8_cloud 67 = .ok (.goto 4, 3) := by decide +kernel
theorem dX8_cloud_70 : decode cX8_cloud 70 = .ok (.iconst 1, 1) := by decide +kernel
theorem dX8_cloud_71 : decode cX8_cloud 71 = .ok (.ireturn, 1) := by decide +kernel
theorem dX8_moons_0 : decode cX8_moons 0 = .ok (.iconst 0, 1) := by decide +kernel
theorem dX8_moons_1 : decode cX8_moons 1 = .ok (.istore_n 1, 1) := by decide +kernel
theorem dX8_moons_2 : decode cX8_moons 2 = .ok (.aload_n 0, 1) := by decide +kernel
theorem dX8_moons_3 : decode cX8_moons 3 = .ok (.iload_n 1, 1) := by decide +kernel
theorem dX8_moons_4 : decode cX8_moons 4 = .ok (.invokevirtual 149, 3) := by decide +kernel
theorem dX8_moons_7 : decode cX8_moons 7 = .ok (.bipush 110, 2) := by decide +kernel
theorem dX8_moons_9 : decode cX8_moons 9 = .ok (.if_icmp .ge 9, 3) := by decide +kernel
theorem dX8_moons_12 : decode cX8_moons 12 = .ok (.iinc 1 1, 3) := by decide +kernel
theorem dX8_moons_15 : decode cX8_moons 15 = .ok (.goto (-13), 3) := by decide +kernel
theorem dX8_moons_18 : decode cX8_moons 18 = .ok (.iload_n 1, 1) := by decide +kernel
theorem dX8_moons_19 : decode cX8_moons 19 = .ok (.ireturn, 1) := by decide +kernel
theorem dX8_isDark_0 : decode cX8_isDark 0 = .ok (.aload_n 0, 1) := by decide +kernel
theorem dX8_isDark_1 : decode cX8_isDark 1 = .ok (.getfield 155, 3) := by decide +kernel
theorem dX8_isDark_4 : decode cX8_isDark 4 = .ok (.iload_n 1, 1) := by decide +kernel
theorem dX8_isDark_5 : decode cX8_isDark 5 = .ok (.ishr, 1) := by decide +kernel
theorem dX8_isDark_6 : decode cX8_isDark 6 = .ok (.iconst 1, 1) := by decide +kernel
theorem dX8_isDark_7 : decode cX8_isDark 7 = .ok (.iand, 1) := by decide +kernel
theorem dX8_isDark_8 : decode cX8_isDark 8 = .ok (.iconst 1, 1) := by decide +kernel
theorem dX8_isDark_9 : decode cX8_isDark 9 = .ok (.if_icmp .eq 23, 3) := by decide +kernel
theorem dX8_isDark_12 : decode cX8_isDark 12 = .ok (.aload_n 0, 1) := by decide +kernel
theorem dX8_isDark_13 : decode cX8_isDark 13 = .ok (.getfield 158, 3) := by decide +kernel
theorem dX8_isDark_16 : decode cX8_isDark 16 = .ok (.ifCond .ne 20, 3) := by decide +kernel
theorem dX8_isDark_19 : decode cX8_isDark 19 = .ok (.aload_n 0, 1) := by decide +kernel
theorem dX8_isDark_20 : decode cX8_isDark 20 = .ok (.getfield 34, 3) := by decide +kernel
theorem dX8_isDark_23 : decode cX8_isDark 23 = .ok (.aload_n 0, 1) := by decide +kernel
theorem dX8_isDark_24 : decode cX8_isDark 24 = .ok (.iload_n 1, 1) := by decide +kernel
theorem dX8_isDark_25 : decode cX8_isDark 25 = .ok (.invokevirtual 149, 3) := by decide +kernel
theorem dX8_isDark_28 : decode cX8_isDark 28 = .ok (.baload, 1) := by decide +kernel
theorem dX8_isDark_29 : decode cX8_isDark 29 = .ok (.ifCond .eq 7, 3) := by decide +kernel
theorem dX8_isDark_32 : decode cX8_isDark 32 = .ok (.iconst 1, 1) := by decide +kernel
theorem dX8_isDark_33 : decode cX8_isDark 33 = .ok (.goto 4, 3) := by decide +kernel
theorem dX8_isDark_36 : decode cX8_isDark 36 = .ok (.iconst 0, 1) := by decide +kernel
theorem dX8_isDark_37 : decode cX8_isDark 37 = .ok (.ireturn, 1) := by decide +kernel
theorem dX8_struckOn_0 : decode cX8_struckOn 0 = .ok (.iconst 0, 1) := by decide +kernel
theorem dX8_struckOn_1 : decode cX8_struckOn 1 = .ok (.istore_n 2, 1) := by decide +kernel
theorem dX8_struckOn_2 : decode cX8_struckOn 2 = .ok (.aload_n 0, 1) := by decide +kernel
theorem dX8_struckOn_3 : decode cX8_struckOn 3 = .ok (.iload_n 2, 1) := by decide +kernel
theorem dX8_struckOn_4 : decode cX8_struckOn 4 = .ok (.invokevirtual 149, 3) := by decide +kernel
theorem dX8_struckOn_7 : decode cX8_struckOn 7 = .ok (.bipush 110, 2) := by decide +kernel
theorem dX8_struckOn_9 : decode cX8_struckOn 9 = .ok (.if_icmp .ge 51, 3) := by decide +kernel
theorem dX8_struckOn_12 : decode cX8_struckOn 12 = .ok (.aload_n 0, 1) := by decide +kernel
theorem dX8_struckOn_13 : decode cX8_struckOn 13 = .ok (.iload_n 2, 1) := by decide +kernel
theorem dX8_struckOn_14 : decode cX8_struckOn 14 = .ok (.invokevirtual 149, 3) := by decide +kernel
theorem dX8_struckOn_17 : decode cX8_struckOn 17 = .ok (.aload_n 0, 1) := by decide +kernel
theorem dX8_struckOn_18 : decode cX8_struckOn 18 = .ok (.getfield 22, 3) := by decide +kernel
theorem dX8_struckOn_21 : decode cX8_struckOn 21 = .ok (.iload_n 1, 1) := by decide +kernel
theorem dX8_struckOn_22 : decode cX8_struckOn 22 = .ok (.iaload, 1) := by decide +kernel
theorem dX8_struckOn_23 : decode cX8_struckOn 23 = .ok (.aload_n 0, 1) := by decide +kernel
theorem dX8_struckOn_24 : decode cX8_struckOn 24 = .ok (.getfield 22, 3) := by decide +kernel
theorem dX8_struckOn_27 : decode cX8_struckOn 27 = .ok (.iload_n 1, 1) := by decide +kernel
theorem dX8_struckOn_28 : decode cX8_struckOn 28 = .ok (.iaload, 1) := by decide +kernel
theorem dX8_struckOn_29 : decode cX8_struckOn 29 = .ok (.aload_n 0, 1) := by decide +kernel
theorem dX8_struckOn_30 : decode cX8_struckOn 30 = .ok (.getfield 121, 3) := by decide +kernel
theorem dX8_struckOn_33 : decode cX8_struckOn 33 = .ok (.iadd, 1) := by decide +kernel
theorem dX8_struckOn_34 : decode cX8_struckOn 34 = .ok (.invokestatic 68, 3) := by decide +kernel
theorem dX8_struckOn_37 : decode cX8_struckOn 37 = .ok (.ifCond .eq 17, 3) := by decide +kernel
theorem dX8_struckOn_40 : decode cX8_struckOn 40 = .ok (.aload_n 0, 1) := by decide +kernel
theorem dX8_struckOn_41 : decode cX8_struckOn 41 = .ok (.iload_n 2, 1) := by decide +kernel
theorem dX8_struckOn_42 : decode cX8_struckOn 42 = .ok (.invokevirtual 162, 3) := by decide +kernel
theorem dX8_struckOn_45 : decode cX8_struckOn 45 = .ok (.ifCond .ne 9, 3) := by decide +kernel
theorem dX8_struckOn_48 : decode cX8_struckOn 48 = .ok (.aload_n 0, 1) := by decide +kernel
theorem dX8_struckOn_49 : decode cX8_struckOn 49 = .ok (.iload_n 2, 1) := by decide +kernel
theorem dX8_struckOn_50 : decode cX8_struckOn 50 = .ok (.invokevirtual 149, 3) := by decide +kernel
theorem dX8_struckOn_53 : decode cX8_struckOn 53 = .ok (.ireturn, 1) := by decide +kernel
theorem dX8_struckOn_54 : decode cX8_struckOn 54 = .ok (.iinc 2 1, 3) := by decide +kernel
theorem dX8_struckOn_57 : decode cX8_struckOn 57 = .ok (.goto (-55), 3) := by decide +kernel
theorem dX8_struckOn_60 : decode cX8_struckOn 60 = .ok (.bipush (-9), 2) := by decide +kernel
theorem dX8_struckOn_62 : decode cX8_struckOn 62 = .ok (.ireturn, 1) := by decide +kernel
theorem dX8_struck_0 : decode cX8_struck 0 = .ok (.aload_n 0, 1) := by decide +kernel
theorem dX8_struck_1 : decode cX8_struck 1 = .ok (.iload_n 1, 1) := by decide +kernel
theorem dX8_struck_2 : decode cX8_struck 2 = .ok (.invokevirtual 146, 3) := by decide +kernel
theorem dX8_struck_5 : decode cX8_struck 5 = .ok (.ifCond .eq 11, 3) := by decide +kernel
theorem dX8_struck_8 : decode cX8_struck 8 = .ok (.aload_n 0, 1) := by decide +kernel
theorem dX8_struck_9 : decode cX8_struck 9 = .ok (.iload_n 1, 1) := by decide +kernel
theorem dX8_struck_10 : decode cX8_struck 10 = .ok (.invokevirtual 165, 3) := by decide +kernel
theorem dX8_struck_13 : decode cX8_struck 13 = .ok (.goto 4, 3) := by decide +kernel
theorem dX8_struck_16 : decode cX8_struck 16 = .ok (.iconst (-1), 1) := by decide +kernel
theorem dX8_struck_17 : decode cX8_struck 17 = .ok (.ireturn, 1) := by decide +kernel
theorem dX8_layOrder_0 : decode cX8_layOrder 0 = .ok (.iconst 0, 1) := by decide +kernel
theorem dX8_layOrder_1 : decode cX8_layOrder 1 = .ok (.istore_n 1, 1) := by decide +kernel
theorem dX8_layOrder_2 : decode cX8_layOrder 2 = .ok (.iload_n 1, 1) := by decide +kernel
theorem dX8_layOrder_3 : decode cX8_layOrder 3 = .ok (.aload_n 0, 1) := by decide +kernel
theorem dX8_layOrder_4 : decode cX8_layOrder 4 = .ok (.getfield 72, 3) := by decide +kernel
theorem dX8_layOrder_7 : decode cX8_layOrder 7 = .ok (.if_icmp .ge 64, 3) := by decide +kernel
theorem dX8_layOrder_10 : decode cX8_layOrder 10 = .ok (.iload_n 1, 1) := by decide +kernel
theorem dX8_layOrder_11 : decode cX8_layOrder 11 = .ok (.istore_n 2, 1) := by decide +kernel
theorem dX8_layOrder_12 : decode cX8_layOrder 12 = .ok (.iload_n 2, 1) := by decide +kernel
theorem dX8_layOrder_13 : decode cX8_layOrder 13 = .ok (.ifCond .le 45, 3) := by decide +kernel
theorem dX8_layOrder_16 : decode cX8_layOrder 16 = .ok (.aload_n 0, 1) := by decide +kernel
theorem dX8_layOrder_17 : decode cX8_layOrder 17 = .ok (.getfield 22, 3) := by decide +kernel
theorem dX8_layOrder_20 : decode cX8_layOrder 20 = .ok (.aload_n 0, 1) := by decide +kernel
theorem dX8_layOrder_21 : decode cX8_layOrder 21 = .ok (.getfield 45, 3) := by decide +kernel
theorem dX8_layOrder_24 : decode cX8_layOrder 24 = .ok (.iload_n 2, 1) := by decide +kernel
theorem dX8_layOrder_25 : decode cX8_layOrder 25 = .ok (.iconst 1, 1) := by decide +kernel
theorem dX8_layOrder_26 : decode cX8_layOrder 26 = .ok (.isub, 1) := by decide +kernel
theorem dX8_layOrder_27 : decode cX8_layOrder 27 = .ok (.iaload, 1) := by decide +kernel
theorem dX8_layOrder_28 : decode cX8_layOrder 28 = .ok (.iaload, 1) := by decide +kernel
theorem dX8_layOrder_29 : decode cX8_layOrder 29 = .ok (.aload_n 0, 1) := by decide +kernel
theorem dX8_layOrder_30 : decode cX8_layOrder 30 = .ok (.getfield 22, 3) := by decide +kernel
theorem dX8_layOrder_33 : decode cX8_layOrder 33 = .ok (.iload_n 1, 1) := by decide +kernel
theorem dX8_layOrder_34 : decode cX8_layOrder 34 = .ok (.iaload, 1) := by decide +kernel
theorem dX8_layOrder_35 : decode cX8_layOrder 35 = .ok (.if_icmp .le 23, 3) := by decide +kernel
theorem dX8_layOrder_38 : decode cX8_layOrder 38 = .ok (.aload_n 0, 1) := by decide +kernel
theorem dX8_layOrder_39 : decode cX8_layOrder 39 = .ok (.getfield 45, 3) := by decide +kernel
theorem dX8_layOrder_42 : decode cX8_layOrder 42 = .ok (.iload_n 2, 1) := by decide +kernel
theorem dX8_layOrder_43 : decode cX8_layOrder 43 = .ok (.aload_n 0, 1) := by decide +kernel
theorem dX8_layOrder_44 : decode cX8_layOrder 44 = .ok (.getfield 45, 3) := by decide +kernel
theorem dX8_layOrder_47 : decode cX8_layOrder 47 = .ok (.iload_n 2, 1) := by decide +kernel
theorem dX8_layOrder_48 : decode cX8_layOrder 48 = .ok (.iconst 1, 1) := by decide +kernel
theorem dX8_layOrder_49 : decode cX8_layOrder 49 = .ok (.isub, 1) := by decide +kernel
theorem dX8_layOrder_50 : decode cX8_layOrder 50 = .ok (.iaload, 1) := by decide +kernel
theorem dX8_layOrder_51 : decode cX8_layOrder 51 = .ok (.iastore, 1) := by decide +kernel
theorem dX8_layOrder_52 : decode cX8_layOrder 52 = .ok (.iinc 2 (-1), 3) := by decide +kernel
theorem dX8_layOrder_55 : decode cX8_layOrder 55 = .ok (.goto (-43), 3) := by decide +kernel
theorem dX8_layOrder_58 : decode cX8_layOrder 58 = .ok (.aload_n 0, 1) := by decide +kernel
theorem dX8_layOrder_59 : decode cX8_layOrder 59 = .ok (.getfield 45, 3) := by decide +kernel
theorem dX8_layOrder_62 : decode cX8_layOrder 62 = .ok (.iload_n 2, 1) := by decide +kernel
theorem dX8_layOrder_63 : decode cX8_layOrder 63 = .ok (.iload_n 1, 1) := by decide +kernel
theorem dX8_layOrder_64 : decode cX8_layOrder 64 = .ok (.iastore, 1) := by decide +kernel
theorem dX8_layOrder_65 : decode cX8_layOrder 65 = .ok (.iinc 1 1, 3) := by decide +kernel
theorem dX8_layOrder_68 : decode cX8_layOrder 68 = .ok (.goto (-66), 3) := by decide +kernel
theorem dX8_layOrder_71 : decode cX8_layOrder 71 = .ok (.return_, 1) := by decide +kernel
theorem dX8_isOn_0 : decode cX8_isOn 0 = .ok (.iload_n 2, 1) := by decide +kernel
theorem dX8_isOn_1 : decode cX8_isOn 1 = .ok (.aload_n 0, 1) := by decide +kernel
theorem dX8_isOn_2 : decode cX8_isOn 2 = .ok (.getfield 22, 3) := by decide +kernel
theorem dX8_isOn_5 : decode cX8_isOn 5 = .ok (.iload_n 1, 1) := by decide +kernel
theorem dX8_isOn_6 : decode cX8_isOn 6 = .ok (.iaload, 1) := by decide +kernel
theorem dX8_isOn_7 : decode cX8_isOn 7 = .ok (.isub, 1) := by decide +kernel
theorem dX8_isOn_8 : decode cX8_isOn 8 = .ok (.istore_n 3, 1) := by decide +kernel
theorem dX8_isOn_9 : decode cX8_isOn 9 = .ok (.aload_n 0, 1) := by decide +kernel
theorem dX8_isOn_10 : decode cX8_isOn 10 = .ok (.getfield 48, 3) := by decide +kernel
theorem dX8_isOn_13 : decode cX8_isOn 13 = .ok (.iload_n 1, 1) := by decide +kernel
theorem dX8_isOn_14 : decode cX8_isOn 14 = .ok (.baload, 1) := by decide +kernel
theorem dX8_isOn_15 : decode cX8_isOn 15 = .ok (.ifCond .eq 34, 3) := by decide +kernel
theorem dX8_isOn_18 : decode cX8_isOn 18 = .ok (.iload_n 3, 1) := by decide +kernel
theorem dX8_isOn_19 : decode cX8_isOn 19 = .ok (.ifCond .le 30, 3) := by decide +kernel
theorem dX8_isOn_22 : decode cX8_isOn 22 = .ok (.aload_n 0, 1) := by decide +kernel
theorem dX8_isOn_23 : decode cX8_isOn 23 = .ok (.getfield 19, 3) := by decide +kernel
theorem dX8_isOn_26 : decode cX8_isOn 26 = .ok (.iload_n 1, 1) := by decide +kernel
theorem dX8_isOn_27 : decode cX8_isOn 27 = .ok (.iaload, 1) := by decide +kernel
theorem dX8_isOn_28 : decode cX8_isOn 28 = .ok (.iconst 1, 1) := by decide +kernel
theorem dX8_isOn_29 : decode cX8_isOn 29 = .ok (.if_icmp .ne 16, 3) := by decide +kernel
theorem dX8_isOn_32 : decode cX8_isOn 32 = .ok (.iload_n 3, 1) := by decide +kernel
theorem dX8_isOn_33 : decode cX8_isOn 33 = .ok (.bipush 10, 2) := by decide +kernel
theorem dX8_isOn_35 : decode cX8_isOn 35 = .ok (.aload_n 0, 1) := by decide +kernel
theorem dX8_isOn_36 : decode cX8_isOn 36 = .ok (.getfield 31, 3) := by decide +kernel
theorem dX8_isOn_39 : decode cX8_isOn 39 = .ok (.iload_n 1, 1) := by decide +kernel
theorem dX8_isOn_40 : decode cX8_isOn 40 = .ok (.iaload, 1) := by decide +kernel
theorem dX8_isOn_41 : decode cX8_isOn 41 = .ok (.imul, 1) := by decide +kernel
theorem dX8_isOn_42 : decode cX8_isOn 42 = .ok (.if_icmp .gt 7, 3) := by decide +kernel
theorem dX8_isOn_45 : decode cX8_isOn 45 = .ok (.iconst 1, 1) := by decide +kernel
theorem dX8_isOn_46 : decode cX8_isOn 46 = .ok (.goto 4, 3) := by decide +kernel
theorem dX8_isOn_49 : decode cX8_isOn 49 = .ok (.iconst 0, 1) := by decide +kernel
theorem dX8_isOn_50 : decode cX8_isOn 50 = .ok (.ireturn, 1) := by decide +kernel
theorem dX8_layForce_0 : decode cX8_layForce 0 = .ok (.iconst 0, 1) := by decide +kernel
theorem dX8_layForce_1 : decode cX8_layForce 1 = .ok (.istore_n 2, 1) := by decide +kernel
theorem dX8_layForce_2 : decode cX8_layForce 2 = .ok (.aload_n 0, 1) := by decide +kernel
theorem dX8_layForce_3 : decode cX8_layForce 3 = .ok (.getfield 72, 3) := by decide +kernel
theorem dX8_layForce_6 : decode cX8_layForce 6 = .ok (.iconst 1, 1) := by decide +kernel
theorem dX8_layForce_7 : decode cX8_layForce 7 = .ok (.isub, 1) := by decide +kernel
theorem dX8_layForce_8 : decode cX8_layForce 8 = .ok (.istore_n 3, 1) := by decide +kernel
theorem dX8_layForce_9 : decode cX8_layForce 9 = .ok (.iload_n 3, 1) := by decide +kernel
theorem dX8_layForce_10 : decode cX8_layForce 10 = .ok (.ifCond .lt 85, 3) := by decide +kernel
theorem dX8_layForce_13 : decode cX8_layForce 13 = .ok (.aload_n 0, 1) := by decide +kernel
theorem dX8_layForce_14 : decode cX8_layForce 14 = .ok (.getfield 45, 3) := by decide +kernel
theorem dX8_layForce_17 : decode cX8_layForce 17 = .ok (.iload_n 3, 1) := by decide +kernel
theorem dX8_layForce_18 : decode cX8_layForce 18 = .ok (.iaload, 1) := by decide +kernel
theorem dX8_layForce_19 : decode cX8_layForce 19 = .ok (.istore 4, 2) := by decide +kernel
theorem dX8_layForce_21 : decode cX8_layForce 21 = .ok (.aload_n 0, 1) := by decide +kernel
theorem dX8_layForce_22 : decode cX8_layForce 22 = .ok (.getfield 51, 3) := by decide +kernel
theorem dX8_layForce_25 : decode cX8_layForce 25 = .ok (.iload 4, 2) := by decide +kernel
theorem dX8_layForce_27 : decode cX8_layForce 27 = .ok (.aload_n 0, 1) := by decide +kernel
theorem dX8_layForce_28 : decode cX8_layForce 28 = .ok (.iload 4, 2) := by decide +kernel
theorem dX8_layForce_30 : decode cX8_layForce 30 = .ok (.iload_n 1, 1) := by decide +kernel
theorem dX8_layForce_31 : decode cX8_layForce 31 = .ok (.invokevirtual 168, 3) := by decide +kernel
theorem dX8_layForce_34 : decode cX8_layForce 34 = .ok (.ifCond .eq 16, 3) := by decide +kernel
theorem dX8_layForce_37 : decode cX8_layForce 37 = .ok (.iload_n 2, 1) := by decide +kernel
theorem dX8_layForce_38 : decode cX8_layForce 38 = .ok (.iload 4, 2) := by decide +kernel
theorem dX8_layForce_40 : decode cX8_layForce 40 = .ok (.ishr, 1) := by decide +kernel
theorem dX8_layForce_41 : decode cX8_layForce 41 = .ok (.iconst 1, 1) := by decide +kernel
theorem dX8_layForce_42 : decode cX8_layForce 42 = .ok (.iand, 1) := by decide +kernel
theorem dX8_layForce_43 : decode cX8_layForce 43 = .ok (.ifCond .ne 7, 3) := by decide +kernel
theorem dX8_layForce_46 : decode cX8_layForce 46 = .ok (.iconst 1, 1) := by decide +kernel
theorem dX8_layForce_47 : decode cX8_layForce 47 = .ok (.goto 4, 3) := by decide +kernel
theorem dX8_layForce_50 : decode cX8_layForce 50 = .ok (.iconst 0, 1) := by decide +kernel
theorem dX8_layForce_51 : decode cX8_layForce 51 = .ok (.bastore, 1) := by decide +kernel
theorem dX8_layForce_52 : decode cX8_layForce 52 = .ok (.iload_n 2, 1) := by decide +kernel
theorem dX8_layForce_53 : decode cX8_layForce 53 = .ok (.aload_n 0, 1) := by decide +kernel
theorem dX8_layForce_54 : decode cX8_layForce 54 = .ok (.getfield 51, 3) := by decide +kernel
theorem dX8_layForce_57 : decode cX8_layForce 57 = .ok (.iload 4, 2) := by decide +kernel
theorem dX8_layForce_59 : decode cX8_layForce 59 = .ok (.baload, 1) := by decide +kernel
theorem dX8_layForce_60 : decode cX8_layForce 60 = .ok (.ifCond .eq 26, 3) := by decide +kernel
theorem dX8_layForce_63 : decode cX8_layForce 63 = .ok (.aload_n 0, 1) := by decide +kernel
theorem dX8_layForce_64 : decode cX8_layForce 64 = .ok (.getfield 19, 3) := by decide +kernel
theorem dX8_layForce_67 : decode cX8_layForce 67 = .ok (.iload 4, 2) := by decide +kernel
theorem dX8_layForce_69 : decode cX8_layForce 69 = .ok (.iaload, 1) := by decide +kernel
theorem dX8_layForce_70 : decode cX8_layForce 70 = .ok (.iconst 2, 1) := by decide +kernel
theorem dX8_layForce_71 : decode cX8_layForce 71 = .ok (.if_icmp .ne 15, 3) := by decide +kernel
theorem dX8_layForce_74 : decode cX8_layForce 74 = .ok (.iconst 1, 1) := by decide +kernel
theorem dX8_layForce_75 : decode cX8_layForce 75 = .ok (.aload_n 0, 1) := by decide +kernel
theorem dX8_layForce_76 : decode cX8_layForce 76 = .ok (.getfield 28, 3) := by decide +kernel
theorem dX8_layForce_79 : decode cX8_layForce 79 = .ok (.iload 4, 2) := by decide +kernel
theorem dX8_layForce_81 : decode cX8_layForce 81 = .ok (.iaload, 1) := by decide +kernel
theorem dX8_layForce_82 : decode cX8_layForce 82 = .ok (.ishl, 1) := by decide +kernel
theorem dX8_layForce_83 : decode cX8_layForce 83 = .ok (.goto 4, 3) := by decide +kernel
theorem dX8_layForce_86 : decode cX8_layForce 86 = .ok (.iconst 0, 1) := by decide +kernel
theorem dX8_layForce_87 : decode cX8_layForce 87 = .ok (.ior, 1) := by decide +kernel
theorem dX8_layForce_88 : decode cX8_layForce 88 = .ok (.istore_n 2, 1) := by decide +kernel
theorem dX8_layForce_89 : decode cX8_layForce 89 = .ok (.iinc 3 (-1), 3) := by decide +kernel
theorem dX8_layForce_92 : decode cX8_layForce 92 = .ok (.goto (-83), 3) := by decide +kernel
theorem dX8_layForce_95 : decode cX8_layForce 95 = .ok (.return_, 1) := by decide +kernel
theorem dX8_layPassing_0 : decode cX8_layPassing 0 = .ok (.aload_n 0, 1) := by decide +kernel
theorem dX8_layPassing_1 : decode cX8_layPassing 1 = .ok (.invokevirtual 171, 3) := by decide +kernel
theorem dX8_layPassing_4 : decode cX8_layPassing 4 = .ok (.iconst 0, 1) := by decide +kernel
theorem dX8_layPassing_5 : decode cX8_layPassing 5 = .ok (.istore_n 1, 1) := by decide +kernel
theorem dX8_layPassing_6 : decode cX8_layPassing 6 = .ok (.iload_n 1, 1) := by decide +kernel
theorem dX8_layPassing_7 : decode cX8_layPassing 7 = .ok (.aload_n 0, 1) := by decide +kernel
theorem dX8_layPassing_8 : decode cX8_layPassing 8 = .ok (.getfield 72, 3) := by decide +kernel
theorem dX8_layPassing_11 : decode cX8_layPassing 11 = .ok (.if_icmp .ge 16, 3) := by decide +kernel
theorem dX8_layPassing_14 : decode cX8_layPassing 14 = .ok (.aload_n 0, 1) := by decide +kernel
theorem dX8_layPassing_15 : decode cX8_layPassing 15 = .ok (.getfield 48, 3) := by decide +kernel
theorem dX8_layPassing_18 : decode cX8_layPassing 18 = .ok (.iload_n 1, 1) := by decide +kernel
theorem dX8_layPassing_19 : decode cX8_layPassing 19 = .ok (.iconst 0, 1) := by decide +kernel
theorem dX8_layPassing_20 : decode cX8_layPassing 20 = .ok (.bastore, 1) := by decide +kernel
theorem dX8_layPassing_21 : decode cX8_layPassing 21 = .ok (.iinc 1 1, 3) := by decide +kernel
theorem dX8_layPassing_24 : decode cX8_layPassing 24 = .ok (.goto (-18), 3) := by decide +kernel
theorem dX8_layPassing_27 : decode cX8_layPassing 27 = .ok (.iconst 0, 1) := by decide +kernel
theorem dX8_layPassing_28 : decode cX8_layPassing 28 = .ok (.istore_n 1, 1) := by decide +kernel
theorem dX8_layPassing_29 : decode cX8_layPassing 29 = .ok (.iload_n 1, 1) := by decide +kernel
theorem dX8_layPassing_30 : decode cX8_layPassing 30 = .ok (.aload_n 0, 1) := by decide +kernel
theorem dX8_layPassing_31 : decode cX8_layPassing 31 = .ok (.getfield 72, 3) := by decide +kernel
theorem dX8_layPassing_34 : decode cX8_layPassing 34 = .ok (.if_icmp .ge 105, 3) := by decide +kernel
theorem dX8_layPassing_37 : decode cX8_layPassing 37 = .ok (.aload_n 0, 1) := by decide +kernel
theorem dX8_layPassing_38 : decode cX8_layPassing 38 = .ok (.getfield 45, 3) := by decide +kernel
theorem dX8_layPassing_41 : decode cX8_layPassing 41 = .ok (.iload_n 1, 1) := by decide +kernel
theorem dX8_layPassing_42 : decode cX8_layPassing 42 = .ok (.iaload, 1) := by decide +kernel
theorem dX8_layPassing_43 : decode cX8_layPassing 43 = .ok (.istore_n 2, 1) := by decide +kernel
theorem dX8_layPassing_44 : decode cX8_layPassing 44 = .ok (.iload_n 2, 1) := by decide +kernel
theorem dX8_layPassing_45 : decode cX8_layPassing 45 = .ok (.aload_n 0, 1) := by decide +kernel
theorem dX8_layPassing_46 : decode cX8_layPassing 46 = .ok (.getfield 38, 3) := by decide +kernel
theorem dX8_layPassing_49 : decode cX8_layPassing 49 = .ok (.if_icmp .eq 17, 3) := by decide +kernel
theorem dX8_layPassing_52 : decode cX8_layPassing 52 = .ok (.aload_n 0, 1) := by decide +kernel
theorem dX8_layPassing_53 : decode cX8_layPassing 53 = .ok (.iload_n 2, 1) := by decide +kernel
theorem dX8_layPassing_54 : decode cX8_layPassing 54 = .ok (.invokevirtual 165, 3) := by decide +kernel
theorem dX8_layPassing_57 : decode cX8_layPassing 57 = .ok (.bipush (-9), 2) := by decide +kernel
theorem dX8_layPassing_59 : decode cX8_layPassing 59 = .ok (.if_icmp .ne 7, 3) := by decide +kernel
theorem dX8_layPassing_62 : decode cX8_layPassing 62 = .ok (.iconst 1, 1) := by decide +kernel
theorem dX8_layPassing_63 : decode cX8_layPassing 63 = .ok (.goto 4, 3) := by decide +kernel
theorem dX8_layPassing_66 : decode cX8_layPassing 66 = .ok (.iconst 0, 1) := by decide +kernel
theorem dX8_layPassing_67 : decode cX8_layPassing 67 = .ok (.istore_n 3, 1) := by decide +kernel
theorem dX8_layPassing_68 : decode cX8_layPassing 68 = .ok (.iload_n 3, 1) := by decide +kernel
theorem dX8_layPassing_69 : decode cX8_layPassing 69 = .ok (.ifCond .eq 57, 3) := by decide +kernel
theorem dX8_layPassing_72 : decode cX8_layPassing 72 = .ok (.aload_n 0, 1) := by decide +kernel
theorem dX8_layPassing_73 : decode cX8_layPassing 73 = .ok (.getfield 25, 3) := by decide +kernel
theorem dX8_layPassing_76 : decode cX8_layPassing 76 = .ok (.iload_n 2, 1) := by decide +kernel
theorem dX8_layPassing_77 : decode cX8_layPassing 77 = .ok (.iaload, 1) := by decide +kernel
theorem dX8_layPassing_78 : decode cX8_layPassing 78 = .ok (.bipush 6, 2) := by decide +kernel
theorem dX8_layPassing_80 : decode cX8_layPassing 80 = .ok (.if_icmp .eq 46, 3) := by decide +kernel
theorem dX8_layPassing_83 : decode cX8_layPassing 83 = .ok (.aload_n 0, 1) := by decide +kernel
theorem dX8_layPassing_84 : decode cX8_layPassing 84 = .ok (.aload_n 0, 1) := by decide +kernel
theorem dX8_layPassing_85 : decode cX8_layPassing 85 = .ok (.getfield 22, 3) := by decide +kernel
theorem dX8_layPassing_88 : decode cX8_layPassing 88 = .ok (.iload_n 2, 1) := by decide +kernel
theorem dX8_layPassing_89 : decode cX8_layPassing 89 = .ok (.iaload, 1) := by decide +kernel
theorem dX8_layPassing_90 : decode cX8_layPassing 90 = .ok (.invokevirtual 174, 3) := by decide +kernel
theorem dX8_layPassing_93 : decode cX8_layPassing 93 = .ok (.aload_n 0, 1) := by decide +kernel
theorem dX8_layPassing_94 : decode cX8_layPassing 94 = .ok (.aload_n 0, 1) := by decide +kernel
theorem dX8_layPassing_95 : decode cX8_layPassing 95 = .ok (.getfield 25, 3) := by decide +kernel
theorem dX8_layPassing_98 : decode cX8_layPassing 98 = .ok (.iload_n 2, 1) := by decide +kernel
theorem dX8_layPassing_99 : decode cX8_layPassing 99 = .ok (.iaload, 1) := by decide +kernel
theorem dX8_layPassing_100 : decode cX8_layPassing 100 = .ok (.invokevirtual 146, 3) := by decide +kernel
theorem dX8_layPassing_103 : decode cX8_layPassing 103 = .ok (.ifCond .eq 21, 3) := by decide +kernel
theorem dX8_layPassing_106 : decode cX8_layPassing 106 = .ok (.aload_n 0, 1) := by decide +kernel
theorem dX8_layPassing_107 : decode cX8_layPassing 107 = .ok (.getfield 51, 3) := by decide +kernel
theorem dX8_layPassing_110 : decode cX8_layPassing 110 = .ok (.aload_n 0, 1) := by decide +kernel
theorem dX8_layPassing_111 : decode cX8_layPassing 111 = .ok (.getfield 25, 3) := by decide +kernel
theorem dX8_layPassing_114 : decode cX8_layPassing 114 = .ok (.iload_n 2, 1) := by decide +kernel
theorem dX8_layPassing_115 : decode cX8_layPassing 115 = .ok (.iaload, 1) := by decide +kernel
theorem dX8_layPassing_116 : decode cX8_layPassing 116 = .ok (.baload, 1) := by decide +kernel
theorem dX8_layPassing_117 : decode cX8_layPassing 117 = .ok (.ifCond .eq 7, 3) := by decide +kernel
theorem dX8_layPassing_120 : decode cX8_layPassing 120 = .ok (.iconst 1, 1) := by decide +kernel
theorem dX8_layPassing_121 : decode cX8_layPassing 121 = .ok (.goto 4, 3) := by decide +kernel
theorem dX8_layPassing_124 : decode cX8_layPassing 124 = .ok (.iconst 0, 1) := by decide +kernel
theorem dX8_layPassing_125 : decode cX8_layPassing 125 = .ok (.istore_n 3, 1) := by decide +kernel
theorem dX8_layPassing_126 : decode cX8_layPassing 126 = .ok (.aload_n 0, 1) := by decide +kernel
theorem dX8_layPassing_127 : decode cX8_layPassing 127 = .ok (.getfield 48, 3) := by decide +kernel
theorem dX8_layPassing_130 : decode cX8_layPassing 130 = .ok (.iload_n 2, 1) := by decide +kernel
theorem dX8_layPassing_131 : decode cX8_layPassing 131 = .ok (.iload_n 3, 1) := by decide +kernel
theorem dX8_layPassing_132 : decode cX8_layPassing 132 = .ok (.bastore, 1) := by decide +kernel
theorem dX8_layPassing_133 : decode cX8_layPassing 133 = .ok (.iinc 1 1, 3) := by decide +kernel
theorem dX8_layPassing_136 : decode cX8_layPassing 136 = .ok (.goto (-107), 3) := by decide +kernel
theorem dX8_layPassing_139 : decode cX8_layPassing 139 = .ok (.return_, 1) := by decide +kernel
theorem dX8_passing_0 : decode cX8_passing 0 = .ok (.aload_n 0, 1) := by decide +kernel
theorem dX8_passing_1 : decode cX8_passing 1 = .ok (.getfield 72, 3) := by decide +kernel
theorem dX8_passing_4 : decode cX8_passing 4 = .ok (.ifCond .ne 6, 3) := by decide +kernel
theorem dX8_passing_7 : decode cX8_passing 7 = .ok (.bipush (-3), 2) := by decide +kernel
theorem dX8_passing_9 : decode cX8_passing 9 = .ok (.ireturn, 1) := by decide +kernel
theorem dX8_passing_10 : decode cX8_passing 10 = .ok (.aload_n 0, 1) := by decide +kernel
theorem dX8_passing_11 : decode cX8_passing 11 = .ok (.invokevirtual 178, 3) := by decide +kernel
theorem dX8_passing_14 : decode cX8_passing 14 = .ok (.iconst 0, 1) := by decide +kernel
theorem dX8_passing_15 : decode cX8_passing 15 = .ok (.istore_n 1, 1) := by decide +kernel
theorem dX8_passing_16 : decode cX8_passing 16 = .ok (.iconst 0, 1) := by decide +kernel
theorem dX8_passing_17 : decode cX8_passing 17 = .ok (.istore_n 2, 1) := by decide +kernel
theorem dX8_passing_18 : decode cX8_passing 18 = .ok (.iload_n 2, 1) := by decide +kernel
theorem dX8_passing_19 : decode cX8_passing 19 = .ok (.aload_n 0, 1) := by decide +kernel
theorem dX8_passing_20 : decode cX8_passing 20 = .ok (.getfield 72, 3) := by decide +kernel
theorem dX8_passing_23 : decode cX8_passing 23 = .ok (.if_icmp .ge 28, 3) := by decide +kernel
theorem dX8_passing_26 : decode cX8_passing 26 = .ok (.iload_n 1, 1) := by decide +kernel
theorem dX8_passing_27 : decode cX8_passing 27 = .ok (.aload_n 0, 1) := by decide +kernel
theorem dX8_passing_28 : decode cX8_passing 28 = .ok (.getfield 48, 3) := by decide +kernel
theorem dX8_passing_31 : decode cX8_passing 31 = .ok (.iload_n 2, 1) := by decide +kernel
theorem dX8_passing_32 : decode cX8_passing 32 = .ok (.baload, 1) := by decide +kernel
theorem dX8_passing_33 : decode cX8_passing 33 = .ok (.ifCond .eq 9, 3) := by decide +kernel
theorem dX8_passing_36 : decode cX8_passing 36 = .ok (.iconst 1, 1) := by decide +kernel
theorem dX8_passing_37 : decode cX8_passing 37 = .ok (.iload_n 2, 1) := by decide +kernel
theorem dX8_passing_38 : decode cX8_passing 38 = .ok (.ishl, 1) := by decide +kernel
theorem dX8_passing_39 : decode cX8_passing 39 = .ok (.goto 4, 3) := by decide +kernel
theorem dX8_passing_42 : decode cX8_passing 42 = .ok (.iconst 0, 1) := by decide +kernel
theorem dX8_passing_43 : decode cX8_passing 43 = .ok (.ior, 1) := by decide +kernel
theorem dX8_passing_44 : decode cX8_passing 44 = .ok (.istore_n 1, 1) := by decide +kernel
theorem dX8_passing_45 : decode cX8_passing 45 = .ok (.iinc 2 1, 3) := by decide +kernel
theorem dX8_passing_48 : decode cX8_passing 48 = .ok (.goto (-30), 3) := by decide +kernel
theorem dX8_passing_51 : decode cX8_passing 51 = .ok (.iload_n 1, 1) := by decide +kernel
theorem dX8_passing_52 : decode cX8_passing 52 = .ok (.ireturn, 1) := by decide +kernel
theorem dX8_forceNow_0 : decode cX8_forceNow 0 = .ok (.aload_n 0, 1) := by decide +kernel
theorem dX8_forceNow_1 : decode cX8_forceNow 1 = .ok (.iload_n 1, 1) := by decide +kernel
theorem dX8_forceNow_2 : decode cX8_forceNow 2 = .ok (.invokevirtual 174, 3) := by decide +kernel
theorem dX8_forceNow_5 : decode cX8_forceNow 5 = .ok (.iconst 0, 1) := by decide +kernel
theorem dX8_forceNow_6 : decode cX8_forceNow 6 = .ok (.istore_n 2, 1) := by decide +kernel
theorem dX8_forceNow_7 : decode cX8_forceNow 7 = .ok (.iconst 0, 1) := by decide +kernel
theorem dX8_forceNow_8 : decode cX8_forceNow 8 = .ok (.istore_n 3, 1) := by decide +kernel
theorem dX8_forceNow_9 : decode cX8_forceNow 9 = .ok (.iload_n 3, 1) := by decide +kernel
theorem dX8_forceNow_10 : decode cX8_forceNow 10 = .ok (.aload_n 0, 1) := by decide +kernel
theorem dX8_forceNow_11 : decode cX8_forceNow 11 = .ok (.getfield 72, 3) := by decide +kernel
theorem dX8_forceNow_14 : decode cX8_forceNow 14 = .ok (.if_icmp .ge 28, 3) := by decide +kernel
theorem dX8_forceNow_17 : decode cX8_forceNow 17 = .ok (.iload_n 2, 1) := by decide +kernel
theorem dX8_forceNow_18 : decode cX8_forceNow 18 = .ok (.aload_n 0, 1) := by decide +kernel
theorem dX8_forceNow_19 : decode cX8_forceNow 19 = .ok (.getfield 51, 3) := by decide +kernel
theorem dX8_forceNow_22 : decode cX8_forceNow 22 = .ok (.iload_n 3, 1) := by decide +kernel
theorem dX8_forceNow_23 : decode cX8_forceNow 23 = .ok (.baload, 1) := by decide +kernel
theorem dX8_forceNow_24 : decode cX8_forceNow 24 = .ok (.ifCond .eq 9, 3) := by decide +kernel
theorem dX8_forceNow_27 : decode cX8_forceNow 27 = .ok (.iconst 1, 1) := by decide +kernel
theorem dX8_forceNow_28 : decode cX8_forceNow 28 = .ok (.iload_n 3, 1) := by decide +kernel
theorem dX8_forceNow_29 : decode cX8_forceNow 29 = .ok (.ishl, 1) := by decide +kernel
theorem dX8_forceNow_30 : decode cX8_forceNow 30 = .ok (.goto 4, 3) := by decide +kernel
theorem dX8_forceNow_33 : decode cX8_forceNow 33 = .ok (.iconst 0, 1) := by decide +kernel
theorem dX8_forceNow_34 : decode cX8_forceNow 34 = .ok (.ior, 1) := by decide +kernel
theorem dX8_forceNow_35 : decode cX8_forceNow 35 = .ok (.istore_n 2, 1) := by decide +kernel
theorem dX8_forceNow_36 : decode cX8_forceNow 36 = .ok (.iinc 3 1, 3) := by decide +kernel
theorem dX8_forceNow_39 : decode cX8_forceNow 39 = .ok (.goto (-30), 3) := by decide +kernel
theorem dX8_forceNow_42 : decode cX8_forceNow 42 = .ok (.iload_n 2, 1) := by decide +kernel
theorem dX8_forceNow_43 : decode cX8_forceNow 43 = .ok (.ireturn, 1) := by decide +kernel
theorem dX8_forceOn_0 : decode cX8_forceOn 0 = .ok (.aload_n 0, 1) := by decide +kernel
theorem dX8_forceOn_1 : decode cX8_forceOn 1 = .ok (.invokevirtual 178, 3) := by decide +kernel
theorem dX8_forceOn_4 : decode cX8_forceOn 4 = .ok (.aload_n 0, 1) := by decide +kernel
theorem dX8_forceOn_5 : decode cX8_forceOn 5 = .ok (.iload_n 1, 1) := by decide +kernel
theorem dX8_forceOn_6 : decode cX8_forceOn 6 = .ok (.invokevirtual 181, 3) := by decide +kernel
theorem dX8_forceOn_9 : decode cX8_forceOn 9 = .ok (.ireturn, 1) := by decide +kernel
theorem dX8_force_0 : decode cX8_force 0 = .ok (.iload_n 1, 1) := by decide +kernel
theorem dX8_force_1 : decode cX8_force 1 = .ok (.invokestatic 152, 3) := by decide +kernel
theorem dX8_force_4 : decode cX8_force 4 = .ok (.ifCond .ne 6, 3) := by decide +kernel
theorem dX8_force_7 : decode cX8_force 7 = .ok (.bipush (-2), 2) := by decide +kernel
theorem dX8_force_9 : decode cX8_force 9 = .ok (.ireturn, 1) := by decide +kernel
theorem dX8_force_10 : decode cX8_force 10 = .ok (.aload_n 0, 1) := by decide +kernel
theorem dX8_force_11 : decode cX8_force 11 = .ok (.getfield 72, 3) := by decide +kernel
theorem dX8_force_14 : decode cX8_force 14 = .ok (.ifCond .ne 8, 3) := by decide +kernel
theorem dX8_force_17 : decode cX8_force 17 = .ok (.bipush (-3), 2) := by decide +kernel
theorem dX8_force_19 : decode cX8_force 19 = .ok (.goto 8, 3) := by decide +kernel
theorem dX8_force_22 : decode cX8_force 22 = .ok (.aload_n 0, 1) := by decide +kernel
theorem dX8_force_23 : decode cX8_force 23 = .ok (.iload_n 1, 1) := by decide +kernel
theorem dX8_force_24 : decode cX8_force 24 = .ok (.invokevirtual 184, 3) := by decide +kernel
theorem dX8_force_27 : decode cX8_force 27 = .ok (.ireturn, 1) := by decide +kernel
theorem dX8_holdsNow_0 : decode cX8_holdsNow 0 = .ok (.aload_n 0, 1) := by decide +kernel
theorem dX8_holdsNow_1 : decode cX8_holdsNow 1 = .ok (.invokevirtual 178, 3) := by decide +kernel
theorem dX8_holdsNow_4 : decode cX8_holdsNow 4 = .ok (.iconst 0, 1) := by decide +kernel
theorem dX8_holdsNow_5 : decode cX8_holdsNow 5 = .ok (.istore_n 2, 1) := by decide +kernel
theorem dX8_holdsNow_6 : decode cX8_holdsNow 6 = .ok (.iconst 0, 1) := by decide +kernel
theorem dX8_holdsNow_7 : decode cX8_holdsNow 7 = .ok (.istore_n 3, 1) := by decide +kernel
theorem dX8_holdsNow_8 : decode cX8_holdsNow 8 = .ok (.iload_n 3, 1) := by decide +kernel
theorem dX8_holdsNow_9 : decode cX8_holdsNow 9 = .ok (.bipush 110, 2) := by decide +kernel
theorem dX8_holdsNow_11 : decode cX8_holdsNow 11 = .ok (.if_icmp .ge 21, 3) := by decide +kernel
theorem dX8_holdsNow_14 : decode cX8_holdsNow 14 = .ok (.iload_n 2, 1) := by decide +kernel
theorem dX8_holdsNow_15 : decode cX8_holdsNow 15 = .ok (.aload_n 0, 1) := by decide +kernel
theorem dX8_holdsNow_16 : decode cX8_holdsNow 16 = .ok (.iload_n 3, 1) := by decide +kernel
theorem dX8_holdsNow_17 : decode cX8_holdsNow 17 = .ok (.invokevirtual 181, 3) := by decide +kernel
theorem dX8_holdsNow_20 : decode cX8_holdsNow 20 = .ok (.iload_n 1, 1) := by decide +kernel
theorem dX8_holdsNow_21 : decode cX8_holdsNow 21 = .ok (.ishr, 1) := by decide +kernel
theorem dX8_holdsNow_22 : decode cX8_holdsNow 22 = .ok (.iconst 1, 1) := by decide +kernel
theorem dX8_holdsNow_23 : decode cX8_holdsNow 23 = .ok (.iand, 1) := by decide +kernel
theorem dX8_holdsNow_24 : decode cX8_holdsNow 24 = .ok (.iadd, 1) := by decide +kernel
theorem dX8_holdsNow_25 : decode cX8_holdsNow 25 = .ok (.istore_n 2, 1) := by decide +kernel
theorem dX8_holdsNow_26 : decode cX8_holdsNow 26 = .ok (.iinc 3 1, 3) := by decide +kernel
theorem dX8_holdsNow_29 : decode cX8_holdsNow 29 = .ok (.goto (-21), 3) := by decide +kernel
theorem dX8_holdsNow_32 : decode cX8_holdsNow 32 = .ok (.iload_n 2, 1) := by decide +kernel
theorem dX8_holdsNow_33 : decode cX8_holdsNow 33 = .ok (.ireturn, 1) := by decide +kernel
theorem dX8_holds_0 : decode cX8_holds 0 = .ok (.aload_n 0, 1) := by decide +kernel
theorem dX8_holds_1 : decode cX8_holds 1 = .ok (.iload_n 1, 1) := by decide +kernel
theorem dX8_holds_2 : decode cX8_holds 2 = .ok (.invokevirtual 146, 3) := by decide +kernel
theorem dX8_holds_5 : decode cX8_holds 5 = .ok (.ifCond .eq 11, 3) := by decide +kernel
theorem dX8_holds_8 : decode cX8_holds 8 = .ok (.aload_n 0, 1) := by decide +kernel
theorem dX8_holds_9 : decode cX8_holds 9 = .ok (.iload_n 1, 1) := by decide +kernel
theorem dX8_holds_10 : decode cX8_holds 10 = .ok (.invokevirtual 187, 3) := by decide +kernel
theorem dX8_holds_13 : decode cX8_holds 13 = .ok (.goto 4, 3) := by decide +kernel
end
section
theorem dX8_holds_16 : decode cX8_holds 16 = .ok (.iconst (-1), 1) := by decide +kernel
theorem dX8_holds_17 : decode cX8_holds 17 = .ok (.ireturn, 1) := by decide +kernel
theorem dX8_chronicle_0 : decode cX8_chronicle 0 = .ok (.aload_n 0, 1) := by decide +kernel
theorem dX8_chronicle_1 : decode cX8_chronicle 1 = .ok (.iconst 0, 1) := by decide +kernel
theorem dX8_chronicle_2 : decode cX8_chronicle 2 = .ok (.putfield 63, 3) := by decide +kernel
theorem dX8_chronicle_5 : decode cX8_chronicle 5 = .ok (.iload_n 1, 1) := by decide +kernel
theorem dX8_chronicle_6 : decode cX8_chronicle 6 = .ok (.invokestatic 82, 3) := by decide +kernel
theorem dX8_chronicle_9 : decode cX8_chronicle 9 = .ok (.ifCond .ne 5, 3) := by decide +kernel
theorem dX8_chronicle_12 : decode cX8_chronicle 12 = .ok (.iconst (-1), 1) := by decide +kernel
theorem dX8_chronicle_13 : decode cX8_chronicle 13 = .ok (.ireturn, 1) := by decide +kernel
theorem dX8_chronicle_14 : decode cX8_chronicle 14 = .ok (.iload_n 2, 1) := by decide +kernel
theorem dX8_chronicle_15 : decode cX8_chronicle 15 = .ok (.invokestatic 86, 3) := by decide +kernel
theorem dX8_chronicle_18 : decode cX8_chronicle 18 = .ok (.ifCond .ne 6, 3) := by decide +kernel
theorem dX8_chronicle_21 : decode cX8_chronicle 21 = .ok (.bipush (-2), 2) := by decide +kernel
theorem dX8_chronicle_23 : decode cX8_chronicle 23 = .ok (.ireturn, 1) := by decide +kernel
theorem dX8_chronicle_24 : decode cX8_chronicle 24 = .ok (.aload_n 0, 1) := by decide +kernel
theorem dX8_chronicle_25 : decode cX8_chronicle 25 = .ok (.iload_n 1, 1) := by decide +kernel
theorem dX8_chronicle_26 : decode cX8_chronicle 26 = .ok (.iload_n 2, 1) := by decide +kernel
theorem dX8_chronicle_27 : decode cX8_chronicle 27 = .ok (.iload_n 3, 1) := by decide +kernel
theorem dX8_chronicle_28 : decode cX8_chronicle 28 = .ok (.iload 4, 2) := by decide +kernel
theorem dX8_chronicle_30 : decode cX8_chronicle 30 = .ok (.invokevirtual 89, 3) := by decide +kernel
theorem dX8_chronicle_33 : decode cX8_chronicle 33 = .ok (.istore 5, 2) := by decide +kernel
theorem dX8_chronicle_35 : decode cX8_chronicle 35 = .ok (.iload 5, 2) := by decide +kernel
theorem dX8_chronicle_37 : decode cX8_chronicle 37 = .ok (.ifCond .eq 10, 3) := by decide +kernel
theorem dX8_chronicle_40 : decode cX8_chronicle 40 = .ok (.aload_n 0, 1) := by decide +kernel
theorem dX8_chronicle_41 : decode cX8_chronicle 41 = .ok (.iload 5, 2) := by decide +kernel
theorem dX8_chronicle_43 : decode cX8_chronicle 43 = .ok (.invokevirtual 93, 3) := by decide +kernel
theorem dX8_chronicle_46 : decode cX8_chronicle 46 = .ok (.ireturn, 1) := by decide +kernel
theorem dX8_chronicle_47 : decode cX8_chronicle 47 = .ok (.aload_n 0, 1) := by decide +kernel
theorem dX8_chronicle_48 : decode cX8_chronicle 48 = .ok (.getfield 72, 3) := by decide +kernel
theorem dX8_chronicle_51 : decode cX8_chronicle 51 = .ok (.ifCond .ne 6, 3) := by decide +kernel
theorem dX8_chronicle_54 : decode cX8_chronicle 54 = .ok (.bipush (-3), 2) := by decide +kernel
theorem dX8_chronicle_56 : decode cX8_chronicle 56 = .ok (.ireturn, 1) := by decide +kernel
theorem dX8_chronicle_57 : decode cX8_chronicle 57 = .ok (.aload_n 0, 1) := by decide +kernel
theorem dX8_chronicle_58 : decode cX8_chronicle 58 = .ok (.invokevirtual 178, 3) := by decide +kernel
theorem dX8_chronicle_61 : decode cX8_chronicle 61 = .ok (.iconst 0, 1) := by decide +kernel
theorem dX8_chronicle_62 : decode cX8_chronicle 62 = .ok (.istore 6, 2) := by decide +kernel
theorem dX8_chronicle_64 : decode cX8_chronicle 64 = .ok (.iload 6, 2) := by decide +kernel
theorem dX8_chronicle_66 : decode cX8_chronicle 66 = .ok (.iload 4, 2) := by decide +kernel
theorem dX8_chronicle_68 : decode cX8_chronicle 68 = .ok (.if_icmp .ge 35, 3) := by decide +kernel
theorem dX8_chronicle_71 : decode cX8_chronicle 71 = .ok (.aload_n 0, 1) := by decide +kernel
theorem dX8_chronicle_72 : decode cX8_chronicle 72 = .ok (.iload 6, 2) := by decide +kernel
theorem dX8_chronicle_74 : decode cX8_chronicle 74 = .ok (.invokevirtual 181, 3) := by decide +kernel
theorem dX8_chronicle_77 : decode cX8_chronicle 77 = .ok (.aload_n 0, 1) := by decide +kernel
theorem dX8_chronicle_78 : decode cX8_chronicle 78 = .ok (.getfield 16, 3) := by decide +kernel
theorem dX8_chronicle_81 : decode cX8_chronicle 81 = .ok (.bipush 60, 2) := by decide +kernel
theorem dX8_chronicle_83 : decode cX8_chronicle 83 = .ok (.iload_n 1, 1) := by decide +kernel
theorem dX8_chronicle_84 : decode cX8_chronicle 84 = .ok (.imul, 1) := by decide +kernel
theorem dX8_chronicle_85 : decode cX8_chronicle 85 = .ok (.iload_n 3, 1) := by decide +kernel
theorem dX8_chronicle_86 : decode cX8_chronicle 86 = .ok (.iadd, 1) := by decide +kernel
theorem dX8_chronicle_87 : decode cX8_chronicle 87 = .ok (.iload 6, 2) := by decide +kernel
theorem dX8_chronicle_89 : decode cX8_chronicle 89 = .ok (.iadd, 1) := by decide +kernel
theorem dX8_chronicle_90 : decode cX8_chronicle 90 = .ok (.iaload, 1) := by decide +kernel
theorem dX8_chronicle_91 : decode cX8_chronicle 91 = .ok (.if_icmp .eq 6, 3) := by decide +kernel
theorem dX8_chronicle_94 : decode cX8_chronicle 94 = .ok (.iload 6, 2) := by decide +kernel
theorem dX8_chronicle_96 : decode cX8_chronicle 96 = .ok (.ireturn, 1) := by decide +kernel
theorem dX8_chronicle_97 : decode cX8_chronicle 97 = .ok (.iinc 6 1, 3) := by decide +kernel
theorem dX8_chronicle_100 : decode cX8_chronicle 100 = .ok (.goto (-36), 3) := by decide +kernel
theorem dX8_chronicle_103 : decode cX8_chronicle 103 = .ok (.bipush (-9), 2) := by decide +kernel
theorem dX8_chronicle_105 : decode cX8_chronicle 105 = .ok (.ireturn, 1) := by decide +kernel
theorem dX8_size_0 : decode cX8_size 0 = .ok (.iconst 0, 1) := by decide +kernel
theorem dX8_size_1 : decode cX8_size 1 = .ok (.istore_n 1, 1) := by decide +kernel
theorem dX8_size_2 : decode cX8_size 2 = .ok (.iload_n 0, 1) := by decide +kernel
theorem dX8_size_3 : decode cX8_size 3 = .ok (.istore_n 2, 1) := by decide +kernel
theorem dX8_size_4 : decode cX8_size 4 = .ok (.iload_n 2, 1) := by decide +kernel
theorem dX8_size_5 : decode cX8_size 5 = .ok (.ifCond .le 16, 3) := by decide +kernel
theorem dX8_size_8 : decode cX8_size 8 = .ok (.iload_n 1, 1) := by decide +kernel
theorem dX8_size_9 : decode cX8_size 9 = .ok (.iload_n 2, 1) := by decide +kernel
theorem dX8_size_10 : decode cX8_size 10 = .ok (.iconst 1, 1) := by decide +kernel
theorem dX8_size_11 : decode cX8_size 11 = .ok (.iand, 1) := by decide +kernel
theorem dX8_size_12 : decode cX8_size 12 = .ok (.iadd, 1) := by decide +kernel
theorem dX8_size_13 : decode cX8_size 13 = .ok (.istore_n 1, 1) := by decide +kernel
theorem dX8_size_14 : decode cX8_size 14 = .ok (.iload_n 2, 1) := by decide +kernel
theorem dX8_size_15 : decode cX8_size 15 = .ok (.iconst 1, 1) := by decide +kernel
theorem dX8_size_16 : decode cX8_size 16 = .ok (.ishr, 1) := by decide +kernel
theorem dX8_size_17 : decode cX8_size 17 = .ok (.istore_n 2, 1) := by decide +kernel
theorem dX8_size_18 : decode cX8_size 18 = .ok (.goto (-14), 3) := by decide +kernel
theorem dX8_size_21 : decode cX8_size 21 = .ok (.iload_n 1, 1) := by decide +kernel
theorem dX8_size_22 : decode cX8_size 22 = .ok (.ireturn, 1) := by decide +kernel
theorem dX8_darkMoons_0 : decode cX8_darkMoons 0 = .ok (.iconst 0, 1) := by decide +kernel
theorem dX8_darkMoons_1 : decode cX8_darkMoons 1 = .ok (.istore_n 1, 1) := by decide +kernel
theorem dX8_darkMoons_2 : decode cX8_darkMoons 2 = .ok (.iconst 0, 1) := by decide +kernel
theorem dX8_darkMoons_3 : decode cX8_darkMoons 3 = .ok (.istore_n 2, 1) := by decide +kernel
theorem dX8_darkMoons_4 : decode cX8_darkMoons 4 = .ok (.aload_n 0, 1) := by decide +kernel
theorem dX8_darkMoons_5 : decode cX8_darkMoons 5 = .ok (.iload_n 2, 1) := by decide +kernel
theorem dX8_darkMoons_6 : decode cX8_darkMoons 6 = .ok (.invokevirtual 149, 3) := by decide +kernel
theorem dX8_darkMoons_9 : decode cX8_darkMoons 9 = .ok (.bipush 110, 2) := by decide +kernel
theorem dX8_darkMoons_11 : decode cX8_darkMoons 11 = .ok (.if_icmp .ge 32, 3) := by decide +kernel
theorem dX8_darkMoons_14 : decode cX8_darkMoons 14 = .ok (.iload_n 1, 1) := by decide +kernel
theorem dX8_darkMoons_15 : decode cX8_darkMoons 15 = .ok (.aload_n 0, 1) := by decide +kernel
theorem dX8_darkMoons_16 : decode cX8_darkMoons 16 = .ok (.getfield 34, 3) := by decide +kernel
theorem dX8_darkMoons_19 : decode cX8_darkMoons 19 = .ok (.aload_n 0, 1) := by decide +kernel
theorem dX8_darkMoons_20 : decode cX8_darkMoons 20 = .ok (.iload_n 2, 1) := by decide +kernel
theorem dX8_darkMoons_21 : decode cX8_darkMoons 21 = .ok (.invokevirtual 149, 3) := by decide +kernel
theorem dX8_darkMoons_24 : decode cX8_darkMoons 24 = .ok (.baload, 1) := by decide +kernel
theorem dX8_darkMoons_25 : decode cX8_darkMoons 25 = .ok (.ifCond .eq 9, 3) := by decide +kernel
theorem dX8_darkMoons_28 : decode cX8_darkMoons 28 = .ok (.iconst 1, 1) := by decide +kernel
theorem dX8_darkMoons_29 : decode cX8_darkMoons 29 = .ok (.iload_n 2, 1) := by decide +kernel
theorem dX8_darkMoons_30 : decode cX8_darkMoons 30 = .ok (.ishl, 1) := by decide +kernel
theorem dX8_darkMoons_31 : decode cX8_darkMoons 31 = .ok (.goto 4, 3) := by decide +kernel
theorem dX8_darkMoons_34 : decode cX8_darkMoons 34 = .ok (.iconst 0, 1) := by decide +kernel
theorem dX8_darkMoons_35 : decode cX8_darkMoons 35 = .ok (.ior, 1) := by decide +kernel
theorem dX8_darkMoons_36 : decode cX8_darkMoons 36 = .ok (.istore_n 1, 1) := by decide +kernel
theorem dX8_darkMoons_37 : decode cX8_darkMoons 37 = .ok (.iinc 2 1, 3) := by decide +kernel
theorem dX8_darkMoons_40 : decode cX8_darkMoons 40 = .ok (.goto (-36), 3) := by decide +kernel
theorem dX8_darkMoons_43 : decode cX8_darkMoons 43 = .ok (.iload_n 1, 1) := by decide +kernel
theorem dX8_darkMoons_44 : decode cX8_darkMoons 44 = .ok (.ireturn, 1) := by decide +kernel
theorem dX8_buy_0 : decode cX8_buy 0 = .ok (.aload_n 0, 1) := by decide +kernel
theorem dX8_buy_1 : decode cX8_buy 1 = .ok (.iload_n 1, 1) := by decide +kernel
theorem dX8_buy_2 : decode cX8_buy 2 = .ok (.invokevirtual 146, 3) := by decide +kernel
theorem dX8_buy_5 : decode cX8_buy 5 = .ok (.ifCond .ne 5, 3) := by decide +kernel
theorem dX8_buy_8 : decode cX8_buy 8 = .ok (.iconst (-1), 1) := by decide +kernel
theorem dX8_buy_9 : decode cX8_buy 9 = .ok (.ireturn, 1) := by decide +kernel
theorem dX8_buy_10 : decode cX8_buy 10 = .ok (.iload_n 2, 1) := by decide +kernel
theorem dX8_buy_11 : decode cX8_buy 11 = .ok (.invokestatic 152, 3) := by decide +kernel
theorem dX8_buy_14 : decode cX8_buy 14 = .ok (.ifCond .ne 6, 3) := by decide +kernel
theorem dX8_buy_17 : decode cX8_buy 17 = .ok (.bipush (-2), 2) := by decide +kernel
theorem dX8_buy_19 : decode cX8_buy 19 = .ok (.ireturn, 1) := by decide +kernel
theorem dX8_buy_20 : decode cX8_buy 20 = .ok (.aload_n 0, 1) := by decide +kernel
theorem dX8_buy_21 : decode cX8_buy 21 = .ok (.invokevirtual 190, 3) := by decide +kernel
theorem dX8_buy_24 : decode cX8_buy 24 = .ok (.istore_n 3, 1) := by decide +kernel
theorem dX8_buy_25 : decode cX8_buy 25 = .ok (.iconst 1, 1) := by decide +kernel
theorem dX8_buy_26 : decode cX8_buy 26 = .ok (.aload_n 0, 1) := by decide +kernel
theorem dX8_buy_27 : decode cX8_buy 27 = .ok (.invokevirtual 194, 3) := by decide +kernel
theorem dX8_buy_30 : decode cX8_buy 30 = .ok (.ishl, 1) := by decide +kernel
theorem dX8_buy_31 : decode cX8_buy 31 = .ok (.istore 4, 2) := by decide +kernel
theorem dX8_buy_33 : decode cX8_buy 33 = .ok (.bipush (-9), 2) := by decide +kernel
theorem dX8_buy_35 : decode cX8_buy 35 = .ok (.istore 5, 2) := by decide +kernel
theorem dX8_buy_37 : decode cX8_buy 37 = .ok (.iconst 0, 1) := by decide +kernel
theorem dX8_buy_38 : decode cX8_buy 38 = .ok (.istore 6, 2) := by decide +kernel
theorem dX8_buy_40 : decode cX8_buy 40 = .ok (.iload 6, 2) := by decide +kernel
theorem dX8_buy_42 : decode cX8_buy 42 = .ok (.iload 4, 2) := by decide +kernel
theorem dX8_buy_44 : decode cX8_buy 44 = .ok (.if_icmp .ge 64, 3) := by decide +kernel
theorem dX8_buy_47 : decode cX8_buy 47 = .ok (.iload 6, 2) := by decide +kernel
theorem dX8_buy_49 : decode cX8_buy 49 = .ok (.iload_n 3, 1) := by decide +kernel
theorem dX8_buy_50 : decode cX8_buy 50 = .ok (.iand, 1) := by decide +kernel
theorem dX8_buy_51 : decode cX8_buy 51 = .ok (.ifCond .ne 51, 3) := by decide +kernel
theorem dX8_buy_54 : decode cX8_buy 54 = .ok (.iload 5, 2) := by decide +kernel
theorem dX8_buy_56 : decode cX8_buy 56 = .ok (.bipush (-9), 2) := by decide +kernel
theorem dX8_buy_58 : decode cX8_buy 58 = .ok (.if_icmp .eq 16, 3) := by decide +kernel
theorem dX8_buy_61 : decode cX8_buy 61 = .ok (.iload 6, 2) := by decide +kernel
theorem dX8_buy_63 : decode cX8_buy 63 = .ok (.invokestatic 197, 3) := by decide +kernel
theorem dX8_buy_66 : decode cX8_buy 66 = .ok (.iload 5, 2) := by decide +kernel
theorem dX8_buy_68 : decode cX8_buy 68 = .ok (.invokestatic 197, 3) := by decide +kernel
theorem dX8_buy_71 : decode cX8_buy 71 = .ok (.if_icmp .ge 31, 3) := by decide +kernel
theorem dX8_buy_74 : decode cX8_buy 74 = .ok (.aload_n 0, 1) := by decide +kernel
theorem dX8_buy_75 : decode cX8_buy 75 = .ok (.iload 6, 2) := by decide +kernel
theorem dX8_buy_77 : decode cX8_buy 77 = .ok (.putfield 155, 3) := by decide +kernel
theorem dX8_buy_80 : decode cX8_buy 80 = .ok (.aload_n 0, 1) := by decide +kernel
theorem dX8_buy_81 : decode cX8_buy 81 = .ok (.iload_n 2, 1) := by decide +kernel
theorem dX8_buy_82 : decode cX8_buy 82 = .ok (.invokevirtual 184, 3) := by decide +kernel
theorem dX8_buy_85 : decode cX8_buy 85 = .ok (.iload_n 1, 1) := by decide +kernel
theorem dX8_buy_86 : decode cX8_buy 86 = .ok (.ishr, 1) := by decide +kernel
theorem dX8_buy_87 : decode cX8_buy 87 = .ok (.iconst 1, 1) := by decide +kernel
theorem dX8_buy_88 : decode cX8_buy 88 = .ok (.iand, 1) := by decide +kernel
theorem dX8_buy_89 : decode cX8_buy 89 = .ok (.iconst 1, 1) := by decide +kernel
theorem dX8_buy_90 : decode cX8_buy 90 = .ok (.if_icmp .ne 8, 3) := by decide +kernel
theorem dX8_buy_93 : decode cX8_buy 93 = .ok (.iload 6, 2) := by decide +kernel
theorem dX8_buy_95 : decode cX8_buy 95 = .ok (.goto 5, 3) := by decide +kernel
theorem dX8_buy_98 : decode cX8_buy 98 = .ok (.iload 5, 2) := by decide +kernel
theorem dX8_buy_100 : decode cX8_buy 100 = .ok (.istore 5, 2) := by decide +kernel
theorem dX8_buy_102 : decode cX8_buy 102 = .ok (.iinc 6 1, 3) := by decide +kernel
theorem dX8_buy_105 : decode cX8_buy 105 = .ok (.goto (-65), 3) := by decide +kernel
theorem dX8_buy_108 : decode cX8_buy 108 = .ok (.aload_n 0, 1) := by decide +kernel
theorem dX8_buy_109 : decode cX8_buy 109 = .ok (.iconst 0, 1) := by decide +kernel
theorem dX8_buy_110 : decode cX8_buy 110 = .ok (.putfield 155, 3) := by decide +kernel
theorem dX8_buy_113 : decode cX8_buy 113 = .ok (.iload 5, 2) := by decide +kernel
theorem dX8_buy_115 : decode cX8_buy 115 = .ok (.ireturn, 1) := by decide +kernel
theorem dX8_when_0 : decode cX8_when 0 = .ok (.aload_n 0, 1) := by decide +kernel
theorem dX8_when_1 : decode cX8_when 1 = .ok (.iload_n 1, 1) := by decide +kernel
theorem dX8_when_2 : decode cX8_when 2 = .ok (.invokevirtual 146, 3) := by decide +kernel
theorem dX8_when_5 : decode cX8_when 5 = .ok (.ifCond .ne 5, 3) := by decide +kernel
theorem dX8_when_8 : decode cX8_when 8 = .ok (.iconst (-1), 1) := by decide +kernel
theorem dX8_when_9 : decode cX8_when 9 = .ok (.ireturn, 1) := by decide +kernel
theorem dX8_when_10 : decode cX8_when 10 = .ok (.iload_n 2, 1) := by decide +kernel
theorem dX8_when_11 : decode cX8_when 11 = .ok (.invokestatic 152, 3) := by decide +kernel
theorem dX8_when_14 : decode cX8_when 14 = .ok (.ifCond .ne 6, 3) := by decide +kernel
theorem dX8_when_17 : decode cX8_when 17 = .ok (.bipush (-2), 2) := by decide +kernel
theorem dX8_when_19 : decode cX8_when 19 = .ok (.ireturn, 1) := by decide +kernel
theorem dX8_when_20 : decode cX8_when 20 = .ok (.aload_n 0, 1) := by decide +kernel
theorem dX8_when_21 : decode cX8_when 21 = .ok (.getfield 22, 3) := by decide +kernel
theorem dX8_when_24 : decode cX8_when 24 = .ok (.iload_n 1, 1) := by decide +kernel
theorem dX8_when_25 : decode cX8_when 25 = .ok (.iaload, 1) := by decide +kernel
theorem dX8_when_26 : decode cX8_when 26 = .ok (.istore_n 3, 1) := by decide +kernel
theorem dX8_when_27 : decode cX8_when 27 = .ok (.bipush (-9), 2) := by decide +kernel
theorem dX8_when_29 : decode cX8_when 29 = .ok (.istore 4, 2) := by decide +kernel
theorem dX8_when_31 : decode cX8_when 31 = .ok (.iconst 0, 1) := by decide +kernel
theorem dX8_when_32 : decode cX8_when 32 = .ok (.istore 5, 2) := by decide +kernel
theorem dX8_when_34 : decode cX8_when 34 = .ok (.iload 5, 2) := by decide +kernel
theorem dX8_when_36 : decode cX8_when 36 = .ok (.bipush 100, 2) := by decide +kernel
theorem dX8_when_38 : decode cX8_when 38 = .ok (.if_icmp .ge 46, 3) := by decide +kernel
theorem dX8_when_41 : decode cX8_when 41 = .ok (.iload 4, 2) := by decide +kernel
theorem dX8_when_43 : decode cX8_when 43 = .ok (.bipush (-9), 2) := by decide +kernel
theorem dX8_when_45 : decode cX8_when 45 = .ok (.if_icmp .ne 39, 3) := by decide +kernel
theorem dX8_when_48 : decode cX8_when 48 = .ok (.aload_n 0, 1) := by decide +kernel
theorem dX8_when_49 : decode cX8_when 49 = .ok (.getfield 22, 3) := by decide +kernel
theorem dX8_when_52 : decode cX8_when 52 = .ok (.iload_n 1, 1) := by decide +kernel
theorem dX8_when_53 : decode cX8_when 53 = .ok (.iload 5, 2) := by decide +kernel
theorem dX8_when_55 : decode cX8_when 55 = .ok (.iastore, 1) := by decide +kernel
theorem dX8_when_56 : decode cX8_when 56 = .ok (.aload_n 0, 1) := by decide +kernel
theorem dX8_when_57 : decode cX8_when 57 = .ok (.iload_n 2, 1) := by decide +kernel
theorem dX8_when_58 : decode cX8_when 58 = .ok (.invokevirtual 184, 3) := by decide +kernel
theorem dX8_when_61 : decode cX8_when 61 = .ok (.iload_n 1, 1) := by decide +kernel
theorem dX8_when_62 : decode cX8_when 62 = .ok (.ishr, 1) := by decide +kernel
theorem dX8_when_63 : decode cX8_when 63 = .ok (.iconst 1, 1) := by decide +kernel
theorem dX8_when_64 : decode cX8_when 64 = .ok (.iand, 1) := by decide +kernel
theorem dX8_when_65 : decode cX8_when 65 = .ok (.iconst 1, 1) := by decide +kernel
theorem dX8_when_66 : decode cX8_when 66 = .ok (.if_icmp .ne 8, 3) := by decide +kernel
theorem dX8_when_69 : decode cX8_when 69 = .ok (.iload 5, 2) := by decide +kernel
theorem dX8_when_71 : decode cX8_when 71 = .ok (.goto 5, 3) := by decide +kernel
theorem dX8_when_74 : decode cX8_when 74 = .ok (.bipush (-9), 2) := by decide +kernel
theorem dX8_when_76 : decode cX8_when 76 = .ok (.istore 4, 2) := by decide +kernel
theorem dX8_when_78 : decode cX8_when 78 = .ok (.iinc 5 1, 3) := by decide +kernel
theorem dX8_when_81 : decode cX8_when 81 = .ok (.goto (-47), 3) := by decide +kernel
theorem dX8_when_84 : decode cX8_when 84 = .ok (.aload_n 0, 1) := by decide +kernel
theorem dX8_when_85 : decode cX8_when 85 = .ok (.getfield 22, 3) := by decide +kernel
theorem dX8_when_88 : decode cX8_when 88 = .ok (.iload_n 1, 1) := by decide +kernel
theorem dX8_when_89 : decode cX8_when 89 = .ok (.iload_n 3, 1) := by decide +kernel
theorem dX8_when_90 : decode cX8_when 90 = .ok (.iastore, 1) := by decide +kernel
theorem dX8_when_91 : decode cX8_when 91 = .ok (.iload 4, 2) := by decide +kernel
theorem dX8_when_93 : decode cX8_when 93 = .ok (.ireturn, 1) := by decide +kernel
theorem dX8_longest_0 : decode cX8_longest 0 = .ok (.aload_n 0, 1) := by decide +kernel
theorem dX8_longest_1 : decode cX8_longest 1 = .ok (.iload_n 1, 1) := by decide +kernel
theorem dX8_longest_2 : decode cX8_longest 2 = .ok (.invokevirtual 146, 3) := by decide +kernel
theorem dX8_longest_5 : decode cX8_longest 5 = .ok (.ifCond .ne 5, 3) := by decide +kernel
theorem dX8_longest_8 : decode cX8_longest 8 = .ok (.iconst (-1), 1) := by decide +kernel
theorem dX8_longest_9 : decode cX8_longest 9 = .ok (.ireturn, 1) := by decide +kernel
theorem dX8_longest_10 : decode cX8_longest 10 = .ok (.iload_n 2, 1) := by decide +kernel
theorem dX8_longest_11 : decode cX8_longest 11 = .ok (.iconst 0, 1) := by decide +kernel
theorem dX8_longest_12 : decode cX8_longest 12 = .ok (.iconst 1, 1) := by decide +kernel
theorem dX8_longest_13 : decode cX8_longest 13 = .ok (.invokestatic 68, 3) := by decide +kernel
theorem dX8_longest_16 : decode cX8_longest 16 = .ok (.ifCond .ne 6, 3) := by decide +kernel
theorem dX8_longest_19 : decode cX8_longest 19 = .ok (.bipush (-2), 2) := by decide +kernel
theorem dX8_longest_21 : decode cX8_longest 21 = .ok (.ireturn, 1) := by decide +kernel
theorem dX8_longest_22 : decode cX8_longest 22 = .ok (.aload_n 0, 1) := by decide +kernel
theorem dX8_longest_23 : decode cX8_longest 23 = .ok (.getfield 22, 3) := by decide +kernel
theorem dX8_longest_26 : decode cX8_longest 26 = .ok (.iload_n 1, 1) := by decide +kernel
theorem dX8_longest_27 : decode cX8_longest 27 = .ok (.iaload, 1) := by decide +kernel
theorem dX8_longest_28 : decode cX8_longest 28 = .ok (.istore_n 3, 1) := by decide +kernel
theorem dX8_longest_29 : decode cX8_longest 29 = .ok (.bipush (-9), 2) := by decide +kernel
theorem dX8_longest_31 : decode cX8_longest 31 = .ok (.istore 4, 2) := by decide +kernel
theorem dX8_longest_33 : decode cX8_longest 33 = .ok (.iconst 0, 1) := by decide +kernel
theorem dX8_longest_34 : decode cX8_longest 34 = .ok (.istore 5, 2) := by decide +kernel
theorem dX8_longest_36 : decode cX8_longest 36 = .ok (.iconst 0, 1) := by decide +kernel
theorem dX8_longest_37 : decode cX8_longest 37 = .ok (.istore 6, 2) := by decide +kernel
theorem dX8_longest_39 : decode cX8_longest 39 = .ok (.iload 6, 2) := by decide +kernel
theorem dX8_longest_41 : decode cX8_longest 41 = .ok (.bipush 100, 2) := by decide +kernel
theorem dX8_longest_43 : decode cX8_longest 43 = .ok (.if_icmp .ge 46, 3) := by decide +kernel
theorem dX8_longest_46 : decode cX8_longest 46 = .ok (.aload_n 0, 1) := by decide +kernel
theorem dX8_longest_47 : decode cX8_longest 47 = .ok (.getfield 22, 3) := by decide +kernel
theorem dX8_longest_50 : decode cX8_longest 50 = .ok (.iload_n 1, 1) := by decide +kernel
theorem dX8_longest_51 : decode cX8_longest 51 = .ok (.iload 6, 2) := by decide +kernel
theorem dX8_longest_53 : decode cX8_longest 53 = .ok (.iastore, 1) := by decide +kernel
theorem dX8_longest_54 : decode cX8_longest 54 = .ok (.aload_n 0, 1) := by decide +kernel
theorem dX8_longest_55 : decode cX8_longest 55 = .ok (.iload_n 1, 1) := by decide +kernel
theorem dX8_longest_56 : decode cX8_longest 56 = .ok (.invokevirtual 187, 3) := by decide +kernel
theorem dX8_longest_59 : decode cX8_longest 59 = .ok (.istore 7, 2) := by decide +kernel
theorem dX8_longest_61 : decode cX8_longest 61 = .ok (.iload 4, 2) := by decide +kernel
theorem dX8_longest_63 : decode cX8_longest 63 = .ok (.bipush (-9), 2) := by decide +kernel
theorem dX8_longest_65 : decode cX8_longest 65 = .ok (.if_icmp .eq 10, 3) := by decide +kernel
theorem dX8_longest_68 : decode cX8_longest 68 = .ok (.iload 7, 2) := by decide +kernel
theorem dX8_longest_70 : decode cX8_longest 70 = .ok (.iload 5, 2) := by decide +kernel
theorem dX8_longest_72 : decode cX8_longest 72 = .ok (.if_icmp .le 11, 3) := by decide +kernel
theorem dX8_longest_75 : decode cX8_longest 75 = .ok (.iload 6, 2) := by decide +kernel
theorem dX8_longest_77 : decode cX8_longest 77 = .ok (.istore 4, 2) := by decide +kernel
theorem dX8_longest_79 : decode cX8_longest 79 = .ok (.iload 7, 2) := by decide +kernel
theorem dX8_longest_81 : decode cX8_longest 81 = .ok (.istore 5, 2) := by decide +kernel
theorem dX8_longest_83 : decode cX8_longest 83 = .ok (.iinc 6 1, 3) := by decide +kernel
theorem dX8_longest_86 : decode cX8_longest 86 = .ok (.goto (-47), 3) := by decide +kernel
theorem dX8_longest_89 : decode cX8_longest 89 = .ok (.aload_n 0, 1) := by decide +kernel
theorem dX8_longest_90 : decode cX8_longest 90 = .ok (.getfield 22, 3) := by decide +kernel
theorem dX8_longest_93 : decode cX8_longest 93 = .ok (.iload_n 1, 1) := by decide +kernel
theorem dX8_longest_94 : decode cX8_longest 94 = .ok (.iload_n 3, 1) := by decide +kernel
theorem dX8_longest_95 : decode cX8_longest 95 = .ok (.iastore, 1) := by decide +kernel
theorem dX8_longest_96 : decode cX8_longest 96 = .ok (.iload_n 2, 1) := by decide +kernel
theorem dX8_longest_97 : decode cX8_longest 97 = .ok (.ifCond .ne 8, 3) := by decide +kernel
theorem dX8_longest_100 : decode cX8_longest 100 = .ok (.iload 4, 2) := by decide +kernel
theorem dX8_longest_102 : decode cX8_longest 102 = .ok (.goto 5, 3) := by decide +kernel
theorem dX8_longest_105 : decode cX8_longest 105 = .ok (.iload 5, 2) := by decide +kernel
theorem dX8_longest_107 : decode cX8_longest 107 = .ok (.ireturn, 1) := by decide +kernel
theorem dX8_othersHold_0 : decode cX8_othersHold 0 = .ok (.aload_n 0, 1) := by decide +kernel
theorem dX8_othersHold_1 : decode cX8_othersHold 1 = .ok (.invokevirtual 178, 3) := by decide +kernel
theorem dX8_othersHold_4 : decode cX8_othersHold 4 = .ok (.iconst 0, 1) := by decide +kernel
theorem dX8_othersHold_5 : decode cX8_othersHold 5 = .ok (.istore_n 2, 1) := by decide +kernel
theorem dX8_othersHold_6 : decode cX8_othersHold 6 = .ok (.iconst 0, 1) := by decide +kernel
theorem dX8_othersHold_7 : decode cX8_othersHold 7 = .ok (.istore_n 3, 1) := by decide +kernel
theorem dX8_othersHold_8 : decode cX8_othersHold 8 = .ok (.iload_n 3, 1) := by decide +kernel
theorem dX8_othersHold_9 : decode cX8_othersHold 9 = .ok (.bipush 110, 2) := by decide +kernel
theorem dX8_othersHold_11 : decode cX8_othersHold 11 = .ok (.if_icmp .ge 26, 3) := by decide +kernel
theorem dX8_othersHold_14 : decode cX8_othersHold 14 = .ok (.iload_n 2, 1) := by decide +kernel
theorem dX8_othersHold_15 : decode cX8_othersHold 15 = .ok (.aload_n 0, 1) := by decide +kernel
theorem dX8_othersHold_16 : decode cX8_othersHold 16 = .ok (.iload_n 3, 1) := by decide +kernel
theorem dX8_othersHold_17 : decode cX8_othersHold 17 = .ok (.invokevirtual 181, 3) := by decide +kernel
theorem dX8_othersHold_20 : decode cX8_othersHold 20 = .ok (.iconst 1, 1) := by decide +kernel
theorem dX8_othersHold_21 : decode cX8_othersHold 21 = .ok (.iload_n 1, 1) := by decide +kernel
theorem dX8_othersHold_22 : decode cX8_othersHold 22 = .ok (.ishl, 1) := by decide +kernel
theorem dX8_othersHold_23 : decode cX8_othersHold 23 = .ok (.iconst (-1), 1) := by decide +kernel
theorem dX8_othersHold_24 : decode cX8_othersHold 24 = .ok (.ixor, 1) := by decide +kernel
theorem dX8_othersHold_25 : decode cX8_othersHold 25 = .ok (.iand, 1) := by decide +kernel
theorem dX8_othersHold_26 : decode cX8_othersHold 26 = .ok (.invokestatic 197, 3) := by decide +kernel
theorem dX8_othersHold_29 : decode cX8_othersHold 29 = .ok (.iadd, 1) := by decide +kernel
theorem dX8_othersHold_30 : decode cX8_othersHold 30 = .ok (.istore_n 2, 1) := by decide +kernel
theorem dX8_othersHold_31 : decode cX8_othersHold 31 = .ok (.iinc 3 1, 3) := by decide +kernel
theorem dX8_othersHold_34 : decode cX8_othersHold 34 = .ok (.goto (-26), 3) := by decide +kernel
theorem dX8_othersHold_37 : decode cX8_othersHold 37 = .ok (.iload_n 2, 1) := by decide +kernel
theorem dX8_othersHold_38 : decode cX8_othersHold 38 = .ok (.ireturn, 1) := by decide +kernel
theorem dX8_worth_0 : decode cX8_worth 0 = .ok (.aload_n 0, 1) := by decide +kernel
theorem dX8_worth_1 : decode cX8_worth 1 = .ok (.iload_n 1, 1) := by decide +kernel
theorem dX8_worth_2 : decode cX8_worth 2 = .ok (.invokevirtual 146, 3) := by decide +kernel
theorem dX8_worth_5 : decode cX8_worth 5 = .ok (.ifCond .ne 5, 3) := by decide +kernel
theorem dX8_worth_8 : decode cX8_worth 8 = .ok (.iconst (-1), 1) := by decide +kernel
theorem dX8_worth_9 : decode cX8_worth 9 = .ok (.ireturn, 1) := by decide +kernel
theorem dX8_worth_10 : decode cX8_worth 10 = .ok (.aload_n 0, 1) := by decide +kernel
theorem dX8_worth_11 : decode cX8_worth 11 = .ok (.iload_n 1, 1) := by decide +kernel
theorem dX8_worth_12 : decode cX8_worth 12 = .ok (.invokevirtual 200, 3) := by decide +kernel
theorem dX8_worth_15 : decode cX8_worth 15 = .ok (.istore_n 2, 1) := by decide +kernel
theorem dX8_worth_16 : decode cX8_worth 16 = .ok (.aload_n 0, 1) := by decide +kernel
theorem dX8_worth_17 : decode cX8_worth 17 = .ok (.iload_n 1, 1) := by decide +kernel
theorem dX8_worth_18 : decode cX8_worth 18 = .ok (.putfield 38, 3) := by decide +kernel
theorem dX8_worth_21 : decode cX8_worth 21 = .ok (.aload_n 0, 1) := by decide +kernel
theorem dX8_worth_22 : decode cX8_worth 22 = .ok (.iload_n 1, 1) := by decide +kernel
theorem dX8_worth_23 : decode cX8_worth 23 = .ok (.invokevirtual 200, 3) := by decide +kernel
theorem dX8_worth_26 : decode cX8_worth 26 = .ok (.istore_n 3, 1) := by decide +kernel
theorem dX8_worth_27 : decode cX8_worth 27 = .ok (.aload_n 0, 1) := by decide +kernel
theorem dX8_worth_28 : decode cX8_worth 28 = .ok (.bipush (-9), 2) := by decide +kernel
theorem dX8_worth_30 : decode cX8_worth 30 = .ok (.putfield 38, 3) := by decide +kernel
theorem dX8_worth_33 : decode cX8_worth 33 = .ok (.iload_n 2, 1) := by decide +kernel
theorem dX8_worth_34 : decode cX8_worth 34 = .ok (.iload_n 3, 1) := by decide +kernel
theorem dX8_worth_35 : decode cX8_worth 35 = .ok (.isub, 1) := by decide +kernel
theorem dX8_worth_36 : decode cX8_worth 36 = .ok (.sipush 1000, 3) := by decide +kernel
theorem dX8_worth_39 : decode cX8_worth 39 = .ok (.iadd, 1) := by decide +kernel
theorem dX8_worth_40 : decode cX8_worth 40 = .ok (.ireturn, 1) := by decide +kernel
theorem dX8_reading_0 : decode cX8_reading 0 = .ok (.aload_n 0, 1) := by decide +kernel
theorem dX8_reading_1 : decode cX8_reading 1 = .ok (.iload_n 1, 1) := by decide +kernel
theorem dX8_reading_2 : decode cX8_reading 2 = .ok (.invokevirtual 146, 3) := by decide +kernel
theorem dX8_reading_5 : decode cX8_reading 5 = .ok (.ifCond .ne 5, 3) := by decide +kernel
theorem dX8_reading_8 : decode cX8_reading 8 = .ok (.iconst (-1), 1) := by decide +kernel
theorem dX8_reading_9 : decode cX8_reading 9 = .ok (.ireturn, 1) := by decide +kernel
theorem dX8_reading_10 : decode cX8_reading 10 = .ok (.iload_n 2, 1) := by decide +kernel
theorem dX8_reading_11 : decode cX8_reading 11 = .ok (.invokestatic 152, 3) := by decide +kernel
theorem dX8_reading_14 : decode cX8_reading 14 = .ok (.ifCond .ne 6, 3) := by decide +kernel
theorem dX8_reading_17 : decode cX8_reading 17 = .ok (.bipush (-2), 2) := by decide +kernel
theorem dX8_reading_19 : decode cX8_reading 19 = .ok (.ireturn, 1) := by decide +kernel
theorem dX8_reading_20 : decode cX8_reading 20 = .ok (.aload_n 0, 1) := by decide +kernel
theorem dX8_reading_21 : decode cX8_reading 21 = .ok (.getfield 130, 3) := by decide +kernel
theorem dX8_reading_24 : decode cX8_reading 24 = .ok (.bipush 8, 2) := by decide +kernel
theorem dX8_reading_26 : decode cX8_reading 26 = .ok (.if_icmp .ne 6, 3) := by decide +kernel
theorem dX8_reading_29 : decode cX8_reading 29 = .ok (.bipush (-4), 2) := by decide +kernel
theorem dX8_reading_31 : decode cX8_reading 31 = .ok (.ireturn, 1) := by decide +kernel
theorem dX8_reading_32 : decode cX8_reading 32 = .ok (.aload_n 0, 1) := by decide +kernel
theorem dX8_reading_33 : decode cX8_reading 33 = .ok (.getfield 54, 3) := by decide +kernel
theorem dX8_reading_36 : decode cX8_reading 36 = .ok (.aload_n 0, 1) := by decide +kernel
theorem dX8_reading_37 : decode cX8_reading 37 = .ok (.getfield 130, 3) := by decide +kernel
theorem dX8_reading_40 : decode cX8_reading 40 = .ok (.iload_n 1, 1) := by decide +kernel
theorem dX8_reading_41 : decode cX8_reading 41 = .ok (.iastore, 1) := by decide +kernel
theorem dX8_reading_42 : decode cX8_reading 42 = .ok (.aload_n 0, 1) := by decide +kernel
theorem dX8_reading_43 : decode cX8_reading 43 = .ok (.getfield 57, 3) := by decide +kernel
theorem dX8_reading_46 : decode cX8_reading 46 = .ok (.aload_n 0, 1) := by decide +kernel
theorem dX8_reading_47 : decode cX8_reading 47 = .ok (.getfield 130, 3) := by decide +kernel
theorem dX8_reading_50 : decode cX8_reading 50 = .ok (.iload_n 2, 1) := by decide +kernel
theorem dX8_reading_51 : decode cX8_reading 51 = .ok (.iastore, 1) := by decide +kernel
theorem dX8_reading_52 : decode cX8_reading 52 = .ok (.aload_n 0, 1) := by decide +kernel
theorem dX8_reading_53 : decode cX8_reading 53 = .ok (.getfield 60, 3) := by decide +kernel
theorem dX8_reading_56 : decode cX8_reading 56 = .ok (.aload_n 0, 1) := by decide +kernel
theorem dX8_reading_57 : decode cX8_reading 57 = .ok (.getfield 130, 3) := by decide +kernel
theorem dX8_reading_60 : decode cX8_reading 60 = .ok (.iload_n 3, 1) := by decide +kernel
theorem dX8_reading_61 : decode cX8_reading 61 = .ok (.bastore, 1) := by decide +kernel
theorem dX8_reading_62 : decode cX8_reading 62 = .ok (.aload_n 0, 1) := by decide +kernel
theorem dX8_reading_63 : decode cX8_reading 63 = .ok (.dup, 1) := by decide +kernel
theorem dX8_reading_64 : decode cX8_reading 64 = .ok (.getfield 130, 3) := by decide +kernel
theorem dX8_reading_67 : decode cX8_reading 67 = .ok (.iconst 1, 1) := by decide +kernel
theorem dX8_reading_68 : decode cX8_reading 68 = .ok (.iadd, 1) := by decide +kernel
theorem dX8_reading_69 : decode cX8_reading 69 = .ok (.putfield 130, 3) := by decide +kernel
theorem dX8_reading_72 : decode cX8_reading 72 = .ok (.aload_n 0, 1) := by decide +kernel
theorem dX8_reading_73 : decode cX8_reading 73 = .ok (.getfield 130, 3) := by decide +kernel
theorem dX8_reading_76 : decode cX8_reading 76 = .ok (.iconst 1, 1) := by decide +kernel
theorem dX8_reading_77 : decode cX8_reading 77 = .ok (.isub, 1) := by decide +kernel
theorem dX8_reading_78 : decode cX8_reading 78 = .ok (.ireturn, 1) := by decide +kernel
theorem dX8_back_0 : decode cX8_back 0 = .ok (.iload_n 1, 1) := by decide +kernel
theorem dX8_back_1 : decode cX8_back 1 = .ok (.iconst 0, 1) := by decide +kernel
theorem dX8_back_2 : decode cX8_back 2 = .ok (.aload_n 0, 1) := by decide +kernel
theorem dX8_back_3 : decode cX8_back 3 = .ok (.getfield 130, 3) := by decide +kernel
theorem dX8_back_6 : decode cX8_back 6 = .ok (.invokestatic 68, 3) := by decide +kernel
theorem dX8_back_9 : decode cX8_back 9 = .ok (.ifCond .ne 6, 3) := by decide +kernel
theorem dX8_back_12 : decode cX8_back 12 = .ok (.bipush (-2), 2) := by decide +kernel
theorem dX8_back_14 : decode cX8_back 14 = .ok (.ireturn, 1) := by decide +kernel
theorem dX8_back_15 : decode cX8_back 15 = .ok (.aload_n 0, 1) := by decide +kernel
theorem dX8_back_16 : decode cX8_back 16 = .ok (.dup, 1) := by decide +kernel
theorem dX8_back_17 : decode cX8_back 17 = .ok (.getfield 130, 3) := by decide +kernel
theorem dX8_back_20 : decode cX8_back 20 = .ok (.iload_n 1, 1) := by decide +kernel
theorem dX8_back_21 : decode cX8_back 21 = .ok (.isub, 1) := by decide +kernel
theorem dX8_back_22 : decode cX8_back 22 = .ok (.putfield 130, 3) := by decide +kernel
theorem dX8_back_25 : decode cX8_back 25 = .ok (.aload_n 0, 1) := by decide +kernel
theorem dX8_back_26 : decode cX8_back 26 = .ok (.getfield 130, 3) := by decide +kernel
theorem dX8_back_29 : decode cX8_back 29 = .ok (.ireturn, 1) := by decide +kernel
theorem dX8_areSo_0 : decode cX8_areSo 0 = .ok (.aload_n 0, 1) := by decide +kernel
theorem dX8_areSo_1 : decode cX8_areSo 1 = .ok (.invokevirtual 178, 3) := by decide +kernel
theorem dX8_areSo_4 : decode cX8_areSo 4 = .ok (.iconst 0, 1) := by decide +kernel
theorem dX8_areSo_5 : decode cX8_areSo 5 = .ok (.istore_n 1, 1) := by decide +kernel
theorem dX8_areSo_6 : decode cX8_areSo 6 = .ok (.iload_n 1, 1) := by decide +kernel
theorem dX8_areSo_7 : decode cX8_areSo 7 = .ok (.aload_n 0, 1) := by decide +kernel
theorem dX8_areSo_8 : decode cX8_areSo 8 = .ok (.getfield 130, 3) := by decide +kernel
theorem dX8_areSo_11 : decode cX8_areSo 11 = .ok (.if_icmp .ge 41, 3) := by decide +kernel
theorem dX8_areSo_14 : decode cX8_areSo 14 = .ok (.aload_n 0, 1) := by decide +kernel
theorem dX8_areSo_15 : decode cX8_areSo 15 = .ok (.aload_n 0, 1) := by decide +kernel
theorem dX8_areSo_16 : decode cX8_areSo 16 = .ok (.getfield 57, 3) := by decide +kernel
theorem dX8_areSo_19 : decode cX8_areSo 19 = .ok (.iload_n 1, 1) := by decide +kernel
theorem dX8_areSo_20 : decode cX8_areSo 20 = .ok (.iaload, 1) := by decide +kernel
theorem dX8_areSo_21 : decode cX8_areSo 21 = .ok (.invokevirtual 174, 3) := by decide +kernel
theorem dX8_areSo_24 : decode cX8_areSo 24 = .ok (.aload_n 0, 1) := by decide +kernel
theorem dX8_areSo_25 : decode cX8_areSo 25 = .ok (.getfield 51, 3) := by decide +kernel
theorem dX8_areSo_28 : decode cX8_areSo 28 = .ok (.aload_n 0, 1) := by decide +kernel
theorem dX8_areSo_29 : decode cX8_areSo 29 = .ok (.getfield 54, 3) := by decide +kernel
theorem dX8_areSo_32 : decode cX8_areSo 32 = .ok (.iload_n 1, 1) := by decide +kernel
theorem dX8_areSo_33 : decode cX8_areSo 33 = .ok (.iaload, 1) := by decide +kernel
theorem dX8_areSo_34 : decode cX8_areSo 34 = .ok (.baload, 1) := by decide +kernel
theorem dX8_areSo_35 : decode cX8_areSo 35 = .ok (.aload_n 0, 1) := by decide +kernel
theorem dX8_areSo_36 : decode cX8_areSo 36 = .ok (.getfield 60, 3) := by decide +kernel
theorem dX8_areSo_39 : decode cX8_areSo 39 = .ok (.iload_n 1, 1) := by decide +kernel
theorem dX8_areSo_40 : decode cX8_areSo 40 = .ok (.baload, 1) := by decide +kernel
theorem dX8_areSo_41 : decode cX8_areSo 41 = .ok (.if_icmp .eq 5, 3) := by decide +kernel
theorem dX8_areSo_44 : decode cX8_areSo 44 = .ok (.iconst 0, 1) := by decide +kernel
theorem dX8_areSo_45 : decode cX8_areSo 45 = .ok (.ireturn, 1) := by decide +kernel
theorem dX8_areSo_46 : decode cX8_areSo 46 = .ok (.iinc 1 1, 3) := by decide +kernel
theorem dX8_areSo_49 : decode cX8_areSo 49 = .ok (.goto (-43), 3) := by decide +kernel
theorem dX8_areSo_52 : decode cX8_areSo 52 = .ok (.iconst 1, 1) := by decide +kernel
theorem dX8_areSo_53 : decode cX8_areSo 53 = .ok (.ireturn, 1) := by decide +kernel
theorem dX8_spans_0 : decode cX8_spans 0 = .ok (.aload_n 0, 1) := by decide +kernel
theorem dX8_spans_1 : decode cX8_spans 1 = .ok (.getfield 72, 3) := by decide +kernel
theorem dX8_spans_4 : decode cX8_spans 4 = .ok (.ifCond .ne 6, 3) := by decide +kernel
theorem dX8_spans_7 : decode cX8_spans 7 = .ok (.bipush (-3), 2) := by decide +kernel
theorem dX8_spans_9 : decode cX8_spans 9 = .ok (.ireturn, 1) := by decide +kernel
theorem dX8_spans_10 : decode cX8_spans 10 = .ok (.aload_n 0, 1) := by decide +kernel
theorem dX8_spans_11 : decode cX8_spans 11 = .ok (.getfield 121, 3) := by decide +kernel
theorem dX8_spans_14 : decode cX8_spans 14 = .ok (.istore_n 1, 1) := by decide +kernel
theorem dX8_spans_15 : decode cX8_spans 15 = .ok (.iconst 0, 1) := by decide +kernel
theorem dX8_spans_16 : decode cX8_spans 16 = .ok (.istore_n 2, 1) := by decide +kernel
theorem dX8_spans_17 : decode cX8_spans 17 = .ok (.iconst 0, 1) := by decide +kernel
theorem dX8_spans_18 : decode cX8_spans 18 = .ok (.istore_n 3, 1) := by decide +kernel
theorem dX8_spans_19 : decode cX8_spans 19 = .ok (.iload_n 3, 1) := by decide +kernel
theorem dX8_spans_20 : decode cX8_spans 20 = .ok (.bipush 9, 2) := by decide +kernel
theorem dX8_spans_22 : decode cX8_spans 22 = .ok (.if_icmp .gt 31, 3) := by decide +kernel
theorem dX8_spans_25 : decode cX8_spans 25 = .ok (.aload_n 0, 1) := by decide +kernel
theorem dX8_spans_26 : decode cX8_spans 26 = .ok (.iload_n 3, 1) := by decide +kernel
theorem dX8_spans_27 : decode cX8_spans 27 = .ok (.putfield 121, 3) := by decide +kernel
theorem dX8_spans_30 : decode cX8_spans 30 = .ok (.iload_n 2, 1) := by decide +kernel
theorem dX8_spans_31 : decode cX8_spans 31 = .ok (.aload_n 0, 1) := by decide +kernel
theorem dX8_spans_32 : decode cX8_spans 32 = .ok (.invokevirtual 203, 3) := by decide +kernel
theorem dX8_spans_35 : decode cX8_spans 35 = .ok (.ifCond .eq 9, 3) := by decide +kernel
theorem dX8_spans_38 : decode cX8_spans 38 = .ok (.iconst 1, 1) := by decide +kernel
theorem dX8_spans_39 : decode cX8_spans 39 = .ok (.iload_n 3, 1) := by decide +kernel
theorem dX8_spans_40 : decode cX8_spans 40 = .ok (.ishl, 1) := by decide +kernel
theorem dX8_spans_41 : decode cX8_spans 41 = .ok (.goto 4, 3) := by decide +kernel
theorem dX8_spans_44 : decode cX8_spans 44 = .ok (.iconst 0, 1) := by decide +kernel
theorem dX8_spans_45 : decode cX8_spans 45 = .ok (.ior, 1) := by decide +kernel
theorem dX8_spans_46 : decode cX8_spans 46 = .ok (.istore_n 2, 1) := by decide +kernel
theorem dX8_spans_47 : decode cX8_spans 47 = .ok (.iinc 3 1, 3) := by decide +kernel
theorem dX8_spans_50 : decode cX8_spans 50 = .ok (.goto (-31), 3) := by decide +kernel
theorem dX8_spans_53 : decode cX8_spans 53 = .ok (.aload_n 0, 1) := by decide +kernel
theorem dX8_spans_54 : decode cX8_spans 54 = .ok (.iload_n 1, 1) := by decide +kernel
theorem dX8_spans_55 : decode cX8_spans 55 = .ok (.putfield 121, 3) := by decide +kernel
theorem dX8_spans_58 : decode cX8_spans 58 = .ok (.iload_n 2, 1) := by decide +kernel
theorem dX8_spans_59 : decode cX8_spans 59 = .ok (.ireturn, 1) := by decide +kernel
theorem dX8_origins_0 : decode cX8_origins 0 = .ok (.aload_n 0, 1) := by decide +kernel
theorem dX8_origins_1 : decode cX8_origins 1 = .ok (.getfield 72, 3) := by decide +kernel
theorem dX8_origins_4 : decode cX8_origins 4 = .ok (.ifCond .ne 6, 3) := by decide +kernel
theorem dX8_origins_7 : decode cX8_origins 7 = .ok (.bipush (-3), 2) := by decide +kernel
theorem dX8_origins_9 : decode cX8_origins 9 = .ok (.ireturn, 1) := by decide +kernel
theorem dX8_origins_10 : decode cX8_origins 10 = .ok (.aload_n 0, 1) := by decide +kernel
theorem dX8_origins_11 : decode cX8_origins 11 = .ok (.getfield 103, 3) := by decide +kernel
theorem dX8_origins_14 : decode cX8_origins 14 = .ok (.istore_n 1, 1) := by decide +kernel
theorem dX8_origins_15 : decode cX8_origins 15 = .ok (.iconst 0, 1) := by decide +kernel
theorem dX8_origins_16 : decode cX8_origins 16 = .ok (.istore_n 2, 1) := by decide +kernel
theorem dX8_origins_17 : decode cX8_origins 17 = .ok (.iconst 0, 1) := by decide +kernel
theorem dX8_origins_18 : decode cX8_origins 18 = .ok (.istore_n 3, 1) := by decide +kernel
theorem dX8_origins_19 : decode cX8_origins 19 = .ok (.iload_n 3, 1) := by decide +kernel
theorem dX8_origins_20 : decode cX8_origins 20 = .ok (.bipush 30, 2) := by decide +kernel
theorem dX8_origins_22 : decode cX8_origins 22 = .ok (.if_icmp .ge 31, 3) := by decide +kernel
theorem dX8_origins_25 : decode cX8_origins 25 = .ok (.aload_n 0, 1) := by decide +kernel
theorem dX8_origins_26 : decode cX8_origins 26 = .ok (.iload_n 3, 1) := by decide +kernel
theorem dX8_origins_27 : decode cX8_origins 27 = .ok (.putfield 103, 3) := by decide +kernel
theorem dX8_origins_30 : decode cX8_origins 30 = .ok (.iload_n 2, 1) := by decide +kernel
theorem dX8_origins_31 : decode cX8_origins 31 = .ok (.aload_n 0, 1) := by decide +kernel
theorem dX8_origins_32 : decode cX8_origins 32 = .ok (.invokevirtual 203, 3) := by decide +kernel
theorem dX8_origins_35 : decode cX8_origins 35 = .ok (.ifCond .eq 9, 3) := by decide +kernel
theorem dX8_origins_38 : decode cX8_origins 38 = .ok (.iconst 1, 1) := by decide +kernel
theorem dX8_origins_39 : decode cX8_origins 39 = .ok (.iload_n 3, 1) := by decide +kernel
theorem dX8_origins_40 : decode cX8_origins 40 = .ok (.ishl, 1) := by decide +kernel
theorem dX8_origins_41 : decode cX8_origins 41 = .ok (.goto 4, 3) := by decide +kernel
theorem dX8_origins_44 : decode cX8_origins 44 = .ok (.iconst 0, 1) := by decide +kernel
theorem dX8_origins_45 : decode cX8_origins 45 = .ok (.ior, 1) := by decide +kernel
theorem dX8_origins_46 : decode cX8_origins 46 = .ok (.istore_n 2, 1) := by decide +kernel
theorem dX8_origins_47 : decode cX8_origins 47 = .ok (.iinc 3 1, 3) := by decide +kernel
theorem dX8_origins_50 : decode cX8_origins 50 = .ok (.goto (-31), 3) := by decide +kernel
theorem dX8_origins_53 : decode cX8_origins 53 = .ok (.aload_n 0, 1) := by decide +kernel
theorem dX8_origins_54 : decode cX8_origins 54 = .ok (.iload_n 1, 1) := by decide +kernel
theorem dX8_origins_55 : decode cX8_origins 55 = .ok (.putfield 103, 3) := by decide +kernel
theorem dX8_origins_58 : decode cX8_origins 58 = .ok (.iload_n 2, 1) := by decide +kernel
theorem dX8_origins_59 : decode cX8_origins 59 = .ok (.ireturn, 1) := by decide +kernel
theorem dX8_kinds_0 : decode cX8_kinds 0 = .ok (.aload_n 0, 1) := by decide +kernel
theorem dX8_kinds_1 : decode cX8_kinds 1 = .ok (.iload_n 1, 1) := by decide +kernel
theorem dX8_kinds_2 : decode cX8_kinds 2 = .ok (.invokevirtual 146, 3) := by decide +kernel
theorem dX8_kinds_5 : decode cX8_kinds 5 = .ok (.ifCond .ne 5, 3) := by decide +kernel
theorem dX8_kinds_8 : decode cX8_kinds 8 = .ok (.iconst (-1), 1) := by decide +kernel
theorem dX8_kinds_9 : decode cX8_kinds 9 = .ok (.ireturn, 1) := by decide +kernel
theorem dX8_kinds_10 : decode cX8_kinds 10 = .ok (.aload_n 0, 1) := by decide +kernel
theorem dX8_kinds_11 : decode cX8_kinds 11 = .ok (.getfield 19, 3) := by decide +kernel
theorem dX8_kinds_14 : decode cX8_kinds 14 = .ok (.iload_n 1, 1) := by decide +kernel
theorem dX8_kinds_15 : decode cX8_kinds 15 = .ok (.iaload, 1) := by decide +kernel
theorem dX8_kinds_16 : decode cX8_kinds 16 = .ok (.istore_n 2, 1) := by decide +kernel
theorem dX8_kinds_17 : decode cX8_kinds 17 = .ok (.iconst 0, 1) := by decide +kernel
theorem dX8_kinds_18 : decode cX8_kinds 18 = .ok (.istore_n 3, 1) := by decide +kernel
theorem dX8_kinds_19 : decode cX8_kinds 19 = .ok (.iconst 0, 1) := by decide +kernel
theorem dX8_kinds_20 : decode cX8_kinds 20 = .ok (.istore 4, 2) := by decide +kernel
theorem dX8_kinds_22 : decode cX8_kinds 22 = .ok (.iload 4, 2) := by decide +kernel
theorem dX8_kinds_24 : decode cX8_kinds 24 = .ok (.iconst 3, 1) := by decide +kernel
theorem dX8_kinds_25 : decode cX8_kinds 25 = .ok (.if_icmp .ge 35, 3) := by decide +kernel
theorem dX8_kinds_28 : decode cX8_kinds 28 = .ok (.aload_n 0, 1) := by decide +kernel
theorem dX8_kinds_29 : decode cX8_kinds 29 = .ok (.getfield 19, 3) := by decide +kernel
theorem dX8_kinds_32 : decode cX8_kinds 32 = .ok (.iload_n 1, 1) := by decide +kernel
theorem dX8_kinds_33 : decode cX8_kinds 33 = .ok (.iload 4, 2) := by decide +kernel
theorem dX8_kinds_35 : decode cX8_kinds 35 = .ok (.iastore, 1) := by decide +kernel
theorem dX8_kinds_36 : decode cX8_kinds 36 = .ok (.iload_n 3, 1) := by decide +kernel
theorem dX8_kinds_37 : decode cX8_kinds 37 = .ok (.aload_n 0, 1) := by decide +kernel
theorem dX8_kinds_38 : decode cX8_kinds 38 = .ok (.invokevirtual 203, 3) := by decide +kernel
theorem dX8_kinds_41 : decode cX8_kinds 41 = .ok (.ifCond .eq 10, 3) := by decide +kernel
theorem dX8_kinds_44 : decode cX8_kinds 44 = .ok (.iconst 1, 1) := by decide +kernel
theorem dX8_kinds_45 : decode cX8_kinds 45 = .ok (.iload 4, 2) := by decide +kernel
theorem dX8_kinds_47 : decode cX8_kinds 47 = .ok (.ishl, 1) := by decide +kernel
theorem dX8_kinds_48 : decode cX8_kinds 48 = .ok (.goto 4, 3) := by decide +kernel
theorem dX8_kinds_51 : decode cX8_kinds 51 = .ok (.iconst 0, 1) := by decide +kernel
theorem dX8_kinds_52 : decode cX8_kinds 52 = .ok (.ior, 1) := by decide +kernel
theorem dX8_kinds_53 : decode cX8_kinds 53 = .ok (.istore_n 3, 1) := by decide +kernel
theorem dX8_kinds_54 : decode cX8_kinds 54 = .ok (.iinc 4 1, 3) := by decide +kernel
theorem dX8_kinds_57 : decode cX8_kinds 57 = .ok (.goto (-35), 3) := by decide +kernel
theorem dX8_kinds_60 : decode cX8_kinds 60 = .ok (.aload_n 0, 1) := by decide +kernel
theorem dX8_kinds_61 : decode cX8_kinds 61 = .ok (.getfield 19, 3) := by decide +kernel
theorem dX8_kinds_64 : decode cX8_kinds 64 = .ok (.iload_n 1, 1) := by decide +kernel
theorem dX8_kinds_65 : decode cX8_kinds 65 = .ok (.iload_n 2, 1) := by decide +kernel
theorem dX8_kinds_66 : decode cX8_kinds 66 = .ok (.iastore, 1) := by decide +kernel
theorem dX8_kinds_67 : decode cX8_kinds 67 = .ok (.iload_n 3, 1) := by decide +kernel
theorem dX8_kinds_68 : decode cX8_kinds 68 = .ok (.ireturn, 1) := by decide +kernel
theorem dX8_moved_0 : decode cX8_moved 0 = .ok (.aload_n 0, 1) := by decide +kernel
theorem dX8_moved_1 : decode cX8_moved 1 = .ok (.iload_n 1, 1) := by decide +kernel
theorem dX8_moved_2 : decode cX8_moved 2 = .ok (.invokevirtual 146, 3) := by decide +kernel
theorem dX8_moved_5 : decode cX8_moved 5 = .ok (.ifCond .ne 5, 3) := by decide +kernel
theorem dX8_moved_8 : decode cX8_moved 8 = .ok (.iconst (-1), 1) := by decide +kernel
theorem dX8_moved_9 : decode cX8_moved 9 = .ok (.ireturn, 1) := by decide +kernel
theorem dX8_moved_10 : decode cX8_moved 10 = .ok (.iload_n 2, 1) := by decide +kernel
theorem dX8_moved_11 : decode cX8_moved 11 = .ok (.iconst 0, 1) := by decide +kernel
theorem dX8_moved_12 : decode cX8_moved 12 = .ok (.iconst 1, 1) := by decide +kernel
theorem dX8_moved_13 : decode cX8_moved 13 = .ok (.invokestatic 68, 3) := by decide +kernel
theorem dX8_moved_16 : decode cX8_moved 16 = .ok (.ifCond .ne 6, 3) := by decide +kernel
theorem dX8_moved_19 : decode cX8_moved 19 = .ok (.bipush (-2), 2) := by decide +kernel
theorem dX8_moved_21 : decode cX8_moved 21 = .ok (.ireturn, 1) := by decide +kernel
theorem dX8_moved_22 : decode cX8_moved 22 = .ok (.aload_n 0, 1) := by decide +kernel
theorem dX8_moved_23 : decode cX8_moved 23 = .ok (.getfield 22, 3) := by decide +kernel
theorem dX8_moved_26 : decode cX8_moved 26 = .ok (.iload_n 1, 1) := by decide +kernel
theorem dX8_moved_27 : decode cX8_moved 27 = .ok (.iaload, 1) := by decide +kernel
theorem dX8_moved_28 : decode cX8_moved 28 = .ok (.istore_n 3, 1) := by decide +kernel
theorem dX8_moved_29 : decode cX8_moved 29 = .ok (.iconst 0, 1) := by decide +kernel
theorem dX8_moved_30 : decode cX8_moved 30 = .ok (.istore 4, 2) := by decide +kernel
theorem dX8_moved_32 : decode cX8_moved 32 = .ok (.bipush (-9), 2) := by decide +kernel
theorem dX8_moved_34 : decode cX8_moved 34 = .ok (.istore 5, 2) := by decide +kernel
theorem dX8_moved_36 : decode cX8_moved 36 = .ok (.iconst 0, 1) := by decide +kernel
theorem dX8_moved_37 : decode cX8_moved 37 = .ok (.istore 6, 2) := by decide +kernel
theorem dX8_moved_39 : decode cX8_moved 39 = .ok (.iload 6, 2) := by decide +kernel
theorem dX8_moved_41 : decode cX8_moved 41 = .ok (.bipush 100, 2) := by decide +kernel
theorem dX8_moved_43 : decode cX8_moved 43 = .ok (.if_icmp .ge 41, 3) := by decide +kernel
theorem dX8_moved_46 : decode cX8_moved 46 = .ok (.aload_n 0, 1) := by decide +kernel
theorem dX8_moved_47 : decode cX8_moved 47 = .ok (.getfield 22, 3) := by decide +kernel
theorem dX8_moved_50 : decode cX8_moved 50 = .ok (.iload_n 1, 1) := by decide +kernel
theorem dX8_moved_51 : decode cX8_moved 51 = .ok (.iload 6, 2) := by decide +kernel
theorem dX8_moved_53 : decode cX8_moved 53 = .ok (.iastore, 1) := by decide +kernel
theorem dX8_moved_54 : decode cX8_moved 54 = .ok (.aload_n 0, 1) := by decide +kernel
theorem dX8_moved_55 : decode cX8_moved 55 = .ok (.invokevirtual 203, 3) := by decide +kernel
theorem dX8_moved_58 : decode cX8_moved 58 = .ok (.ifCond .eq 20, 3) := by decide +kernel
theorem dX8_moved_61 : decode cX8_moved 61 = .ok (.iload 4, 2) := by decide +kernel
theorem dX8_moved_63 : decode cX8_moved 63 = .ok (.ifCond .ne 8, 3) := by decide +kernel
theorem dX8_moved_66 : decode cX8_moved 66 = .ok (.iload 6, 2) := by decide +kernel
theorem dX8_moved_68 : decode cX8_moved 68 = .ok (.goto 5, 3) := by decide +kernel
theorem dX8_moved_71 : decode cX8_moved 71 = .ok (.iload 5, 2) := by decide +kernel
theorem dX8_moved_73 : decode cX8_moved 73 = .ok (.istore 5, 2) := by decide +kernel
theorem dX8_moved_75 : decode cX8_moved 75 = .ok (.iinc 4 1, 3) := by decide +kernel
theorem dX8_moved_78 : decode cX8_moved 78 = .ok (.iinc 6 1, 3) := by decide +kernel
theorem dX8_moved_81 : decode cX8_moved 81 = .ok (.goto (-42), 3) := by decide +kernel
theorem dX8_moved_84 : decode cX8_moved 84 = .ok (.aload_n 0, 1) := by decide +kernel
theorem dX8_moved_85 : decode cX8_moved 85 = .ok (.getfield 22, 3) := by decide +kernel
theorem dX8_moved_88 : decode cX8_moved 88 = .ok (.iload_n 1, 1) := by decide +kernel
theorem dX8_moved_89 : decode cX8_moved 89 = .ok (.iload_n 3, 1) := by decide +kernel
theorem dX8_moved_90 : decode cX8_moved 90 = .ok (.iastore, 1) := by decide +kernel
theorem dX8_moved_91 : decode cX8_moved 91 = .ok (.iload_n 2, 1) := by decide +kernel
theorem dX8_moved_92 : decode cX8_moved 92 = .ok (.ifCond .ne 8, 3) := by decide +kernel
theorem dX8_moved_95 : decode cX8_moved 95 = .ok (.iload 4, 2) := by decide +kernel
theorem dX8_moved_97 : decode cX8_moved 97 = .ok (.goto 5, 3) := by decide +kernel
theorem dX8_moved_100 : decode cX8_moved 100 = .ok (.iload 5, 2) := by decide +kernel
theorem dX8_moved_102 : decode cX8_moved 102 = .ok (.ireturn, 1) := by decide +kernel
theorem dX8_inLeastTerms_0 : decode cX8_inLeastTerms 0 = .ok (.lload_n 0, 1) := by decide +kernel
theorem dX8_inLeastTerms_1 : decode cX8_inLeastTerms 1 = .ok (.lstore 5, 2) := by decide +kernel
theorem dX8_inLeastTerms_3 : decode cX8_inLeastTerms 3 = .ok (.lload_n 2, 1) := by decide +kernel
theorem dX8_inLeastTerms_4 : decode cX8_inLeastTerms 4 = .ok (.lstore 7, 2) := by decide +kernel
theorem dX8_inLeastTerms_6 : decode cX8_inLeastTerms 6 = .ok (.lload 7, 2) := by decide +kernel
theorem dX8_inLeastTerms_8 : decode cX8_inLeastTerms 8 = .ok (.lconst 0, 1) := by decide +kernel
theorem dX8_inLeastTerms_9 : decode cX8_inLeastTerms 9 = .ok (.lcmp, 1) := by decide +kernel
theorem dX8_inLeastTerms_10 : decode cX8_inLeastTerms 10 = .ok (.ifCond .eq 21, 3) := by decide +kernel
theorem dX8_inLeastTerms_13 : decode cX8_inLeastTerms 13 = .ok (.lload 5, 2) := by decide +kernel
theorem dX8_inLeastTerms_15 : decode cX8_inLeastTerms 15 = .ok (.lload 7, 2) := by decide +kernel
theorem dX8_inLeastTerms_17 : decode cX8_inLeastTerms 17 = .ok (.lrem, 1) := by decide +kernel
theorem dX8_inLeastTerms_18 : decode cX8_inLeastTerms 18 = .ok (.lstore 9, 2) := by decide +kernel
theorem dX8_inLeastTerms_20 : decode cX8_inLeastTerms 20 = .ok (.lload 7, 2) := by decide +kernel
theorem dX8_inLeastTerms_22 : decode cX8_inLeastTerms 22 = .ok (.lstore 5, 2) := by decide +kernel
theorem dX8_inLeastTerms_24 : decode cX8_inLeastTerms 24 = .ok (.lload 9, 2) := by decide +kernel
theorem dX8_inLeastTerms_26 : decode cX8_inLeastTerms 26 = .ok (.lstore 7, 2) := by decide +kernel
theorem dX8_inLeastTerms_28 : decode cX8_inLeastTerms 28 = .ok (.goto (-22), 3) := by decide +kernel
theorem dX8_inLeastTerms_31 : decode cX8_inLeastTerms 31 = .ok (.iload 4, 2) := by decide +kernel
theorem dX8_inLeastTerms_33 : decode cX8_inLeastTerms 33 = .ok (.ifCond .ne 10, 3) := by decide +kernel
theorem dX8_inLeastTerms_36 : decode cX8_inLeastTerms 36 = .ok (.lload_n 0, 1) := by decide +kernel
theorem dX8_inLeastTerms_37 : decode cX8_inLeastTerms 37 = .ok (.lload 5, 2) := by decide +kernel
theorem dX8_inLeastTerms_39 : decode cX8_inLeastTerms 39 = .ok (.ldiv, 1) := by decide +kernel
theorem dX8_inLeastTerms_40 : decode cX8_inLeastTerms 40 = .ok (.goto 7, 3) := by decide +kernel
theorem dX8_inLeastTerms_43 : decode cX8_inLeastTerms 43 = .ok (.lload_n 2, 1) := by decide +kernel
theorem dX8_inLeastTerms_44 : decode cX8_inLeastTerms 44 = .ok (.lload 5, 2) := by decide +kernel
theorem dX8_inLeastTerms_46 : decode cX8_inLeastTerms 46 = .ok (.ldiv, 1) := by decide +kernel
theorem dX8_inLeastTerms_47 : decode cX8_inLeastTerms 47 = .ok (.lreturn, 1) := by decide +kernel
theorem dX8_odds_0 : decode cX8_odds 0 = .ok (.aload_n 0, 1) := by decide +kernel
theorem dX8_odds_1 : decode cX8_odds 1 = .ok (.iload_n 1, 1) := by decide +kernel
theorem dX8_odds_2 : decode cX8_odds 2 = .ok (.invokevirtual 146, 3) := by decide +kernel
theorem dX8_odds_5 : decode cX8_odds 5 = .ok (.ifCond .eq 19, 3) := by decide +kernel
theorem dX8_odds_8 : decode cX8_odds 8 = .ok (.iload_n 2, 1) := by decide +kernel
theorem dX8_odds_9 : decode cX8_odds 9 = .ok (.invokestatic 152, 3) := by decide +kernel
theorem dX8_odds_12 : decode cX8_odds 12 = .ok (.ifCond .eq 12, 3) := by decide +kernel
theorem dX8_odds_15 : decode cX8_odds 15 = .ok (.iload_n 3, 1) := by decide +kernel
theorem dX8_odds_16 : decode cX8_odds 16 = .ok (.iconst 0, 1) := by decide +kernel
theorem dX8_odds_17 : decode cX8_odds 17 = .ok (.iconst 1, 1) := by decide +kernel
theorem dX8_odds_18 : decode cX8_odds 18 = .ok (.invokestatic 68, 3) := by decide +kernel
theorem dX8_odds_21 : decode cX8_odds 21 = .ok (.ifCond .ne 7, 3) := by decide +kernel
theorem dX8_odds_24 : decode cX8_odds 24 = .ok (.ldc2_w 66, 3) := by decide +kernel
theorem dX8_odds_27 : decode cX8_odds 27 = .ok (.lreturn, 1) := by decide +kernel
theorem dX8_odds_28 : decode cX8_odds 28 = .ok (.iconst 1, 1) := by decide +kernel
theorem dX8_odds_29 : decode cX8_odds 29 = .ok (.aload_n 0, 1) := by decide +kernel
theorem dX8_odds_30 : decode cX8_odds 30 = .ok (.invokevirtual 194, 3) := by decide +kernel
theorem dX8_odds_33 : decode cX8_odds 33 = .ok (.ishl, 1) := by decide +kernel
theorem dX8_odds_34 : decode cX8_odds 34 = .ok (.istore 4, 2) := by decide +kernel
theorem dX8_odds_36 : decode cX8_odds 36 = .ok (.iconst 0, 1) := by decide +kernel
theorem dX8_odds_37 : decode cX8_odds 37 = .ok (.istore 5, 2) := by decide +kernel
theorem dX8_odds_39 : decode cX8_odds 39 = .ok (.aload_n 0, 1) := by decide +kernel
theorem dX8_odds_40 : decode cX8_odds 40 = .ok (.iconst 1, 1) := by decide +kernel
theorem dX8_odds_41 : decode cX8_odds 41 = .ok (.putfield 158, 3) := by decide +kernel
theorem dX8_odds_44 : decode cX8_odds 44 = .ok (.iconst 0, 1) := by decide +kernel
theorem dX8_odds_45 : decode cX8_odds 45 = .ok (.istore 6, 2) := by decide +kernel
theorem dX8_odds_47 : decode cX8_odds 47 = .ok (.iload 6, 2) := by decide +kernel
theorem dX8_odds_49 : decode cX8_odds 49 = .ok (.iload 4, 2) := by decide +kernel
theorem dX8_odds_51 : decode cX8_odds 51 = .ok (.if_icmp .ge 29, 3) := by decide +kernel
theorem dX8_odds_54 : decode cX8_odds 54 = .ok (.aload_n 0, 1) := by decide +kernel
theorem dX8_odds_55 : decode cX8_odds 55 = .ok (.iload 6, 2) := by decide +kernel
theorem dX8_odds_57 : decode cX8_odds 57 = .ok (.putfield 155, 3) := by decide +kernel
theorem dX8_odds_60 : decode cX8_odds 60 = .ok (.iload 5, 2) := by decide +kernel
theorem dX8_odds_62 : decode cX8_odds 62 = .ok (.aload_n 0, 1) := by decide +kernel
theorem dX8_odds_63 : decode cX8_odds 63 = .ok (.iload_n 2, 1) := by decide +kernel
theorem dX8_odds_64 : decode cX8_odds 64 = .ok (.invokevirtual 184, 3) := by decide +kernel
theorem dX8_odds_67 : decode cX8_odds 67 = .ok (.iload_n 1, 1) := by decide +kernel
theorem dX8_odds_68 : decode cX8_odds 68 = .ok (.ishr, 1) := by decide +kernel
theorem dX8_odds_69 : decode cX8_odds 69 = .ok (.iconst 1, 1) := by decide +kernel
theorem dX8_odds_70 : decode cX8_odds 70 = .ok (.iand, 1) := by decide +kernel
theorem dX8_odds_71 : decode cX8_odds 71 = .ok (.iadd, 1) := by decide +kernel
theorem dX8_odds_72 : decode cX8_odds 72 = .ok (.istore 5, 2) := by decide +kernel
theorem dX8_odds_74 : decode cX8_odds 74 = .ok (.iinc 6 1, 3) := by decide +kernel
theorem dX8_odds_77 : decode cX8_odds 77 = .ok (.goto (-30), 3) := by decide +kernel
theorem dX8_odds_80 : decode cX8_odds 80 = .ok (.aload_n 0, 1) := by decide +kernel
theorem dX8_odds_81 : decode cX8_odds 81 = .ok (.iconst 0, 1) := by decide +kernel
theorem dX8_odds_82 : decode cX8_odds 82 = .ok (.putfield 158, 3) := by decide +kernel
theorem dX8_odds_85 : decode cX8_odds 85 = .ok (.aload_n 0, 1) := by decide +kernel
theorem dX8_odds_86 : decode cX8_odds 86 = .ok (.iconst 0, 1) := by decide +kernel
theorem dX8_odds_87 : decode cX8_odds 87 = .ok (.putfield 155, 3) := by decide +kernel
theorem dX8_odds_90 : decode cX8_odds 90 = .ok (.iload 5, 2) := by decide +kernel
theorem dX8_odds_92 : decode cX8_odds 92 = .ok (.i2l, 1) := by decide +kernel
theorem dX8_odds_93 : decode cX8_odds 93 = .ok (.iload 4, 2) := by decide +kernel
theorem dX8_odds_95 : decode cX8_odds 95 = .ok (.i2l, 1) := by decide +kernel
theorem dX8_odds_96 : decode cX8_odds 96 = .ok (.iload_n 3, 1) := by decide +kernel
theorem dX8_odds_97 : decode cX8_odds 97 = .ok (.invokestatic 207, 3) := by decide +kernel
theorem dX8_odds_100 : decode cX8_odds 100 = .ok (.lreturn, 1) := by decide +kernel
theorem dX8_sheet_0 : decode cX8_sheet 0 = .ok (.aload_n 0, 1) := by decide +kernel
theorem dX8_sheet_1 : decode cX8_sheet 1 = .ok (.iconst 0, 1) := by decide +kernel
theorem dX8_sheet_2 : decode cX8_sheet 2 = .ok (.putfield 63, 3) := by decide +kernel
theorem dX8_sheet_5 : decode cX8_sheet 5 = .ok (.iload_n 1, 1) := by decide +kernel
theorem dX8_sheet_6 : decode cX8_sheet 6 = .ok (.invokestatic 82, 3) := by decide +kernel
theorem dX8_sheet_9 : decode cX8_sheet 9 = .ok (.ifCond .ne 5, 3) := by decide +kernel
theorem dX8_sheet_12 : decode cX8_sheet 12 = .ok (.iconst (-1), 1) := by decide +kernel
theorem dX8_sheet_13 : decode cX8_sheet 13 = .ok (.ireturn, 1) := by decide +kernel
theorem dX8_sheet_14 : decode cX8_sheet 14 = .ok (.iload_n 2, 1) := by decide +kernel
theorem dX8_sheet_15 : decode cX8_sheet 15 = .ok (.invokestatic 86, 3) := by decide +kernel
theorem dX8_sheet_18 : decode cX8_sheet 18 = .ok (.ifCond .eq 9, 3) := by decide +kernel
theorem dX8_sheet_21 : decode cX8_sheet 21 = .ok (.iload_n 3, 1) := by decide +kernel
theorem dX8_sheet_22 : decode cX8_sheet 22 = .ok (.bipush 60, 2) := by decide +kernel
theorem dX8_sheet_24 : decode cX8_sheet 24 = .ok (.if_icmp .le 6, 3) := by decide +kernel
theorem dX8_sheet_27 : decode cX8_sheet 27 = .ok (.bipush (-2), 2) := by decide +kernel
theorem dX8_sheet_29 : decode cX8_sheet 29 = .ok (.ireturn, 1) := by decide +kernel
theorem dX8_sheet_30 : decode cX8_sheet 30 = .ok (.iload_n 3, 1) := by decide +kernel
theorem dX8_sheet_31 : decode cX8_sheet 31 = .ok (.ifCond .ge 9, 3) := by decide +kernel
theorem dX8_sheet_34 : decode cX8_sheet 34 = .ok (.aload_n 0, 1) := by decide +kernel
end
section
theorem dX8_sheet_35 : decode cX8_sheet 35 = .ok (.iconst 4, 1) := by decide +kernel
theorem dX8_sheet_36 : decode cX8_sheet 36 = .ok (.invokevirtual 93, 3) := by decide +kernel
theorem dX8_sheet_39 : decode cX8_sheet 39 = .ok (.ireturn, 1) := by decide +kernel
theorem dX8_sheet_40 : decode cX8_sheet 40 = .ok (.aload_n 0, 1) := by decide +kernel
theorem dX8_sheet_41 : decode cX8_sheet 41 = .ok (.getfield 9, 3) := by decide +kernel
theorem dX8_sheet_44 : decode cX8_sheet 44 = .ok (.iload_n 1, 1) := by decide +kernel
theorem dX8_sheet_45 : decode cX8_sheet 45 = .ok (.iload_n 2, 1) := by decide +kernel
theorem dX8_sheet_46 : decode cX8_sheet 46 = .ok (.iastore, 1) := by decide +kernel
theorem dX8_sheet_47 : decode cX8_sheet 47 = .ok (.aload_n 0, 1) := by decide +kernel
theorem dX8_sheet_48 : decode cX8_sheet 48 = .ok (.getfield 13, 3) := by decide +kernel
theorem dX8_sheet_51 : decode cX8_sheet 51 = .ok (.iload_n 1, 1) := by decide +kernel
theorem dX8_sheet_52 : decode cX8_sheet 52 = .ok (.iload_n 3, 1) := by decide +kernel
theorem dX8_sheet_53 : decode cX8_sheet 53 = .ok (.iastore, 1) := by decide +kernel
theorem dX8_sheet_54 : decode cX8_sheet 54 = .ok (.iconst 0, 1) := by decide +kernel
theorem dX8_sheet_55 : decode cX8_sheet 55 = .ok (.istore 4, 2) := by decide +kernel
theorem dX8_sheet_57 : decode cX8_sheet 57 = .ok (.iload 4, 2) := by decide +kernel
theorem dX8_sheet_59 : decode cX8_sheet 59 = .ok (.bipush 60, 2) := by decide +kernel
theorem dX8_sheet_61 : decode cX8_sheet 61 = .ok (.if_icmp .ge 22, 3) := by decide +kernel
theorem dX8_sheet_64 : decode cX8_sheet 64 = .ok (.aload_n 0, 1) := by decide +kernel
theorem dX8_sheet_65 : decode cX8_sheet 65 = .ok (.getfield 16, 3) := by decide +kernel
theorem dX8_sheet_68 : decode cX8_sheet 68 = .ok (.bipush 60, 2) := by decide +kernel
theorem dX8_sheet_70 : decode cX8_sheet 70 = .ok (.iload_n 1, 1) := by decide +kernel
theorem dX8_sheet_71 : decode cX8_sheet 71 = .ok (.imul, 1) := by decide +kernel
theorem dX8_sheet_72 : decode cX8_sheet 72 = .ok (.iload 4, 2) := by decide +kernel
theorem dX8_sheet_74 : decode cX8_sheet 74 = .ok (.iadd, 1) := by decide +kernel
theorem dX8_sheet_75 : decode cX8_sheet 75 = .ok (.iconst 0, 1) := by decide +kernel
theorem dX8_sheet_76 : decode cX8_sheet 76 = .ok (.iastore, 1) := by decide +kernel
theorem dX8_sheet_77 : decode cX8_sheet 77 = .ok (.iinc 4 1, 3) := by decide +kernel
theorem dX8_sheet_80 : decode cX8_sheet 80 = .ok (.goto (-23), 3) := by decide +kernel
theorem dX8_sheet_83 : decode cX8_sheet 83 = .ok (.iconst 1, 1) := by decide +kernel
theorem dX8_sheet_84 : decode cX8_sheet 84 = .ok (.ireturn, 1) := by decide +kernel
theorem dX8_lose_0 : decode cX8_lose 0 = .ok (.iload_n 1, 1) := by decide +kernel
theorem dX8_lose_1 : decode cX8_lose 1 = .ok (.invokestatic 82, 3) := by decide +kernel
theorem dX8_lose_4 : decode cX8_lose 4 = .ok (.ifCond .ne 5, 3) := by decide +kernel
theorem dX8_lose_7 : decode cX8_lose 7 = .ok (.iconst (-1), 1) := by decide +kernel
theorem dX8_lose_8 : decode cX8_lose 8 = .ok (.ireturn, 1) := by decide +kernel
theorem dX8_lose_9 : decode cX8_lose 9 = .ok (.aload_n 0, 1) := by decide +kernel
theorem dX8_lose_10 : decode cX8_lose 10 = .ok (.getfield 9, 3) := by decide +kernel
theorem dX8_lose_13 : decode cX8_lose 13 = .ok (.iload_n 1, 1) := by decide +kernel
theorem dX8_lose_14 : decode cX8_lose 14 = .ok (.iaload, 1) := by decide +kernel
theorem dX8_lose_15 : decode cX8_lose 15 = .ok (.bipush (-9), 2) := by decide +kernel
theorem dX8_lose_17 : decode cX8_lose 17 = .ok (.if_icmp .ne 7, 3) := by decide +kernel
theorem dX8_lose_20 : decode cX8_lose 20 = .ok (.iconst 0, 1) := by decide +kernel
theorem dX8_lose_21 : decode cX8_lose 21 = .ok (.goto 4, 3) := by decide +kernel
theorem dX8_lose_24 : decode cX8_lose 24 = .ok (.iconst 1, 1) := by decide +kernel
theorem dX8_lose_25 : decode cX8_lose 25 = .ok (.istore_n 2, 1) := by decide +kernel
theorem dX8_lose_26 : decode cX8_lose 26 = .ok (.aload_n 0, 1) := by decide +kernel
theorem dX8_lose_27 : decode cX8_lose 27 = .ok (.getfield 9, 3) := by decide +kernel
theorem dX8_lose_30 : decode cX8_lose 30 = .ok (.iload_n 1, 1) := by decide +kernel
theorem dX8_lose_31 : decode cX8_lose 31 = .ok (.bipush (-9), 2) := by decide +kernel
theorem dX8_lose_33 : decode cX8_lose 33 = .ok (.iastore, 1) := by decide +kernel
theorem dX8_lose_34 : decode cX8_lose 34 = .ok (.iload_n 2, 1) := by decide +kernel
theorem dX8_lose_35 : decode cX8_lose 35 = .ok (.ireturn, 1) := by decide +kernel
theorem dX8_put_0 : decode cX8_put 0 = .ok (.aload_n 0, 1) := by decide +kernel
theorem dX8_put_1 : decode cX8_put 1 = .ok (.iconst 0, 1) := by decide +kernel
theorem dX8_put_2 : decode cX8_put 2 = .ok (.putfield 63, 3) := by decide +kernel
theorem dX8_put_5 : decode cX8_put 5 = .ok (.iload_n 1, 1) := by decide +kernel
theorem dX8_put_6 : decode cX8_put 6 = .ok (.invokestatic 82, 3) := by decide +kernel
theorem dX8_put_9 : decode cX8_put 9 = .ok (.ifCond .ne 5, 3) := by decide +kernel
theorem dX8_put_12 : decode cX8_put 12 = .ok (.iconst (-1), 1) := by decide +kernel
theorem dX8_put_13 : decode cX8_put 13 = .ok (.ireturn, 1) := by decide +kernel
theorem dX8_put_14 : decode cX8_put 14 = .ok (.aload_n 0, 1) := by decide +kernel
theorem dX8_put_15 : decode cX8_put 15 = .ok (.getfield 9, 3) := by decide +kernel
theorem dX8_put_18 : decode cX8_put 18 = .ok (.iload_n 1, 1) := by decide +kernel
theorem dX8_put_19 : decode cX8_put 19 = .ok (.iaload, 1) := by decide +kernel
theorem dX8_put_20 : decode cX8_put 20 = .ok (.bipush (-9), 2) := by decide +kernel
theorem dX8_put_22 : decode cX8_put 22 = .ok (.if_icmp .ne 9, 3) := by decide +kernel
theorem dX8_put_25 : decode cX8_put 25 = .ok (.aload_n 0, 1) := by decide +kernel
theorem dX8_put_26 : decode cX8_put 26 = .ok (.iconst 1, 1) := by decide +kernel
theorem dX8_put_27 : decode cX8_put 27 = .ok (.invokevirtual 93, 3) := by decide +kernel
theorem dX8_put_30 : decode cX8_put 30 = .ok (.ireturn, 1) := by decide +kernel
theorem dX8_put_31 : decode cX8_put 31 = .ok (.iload_n 2, 1) := by decide +kernel
theorem dX8_put_32 : decode cX8_put 32 = .ok (.iconst 0, 1) := by decide +kernel
theorem dX8_put_33 : decode cX8_put 33 = .ok (.aload_n 0, 1) := by decide +kernel
theorem dX8_put_34 : decode cX8_put 34 = .ok (.getfield 13, 3) := by decide +kernel
theorem dX8_put_37 : decode cX8_put 37 = .ok (.iload_n 1, 1) := by decide +kernel
theorem dX8_put_38 : decode cX8_put 38 = .ok (.iaload, 1) := by decide +kernel
theorem dX8_put_39 : decode cX8_put 39 = .ok (.iconst 1, 1) := by decide +kernel
theorem dX8_put_40 : decode cX8_put 40 = .ok (.isub, 1) := by decide +kernel
theorem dX8_put_41 : decode cX8_put 41 = .ok (.invokestatic 68, 3) := by decide +kernel
theorem dX8_put_44 : decode cX8_put 44 = .ok (.ifCond .ne 9, 3) := by decide +kernel
theorem dX8_put_47 : decode cX8_put 47 = .ok (.aload_n 0, 1) := by decide +kernel
theorem dX8_put_48 : decode cX8_put 48 = .ok (.iconst 3, 1) := by decide +kernel
theorem dX8_put_49 : decode cX8_put 49 = .ok (.invokevirtual 93, 3) := by decide +kernel
theorem dX8_put_52 : decode cX8_put 52 = .ok (.ireturn, 1) := by decide +kernel
theorem dX8_put_53 : decode cX8_put 53 = .ok (.aload_n 0, 1) := by decide +kernel
theorem dX8_put_54 : decode cX8_put 54 = .ok (.getfield 16, 3) := by decide +kernel
theorem dX8_put_57 : decode cX8_put 57 = .ok (.bipush 60, 2) := by decide +kernel
theorem dX8_put_59 : decode cX8_put 59 = .ok (.iload_n 1, 1) := by decide +kernel
theorem dX8_put_60 : decode cX8_put 60 = .ok (.imul, 1) := by decide +kernel
theorem dX8_put_61 : decode cX8_put 61 = .ok (.iload_n 2, 1) := by decide +kernel
theorem dX8_put_62 : decode cX8_put 62 = .ok (.iadd, 1) := by decide +kernel
theorem dX8_put_63 : decode cX8_put 63 = .ok (.aload_n 0, 1) := by decide +kernel
theorem dX8_put_64 : decode cX8_put 64 = .ok (.getfield 9, 3) := by decide +kernel
theorem dX8_put_67 : decode cX8_put 67 = .ok (.iload_n 1, 1) := by decide +kernel
theorem dX8_put_68 : decode cX8_put 68 = .ok (.iaload, 1) := by decide +kernel
theorem dX8_put_69 : decode cX8_put 69 = .ok (.ifCond .ne 8, 3) := by decide +kernel
theorem dX8_put_72 : decode cX8_put 72 = .ok (.iload_n 3, 1) := by decide +kernel
theorem dX8_put_73 : decode cX8_put 73 = .ok (.i2b, 1) := by decide +kernel
theorem dX8_put_74 : decode cX8_put 74 = .ok (.goto 19, 3) := by decide +kernel
theorem dX8_put_77 : decode cX8_put 77 = .ok (.aload_n 0, 1) := by decide +kernel
theorem dX8_put_78 : decode cX8_put 78 = .ok (.getfield 9, 3) := by decide +kernel
theorem dX8_put_81 : decode cX8_put 81 = .ok (.iload_n 1, 1) := by decide +kernel
theorem dX8_put_82 : decode cX8_put 82 = .ok (.iaload, 1) := by decide +kernel
theorem dX8_put_83 : decode cX8_put 83 = .ok (.iconst 1, 1) := by decide +kernel
theorem dX8_put_84 : decode cX8_put 84 = .ok (.if_icmp .ne 8, 3) := by decide +kernel
theorem dX8_put_87 : decode cX8_put 87 = .ok (.iload_n 3, 1) := by decide +kernel
theorem dX8_put_88 : decode cX8_put 88 = .ok (.i2s, 1) := by decide +kernel
theorem dX8_put_89 : decode cX8_put 89 = .ok (.goto 4, 3) := by decide +kernel
theorem dX8_put_92 : decode cX8_put 92 = .ok (.iload_n 3, 1) := by decide +kernel
theorem dX8_put_93 : decode cX8_put 93 = .ok (.iastore, 1) := by decide +kernel
theorem dX8_put_94 : decode cX8_put 94 = .ok (.iconst 1, 1) := by decide +kernel
theorem dX8_put_95 : decode cX8_put 95 = .ok (.ireturn, 1) := by decide +kernel
theorem dX8_cell_0 : decode cX8_cell 0 = .ok (.aload_n 0, 1) := by decide +kernel
theorem dX8_cell_1 : decode cX8_cell 1 = .ok (.iconst 0, 1) := by decide +kernel
theorem dX8_cell_2 : decode cX8_cell 2 = .ok (.putfield 63, 3) := by decide +kernel
theorem dX8_cell_5 : decode cX8_cell 5 = .ok (.iload_n 1, 1) := by decide +kernel
theorem dX8_cell_6 : decode cX8_cell 6 = .ok (.invokestatic 82, 3) := by decide +kernel
theorem dX8_cell_9 : decode cX8_cell 9 = .ok (.ifCond .eq 10, 3) := by decide +kernel
theorem dX8_cell_12 : decode cX8_cell 12 = .ok (.iload_n 3, 1) := by decide +kernel
theorem dX8_cell_13 : decode cX8_cell 13 = .ok (.invokestatic 86, 3) := by decide +kernel
theorem dX8_cell_16 : decode cX8_cell 16 = .ok (.ifCond .ne 7, 3) := by decide +kernel
theorem dX8_cell_19 : decode cX8_cell 19 = .ok (.ldc2_w 66, 3) := by decide +kernel
theorem dX8_cell_22 : decode cX8_cell 22 = .ok (.lreturn, 1) := by decide +kernel
theorem dX8_cell_23 : decode cX8_cell 23 = .ok (.aload_n 0, 1) := by decide +kernel
theorem dX8_cell_24 : decode cX8_cell 24 = .ok (.getfield 9, 3) := by decide +kernel
theorem dX8_cell_27 : decode cX8_cell 27 = .ok (.iload_n 1, 1) := by decide +kernel
theorem dX8_cell_28 : decode cX8_cell 28 = .ok (.iaload, 1) := by decide +kernel
theorem dX8_cell_29 : decode cX8_cell 29 = .ok (.bipush (-9), 2) := by decide +kernel
theorem dX8_cell_31 : decode cX8_cell 31 = .ok (.if_icmp .eq 19, 3) := by decide +kernel
theorem dX8_cell_34 : decode cX8_cell 34 = .ok (.aload_n 0, 1) := by decide +kernel
theorem dX8_cell_35 : decode cX8_cell 35 = .ok (.getfield 9, 3) := by decide +kernel
theorem dX8_cell_38 : decode cX8_cell 38 = .ok (.iload_n 1, 1) := by decide +kernel
theorem dX8_cell_39 : decode cX8_cell 39 = .ok (.iaload, 1) := by decide +kernel
theorem dX8_cell_40 : decode cX8_cell 40 = .ok (.iload_n 3, 1) := by decide +kernel
theorem dX8_cell_41 : decode cX8_cell 41 = .ok (.if_icmp .eq 9, 3) := by decide +kernel
theorem dX8_cell_44 : decode cX8_cell 44 = .ok (.aload_n 0, 1) := by decide +kernel
theorem dX8_cell_45 : decode cX8_cell 45 = .ok (.iconst 2, 1) := by decide +kernel
theorem dX8_cell_46 : decode cX8_cell 46 = .ok (.invokevirtual 211, 3) := by decide +kernel
theorem dX8_cell_49 : decode cX8_cell 49 = .ok (.lreturn, 1) := by decide +kernel
theorem dX8_cell_50 : decode cX8_cell 50 = .ok (.aload_n 0, 1) := by decide +kernel
theorem dX8_cell_51 : decode cX8_cell 51 = .ok (.getfield 9, 3) := by decide +kernel
theorem dX8_cell_54 : decode cX8_cell 54 = .ok (.iload_n 1, 1) := by decide +kernel
theorem dX8_cell_55 : decode cX8_cell 55 = .ok (.iaload, 1) := by decide +kernel
theorem dX8_cell_56 : decode cX8_cell 56 = .ok (.bipush (-9), 2) := by decide +kernel
theorem dX8_cell_58 : decode cX8_cell 58 = .ok (.if_icmp .ne 9, 3) := by decide +kernel
theorem dX8_cell_61 : decode cX8_cell 61 = .ok (.aload_n 0, 1) := by decide +kernel
theorem dX8_cell_62 : decode cX8_cell 62 = .ok (.iconst 1, 1) := by decide +kernel
theorem dX8_cell_63 : decode cX8_cell 63 = .ok (.invokevirtual 211, 3) := by decide +kernel
theorem dX8_cell_66 : decode cX8_cell 66 = .ok (.lreturn, 1) := by decide +kernel
theorem dX8_cell_67 : decode cX8_cell 67 = .ok (.iload_n 2, 1) := by decide +kernel
theorem dX8_cell_68 : decode cX8_cell 68 = .ok (.iconst 0, 1) := by decide +kernel
theorem dX8_cell_69 : decode cX8_cell 69 = .ok (.aload_n 0, 1) := by decide +kernel
theorem dX8_cell_70 : decode cX8_cell 70 = .ok (.getfield 13, 3) := by decide +kernel
theorem dX8_cell_73 : decode cX8_cell 73 = .ok (.iload_n 1, 1) := by decide +kernel
theorem dX8_cell_74 : decode cX8_cell 74 = .ok (.iaload, 1) := by decide +kernel
theorem dX8_cell_75 : decode cX8_cell 75 = .ok (.iconst 1, 1) := by decide +kernel
theorem dX8_cell_76 : decode cX8_cell 76 = .ok (.isub, 1) := by decide +kernel
theorem dX8_cell_77 : decode cX8_cell 77 = .ok (.invokestatic 68, 3) := by decide +kernel
theorem dX8_cell_80 : decode cX8_cell 80 = .ok (.ifCond .ne 9, 3) := by decide +kernel
theorem dX8_cell_83 : decode cX8_cell 83 = .ok (.aload_n 0, 1) := by decide +kernel
theorem dX8_cell_84 : decode cX8_cell 84 = .ok (.iconst 3, 1) := by decide +kernel
theorem dX8_cell_85 : decode cX8_cell 85 = .ok (.invokevirtual 211, 3) := by decide +kernel
theorem dX8_cell_88 : decode cX8_cell 88 = .ok (.lreturn, 1) := by decide +kernel
theorem dX8_cell_89 : decode cX8_cell 89 = .ok (.aload_n 0, 1) := by decide +kernel
theorem dX8_cell_90 : decode cX8_cell 90 = .ok (.getfield 16, 3) := by decide +kernel
theorem dX8_cell_93 : decode cX8_cell 93 = .ok (.bipush 60, 2) := by decide +kernel
theorem dX8_cell_95 : decode cX8_cell 95 = .ok (.iload_n 1, 1) := by decide +kernel
theorem dX8_cell_96 : decode cX8_cell 96 = .ok (.imul, 1) := by decide +kernel
theorem dX8_cell_97 : decode cX8_cell 97 = .ok (.iload_n 2, 1) := by decide +kernel
theorem dX8_cell_98 : decode cX8_cell 98 = .ok (.iadd, 1) := by decide +kernel
theorem dX8_cell_99 : decode cX8_cell 99 = .ok (.iaload, 1) := by decide +kernel
theorem dX8_cell_100 : decode cX8_cell 100 = .ok (.i2l, 1) := by decide +kernel
theorem dX8_cell_101 : decode cX8_cell 101 = .ok (.lreturn, 1) := by decide +kernel
theorem dX8_copy_0 : decode cX8_copy 0 = .ok (.aload_n 0, 1) := by decide +kernel
theorem dX8_copy_1 : decode cX8_copy 1 = .ok (.iconst 0, 1) := by decide +kernel
theorem dX8_copy_2 : decode cX8_copy 2 = .ok (.putfield 63, 3) := by decide +kernel
theorem dX8_copy_5 : decode cX8_copy 5 = .ok (.iload_n 1, 1) := by decide +kernel
theorem dX8_copy_6 : decode cX8_copy 6 = .ok (.invokestatic 82, 3) := by decide +kernel
theorem dX8_copy_9 : decode cX8_copy 9 = .ok (.ifCond .eq 10, 3) := by decide +kernel
theorem dX8_copy_12 : decode cX8_copy 12 = .ok (.iload_n 3, 1) := by decide +kernel
theorem dX8_copy_13 : decode cX8_copy 13 = .ok (.invokestatic 82, 3) := by decide +kernel
theorem dX8_copy_16 : decode cX8_copy 16 = .ok (.ifCond .ne 5, 3) := by decide +kernel
theorem dX8_copy_19 : decode cX8_copy 19 = .ok (.iconst (-1), 1) := by decide +kernel
theorem dX8_copy_20 : decode cX8_copy 20 = .ok (.ireturn, 1) := by decide +kernel
theorem dX8_copy_21 : decode cX8_copy 21 = .ok (.aload_n 0, 1) := by decide +kernel
theorem dX8_copy_22 : decode cX8_copy 22 = .ok (.getfield 9, 3) := by decide +kernel
theorem dX8_copy_25 : decode cX8_copy 25 = .ok (.iload_n 1, 1) := by decide +kernel
theorem dX8_copy_26 : decode cX8_copy 26 = .ok (.iaload, 1) := by decide +kernel
theorem dX8_copy_27 : decode cX8_copy 27 = .ok (.bipush (-9), 2) := by decide +kernel
theorem dX8_copy_29 : decode cX8_copy 29 = .ok (.if_icmp .eq 14, 3) := by decide +kernel
theorem dX8_copy_32 : decode cX8_copy 32 = .ok (.aload_n 0, 1) := by decide +kernel
theorem dX8_copy_33 : decode cX8_copy 33 = .ok (.getfield 9, 3) := by decide +kernel
theorem dX8_copy_36 : decode cX8_copy 36 = .ok (.iload_n 3, 1) := by decide +kernel
theorem dX8_copy_37 : decode cX8_copy 37 = .ok (.iaload, 1) := by decide +kernel
theorem dX8_copy_38 : decode cX8_copy 38 = .ok (.bipush (-9), 2) := by decide +kernel
theorem dX8_copy_40 : decode cX8_copy 40 = .ok (.if_icmp .ne 9, 3) := by decide +kernel
theorem dX8_copy_43 : decode cX8_copy 43 = .ok (.aload_n 0, 1) := by decide +kernel
theorem dX8_copy_44 : decode cX8_copy 44 = .ok (.iconst 1, 1) := by decide +kernel
theorem dX8_copy_45 : decode cX8_copy 45 = .ok (.invokevirtual 93, 3) := by decide +kernel
theorem dX8_copy_48 : decode cX8_copy 48 = .ok (.ireturn, 1) := by decide +kernel
theorem dX8_copy_49 : decode cX8_copy 49 = .ok (.aload_n 0, 1) := by decide +kernel
theorem dX8_copy_50 : decode cX8_copy 50 = .ok (.getfield 9, 3) := by decide +kernel
theorem dX8_copy_53 : decode cX8_copy 53 = .ok (.iload_n 1, 1) := by decide +kernel
theorem dX8_copy_54 : decode cX8_copy 54 = .ok (.iaload, 1) := by decide +kernel
theorem dX8_copy_55 : decode cX8_copy 55 = .ok (.aload_n 0, 1) := by decide +kernel
theorem dX8_copy_56 : decode cX8_copy 56 = .ok (.getfield 9, 3) := by decide +kernel
theorem dX8_copy_59 : decode cX8_copy 59 = .ok (.iload_n 3, 1) := by decide +kernel
theorem dX8_copy_60 : decode cX8_copy 60 = .ok (.iaload, 1) := by decide +kernel
theorem dX8_copy_61 : decode cX8_copy 61 = .ok (.if_icmp .eq 9, 3) := by decide +kernel
theorem dX8_copy_64 : decode cX8_copy 64 = .ok (.aload_n 0, 1) := by decide +kernel
theorem dX8_copy_65 : decode cX8_copy 65 = .ok (.iconst 2, 1) := by decide +kernel
theorem dX8_copy_66 : decode cX8_copy 66 = .ok (.invokevirtual 93, 3) := by decide +kernel
theorem dX8_copy_69 : decode cX8_copy 69 = .ok (.ireturn, 1) := by decide +kernel
theorem dX8_copy_70 : decode cX8_copy 70 = .ok (.iload_n 2, 1) := by decide +kernel
theorem dX8_copy_71 : decode cX8_copy 71 = .ok (.ifCond .lt 38, 3) := by decide +kernel
theorem dX8_copy_74 : decode cX8_copy 74 = .ok (.iload 4, 2) := by decide +kernel
theorem dX8_copy_76 : decode cX8_copy 76 = .ok (.ifCond .lt 33, 3) := by decide +kernel
theorem dX8_copy_79 : decode cX8_copy 79 = .ok (.iload 5, 2) := by decide +kernel
theorem dX8_copy_81 : decode cX8_copy 81 = .ok (.ifCond .lt 28, 3) := by decide +kernel
theorem dX8_copy_84 : decode cX8_copy 84 = .ok (.iload_n 2, 1) := by decide +kernel
theorem dX8_copy_85 : decode cX8_copy 85 = .ok (.aload_n 0, 1) := by decide +kernel
theorem dX8_copy_86 : decode cX8_copy 86 = .ok (.getfield 13, 3) := by decide +kernel
theorem dX8_copy_89 : decode cX8_copy 89 = .ok (.iload_n 1, 1) := by decide +kernel
theorem dX8_copy_90 : decode cX8_copy 90 = .ok (.iaload, 1) := by decide +kernel
theorem dX8_copy_91 : decode cX8_copy 91 = .ok (.if_icmp .gt 18, 3) := by decide +kernel
theorem dX8_copy_94 : decode cX8_copy 94 = .ok (.iload 4, 2) := by decide +kernel
theorem dX8_copy_96 : decode cX8_copy 96 = .ok (.aload_n 0, 1) := by decide +kernel
theorem dX8_copy_97 : decode cX8_copy 97 = .ok (.getfield 13, 3) := by decide +kernel
theorem dX8_copy_100 : decode cX8_copy 100 = .ok (.iload_n 3, 1) := by decide +kernel
theorem dX8_copy_101 : decode cX8_copy 101 = .ok (.iaload, 1) := by decide +kernel
theorem dX8_copy_102 : decode cX8_copy 102 = .ok (.if_icmp .gt 7, 3) := by decide +kernel
theorem dX8_copy_105 : decode cX8_copy 105 = .ok (.iconst 1, 1) := by decide +kernel
theorem dX8_copy_106 : decode cX8_copy 106 = .ok (.goto 4, 3) := by decide +kernel
theorem dX8_copy_109 : decode cX8_copy 109 = .ok (.iconst 0, 1) := by decide +kernel
theorem dX8_copy_110 : decode cX8_copy 110 = .ok (.istore 6, 2) := by decide +kernel
theorem dX8_copy_112 : decode cX8_copy 112 = .ok (.iload 6, 2) := by decide +kernel
theorem dX8_copy_114 : decode cX8_copy 114 = .ok (.ifCond .eq 30, 3) := by decide +kernel
theorem dX8_copy_117 : decode cX8_copy 117 = .ok (.iload 5, 2) := by decide +kernel
theorem dX8_copy_119 : decode cX8_copy 119 = .ok (.aload_n 0, 1) := by decide +kernel
theorem dX8_copy_120 : decode cX8_copy 120 = .ok (.getfield 13, 3) := by decide +kernel
theorem dX8_copy_123 : decode cX8_copy 123 = .ok (.iload_n 1, 1) := by decide +kernel
theorem dX8_copy_124 : decode cX8_copy 124 = .ok (.iaload, 1) := by decide +kernel
theorem dX8_copy_125 : decode cX8_copy 125 = .ok (.iload_n 2, 1) := by decide +kernel
theorem dX8_copy_126 : decode cX8_copy 126 = .ok (.isub, 1) := by decide +kernel
theorem dX8_copy_127 : decode cX8_copy 127 = .ok (.if_icmp .gt 17, 3) := by decide +kernel
theorem dX8_copy_130 : decode cX8_copy 130 = .ok (.iload 5, 2) := by decide +kernel
theorem dX8_copy_132 : decode cX8_copy 132 = .ok (.aload_n 0, 1) := by decide +kernel
theorem dX8_copy_133 : decode cX8_copy 133 = .ok (.getfield 13, 3) := by decide +kernel
theorem dX8_copy_136 : decode cX8_copy 136 = .ok (.iload_n 3, 1) := by decide +kernel
theorem dX8_copy_137 : decode cX8_copy 137 = .ok (.iaload, 1) := by decide +kernel
theorem dX8_copy_138 : decode cX8_copy 138 = .ok (.iload 4, 2) := by decide +kernel
theorem dX8_copy_140 : decode cX8_copy 140 = .ok (.isub, 1) := by decide +kernel
theorem dX8_copy_141 : decode cX8_copy 141 = .ok (.if_icmp .le 9, 3) := by decide +kernel
theorem dX8_copy_144 : decode cX8_copy 144 = .ok (.aload_n 0, 1) := by decide +kernel
theorem dX8_copy_145 : decode cX8_copy 145 = .ok (.iconst 3, 1) := by decide +kernel
theorem dX8_copy_146 : decode cX8_copy 146 = .ok (.invokevirtual 93, 3) := by decide +kernel
theorem dX8_copy_149 : decode cX8_copy 149 = .ok (.ireturn, 1) := by decide +kernel
theorem dX8_copy_150 : decode cX8_copy 150 = .ok (.iload_n 2, 1) := by decide +kernel
theorem dX8_copy_151 : decode cX8_copy 151 = .ok (.iload 4, 2) := by decide +kernel
theorem dX8_copy_153 : decode cX8_copy 153 = .ok (.if_icmp .ge 7, 3) := by decide +kernel
theorem dX8_copy_156 : decode cX8_copy 156 = .ok (.iconst 1, 1) := by decide +kernel
theorem dX8_copy_157 : decode cX8_copy 157 = .ok (.goto 4, 3) := by decide +kernel
theorem dX8_copy_160 : decode cX8_copy 160 = .ok (.iconst 0, 1) := by decide +kernel
theorem dX8_copy_161 : decode cX8_copy 161 = .ok (.istore 7, 2) := by decide +kernel
theorem dX8_copy_163 : decode cX8_copy 163 = .ok (.iconst 0, 1) := by decide +kernel
theorem dX8_copy_164 : decode cX8_copy 164 = .ok (.istore 8, 2) := by decide +kernel
theorem dX8_copy_166 : decode cX8_copy 166 = .ok (.iload 8, 2) := by decide +kernel
theorem dX8_copy_168 : decode cX8_copy 168 = .ok (.iload 5, 2) := by decide +kernel
theorem dX8_copy_170 : decode cX8_copy 170 = .ok (.if_icmp .ge 57, 3) := by decide +kernel
theorem dX8_copy_173 : decode cX8_copy 173 = .ok (.iload 7, 2) := by decide +kernel
theorem dX8_copy_175 : decode cX8_copy 175 = .ok (.ifCond .eq 13, 3) := by decide +kernel
theorem dX8_copy_178 : decode cX8_copy 178 = .ok (.iload 5, 2) := by decide +kernel
theorem dX8_copy_180 : decode cX8_copy 180 = .ok (.iconst 1, 1) := by decide +kernel
theorem dX8_copy_181 : decode cX8_copy 181 = .ok (.isub, 1) := by decide +kernel
theorem dX8_copy_182 : decode cX8_copy 182 = .ok (.iload 8, 2) := by decide +kernel
theorem dX8_copy_184 : decode cX8_copy 184 = .ok (.isub, 1) := by decide +kernel
theorem dX8_copy_185 : decode cX8_copy 185 = .ok (.goto 5, 3) := by decide +kernel
theorem dX8_copy_188 : decode cX8_copy 188 = .ok (.iload 8, 2) := by decide +kernel
theorem dX8_copy_190 : decode cX8_copy 190 = .ok (.istore 9, 2) := by decide +kernel
theorem dX8_copy_192 : decode cX8_copy 192 = .ok (.aload_n 0, 1) := by decide +kernel
theorem dX8_copy_193 : decode cX8_copy 193 = .ok (.getfield 16, 3) := by decide +kernel
theorem dX8_copy_196 : decode cX8_copy 196 = .ok (.bipush 60, 2) := by decide +kernel
theorem dX8_copy_198 : decode cX8_copy 198 = .ok (.iload_n 3, 1) := by decide +kernel
theorem dX8_copy_199 : decode cX8_copy 199 = .ok (.imul, 1) := by decide +kernel
theorem dX8_copy_200 : decode cX8_copy 200 = .ok (.iload 4, 2) := by decide +kernel
theorem dX8_copy_202 : decode cX8_copy 202 = .ok (.iadd, 1) := by decide +kernel
theorem dX8_copy_203 : decode cX8_copy 203 = .ok (.iload 9, 2) := by decide +kernel
theorem dX8_copy_205 : decode cX8_copy 205 = .ok (.iadd, 1) := by decide +kernel
theorem dX8_copy_206 : decode cX8_copy 206 = .ok (.aload_n 0, 1) := by decide +kernel
theorem dX8_copy_207 : decode cX8_copy 207 = .ok (.getfield 16, 3) := by decide +kernel
theorem dX8_copy_210 : decode cX8_copy 210 = .ok (.bipush 60, 2) := by decide +kernel
theorem dX8_copy_212 : decode cX8_copy 212 = .ok (.iload_n 1, 1) := by decide +kernel
theorem dX8_copy_213 : decode cX8_copy 213 = .ok (.imul, 1) := by decide +kernel
theorem dX8_copy_214 : decode cX8_copy 214 = .ok (.iload_n 2, 1) := by decide +kernel
theorem dX8_copy_215 : decode cX8_copy 215 = .ok (.iadd, 1) := by decide +kernel
theorem dX8_copy_216 : decode cX8_copy 216 = .ok (.iload 9, 2) := by decide +kernel
theorem dX8_copy_218 : decode cX8_copy 218 = .ok (.iadd, 1) := by decide +kernel
theorem dX8_copy_219 : decode cX8_copy 219 = .ok (.iaload, 1) := by decide +kernel
theorem dX8_copy_220 : decode cX8_copy 220 = .ok (.iastore, 1) := by decide +kernel
theorem dX8_copy_221 : decode cX8_copy 221 = .ok (.iinc 8 1, 3) := by decide +kernel
theorem dX8_copy_224 : decode cX8_copy 224 = .ok (.goto (-58), 3) := by decide +kernel
theorem dX8_copy_227 : decode cX8_copy 227 = .ok (.iload 5, 2) := by decide +kernel
theorem dX8_copy_229 : decode cX8_copy 229 = .ok (.ireturn, 1) := by decide +kernel
theorem dX8_begins_0 : decode cX8_begins 0 = .ok (.aload_n 0, 1) := by decide +kernel
theorem dX8_begins_1 : decode cX8_begins 1 = .ok (.bipush 31, 2) := by decide +kernel
theorem dX8_begins_3 : decode cX8_begins 3 = .ok (.aload_n 0, 1) := by decide +kernel
theorem dX8_begins_4 : decode cX8_begins 4 = .ok (.getfield 215, 3) := by decide +kernel
theorem dX8_begins_7 : decode cX8_begins 7 = .ok (.imul, 1) := by decide +kernel
theorem dX8_begins_8 : decode cX8_begins 8 = .ok (.iload_n 1, 1) := by decide +kernel
theorem dX8_begins_9 : decode cX8_begins 9 = .ok (.iadd, 1) := by decide +kernel
theorem dX8_begins_10 : decode cX8_begins 10 = .ok (.putfield 215, 3) := by decide +kernel
theorem dX8_begins_13 : decode cX8_begins 13 = .ok (.return_, 1) := by decide +kernel
theorem dX8_tell_0 : decode cX8_tell 0 = .ok (.aload_n 0, 1) := by decide +kernel
theorem dX8_tell_1 : decode cX8_tell 1 = .ok (.iload_n 1, 1) := by decide +kernel
theorem dX8_tell_2 : decode cX8_tell 2 = .ok (.invokevirtual 146, 3) := by decide +kernel
theorem dX8_tell_5 : decode cX8_tell 5 = .ok (.ifCond .ne 5, 3) := by decide +kernel
theorem dX8_tell_8 : decode cX8_tell 8 = .ok (.iconst (-1), 1) := by decide +kernel
theorem dX8_tell_9 : decode cX8_tell 9 = .ok (.ireturn, 1) := by decide +kernel
theorem dX8_tell_10 : decode cX8_tell 10 = .ok (.aload_n 0, 1) := by decide +kernel
theorem dX8_tell_11 : decode cX8_tell 11 = .ok (.getfield 31, 3) := by decide +kernel
theorem dX8_tell_14 : decode cX8_tell 14 = .ok (.iload_n 1, 1) := by decide +kernel
theorem dX8_tell_15 : decode cX8_tell 15 = .ok (.iaload, 1) := by decide +kernel
theorem dX8_tell_16 : decode cX8_tell 16 = .ok (.istore_n 2, 1) := by decide +kernel
theorem dX8_tell_17 : decode cX8_tell 17 = .ok (.aload_n 0, 1) := by decide +kernel
theorem dX8_tell_18 : decode cX8_tell 18 = .ok (.getfield 19, 3) := by decide +kernel
theorem dX8_tell_21 : decode cX8_tell 21 = .ok (.iload_n 1, 1) := by decide +kernel
theorem dX8_tell_22 : decode cX8_tell 22 = .ok (.iaload, 1) := by decide +kernel
theorem dX8_tell_23 : decode cX8_tell 23 = .ok (.lookupswitch 67 #[(1, 25), (2, 40)], 25) := by decide +kernel
theorem dX8_tell_48 : decode cX8_tell 48 = .ok (.aload_n 0, 1) := by decide +kernel
theorem dX8_tell_49 : decode cX8_tell 49 = .ok (.iconst 2, 1) := by decide +kernel
theorem dX8_tell_50 : decode cX8_tell 50 = .ok (.invokevirtual 218, 3) := by decide +kernel
theorem dX8_tell_53 : decode cX8_tell 53 = .ok (.aload_n 0, 1) := by decide +kernel
theorem dX8_tell_54 : decode cX8_tell 54 = .ok (.iconst 1, 1) := by decide +kernel
theorem dX8_tell_55 : decode cX8_tell 55 = .ok (.invokevirtual 218, 3) := by decide +kernel
theorem dX8_tell_58 : decode cX8_tell 58 = .ok (.iload_n 2, 1) := by decide +kernel
theorem dX8_tell_59 : decode cX8_tell 59 = .ok (.bipush 100, 2) := by decide +kernel
theorem dX8_tell_61 : decode cX8_tell 61 = .ok (.iadd, 1) := by decide +kernel
theorem dX8_tell_62 : decode cX8_tell 62 = .ok (.ireturn, 1) := by decide +kernel
theorem dX8_tell_63 : decode cX8_tell 63 = .ok (.aload_n 0, 1) := by decide +kernel
theorem dX8_tell_64 : decode cX8_tell 64 = .ok (.iconst 3, 1) := by decide +kernel
theorem dX8_tell_65 : decode cX8_tell 65 = .ok (.invokevirtual 218, 3) := by decide +kernel
theorem dX8_tell_68 : decode cX8_tell 68 = .ok (.aload_n 0, 1) := by decide +kernel
theorem dX8_tell_69 : decode cX8_tell 69 = .ok (.iconst 2, 1) := by decide +kernel
theorem dX8_tell_70 : decode cX8_tell 70 = .ok (.invokevirtual 218, 3) := by decide +kernel
theorem dX8_tell_73 : decode cX8_tell 73 = .ok (.aload_n 0, 1) := by decide +kernel
theorem dX8_tell_74 : decode cX8_tell 74 = .ok (.iconst 1, 1) := by decide +kernel
theorem dX8_tell_75 : decode cX8_tell 75 = .ok (.invokevirtual 218, 3) := by decide +kernel
theorem dX8_tell_78 : decode cX8_tell 78 = .ok (.aload_n 0, 1) := by decide +kernel
theorem dX8_tell_79 : decode cX8_tell 79 = .ok (.iconst 1, 1) := by decide +kernel
theorem dX8_tell_80 : decode cX8_tell 80 = .ok (.invokevirtual 218, 3) := by decide +kernel
theorem dX8_tell_83 : decode cX8_tell 83 = .ok (.iconst 2, 1) := by decide +kernel
theorem dX8_tell_84 : decode cX8_tell 84 = .ok (.iload_n 2, 1) := by decide +kernel
theorem dX8_tell_85 : decode cX8_tell 85 = .ok (.imul, 1) := by decide +kernel
theorem dX8_tell_86 : decode cX8_tell 86 = .ok (.bipush 100, 2) := by decide +kernel
theorem dX8_tell_88 : decode cX8_tell 88 = .ok (.iadd, 1) := by decide +kernel
theorem dX8_tell_89 : decode cX8_tell 89 = .ok (.ireturn, 1) := by decide +kernel
theorem dX8_tell_90 : decode cX8_tell 90 = .ok (.aload_n 0, 1) := by decide +kernel
theorem dX8_tell_91 : decode cX8_tell 91 = .ok (.iconst 1, 1) := by decide +kernel
theorem dX8_tell_92 : decode cX8_tell 92 = .ok (.invokevirtual 218, 3) := by decide +kernel
theorem dX8_tell_95 : decode cX8_tell 95 = .ok (.iload_n 2, 1) := by decide +kernel
theorem dX8_tell_96 : decode cX8_tell 96 = .ok (.ireturn, 1) := by decide +kernel
theorem dX8_seal_0 : decode cX8_seal 0 = .ok (.aload_n 0, 1) := by decide +kernel
theorem dX8_seal_1 : decode cX8_seal 1 = .ok (.iload_n 1, 1) := by decide +kernel
theorem dX8_seal_2 : decode cX8_seal 2 = .ok (.invokevirtual 146, 3) := by decide +kernel
theorem dX8_seal_5 : decode cX8_seal 5 = .ok (.ifCond .ne 5, 3) := by decide +kernel
theorem dX8_seal_8 : decode cX8_seal 8 = .ok (.iconst (-1), 1) := by decide +kernel
theorem dX8_seal_9 : decode cX8_seal 9 = .ok (.ireturn, 1) := by decide +kernel
theorem dX8_seal_10 : decode cX8_seal 10 = .ok (.aload_n 0, 1) := by decide +kernel
theorem dX8_seal_11 : decode cX8_seal 11 = .ok (.aload_n 0, 1) := by decide +kernel
theorem dX8_seal_12 : decode cX8_seal 12 = .ok (.getfield 19, 3) := by decide +kernel
theorem dX8_seal_15 : decode cX8_seal 15 = .ok (.iload_n 1, 1) := by decide +kernel
theorem dX8_seal_16 : decode cX8_seal 16 = .ok (.iaload, 1) := by decide +kernel
theorem dX8_seal_17 : decode cX8_seal 17 = .ok (.iconst 2, 1) := by decide +kernel
theorem dX8_seal_18 : decode cX8_seal 18 = .ok (.if_icmp .ne 7, 3) := by decide +kernel
theorem dX8_seal_21 : decode cX8_seal 21 = .ok (.iconst 5, 1) := by decide +kernel
theorem dX8_seal_22 : decode cX8_seal 22 = .ok (.goto 4, 3) := by decide +kernel
theorem dX8_seal_25 : decode cX8_seal 25 = .ok (.iconst 4, 1) := by decide +kernel
theorem dX8_seal_26 : decode cX8_seal 26 = .ok (.invokevirtual 218, 3) := by decide +kernel
theorem dX8_seal_29 : decode cX8_seal 29 = .ok (.aload_n 0, 1) := by decide +kernel
theorem dX8_seal_30 : decode cX8_seal 30 = .ok (.getfield 19, 3) := by decide +kernel
theorem dX8_seal_33 : decode cX8_seal 33 = .ok (.iload_n 1, 1) := by decide +kernel
theorem dX8_seal_34 : decode cX8_seal 34 = .ok (.iaload, 1) := by decide +kernel
theorem dX8_seal_35 : decode cX8_seal 35 = .ok (.iconst 2, 1) := by decide +kernel
theorem dX8_seal_36 : decode cX8_seal 36 = .ok (.if_icmp .ne 8, 3) := by decide +kernel
theorem dX8_seal_39 : decode cX8_seal 39 = .ok (.bipush 40, 2) := by decide +kernel
theorem dX8_seal_41 : decode cX8_seal 41 = .ok (.goto 4, 3) := by decide +kernel
theorem dX8_seal_44 : decode cX8_seal 44 = .ok (.iload_n 1, 1) := by decide +kernel
theorem dX8_seal_45 : decode cX8_seal 45 = .ok (.ireturn, 1) := by decide +kernel
theorem dX8_as_0 : decode cX8_as 0 = .ok (.aload_n 0, 1) := by decide +kernel
theorem dX8_as_1 : decode cX8_as 1 = .ok (.iconst 0, 1) := by decide +kernel
theorem dX8_as_2 : decode cX8_as 2 = .ok (.putfield 63, 3) := by decide +kernel
theorem dX8_as_5 : decode cX8_as 5 = .ok (.aload_n 0, 1) := by decide +kernel
theorem dX8_as_6 : decode cX8_as 6 = .ok (.iload_n 1, 1) := by decide +kernel
theorem dX8_as_7 : decode cX8_as 7 = .ok (.invokevirtual 146, 3) := by decide +kernel
theorem dX8_as_10 : decode cX8_as 10 = .ok (.ifCond .ne 5, 3) := by decide +kernel
theorem dX8_as_13 : decode cX8_as 13 = .ok (.iconst (-1), 1) := by decide +kernel
theorem dX8_as_14 : decode cX8_as 14 = .ok (.ireturn, 1) := by decide +kernel
theorem dX8_as_15 : decode cX8_as 15 = .ok (.iload_n 2, 1) := by decide +kernel
theorem dX8_as_16 : decode cX8_as 16 = .ok (.iconst 0, 1) := by decide +kernel
theorem dX8_as_17 : decode cX8_as 17 = .ok (.iconst 2, 1) := by decide +kernel
theorem dX8_as_18 : decode cX8_as 18 = .ok (.invokestatic 68, 3) := by decide +kernel
theorem dX8_as_21 : decode cX8_as 21 = .ok (.ifCond .ne 6, 3) := by decide +kernel
theorem dX8_as_24 : decode cX8_as 24 = .ok (.bipush (-2), 2) := by decide +kernel
theorem dX8_as_26 : decode cX8_as 26 = .ok (.ireturn, 1) := by decide +kernel
theorem dX8_as_27 : decode cX8_as 27 = .ok (.aload_n 0, 1) := by decide +kernel
theorem dX8_as_28 : decode cX8_as 28 = .ok (.getfield 19, 3) := by decide +kernel
theorem dX8_as_31 : decode cX8_as 31 = .ok (.iload_n 1, 1) := by decide +kernel
theorem dX8_as_32 : decode cX8_as 32 = .ok (.iaload, 1) := by decide +kernel
theorem dX8_as_33 : decode cX8_as 33 = .ok (.iload_n 2, 1) := by decide +kernel
theorem dX8_as_34 : decode cX8_as 34 = .ok (.if_icmp .lt 7, 3) := by decide +kernel
theorem dX8_as_37 : decode cX8_as 37 = .ok (.iconst 1, 1) := by decide +kernel
theorem dX8_as_38 : decode cX8_as 38 = .ok (.goto 8, 3) := by decide +kernel
theorem dX8_as_41 : decode cX8_as 41 = .ok (.aload_n 0, 1) := by decide +kernel
theorem dX8_as_42 : decode cX8_as 42 = .ok (.iconst 2, 1) := by decide +kernel
theorem dX8_as_43 : decode cX8_as 43 = .ok (.invokevirtual 93, 3) := by decide +kernel
theorem dX8_as_46 : decode cX8_as 46 = .ok (.ireturn, 1) := by decide +kernel
theorem dX8_trace_0 : decode cX8_trace 0 = .ok (.aload_n 0, 1) := by decide +kernel
theorem dX8_trace_1 : decode cX8_trace 1 = .ok (.getfield 215, 3) := by decide +kernel
theorem dX8_trace_4 : decode cX8_trace 4 = .ok (.ireturn, 1) := by decide +kernel
theorem dX8_fault_0 : decode cX8_fault 0 = .ok (.aload_n 0, 1) := by decide +kernel
theorem dX8_fault_1 : decode cX8_fault 1 = .ok (.getfield 63, 3) := by decide +kernel
theorem dX8_fault_4 : decode cX8_fault 4 = .ok (.ireturn, 1) := by decide +kernel
theorem dX8_many_0 : decode cX8_many 0 = .ok (.iload_n 1, 1) := by decide +kernel
theorem dX8_many_1 : decode cX8_many 1 = .ok (.tableswitch 60 0 4 #[35, 40, 45, 50, 55], 35) := by decide +kernel
theorem dX8_many_36 : decode cX8_many 36 = .ok (.aload_n 0, 1) := by decide +kernel
theorem dX8_many_37 : decode cX8_many 37 = .ok (.getfield 72, 3) := by decide +kernel
theorem dX8_many_40 : decode cX8_many 40 = .ok (.ireturn, 1) := by decide +kernel
theorem dX8_many_41 : decode cX8_many 41 = .ok (.aload_n 0, 1) := by decide +kernel
theorem dX8_many_42 : decode cX8_many 42 = .ok (.getfield 103, 3) := by decide +kernel
theorem dX8_many_45 : decode cX8_many 45 = .ok (.ireturn, 1) := by decide +kernel
theorem dX8_many_46 : decode cX8_many 46 = .ok (.aload_n 0, 1) := by decide +kernel
theorem dX8_many_47 : decode cX8_many 47 = .ok (.getfield 121, 3) := by decide +kernel
theorem dX8_many_50 : decode cX8_many 50 = .ok (.ireturn, 1) := by decide +kernel
theorem dX8_many_51 : decode cX8_many 51 = .ok (.aload_n 0, 1) := by decide +kernel
theorem dX8_many_52 : decode cX8_many 52 = .ok (.getfield 130, 3) := by decide +kernel
theorem dX8_many_55 : decode cX8_many 55 = .ok (.ireturn, 1) := by decide +kernel
theorem dX8_many_56 : decode cX8_many 56 = .ok (.aload_n 0, 1) := by decide +kernel
theorem dX8_many_57 : decode cX8_many 57 = .ok (.getfield 127, 3) := by decide +kernel
theorem dX8_many_60 : decode cX8_many 60 = .ok (.ireturn, 1) := by decide +kernel
theorem dX8_many_61 : decode cX8_many 61 = .ok (.bipush (-2), 2) := by decide +kernel
theorem dX8_many_63 : decode cX8_many 63 = .ok (.ireturn, 1) := by decide +kernel
theorem dJ6_numberOfTrailingZeros_0f7a4_0 : decode cJ6_numberOfTrailingZeros_0f7a4 0 = .ok (.iload_n 0, 1) := by decide +kernel
theorem dJ6_numberOfTrailingZeros_0f7a4_1 : decode cJ6_numberOfTrailingZeros_0f7a4 1 = .ok (.iconst (-1), 1) := by decide +kernel
theorem dJ6_numberOfTrailingZeros_0f7a4_2 : decode cJ6_numberOfTrailingZeros_0f7a4 2 = .ok (.ixor, 1) := by decide +kernel
theorem dJ6_numberOfTrailingZeros_0f7a4_3 : decode cJ6_numberOfTrailingZeros_0f7a4 3 = .ok (.iload_n 0, 1) := by decide +kernel
theorem dJ6_numberOfTrailingZeros_0f7a4_4 : decode cJ6_numberOfTrailingZeros_0f7a4 4 = .ok (.iconst 1, 1) := by decide +kernel
theorem dJ6_numberOfTrailingZeros_0f7a4_5 : decode cJ6_numberOfTrailingZeros_0f7a4 5 = .ok (.isub, 1) := by decide +kernel
theorem dJ6_numberOfTrailingZeros_0f7a4_6 : decode cJ6_numberOfTrailingZeros_0f7a4 6 = .ok (.iand, 1) := by decide +kernel
theorem dJ6_numberOfTrailingZeros_0f7a4_7 : decode cJ6_numberOfTrailingZeros_0f7a4 7 = .ok (.istore_n 0, 1) := by decide +kernel
theorem dJ6_numberOfTrailingZeros_0f7a4_8 : decode cJ6_numberOfTrailingZeros_0f7a4 8 = .ok (.iload_n 0, 1) := by decide +kernel
theorem dJ6_numberOfTrailingZeros_0f7a4_9 : decode cJ6_numberOfTrailingZeros_0f7a4 9 = .ok (.ifCond .gt 8, 3) := by decide +kernel
theorem dJ6_numberOfTrailingZeros_0f7a4_12 : decode cJ6_numberOfTrailingZeros_0f7a4 12 = .ok (.iload_n 0, 1) := by decide +kernel
theorem dJ6_numberOfTrailingZeros_0f7a4_13 : decode cJ6_numberOfTrailingZeros_0f7a4 13 = .ok (.bipush 32, 2) := by decide +kernel
theorem dJ6_numberOfTrailingZeros_0f7a4_15 : decode cJ6_numberOfTrailingZeros_0f7a4 15 = .ok (.iand, 1) := by decide +kernel
theorem dJ6_numberOfTrailingZeros_0f7a4_16 : decode cJ6_numberOfTrailingZeros_0f7a4 16 = .ok (.ireturn, 1) := by decide +kernel
theorem dJ6_numberOfTrailingZeros_0f7a4_17 : decode cJ6_numberOfTrailingZeros_0f7a4 17 = .ok (.iconst 1, 1) := by decide +kernel
theorem dJ6_numberOfTrailingZeros_0f7a4_18 : decode cJ6_numberOfTrailingZeros_0f7a4 18 = .ok (.istore_n 1, 1) := by decide +kernel
theorem dJ6_numberOfTrailingZeros_0f7a4_19 : decode cJ6_numberOfTrailingZeros_0f7a4 19 = .ok (.iload_n 0, 1) := by decide +kernel
theorem dJ6_numberOfTrailingZeros_0f7a4_20 : decode cJ6_numberOfTrailingZeros_0f7a4 20 = .ok (.ldc_w 264, 3) := by decide +kernel
theorem dJ6_numberOfTrailingZeros_0f7a4_23 : decode cJ6_numberOfTrailingZeros_0f7a4 23 = .ok (.if_icmp .le 11, 3) := by decide +kernel
theorem dJ6_numberOfTrailingZeros_0f7a4_26 : decode cJ6_numberOfTrailingZeros_0f7a4 26 = .ok (.iinc 1 16, 3) := by decide +kernel
theorem dJ6_numberOfTrailingZeros_0f7a4_29 : decode cJ6_numberOfTrailingZeros_0f7a4 29 = .ok (.iload_n 0, 1) := by decide +kernel
theorem dJ6_numberOfTrailingZeros_0f7a4_30 : decode cJ6_numberOfTrailingZeros_0f7a4 30 = .ok (.bipush 16, 2) := by decide +kernel
theorem dJ6_numberOfTrailingZeros_0f7a4_32 : decode cJ6_numberOfTrailingZeros_0f7a4 32 = .ok (.iushr, 1) := by decide +kernel
theorem dJ6_numberOfTrailingZeros_0f7a4_33 : decode cJ6_numberOfTrailingZeros_0f7a4 33 = .ok (.istore_n 0, 1) := by decide +kernel
theorem dJ6_numberOfTrailingZeros_0f7a4_34 : decode cJ6_numberOfTrailingZeros_0f7a4 34 = .ok (.iload_n 0, 1) := by decide +kernel
theorem dJ6_numberOfTrailingZeros_0f7a4_35 : decode cJ6_numberOfTrailingZeros_0f7a4 35 = .ok (.sipush 256, 3) := by decide +kernel
theorem dJ6_numberOfTrailingZeros_0f7a4_38 : decode cJ6_numberOfTrailingZeros_0f7a4 38 = .ok (.if_icmp .le 11, 3) := by decide +kernel
theorem dJ6_numberOfTrailingZeros_0f7a4_41 : decode cJ6_numberOfTrailingZeros_0f7a4 41 = .ok (.iinc 1 8, 3) := by decide +kernel
theorem dJ6_numberOfTrailingZeros_0f7a4_44 : decode cJ6_numberOfTrailingZeros_0f7a4 44 = .ok (.iload_n 0, 1) := by decide +kernel
theorem dJ6_numberOfTrailingZeros_0f7a4_45 : decode cJ6_numberOfTrailingZeros_0f7a4 45 = .ok (.bipush 8, 2) := by decide +kernel
theorem dJ6_numberOfTrailingZeros_0f7a4_47 : decode cJ6_numberOfTrailingZeros_0f7a4 47 = .ok (.iushr, 1) := by decide +kernel
theorem dJ6_numberOfTrailingZeros_0f7a4_48 : decode cJ6_numberOfTrailingZeros_0f7a4 48 = .ok (.istore_n 0, 1) := by decide +kernel
theorem dJ6_numberOfTrailingZeros_0f7a4_49 : decode cJ6_numberOfTrailingZeros_0f7a4 49 = .ok (.iload_n 0, 1) := by decide +kernel
theorem dJ6_numberOfTrailingZeros_0f7a4_50 : decode cJ6_numberOfTrailingZeros_0f7a4 50 = .ok (.bipush 16, 2) := by decide +kernel
theorem dJ6_numberOfTrailingZeros_0f7a4_52 : decode cJ6_numberOfTrailingZeros_0f7a4 52 = .ok (.if_icmp .le 10, 3) := by decide +kernel
theorem dJ6_numberOfTrailingZeros_0f7a4_55 : decode cJ6_numberOfTrailingZeros_0f7a4 55 = .ok (.iinc 1 4, 3) := by decide +kernel
theorem dJ6_numberOfTrailingZeros_0f7a4_58 : decode cJ6_numberOfTrailingZeros_0f7a4 58 = .ok (.iload_n 0, 1) := by decide +kernel
theorem dJ6_numberOfTrailingZeros_0f7a4_59 : decode cJ6_numberOfTrailingZeros_0f7a4 59 = .ok (.iconst 4, 1) := by decide +kernel
theorem dJ6_numberOfTrailingZeros_0f7a4_60 : decode cJ6_numberOfTrailingZeros_0f7a4 60 = .ok (.iushr, 1) := by decide +kernel
theorem dJ6_numberOfTrailingZeros_0f7a4_61 : decode cJ6_numberOfTrailingZeros_0f7a4 61 = .ok (.istore_n 0, 1) := by decide +kernel
theorem dJ6_numberOfTrailingZeros_0f7a4_62 : decode cJ6_numberOfTrailingZeros_0f7a4 62 = .ok (.iload_n 0, 1) := by decide +kernel
theorem dJ6_numberOfTrailingZeros_0f7a4_63 : decode cJ6_numberOfTrailingZeros_0f7a4 63 = .ok (.iconst 4, 1) := by decide +kernel
theorem dJ6_numberOfTrailingZeros_0f7a4_64 : decode cJ6_numberOfTrailingZeros_0f7a4 64 = .ok (.if_icmp .le 10, 3) := by decide +kernel
theorem dJ6_numberOfTrailingZeros_0f7a4_67 : decode cJ6_numberOfTrailingZeros_0f7a4 67 = .ok (.iinc 1 2, 3) := by decide +kernel
theorem dJ6_numberOfTrailingZeros_0f7a4_70 : decode cJ6_numberOfTrailingZeros_0f7a4 70 = .ok (.iload_n 0, 1) := by decide +kernel
theorem dJ6_numberOfTrailingZeros_0f7a4_71 : decode cJ6_numberOfTrailingZeros_0f7a4 71 = .ok (.iconst 2, 1) := by decide +kernel
theorem dJ6_numberOfTrailingZeros_0f7a4_72 : decode cJ6_numberOfTrailingZeros_0f7a4 72 = .ok (.iushr, 1) := by decide +kernel
theorem dJ6_numberOfTrailingZeros_0f7a4_73 : decode cJ6_numberOfTrailingZeros_0f7a4 73 = .ok (.istore_n 0, 1) := by decide +kernel
theorem dJ6_numberOfTrailingZeros_0f7a4_74 : decode cJ6_numberOfTrailingZeros_0f7a4 74 = .ok (.iload_n 1, 1) := by decide +kernel
theorem dJ6_numberOfTrailingZeros_0f7a4_75 : decode cJ6_numberOfTrailingZeros_0f7a4 75 = .ok (.iload_n 0, 1) := by decide +kernel
theorem dJ6_numberOfTrailingZeros_0f7a4_76 : decode cJ6_numberOfTrailingZeros_0f7a4 76 = .ok (.iconst 1, 1) := by decide +kernel
theorem dJ6_numberOfTrailingZeros_0f7a4_77 : decode cJ6_numberOfTrailingZeros_0f7a4 77 = .ok (.iushr, 1) := by decide +kernel
theorem dJ6_numberOfTrailingZeros_0f7a4_78 : decode cJ6_numberOfTrailingZeros_0f7a4 78 = .ok (.iadd, 1) := by decide +kernel
theorem dJ6_numberOfTrailingZeros_0f7a4_79 : decode cJ6_numberOfTrailingZeros_0f7a4 79 = .ok (.ireturn, 1) := by decide +kernel
theorem dJ6_bitCount_0f7a4_0 : decode cJ6_bitCount_0f7a4 0 = .ok (.iload_n 0, 1) := by decide +kernel
theorem dJ6_bitCount_0f7a4_1 : decode cJ6_bitCount_0f7a4 1 = .ok (.iload_n 0, 1) := by decide +kernel
theorem dJ6_bitCount_0f7a4_2 : decode cJ6_bitCount_0f7a4 2 = .ok (.iconst 1, 1) := by decide +kernel
theorem dJ6_bitCount_0f7a4_3 : decode cJ6_bitCount_0f7a4 3 = .ok (.iushr, 1) := by decide +kernel
theorem dJ6_bitCount_0f7a4_4 : decode cJ6_bitCount_0f7a4 4 = .ok (.ldc_w 265, 3) := by decide +kernel
theorem dJ6_bitCount_0f7a4_7 : decode cJ6_bitCount_0f7a4 7 = .ok (.iand, 1) := by decide +kernel
theorem dJ6_bitCount_0f7a4_8 : decode cJ6_bitCount_0f7a4 8 = .ok (.isub, 1) := by decide +kernel
theorem dJ6_bitCount_0f7a4_9 : decode cJ6_bitCount_0f7a4 9 = .ok (.istore_n 0, 1) := by decide +kernel
theorem dJ6_bitCount_0f7a4_10 : decode cJ6_bitCount_0f7a4 10 = .ok (.iload_n 0, 1) := by decide +kernel
theorem dJ6_bitCount_0f7a4_11 : decode cJ6_bitCount_0f7a4 11 = .ok (.ldc_w 266, 3) := by decide +kernel
theorem dJ6_bitCount_0f7a4_14 : decode cJ6_bitCount_0f7a4 14 = .ok (.iand, 1) := by decide +kernel
theorem dJ6_bitCount_0f7a4_15 : decode cJ6_bitCount_0f7a4 15 = .ok (.iload_n 0, 1) := by decide +kernel
theorem dJ6_bitCount_0f7a4_16 : decode cJ6_bitCount_0f7a4 16 = .ok (.iconst 2, 1) := by decide +kernel
theorem dJ6_bitCount_0f7a4_17 : decode cJ6_bitCount_0f7a4 17 = .ok (.iushr, 1) := by decide +kernel
theorem dJ6_bitCount_0f7a4_18 : decode cJ6_bitCount_0f7a4 18 = .ok (.ldc_w 266, 3) := by decide +kernel
theorem dJ6_bitCount_0f7a4_21 : decode cJ6_bitCount_0f7a4 21 = .ok (.iand, 1) := by decide +kernel
theorem dJ6_bitCount_0f7a4_22 : decode cJ6_bitCount_0f7a4 22 = .ok (.iadd, 1) := by decide +kernel
theorem dJ6_bitCount_0f7a4_23 : decode cJ6_bitCount_0f7a4 23 = .ok (.istore_n 0, 1) := by decide +kernel
theorem dJ6_bitCount_0f7a4_24 : decode cJ6_bitCount_0f7a4 24 = .ok (.iload_n 0, 1) := by decide +kernel
theorem dJ6_bitCount_0f7a4_25 : decode cJ6_bitCount_0f7a4 25 = .ok (.iload_n 0, 1) := by decide +kernel
theorem dJ6_bitCount_0f7a4_26 : decode cJ6_bitCount_0f7a4 26 = .ok (.iconst 4, 1) := by decide +kernel
theorem dJ6_bitCount_0f7a4_27 : decode cJ6_bitCount_0f7a4 27 = .ok (.iushr, 1) := by decide +kernel
theorem dJ6_bitCount_0f7a4_28 : decode cJ6_bitCount_0f7a4 28 = .ok (.iadd, 1) := by decide +kernel
theorem dJ6_bitCount_0f7a4_29 : decode cJ6_bitCount_0f7a4 29 = .ok (.ldc_w 267, 3) := by decide +kernel
theorem dJ6_bitCount_0f7a4_32 : decode cJ6_bitCount_0f7a4 32 = .ok (.iand, 1) := by decide +kernel
theorem dJ6_bitCount_0f7a4_33 : decode cJ6_bitCount_0f7a4 33 = .ok (.istore_n 0, 1) := by decide +kernel
theorem dJ6_bitCount_0f7a4_34 : decode cJ6_bitCount_0f7a4 34 = .ok (.iload_n 0, 1) := by decide +kernel
theorem dJ6_bitCount_0f7a4_35 : decode cJ6_bitCount_0f7a4 35 = .ok (.iload_n 0, 1) := by decide +kernel
theorem dJ6_bitCount_0f7a4_36 : decode cJ6_bitCount_0f7a4 36 = .ok (.bipush 8, 2) := by decide +kernel
theorem dJ6_bitCount_0f7a4_38 : decode cJ6_bitCount_0f7a4 38 = .ok (.iushr, 1) := by decide +kernel
theorem dJ6_bitCount_0f7a4_39 : decode cJ6_bitCount_0f7a4 39 = .ok (.iadd, 1) := by decide +kernel
theorem dJ6_bitCount_0f7a4_40 : decode cJ6_bitCount_0f7a4 40 = .ok (.istore_n 0, 1) := by decide +kernel
theorem dJ6_bitCount_0f7a4_41 : decode cJ6_bitCount_0f7a4 41 = .ok (.iload_n 0, 1) := by decide +kernel
theorem dJ6_bitCount_0f7a4_42 : decode cJ6_bitCount_0f7a4 42 = .ok (.iload_n 0, 1) := by decide +kernel
theorem dJ6_bitCount_0f7a4_43 : decode cJ6_bitCount_0f7a4 43 = .ok (.bipush 16, 2) := by decide +kernel
theorem dJ6_bitCount_0f7a4_45 : decode cJ6_bitCount_0f7a4 45 = .ok (.iushr, 1) := by decide +kernel
theorem dJ6_bitCount_0f7a4_46 : decode cJ6_bitCount_0f7a4 46 = .ok (.iadd, 1) := by decide +kernel
theorem dJ6_bitCount_0f7a4_47 : decode cJ6_bitCount_0f7a4 47 = .ok (.istore_n 0, 1) := by decide +kernel
theorem dJ6_bitCount_0f7a4_48 : decode cJ6_bitCount_0f7a4 48 = .ok (.iload_n 0, 1) := by decide +kernel
theorem dJ6_bitCount_0f7a4_49 : decode cJ6_bitCount_0f7a4 49 = .ok (.bipush 63, 2) := by decide +kernel
theorem dJ6_bitCount_0f7a4_51 : decode cJ6_bitCount_0f7a4 51 = .ok (.iand, 1) := by decide +kernel
theorem dJ6_bitCount_0f7a4_52 : decode cJ6_bitCount_0f7a4 52 = .ok (.ireturn, 1) := by decide +kernel
theorem dJ13_bitCount_95d88_0 : decode cJ13_bitCount_95d88 0 = .ok (.lload_n 0, 1) := by decide +kernel
theorem dJ13_bitCount_95d88_1 : decode cJ13_bitCount_95d88 1 = .ok (.lload_n 0, 1) := by decide +kernel
theorem dJ13_bitCount_95d88_2 : decode cJ13_bitCount_95d88 2 = .ok (.iconst 1, 1) := by decide +kernel
theorem dJ13_bitCount_95d88_3 : decode cJ13_bitCount_95d88 3 = .ok (.lushr, 1) := by decide +kernel
theorem dJ13_bitCount_95d88_4 : decode cJ13_bitCount_95d88 4 = .ok (.ldc2_w 314, 3) := by decide +kernel
theorem dJ13_bitCount_95d88_7 : decode cJ13_bitCount_95d88 7 = .ok (.land, 1) := by decide +kernel
theorem dJ13_bitCount_95d88_8 : decode cJ13_bitCount_95d88 8 = .ok (.lsub, 1) := by decide +kernel
theorem dJ13_bitCount_95d88_9 : decode cJ13_bitCount_95d88 9 = .ok (.lstore_n 0, 1) := by decide +kernel
theorem dJ13_bitCount_95d88_10 : decode cJ13_bitCount_95d88 10 = .ok (.lload_n 0, 1) := by decide +kernel
theorem dJ13_bitCount_95d88_11 : decode cJ13_bitCount_95d88 11 = .ok (.ldc2_w 316, 3) := by decide +kernel
theorem dJ13_bitCount_95d88_14 : decode cJ13_bitCount_95d88 14 = .ok (.land, 1) := by decide +kernel
theorem dJ13_bitCount_95d88_15 : decode cJ13_bitCount_95d88 15 = .ok (.lload_n 0, 1) := by decide +kernel
theorem dJ13_bitCount_95d88_16 : decode cJ13_bitCount_95d88 16 = .ok (.iconst 2, 1) := by decide +kernel
theorem dJ13_bitCount_95d88_17 : decode cJ13_bitCount_95d88 17 = .ok (.lushr, 1) := by decide +kernel
theorem dJ13_bitCount_95d88_18 : decode cJ13_bitCount_95d88 18 = .ok (.ldc2_w 316, 3) := by decide +kernel
theorem dJ13_bitCount_95d88_21 : decode cJ13_bitCount_95d88 21 = .ok (.land, 1) := by decide +kernel
theorem dJ13_bitCount_95d88_22 : decode cJ13_bitCount_95d88 22 = .ok (.ladd, 1) := by decide +kernel
theorem dJ13_bitCount_95d88_23 : decode cJ13_bitCount_95d88 23 = .ok (.lstore_n 0, 1) := by decide +kernel
theorem dJ13_bitCount_95d88_24 : decode cJ13_bitCount_95d88 24 = .ok (.lload_n 0, 1) := by decide +kernel
theorem dJ13_bitCount_95d88_25 : decode cJ13_bitCount_95d88 25 = .ok (.lload_n 0, 1) := by decide +kernel
theorem dJ13_bitCount_95d88_26 : decode cJ13_bitCount_95d88 26 = .ok (.iconst 4, 1) := by decide +kernel
theorem dJ13_bitCount_95d88_27 : decode cJ13_bitCount_95d88 27 = .ok (.lushr, 1) := by decide +kernel
theorem dJ13_bitCount_95d88_28 : decode cJ13_bitCount_95d88 28 = .ok (.ladd, 1) := by decide +kernel
theorem dJ13_bitCount_95d88_29 : decode cJ13_bitCount_95d88 29 = .ok (.ldc2_w 318, 3) := by decide +kernel
theorem dJ13_bitCount_95d88_32 : decode cJ13_bitCount_95d88 32 = .ok (.land, 1) := by decide +kernel
theorem dJ13_bitCount_95d88_33 : decode cJ13_bitCount_95d88 33 = .ok (.lstore_n 0, 1) := by decide +kernel
theorem dJ13_bitCount_95d88_34 : decode cJ13_bitCount_95d88 34 = .ok (.lload_n 0, 1) := by decide +kernel
theorem dJ13_bitCount_95d88_35 : decode cJ13_bitCount_95d88 35 = .ok (.lload_n 0, 1) := by decide +kernel
theorem dJ13_bitCount_95d88_36 : decode cJ13_bitCount_95d88 36 = .ok (.bipush 8, 2) := by decide +kernel
theorem dJ13_bitCount_95d88_38 : decode cJ13_bitCount_95d88 38 = .ok (.lushr, 1) := by decide +kernel
theorem dJ13_bitCount_95d88_39 : decode cJ13_bitCount_95d88 39 = .ok (.ladd, 1) := by decide +kernel
theorem dJ13_bitCount_95d88_40 : decode cJ13_bitCount_95d88 40 = .ok (.lstore_n 0, 1) := by decide +kernel
theorem dJ13_bitCount_95d88_41 : decode cJ13_bitCount_95d88 41 = .ok (.lload_n 0, 1) := by decide +kernel
theorem dJ13_bitCount_95d88_42 : decode cJ13_bitCount_95d88 42 = .ok (.lload_n 0, 1) := by decide +kernel
theorem dJ13_bitCount_95d88_43 : decode cJ13_bitCount_95d88 43 = .ok (.bipush 16, 2) := by decide +kernel
theorem dJ13_bitCount_95d88_45 : decode cJ13_bitCount_95d88 45 = .ok (.lushr, 1) := by decide +kernel
theorem dJ13_bitCount_95d88_46 : decode cJ13_bitCount_95d88 46 = .ok (.ladd, 1) := by decide +kernel
theorem dJ13_bitCount_95d88_47 : decode cJ13_bitCount_95d88 47 = .ok (.lstore_n 0, 1) := by decide +kernel
theorem dJ13_bitCount_95d88_48 : decode cJ13_bitCount_95d88 48 = .ok (.lload_n 0, 1) := by decide +kernel
theorem dJ13_bitCount_95d88_49 : decode cJ13_bitCount_95d88 49 = .ok (.lload_n 0, 1) := by decide +kernel
theorem dJ13_bitCount_95d88_50 : decode cJ13_bitCount_95d88 50 = .ok (.bipush 32, 2) := by decide +kernel
theorem dJ13_bitCount_95d88_52 : decode cJ13_bitCount_95d88 52 = .ok (.lushr, 1) := by decide +kernel
theorem dJ13_bitCount_95d88_53 : decode cJ13_bitCount_95d88 53 = .ok (.ladd, 1) := by decide +kernel
theorem dJ13_bitCount_95d88_54 : decode cJ13_bitCount_95d88 54 = .ok (.lstore_n 0, 1) := by decide +kernel
theorem dJ13_bitCount_95d88_55 : decode cJ13_bitCount_95d88 55 = .ok (.lload_n 0, 1) := by decide +kernel
theorem dJ13_bitCount_95d88_56 : decode cJ13_bitCount_95d88 56 = .ok (.l2i, 1) := by decide +kernel
theorem dJ13_bitCount_95d88_57 : decode cJ13_bitCount_95d88 57 = .ok (.bipush 127, 2) := by decide +kernel
theorem dJ13_bitCount_95d88_59 : decode cJ13_bitCount_95d88 59 = .ok (.iand, 1) := by decide +kernel
theorem dJ13_bitCount_95d88_60 : decode cJ13_bitCount_95d88 60 = .ok (.ireturn, 1) := by decide +kernel
theorem dJ9_max_7cf53_0 : decode cJ9_max_7cf53 0 = .ok (.iload_n 0, 1) := by decide +kernel
theorem dJ9_max_7cf53_1 : decode cJ9_max_7cf53 1 = .ok (.iload_n 1, 1) := by decide +kernel
theorem dJ9_max_7cf53_2 : decode cJ9_max_7cf53 2 = .ok (.if_icmp .lt 7, 3) := by decide +kernel
theorem dJ9_max_7cf53_5 : decode cJ9_max_7cf53 5 = .ok (.iload_n 0, 1) := by decide +kernel
theorem dJ9_max_7cf53_6 : decode cJ9_max_7cf53 6 = .ok (.goto 4, 3) := by decide +kernel
theorem dJ9_max_7cf53_9 : decode cJ9_max_7cf53 9 = .ok (.iload_n 1, 1) := by decide +kernel
theorem dJ9_max_7cf53_10 : decode cJ9_max_7cf53 10 = .ok (.ireturn, 1) := by decide +kernel
theorem dJ9_min_7cf53_0 : decode cJ9_min_7cf53 0 = .ok (.iload_n 0, 1) := by decide +kernel
theorem dJ9_min_7cf53_1 : decode cJ9_min_7cf53 1 = .ok (.iload_n 1, 1) := by decide +kernel
theorem dJ9_min_7cf53_2 : decode cJ9_min_7cf53 2 = .ok (.if_icmp .gt 7, 3) := by decide +kernel
theorem dJ9_min_7cf53_5 : decode cJ9_min_7cf53 5 = .ok (.iload_n 0, 1) := by decide +kernel
theorem dJ9_min_7cf53_6 : decode cJ9_min_7cf53 6 = .ok (.goto 4, 3) := by decide +kernel
theorem dJ9_min_7cf53_9 : decode cJ9_min_7cf53 9 = .ok (.iload_n 1, 1) := by decide +kernel
theorem dJ9_min_7cf53_10 : decode cJ9_min_7cf53 10 = .ok (.ireturn, 1) := by decide +kernel
theorem dJ0_charAt_5068e_0 : decode cJ0_charAt_5068e 0 = .ok (.aload_n 0, 1) := by decide +kernel
theorem dJ0_charAt_5068e_1 : decode cJ0_charAt_5068e 1 = .ok (.invokevirtual 492, 3) := by decide +kernel
theorem dJ0_charAt_5068e_4 : decode cJ0_charAt_5068e 4 = .ok (.ifCond .eq 12, 3) := by decide +kernel
theorem dJ0_charAt_5068e_7 : decode cJ0_charAt_5068e 7 = .ok (.aload_n 0, 1) := by decide +kernel
theorem dJ0_charAt_5068e_8 : decode cJ0_charAt_5068e 8 = .ok (.getfield 9, 3) := by decide +kernel
theorem dJ0_charAt_5068e_11 : decode cJ0_charAt_5068e 11 = .ok (.iload_n 1, 1) := by decide +kernel
theorem dJ0_charAt_5068e_12 : decode cJ0_charAt_5068e 12 = .ok (.invokestatic 495, 3) := by decide +kernel
theorem dJ0_charAt_5068e_15 : decode cJ0_charAt_5068e 15 = .ok (.ireturn, 1) := by decide +kernel
theorem dJ0_charAt_5068e_16 : decode cJ0_charAt_5068e 16 = .ok (.aload_n 0, 1) := by decide +kernel
theorem dJ0_charAt_5068e_17 : decode cJ0_charAt_5068e 17 = .ok (.getfield 9, 3) := by decide +kernel
theorem dJ0_charAt_5068e_20 : decode cJ0_charAt_5068e 20 = .ok (.iload_n 1, 1) := by decide +kernel
theorem dJ0_charAt_5068e_21 : decode cJ0_charAt_5068e 21 = .ok (.invokestatic 498, 3) := by decide +kernel
theorem dJ0_charAt_5068e_24 : decode cJ0_charAt_5068e 24 = .ok (.ireturn, 1) := by decide +kernel
theorem dJ0_isLatin1_aae02_0 : decode cJ0_isLatin1_aae02 0 = .ok (.getstatic 38, 3) := by decide +kernel
theorem dJ0_isLatin1_aae02_3 : decode cJ0_isLatin1_aae02 3 = .ok (.ifCond .eq 14, 3) := by decide +kernel
theorem dJ0_isLatin1_aae02_6 : decode cJ0_isLatin1_aae02 6 = .ok (.aload_n 0, 1) := by decide +kernel
theorem dJ0_isLatin1_aae02_7 : decode cJ0_isLatin1_aae02 7 = .ok (.getfield 15, 3) := by decide +kernel
theorem dJ0_isLatin1_aae02_10 : decode cJ0_isLatin1_aae02 10 = .ok (.ifCond .ne 7, 3) := by decide +kernel
theorem dJ0_isLatin1_aae02_13 : decode cJ0_isLatin1_aae02 13 = .ok (.iconst 1, 1) := by decide +kernel
theorem dJ0_isLatin1_aae02_14 : decode cJ0_isLatin1_aae02 14 = .ok (.goto 4, 3) := by decide +kernel
theorem dJ0_isLatin1_aae02_17 : decode cJ0_isLatin1_aae02 17 = .ok (.iconst 0, 1) := by decide +kernel
theorem dJ0_isLatin1_aae02_18 : decode cJ0_isLatin1_aae02 18 = .ok (.ireturn, 1) := by decide +kernel
theorem dJ0_checkIndex_df160_0 : decode cJ0_checkIndex_df160 0 = .ok (.iload_n 0, 1) := by decide +kernel
theorem dJ0_checkIndex_df160_1 : decode cJ0_checkIndex_df160 1 = .ok (.iload_n 1, 1) := by decide +kernel
theorem dJ0_checkIndex_df160_2 : decode cJ0_checkIndex_df160 2 = .ok (.getstatic 1053, 3) := by decide +kernel
theorem dJ0_checkIndex_df160_5 : decode cJ0_checkIndex_df160 5 = .ok (.invokestatic 1059, 3) := by decide +kernel
theorem dJ0_checkIndex_df160_8 : decode cJ0_checkIndex_df160 8 = .ok (.pop, 1) := by decide +kernel
theorem dJ0_checkIndex_df160_9 : decode cJ0_checkIndex_df160 9 = .ok (.return_, 1) := by decide +kernel
theorem dJ1_charAt_3b067_0 : decode cJ1_charAt_3b067 0 = .ok (.iload_n 1, 1) := by decide +kernel
theorem dJ1_charAt_3b067_1 : decode cJ1_charAt_3b067 1 = .ok (.aload_n 0, 1) := by decide +kernel
theorem dJ1_charAt_3b067_2 : decode cJ1_charAt_3b067 2 = .ok (.arraylength, 1) := by decide +kernel
theorem dJ1_charAt_3b067_3 : decode cJ1_charAt_3b067 3 = .ok (.invokestatic 9, 3) := by decide +kernel
theorem dJ1_charAt_3b067_6 : decode cJ1_charAt_3b067 6 = .ok (.aload_n 0, 1) := by decide +kernel
theorem dJ1_charAt_3b067_7 : decode cJ1_charAt_3b067 7 = .ok (.iload_n 1, 1) := by decide +kernel
theorem dJ1_charAt_3b067_8 : decode cJ1_charAt_3b067 8 = .ok (.baload, 1) := by decide +kernel
theorem dJ1_charAt_3b067_9 : decode cJ1_charAt_3b067 9 = .ok (.sipush 255, 3) := by decide +kernel
theorem dJ1_charAt_3b067_12 : decode cJ1_charAt_3b067 12 = .ok (.iand, 1) := by decide +kernel
theorem dJ1_charAt_3b067_13 : decode cJ1_charAt_3b067 13 = .ok (.i2c, 1) := by decide +kernel
theorem dJ1_charAt_3b067_14 : decode cJ1_charAt_3b067 14 = .ok (.ireturn, 1) := by decide +kernel
theorem dJ2_getChar_3b067_0 : decode cJ2_getChar_3b067 0 = .ok (.getstatic 44, 3) := by decide +kernel
theorem dJ2_getChar_3b067_3 : decode cJ2_getChar_3b067 3 = .ok (.ifCond .ne 25, 3) := by decide +kernel
theorem dJ2_getChar_3b067_6 : decode cJ2_getChar_3b067 6 = .ok (.iload_n 1, 1) := by decide +kernel
theorem dJ2_getChar_3b067_7 : decode cJ2_getChar_3b067 7 = .ok (.ifCond .lt 11, 3) := by decide +kernel
theorem dJ2_getChar_3b067_10 : decode cJ2_getChar_3b067 10 = .ok (.iload_n 1, 1) := by decide +kernel
theorem dJ2_getChar_3b067_11 : decode cJ2_getChar_3b067 11 = .ok (.aload_n 0, 1) := by decide +kernel
theorem dJ2_getChar_3b067_12 : decode cJ2_getChar_3b067 12 = .ok (.invokestatic 48, 3) := by decide +kernel
theorem dJ2_getChar_3b067_15 : decode cJ2_getChar_3b067 15 = .ok (.if_icmp .lt 13, 3) := by decide +kernel
theorem dJ2_getChar_3b067_18 : decode cJ2_getChar_3b067 18 = .ok (.new 52, 3) := by decide +kernel
theorem dJ2_getChar_3b067_21 : decode cJ2_getChar_3b067 21 = .ok (.dup, 1) := by decide +kernel
theorem dJ2_getChar_3b067_22 : decode cJ2_getChar_3b067 22 = .ok (.ldc 54, 2) := by decide +kernel
theorem dJ2_getChar_3b067_24 : decode cJ2_getChar_3b067 24 = .ok (.invokespecial 56, 3) := by decide +kernel
theorem dJ2_getChar_3b067_27 : decode cJ2_getChar_3b067 27 = .ok (.athrow, 1) := by decide +kernel
theorem dJ2_getChar_3b067_28 : decode cJ2_getChar_3b067 28 = .ok (.iload_n 1, 1) := by decide +kernel
theorem dJ2_getChar_3b067_29 : decode cJ2_getChar_3b067 29 = .ok (.iconst 1, 1) := by decide +kernel
theorem dJ2_getChar_3b067_30 : decode cJ2_getChar_3b067 30 = .ok (.ishl, 1) := by decide +kernel
theorem dJ2_getChar_3b067_31 : decode cJ2_getChar_3b067 31 = .ok (.istore_n 1, 1) := by decide +kernel
theorem dJ2_getChar_3b067_32 : decode cJ2_getChar_3b067 32 = .ok (.aload_n 0, 1) := by decide +kernel
theorem dJ2_getChar_3b067_33 : decode cJ2_getChar_3b067 33 = .ok (.iload_n 1, 1) := by decide +kernel
theorem dJ2_getChar_3b067_34 : decode cJ2_getChar_3b067 34 = .ok (.iinc 1 1, 3) := by decide +kernel
theorem dJ2_getChar_3b067_37 : decode cJ2_getChar_3b067 37 = .ok (.baload, 1) := by decide +kernel
theorem dJ2_getChar_3b067_38 : decode cJ2_getChar_3b067 38 = .ok (.sipush 255, 3) := by decide +kernel
theorem dJ2_getChar_3b067_41 : decode cJ2_getChar_3b067 41 = .ok (.iand, 1) := by decide +kernel
theorem dJ2_getChar_3b067_42 : decode cJ2_getChar_3b067 42 = .ok (.getstatic 59, 3) := by decide +kernel
theorem dJ2_getChar_3b067_45 : decode cJ2_getChar_3b067 45 = .ok (.ishl, 1) := by decide +kernel
theorem dJ2_getChar_3b067_46 : decode cJ2_getChar_3b067 46 = .ok (.aload_n 0, 1) := by decide +kernel
theorem dJ2_getChar_3b067_47 : decode cJ2_getChar_3b067 47 = .ok (.iload_n 1, 1) := by decide +kernel
theorem dJ2_getChar_3b067_48 : decode cJ2_getChar_3b067 48 = .ok (.baload, 1) := by decide +kernel
theorem dJ2_getChar_3b067_49 : decode cJ2_getChar_3b067 49 = .ok (.sipush 255, 3) := by decide +kernel
theorem dJ2_getChar_3b067_52 : decode cJ2_getChar_3b067 52 = .ok (.iand, 1) := by decide +kernel
theorem dJ2_getChar_3b067_53 : decode cJ2_getChar_3b067 53 = .ok (.getstatic 63, 3) := by decide +kernel
theorem dJ2_getChar_3b067_56 : decode cJ2_getChar_3b067 56 = .ok (.ishl, 1) := by decide +kernel
theorem dJ2_getChar_3b067_57 : decode cJ2_getChar_3b067 57 = .ok (.ior, 1) := by decide +kernel
theorem dJ2_getChar_3b067_58 : decode cJ2_getChar_3b067 58 = .ok (.i2c, 1) := by decide +kernel
theorem dJ2_getChar_3b067_59 : decode cJ2_getChar_3b067 59 = .ok (.ireturn, 1) := by decide +kernel
theorem dJ2_length_9d52b_0 : decode cJ2_length_9d52b 0 = .ok (.aload_n 0, 1) := by decide +kernel
theorem dJ2_length_9d52b_1 : decode cJ2_length_9d52b 1 = .ok (.arraylength, 1) := by decide +kernel
theorem dJ2_length_9d52b_2 : decode cJ2_length_9d52b 2 = .ok (.iconst 1, 1) := by decide +kernel
theorem dJ2_length_9d52b_3 : decode cJ2_length_9d52b 3 = .ok (.ishr, 1) := by decide +kernel
theorem dJ2_length_9d52b_4 : decode cJ2_length_9d52b 4 = .ok (.ireturn, 1) := by decide +kernel
theorem dJ2_charAt_3b067_0 : decode cJ2_charAt_3b067 0 = .ok (.iload_n 1, 1) := by decide +kernel
theorem dJ2_charAt_3b067_1 : decode cJ2_charAt_3b067 1 = .ok (.aload_n 0, 1) := by decide +kernel
theorem dJ2_charAt_3b067_2 : decode cJ2_charAt_3b067 2 = .ok (.invokestatic 67, 3) := by decide +kernel
theorem dJ2_charAt_3b067_5 : decode cJ2_charAt_3b067 5 = .ok (.aload_n 0, 1) := by decide +kernel
theorem dJ2_charAt_3b067_6 : decode cJ2_charAt_3b067 6 = .ok (.iload_n 1, 1) := by decide +kernel
theorem dJ2_charAt_3b067_7 : decode cJ2_charAt_3b067 7 = .ok (.invokestatic 71, 3) := by decide +kernel
theorem dJ2_charAt_3b067_10 : decode cJ2_charAt_3b067 10 = .ok (.ireturn, 1) := by decide +kernel
theorem dJ2_checkIndex_2214a_0 : decode cJ2_checkIndex_2214a 0 = .ok (.iload_n 0, 1) := by decide +kernel
theorem dJ2_checkIndex_2214a_1 : decode cJ2_checkIndex_2214a 1 = .ok (.aload_n 1, 1) := by decide +kernel
theorem dJ2_checkIndex_2214a_2 : decode cJ2_checkIndex_2214a 2 = .ok (.invokestatic 48, 3) := by decide +kernel
theorem dJ2_checkIndex_2214a_5 : decode cJ2_checkIndex_2214a 5 = .ok (.invokestatic 414, 3) := by decide +kernel
theorem dJ2_checkIndex_2214a_8 : decode cJ2_checkIndex_2214a 8 = .ok (.return_, 1) := by decide +kernel
theorem dJ3_checkIndex_8e157_0 : decode cJ3_checkIndex_8e157 0 = .ok (.iload_n 0, 1) := by decide +kernel
theorem dJ3_checkIndex_8e157_1 : decode cJ3_checkIndex_8e157 1 = .ok (.ifCond .lt 8, 3) := by decide +kernel
theorem dJ3_checkIndex_8e157_4 : decode cJ3_checkIndex_8e157 4 = .ok (.iload_n 0, 1) := by decide +kernel
theorem dJ3_checkIndex_8e157_5 : decode cJ3_checkIndex_8e157 5 = .ok (.iload_n 1, 1) := by decide +kernel
theorem dJ3_checkIndex_8e157_6 : decode cJ3_checkIndex_8e157 6 = .ok (.if_icmp .lt 10, 3) := by decide +kernel
theorem dJ3_checkIndex_8e157_9 : decode cJ3_checkIndex_8e157 9 = .ok (.aload_n 2, 1) := by decide +kernel
theorem dJ3_checkIndex_8e157_10 : decode cJ3_checkIndex_8e157 10 = .ok (.iload_n 0, 1) := by decide +kernel
theorem dJ3_checkIndex_8e157_11 : decode cJ3_checkIndex_8e157 11 = .ok (.iload_n 1, 1) := by decide +kernel
end
section
theorem dJ3_checkIndex_8e157_12 : decode cJ3_checkIndex_8e157 12 = .ok (.invokestatic 95, 3) := by decide +kernel
theorem dJ3_checkIndex_8e157_15 : decode cJ3_checkIndex_8e157 15 = .ok (.athrow, 1) := by decide +kernel
theorem dJ3_checkIndex_8e157_16 : decode cJ3_checkIndex_8e157 16 = .ok (.iload_n 0, 1) := by decide +kernel
theorem dJ3_checkIndex_8e157_17 : decode cJ3_checkIndex_8e157 17 = .ok (.ireturn, 1) := by decide +kernel
theorem dL_law_0 : decode cL_law 0 = .ok (.new 7, 3) := by decide +kernel
theorem dL_law_3 : decode cL_law 3 = .ok (.dup, 1) := by decide +kernel
theorem dL_law_4 : decode cL_law 4 = .ok (.invokespecial 9, 3) := by decide +kernel
theorem dL_law_7 : decode cL_law 7 = .ok (.astore_n 1, 1) := by decide +kernel
theorem dL_law_8 : decode cL_law 8 = .ok (.new 10, 3) := by decide +kernel
theorem dL_law_11 : decode cL_law 11 = .ok (.dup, 1) := by decide +kernel
theorem dL_law_12 : decode cL_law 12 = .ok (.invokespecial 12, 3) := by decide +kernel
theorem dL_law_15 : decode cL_law 15 = .ok (.astore_n 2, 1) := by decide +kernel
theorem dL_law_16 : decode cL_law 16 = .ok (.iconst 0, 1) := by decide +kernel
theorem dL_law_17 : decode cL_law 17 = .ok (.istore_n 3, 1) := by decide +kernel
theorem dL_law_18 : decode cL_law 18 = .ok (.iload_n 3, 1) := by decide +kernel
theorem dL_law_19 : decode cL_law 19 = .ok (.aload_n 0, 1) := by decide +kernel
theorem dL_law_20 : decode cL_law 20 = .ok (.arraylength, 1) := by decide +kernel
theorem dL_law_21 : decode cL_law 21 = .ok (.bipush 6, 2) := by decide +kernel
theorem dL_law_23 : decode cL_law 23 = .ok (.isub, 1) := by decide +kernel
theorem dL_law_24 : decode cL_law 24 = .ok (.if_icmp .gt 1185, 3) := by decide +kernel
theorem dL_law_27 : decode cL_law 27 = .ok (.aload_n 0, 1) := by decide +kernel
theorem dL_law_28 : decode cL_law 28 = .ok (.iload_n 3, 1) := by decide +kernel
theorem dL_law_29 : decode cL_law 29 = .ok (.iaload, 1) := by decide +kernel
theorem dL_law_30 : decode cL_law 30 = .ok (.bipush 63, 2) := by decide +kernel
theorem dL_law_32 : decode cL_law 32 = .ok (.iand, 1) := by decide +kernel
theorem dL_law_33 : decode cL_law 33 = .ok (.tableswitch 1170 0 32 #[147, 200, 233, 256, 279, 312, 361, 384, 397, 420, 443, 496, 529, 562, 595, 618, 677, 700, 713, 726, 749, 782, 826, 869, 892, 935, 979, 1042, 1065, 1088, 1121, 1134, 1147], 147) := by decide +kernel
theorem dL_law_180 : decode cL_law 180 = .ok (.aload_n 1, 1) := by decide +kernel
theorem dL_law_181 : decode cL_law 181 = .ok (.aload_n 0, 1) := by decide +kernel
theorem dL_law_182 : decode cL_law 182 = .ok (.iload_n 3, 1) := by decide +kernel
theorem dL_law_183 : decode cL_law 183 = .ok (.iconst 1, 1) := by decide +kernel
theorem dL_law_184 : decode cL_law 184 = .ok (.iadd, 1) := by decide +kernel
theorem dL_law_185 : decode cL_law 185 = .ok (.iaload, 1) := by decide +kernel
theorem dL_law_186 : decode cL_law 186 = .ok (.aload_n 0, 1) := by decide +kernel
theorem dL_law_187 : decode cL_law 187 = .ok (.iload_n 3, 1) := by decide +kernel
theorem dL_law_188 : decode cL_law 188 = .ok (.iconst 2, 1) := by decide +kernel
theorem dL_law_189 : decode cL_law 189 = .ok (.iadd, 1) := by decide +kernel
theorem dL_law_190 : decode cL_law 190 = .ok (.iaload, 1) := by decide +kernel
theorem dL_law_191 : decode cL_law 191 = .ok (.aload_n 0, 1) := by decide +kernel
theorem dL_law_192 : decode cL_law 192 = .ok (.iload_n 3, 1) := by decide +kernel
theorem dL_law_193 : decode cL_law 193 = .ok (.iconst 3, 1) := by decide +kernel
theorem dL_law_194 : decode cL_law 194 = .ok (.iadd, 1) := by decide +kernel
theorem dL_law_195 : decode cL_law 195 = .ok (.iaload, 1) := by decide +kernel
theorem dL_law_196 : decode cL_law 196 = .ok (.aload_n 0, 1) := by decide +kernel
theorem dL_law_197 : decode cL_law 197 = .ok (.iload_n 3, 1) := by decide +kernel
theorem dL_law_198 : decode cL_law 198 = .ok (.iconst 4, 1) := by decide +kernel
theorem dL_law_199 : decode cL_law 199 = .ok (.iadd, 1) := by decide +kernel
theorem dL_law_200 : decode cL_law 200 = .ok (.iaload, 1) := by decide +kernel
theorem dL_law_201 : decode cL_law 201 = .ok (.invokevirtual 13, 3) := by decide +kernel
theorem dL_law_204 : decode cL_law 204 = .ok (.aload_n 2, 1) := by decide +kernel
theorem dL_law_205 : decode cL_law 205 = .ok (.aload_n 0, 1) := by decide +kernel
theorem dL_law_206 : decode cL_law 206 = .ok (.iload_n 3, 1) := by decide +kernel
theorem dL_law_207 : decode cL_law 207 = .ok (.iconst 1, 1) := by decide +kernel
theorem dL_law_208 : decode cL_law 208 = .ok (.iadd, 1) := by decide +kernel
theorem dL_law_209 : decode cL_law 209 = .ok (.iaload, 1) := by decide +kernel
theorem dL_law_210 : decode cL_law 210 = .ok (.aload_n 0, 1) := by decide +kernel
theorem dL_law_211 : decode cL_law 211 = .ok (.iload_n 3, 1) := by decide +kernel
theorem dL_law_212 : decode cL_law 212 = .ok (.iconst 2, 1) := by decide +kernel
theorem dL_law_213 : decode cL_law 213 = .ok (.iadd, 1) := by decide +kernel
theorem dL_law_214 : decode cL_law 214 = .ok (.iaload, 1) := by decide +kernel
theorem dL_law_215 : decode cL_law 215 = .ok (.aload_n 0, 1) := by decide +kernel
theorem dL_law_216 : decode cL_law 216 = .ok (.iload_n 3, 1) := by decide +kernel
theorem dL_law_217 : decode cL_law 217 = .ok (.iconst 3, 1) := by decide +kernel
theorem dL_law_218 : decode cL_law 218 = .ok (.iadd, 1) := by decide +kernel
theorem dL_law_219 : decode cL_law 219 = .ok (.iaload, 1) := by decide +kernel
theorem dL_law_220 : decode cL_law 220 = .ok (.aload_n 0, 1) := by decide +kernel
theorem dL_law_221 : decode cL_law 221 = .ok (.iload_n 3, 1) := by decide +kernel
theorem dL_law_222 : decode cL_law 222 = .ok (.iconst 4, 1) := by decide +kernel
theorem dL_law_223 : decode cL_law 223 = .ok (.iadd, 1) := by decide +kernel
theorem dL_law_224 : decode cL_law 224 = .ok (.iaload, 1) := by decide +kernel
theorem dL_law_225 : decode cL_law 225 = .ok (.invokevirtual 17, 3) := by decide +kernel
theorem dL_law_228 : decode cL_law 228 = .ok (.if_icmp .eq 975, 3) := by decide +kernel
theorem dL_law_231 : decode cL_law 231 = .ok (.iconst 0, 1) := by decide +kernel
theorem dL_law_232 : decode cL_law 232 = .ok (.ireturn, 1) := by decide +kernel
theorem dL_law_233 : decode cL_law 233 = .ok (.aload_n 1, 1) := by decide +kernel
theorem dL_law_234 : decode cL_law 234 = .ok (.aload_n 0, 1) := by decide +kernel
theorem dL_law_235 : decode cL_law 235 = .ok (.iload_n 3, 1) := by decide +kernel
theorem dL_law_236 : decode cL_law 236 = .ok (.iconst 1, 1) := by decide +kernel
theorem dL_law_237 : decode cL_law 237 = .ok (.iadd, 1) := by decide +kernel
theorem dL_law_238 : decode cL_law 238 = .ok (.iaload, 1) := by decide +kernel
theorem dL_law_239 : decode cL_law 239 = .ok (.aload_n 0, 1) := by decide +kernel
theorem dL_law_240 : decode cL_law 240 = .ok (.iload_n 3, 1) := by decide +kernel
theorem dL_law_241 : decode cL_law 241 = .ok (.iconst 2, 1) := by decide +kernel
theorem dL_law_242 : decode cL_law 242 = .ok (.iadd, 1) := by decide +kernel
theorem dL_law_243 : decode cL_law 243 = .ok (.iaload, 1) := by decide +kernel
theorem dL_law_244 : decode cL_law 244 = .ok (.invokevirtual 18, 3) := by decide +kernel
theorem dL_law_247 : decode cL_law 247 = .ok (.aload_n 2, 1) := by decide +kernel
theorem dL_law_248 : decode cL_law 248 = .ok (.aload_n 0, 1) := by decide +kernel
theorem dL_law_249 : decode cL_law 249 = .ok (.iload_n 3, 1) := by decide +kernel
theorem dL_law_250 : decode cL_law 250 = .ok (.iconst 1, 1) := by decide +kernel
theorem dL_law_251 : decode cL_law 251 = .ok (.iadd, 1) := by decide +kernel
theorem dL_law_252 : decode cL_law 252 = .ok (.iaload, 1) := by decide +kernel
theorem dL_law_253 : decode cL_law 253 = .ok (.aload_n 0, 1) := by decide +kernel
theorem dL_law_254 : decode cL_law 254 = .ok (.iload_n 3, 1) := by decide +kernel
theorem dL_law_255 : decode cL_law 255 = .ok (.iconst 2, 1) := by decide +kernel
theorem dL_law_256 : decode cL_law 256 = .ok (.iadd, 1) := by decide +kernel
theorem dL_law_257 : decode cL_law 257 = .ok (.iaload, 1) := by decide +kernel
theorem dL_law_258 : decode cL_law 258 = .ok (.invokevirtual 22, 3) := by decide +kernel
theorem dL_law_261 : decode cL_law 261 = .ok (.if_icmp .eq 942, 3) := by decide +kernel
theorem dL_law_264 : decode cL_law 264 = .ok (.iconst 0, 1) := by decide +kernel
theorem dL_law_265 : decode cL_law 265 = .ok (.ireturn, 1) := by decide +kernel
theorem dL_law_266 : decode cL_law 266 = .ok (.aload_n 1, 1) := by decide +kernel
theorem dL_law_267 : decode cL_law 267 = .ok (.aload_n 0, 1) := by decide +kernel
theorem dL_law_268 : decode cL_law 268 = .ok (.iload_n 3, 1) := by decide +kernel
theorem dL_law_269 : decode cL_law 269 = .ok (.iconst 1, 1) := by decide +kernel
theorem dL_law_270 : decode cL_law 270 = .ok (.iadd, 1) := by decide +kernel
theorem dL_law_271 : decode cL_law 271 = .ok (.iaload, 1) := by decide +kernel
theorem dL_law_272 : decode cL_law 272 = .ok (.invokevirtual 23, 3) := by decide +kernel
theorem dL_law_275 : decode cL_law 275 = .ok (.aload_n 2, 1) := by decide +kernel
theorem dL_law_276 : decode cL_law 276 = .ok (.aload_n 0, 1) := by decide +kernel
theorem dL_law_277 : decode cL_law 277 = .ok (.iload_n 3, 1) := by decide +kernel
theorem dL_law_278 : decode cL_law 278 = .ok (.iconst 1, 1) := by decide +kernel
theorem dL_law_279 : decode cL_law 279 = .ok (.iadd, 1) := by decide +kernel
theorem dL_law_280 : decode cL_law 280 = .ok (.iaload, 1) := by decide +kernel
theorem dL_law_281 : decode cL_law 281 = .ok (.invokevirtual 27, 3) := by decide +kernel
theorem dL_law_284 : decode cL_law 284 = .ok (.if_icmp .eq 919, 3) := by decide +kernel
theorem dL_law_287 : decode cL_law 287 = .ok (.iconst 0, 1) := by decide +kernel
theorem dL_law_288 : decode cL_law 288 = .ok (.ireturn, 1) := by decide +kernel
theorem dL_law_289 : decode cL_law 289 = .ok (.aload_n 1, 1) := by decide +kernel
theorem dL_law_290 : decode cL_law 290 = .ok (.aload_n 0, 1) := by decide +kernel
theorem dL_law_291 : decode cL_law 291 = .ok (.iload_n 3, 1) := by decide +kernel
theorem dL_law_292 : decode cL_law 292 = .ok (.iconst 1, 1) := by decide +kernel
theorem dL_law_293 : decode cL_law 293 = .ok (.iadd, 1) := by decide +kernel
theorem dL_law_294 : decode cL_law 294 = .ok (.iaload, 1) := by decide +kernel
theorem dL_law_295 : decode cL_law 295 = .ok (.invokevirtual 28, 3) := by decide +kernel
theorem dL_law_298 : decode cL_law 298 = .ok (.aload_n 2, 1) := by decide +kernel
theorem dL_law_299 : decode cL_law 299 = .ok (.aload_n 0, 1) := by decide +kernel
theorem dL_law_300 : decode cL_law 300 = .ok (.iload_n 3, 1) := by decide +kernel
theorem dL_law_301 : decode cL_law 301 = .ok (.iconst 1, 1) := by decide +kernel
theorem dL_law_302 : decode cL_law 302 = .ok (.iadd, 1) := by decide +kernel
theorem dL_law_303 : decode cL_law 303 = .ok (.iaload, 1) := by decide +kernel
theorem dL_law_304 : decode cL_law 304 = .ok (.invokevirtual 31, 3) := by decide +kernel
theorem dL_law_307 : decode cL_law 307 = .ok (.if_icmp .eq 896, 3) := by decide +kernel
theorem dL_law_310 : decode cL_law 310 = .ok (.iconst 0, 1) := by decide +kernel
theorem dL_law_311 : decode cL_law 311 = .ok (.ireturn, 1) := by decide +kernel
theorem dL_law_312 : decode cL_law 312 = .ok (.aload_n 1, 1) := by decide +kernel
theorem dL_law_313 : decode cL_law 313 = .ok (.aload_n 0, 1) := by decide +kernel
theorem dL_law_314 : decode cL_law 314 = .ok (.iload_n 3, 1) := by decide +kernel
theorem dL_law_315 : decode cL_law 315 = .ok (.iconst 1, 1) := by decide +kernel
theorem dL_law_316 : decode cL_law 316 = .ok (.iadd, 1) := by decide +kernel
theorem dL_law_317 : decode cL_law 317 = .ok (.iaload, 1) := by decide +kernel
theorem dL_law_318 : decode cL_law 318 = .ok (.aload_n 0, 1) := by decide +kernel
theorem dL_law_319 : decode cL_law 319 = .ok (.iload_n 3, 1) := by decide +kernel
theorem dL_law_320 : decode cL_law 320 = .ok (.iconst 2, 1) := by decide +kernel
theorem dL_law_321 : decode cL_law 321 = .ok (.iadd, 1) := by decide +kernel
theorem dL_law_322 : decode cL_law 322 = .ok (.iaload, 1) := by decide +kernel
theorem dL_law_323 : decode cL_law 323 = .ok (.invokevirtual 32, 3) := by decide +kernel
theorem dL_law_326 : decode cL_law 326 = .ok (.aload_n 2, 1) := by decide +kernel
theorem dL_law_327 : decode cL_law 327 = .ok (.aload_n 0, 1) := by decide +kernel
theorem dL_law_328 : decode cL_law 328 = .ok (.iload_n 3, 1) := by decide +kernel
theorem dL_law_329 : decode cL_law 329 = .ok (.iconst 1, 1) := by decide +kernel
theorem dL_law_330 : decode cL_law 330 = .ok (.iadd, 1) := by decide +kernel
theorem dL_law_331 : decode cL_law 331 = .ok (.iaload, 1) := by decide +kernel
theorem dL_law_332 : decode cL_law 332 = .ok (.aload_n 0, 1) := by decide +kernel
theorem dL_law_333 : decode cL_law 333 = .ok (.iload_n 3, 1) := by decide +kernel
theorem dL_law_334 : decode cL_law 334 = .ok (.iconst 2, 1) := by decide +kernel
theorem dL_law_335 : decode cL_law 335 = .ok (.iadd, 1) := by decide +kernel
theorem dL_law_336 : decode cL_law 336 = .ok (.iaload, 1) := by decide +kernel
theorem dL_law_337 : decode cL_law 337 = .ok (.invokevirtual 35, 3) := by decide +kernel
theorem dL_law_340 : decode cL_law 340 = .ok (.if_icmp .eq 863, 3) := by decide +kernel
theorem dL_law_343 : decode cL_law 343 = .ok (.iconst 0, 1) := by decide +kernel
theorem dL_law_344 : decode cL_law 344 = .ok (.ireturn, 1) := by decide +kernel
theorem dL_law_345 : decode cL_law 345 = .ok (.aload_n 1, 1) := by decide +kernel
theorem dL_law_346 : decode cL_law 346 = .ok (.aload_n 0, 1) := by decide +kernel
theorem dL_law_347 : decode cL_law 347 = .ok (.iload_n 3, 1) := by decide +kernel
theorem dL_law_348 : decode cL_law 348 = .ok (.iconst 1, 1) := by decide +kernel
theorem dL_law_349 : decode cL_law 349 = .ok (.iadd, 1) := by decide +kernel
theorem dL_law_350 : decode cL_law 350 = .ok (.iaload, 1) := by decide +kernel
theorem dL_law_351 : decode cL_law 351 = .ok (.aload_n 0, 1) := by decide +kernel
theorem dL_law_352 : decode cL_law 352 = .ok (.iload_n 3, 1) := by decide +kernel
theorem dL_law_353 : decode cL_law 353 = .ok (.iconst 2, 1) := by decide +kernel
theorem dL_law_354 : decode cL_law 354 = .ok (.iadd, 1) := by decide +kernel
theorem dL_law_355 : decode cL_law 355 = .ok (.iaload, 1) := by decide +kernel
theorem dL_law_356 : decode cL_law 356 = .ok (.ifCond .eq 7, 3) := by decide +kernel
theorem dL_law_359 : decode cL_law 359 = .ok (.iconst 1, 1) := by decide +kernel
theorem dL_law_360 : decode cL_law 360 = .ok (.goto 4, 3) := by decide +kernel
theorem dL_law_363 : decode cL_law 363 = .ok (.iconst 0, 1) := by decide +kernel
theorem dL_law_364 : decode cL_law 364 = .ok (.invokevirtual 36, 3) := by decide +kernel
theorem dL_law_367 : decode cL_law 367 = .ok (.aload_n 2, 1) := by decide +kernel
theorem dL_law_368 : decode cL_law 368 = .ok (.aload_n 0, 1) := by decide +kernel
theorem dL_law_369 : decode cL_law 369 = .ok (.iload_n 3, 1) := by decide +kernel
theorem dL_law_370 : decode cL_law 370 = .ok (.iconst 1, 1) := by decide +kernel
theorem dL_law_371 : decode cL_law 371 = .ok (.iadd, 1) := by decide +kernel
theorem dL_law_372 : decode cL_law 372 = .ok (.iaload, 1) := by decide +kernel
theorem dL_law_373 : decode cL_law 373 = .ok (.aload_n 0, 1) := by decide +kernel
theorem dL_law_374 : decode cL_law 374 = .ok (.iload_n 3, 1) := by decide +kernel
theorem dL_law_375 : decode cL_law 375 = .ok (.iconst 2, 1) := by decide +kernel
theorem dL_law_376 : decode cL_law 376 = .ok (.iadd, 1) := by decide +kernel
theorem dL_law_377 : decode cL_law 377 = .ok (.iaload, 1) := by decide +kernel
theorem dL_law_378 : decode cL_law 378 = .ok (.ifCond .eq 7, 3) := by decide +kernel
theorem dL_law_381 : decode cL_law 381 = .ok (.iconst 1, 1) := by decide +kernel
theorem dL_law_382 : decode cL_law 382 = .ok (.goto 4, 3) := by decide +kernel
theorem dL_law_385 : decode cL_law 385 = .ok (.iconst 0, 1) := by decide +kernel
theorem dL_law_386 : decode cL_law 386 = .ok (.invokevirtual 40, 3) := by decide +kernel
theorem dL_law_389 : decode cL_law 389 = .ok (.if_icmp .eq 814, 3) := by decide +kernel
theorem dL_law_392 : decode cL_law 392 = .ok (.iconst 0, 1) := by decide +kernel
theorem dL_law_393 : decode cL_law 393 = .ok (.ireturn, 1) := by decide +kernel
theorem dL_law_394 : decode cL_law 394 = .ok (.aload_n 1, 1) := by decide +kernel
theorem dL_law_395 : decode cL_law 395 = .ok (.aload_n 0, 1) := by decide +kernel
theorem dL_law_396 : decode cL_law 396 = .ok (.iload_n 3, 1) := by decide +kernel
theorem dL_law_397 : decode cL_law 397 = .ok (.iconst 1, 1) := by decide +kernel
theorem dL_law_398 : decode cL_law 398 = .ok (.iadd, 1) := by decide +kernel
theorem dL_law_399 : decode cL_law 399 = .ok (.iaload, 1) := by decide +kernel
theorem dL_law_400 : decode cL_law 400 = .ok (.invokevirtual 41, 3) := by decide +kernel
theorem dL_law_403 : decode cL_law 403 = .ok (.aload_n 2, 1) := by decide +kernel
theorem dL_law_404 : decode cL_law 404 = .ok (.aload_n 0, 1) := by decide +kernel
theorem dL_law_405 : decode cL_law 405 = .ok (.iload_n 3, 1) := by decide +kernel
theorem dL_law_406 : decode cL_law 406 = .ok (.iconst 1, 1) := by decide +kernel
theorem dL_law_407 : decode cL_law 407 = .ok (.iadd, 1) := by decide +kernel
theorem dL_law_408 : decode cL_law 408 = .ok (.iaload, 1) := by decide +kernel
theorem dL_law_409 : decode cL_law 409 = .ok (.invokevirtual 44, 3) := by decide +kernel
theorem dL_law_412 : decode cL_law 412 = .ok (.if_icmp .eq 791, 3) := by decide +kernel
theorem dL_law_415 : decode cL_law 415 = .ok (.iconst 0, 1) := by decide +kernel
theorem dL_law_416 : decode cL_law 416 = .ok (.ireturn, 1) := by decide +kernel
theorem dL_law_417 : decode cL_law 417 = .ok (.aload_n 1, 1) := by decide +kernel
theorem dL_law_418 : decode cL_law 418 = .ok (.invokevirtual 45, 3) := by decide +kernel
theorem dL_law_421 : decode cL_law 421 = .ok (.aload_n 2, 1) := by decide +kernel
theorem dL_law_422 : decode cL_law 422 = .ok (.invokevirtual 49, 3) := by decide +kernel
theorem dL_law_425 : decode cL_law 425 = .ok (.if_icmp .eq 778, 3) := by decide +kernel
theorem dL_law_428 : decode cL_law 428 = .ok (.iconst 0, 1) := by decide +kernel
theorem dL_law_429 : decode cL_law 429 = .ok (.ireturn, 1) := by decide +kernel
theorem dL_law_430 : decode cL_law 430 = .ok (.aload_n 1, 1) := by decide +kernel
theorem dL_law_431 : decode cL_law 431 = .ok (.aload_n 0, 1) := by decide +kernel
theorem dL_law_432 : decode cL_law 432 = .ok (.iload_n 3, 1) := by decide +kernel
theorem dL_law_433 : decode cL_law 433 = .ok (.iconst 1, 1) := by decide +kernel
theorem dL_law_434 : decode cL_law 434 = .ok (.iadd, 1) := by decide +kernel
theorem dL_law_435 : decode cL_law 435 = .ok (.iaload, 1) := by decide +kernel
theorem dL_law_436 : decode cL_law 436 = .ok (.invokevirtual 50, 3) := by decide +kernel
theorem dL_law_439 : decode cL_law 439 = .ok (.aload_n 2, 1) := by decide +kernel
theorem dL_law_440 : decode cL_law 440 = .ok (.aload_n 0, 1) := by decide +kernel
theorem dL_law_441 : decode cL_law 441 = .ok (.iload_n 3, 1) := by decide +kernel
theorem dL_law_442 : decode cL_law 442 = .ok (.iconst 1, 1) := by decide +kernel
theorem dL_law_443 : decode cL_law 443 = .ok (.iadd, 1) := by decide +kernel
theorem dL_law_444 : decode cL_law 444 = .ok (.iaload, 1) := by decide +kernel
theorem dL_law_445 : decode cL_law 445 = .ok (.invokevirtual 53, 3) := by decide +kernel
theorem dL_law_448 : decode cL_law 448 = .ok (.if_icmp .eq 755, 3) := by decide +kernel
theorem dL_law_451 : decode cL_law 451 = .ok (.iconst 0, 1) := by decide +kernel
theorem dL_law_452 : decode cL_law 452 = .ok (.ireturn, 1) := by decide +kernel
theorem dL_law_453 : decode cL_law 453 = .ok (.aload_n 1, 1) := by decide +kernel
theorem dL_law_454 : decode cL_law 454 = .ok (.aload_n 0, 1) := by decide +kernel
theorem dL_law_455 : decode cL_law 455 = .ok (.iload_n 3, 1) := by decide +kernel
theorem dL_law_456 : decode cL_law 456 = .ok (.iconst 1, 1) := by decide +kernel
theorem dL_law_457 : decode cL_law 457 = .ok (.iadd, 1) := by decide +kernel
theorem dL_law_458 : decode cL_law 458 = .ok (.iaload, 1) := by decide +kernel
theorem dL_law_459 : decode cL_law 459 = .ok (.invokevirtual 54, 3) := by decide +kernel
theorem dL_law_462 : decode cL_law 462 = .ok (.aload_n 2, 1) := by decide +kernel
theorem dL_law_463 : decode cL_law 463 = .ok (.aload_n 0, 1) := by decide +kernel
theorem dL_law_464 : decode cL_law 464 = .ok (.iload_n 3, 1) := by decide +kernel
theorem dL_law_465 : decode cL_law 465 = .ok (.iconst 1, 1) := by decide +kernel
theorem dL_law_466 : decode cL_law 466 = .ok (.iadd, 1) := by decide +kernel
theorem dL_law_467 : decode cL_law 467 = .ok (.iaload, 1) := by decide +kernel
theorem dL_law_468 : decode cL_law 468 = .ok (.invokevirtual 57, 3) := by decide +kernel
theorem dL_law_471 : decode cL_law 471 = .ok (.if_icmp .eq 732, 3) := by decide +kernel
theorem dL_law_474 : decode cL_law 474 = .ok (.iconst 0, 1) := by decide +kernel
theorem dL_law_475 : decode cL_law 475 = .ok (.ireturn, 1) := by decide +kernel
theorem dL_law_476 : decode cL_law 476 = .ok (.aload_n 1, 1) := by decide +kernel
theorem dL_law_477 : decode cL_law 477 = .ok (.aload_n 0, 1) := by decide +kernel
theorem dL_law_478 : decode cL_law 478 = .ok (.iload_n 3, 1) := by decide +kernel
theorem dL_law_479 : decode cL_law 479 = .ok (.iconst 1, 1) := by decide +kernel
theorem dL_law_480 : decode cL_law 480 = .ok (.iadd, 1) := by decide +kernel
theorem dL_law_481 : decode cL_law 481 = .ok (.iaload, 1) := by decide +kernel
theorem dL_law_482 : decode cL_law 482 = .ok (.aload_n 0, 1) := by decide +kernel
theorem dL_law_483 : decode cL_law 483 = .ok (.iload_n 3, 1) := by decide +kernel
theorem dL_law_484 : decode cL_law 484 = .ok (.iconst 2, 1) := by decide +kernel
theorem dL_law_485 : decode cL_law 485 = .ok (.iadd, 1) := by decide +kernel
theorem dL_law_486 : decode cL_law 486 = .ok (.iaload, 1) := by decide +kernel
theorem dL_law_487 : decode cL_law 487 = .ok (.aload_n 0, 1) := by decide +kernel
theorem dL_law_488 : decode cL_law 488 = .ok (.iload_n 3, 1) := by decide +kernel
theorem dL_law_489 : decode cL_law 489 = .ok (.iconst 3, 1) := by decide +kernel
theorem dL_law_490 : decode cL_law 490 = .ok (.iadd, 1) := by decide +kernel
theorem dL_law_491 : decode cL_law 491 = .ok (.iaload, 1) := by decide +kernel
theorem dL_law_492 : decode cL_law 492 = .ok (.aload_n 0, 1) := by decide +kernel
theorem dL_law_493 : decode cL_law 493 = .ok (.iload_n 3, 1) := by decide +kernel
theorem dL_law_494 : decode cL_law 494 = .ok (.iconst 4, 1) := by decide +kernel
theorem dL_law_495 : decode cL_law 495 = .ok (.iadd, 1) := by decide +kernel
theorem dL_law_496 : decode cL_law 496 = .ok (.iaload, 1) := by decide +kernel
theorem dL_law_497 : decode cL_law 497 = .ok (.invokevirtual 58, 3) := by decide +kernel
theorem dL_law_500 : decode cL_law 500 = .ok (.aload_n 2, 1) := by decide +kernel
theorem dL_law_501 : decode cL_law 501 = .ok (.aload_n 0, 1) := by decide +kernel
theorem dL_law_502 : decode cL_law 502 = .ok (.iload_n 3, 1) := by decide +kernel
theorem dL_law_503 : decode cL_law 503 = .ok (.iconst 1, 1) := by decide +kernel
theorem dL_law_504 : decode cL_law 504 = .ok (.iadd, 1) := by decide +kernel
theorem dL_law_505 : decode cL_law 505 = .ok (.iaload, 1) := by decide +kernel
theorem dL_law_506 : decode cL_law 506 = .ok (.aload_n 0, 1) := by decide +kernel
theorem dL_law_507 : decode cL_law 507 = .ok (.iload_n 3, 1) := by decide +kernel
theorem dL_law_508 : decode cL_law 508 = .ok (.iconst 2, 1) := by decide +kernel
theorem dL_law_509 : decode cL_law 509 = .ok (.iadd, 1) := by decide +kernel
theorem dL_law_510 : decode cL_law 510 = .ok (.iaload, 1) := by decide +kernel
theorem dL_law_511 : decode cL_law 511 = .ok (.aload_n 0, 1) := by decide +kernel
theorem dL_law_512 : decode cL_law 512 = .ok (.iload_n 3, 1) := by decide +kernel
theorem dL_law_513 : decode cL_law 513 = .ok (.iconst 3, 1) := by decide +kernel
theorem dL_law_514 : decode cL_law 514 = .ok (.iadd, 1) := by decide +kernel
theorem dL_law_515 : decode cL_law 515 = .ok (.iaload, 1) := by decide +kernel
theorem dL_law_516 : decode cL_law 516 = .ok (.aload_n 0, 1) := by decide +kernel
theorem dL_law_517 : decode cL_law 517 = .ok (.iload_n 3, 1) := by decide +kernel
theorem dL_law_518 : decode cL_law 518 = .ok (.iconst 4, 1) := by decide +kernel
theorem dL_law_519 : decode cL_law 519 = .ok (.iadd, 1) := by decide +kernel
theorem dL_law_520 : decode cL_law 520 = .ok (.iaload, 1) := by decide +kernel
theorem dL_law_521 : decode cL_law 521 = .ok (.invokevirtual 61, 3) := by decide +kernel
theorem dL_law_524 : decode cL_law 524 = .ok (.if_icmp .eq 679, 3) := by decide +kernel
theorem dL_law_527 : decode cL_law 527 = .ok (.iconst 0, 1) := by decide +kernel
theorem dL_law_528 : decode cL_law 528 = .ok (.ireturn, 1) := by decide +kernel
theorem dL_law_529 : decode cL_law 529 = .ok (.aload_n 1, 1) := by decide +kernel
theorem dL_law_530 : decode cL_law 530 = .ok (.aload_n 0, 1) := by decide +kernel
theorem dL_law_531 : decode cL_law 531 = .ok (.iload_n 3, 1) := by decide +kernel
theorem dL_law_532 : decode cL_law 532 = .ok (.iconst 1, 1) := by decide +kernel
theorem dL_law_533 : decode cL_law 533 = .ok (.iadd, 1) := by decide +kernel
theorem dL_law_534 : decode cL_law 534 = .ok (.iaload, 1) := by decide +kernel
theorem dL_law_535 : decode cL_law 535 = .ok (.aload_n 0, 1) := by decide +kernel
theorem dL_law_536 : decode cL_law 536 = .ok (.iload_n 3, 1) := by decide +kernel
theorem dL_law_537 : decode cL_law 537 = .ok (.iconst 2, 1) := by decide +kernel
theorem dL_law_538 : decode cL_law 538 = .ok (.iadd, 1) := by decide +kernel
theorem dL_law_539 : decode cL_law 539 = .ok (.iaload, 1) := by decide +kernel
theorem dL_law_540 : decode cL_law 540 = .ok (.invokevirtual 62, 3) := by decide +kernel
theorem dL_law_543 : decode cL_law 543 = .ok (.aload_n 2, 1) := by decide +kernel
theorem dL_law_544 : decode cL_law 544 = .ok (.aload_n 0, 1) := by decide +kernel
theorem dL_law_545 : decode cL_law 545 = .ok (.iload_n 3, 1) := by decide +kernel
theorem dL_law_546 : decode cL_law 546 = .ok (.iconst 1, 1) := by decide +kernel
theorem dL_law_547 : decode cL_law 547 = .ok (.iadd, 1) := by decide +kernel
theorem dL_law_548 : decode cL_law 548 = .ok (.iaload, 1) := by decide +kernel
theorem dL_law_549 : decode cL_law 549 = .ok (.aload_n 0, 1) := by decide +kernel
theorem dL_law_550 : decode cL_law 550 = .ok (.iload_n 3, 1) := by decide +kernel
theorem dL_law_551 : decode cL_law 551 = .ok (.iconst 2, 1) := by decide +kernel
theorem dL_law_552 : decode cL_law 552 = .ok (.iadd, 1) := by decide +kernel
theorem dL_law_553 : decode cL_law 553 = .ok (.iaload, 1) := by decide +kernel
theorem dL_law_554 : decode cL_law 554 = .ok (.invokevirtual 65, 3) := by decide +kernel
theorem dL_law_557 : decode cL_law 557 = .ok (.if_icmp .eq 646, 3) := by decide +kernel
theorem dL_law_560 : decode cL_law 560 = .ok (.iconst 0, 1) := by decide +kernel
theorem dL_law_561 : decode cL_law 561 = .ok (.ireturn, 1) := by decide +kernel
theorem dL_law_562 : decode cL_law 562 = .ok (.aload_n 1, 1) := by decide +kernel
theorem dL_law_563 : decode cL_law 563 = .ok (.aload_n 0, 1) := by decide +kernel
theorem dL_law_564 : decode cL_law 564 = .ok (.iload_n 3, 1) := by decide +kernel
theorem dL_law_565 : decode cL_law 565 = .ok (.iconst 1, 1) := by decide +kernel
theorem dL_law_566 : decode cL_law 566 = .ok (.iadd, 1) := by decide +kernel
theorem dL_law_567 : decode cL_law 567 = .ok (.iaload, 1) := by decide +kernel
theorem dL_law_568 : decode cL_law 568 = .ok (.aload_n 0, 1) := by decide +kernel
theorem dL_law_569 : decode cL_law 569 = .ok (.iload_n 3, 1) := by decide +kernel
theorem dL_law_570 : decode cL_law 570 = .ok (.iconst 2, 1) := by decide +kernel
theorem dL_law_571 : decode cL_law 571 = .ok (.iadd, 1) := by decide +kernel
theorem dL_law_572 : decode cL_law 572 = .ok (.iaload, 1) := by decide +kernel
theorem dL_law_573 : decode cL_law 573 = .ok (.invokevirtual 66, 3) := by decide +kernel
theorem dL_law_576 : decode cL_law 576 = .ok (.aload_n 2, 1) := by decide +kernel
theorem dL_law_577 : decode cL_law 577 = .ok (.aload_n 0, 1) := by decide +kernel
theorem dL_law_578 : decode cL_law 578 = .ok (.iload_n 3, 1) := by decide +kernel
theorem dL_law_579 : decode cL_law 579 = .ok (.iconst 1, 1) := by decide +kernel
theorem dL_law_580 : decode cL_law 580 = .ok (.iadd, 1) := by decide +kernel
theorem dL_law_581 : decode cL_law 581 = .ok (.iaload, 1) := by decide +kernel
theorem dL_law_582 : decode cL_law 582 = .ok (.aload_n 0, 1) := by decide +kernel
theorem dL_law_583 : decode cL_law 583 = .ok (.iload_n 3, 1) := by decide +kernel
theorem dL_law_584 : decode cL_law 584 = .ok (.iconst 2, 1) := by decide +kernel
theorem dL_law_585 : decode cL_law 585 = .ok (.iadd, 1) := by decide +kernel
theorem dL_law_586 : decode cL_law 586 = .ok (.iaload, 1) := by decide +kernel
theorem dL_law_587 : decode cL_law 587 = .ok (.invokevirtual 69, 3) := by decide +kernel
theorem dL_law_590 : decode cL_law 590 = .ok (.if_icmp .eq 613, 3) := by decide +kernel
theorem dL_law_593 : decode cL_law 593 = .ok (.iconst 0, 1) := by decide +kernel
theorem dL_law_594 : decode cL_law 594 = .ok (.ireturn, 1) := by decide +kernel
theorem dL_law_595 : decode cL_law 595 = .ok (.aload_n 1, 1) := by decide +kernel
theorem dL_law_596 : decode cL_law 596 = .ok (.aload_n 0, 1) := by decide +kernel
theorem dL_law_597 : decode cL_law 597 = .ok (.iload_n 3, 1) := by decide +kernel
theorem dL_law_598 : decode cL_law 598 = .ok (.iconst 1, 1) := by decide +kernel
theorem dL_law_599 : decode cL_law 599 = .ok (.iadd, 1) := by decide +kernel
theorem dL_law_600 : decode cL_law 600 = .ok (.iaload, 1) := by decide +kernel
theorem dL_law_601 : decode cL_law 601 = .ok (.aload_n 0, 1) := by decide +kernel
theorem dL_law_602 : decode cL_law 602 = .ok (.iload_n 3, 1) := by decide +kernel
theorem dL_law_603 : decode cL_law 603 = .ok (.iconst 2, 1) := by decide +kernel
theorem dL_law_604 : decode cL_law 604 = .ok (.iadd, 1) := by decide +kernel
theorem dL_law_605 : decode cL_law 605 = .ok (.iaload, 1) := by decide +kernel
theorem dL_law_606 : decode cL_law 606 = .ok (.invokevirtual 70, 3) := by decide +kernel
theorem dL_law_609 : decode cL_law 609 = .ok (.aload_n 2, 1) := by decide +kernel
theorem dL_law_610 : decode cL_law 610 = .ok (.aload_n 0, 1) := by decide +kernel
theorem dL_law_611 : decode cL_law 611 = .ok (.iload_n 3, 1) := by decide +kernel
theorem dL_law_612 : decode cL_law 612 = .ok (.iconst 1, 1) := by decide +kernel
theorem dL_law_613 : decode cL_law 613 = .ok (.iadd, 1) := by decide +kernel
theorem dL_law_614 : decode cL_law 614 = .ok (.iaload, 1) := by decide +kernel
theorem dL_law_615 : decode cL_law 615 = .ok (.aload_n 0, 1) := by decide +kernel
theorem dL_law_616 : decode cL_law 616 = .ok (.iload_n 3, 1) := by decide +kernel
theorem dL_law_617 : decode cL_law 617 = .ok (.iconst 2, 1) := by decide +kernel
theorem dL_law_618 : decode cL_law 618 = .ok (.iadd, 1) := by decide +kernel
theorem dL_law_619 : decode cL_law 619 = .ok (.iaload, 1) := by decide +kernel
theorem dL_law_620 : decode cL_law 620 = .ok (.invokevirtual 73, 3) := by decide +kernel
theorem dL_law_623 : decode cL_law 623 = .ok (.if_icmp .eq 580, 3) := by decide +kernel
theorem dL_law_626 : decode cL_law 626 = .ok (.iconst 0, 1) := by decide +kernel
theorem dL_law_627 : decode cL_law 627 = .ok (.ireturn, 1) := by decide +kernel
theorem dL_law_628 : decode cL_law 628 = .ok (.aload_n 1, 1) := by decide +kernel
theorem dL_law_629 : decode cL_law 629 = .ok (.aload_n 0, 1) := by decide +kernel
theorem dL_law_630 : decode cL_law 630 = .ok (.iload_n 3, 1) := by decide +kernel
theorem dL_law_631 : decode cL_law 631 = .ok (.iconst 1, 1) := by decide +kernel
theorem dL_law_632 : decode cL_law 632 = .ok (.iadd, 1) := by decide +kernel
theorem dL_law_633 : decode cL_law 633 = .ok (.iaload, 1) := by decide +kernel
theorem dL_law_634 : decode cL_law 634 = .ok (.invokevirtual 74, 3) := by decide +kernel
theorem dL_law_637 : decode cL_law 637 = .ok (.aload_n 2, 1) := by decide +kernel
theorem dL_law_638 : decode cL_law 638 = .ok (.aload_n 0, 1) := by decide +kernel
theorem dL_law_639 : decode cL_law 639 = .ok (.iload_n 3, 1) := by decide +kernel
theorem dL_law_640 : decode cL_law 640 = .ok (.iconst 1, 1) := by decide +kernel
theorem dL_law_641 : decode cL_law 641 = .ok (.iadd, 1) := by decide +kernel
theorem dL_law_642 : decode cL_law 642 = .ok (.iaload, 1) := by decide +kernel
theorem dL_law_643 : decode cL_law 643 = .ok (.invokevirtual 77, 3) := by decide +kernel
theorem dL_law_646 : decode cL_law 646 = .ok (.if_icmp .eq 557, 3) := by decide +kernel
theorem dL_law_649 : decode cL_law 649 = .ok (.iconst 0, 1) := by decide +kernel
theorem dL_law_650 : decode cL_law 650 = .ok (.ireturn, 1) := by decide +kernel
theorem dL_law_651 : decode cL_law 651 = .ok (.aload_n 1, 1) := by decide +kernel
theorem dL_law_652 : decode cL_law 652 = .ok (.aload_n 0, 1) := by decide +kernel
theorem dL_law_653 : decode cL_law 653 = .ok (.iload_n 3, 1) := by decide +kernel
theorem dL_law_654 : decode cL_law 654 = .ok (.iconst 1, 1) := by decide +kernel
theorem dL_law_655 : decode cL_law 655 = .ok (.iadd, 1) := by decide +kernel
theorem dL_law_656 : decode cL_law 656 = .ok (.iaload, 1) := by decide +kernel
theorem dL_law_657 : decode cL_law 657 = .ok (.aload_n 0, 1) := by decide +kernel
theorem dL_law_658 : decode cL_law 658 = .ok (.iload_n 3, 1) := by decide +kernel
theorem dL_law_659 : decode cL_law 659 = .ok (.iconst 2, 1) := by decide +kernel
theorem dL_law_660 : decode cL_law 660 = .ok (.iadd, 1) := by decide +kernel
theorem dL_law_661 : decode cL_law 661 = .ok (.iaload, 1) := by decide +kernel
theorem dL_law_662 : decode cL_law 662 = .ok (.aload_n 0, 1) := by decide +kernel
theorem dL_law_663 : decode cL_law 663 = .ok (.iload_n 3, 1) := by decide +kernel
theorem dL_law_664 : decode cL_law 664 = .ok (.iconst 3, 1) := by decide +kernel
theorem dL_law_665 : decode cL_law 665 = .ok (.iadd, 1) := by decide +kernel
theorem dL_law_666 : decode cL_law 666 = .ok (.iaload, 1) := by decide +kernel
theorem dL_law_667 : decode cL_law 667 = .ok (.ifCond .eq 7, 3) := by decide +kernel
theorem dL_law_670 : decode cL_law 670 = .ok (.iconst 1, 1) := by decide +kernel
theorem dL_law_671 : decode cL_law 671 = .ok (.goto 4, 3) := by decide +kernel
theorem dL_law_674 : decode cL_law 674 = .ok (.iconst 0, 1) := by decide +kernel
theorem dL_law_675 : decode cL_law 675 = .ok (.invokevirtual 78, 3) := by decide +kernel
theorem dL_law_678 : decode cL_law 678 = .ok (.aload_n 2, 1) := by decide +kernel
theorem dL_law_679 : decode cL_law 679 = .ok (.aload_n 0, 1) := by decide +kernel
theorem dL_law_680 : decode cL_law 680 = .ok (.iload_n 3, 1) := by decide +kernel
theorem dL_law_681 : decode cL_law 681 = .ok (.iconst 1, 1) := by decide +kernel
theorem dL_law_682 : decode cL_law 682 = .ok (.iadd, 1) := by decide +kernel
theorem dL_law_683 : decode cL_law 683 = .ok (.iaload, 1) := by decide +kernel
theorem dL_law_684 : decode cL_law 684 = .ok (.aload_n 0, 1) := by decide +kernel
theorem dL_law_685 : decode cL_law 685 = .ok (.iload_n 3, 1) := by decide +kernel
theorem dL_law_686 : decode cL_law 686 = .ok (.iconst 2, 1) := by decide +kernel
theorem dL_law_687 : decode cL_law 687 = .ok (.iadd, 1) := by decide +kernel
theorem dL_law_688 : decode cL_law 688 = .ok (.iaload, 1) := by decide +kernel
theorem dL_law_689 : decode cL_law 689 = .ok (.aload_n 0, 1) := by decide +kernel
theorem dL_law_690 : decode cL_law 690 = .ok (.iload_n 3, 1) := by decide +kernel
theorem dL_law_691 : decode cL_law 691 = .ok (.iconst 3, 1) := by decide +kernel
theorem dL_law_692 : decode cL_law 692 = .ok (.iadd, 1) := by decide +kernel
theorem dL_law_693 : decode cL_law 693 = .ok (.iaload, 1) := by decide +kernel
theorem dL_law_694 : decode cL_law 694 = .ok (.ifCond .eq 7, 3) := by decide +kernel
theorem dL_law_697 : decode cL_law 697 = .ok (.iconst 1, 1) := by decide +kernel
theorem dL_law_698 : decode cL_law 698 = .ok (.goto 4, 3) := by decide +kernel
theorem dL_law_701 : decode cL_law 701 = .ok (.iconst 0, 1) := by decide +kernel
theorem dL_law_702 : decode cL_law 702 = .ok (.invokevirtual 82, 3) := by decide +kernel
theorem dL_law_705 : decode cL_law 705 = .ok (.if_icmp .eq 498, 3) := by decide +kernel
theorem dL_law_708 : decode cL_law 708 = .ok (.iconst 0, 1) := by decide +kernel
theorem dL_law_709 : decode cL_law 709 = .ok (.ireturn, 1) := by decide +kernel
theorem dL_law_710 : decode cL_law 710 = .ok (.aload_n 1, 1) := by decide +kernel
theorem dL_law_711 : decode cL_law 711 = .ok (.aload_n 0, 1) := by decide +kernel
theorem dL_law_712 : decode cL_law 712 = .ok (.iload_n 3, 1) := by decide +kernel
theorem dL_law_713 : decode cL_law 713 = .ok (.iconst 1, 1) := by decide +kernel
theorem dL_law_714 : decode cL_law 714 = .ok (.iadd, 1) := by decide +kernel
theorem dL_law_715 : decode cL_law 715 = .ok (.iaload, 1) := by decide +kernel
theorem dL_law_716 : decode cL_law 716 = .ok (.invokevirtual 83, 3) := by decide +kernel
theorem dL_law_719 : decode cL_law 719 = .ok (.aload_n 2, 1) := by decide +kernel
theorem dL_law_720 : decode cL_law 720 = .ok (.aload_n 0, 1) := by decide +kernel
theorem dL_law_721 : decode cL_law 721 = .ok (.iload_n 3, 1) := by decide +kernel
theorem dL_law_722 : decode cL_law 722 = .ok (.iconst 1, 1) := by decide +kernel
theorem dL_law_723 : decode cL_law 723 = .ok (.iadd, 1) := by decide +kernel
theorem dL_law_724 : decode cL_law 724 = .ok (.iaload, 1) := by decide +kernel
theorem dL_law_725 : decode cL_law 725 = .ok (.invokevirtual 86, 3) := by decide +kernel
theorem dL_law_728 : decode cL_law 728 = .ok (.if_icmp .eq 475, 3) := by decide +kernel
theorem dL_law_731 : decode cL_law 731 = .ok (.iconst 0, 1) := by decide +kernel
theorem dL_law_732 : decode cL_law 732 = .ok (.ireturn, 1) := by decide +kernel
theorem dL_law_733 : decode cL_law 733 = .ok (.aload_n 1, 1) := by decide +kernel
theorem dL_law_734 : decode cL_law 734 = .ok (.invokevirtual 87, 3) := by decide +kernel
theorem dL_law_737 : decode cL_law 737 = .ok (.aload_n 2, 1) := by decide +kernel
theorem dL_law_738 : decode cL_law 738 = .ok (.invokevirtual 90, 3) := by decide +kernel
theorem dL_law_741 : decode cL_law 741 = .ok (.if_icmp .eq 462, 3) := by decide +kernel
theorem dL_law_744 : decode cL_law 744 = .ok (.iconst 0, 1) := by decide +kernel
theorem dL_law_745 : decode cL_law 745 = .ok (.ireturn, 1) := by decide +kernel
theorem dL_law_746 : decode cL_law 746 = .ok (.aload_n 1, 1) := by decide +kernel
theorem dL_law_747 : decode cL_law 747 = .ok (.invokevirtual 91, 3) := by decide +kernel
theorem dL_law_750 : decode cL_law 750 = .ok (.aload_n 2, 1) := by decide +kernel
theorem dL_law_751 : decode cL_law 751 = .ok (.invokevirtual 94, 3) := by decide +kernel
theorem dL_law_754 : decode cL_law 754 = .ok (.if_icmp .eq 449, 3) := by decide +kernel
theorem dL_law_757 : decode cL_law 757 = .ok (.iconst 0, 1) := by decide +kernel
theorem dL_law_758 : decode cL_law 758 = .ok (.ireturn, 1) := by decide +kernel
theorem dL_law_759 : decode cL_law 759 = .ok (.aload_n 1, 1) := by decide +kernel
theorem dL_law_760 : decode cL_law 760 = .ok (.aload_n 0, 1) := by decide +kernel
theorem dL_law_761 : decode cL_law 761 = .ok (.iload_n 3, 1) := by decide +kernel
theorem dL_law_762 : decode cL_law 762 = .ok (.iconst 1, 1) := by decide +kernel
theorem dL_law_763 : decode cL_law 763 = .ok (.iadd, 1) := by decide +kernel
theorem dL_law_764 : decode cL_law 764 = .ok (.iaload, 1) := by decide +kernel
theorem dL_law_765 : decode cL_law 765 = .ok (.invokevirtual 95, 3) := by decide +kernel
theorem dL_law_768 : decode cL_law 768 = .ok (.aload_n 2, 1) := by decide +kernel
theorem dL_law_769 : decode cL_law 769 = .ok (.aload_n 0, 1) := by decide +kernel
theorem dL_law_770 : decode cL_law 770 = .ok (.iload_n 3, 1) := by decide +kernel
theorem dL_law_771 : decode cL_law 771 = .ok (.iconst 1, 1) := by decide +kernel
theorem dL_law_772 : decode cL_law 772 = .ok (.iadd, 1) := by decide +kernel
theorem dL_law_773 : decode cL_law 773 = .ok (.iaload, 1) := by decide +kernel
theorem dL_law_774 : decode cL_law 774 = .ok (.invokevirtual 98, 3) := by decide +kernel
theorem dL_law_777 : decode cL_law 777 = .ok (.if_icmp .eq 426, 3) := by decide +kernel
theorem dL_law_780 : decode cL_law 780 = .ok (.iconst 0, 1) := by decide +kernel
theorem dL_law_781 : decode cL_law 781 = .ok (.ireturn, 1) := by decide +kernel
theorem dL_law_782 : decode cL_law 782 = .ok (.aload_n 1, 1) := by decide +kernel
theorem dL_law_783 : decode cL_law 783 = .ok (.aload_n 0, 1) := by decide +kernel
theorem dL_law_784 : decode cL_law 784 = .ok (.iload_n 3, 1) := by decide +kernel
theorem dL_law_785 : decode cL_law 785 = .ok (.iconst 1, 1) := by decide +kernel
theorem dL_law_786 : decode cL_law 786 = .ok (.iadd, 1) := by decide +kernel
theorem dL_law_787 : decode cL_law 787 = .ok (.iaload, 1) := by decide +kernel
theorem dL_law_788 : decode cL_law 788 = .ok (.aload_n 0, 1) := by decide +kernel
theorem dL_law_789 : decode cL_law 789 = .ok (.iload_n 3, 1) := by decide +kernel
theorem dL_law_790 : decode cL_law 790 = .ok (.iconst 2, 1) := by decide +kernel
theorem dL_law_791 : decode cL_law 791 = .ok (.iadd, 1) := by decide +kernel
theorem dL_law_792 : decode cL_law 792 = .ok (.iaload, 1) := by decide +kernel
theorem dL_law_793 : decode cL_law 793 = .ok (.invokevirtual 99, 3) := by decide +kernel
theorem dL_law_796 : decode cL_law 796 = .ok (.aload_n 2, 1) := by decide +kernel
theorem dL_law_797 : decode cL_law 797 = .ok (.aload_n 0, 1) := by decide +kernel
theorem dL_law_798 : decode cL_law 798 = .ok (.iload_n 3, 1) := by decide +kernel
theorem dL_law_799 : decode cL_law 799 = .ok (.iconst 1, 1) := by decide +kernel
theorem dL_law_800 : decode cL_law 800 = .ok (.iadd, 1) := by decide +kernel
theorem dL_law_801 : decode cL_law 801 = .ok (.iaload, 1) := by decide +kernel
theorem dL_law_802 : decode cL_law 802 = .ok (.aload_n 0, 1) := by decide +kernel
theorem dL_law_803 : decode cL_law 803 = .ok (.iload_n 3, 1) := by decide +kernel
theorem dL_law_804 : decode cL_law 804 = .ok (.iconst 2, 1) := by decide +kernel
theorem dL_law_805 : decode cL_law 805 = .ok (.iadd, 1) := by decide +kernel
theorem dL_law_806 : decode cL_law 806 = .ok (.iaload, 1) := by decide +kernel
theorem dL_law_807 : decode cL_law 807 = .ok (.invokevirtual 102, 3) := by decide +kernel
theorem dL_law_810 : decode cL_law 810 = .ok (.if_icmp .eq 393, 3) := by decide +kernel
theorem dL_law_813 : decode cL_law 813 = .ok (.iconst 0, 1) := by decide +kernel
theorem dL_law_814 : decode cL_law 814 = .ok (.ireturn, 1) := by decide +kernel
theorem dL_law_815 : decode cL_law 815 = .ok (.aload_n 1, 1) := by decide +kernel
theorem dL_law_816 : decode cL_law 816 = .ok (.aload_n 0, 1) := by decide +kernel
theorem dL_law_817 : decode cL_law 817 = .ok (.iload_n 3, 1) := by decide +kernel
theorem dL_law_818 : decode cL_law 818 = .ok (.iconst 1, 1) := by decide +kernel
theorem dL_law_819 : decode cL_law 819 = .ok (.iadd, 1) := by decide +kernel
theorem dL_law_820 : decode cL_law 820 = .ok (.iaload, 1) := by decide +kernel
theorem dL_law_821 : decode cL_law 821 = .ok (.aload_n 0, 1) := by decide +kernel
theorem dL_law_822 : decode cL_law 822 = .ok (.iload_n 3, 1) := by decide +kernel
theorem dL_law_823 : decode cL_law 823 = .ok (.iconst 2, 1) := by decide +kernel
theorem dL_law_824 : decode cL_law 824 = .ok (.iadd, 1) := by decide +kernel
theorem dL_law_825 : decode cL_law 825 = .ok (.iaload, 1) := by decide +kernel
theorem dL_law_826 : decode cL_law 826 = .ok (.aload_n 0, 1) := by decide +kernel
theorem dL_law_827 : decode cL_law 827 = .ok (.iload_n 3, 1) := by decide +kernel
theorem dL_law_828 : decode cL_law 828 = .ok (.iconst 3, 1) := by decide +kernel
theorem dL_law_829 : decode cL_law 829 = .ok (.iadd, 1) := by decide +kernel
theorem dL_law_830 : decode cL_law 830 = .ok (.iaload, 1) := by decide +kernel
theorem dL_law_831 : decode cL_law 831 = .ok (.invokevirtual 103, 3) := by decide +kernel
theorem dL_law_834 : decode cL_law 834 = .ok (.aload_n 2, 1) := by decide +kernel
theorem dL_law_835 : decode cL_law 835 = .ok (.aload_n 0, 1) := by decide +kernel
theorem dL_law_836 : decode cL_law 836 = .ok (.iload_n 3, 1) := by decide +kernel
theorem dL_law_837 : decode cL_law 837 = .ok (.iconst 1, 1) := by decide +kernel
theorem dL_law_838 : decode cL_law 838 = .ok (.iadd, 1) := by decide +kernel
theorem dL_law_839 : decode cL_law 839 = .ok (.iaload, 1) := by decide +kernel
theorem dL_law_840 : decode cL_law 840 = .ok (.aload_n 0, 1) := by decide +kernel
theorem dL_law_841 : decode cL_law 841 = .ok (.iload_n 3, 1) := by decide +kernel
theorem dL_law_842 : decode cL_law 842 = .ok (.iconst 2, 1) := by decide +kernel
theorem dL_law_843 : decode cL_law 843 = .ok (.iadd, 1) := by decide +kernel
theorem dL_law_844 : decode cL_law 844 = .ok (.iaload, 1) := by decide +kernel
theorem dL_law_845 : decode cL_law 845 = .ok (.aload_n 0, 1) := by decide +kernel
theorem dL_law_846 : decode cL_law 846 = .ok (.iload_n 3, 1) := by decide +kernel
theorem dL_law_847 : decode cL_law 847 = .ok (.iconst 3, 1) := by decide +kernel
theorem dL_law_848 : decode cL_law 848 = .ok (.iadd, 1) := by decide +kernel
theorem dL_law_849 : decode cL_law 849 = .ok (.iaload, 1) := by decide +kernel
theorem dL_law_850 : decode cL_law 850 = .ok (.invokevirtual 107, 3) := by decide +kernel
theorem dL_law_853 : decode cL_law 853 = .ok (.lcmp, 1) := by decide +kernel
theorem dL_law_854 : decode cL_law 854 = .ok (.ifCond .eq 349, 3) := by decide +kernel
theorem dL_law_857 : decode cL_law 857 = .ok (.iconst 0, 1) := by decide +kernel
theorem dL_law_858 : decode cL_law 858 = .ok (.ireturn, 1) := by decide +kernel
theorem dL_law_859 : decode cL_law 859 = .ok (.aload_n 1, 1) := by decide +kernel
theorem dL_law_860 : decode cL_law 860 = .ok (.aload_n 0, 1) := by decide +kernel
theorem dL_law_861 : decode cL_law 861 = .ok (.iload_n 3, 1) := by decide +kernel
theorem dL_law_862 : decode cL_law 862 = .ok (.iconst 1, 1) := by decide +kernel
theorem dL_law_863 : decode cL_law 863 = .ok (.iadd, 1) := by decide +kernel
theorem dL_law_864 : decode cL_law 864 = .ok (.iaload, 1) := by decide +kernel
theorem dL_law_865 : decode cL_law 865 = .ok (.aload_n 0, 1) := by decide +kernel
theorem dL_law_866 : decode cL_law 866 = .ok (.iload_n 3, 1) := by decide +kernel
theorem dL_law_867 : decode cL_law 867 = .ok (.iconst 2, 1) := by decide +kernel
theorem dL_law_868 : decode cL_law 868 = .ok (.iadd, 1) := by decide +kernel
theorem dL_law_869 : decode cL_law 869 = .ok (.iaload, 1) := by decide +kernel
theorem dL_law_870 : decode cL_law 870 = .ok (.aload_n 0, 1) := by decide +kernel
theorem dL_law_871 : decode cL_law 871 = .ok (.iload_n 3, 1) := by decide +kernel
theorem dL_law_872 : decode cL_law 872 = .ok (.iconst 3, 1) := by decide +kernel
theorem dL_law_873 : decode cL_law 873 = .ok (.iadd, 1) := by decide +kernel
theorem dL_law_874 : decode cL_law 874 = .ok (.iaload, 1) := by decide +kernel
theorem dL_law_875 : decode cL_law 875 = .ok (.invokevirtual 108, 3) := by decide +kernel
theorem dL_law_878 : decode cL_law 878 = .ok (.aload_n 2, 1) := by decide +kernel
theorem dL_law_879 : decode cL_law 879 = .ok (.aload_n 0, 1) := by decide +kernel
theorem dL_law_880 : decode cL_law 880 = .ok (.iload_n 3, 1) := by decide +kernel
theorem dL_law_881 : decode cL_law 881 = .ok (.iconst 1, 1) := by decide +kernel
theorem dL_law_882 : decode cL_law 882 = .ok (.iadd, 1) := by decide +kernel
theorem dL_law_883 : decode cL_law 883 = .ok (.iaload, 1) := by decide +kernel
theorem dL_law_884 : decode cL_law 884 = .ok (.aload_n 0, 1) := by decide +kernel
theorem dL_law_885 : decode cL_law 885 = .ok (.iload_n 3, 1) := by decide +kernel
theorem dL_law_886 : decode cL_law 886 = .ok (.iconst 2, 1) := by decide +kernel
theorem dL_law_887 : decode cL_law 887 = .ok (.iadd, 1) := by decide +kernel
theorem dL_law_888 : decode cL_law 888 = .ok (.iaload, 1) := by decide +kernel
theorem dL_law_889 : decode cL_law 889 = .ok (.aload_n 0, 1) := by decide +kernel
theorem dL_law_890 : decode cL_law 890 = .ok (.iload_n 3, 1) := by decide +kernel
theorem dL_law_891 : decode cL_law 891 = .ok (.iconst 3, 1) := by decide +kernel
theorem dL_law_892 : decode cL_law 892 = .ok (.iadd, 1) := by decide +kernel
theorem dL_law_893 : decode cL_law 893 = .ok (.iaload, 1) := by decide +kernel
theorem dL_law_894 : decode cL_law 894 = .ok (.invokevirtual 112, 3) := by decide +kernel
theorem dL_law_897 : decode cL_law 897 = .ok (.if_icmp .eq 306, 3) := by decide +kernel
theorem dL_law_900 : decode cL_law 900 = .ok (.iconst 0, 1) := by decide +kernel
theorem dL_law_901 : decode cL_law 901 = .ok (.ireturn, 1) := by decide +kernel
theorem dL_law_902 : decode cL_law 902 = .ok (.aload_n 1, 1) := by decide +kernel
theorem dL_law_903 : decode cL_law 903 = .ok (.aload_n 0, 1) := by decide +kernel
theorem dL_law_904 : decode cL_law 904 = .ok (.iload_n 3, 1) := by decide +kernel
theorem dL_law_905 : decode cL_law 905 = .ok (.iconst 1, 1) := by decide +kernel
theorem dL_law_906 : decode cL_law 906 = .ok (.iadd, 1) := by decide +kernel
theorem dL_law_907 : decode cL_law 907 = .ok (.iaload, 1) := by decide +kernel
theorem dL_law_908 : decode cL_law 908 = .ok (.invokevirtual 113, 3) := by decide +kernel
theorem dL_law_911 : decode cL_law 911 = .ok (.aload_n 2, 1) := by decide +kernel
theorem dL_law_912 : decode cL_law 912 = .ok (.aload_n 0, 1) := by decide +kernel
theorem dL_law_913 : decode cL_law 913 = .ok (.iload_n 3, 1) := by decide +kernel
theorem dL_law_914 : decode cL_law 914 = .ok (.iconst 1, 1) := by decide +kernel
theorem dL_law_915 : decode cL_law 915 = .ok (.iadd, 1) := by decide +kernel
theorem dL_law_916 : decode cL_law 916 = .ok (.iaload, 1) := by decide +kernel
theorem dL_law_917 : decode cL_law 917 = .ok (.invokevirtual 116, 3) := by decide +kernel
theorem dL_law_920 : decode cL_law 920 = .ok (.if_icmp .eq 283, 3) := by decide +kernel
theorem dL_law_923 : decode cL_law 923 = .ok (.iconst 0, 1) := by decide +kernel
theorem dL_law_924 : decode cL_law 924 = .ok (.ireturn, 1) := by decide +kernel
theorem dL_law_925 : decode cL_law 925 = .ok (.aload_n 1, 1) := by decide +kernel
theorem dL_law_926 : decode cL_law 926 = .ok (.aload_n 0, 1) := by decide +kernel
theorem dL_law_927 : decode cL_law 927 = .ok (.iload_n 3, 1) := by decide +kernel
theorem dL_law_928 : decode cL_law 928 = .ok (.iconst 1, 1) := by decide +kernel
theorem dL_law_929 : decode cL_law 929 = .ok (.iadd, 1) := by decide +kernel
theorem dL_law_930 : decode cL_law 930 = .ok (.iaload, 1) := by decide +kernel
theorem dL_law_931 : decode cL_law 931 = .ok (.aload_n 0, 1) := by decide +kernel
theorem dL_law_932 : decode cL_law 932 = .ok (.iload_n 3, 1) := by decide +kernel
theorem dL_law_933 : decode cL_law 933 = .ok (.iconst 2, 1) := by decide +kernel
theorem dL_law_934 : decode cL_law 934 = .ok (.iadd, 1) := by decide +kernel
theorem dL_law_935 : decode cL_law 935 = .ok (.iaload, 1) := by decide +kernel
theorem dL_law_936 : decode cL_law 936 = .ok (.aload_n 0, 1) := by decide +kernel
theorem dL_law_937 : decode cL_law 937 = .ok (.iload_n 3, 1) := by decide +kernel
theorem dL_law_938 : decode cL_law 938 = .ok (.iconst 3, 1) := by decide +kernel
theorem dL_law_939 : decode cL_law 939 = .ok (.iadd, 1) := by decide +kernel
theorem dL_law_940 : decode cL_law 940 = .ok (.iaload, 1) := by decide +kernel
theorem dL_law_941 : decode cL_law 941 = .ok (.invokevirtual 117, 3) := by decide +kernel
theorem dL_law_944 : decode cL_law 944 = .ok (.aload_n 2, 1) := by decide +kernel
theorem dL_law_945 : decode cL_law 945 = .ok (.aload_n 0, 1) := by decide +kernel
theorem dL_law_946 : decode cL_law 946 = .ok (.iload_n 3, 1) := by decide +kernel
theorem dL_law_947 : decode cL_law 947 = .ok (.iconst 1, 1) := by decide +kernel
theorem dL_law_948 : decode cL_law 948 = .ok (.iadd, 1) := by decide +kernel
theorem dL_law_949 : decode cL_law 949 = .ok (.iaload, 1) := by decide +kernel
theorem dL_law_950 : decode cL_law 950 = .ok (.aload_n 0, 1) := by decide +kernel
theorem dL_law_951 : decode cL_law 951 = .ok (.iload_n 3, 1) := by decide +kernel
theorem dL_law_952 : decode cL_law 952 = .ok (.iconst 2, 1) := by decide +kernel
theorem dL_law_953 : decode cL_law 953 = .ok (.iadd, 1) := by decide +kernel
theorem dL_law_954 : decode cL_law 954 = .ok (.iaload, 1) := by decide +kernel
theorem dL_law_955 : decode cL_law 955 = .ok (.aload_n 0, 1) := by decide +kernel
theorem dL_law_956 : decode cL_law 956 = .ok (.iload_n 3, 1) := by decide +kernel
theorem dL_law_957 : decode cL_law 957 = .ok (.iconst 3, 1) := by decide +kernel
theorem dL_law_958 : decode cL_law 958 = .ok (.iadd, 1) := by decide +kernel
theorem dL_law_959 : decode cL_law 959 = .ok (.iaload, 1) := by decide +kernel
theorem dL_law_960 : decode cL_law 960 = .ok (.invokevirtual 120, 3) := by decide +kernel
theorem dL_law_963 : decode cL_law 963 = .ok (.if_icmp .eq 240, 3) := by decide +kernel
theorem dL_law_966 : decode cL_law 966 = .ok (.iconst 0, 1) := by decide +kernel
theorem dL_law_967 : decode cL_law 967 = .ok (.ireturn, 1) := by decide +kernel
theorem dL_law_968 : decode cL_law 968 = .ok (.aload_n 1, 1) := by decide +kernel
theorem dL_law_969 : decode cL_law 969 = .ok (.aload_n 0, 1) := by decide +kernel
theorem dL_law_970 : decode cL_law 970 = .ok (.iload_n 3, 1) := by decide +kernel
theorem dL_law_971 : decode cL_law 971 = .ok (.iconst 1, 1) := by decide +kernel
theorem dL_law_972 : decode cL_law 972 = .ok (.iadd, 1) := by decide +kernel
theorem dL_law_973 : decode cL_law 973 = .ok (.iaload, 1) := by decide +kernel
theorem dL_law_974 : decode cL_law 974 = .ok (.aload_n 0, 1) := by decide +kernel
theorem dL_law_975 : decode cL_law 975 = .ok (.iload_n 3, 1) := by decide +kernel
theorem dL_law_976 : decode cL_law 976 = .ok (.iconst 2, 1) := by decide +kernel
theorem dL_law_977 : decode cL_law 977 = .ok (.iadd, 1) := by decide +kernel
theorem dL_law_978 : decode cL_law 978 = .ok (.iaload, 1) := by decide +kernel
theorem dL_law_979 : decode cL_law 979 = .ok (.aload_n 0, 1) := by decide +kernel
theorem dL_law_980 : decode cL_law 980 = .ok (.iload_n 3, 1) := by decide +kernel
theorem dL_law_981 : decode cL_law 981 = .ok (.iconst 3, 1) := by decide +kernel
theorem dL_law_982 : decode cL_law 982 = .ok (.iadd, 1) := by decide +kernel
theorem dL_law_983 : decode cL_law 983 = .ok (.iaload, 1) := by decide +kernel
theorem dL_law_984 : decode cL_law 984 = .ok (.invokevirtual 121, 3) := by decide +kernel
theorem dL_law_987 : decode cL_law 987 = .ok (.aload_n 2, 1) := by decide +kernel
theorem dL_law_988 : decode cL_law 988 = .ok (.aload_n 0, 1) := by decide +kernel
theorem dL_law_989 : decode cL_law 989 = .ok (.iload_n 3, 1) := by decide +kernel
theorem dL_law_990 : decode cL_law 990 = .ok (.iconst 1, 1) := by decide +kernel
theorem dL_law_991 : decode cL_law 991 = .ok (.iadd, 1) := by decide +kernel
theorem dL_law_992 : decode cL_law 992 = .ok (.iaload, 1) := by decide +kernel
theorem dL_law_993 : decode cL_law 993 = .ok (.aload_n 0, 1) := by decide +kernel
theorem dL_law_994 : decode cL_law 994 = .ok (.iload_n 3, 1) := by decide +kernel
theorem dL_law_995 : decode cL_law 995 = .ok (.iconst 2, 1) := by decide +kernel
theorem dL_law_996 : decode cL_law 996 = .ok (.iadd, 1) := by decide +kernel
theorem dL_law_997 : decode cL_law 997 = .ok (.iaload, 1) := by decide +kernel
theorem dL_law_998 : decode cL_law 998 = .ok (.aload_n 0, 1) := by decide +kernel
theorem dL_law_999 : decode cL_law 999 = .ok (.iload_n 3, 1) := by decide +kernel
theorem dL_law_1000 : decode cL_law 1000 = .ok (.iconst 3, 1) := by decide +kernel
theorem dL_law_1001 : decode cL_law 1001 = .ok (.iadd, 1) := by decide +kernel
theorem dL_law_1002 : decode cL_law 1002 = .ok (.iaload, 1) := by decide +kernel
theorem dL_law_1003 : decode cL_law 1003 = .ok (.invokevirtual 124, 3) := by decide +kernel
theorem dL_law_1006 : decode cL_law 1006 = .ok (.lcmp, 1) := by decide +kernel
theorem dL_law_1007 : decode cL_law 1007 = .ok (.ifCond .eq 196, 3) := by decide +kernel
theorem dL_law_1010 : decode cL_law 1010 = .ok (.iconst 0, 1) := by decide +kernel
theorem dL_law_1011 : decode cL_law 1011 = .ok (.ireturn, 1) := by decide +kernel
theorem dL_law_1012 : decode cL_law 1012 = .ok (.aload_n 1, 1) := by decide +kernel
theorem dL_law_1013 : decode cL_law 1013 = .ok (.aload_n 0, 1) := by decide +kernel
theorem dL_law_1014 : decode cL_law 1014 = .ok (.iload_n 3, 1) := by decide +kernel
theorem dL_law_1015 : decode cL_law 1015 = .ok (.iconst 1, 1) := by decide +kernel
theorem dL_law_1016 : decode cL_law 1016 = .ok (.iadd, 1) := by decide +kernel
theorem dL_law_1017 : decode cL_law 1017 = .ok (.iaload, 1) := by decide +kernel
theorem dL_law_1018 : decode cL_law 1018 = .ok (.aload_n 0, 1) := by decide +kernel
theorem dL_law_1019 : decode cL_law 1019 = .ok (.iload_n 3, 1) := by decide +kernel
theorem dL_law_1020 : decode cL_law 1020 = .ok (.iconst 2, 1) := by decide +kernel
theorem dL_law_1021 : decode cL_law 1021 = .ok (.iadd, 1) := by decide +kernel
theorem dL_law_1022 : decode cL_law 1022 = .ok (.iaload, 1) := by decide +kernel
theorem dL_law_1023 : decode cL_law 1023 = .ok (.aload_n 0, 1) := by decide +kernel
theorem dL_law_1024 : decode cL_law 1024 = .ok (.iload_n 3, 1) := by decide +kernel
theorem dL_law_1025 : decode cL_law 1025 = .ok (.iconst 3, 1) := by decide +kernel
end
section
theorem dL_law_1026 : decode cL_law 1026 = .ok (.iadd, 1) := by decide +kernel
theorem dL_law_1027 : decode cL_law 1027 = .ok (.iaload, 1) := by decide +kernel
theorem dL_law_1028 : decode cL_law 1028 = .ok (.aload_n 0, 1) := by decide +kernel
theorem dL_law_1029 : decode cL_law 1029 = .ok (.iload_n 3, 1) := by decide +kernel
theorem dL_law_1030 : decode cL_law 1030 = .ok (.iconst 4, 1) := by decide +kernel
theorem dL_law_1031 : decode cL_law 1031 = .ok (.iadd, 1) := by decide +kernel
theorem dL_law_1032 : decode cL_law 1032 = .ok (.iaload, 1) := by decide +kernel
theorem dL_law_1033 : decode cL_law 1033 = .ok (.aload_n 0, 1) := by decide +kernel
theorem dL_law_1034 : decode cL_law 1034 = .ok (.iload_n 3, 1) := by decide +kernel
theorem dL_law_1035 : decode cL_law 1035 = .ok (.iconst 5, 1) := by decide +kernel
theorem dL_law_1036 : decode cL_law 1036 = .ok (.iadd, 1) := by decide +kernel
theorem dL_law_1037 : decode cL_law 1037 = .ok (.iaload, 1) := by decide +kernel
theorem dL_law_1038 : decode cL_law 1038 = .ok (.invokevirtual 125, 3) := by decide +kernel
theorem dL_law_1041 : decode cL_law 1041 = .ok (.aload_n 2, 1) := by decide +kernel
theorem dL_law_1042 : decode cL_law 1042 = .ok (.aload_n 0, 1) := by decide +kernel
theorem dL_law_1043 : decode cL_law 1043 = .ok (.iload_n 3, 1) := by decide +kernel
theorem dL_law_1044 : decode cL_law 1044 = .ok (.iconst 1, 1) := by decide +kernel
theorem dL_law_1045 : decode cL_law 1045 = .ok (.iadd, 1) := by decide +kernel
theorem dL_law_1046 : decode cL_law 1046 = .ok (.iaload, 1) := by decide +kernel
theorem dL_law_1047 : decode cL_law 1047 = .ok (.aload_n 0, 1) := by decide +kernel
theorem dL_law_1048 : decode cL_law 1048 = .ok (.iload_n 3, 1) := by decide +kernel
theorem dL_law_1049 : decode cL_law 1049 = .ok (.iconst 2, 1) := by decide +kernel
theorem dL_law_1050 : decode cL_law 1050 = .ok (.iadd, 1) := by decide +kernel
theorem dL_law_1051 : decode cL_law 1051 = .ok (.iaload, 1) := by decide +kernel
theorem dL_law_1052 : decode cL_law 1052 = .ok (.aload_n 0, 1) := by decide +kernel
theorem dL_law_1053 : decode cL_law 1053 = .ok (.iload_n 3, 1) := by decide +kernel
theorem dL_law_1054 : decode cL_law 1054 = .ok (.iconst 3, 1) := by decide +kernel
theorem dL_law_1055 : decode cL_law 1055 = .ok (.iadd, 1) := by decide +kernel
theorem dL_law_1056 : decode cL_law 1056 = .ok (.iaload, 1) := by decide +kernel
theorem dL_law_1057 : decode cL_law 1057 = .ok (.aload_n 0, 1) := by decide +kernel
theorem dL_law_1058 : decode cL_law 1058 = .ok (.iload_n 3, 1) := by decide +kernel
theorem dL_law_1059 : decode cL_law 1059 = .ok (.iconst 4, 1) := by decide +kernel
theorem dL_law_1060 : decode cL_law 1060 = .ok (.iadd, 1) := by decide +kernel
theorem dL_law_1061 : decode cL_law 1061 = .ok (.iaload, 1) := by decide +kernel
theorem dL_law_1062 : decode cL_law 1062 = .ok (.aload_n 0, 1) := by decide +kernel
theorem dL_law_1063 : decode cL_law 1063 = .ok (.iload_n 3, 1) := by decide +kernel
theorem dL_law_1064 : decode cL_law 1064 = .ok (.iconst 5, 1) := by decide +kernel
theorem dL_law_1065 : decode cL_law 1065 = .ok (.iadd, 1) := by decide +kernel
theorem dL_law_1066 : decode cL_law 1066 = .ok (.iaload, 1) := by decide +kernel
theorem dL_law_1067 : decode cL_law 1067 = .ok (.invokevirtual 129, 3) := by decide +kernel
theorem dL_law_1070 : decode cL_law 1070 = .ok (.if_icmp .eq 133, 3) := by decide +kernel
theorem dL_law_1073 : decode cL_law 1073 = .ok (.iconst 0, 1) := by decide +kernel
theorem dL_law_1074 : decode cL_law 1074 = .ok (.ireturn, 1) := by decide +kernel
theorem dL_law_1075 : decode cL_law 1075 = .ok (.aload_n 1, 1) := by decide +kernel
theorem dL_law_1076 : decode cL_law 1076 = .ok (.aload_n 0, 1) := by decide +kernel
theorem dL_law_1077 : decode cL_law 1077 = .ok (.iload_n 3, 1) := by decide +kernel
theorem dL_law_1078 : decode cL_law 1078 = .ok (.iconst 1, 1) := by decide +kernel
theorem dL_law_1079 : decode cL_law 1079 = .ok (.iadd, 1) := by decide +kernel
theorem dL_law_1080 : decode cL_law 1080 = .ok (.iaload, 1) := by decide +kernel
theorem dL_law_1081 : decode cL_law 1081 = .ok (.invokevirtual 130, 3) := by decide +kernel
theorem dL_law_1084 : decode cL_law 1084 = .ok (.aload_n 2, 1) := by decide +kernel
theorem dL_law_1085 : decode cL_law 1085 = .ok (.aload_n 0, 1) := by decide +kernel
theorem dL_law_1086 : decode cL_law 1086 = .ok (.iload_n 3, 1) := by decide +kernel
theorem dL_law_1087 : decode cL_law 1087 = .ok (.iconst 1, 1) := by decide +kernel
theorem dL_law_1088 : decode cL_law 1088 = .ok (.iadd, 1) := by decide +kernel
theorem dL_law_1089 : decode cL_law 1089 = .ok (.iaload, 1) := by decide +kernel
theorem dL_law_1090 : decode cL_law 1090 = .ok (.invokevirtual 133, 3) := by decide +kernel
theorem dL_law_1093 : decode cL_law 1093 = .ok (.if_icmp .eq 110, 3) := by decide +kernel
theorem dL_law_1096 : decode cL_law 1096 = .ok (.iconst 0, 1) := by decide +kernel
theorem dL_law_1097 : decode cL_law 1097 = .ok (.ireturn, 1) := by decide +kernel
theorem dL_law_1098 : decode cL_law 1098 = .ok (.aload_n 1, 1) := by decide +kernel
theorem dL_law_1099 : decode cL_law 1099 = .ok (.aload_n 0, 1) := by decide +kernel
theorem dL_law_1100 : decode cL_law 1100 = .ok (.iload_n 3, 1) := by decide +kernel
theorem dL_law_1101 : decode cL_law 1101 = .ok (.iconst 1, 1) := by decide +kernel
theorem dL_law_1102 : decode cL_law 1102 = .ok (.iadd, 1) := by decide +kernel
theorem dL_law_1103 : decode cL_law 1103 = .ok (.iaload, 1) := by decide +kernel
theorem dL_law_1104 : decode cL_law 1104 = .ok (.invokevirtual 134, 3) := by decide +kernel
theorem dL_law_1107 : decode cL_law 1107 = .ok (.aload_n 2, 1) := by decide +kernel
theorem dL_law_1108 : decode cL_law 1108 = .ok (.aload_n 0, 1) := by decide +kernel
theorem dL_law_1109 : decode cL_law 1109 = .ok (.iload_n 3, 1) := by decide +kernel
theorem dL_law_1110 : decode cL_law 1110 = .ok (.iconst 1, 1) := by decide +kernel
theorem dL_law_1111 : decode cL_law 1111 = .ok (.iadd, 1) := by decide +kernel
theorem dL_law_1112 : decode cL_law 1112 = .ok (.iaload, 1) := by decide +kernel
theorem dL_law_1113 : decode cL_law 1113 = .ok (.invokevirtual 137, 3) := by decide +kernel
theorem dL_law_1116 : decode cL_law 1116 = .ok (.if_icmp .eq 87, 3) := by decide +kernel
theorem dL_law_1119 : decode cL_law 1119 = .ok (.iconst 0, 1) := by decide +kernel
theorem dL_law_1120 : decode cL_law 1120 = .ok (.ireturn, 1) := by decide +kernel
theorem dL_law_1121 : decode cL_law 1121 = .ok (.aload_n 1, 1) := by decide +kernel
theorem dL_law_1122 : decode cL_law 1122 = .ok (.aload_n 0, 1) := by decide +kernel
theorem dL_law_1123 : decode cL_law 1123 = .ok (.iload_n 3, 1) := by decide +kernel
theorem dL_law_1124 : decode cL_law 1124 = .ok (.iconst 1, 1) := by decide +kernel
theorem dL_law_1125 : decode cL_law 1125 = .ok (.iadd, 1) := by decide +kernel
theorem dL_law_1126 : decode cL_law 1126 = .ok (.iaload, 1) := by decide +kernel
theorem dL_law_1127 : decode cL_law 1127 = .ok (.aload_n 0, 1) := by decide +kernel
theorem dL_law_1128 : decode cL_law 1128 = .ok (.iload_n 3, 1) := by decide +kernel
theorem dL_law_1129 : decode cL_law 1129 = .ok (.iconst 2, 1) := by decide +kernel
theorem dL_law_1130 : decode cL_law 1130 = .ok (.iadd, 1) := by decide +kernel
theorem dL_law_1131 : decode cL_law 1131 = .ok (.iaload, 1) := by decide +kernel
theorem dL_law_1132 : decode cL_law 1132 = .ok (.invokevirtual 138, 3) := by decide +kernel
theorem dL_law_1135 : decode cL_law 1135 = .ok (.aload_n 2, 1) := by decide +kernel
theorem dL_law_1136 : decode cL_law 1136 = .ok (.aload_n 0, 1) := by decide +kernel
theorem dL_law_1137 : decode cL_law 1137 = .ok (.iload_n 3, 1) := by decide +kernel
theorem dL_law_1138 : decode cL_law 1138 = .ok (.iconst 1, 1) := by decide +kernel
theorem dL_law_1139 : decode cL_law 1139 = .ok (.iadd, 1) := by decide +kernel
theorem dL_law_1140 : decode cL_law 1140 = .ok (.iaload, 1) := by decide +kernel
theorem dL_law_1141 : decode cL_law 1141 = .ok (.aload_n 0, 1) := by decide +kernel
theorem dL_law_1142 : decode cL_law 1142 = .ok (.iload_n 3, 1) := by decide +kernel
theorem dL_law_1143 : decode cL_law 1143 = .ok (.iconst 2, 1) := by decide +kernel
theorem dL_law_1144 : decode cL_law 1144 = .ok (.iadd, 1) := by decide +kernel
theorem dL_law_1145 : decode cL_law 1145 = .ok (.iaload, 1) := by decide +kernel
theorem dL_law_1146 : decode cL_law 1146 = .ok (.invokevirtual 141, 3) := by decide +kernel
theorem dL_law_1149 : decode cL_law 1149 = .ok (.if_icmp .eq 54, 3) := by decide +kernel
theorem dL_law_1152 : decode cL_law 1152 = .ok (.iconst 0, 1) := by decide +kernel
theorem dL_law_1153 : decode cL_law 1153 = .ok (.ireturn, 1) := by decide +kernel
theorem dL_law_1154 : decode cL_law 1154 = .ok (.aload_n 1, 1) := by decide +kernel
theorem dL_law_1155 : decode cL_law 1155 = .ok (.invokevirtual 142, 3) := by decide +kernel
theorem dL_law_1158 : decode cL_law 1158 = .ok (.aload_n 2, 1) := by decide +kernel
theorem dL_law_1159 : decode cL_law 1159 = .ok (.invokevirtual 145, 3) := by decide +kernel
theorem dL_law_1162 : decode cL_law 1162 = .ok (.if_icmp .eq 41, 3) := by decide +kernel
theorem dL_law_1165 : decode cL_law 1165 = .ok (.iconst 0, 1) := by decide +kernel
theorem dL_law_1166 : decode cL_law 1166 = .ok (.ireturn, 1) := by decide +kernel
theorem dL_law_1167 : decode cL_law 1167 = .ok (.aload_n 1, 1) := by decide +kernel
theorem dL_law_1168 : decode cL_law 1168 = .ok (.invokevirtual 146, 3) := by decide +kernel
theorem dL_law_1171 : decode cL_law 1171 = .ok (.aload_n 2, 1) := by decide +kernel
theorem dL_law_1172 : decode cL_law 1172 = .ok (.invokevirtual 149, 3) := by decide +kernel
theorem dL_law_1175 : decode cL_law 1175 = .ok (.if_icmp .eq 28, 3) := by decide +kernel
theorem dL_law_1178 : decode cL_law 1178 = .ok (.iconst 0, 1) := by decide +kernel
theorem dL_law_1179 : decode cL_law 1179 = .ok (.ireturn, 1) := by decide +kernel
theorem dL_law_1180 : decode cL_law 1180 = .ok (.aload_n 1, 1) := by decide +kernel
theorem dL_law_1181 : decode cL_law 1181 = .ok (.aload_n 0, 1) := by decide +kernel
theorem dL_law_1182 : decode cL_law 1182 = .ok (.iload_n 3, 1) := by decide +kernel
theorem dL_law_1183 : decode cL_law 1183 = .ok (.iconst 1, 1) := by decide +kernel
theorem dL_law_1184 : decode cL_law 1184 = .ok (.iadd, 1) := by decide +kernel
theorem dL_law_1185 : decode cL_law 1185 = .ok (.iaload, 1) := by decide +kernel
theorem dL_law_1186 : decode cL_law 1186 = .ok (.invokevirtual 150, 3) := by decide +kernel
theorem dL_law_1189 : decode cL_law 1189 = .ok (.aload_n 2, 1) := by decide +kernel
theorem dL_law_1190 : decode cL_law 1190 = .ok (.aload_n 0, 1) := by decide +kernel
theorem dL_law_1191 : decode cL_law 1191 = .ok (.iload_n 3, 1) := by decide +kernel
theorem dL_law_1192 : decode cL_law 1192 = .ok (.iconst 1, 1) := by decide +kernel
theorem dL_law_1193 : decode cL_law 1193 = .ok (.iadd, 1) := by decide +kernel
theorem dL_law_1194 : decode cL_law 1194 = .ok (.iaload, 1) := by decide +kernel
theorem dL_law_1195 : decode cL_law 1195 = .ok (.invokevirtual 153, 3) := by decide +kernel
theorem dL_law_1198 : decode cL_law 1198 = .ok (.if_icmp .eq 5, 3) := by decide +kernel
theorem dL_law_1201 : decode cL_law 1201 = .ok (.iconst 0, 1) := by decide +kernel
theorem dL_law_1202 : decode cL_law 1202 = .ok (.ireturn, 1) := by decide +kernel
theorem dL_law_1203 : decode cL_law 1203 = .ok (.iinc 3 6, 3) := by decide +kernel
theorem dL_law_1206 : decode cL_law 1206 = .ok (.goto (-1188), 3) := by decide +kernel
theorem dL_law_1209 : decode cL_law 1209 = .ok (.iconst 1, 1) := by decide +kernel
theorem dL_law_1210 : decode cL_law 1210 = .ok (.ireturn, 1) := by decide +kernel
end
section
/-! ===== the layer: worlds of whole numbers; a method's walk is told of numbers alone ===== -/
abbrev mS : Type := Int → Int → Int
def mUp (σ : mS) (k j v : Int) : mS := fun a b => if a = k ∧ b = j then v else σ a b
theorem mUp_eq (σ : mS) (k j v : Int) : mUp σ k j v k j = v := by simp [mUp]
theorem mUp_ne (σ : mS) {k j a b : Int} (v : Int) (h : a ≠ k ∨ b ≠ j) : mUp σ k j v a b = σ a b := by
  unfold mUp
  rw [if_neg]
  intro q
  rcases h with h | h
  · exact h q.1
  · exact h q.2
def mI (x : Int) : Value := .int (Int32.ofInt x)
def mL (x : Int) : Value := .long (Int64.ofInt x)
def i32 (x : Int) : Prop := -2147483648 ≤ x ∧ x ≤ 2147483647
def i64 (x : Int) : Prop := -9223372036854775808 ≤ x ∧ x ≤ 9223372036854775807
theorem i32_to {a : Int} (h : i32 a) : (Int32.ofInt a).toInt = a := Int32.toInt_ofInt_of_le (by have := h.1; omega) (by have := h.2; omega)
theorem i64_to {a : Int} (h : i64 a) : (Int64.ofInt a).toInt = a := Int64.toInt_ofInt_of_le (by have := h.1; omega) (by have := h.2; omega)
theorem i32_lt {a b : Int} (ha : i32 a) (hb : i32 b) : Int32.ofInt a < Int32.ofInt b ↔ a < b := by rw [Int32.lt_iff_toInt_lt, i32_to ha, i32_to hb]
theorem i32_le {a b : Int} (ha : i32 a) (hb : i32 b) : Int32.ofInt a ≤ Int32.ofInt b ↔ a ≤ b := by rw [Int32.le_iff_toInt_le, i32_to ha, i32_to hb]
theorem i32_eq {a b : Int} (ha : i32 a) (hb : i32 b) : Int32.ofInt a = Int32.ofInt b ↔ a = b := by rw [← Int32.toInt_inj, i32_to ha, i32_to hb]
theorem i32_0 : (0 : Int32) = Int32.ofInt 0 := by decide
theorem i32_of (x : Int32) : i32 x.toInt := ⟨by have := x.le_toInt; omega, by have := x.toInt_lt; omega⟩
theorem i64_of (x : Int64) : i64 x.toInt := ⟨by have := x.le_toInt; omega, by have := x.toInt_lt; omega⟩
theorem mI_inj {a b : Int} (ha : i32 a) (hb : i32 b) (h : Int32.ofInt a = Int32.ofInt b) : a = b := (i32_eq ha hb).mp h
theorem i32_cl {a : Int} (h0 : 0 ≤ a) (h1 : a ≤ 2147483647) : (Int32.ofInt a).toNatClampNeg = a.toNat := Int32.toNatClampNeg_ofInt_of_le (by omega) (by omega)
theorem i32_in {a : Int} {n : Nat} (h0 : 0 ≤ a) (h1 : a < n) (hn : n ≤ 2147483647) : vp_in (Int32.ofInt a) n := vp_in_iff.mpr (by rw [i32_to ⟨by omega, by omega⟩]; exact ⟨h0, h1⟩)
/-! bits -/
def iAnd (a b : Int) : Int := (Int32.ofInt a &&& Int32.ofInt b).toInt
def iOr (a b : Int) : Int := (Int32.ofInt a ||| Int32.ofInt b).toInt
def iXor (a b : Int) : Int := (Int32.ofInt a ^^^ Int32.ofInt b).toInt
def iShl (a b : Int) : Int := (Int32.ofInt a <<< (Int32.ofInt b &&& 31)).toInt
def iShr (a b : Int) : Int := (Int32.ofInt a >>> (Int32.ofInt b &&& 31)).toInt
def iUsh (a b : Int) : Int := ((Int32.ofInt a).toUInt32 >>> ((Int32.ofInt b).toUInt32 &&& Int32.toUInt32 31)).toInt32.toInt
def lAnd (a b : Int) : Int := (Int64.ofInt a &&& Int64.ofInt b).toInt
def lXor (a b : Int) : Int := (Int64.ofInt a ^^^ Int64.ofInt b).toInt
def lShl (a b : Int) : Int := (Int64.ofInt a <<< ((Int32.ofInt b).toInt64 &&& 63)).toInt
def lShr (a b : Int) : Int := (Int64.ofInt a >>> ((Int32.ofInt b).toInt64 &&& 63)).toInt
def lUsh (a b : Int) : Int := ((Int64.ofInt a).toUInt64 >>> ((Int32.ofInt b).toInt64.toUInt64 &&& Int64.toUInt64 63)).toInt64.toInt
def iB (a : Int) : Int := (Int32.ofInt a).toInt8.toInt32.toInt
def iH (a : Int) : Int := (Int32.ofInt a).toInt16.toInt32.toInt
def iC (a : Int) : Int := ((Int32.ofInt a).toUInt32 % 65536).toInt32.toInt
/-! the words: those that hold under every call, and the links of nest mates -/
def gT : List Cond := lw_tbl.filter goodWord
def nestW : Cond → Bool
  | .methodLinkNest .. => true
  | .fieldLinkNest .. => true
  | _ => false
def nWs : List Cond := lw_tbl.filter nestW
theorem gT_of {w : Cond} (h : w ∈ lw_tbl) (g : goodWord w = true) : w ∈ gT := List.mem_filter.mpr ⟨h, g⟩
theorem nW_of {w : Cond} (h : w ∈ lw_tbl) (g : nestW w = true) : w ∈ nWs := List.mem_filter.mpr ⟨h, g⟩
theorem gT_good {w : Cond} (h : w ∈ gT) : goodWord w = true := (List.mem_filter.mp h).2
def mNW (U : State) : Prop := ∀ w ∈ nWs, va_Nw w U
theorem mNW.warm {s U : State} (hW : s.WarmedH U.vm) (h : mNW s) : mNW U := by
  intro w hw
  have h1 := h w hw
  have h2 : nestW w = true := (List.mem_filter.mp hw).2
  cases w <;> first | exact va_Nw.warmM hW h1 | exact va_Nw.warmF hW h1 | (simp [nestW] at h2)
theorem mNW.same {u U : State} (hv : u.vm = U.vm) (h : mNW u) : mNW U := by
  intro w hw
  have h1 := h w hw
  have h2 : nestW w = true := (List.mem_filter.mp hw).2
  cases w <;> first | exact va_Nw.same rfl hv h1 | (simp [nestW] at h2)
/-! what is taken of the texts' constants -/
def bytS : List (List Int32) := [[109, 48, 48, 50, 48, 49, 48, 59, 98, 48, 48, 48, 48, 49], [109, 50, 57, 54, 57, 50, 57, 59, 115, 57, 57, 54, 54, 57]]
def mStr (A : Nat → Prop) (U : State) : Prop := (∃ adK adV : Nat → Nat, vk_S 2 [14, 14] bytS adK adV A U U.heap ∧ vk_R "MoonVeto$Text" 25 "m002010;b00001" (adK 0) U ∧ vk_R "MoonVeto$Text" 33 "m296929;s99669" (adK 1) U) ∧ va_Z "java/lang/String" "COMPACT_STRINGS" "Z" (.int 1) A U U.heap ∧ ∃ v : Value, va_Z "jdk/internal/util/Preconditions" "SIOOBE_FORMATTER" "Ljava/util/function/BiFunction;" v A U U.heap
theorem mStr.move {A B : Nat → Prop} {s U : State} {H : Heap} (h : mStr A s) (hU : U.heap = H) (hW : s.WarmedH U.vm) (hk : ∀ a : Nat, a < s.heap.size → ¬ A a → H[a]? = s.heap[a]?) (hAB : ∀ q, B q → A q) : mStr B U := by
  obtain ⟨⟨adK, adV, h1, h2, h3⟩, h4, v, h5⟩ := h
  subst hU
  exact ⟨⟨adK, adV, (vk_S.moved hW.alike (h1.kept hk)).narrow hAB, h2.warm hW, h3.warm hW⟩, (va_Z.moved hW.alike (h4.kept hk)).narrow hAB, v, (va_Z.moved hW.alike (h5.kept hk)).narrow hAB⟩
theorem mStr.same {A : Nat → Prop} {u U : State} (hv : U.vm = u.vm) (hh : U.heap = u.heap) (h : mStr A u) : mStr A U := by
  obtain ⟨⟨adK, adV, h1, h2, h3⟩, h4, v, h5⟩ := h
  have ha : u.vm.Alike U.vm := by rw [hv]; exact Vm.Alike.refl _
  exact ⟨⟨adK, adV, by rw [hh]; exact vk_S.moved ha h1, vk_R.same hv h2, vk_R.same hv h3⟩, by rw [hh]; exact va_Z.moved ha h4, v, by rw [hh]; exact va_Z.moved ha h5⟩
/-! a world: N cells, the cell k at ad k, holding E k -/
def mWd (N : Nat) (ad : Int → Nat) (E : Int → va_E) : va_W := (List.range N).map (fun k : Nat => (ad (k : Int), E (k : Int)))
theorem mWd_at {N : Nat} {ad : Int → Nat} {E : Int → va_E} {i : Nat} {q : Nat × va_E} (h : (mWd N ad E)[i]? = some q) : i < N ∧ q = (ad (i : Int), E (i : Int)) := by
  unfold mWd at h
  rw [List.getElem?_map] at h
  by_cases hi : i < N
  · rw [List.getElem?_range hi] at h
    exact ⟨hi, (Option.some.inj h).symm⟩
  · rw [List.getElem?_eq_none (by simp; omega)] at h
    cases h
theorem mWd_get {N : Nat} {ad : Int → Nat} {E : Int → va_E} {k : Int} (h0 : 0 ≤ k) (h1 : k < (N : Int)) : (mWd N ad E)[k.toNat]? = some (ad k, E k) := by
  have e : ((k.toNat : Nat) : Int) = k := Int.toNat_of_nonneg h0
  have h2 : k.toNat < N := by omega
  unfold mWd
  rw [List.getElem?_map, List.getElem?_range h2]
  show some (ad ((k.toNat : Nat) : Int), E ((k.toNat : Nat) : Int)) = _
  rw [e]
theorem mWd_set {N : Nat} {ad : Int → Nat} {E E' : Int → va_E} {k : Int} {e : va_E} (h0 : 0 ≤ k) (h1 : k < (N : Int)) (he : E' k = e) (ho : ∀ a : Int, a ≠ k → E' a = E a) : (mWd N ad E).set k.toNat (ad k, e) = mWd N ad E' := by
  have ek : ((k.toNat : Nat) : Int) = k := Int.toNat_of_nonneg h0
  apply List.ext_getElem?
  intro i
  by_cases hi : i < N
  · have g1 : (mWd N ad E')[i]? = some (ad (i : Int), E' (i : Int)) := by
      have := mWd_get (N := N) (ad := ad) (E := E') (k := (i : Int)) (by omega) (by omega)
      rwa [Int.toNat_natCast] at this
    have g2 : (mWd N ad E)[i]? = some (ad (i : Int), E (i : Int)) := by
      have := mWd_get (N := N) (ad := ad) (E := E) (k := (i : Int)) (by omega) (by omega)
      rwa [Int.toNat_natCast] at this
    by_cases hk : k.toNat = i
    · subst hk
      rw [List.getElem?_set_self (by simp [mWd]; omega), g1, ek, he]
    · rw [List.getElem?_set_ne hk, g1, g2, ho (i : Int) (by omega)]
  · rw [List.getElem?_eq_none (by simp [mWd]; omega), List.getElem?_eq_none (by simp [mWd]; omega)]
abbrev mE : Type := va_G × List (ClassId × FieldType) × Nat × (Int → Nat) × (mS → Int → va_E)
def mW (Γ : mE) (σ : mS) : va_W := mWd Γ.2.2.1 Γ.2.2.2.1 (Γ.2.2.2.2 σ)
def mA (Γ : mE) (sz : Nat) : Nat → Prop := fun q => (∃ k : Int, 0 ≤ k ∧ k < (Γ.2.2.1 : Int) ∧ q = Γ.2.2.2.1 k) ∨ sz ≤ q
def mDj (Γ : mE) : Prop := ∀ i j : Int, 0 ≤ i → i < (Γ.2.2.1 : Int) → 0 ≤ j → j < (Γ.2.2.1 : Int) → Γ.2.2.2.1 i = Γ.2.2.2.1 j → i = j
theorem mW_D {Γ : mE} (h : mDj Γ) (σ : mS) (sz : Nat) : va_D (mA Γ sz) (mW Γ σ) := by
  refine ⟨fun i j p q hi hj e => ?_, fun k q hk => ?_⟩
  · obtain ⟨h1, rfl⟩ := mWd_at hi
    obtain ⟨h2, rfl⟩ := mWd_at hj
    have := h (i : Int) (j : Int) (by omega) (by omega) (by omega) (by omega) e
    omega
  · obtain ⟨h1, rfl⟩ := mWd_at hk
    exact Or.inl ⟨(k : Int), by omega, by omega, rfl⟩
theorem mW_D' {A : Nat → Prop} {Γ : mE} (h : mDj Γ) (hA : ∀ k : Int, 0 ≤ k → k < (Γ.2.2.1 : Int) → A (Γ.2.2.2.1 k)) (σ : mS) : va_D A (mW Γ σ) := by
  refine ⟨(mW_D h σ 0).1, fun k q hk => ?_⟩
  obtain ⟨h1, rfl⟩ := mWd_at hk
  exact hA (k : Int) (by omega) (by omega)
theorem mA_in {Γ : mE} {s : Nat} {H : Heap} {H0 : Heap} (h : H0.size ≤ H.size) (hs : H0.size = s) : ∀ q, mA Γ H.size q → mA Γ s q := by
  intro q hq
  rcases hq with h1 | h1
  · exact Or.inl h1
  · exact Or.inr (by omega)
def mAt (Γ : mE) (σ : mS) (U : State) : Prop := va_P Γ.1 vwCl (mW Γ σ) U.heap ∧ va_K Γ.1 vwCl Γ.2.1 U
def mPre (Γ : mE) (σ : mS) (sz : Nat) (U : State) : Prop := U.heap.size = sz ∧ mAt Γ σ U ∧ mDj Γ ∧ mNW U ∧ mStr (mA Γ sz) U
theorem mPre.blind {Γ : mE} {σ : mS} {sz : Nat} {av : List Value} : FrameBlind (va_Pc av (mPre Γ σ sz)) := by
  intro a U g mk q
  obtain ⟨q0, q1, ⟨qP, qK⟩, qD, qN, qS⟩ := q
  exact ⟨q0, q1, ⟨qP, va_K.moved (u := U) (U := U.calling g mk a) (Vm.Alike.refl U.vm) qK⟩, qD, mNW.same (u := U) (U := U.calling g mk a) rfl qN, mStr.same (u := U) (U := U.calling g mk a) rfl rfl qS⟩
abbrev mM : Type := MethodName × ByteArray × Nat × Option FieldType
def mWs (μ : mM) : List Cond := .code μ.1 μ.2.1 μ.2.2.1 μ.2.2.2 :: gT
def mLev (n : Nat) : Room := { frames := n, cells := 0, slots := 0, locals := 40 * n }
def CI (l : Launch) (Γ : mE) (μ : mM) (n : Nat) (av : List Value) (σ : mS) (post : Int → mS → Prop) : Prop :=
  ∀ sz : Nat, Met l μ.1 (mWs μ) (mLev n) (va_Pc av (mPre Γ σ sz)) (va_Qi (fun (r : Int32) (σ' : mS) => ∃ z : Int, r = Int32.ofInt z ∧ post z σ') (mAt Γ) (mA Γ sz)) 0 0 (mA Γ sz)
def CL (l : Launch) (Γ : mE) (μ : mM) (n : Nat) (av : List Value) (σ : mS) (post : Int → mS → Prop) : Prop :=
  ∀ sz : Nat, Met l μ.1 (mWs μ) (mLev n) (va_Pc av (mPre Γ σ sz)) (va_Ql (fun (r : Int64) (σ' : mS) => ∃ z : Int, r = Int64.ofInt z ∧ post z σ') (mAt Γ) (mA Γ sz)) 0 0 (mA Γ sz)
def CV (l : Launch) (Γ : mE) (μ : mM) (n : Nat) (av : List Value) (σ : mS) (post : mS → Prop) : Prop :=
  ∀ sz : Nat, Met l μ.1 (mWs μ) (mLev n) (va_Pc av (mPre Γ σ sz)) (va_Qv post (mAt Γ) (mA Γ sz)) 0 0 (mA Γ sz)
/-! the walk -/
abbrev mX : Type := (Program × Launch × Env × Room × State) × (MethodId × Array Value × List Frame × Method × Code) × mE × Nat × (State → Prop)
def mG (x : mX) (pc : Nat) (lv : List (Nat × Value)) (st : List Value) (σ : mS) : Prop :=
  ∀ (H : Heap) (locs : List Loc) (ls : Array Slot), va_P x.2.2.1.1 vwCl (mW x.2.2.1 σ) H → va_S (mA x.2.2.1 x.1.2.2.2.2.heap.size) x.1.2.2.2.2.heap H locs → lv_has ls x.2.2.2.1 lv →
    W x.1.1 x.1.2.1 x.1.2.2.1 x.1.2.2.2.1 x.1.2.2.2.2 x.2.1.1 x.2.1.2.1 x.2.1.2.2.1 x.2.1.2.2.2.1 x.2.1.2.2.2.2 H locs 0 0 x.2.2.2.2 (F0 x.2.1.1 pc ls st)
def mOk (x : mX) (l : Launch) (μ : mM) (n : Nat) (Γ : mE) : Prop :=
  x.1.1.tables.exec = Jvm.exec ∧ x.2.1.2.2.2.2.code = μ.2.1 ∧ x.2.1.2.2.2.2.maxLocals = x.2.2.2.1 ∧ x.2.2.2.1 = μ.2.2.1 ∧ x.1.2.2.2.2.vm.findClass μ.1.cls = some x.2.1.1.cls ∧ (∀ w ∈ gT, w.before x.2.1.2.1 x.1.2.2.2.2 = true) ∧ x.1.2.2.2.1 = mLev n ∧ x.2.2.1 = Γ ∧ mDj Γ ∧ va_K Γ.1 vwCl Γ.2.1 x.1.2.2.2.2 ∧ mNW x.1.2.2.2.2 ∧ mStr (mA Γ x.1.2.2.2.2.heap.size) x.1.2.2.2.2 ∧ x.2.1.2.2.2.1.locks = false ∧ x.2.1.2.2.2.1.sig.returnType = μ.2.2.2 ∧ x.1.2.1 = l
/-- the answer that the walk owes -/
def rI (x : mX) (Γ : mE) (post : Int → mS → Prop) : Prop := x.2.2.2.2 = MQ x.2.1.2.2.1 (va_Qi (fun (r : Int32) (σ' : mS) => ∃ z : Int, r = Int32.ofInt z ∧ post z σ') (mAt Γ) (mA Γ x.1.2.2.2.2.heap.size)) x.2.1.2.1 x.1.2.2.2.2 0 0 (mA Γ x.1.2.2.2.2.heap.size)
def rL (x : mX) (Γ : mE) (post : Int → mS → Prop) : Prop := x.2.2.2.2 = MQ x.2.1.2.2.1 (va_Ql (fun (r : Int64) (σ' : mS) => ∃ z : Int, r = Int64.ofInt z ∧ post z σ') (mAt Γ) (mA Γ x.1.2.2.2.2.heap.size)) x.2.1.2.1 x.1.2.2.2.2 0 0 (mA Γ x.1.2.2.2.2.heap.size)
def rV (x : mX) (Γ : mE) (post : mS → Prop) : Prop := x.2.2.2.2 = MQ x.2.1.2.2.1 (va_Qv post (mAt Γ) (mA Γ x.1.2.2.2.2.heap.size)) x.2.1.2.1 x.1.2.2.2.2 0 0 (mA Γ x.1.2.2.2.2.heap.size)
theorem CI.of {l : Launch} {Γ : mE} {μ : mM} {n : Nat} {av : List Value} {σ : mS} {post : Int → mS → Prop} (hy : plainName μ.1.cls = true) (hn : (lg_sl av).length ≤ μ.2.2.1)
    (body : ∀ x : mX, mOk x l μ n Γ → rI x Γ post → mG x 0 (lv_args 0 av) [] σ) : CI l Γ μ n av σ post := by
  intro sz
  refine Met.ofW (cc := μ.2.1) (maxL := μ.2.2.1) (ret := μ.2.2.2) hy rfl ?_
  intro p e s m args below meth c s₁ B hml hv
  obtain ⟨rfl, rfl, ⟨hP, hK⟩, hD, hN, hS⟩ := hv
  have hts := atoms_spec (ws := mWs μ) B.pre
  rw [lg_entry_eq]
  exact body ((p, l, e, mLev n, s), (m, av.toArray, below, meth, c), Γ, μ.2.2.1, MQ below (va_Qi (fun (r : Int32) (σ' : mS) => ∃ z : Int, r = Int32.ofInt z ∧ post z σ') (mAt Γ) (mA Γ s.heap.size)) av.toArray s 0 0 (mA Γ s.heap.size)) ⟨B.exec, B.bytes, hml, rfl, findClass_of_methodNamed B.named, fun w hw => hts w (List.mem_cons_of_mem _ hw), rfl, rfl, hD, hK, hN, hS, B.notSynchronized, B.returns, rfl⟩ rfl s.heap [] _ hP va_S.rf (lv_entry av hn)
theorem CL.of {l : Launch} {Γ : mE} {μ : mM} {n : Nat} {av : List Value} {σ : mS} {post : Int → mS → Prop} (hy : plainName μ.1.cls = true) (hn : (lg_sl av).length ≤ μ.2.2.1)
    (body : ∀ x : mX, mOk x l μ n Γ → rL x Γ post → mG x 0 (lv_args 0 av) [] σ) : CL l Γ μ n av σ post := by
  intro sz
  refine Met.ofW (cc := μ.2.1) (maxL := μ.2.2.1) (ret := μ.2.2.2) hy rfl ?_
  intro p e s m args below meth c s₁ B hml hv
  obtain ⟨rfl, rfl, ⟨hP, hK⟩, hD, hN, hS⟩ := hv
  have hts := atoms_spec (ws := mWs μ) B.pre
  rw [lg_entry_eq]
  exact body ((p, l, e, mLev n, s), (m, av.toArray, below, meth, c), Γ, μ.2.2.1, MQ below (va_Ql (fun (r : Int64) (σ' : mS) => ∃ z : Int, r = Int64.ofInt z ∧ post z σ') (mAt Γ) (mA Γ s.heap.size)) av.toArray s 0 0 (mA Γ s.heap.size)) ⟨B.exec, B.bytes, hml, rfl, findClass_of_methodNamed B.named, fun w hw => hts w (List.mem_cons_of_mem _ hw), rfl, rfl, hD, hK, hN, hS, B.notSynchronized, B.returns, rfl⟩ rfl s.heap [] _ hP va_S.rf (lv_entry av hn)
theorem CV.of {l : Launch} {Γ : mE} {μ : mM} {n : Nat} {av : List Value} {σ : mS} {post : mS → Prop} (hy : plainName μ.1.cls = true) (hn : (lg_sl av).length ≤ μ.2.2.1)
    (body : ∀ x : mX, mOk x l μ n Γ → rV x Γ post → mG x 0 (lv_args 0 av) [] σ) : CV l Γ μ n av σ post := by
  intro sz
  refine Met.ofW (cc := μ.2.1) (maxL := μ.2.2.1) (ret := μ.2.2.2) hy rfl ?_
  intro p e s m args below meth c s₁ B hml hv
  obtain ⟨rfl, rfl, ⟨hP, hK⟩, hD, hN, hS⟩ := hv
  have hts := atoms_spec (ws := mWs μ) B.pre
  rw [lg_entry_eq]
  exact body ((p, l, e, mLev n, s), (m, av.toArray, below, meth, c), Γ, μ.2.2.1, MQ below (va_Qv post (mAt Γ) (mA Γ s.heap.size)) av.toArray s 0 0 (mA Γ s.heap.size)) ⟨B.exec, B.bytes, hml, rfl, findClass_of_methodNamed B.named, fun w hw => hts w (List.mem_cons_of_mem _ hw), rfl, rfl, hD, hK, hN, hS, B.notSynchronized, B.returns, rfl⟩ rfl s.heap [] _ hP va_S.rf (lv_entry av hn)
end
section
/-! ===== one row an instruction ===== -/
def lvg : List (Nat × Value) → Nat → Option Value
  | [], _ => none
  | q :: r, i => bif q.1 == i then some q.2 else lvg r i
theorem lvg_mem {i : Nat} {v : Value} : ∀ {lv : List (Nat × Value)}, lvg lv i = some v → (i, v) ∈ lv
  | [], h => by cases h
  | q :: r, h => by
    unfold lvg at h
    cases hq : (q.1 == i) with
    | true =>
      rw [hq] at h
      have h1 : q.1 = i := by simpa using hq
      have h2 : q.2 = v := Option.some.inj h
      rw [← h1, ← h2]
      exact List.mem_cons_self
    | false =>
      rw [hq] at h
      exact List.mem_cons_of_mem _ (lvg_mem h)
theorem lvg_at {ls : Array Slot} {nL i : Nat} {v : Value} {lv : List (Nat × Value)} (h : lv_has ls nL lv) (hg : lvg lv i = some v) : ls[i]? = some (.val v) := h.2.2 (i, v) (lvg_mem hg)
def lvs (lv : List (Nat × Value)) (i : Nat) (v : Value) : List (Nat × Value) := bif lv.any (fun q => q.1 == i) then lv.map (fun q => bif q.1 == i then (i, v) else q) else lv ++ [(i, v)]
theorem lvs_mem {lv : List (Nat × Value)} {i : Nat} {v : Value} {q : Nat × Value} (h : q ∈ lvs lv i v) : q = (i, v) ∨ (q ∈ lv ∧ ¬ q.1 = i) := by
  unfold lvs at h
  cases ha : lv.any (fun q => q.1 == i) with
  | true =>
    rw [ha] at h
    obtain ⟨r, hr, e⟩ := List.mem_map.mp h
    cases hb : (r.1 == i) with
    | true =>
      rw [hb] at e
      exact Or.inl e.symm
    | false =>
      rw [hb] at e
      have e2 : r = q := e
      subst e2
      exact Or.inr ⟨hr, by simpa using hb⟩
  | false =>
    rw [ha] at h
    rcases List.mem_append.mp h with h1 | h1
    · refine Or.inr ⟨h1, fun e => ?_⟩
      have := List.any_eq_false.mp ha q h1
      simp [e] at this
    · exact Or.inl (List.mem_singleton.mp h1)
def lvo (lv : List (Nat × Value)) (i : Nat) : Bool := lv.all (fun q => !(q.1 + 1 == i && q.2.category == 2))
def lvo2 (lv : List (Nat × Value)) (i : Nat) : Bool := lv.all (fun q => !(q.1 == i + 1) && !(q.1 + 1 == i && q.2.category == 2))
theorem lvs_has {ls : Array Slot} {nL i : Nat} {v : Value} {lv : List (Nat × Value)} (h : lv_has ls nL ((i, v) :: lv.filter (fun q => !(q.1 == i) && !(q.1 + 1 == i && q.2.category == 2)))) (ho : lvo lv i = true) : lv_has ls nL (lvs lv i v) := by
  refine ⟨h.1, h.2.1, fun q hq => h.2.2 q ?_⟩
  rcases lvs_mem hq with rfl | ⟨h1, h2⟩
  · exact List.mem_cons_self
  · refine List.mem_cons_of_mem _ (List.mem_filter.mpr ⟨h1, ?_⟩)
    have h3 := List.all_eq_true.mp ho q h1
    have h4 : (q.1 == i) = false := by simpa using h2
    rw [h4]
    simpa using h3
theorem lvs_has2 {ls : Array Slot} {nL i : Nat} {v : Value} {lv : List (Nat × Value)} (h : lv_has ls nL ((i, v) :: lv.filter (fun q => !(q.1 == i) && (!(q.1 == i + 1) && !(q.1 + 1 == i && q.2.category == 2))))) (ho : lvo2 lv i = true) : lv_has ls nL (lvs lv i v) := by
  refine ⟨h.1, h.2.1, fun q hq => h.2.2 q ?_⟩
  rcases lvs_mem hq with rfl | ⟨h1, h2⟩
  · exact List.mem_cons_self
  · refine List.mem_cons_of_mem _ (List.mem_filter.mpr ⟨h1, ?_⟩)
    have h3 := List.all_eq_true.mp ho q h1
    have h4 : (q.1 == i) = false := by simpa using h2
    rw [h4]
    simpa using h3
section MG
variable {x : mX} {l : Launch} {μ : mM} {n : Nat} {Γ : mE} {pc : Nat} {lv : List (Nat × Value)} {st : List Value} {σ : mS}
/-- fewer locals are told -/
theorem g_lv {lv' : List (Nat × Value)} (hl : lv'.map (fun q => lvg lv q.1) = lv'.map (fun q => some q.2)) (k : mG x pc lv' st σ) : mG x pc lv st σ := by
  intro H locs ls hP hS h
  refine k H locs ls hP hS ⟨h.1, h.2.1, fun q hq => ?_⟩
  have h1 : lvg lv q.1 = some q.2 := by
    obtain ⟨i, hi⟩ := List.getElem?_of_mem hq
    have h2 := congrArg (fun t : List (Option Value) => t[i]?) hl
    simp only [List.getElem?_map, hi, Option.map_some] at h2
    exact Option.some.inj h2
  exact lvg_at h h1
theorem g_iconst (h : mOk x l μ n Γ) {k : Int} (hd : decode μ.2.1 pc = .ok (.iconst k, 1)) (hv : Int32.ofInt k = Int32.ofInt k) (kk : mG x (pc + 1) lv (mI k :: st) σ) : mG x pc lv st σ :=
  fun H locs ls hP hS hl => lv_iconst h.1 h.2.1 hd hv (kk H locs ls hP hS hl)
theorem g_bipush (h : mOk x l μ n Γ) {k : Int} (hd : decode μ.2.1 pc = .ok (.bipush k, 2)) (hv : (Int8.ofInt k).toInt32 = Int32.ofInt k) (kk : mG x (pc + 2) lv (mI k :: st) σ) : mG x pc lv st σ :=
  fun H locs ls hP hS hl => lv_bipush h.1 h.2.1 hd hv (kk H locs ls hP hS hl)
theorem g_sipush (h : mOk x l μ n Γ) {k : Int} (hd : decode μ.2.1 pc = .ok (.sipush k, 3)) (hv : (Int16.ofInt k).toInt32 = Int32.ofInt k) (kk : mG x (pc + 3) lv (mI k :: st) σ) : mG x pc lv st σ :=
  fun H locs ls hP hS hl => lv_sipush h.1 h.2.1 hd hv (kk H locs ls hP hS hl)
theorem g_lconst (h : mOk x l μ n Γ) {k : Fin 2} {v : Int} (hd : decode μ.2.1 pc = .ok (.lconst k, 1)) (hv : Int64.ofNat (k : Nat) = Int64.ofInt v) (kk : mG x (pc + 1) lv (mL v :: st) σ) : mG x pc lv st σ :=
  fun H locs ls hP hS hl => lv_lconst h.1 h.2.1 hd hv (kk H locs ls hP hS hl)
theorem g_ldc (h : mOk x l μ n Γ) {k : Nat} {v : Int} {c : Int32} (hd : decode μ.2.1 pc = .ok (.ldc k, 2)) (hw : Cond.constant μ.1.cls k c ∈ gT) (hv : c = Int32.ofInt v) (kk : mG x (pc + 2) lv (mI v :: st) σ) : mG x pc lv st σ :=
  fun H locs ls hP hS hl => lv_ldc (v := Int32.ofInt v) h.1 h.2.1 h.2.2.2.2.1 (hv ▸ h.2.2.2.2.2.1 _ hw) hd (kk H locs ls hP hS hl)
theorem g_ldcw (h : mOk x l μ n Γ) {k : Nat} {v : Int} {c : Int32} (hd : decode μ.2.1 pc = .ok (.ldc_w k, 3)) (hw : Cond.constant μ.1.cls k c ∈ gT) (hv : c = Int32.ofInt v) (kk : mG x (pc + 3) lv (mI v :: st) σ) : mG x pc lv st σ :=
  fun H locs ls hP hS hl => lv_ldcw (v := Int32.ofInt v) h.1 h.2.1 h.2.2.2.2.1 (hv ▸ h.2.2.2.2.2.1 _ hw) hd (kk H locs ls hP hS hl)
theorem g_ldc2 (h : mOk x l μ n Γ) {k : Nat} {v : Int} {c : Int64} (hd : decode μ.2.1 pc = .ok (.ldc2_w k, 3)) (hw : Cond.constantLong μ.1.cls k c ∈ gT) (hv : c = Int64.ofInt v) (kk : mG x (pc + 3) lv (mL v :: st) σ) : mG x pc lv st σ :=
  fun H locs ls hP hS hl => lv_ldc2 (v := Int64.ofInt v) h.1 h.2.1 h.2.2.2.2.1 (hv ▸ h.2.2.2.2.2.1 _ hw) hd (kk H locs ls hP hS hl)
theorem g_iload_n (h : mOk x l μ n Γ) {k : Fin 4} {a : Int} (hd : decode μ.2.1 pc = .ok (.iload_n k, 1)) (hl9 : lvg lv (k : Nat) = some (mI a)) (kk : mG x (pc + 1) lv (mI a :: st) σ) : mG x pc lv st σ :=
  fun H locs ls hP hS hl => lv_iload_n h.1 h.2.1 hd rfl (lvg_at hl hl9) (kk H locs ls hP hS hl)
theorem g_iload (h : mOk x l μ n Γ) {k : Nat} {a : Int} (hd : decode μ.2.1 pc = .ok (.iload k, 2)) (hl9 : lvg lv k = some (mI a)) (kk : mG x (pc + 2) lv (mI a :: st) σ) : mG x pc lv st σ :=
  fun H locs ls hP hS hl => lv_iload h.1 h.2.1 hd (lvg_at hl hl9) (kk H locs ls hP hS hl)
theorem g_istore_n (h : mOk x l μ n Γ) {k : Fin 4} {a : Int} (hd : decode μ.2.1 pc = .ok (.istore_n k, 1)) (hn : (k : Nat) < μ.2.2.1) (ho : lvo lv (k : Nat) = true) (kk : mG x (pc + 1) (lvs lv (k : Nat) (mI a)) st σ) : mG x pc lv (mI a :: st) σ :=
  fun H locs ls hP hS hl => lv_istore_n h.1 h.2.1 hd rfl hl (by rw [h.2.2.2.1]; exact hn) rfl (fun ls' hl' => kk H locs ls' hP hS (lvs_has hl' ho))
theorem g_istore (h : mOk x l μ n Γ) {k : Nat} {a : Int} (hd : decode μ.2.1 pc = .ok (.istore k, 2)) (hn : k < μ.2.2.1) (ho : lvo lv k = true) (kk : mG x (pc + 2) (lvs lv k (mI a)) st σ) : mG x pc lv (mI a :: st) σ :=
  fun H locs ls hP hS hl => lv_istore h.1 h.2.1 hd hl (by rw [h.2.2.2.1]; exact hn) rfl (fun ls' hl' => kk H locs ls' hP hS (lvs_has hl' ho))
theorem g_lload_n (h : mOk x l μ n Γ) {k : Fin 4} {a : Int} (hd : decode μ.2.1 pc = .ok (.lload_n k, 1)) (hl9 : lvg lv (k : Nat) = some (mL a)) (kk : mG x (pc + 1) lv (mL a :: st) σ) : mG x pc lv st σ :=
  fun H locs ls hP hS hl => lv_lload_n h.1 h.2.1 hd rfl (lvg_at hl hl9) (kk H locs ls hP hS hl)
theorem g_lload (h : mOk x l μ n Γ) {k : Nat} {a : Int} (hd : decode μ.2.1 pc = .ok (.lload k, 2)) (hl9 : lvg lv k = some (mL a)) (kk : mG x (pc + 2) lv (mL a :: st) σ) : mG x pc lv st σ :=
  fun H locs ls hP hS hl => lv_lload h.1 h.2.1 hd (lvg_at hl hl9) (kk H locs ls hP hS hl)
theorem g_lstore_n (h : mOk x l μ n Γ) {k : Fin 4} {a : Int} (hd : decode μ.2.1 pc = .ok (.lstore_n k, 1)) (hn : (k : Nat) + 1 < μ.2.2.1) (ho : lvo2 lv (k : Nat) = true) (kk : mG x (pc + 1) (lvs lv (k : Nat) (mL a)) st σ) : mG x pc lv (mL a :: st) σ :=
  fun H locs ls hP hS hl => lv_lstore_n h.1 h.2.1 hd rfl hl (by rw [h.2.2.2.1]; exact hn) rfl (fun ls' hl' => kk H locs ls' hP hS (lvs_has2 hl' ho))
theorem g_lstore (h : mOk x l μ n Γ) {k : Nat} {a : Int} (hd : decode μ.2.1 pc = .ok (.lstore k, 2)) (hn : k + 1 < μ.2.2.1) (ho : lvo2 lv k = true) (kk : mG x (pc + 2) (lvs lv k (mL a)) st σ) : mG x pc lv (mL a :: st) σ :=
  fun H locs ls hP hS hl => lv_lstore h.1 h.2.1 hd hl (by rw [h.2.2.2.1]; exact hn) rfl (fun ls' hl' => kk H locs ls' hP hS (lvs_has2 hl' ho))
theorem g_aload_n (h : mOk x l μ n Γ) {k : Fin 4} {a : Nat} (hd : decode μ.2.1 pc = .ok (.aload_n k, 1)) (hl9 : lvg lv (k : Nat) = some (.ref a)) (kk : mG x (pc + 1) lv (.ref a :: st) σ) : mG x pc lv st σ :=
  fun H locs ls hP hS hl => lv_aload_n h.1 h.2.1 hd rfl (lvg_at hl hl9) (kk H locs ls hP hS hl)
theorem g_aload (h : mOk x l μ n Γ) {k : Nat} {a : Nat} (hd : decode μ.2.1 pc = .ok (.aload k, 2)) (hl9 : lvg lv k = some (.ref a)) (kk : mG x (pc + 2) lv (.ref a :: st) σ) : mG x pc lv st σ :=
  fun H locs ls hP hS hl => lv_aload h.1 h.2.1 hd (lvg_at hl hl9) (kk H locs ls hP hS hl)
theorem g_astore_n (h : mOk x l μ n Γ) {k : Fin 4} {a : Nat} (hd : decode μ.2.1 pc = .ok (.astore_n k, 1)) (hn : (k : Nat) < μ.2.2.1) (ho : lvo lv (k : Nat) = true) (kk : mG x (pc + 1) (lvs lv (k : Nat) (.ref a)) st σ) : mG x pc lv (.ref a :: st) σ :=
  fun H locs ls hP hS hl => lv_astore_n h.1 h.2.1 hd rfl hl (by rw [h.2.2.2.1]; exact hn) rfl (fun ls' hl' => kk H locs ls' hP hS (lvs_has hl' ho))
theorem g_astore (h : mOk x l μ n Γ) {k : Nat} {a : Nat} (hd : decode μ.2.1 pc = .ok (.astore k, 2)) (hn : k < μ.2.2.1) (ho : lvo lv k = true) (kk : mG x (pc + 2) (lvs lv k (.ref a)) st σ) : mG x pc lv (.ref a :: st) σ :=
  fun H locs ls hP hS hl => lv_astore h.1 h.2.1 hd hl (by rw [h.2.2.2.1]; exact hn) rfl (fun ls' hl' => kk H locs ls' hP hS (lvs_has hl' ho))
theorem g_iinc (h : mOk x l μ n Γ) {k : Nat} {d a : Int} (hd : decode μ.2.1 pc = .ok (.iinc k d, 3)) (hl9 : lvg lv k = some (mI a)) (hn : k < μ.2.2.1) (ho : lvo lv k = true) (kk : mG x (pc + 3) (lvs lv k (mI (a + d))) st σ) : mG x pc lv st σ := by
  intro H locs ls hP hS hl
  obtain ⟨i, hi⟩ := List.getElem?_of_mem (lvg_mem hl9)
  refine lv_iinc (x := Int32.ofInt a) (v := Int32.ofInt (a + d)) h.1 h.2.1 hd hl hi (Int32.ofInt_add a d).symm (by rw [h.2.2.2.1]; exact hn) rfl (fun ls' hl' => kk H locs ls' hP hS (lvs_has hl' ho))
theorem g_iadd (h : mOk x l μ n Γ) {a b : Int} (hd : decode μ.2.1 pc = .ok (.iadd, 1)) (kk : mG x (pc + 1) lv (mI (a + b) :: st) σ) : mG x pc lv (mI b :: mI a :: st) σ := by
  intro H locs ls hP hS hl
  have q := kk H locs ls hP hS hl
  have e := Int32.ofInt_add a b
  refine lv_iadd (x := Int32.ofInt a) (y := Int32.ofInt b) h.1 h.2.1 hd ?_
  rw [← e]
  exact q
theorem g_isub (h : mOk x l μ n Γ) {a b : Int} (hd : decode μ.2.1 pc = .ok (.isub, 1)) (kk : mG x (pc + 1) lv (mI (a - b) :: st) σ) : mG x pc lv (mI b :: mI a :: st) σ := by
  intro H locs ls hP hS hl
  have q := kk H locs ls hP hS hl
  have e := Int32.ofInt_sub a b
  refine lv_isub (x := Int32.ofInt a) (y := Int32.ofInt b) h.1 h.2.1 hd ?_
  rw [← e]
  exact q
theorem g_imul (h : mOk x l μ n Γ) {a b : Int} (hd : decode μ.2.1 pc = .ok (.imul, 1)) (kk : mG x (pc + 1) lv (mI (a * b) :: st) σ) : mG x pc lv (mI b :: mI a :: st) σ := by
  intro H locs ls hP hS hl
  have q := kk H locs ls hP hS hl
  have e := Int32.ofInt_mul a b
  refine lv_imul (x := Int32.ofInt a) (y := Int32.ofInt b) h.1 h.2.1 hd ?_
  rw [← e]
  exact q
theorem g_iand (h : mOk x l μ n Γ) {a b : Int} (hd : decode μ.2.1 pc = .ok (.iand, 1)) (kk : mG x (pc + 1) lv (mI (iAnd a b) :: st) σ) : mG x pc lv (mI b :: mI a :: st) σ := by
  intro H locs ls hP hS hl
  have q := kk H locs ls hP hS hl
  have e := (Int32.ofInt_toInt _ : Int32.ofInt (iAnd a b) = Int32.ofInt a &&& Int32.ofInt b)
  refine lv_iand (x := Int32.ofInt a) (y := Int32.ofInt b) h.1 h.2.1 hd ?_
  rw [← e]
  exact q
theorem g_ior (h : mOk x l μ n Γ) {a b : Int} (hd : decode μ.2.1 pc = .ok (.ior, 1)) (kk : mG x (pc + 1) lv (mI (iOr a b) :: st) σ) : mG x pc lv (mI b :: mI a :: st) σ := by
  intro H locs ls hP hS hl
  have q := kk H locs ls hP hS hl
  have e := (Int32.ofInt_toInt _ : Int32.ofInt (iOr a b) = Int32.ofInt a ||| Int32.ofInt b)
  refine lv_ior (x := Int32.ofInt a) (y := Int32.ofInt b) h.1 h.2.1 hd ?_
  rw [← e]
  exact q
theorem g_ixor (h : mOk x l μ n Γ) {a b : Int} (hd : decode μ.2.1 pc = .ok (.ixor, 1)) (kk : mG x (pc + 1) lv (mI (iXor a b) :: st) σ) : mG x pc lv (mI b :: mI a :: st) σ := by
  intro H locs ls hP hS hl
  have q := kk H locs ls hP hS hl
  have e := (Int32.ofInt_toInt _ : Int32.ofInt (iXor a b) = Int32.ofInt a ^^^ Int32.ofInt b)
  refine lv_ixor (x := Int32.ofInt a) (y := Int32.ofInt b) h.1 h.2.1 hd ?_
  rw [← e]
  exact q
theorem g_ishl (h : mOk x l μ n Γ) {a b : Int} (hd : decode μ.2.1 pc = .ok (.ishl, 1)) (kk : mG x (pc + 1) lv (mI (iShl a b) :: st) σ) : mG x pc lv (mI b :: mI a :: st) σ := by
  intro H locs ls hP hS hl
  have q := kk H locs ls hP hS hl
  have e := (Int32.ofInt_toInt _ : Int32.ofInt (iShl a b) = Int32.ofInt a <<< (Int32.ofInt b &&& 31))
  refine lv_ishl (x := Int32.ofInt a) (y := Int32.ofInt b) h.1 h.2.1 hd ?_
  rw [← e]
  exact q
theorem g_ishr (h : mOk x l μ n Γ) {a b : Int} (hd : decode μ.2.1 pc = .ok (.ishr, 1)) (kk : mG x (pc + 1) lv (mI (iShr a b) :: st) σ) : mG x pc lv (mI b :: mI a :: st) σ := by
  intro H locs ls hP hS hl
  have q := kk H locs ls hP hS hl
  have e := (Int32.ofInt_toInt _ : Int32.ofInt (iShr a b) = Int32.ofInt a >>> (Int32.ofInt b &&& 31))
  refine lv_ishr (x := Int32.ofInt a) (y := Int32.ofInt b) h.1 h.2.1 hd ?_
  rw [← e]
  exact q
theorem g_iushr (h : mOk x l μ n Γ) {a b : Int} (hd : decode μ.2.1 pc = .ok (.iushr, 1)) (kk : mG x (pc + 1) lv (mI (iUsh a b) :: st) σ) : mG x pc lv (mI b :: mI a :: st) σ :=
  fun H locs ls hP hS hl => lv_iushr (x := Int32.ofInt a) (y := Int32.ofInt b) (v := Int32.ofInt (iUsh a b)) h.1 h.2.1 hd (Int32.ofInt_toInt _).symm (kk H locs ls hP hS hl)
theorem g_idiv (h : mOk x l μ n Γ) {a b : Int} (hd : decode μ.2.1 pc = .ok (.idiv, 1)) (ha : 0 ≤ a) (ha2 : a ≤ 2147483647) (hb : 0 < b) (hb2 : b ≤ 2147483647) (kk : mG x (pc + 1) lv (mI (a / b) :: st) σ) : mG x pc lv (mI b :: mI a :: st) σ := by
  intro H locs ls hP hS hl
  have q := kk H locs ls hP hS hl
  have e : Int32.ofInt (a / b) = Int32.ofInt a / Int32.ofInt b := by
    rw [← Int.tdiv_eq_ediv_of_nonneg ha]
    exact Int32.ofInt_tdiv (by show (-2147483648 : Int) ≤ a; omega) (by show a ≤ 2147483647; omega) (by show (-2147483648 : Int) ≤ b; omega) (by show b ≤ 2147483647; omega)
  refine lv_idiv (x := Int32.ofInt a) (y := Int32.ofInt b) h.1 h.2.1 hd (fun z => ?_) ?_
  · have := (i32_eq (a := b) (b := 0) ⟨by omega, by omega⟩ ⟨by omega, by omega⟩).mp (z.trans i32_0)
    omega
  · rw [← e]
    exact q
theorem g_irem (h : mOk x l μ n Γ) {a b : Int} (hd : decode μ.2.1 pc = .ok (.irem, 1)) (ha : 0 ≤ a) (ha2 : a ≤ 2147483647) (hb : 0 < b) (hb2 : b ≤ 2147483647) (kk : mG x (pc + 1) lv (mI (a % b) :: st) σ) : mG x pc lv (mI b :: mI a :: st) σ := by
  intro H locs ls hP hS hl
  have q := kk H locs ls hP hS hl
  have e : Int32.ofInt (a / b) = Int32.ofInt a / Int32.ofInt b := by
    rw [← Int.tdiv_eq_ediv_of_nonneg ha]
    exact Int32.ofInt_tdiv (by show (-2147483648 : Int) ≤ a; omega) (by show a ≤ 2147483647; omega) (by show (-2147483648 : Int) ≤ b; omega) (by show b ≤ 2147483647; omega)
  have e2 : Int32.ofInt (a % b) = Int32.ofInt a - Int32.ofInt a / Int32.ofInt b * Int32.ofInt b := by
    rw [← e, ← Int32.ofInt_mul, ← Int32.ofInt_sub, Int.emod_def, Int.mul_comm]
  refine lv_irem (x := Int32.ofInt a) (y := Int32.ofInt b) h.1 h.2.1 hd (fun z => ?_) ?_
  · have := (i32_eq (a := b) (b := 0) ⟨by omega, by omega⟩ ⟨by omega, by omega⟩).mp (z.trans i32_0)
    omega
  · rw [← e2]
    exact q
theorem g_ladd (h : mOk x l μ n Γ) {a b : Int} (hd : decode μ.2.1 pc = .ok (.ladd, 1)) (kk : mG x (pc + 1) lv (mL (a + b) :: st) σ) : mG x pc lv (mL b :: mL a :: st) σ := by
  intro H locs ls hP hS hl
  have q := kk H locs ls hP hS hl
  have e := Int64.ofInt_add a b
  refine lv_ladd (x := Int64.ofInt a) (y := Int64.ofInt b) h.1 h.2.1 hd ?_
  rw [← e]
  exact q
theorem g_lsub (h : mOk x l μ n Γ) {a b : Int} (hd : decode μ.2.1 pc = .ok (.lsub, 1)) (kk : mG x (pc + 1) lv (mL (a - b) :: st) σ) : mG x pc lv (mL b :: mL a :: st) σ := by
  intro H locs ls hP hS hl
  have q := kk H locs ls hP hS hl
  have e := Int64.ofInt_sub a b
  refine lv_lsub (x := Int64.ofInt a) (y := Int64.ofInt b) h.1 h.2.1 hd ?_
  rw [← e]
  exact q
theorem g_land (h : mOk x l μ n Γ) {a b : Int} (hd : decode μ.2.1 pc = .ok (.land, 1)) (kk : mG x (pc + 1) lv (mL (lAnd a b) :: st) σ) : mG x pc lv (mL b :: mL a :: st) σ := by
  intro H locs ls hP hS hl
  have q := kk H locs ls hP hS hl
  have e := (Int64.ofInt_toInt _ : Int64.ofInt (lAnd a b) = Int64.ofInt a &&& Int64.ofInt b)
  refine lv_land (x := Int64.ofInt a) (y := Int64.ofInt b) h.1 h.2.1 hd ?_
  rw [← e]
  exact q
theorem g_lxor (h : mOk x l μ n Γ) {a b : Int} (hd : decode μ.2.1 pc = .ok (.lxor, 1)) (kk : mG x (pc + 1) lv (mL (lXor a b) :: st) σ) : mG x pc lv (mL b :: mL a :: st) σ := by
  intro H locs ls hP hS hl
  have q := kk H locs ls hP hS hl
  have e := (Int64.ofInt_toInt _ : Int64.ofInt (lXor a b) = Int64.ofInt a ^^^ Int64.ofInt b)
  refine lv_lxor (x := Int64.ofInt a) (y := Int64.ofInt b) h.1 h.2.1 hd ?_
  rw [← e]
  exact q
theorem g_lshl (h : mOk x l μ n Γ) {a b : Int} (hd : decode μ.2.1 pc = .ok (.lshl, 1)) (kk : mG x (pc + 1) lv (mL (lShl a b) :: st) σ) : mG x pc lv (mI b :: mL a :: st) σ :=
  fun H locs ls hP hS hl => lv_lshl (x := Int64.ofInt a) (y := Int32.ofInt b) (v := Int64.ofInt (lShl a b)) h.1 h.2.1 hd (Int64.ofInt_toInt _).symm (kk H locs ls hP hS hl)
theorem g_lshr (h : mOk x l μ n Γ) {a b : Int} (hd : decode μ.2.1 pc = .ok (.lshr, 1)) (kk : mG x (pc + 1) lv (mL (lShr a b) :: st) σ) : mG x pc lv (mI b :: mL a :: st) σ :=
  fun H locs ls hP hS hl => lv_lshr (x := Int64.ofInt a) (y := Int32.ofInt b) (v := Int64.ofInt (lShr a b)) h.1 h.2.1 hd (Int64.ofInt_toInt _).symm (kk H locs ls hP hS hl)
theorem g_lushr (h : mOk x l μ n Γ) {a b : Int} (hd : decode μ.2.1 pc = .ok (.lushr, 1)) (kk : mG x (pc + 1) lv (mL (lUsh a b) :: st) σ) : mG x pc lv (mI b :: mL a :: st) σ :=
  fun H locs ls hP hS hl => lv_lushr (x := Int64.ofInt a) (y := Int32.ofInt b) (v := Int64.ofInt (lUsh a b)) h.1 h.2.1 hd (Int64.ofInt_toInt _).symm (kk H locs ls hP hS hl)
theorem g_i2b (h : mOk x l μ n Γ) {a : Int} (hd : decode μ.2.1 pc = .ok (.i2b, 1)) (kk : mG x (pc + 1) lv (mI (iB a) :: st) σ) : mG x pc lv (mI a :: st) σ :=
  fun H locs ls hP hS hl => lv_i2b (x := Int32.ofInt a) (v := Int32.ofInt (iB a)) h.1 h.2.1 hd (Int32.ofInt_toInt _).symm (kk H locs ls hP hS hl)
theorem g_i2s (h : mOk x l μ n Γ) {a : Int} (hd : decode μ.2.1 pc = .ok (.i2s, 1)) (kk : mG x (pc + 1) lv (mI (iH a) :: st) σ) : mG x pc lv (mI a :: st) σ :=
  fun H locs ls hP hS hl => lv_i2s (x := Int32.ofInt a) (v := Int32.ofInt (iH a)) h.1 h.2.1 hd (Int32.ofInt_toInt _).symm (kk H locs ls hP hS hl)
theorem g_i2c (h : mOk x l μ n Γ) {a : Int} (hd : decode μ.2.1 pc = .ok (.i2c, 1)) (kk : mG x (pc + 1) lv (mI (iC a) :: st) σ) : mG x pc lv (mI a :: st) σ :=
  fun H locs ls hP hS hl => lv_i2c (x := Int32.ofInt a) (v := Int32.ofInt (iC a)) h.1 h.2.1 hd (Int32.ofInt_toInt _).symm (kk H locs ls hP hS hl)
theorem g_i2l (h : mOk x l μ n Γ) {a : Int} (hd : decode μ.2.1 pc = .ok (.i2l, 1)) (ha : i32 a) (kk : mG x (pc + 1) lv (mL a :: st) σ) : mG x pc lv (mI a :: st) σ :=
  fun H locs ls hP hS hl => lv_i2l (x := Int32.ofInt a) (v := Int64.ofInt a) h.1 h.2.1 hd (Int32.toInt64_ofInt (by show (-2147483648 : Int) ≤ a; exact ha.1) (by show a ≤ 2147483647; exact ha.2)) (kk H locs ls hP hS hl)
theorem g_l2i (h : mOk x l μ n Γ) {a : Int} (hd : decode μ.2.1 pc = .ok (.l2i, 1)) (kk : mG x (pc + 1) lv (mI a :: st) σ) : mG x pc lv (mL a :: st) σ :=
  fun H locs ls hP hS hl => lv_l2i (x := Int64.ofInt a) (v := Int32.ofInt a) h.1 h.2.1 hd Int64.toInt32_ofInt (kk H locs ls hP hS hl)
def cmp3 (a b : Int) : Int := if b < a then 1 else if a = b then 0 else -1
theorem g_lcmp (h : mOk x l μ n Γ) {a b : Int} (hd : decode μ.2.1 pc = .ok (.lcmp, 1)) (ha : i64 a) (hb : i64 b) (kk : mG x (pc + 1) lv (mI (cmp3 a b) :: st) σ) : mG x pc lv (mL b :: mL a :: st) σ := by
  intro H locs ls hP hS hl
  have q := kk H locs ls hP hS hl
  have e : Int32.ofInt (cmp3 a b) = lg_cmp (Int64.ofInt a) (Int64.ofInt b) := by
    unfold cmp3 lg_cmp
    simp only [gt_iff_lt, Int64.lt_iff_toInt_lt, ← Int64.toInt_inj, i64_to ha, i64_to hb]
    by_cases h1 : b < a
    · rw [if_pos h1, if_pos h1]; decide
    · rw [if_neg h1, if_neg h1]
      by_cases h2 : a = b
      · rw [if_pos h2, if_pos h2]; decide
      · rw [if_neg h2, if_neg h2]; decide
  refine W.lcmp (x := Int64.ofInt a) (y := Int64.ofInt b) h.1 h.2.1 hd ?_
  rw [← e]
  exact q
theorem g_dup (h : mOk x l μ n Γ) {v : Value} (hd : decode μ.2.1 pc = .ok (.dup, 1)) (hv : v.category = 1) (kk : mG x (pc + 1) lv (v :: v :: st) σ) : mG x pc lv (v :: st) σ :=
  fun H locs ls hP hS hl => lv_dup h.1 h.2.1 hd hv (kk H locs ls hP hS hl)
theorem g_pop (h : mOk x l μ n Γ) {v : Value} (hd : decode μ.2.1 pc = .ok (.pop, 1)) (hv : v.category = 1) (kk : mG x (pc + 1) lv st σ) : mG x pc lv (v :: st) σ :=
  fun H locs ls hP hS hl => lv_pop h.1 h.2.1 hd hv (kk H locs ls hP hS hl)
theorem g_goto (h : mOk x l μ n Γ) {off : Int} {tgt : Nat} (hd : decode μ.2.1 pc = .ok (.goto off, 3)) (ht : (pc : Int) + off = (tgt : Int)) (kk : mG x tgt lv st σ) : mG x pc lv st σ :=
  fun H locs ls hP hS hl => lv_goto h.1 h.2.1 hd ht (kk H locs ls hP hS hl)
theorem g_icmp_eq (h : mOk x l μ n Γ) {a b : Int} {off : Int} {tgt : Nat} (hd : decode μ.2.1 pc = .ok (.if_icmp .eq off, 3)) (ht : (pc : Int) + off = (tgt : Int)) (ha : i32 a) (hb : i32 b) (kt : a = b → mG x tgt lv st σ) (kf : ¬ a = b → mG x (pc + 3) lv st σ) : mG x pc lv (mI b :: mI a :: st) σ :=
  fun H locs ls hP hS hl => lv_icmp_eq (x := Int32.ofInt a) (y := Int32.ofInt b) h.1 h.2.1 hd ht (fun c => kt ((i32_eq ha hb).mp c) H locs ls hP hS hl) (fun c => kf (fun q => c ((i32_eq ha hb).mpr q)) H locs ls hP hS hl)
theorem g_if_eq (h : mOk x l μ n Γ) {a : Int} {off : Int} {tgt : Nat} (hd : decode μ.2.1 pc = .ok (.ifCond .eq off, 3)) (ht : (pc : Int) + off = (tgt : Int)) (ha : i32 a) (kt : a = 0 → mG x tgt lv st σ) (kf : ¬ a = 0 → mG x (pc + 3) lv st σ) : mG x pc lv (mI a :: st) σ := by
  have hb : i32 0 := ⟨by omega, by omega⟩
  intro H locs ls hP hS hl
  refine lv_if_eq (x := Int32.ofInt a) h.1 h.2.1 hd ht (fun c => ?_) (fun c => ?_)
  · rw [i32_0] at c
    exact kt ((i32_eq ha hb).mp c) H locs ls hP hS hl
  · rw [i32_0] at c
    exact kf (fun q => c ((i32_eq ha hb).mpr q)) H locs ls hP hS hl
theorem g_icmp_ne (h : mOk x l μ n Γ) {a b : Int} {off : Int} {tgt : Nat} (hd : decode μ.2.1 pc = .ok (.if_icmp .ne off, 3)) (ht : (pc : Int) + off = (tgt : Int)) (ha : i32 a) (hb : i32 b) (kt : ¬ a = b → mG x tgt lv st σ) (kf : a = b → mG x (pc + 3) lv st σ) : mG x pc lv (mI b :: mI a :: st) σ :=
  fun H locs ls hP hS hl => lv_icmp_ne (x := Int32.ofInt a) (y := Int32.ofInt b) h.1 h.2.1 hd ht (fun c => kt (fun q => c ((i32_eq ha hb).mpr q)) H locs ls hP hS hl) (fun c => kf ((i32_eq ha hb).mp c) H locs ls hP hS hl)
theorem g_if_ne (h : mOk x l μ n Γ) {a : Int} {off : Int} {tgt : Nat} (hd : decode μ.2.1 pc = .ok (.ifCond .ne off, 3)) (ht : (pc : Int) + off = (tgt : Int)) (ha : i32 a) (kt : ¬ a = 0 → mG x tgt lv st σ) (kf : a = 0 → mG x (pc + 3) lv st σ) : mG x pc lv (mI a :: st) σ := by
  have hb : i32 0 := ⟨by omega, by omega⟩
  intro H locs ls hP hS hl
  refine lv_if_ne (x := Int32.ofInt a) h.1 h.2.1 hd ht (fun c => ?_) (fun c => ?_)
  · rw [i32_0] at c
    exact kt (fun q => c ((i32_eq ha hb).mpr q)) H locs ls hP hS hl
  · rw [i32_0] at c
    exact kf ((i32_eq ha hb).mp c) H locs ls hP hS hl
theorem g_icmp_lt (h : mOk x l μ n Γ) {a b : Int} {off : Int} {tgt : Nat} (hd : decode μ.2.1 pc = .ok (.if_icmp .lt off, 3)) (ht : (pc : Int) + off = (tgt : Int)) (ha : i32 a) (hb : i32 b) (kt : a < b → mG x tgt lv st σ) (kf : ¬ a < b → mG x (pc + 3) lv st σ) : mG x pc lv (mI b :: mI a :: st) σ :=
  fun H locs ls hP hS hl => lv_icmp_lt (x := Int32.ofInt a) (y := Int32.ofInt b) h.1 h.2.1 hd ht (fun c => kt ((i32_lt ha hb).mp c) H locs ls hP hS hl) (fun c => kf (fun q => c ((i32_lt ha hb).mpr q)) H locs ls hP hS hl)
theorem g_if_lt (h : mOk x l μ n Γ) {a : Int} {off : Int} {tgt : Nat} (hd : decode μ.2.1 pc = .ok (.ifCond .lt off, 3)) (ht : (pc : Int) + off = (tgt : Int)) (ha : i32 a) (kt : a < 0 → mG x tgt lv st σ) (kf : ¬ a < 0 → mG x (pc + 3) lv st σ) : mG x pc lv (mI a :: st) σ := by
  have hb : i32 0 := ⟨by omega, by omega⟩
  intro H locs ls hP hS hl
  refine lv_if_lt (x := Int32.ofInt a) h.1 h.2.1 hd ht (fun c => ?_) (fun c => ?_)
  · rw [i32_0] at c
    exact kt ((i32_lt ha hb).mp c) H locs ls hP hS hl
  · rw [i32_0] at c
    exact kf (fun q => c ((i32_lt ha hb).mpr q)) H locs ls hP hS hl
theorem g_icmp_ge (h : mOk x l μ n Γ) {a b : Int} {off : Int} {tgt : Nat} (hd : decode μ.2.1 pc = .ok (.if_icmp .ge off, 3)) (ht : (pc : Int) + off = (tgt : Int)) (ha : i32 a) (hb : i32 b) (kt : b ≤ a → mG x tgt lv st σ) (kf : ¬ b ≤ a → mG x (pc + 3) lv st σ) : mG x pc lv (mI b :: mI a :: st) σ :=
  fun H locs ls hP hS hl => lv_icmp_ge (x := Int32.ofInt a) (y := Int32.ofInt b) h.1 h.2.1 hd ht (fun c => kt ((i32_le hb ha).mp c) H locs ls hP hS hl) (fun c => kf (fun q => c ((i32_le hb ha).mpr q)) H locs ls hP hS hl)
theorem g_if_ge (h : mOk x l μ n Γ) {a : Int} {off : Int} {tgt : Nat} (hd : decode μ.2.1 pc = .ok (.ifCond .ge off, 3)) (ht : (pc : Int) + off = (tgt : Int)) (ha : i32 a) (kt : 0 ≤ a → mG x tgt lv st σ) (kf : ¬ 0 ≤ a → mG x (pc + 3) lv st σ) : mG x pc lv (mI a :: st) σ := by
  have hb : i32 0 := ⟨by omega, by omega⟩
  intro H locs ls hP hS hl
  refine lv_if_ge (x := Int32.ofInt a) h.1 h.2.1 hd ht (fun c => ?_) (fun c => ?_)
  · rw [i32_0] at c
    exact kt ((i32_le hb ha).mp c) H locs ls hP hS hl
  · rw [i32_0] at c
    exact kf (fun q => c ((i32_le hb ha).mpr q)) H locs ls hP hS hl
theorem g_icmp_gt (h : mOk x l μ n Γ) {a b : Int} {off : Int} {tgt : Nat} (hd : decode μ.2.1 pc = .ok (.if_icmp .gt off, 3)) (ht : (pc : Int) + off = (tgt : Int)) (ha : i32 a) (hb : i32 b) (kt : b < a → mG x tgt lv st σ) (kf : ¬ b < a → mG x (pc + 3) lv st σ) : mG x pc lv (mI b :: mI a :: st) σ :=
  fun H locs ls hP hS hl => lv_icmp_gt (x := Int32.ofInt a) (y := Int32.ofInt b) h.1 h.2.1 hd ht (fun c => kt ((i32_lt hb ha).mp c) H locs ls hP hS hl) (fun c => kf (fun q => c ((i32_lt hb ha).mpr q)) H locs ls hP hS hl)
theorem g_if_gt (h : mOk x l μ n Γ) {a : Int} {off : Int} {tgt : Nat} (hd : decode μ.2.1 pc = .ok (.ifCond .gt off, 3)) (ht : (pc : Int) + off = (tgt : Int)) (ha : i32 a) (kt : 0 < a → mG x tgt lv st σ) (kf : ¬ 0 < a → mG x (pc + 3) lv st σ) : mG x pc lv (mI a :: st) σ := by
  have hb : i32 0 := ⟨by omega, by omega⟩
  intro H locs ls hP hS hl
  refine lv_if_gt (x := Int32.ofInt a) h.1 h.2.1 hd ht (fun c => ?_) (fun c => ?_)
  · rw [i32_0] at c
    exact kt ((i32_lt hb ha).mp c) H locs ls hP hS hl
  · rw [i32_0] at c
    exact kf (fun q => c ((i32_lt hb ha).mpr q)) H locs ls hP hS hl
theorem g_icmp_le (h : mOk x l μ n Γ) {a b : Int} {off : Int} {tgt : Nat} (hd : decode μ.2.1 pc = .ok (.if_icmp .le off, 3)) (ht : (pc : Int) + off = (tgt : Int)) (ha : i32 a) (hb : i32 b) (kt : a ≤ b → mG x tgt lv st σ) (kf : ¬ a ≤ b → mG x (pc + 3) lv st σ) : mG x pc lv (mI b :: mI a :: st) σ :=
  fun H locs ls hP hS hl => lv_icmp_le (x := Int32.ofInt a) (y := Int32.ofInt b) h.1 h.2.1 hd ht (fun c => kt ((i32_le ha hb).mp c) H locs ls hP hS hl) (fun c => kf (fun q => c ((i32_le ha hb).mpr q)) H locs ls hP hS hl)
theorem g_if_le (h : mOk x l μ n Γ) {a : Int} {off : Int} {tgt : Nat} (hd : decode μ.2.1 pc = .ok (.ifCond .le off, 3)) (ht : (pc : Int) + off = (tgt : Int)) (ha : i32 a) (kt : a ≤ 0 → mG x tgt lv st σ) (kf : ¬ a ≤ 0 → mG x (pc + 3) lv st σ) : mG x pc lv (mI a :: st) σ := by
  have hb : i32 0 := ⟨by omega, by omega⟩
  intro H locs ls hP hS hl
  refine lv_if_le (x := Int32.ofInt a) h.1 h.2.1 hd ht (fun c => ?_) (fun c => ?_)
  · rw [i32_0] at c
    exact kt ((i32_le ha hb).mp c) H locs ls hP hS hl
  · rw [i32_0] at c
    exact kf (fun q => c ((i32_le ha hb).mpr q)) H locs ls hP hS hl
/-! answers -/
theorem g_iret (h : mOk x l μ n Γ) {post : Int → mS → Prop} (hq : rI x Γ post) (hr : μ.2.2.2 = some .int) {z : Int} (hd : decode μ.2.1 pc = .ok (.ireturn, 1)) (hp : post z σ) : mG x pc lv [mI z] σ := by
  obtain ⟨hx, hb, hm, hnl, ho, ht, hR, hΓ, hD, hK, hN, hS9, hlk, hrt, hll⟩ := h
  subst hΓ
  intro H locs ls hP hS hl
  unfold rI at hq
  rw [hq]
  exact W.iret (v := Int32.ofInt z) hx hb (hrt.trans hr) (fun t ht hW => ⟨⟨_, σ, rfl, ⟨z, rfl, hp⟩, by rw [ht]; exact hP, va_K.moved hW.alike hK⟩, hS.F ht⟩) hS.2.2 hd hlk
theorem g_zret (h : mOk x l μ n Γ) {post : Int → mS → Prop} (hq : rI x Γ post) (hr : μ.2.2.2 = some .boolean) {z : Int} (hd : decode μ.2.1 pc = .ok (.ireturn, 1)) (hz : z = 0 ∨ z = 1) (hp : post z σ) : mG x pc lv [mI z] σ := by
  obtain ⟨hx, hb, hm, hnl, ho, ht, hR, hΓ, hD, hK, hN, hS9, hlk, hrt, hll⟩ := h
  subst hΓ
  intro H locs ls hP hS hl
  unfold rI at hq
  rw [hq]
  exact W.zret (v := Int32.ofInt z) (ty := .boolean) hx hb (hrt.trans hr) (by rcases hz with rfl | rfl <;> rfl) (fun t ht hW => ⟨⟨_, σ, rfl, ⟨z, rfl, hp⟩, by rw [ht]; exact hP, va_K.moved hW.alike hK⟩, hS.F ht⟩) hS.2.2 hd hlk
theorem g_cret (h : mOk x l μ n Γ) {post : Int → mS → Prop} (hq : rI x Γ post) {ty : FieldType} (hr : μ.2.2.2 = some ty) {z : Int} (hd : decode μ.2.1 pc = .ok (.ireturn, 1)) (hz : narrow ty (mI z) = mI z) (hp : post z σ) : mG x pc lv [mI z] σ := by
  obtain ⟨hx, hb, hm, hnl, ho, ht, hR, hΓ, hD, hK, hN, hS9, hlk, hrt, hll⟩ := h
  subst hΓ
  intro H locs ls hP hS hl
  unfold rI at hq
  rw [hq]
  exact W.zret (v := Int32.ofInt z) (ty := ty) hx hb (hrt.trans hr) hz (fun t ht hW => ⟨⟨_, σ, rfl, ⟨z, rfl, hp⟩, by rw [ht]; exact hP, va_K.moved hW.alike hK⟩, hS.F ht⟩) hS.2.2 hd hlk
theorem g_lret (h : mOk x l μ n Γ) {post : Int → mS → Prop} (hq : rL x Γ post) (hr : μ.2.2.2 = some .long) {z : Int} (hd : decode μ.2.1 pc = .ok (.lreturn, 1)) (hp : post z σ) : mG x pc lv [mL z] σ := by
  obtain ⟨hx, hb, hm, hnl, ho, ht, hR, hΓ, hD, hK, hN, hS9, hlk, hrt, hll⟩ := h
  subst hΓ
  intro H locs ls hP hS hl
  unfold rL at hq
  rw [hq]
  exact W.lret (v := Int64.ofInt z) hx hb (hrt.trans hr) (fun t ht hW => ⟨⟨_, σ, rfl, ⟨z, rfl, hp⟩, by rw [ht]; exact hP, va_K.moved hW.alike hK⟩, hS.F ht⟩) hS.2.2 hd hlk
theorem g_vret (h : mOk x l μ n Γ) {post : mS → Prop} (hq : rV x Γ post) (hr : μ.2.2.2 = none) (hd : decode μ.2.1 pc = .ok (.return_, 1)) (hp : post σ) : mG x pc lv [] σ := by
  obtain ⟨hx, hb, hm, hnl, ho, ht, hR, hΓ, hD, hK, hN, hS9, hlk, hrt, hll⟩ := h
  subst hΓ
  intro H locs ls hP hS hl
  unfold rV at hq
  rw [hq]
  exact W.vret hx hb (hrt.trans hr) (fun t ht hW => ⟨⟨σ, rfl, hp, by rw [ht]; exact hP, va_K.moved hW.alike hK⟩, hS.F ht⟩) hS.2.2 hd hlk
/-! fields -/
def mLf (own : String) (idx : Nat) (r nm ds : String) : Prop := Cond.fieldLink own idx r nm ds ∈ gT ∨ ∃ host, Cond.fieldLinkNest own idx r nm ds host ∈ nWs
theorem g_getf (h : mOk x l μ n Γ) {C : String} {T : u_T} {N ci idx j : Nat} {k : Int} {fs : List Value} {v : Value} (hin : ∀ w ∈ u_ws C T N, w ∈ gT) (hc : vwCl[ci]? = some (C, T, N)) (hj : j < N) (hL : mLf μ.1.cls idx (T j).1 (T j).2.1 (T j).2.2.1) (hd : decode μ.2.1 pc = .ok (.getfield idx, 3)) (h0 : 0 ≤ k) (h1 : k < (Γ.2.2.1 : Int)) (hE : Γ.2.2.2.2 σ k = .inr (ci, fs)) (hv : fs[j]? = some v) (kk : mG x (pc + 3) lv (v :: st) σ) : mG x pc lv (.ref (Γ.2.2.2.1 k) :: st) σ := by
  obtain ⟨hx, hb, hm, hnl, ho, ht, hR, hΓ, hD, hK, hN, hS9, hlk, hrt, hll⟩ := h
  subst hΓ
  intro H locs ls hP hS hl
  have he : (mW x.2.2.1 σ)[k.toNat]? = some (x.2.2.1.2.2.2.1 k, .inr (ci, fs)) := by rw [← hE]; exact mWd_get h0 h1
  rcases hL with hL | ⟨host, hL⟩
  · exact va_get hx hb ht hin ho hK hP k.toNat he hc j hj (ht _ hL) (fun _ h9 => h9) hv hd (kk H locs ls hP hS hl)
  · exact va_getN hx hb ht hin ho hK hP k.toNat he hc j hj (va_Nw.use rfl (hN _ hL)) (fun _ h9 => h9) hv hd (kk H locs ls hP hS hl)
theorem g_putf (h : mOk x l μ n Γ) {C : String} {T : u_T} {N ci idx j : Nat} {k : Int} {fs : List Value} {v : Value} {σ' : mS} {ty : FieldType} (hin : ∀ w ∈ u_ws C T N, w ∈ gT) (ty0 : Nat → FieldType) (hty : ∀ k, k < N → parseFieldDescriptor (T k).2.2.1 = some (ty0 k)) (hnm : ∀ a, a < N → ∀ b, b < N → a ≠ b → (T a).2.1 ≠ (T b).2.1) (hc : vwCl[ci]? = some (C, T, N)) (hj : j < N) (hL : mLf μ.1.cls idx (T j).1 (T j).2.1 (T j).2.2.1) (hfin : (T j).2.2.2 = false) (hdd : parseFieldDescriptor (T j).2.2.1 = some ty) (hnr : narrow ty v = v) (hft : fits ty v = true) (hlen : j < fs.length) (hd : decode μ.2.1 pc = .ok (.putfield idx, 3)) (h0 : 0 ≤ k) (h1 : k < (Γ.2.2.1 : Int)) (hE : Γ.2.2.2.2 σ k = .inr (ci, fs)) (hE' : Γ.2.2.2.2 σ' k = .inr (ci, fs.set j v)) (hoth : ∀ a : Int, a ≠ k → Γ.2.2.2.2 σ' a = Γ.2.2.2.2 σ a) (kk : mG x (pc + 3) lv st σ') : mG x pc lv (v :: .ref (Γ.2.2.2.1 k) :: st) σ := by
  obtain ⟨hx, hb, hm, hnl, ho, ht, hR, hΓ, hD, hK, hN, hS9, hlk, hrt, hll⟩ := h
  subst hΓ
  intro H locs ls hP hS hl
  have he : (mW x.2.2.1 σ)[k.toNat]? = some (x.2.2.1.2.2.2.1 k, .inr (ci, fs)) := by rw [← hE]; exact mWd_get h0 h1
  have hset : (mW x.2.2.1 σ).set k.toNat (x.2.2.1.2.2.2.1 k, .inr (ci, fs.set j v)) = mW x.2.2.1 σ' := mWd_set h0 h1 hE' hoth
  rcases hL with hL | ⟨host, hL⟩
  · exact va_put hx hb ht hin ty0 hty hnm ho hK hP (mW_D hD σ _) hS k.toNat he hc j hj (ht _ hL) (fun _ h9 => h9) hfin hdd hnr hft hlen hd (fun H1 locs1 hP1 _ hS1 => kk H1 locs1 ls (by rw [← hset]; exact hP1) hS1 hl)
  · exact va_putN hx hb ht hin ty0 hty hnm ho hK hP (mW_D hD σ _) hS k.toNat he hc j hj (va_Nw.use rfl (hN _ hL)) (fun _ h9 => h9) hfin hdd hnr hft hlen hd (fun H1 locs1 hP1 _ hS1 => kk H1 locs1 ls (by rw [← hset]; exact hP1) hS1 hl)
/-! arrays -/
theorem g_iald (h : mOk x l μ n Γ) {k i : Int} {t0 N : Nat} {cA : ClassId} {f : Nat → Int32} {v : Int} (h0 : 0 ≤ k) (h1 : k < (Γ.2.2.1 : Int)) (hE : Γ.2.2.2.2 σ k = .inl (cA, N, .inl f)) (ht0 : Γ.2.1[t0]? = some (cA, .int)) (hi0 : 0 ≤ i) (hi1 : i < (N : Int)) (hNs : N ≤ 2147483647) (hv : f i.toNat = Int32.ofInt v) (hd : decode μ.2.1 pc = .ok (.iaload, 1)) (kk : mG x (pc + 1) lv (mI v :: st) σ) : mG x pc lv (mI i :: .ref (Γ.2.2.2.1 k) :: st) σ := by
  obtain ⟨hx, hb, hm, hnl, ho, ht, hR, hΓ, hD, hK, hN, hS9, hlk, hrt, hll⟩ := h
  subst hΓ
  intro H locs ls hP hS hl
  have he : (mW x.2.2.1 σ)[k.toNat]? = some (x.2.2.1.2.2.2.1 k, .inl (cA, N, .inl f)) := by rw [← hE]; exact mWd_get h0 h1
  refine va_iald (i := Int32.ofInt i) hx hb hK hP k.toNat t0 he ht0 (i32_in hi0 hi1 hNs) hd ?_
  rw [i32_cl hi0 (by omega), hv]
  exact kk H locs ls hP hS hl
theorem g_zald (h : mOk x l μ n Γ) {k i : Int} {t0 N : Nat} {cA : ClassId} {f : Nat → Int32} {v : Int} (h0 : 0 ≤ k) (h1 : k < (Γ.2.2.1 : Int)) (hE : Γ.2.2.2.2 σ k = .inl (cA, N, .inl f)) (ht0 : Γ.2.1[t0]? = some (cA, .boolean)) (hi0 : 0 ≤ i) (hi1 : i < (N : Int)) (hNs : N ≤ 2147483647) (hv : f i.toNat = Int32.ofInt v) (hd : decode μ.2.1 pc = .ok (.baload, 1)) (kk : mG x (pc + 1) lv (mI v :: st) σ) : mG x pc lv (mI i :: .ref (Γ.2.2.2.1 k) :: st) σ := by
  obtain ⟨hx, hb, hm, hnl, ho, ht, hR, hΓ, hD, hK, hN, hS9, hlk, hrt, hll⟩ := h
  subst hΓ
  intro H locs ls hP hS hl
  have he : (mW x.2.2.1 σ)[k.toNat]? = some (x.2.2.1.2.2.2.1 k, .inl (cA, N, .inl f)) := by rw [← hE]; exact mWd_get h0 h1
  refine va_zald (i := Int32.ofInt i) hx hb hK hP k.toNat t0 he ht0 (i32_in hi0 hi1 hNs) hd ?_
  rw [i32_cl hi0 (by omega), hv]
  exact kk H locs ls hP hS hl
theorem g_aald (h : mOk x l μ n Γ) {k i : Int} {t0 N : Nat} {cA : ClassId} {C : String} {f : Nat → Option Nat} {v : Nat} (h0 : 0 ≤ k) (h1 : k < (Γ.2.2.1 : Int)) (hE : Γ.2.2.2.2 σ k = .inl (cA, N, .inr (.inr (.inr (.inr f))))) (ht0 : Γ.2.1[t0]? = some (cA, .object C)) (hi0 : 0 ≤ i) (hi1 : i < (N : Int)) (hNs : N ≤ 2147483647) (hv : f i.toNat = some v) (hd : decode μ.2.1 pc = .ok (.aaload, 1)) (kk : mG x (pc + 1) lv (.ref v :: st) σ) : mG x pc lv (mI i :: .ref (Γ.2.2.2.1 k) :: st) σ := by
  obtain ⟨hx, hb, hm, hnl, ho, ht, hR, hΓ, hD, hK, hN, hS9, hlk, hrt, hll⟩ := h
  subst hΓ
  intro H locs ls hP hS hl
  have he : (mW x.2.2.1 σ)[k.toNat]? = some (x.2.2.1.2.2.2.1 k, .inl (cA, N, .inr (.inr (.inr (.inr f))))) := by rw [← hE]; exact mWd_get h0 h1
  refine va_aldq (i := Int32.ofInt i) hx hb hK hP k.toNat t0 he ht0 (i32_in hi0 hi1 hNs) hd ?_
  rw [i32_cl hi0 (by omega), hv]
  exact kk H locs ls hP hS hl
theorem g_iast (h : mOk x l μ n Γ) {k i : Int} {t0 N : Nat} {cA : ClassId} {f : Nat → Int32} {v : Int} {σ' : mS} (h0 : 0 ≤ k) (h1 : k < (Γ.2.2.1 : Int)) (hE : Γ.2.2.2.2 σ k = .inl (cA, N, .inl f)) (ht0 : Γ.2.1[t0]? = some (cA, .int)) (hi0 : 0 ≤ i) (hi1 : i < (N : Int)) (hNs : N ≤ 2147483647) (hE' : Γ.2.2.2.2 σ' k = .inl (cA, N, .inl (upd f i.toNat (Int32.ofInt v)))) (hoth : ∀ a : Int, a ≠ k → Γ.2.2.2.2 σ' a = Γ.2.2.2.2 σ a) (hd : decode μ.2.1 pc = .ok (.iastore, 1)) (kk : mG x (pc + 1) lv st σ') : mG x pc lv (mI v :: mI i :: .ref (Γ.2.2.2.1 k) :: st) σ := by
  obtain ⟨hx, hb, hm, hnl, ho, ht, hR, hΓ, hD, hK, hN, hS9, hlk, hrt, hll⟩ := h
  subst hΓ
  intro H locs ls hP hS hl
  have he : (mW x.2.2.1 σ)[k.toNat]? = some (x.2.2.1.2.2.2.1 k, .inl (cA, N, .inl f)) := by rw [← hE]; exact mWd_get h0 h1
  have hset : (mW x.2.2.1 σ).set k.toNat (x.2.2.1.2.2.2.1 k, .inl (cA, N, .inl (upd f i.toNat (Int32.ofInt v)))) = mW x.2.2.1 σ' := mWd_set h0 h1 hE' hoth
  refine va_iast (i := Int32.ofInt i) (x := Int32.ofInt v) hx hb hK hP (mW_D hD σ _) hS k.toNat t0 he ht0 (i32_in hi0 hi1 hNs) hd (fun H1 locs1 hP1 hD1 hS1 => ?_)
  rw [i32_cl hi0 (by omega)] at hP1
  exact kk H1 locs1 ls (by rw [← hset]; exact hP1) hS1 hl
theorem g_zast (h : mOk x l μ n Γ) {k i : Int} {t0 N : Nat} {cA : ClassId} {f : Nat → Int32} {v : Int} {σ' : mS} (h0 : 0 ≤ k) (h1 : k < (Γ.2.2.1 : Int)) (hE : Γ.2.2.2.2 σ k = .inl (cA, N, .inl f)) (ht0 : Γ.2.1[t0]? = some (cA, .boolean)) (hi0 : 0 ≤ i) (hi1 : i < (N : Int)) (hNs : N ≤ 2147483647) (hz : v = 0 ∨ v = 1) (hE' : Γ.2.2.2.2 σ' k = .inl (cA, N, .inl (upd f i.toNat (Int32.ofInt v)))) (hoth : ∀ a : Int, a ≠ k → Γ.2.2.2.2 σ' a = Γ.2.2.2.2 σ a) (hd : decode μ.2.1 pc = .ok (.bastore, 1)) (kk : mG x (pc + 1) lv st σ') : mG x pc lv (mI v :: mI i :: .ref (Γ.2.2.2.1 k) :: st) σ := by
  obtain ⟨hx, hb, hm, hnl, ho, ht, hR, hΓ, hD, hK, hN, hS9, hlk, hrt, hll⟩ := h
  subst hΓ
  intro H locs ls hP hS hl
  have he : (mW x.2.2.1 σ)[k.toNat]? = some (x.2.2.1.2.2.2.1 k, .inl (cA, N, .inl f)) := by rw [← hE]; exact mWd_get h0 h1
  have hset : (mW x.2.2.1 σ).set k.toNat (x.2.2.1.2.2.2.1 k, .inl (cA, N, .inl (upd f i.toNat (Int32.ofInt v)))) = mW x.2.2.1 σ' := mWd_set h0 h1 hE' hoth
  refine va_zast (i := Int32.ofInt i) (x := Int32.ofInt v) hx hb hK hP (mW_D hD σ _) hS k.toNat t0 he ht0 (i32_in hi0 hi1 hNs) hd (fun H1 locs1 hP1 hD1 hS1 => ?_)
  have ev : vp_nar .boolean (Int32.ofInt v) = Int32.ofInt v := by rcases hz with rfl | rfl <;> rfl
  rw [i32_cl hi0 (by omega), ev] at hP1
  exact kk H1 locs1 ls (by rw [← hset]; exact hP1) hS1 hl
/-! calls -/
theorem mWs_good {ν : mM} (h : Cond.code ν.1 ν.2.1 ν.2.2.1 ν.2.2.2 ∈ gT) : GoodIn gT (mWs ν) := by
  intro w hw
  rcases List.mem_cons.mp hw with rfl | h1
  · exact ⟨h, good_of_word (gT_good h)⟩
  · exact ⟨h1, good_of_word (gT_good h1)⟩
def mLs (own : String) (idx : Nat) (ν : mM) (n : Nat) : Prop := (Cond.methodLink own idx ν.1 ∈ gT ∨ ∃ host, Cond.methodLinkNest own idx ν.1 host ∈ nWs) ∧ Cond.static ν.1 ∈ gT ∧ Cond.initialized ν.1.cls ∈ gT ∧ Cond.code ν.1 ν.2.1 ν.2.2.1 ν.2.2.2 ∈ gT ∧ (ν.1.cls ≠ "java/lang/invoke/MethodHandle" ∧ ν.1.cls ≠ "java/lang/invoke/VarHandle" ∧ (parseMethodDescriptor ν.1.desc).map (fun d => d.parameters.length) = some n) ∧ ν.2.2.1 ≤ 20
def mLv (own : String) (idx : Nat) (ν : mM) (n : Nat) : Prop := (Cond.methodLink own idx ν.1 ∈ gT ∨ ∃ host, Cond.methodLinkNest own idx ν.1 host ∈ nWs) ∧ Cond.instanceMethod ν.1 ∈ gT ∧ Cond.selects ν.1.cls ν.1 ν.1 ∈ gT ∧ Cond.initialized ν.1.cls ∈ gT ∧ Cond.code ν.1 ν.2.1 ν.2.2.1 ν.2.2.2 ∈ gT ∧ (ν.1.cls ≠ "java/lang/invoke/MethodHandle" ∧ ν.1.cls ≠ "java/lang/invoke/VarHandle" ∧ (parseMethodDescriptor ν.1.desc).map (fun d => d.parameters.length) = some n) ∧ ν.2.2.1 ≤ 20
def mRv (Γ : mE) (σ : mS) (r : Int) (ν : mM) : Prop := ∃ (ci : Nat) (fs : List Value) (T : u_T) (N : Nat), Γ.2.2.2.2 σ r = .inr (ci, fs) ∧ vwCl[ci]? = some (ν.1.cls, T, N) ∧ 0 ≤ r ∧ r < (Γ.2.2.1 : Int)
theorem mPreS (h : mOk x l μ n Γ) {H : Heap} {locs : List Loc} (hP : va_P Γ.1 vwCl (mW Γ σ) H) (hS : va_S (mA Γ x.1.2.2.2.2.heap.size) x.1.2.2.2.2.heap H locs) (av : List Value) : PreS x.1.2.2.2.2 H (va_Pc av (mPre Γ σ H.size)) av := by
  obtain ⟨hx, hb, hm, hnl, ho, ht, hR, hΓ, hD, hK, hN, hS9, hlk, hrt, hll⟩ := h
  exact ⟨mPre.blind, fun U hU hW => ⟨rfl, by rw [hU], ⟨by rw [hU]; exact hP, va_K.moved hW.alike hK⟩, hD, hN.warm hW, hS9.move hU hW hS.2.1 (mA_in hS.1 rfl)⟩⟩
theorem mLv_room {k : Nat} (hk : k < n) {m : Nat} (hm : m ≤ 20) : (mLev k).frames + 1 ≤ (mLev n).frames ∧ 8 + (m + 11) + (mLev k).locals ≤ (mLev n).locals := by
  show k + 1 ≤ n ∧ 8 + (m + 11) + 40 * k ≤ 40 * n
  omega
theorem g_sI (h : mOk x l μ n Γ) {ν : mM} {k idx : Nat} {av stk : List Value} {post : Int → mS → Prop} (hC : CI l Γ ν k av σ post) (hk : k < n) (hL : mLs μ.1.cls idx ν av.length) (hd : decode μ.2.1 pc = .ok (.invokestatic idx, 3)) (hs : stk = av.reverse ++ st) (hw9 : (st.map fun v => v.category).sum ≤ 8) (kk : ∀ (z : Int) (σ' : mS), post z σ' → mG x (pc + 3) lv (mI z :: st) σ') : mG x pc lv stk σ := by
  have h9 := h
  obtain ⟨hx, hb, hm, hnl, ho, ht, hR, hΓ, hD, hK, hN, hS9, hlk, hrt, hll⟩ := h
  subst hΓ; subst hs; subst hll
  intro H locs ls hP hS hl
  obtain ⟨hl1, hl2, hl3, hl4, hl5, hl6⟩ := hL
  have hA : ∀ q : Nat, mA x.2.2.1 H.size q → mA x.2.2.1 x.1.2.2.2.2.heap.size q := mA_in hS.1 rfl
  rcases hl1 with hl1 | ⟨host, hl1⟩
  · exact va_calli (va_runS (As := av) (rest := st) ⟨hx, hb, hm, ho, ht⟩ (hC H.size) ⟨callB_of av.length ht (mWs_good hl4) rfl rfl rfl (ht _ hl3) (ht _ hl1) hl5 (by rw [hR]; exact mLv_room hk hl6), ht _ hl2⟩ (mPreS h9 hP hS av) rfl rfl hl.1 rfl (lv_room hw9) hd (by rw [hR]; exact ⟨Nat.le_refl 0, Nat.le_refl 0⟩)) hS (fun q _ h => hA q h) hA
     (fun r u t H1 locs1 ht hvm hw hB hz1 hk1 hS1 => by
      obtain ⟨z, rfl, hw⟩ := hw
      exact kk z u hw H1 locs1 ls (by rw [← ht]; exact hB.1) hS1 hl)
  · exact va_calli (va_runSN (As := av) (rest := st) ⟨hx, hb, hm, ho, ht⟩ (hC H.size) ⟨va_cnB av.length ht (mWs_good hl4) rfl rfl rfl (hN _ hl1) (ht _ hl3) hl5 (by rw [hR]; exact mLv_room hk hl6), ht _ hl2, trivial⟩ (mPreS h9 hP hS av) rfl rfl hl.1 rfl (lv_room hw9) hd (by rw [hR]; exact ⟨Nat.le_refl 0, Nat.le_refl 0⟩)) hS (fun q _ h => hA q h) hA
     (fun r u t H1 locs1 ht hvm hw hB hz1 hk1 hS1 => by
      obtain ⟨z, rfl, hw⟩ := hw
      exact kk z u hw H1 locs1 ls (by rw [← ht]; exact hB.1) hS1 hl)
theorem g_vI (h : mOk x l μ n Γ) {ν : mM} {k idx : Nat} {av stk : List Value} {r : Int} {post : Int → mS → Prop} (hC : CI l Γ ν k (.ref (Γ.2.2.2.1 r) :: av) σ post) (hk : k < n) (hL : mLv μ.1.cls idx ν av.length) (hrv : mRv Γ σ r ν) (hd : decode μ.2.1 pc = .ok (.invokevirtual idx, 3)) (hs : stk = av.reverse ++ .ref (Γ.2.2.2.1 r) :: st) (hw9 : (st.map fun v => v.category).sum ≤ 8) (kk : ∀ (z : Int) (σ' : mS), post z σ' → mG x (pc + 3) lv (mI z :: st) σ') : mG x pc lv stk σ := by
  have h9 := h
  obtain ⟨hx, hb, hm, hnl, ho, ht, hR, hΓ, hD, hK, hN, hS9, hlk, hrt, hll⟩ := h
  subst hΓ; subst hs; subst hll
  intro H locs ls hP hS hl
  obtain ⟨hl1, hl2, hl7, hl3, hl4, hl5, hl6⟩ := hL
  obtain ⟨ci, fs, T, N, hE, hc, h0, h1⟩ := hrv
  have he : (mW x.2.2.1 σ)[r.toNat]? = some (x.2.2.1.2.2.2.1 r, .inr (ci, fs)) := by rw [← hE]; exact mWd_get h0 h1
  have hA : ∀ q : Nat, mA x.2.2.1 H.size q → mA x.2.2.1 x.1.2.2.2.2.heap.size q := mA_in hS.1 rfl
  have hpr := mPreS h9 hP hS (.ref (x.2.2.1.2.2.2.1 r) :: av)
  have hpv : PreV x.1.2.2.2.2 H ν.1.cls (x.2.2.1.2.2.2.1 r) (va_Pc (.ref (x.2.2.1.2.2.2.1 r) :: av) (mPre x.2.2.1 σ H.size)) av := ⟨hpr.1, va_recv hK hP hc he, hpr.2⟩
  rcases hl1 with hl1 | ⟨host, hl1⟩
  · exact va_calli (va_runV (As := av) (rest := st) ⟨hx, hb, hm, ho, ht⟩ (hC H.size) ⟨callB_of av.length ht (mWs_good hl4) rfl rfl rfl (ht _ hl3) (ht _ hl1) hl5 (by rw [hR]; exact mLv_room hk hl6), ht _ hl2, ht _ hl7⟩ hpv rfl rfl hl.1 rfl (lv_room hw9) hd (by rw [hR]; exact ⟨Nat.le_refl 0, Nat.le_refl 0⟩)) hS (fun q _ h => hA q h) hA
     (fun r u t H1 locs1 ht hvm hw hB hz1 hk1 hS1 => by
      obtain ⟨z, rfl, hw⟩ := hw
      exact kk z u hw H1 locs1 ls (by rw [← ht]; exact hB.1) hS1 hl)
  · exact va_calli (va_runVN (As := av) (rest := st) ⟨hx, hb, hm, ho, ht⟩ (hC H.size) ⟨va_cnB av.length ht (mWs_good hl4) rfl rfl rfl (hN _ hl1) (ht _ hl3) hl5 (by rw [hR]; exact mLv_room hk hl6), ht _ hl2, ht _ hl7⟩ hpv rfl rfl hl.1 rfl (lv_room hw9) hd (by rw [hR]; exact ⟨Nat.le_refl 0, Nat.le_refl 0⟩)) hS (fun q _ h => hA q h) hA
     (fun r u t H1 locs1 ht hvm hw hB hz1 hk1 hS1 => by
      obtain ⟨z, rfl, hw⟩ := hw
      exact kk z u hw H1 locs1 ls (by rw [← ht]; exact hB.1) hS1 hl)
theorem g_sL (h : mOk x l μ n Γ) {ν : mM} {k idx : Nat} {av stk : List Value} {post : Int → mS → Prop} (hC : CL l Γ ν k av σ post) (hk : k < n) (hL : mLs μ.1.cls idx ν av.length) (hd : decode μ.2.1 pc = .ok (.invokestatic idx, 3)) (hs : stk = av.reverse ++ st) (hw9 : (st.map fun v => v.category).sum ≤ 8) (kk : ∀ (z : Int) (σ' : mS), post z σ' → mG x (pc + 3) lv (mL z :: st) σ') : mG x pc lv stk σ := by
  have h9 := h
  obtain ⟨hx, hb, hm, hnl, ho, ht, hR, hΓ, hD, hK, hN, hS9, hlk, hrt, hll⟩ := h
  subst hΓ; subst hs; subst hll
  intro H locs ls hP hS hl
  obtain ⟨hl1, hl2, hl3, hl4, hl5, hl6⟩ := hL
  have hA : ∀ q : Nat, mA x.2.2.1 H.size q → mA x.2.2.1 x.1.2.2.2.2.heap.size q := mA_in hS.1 rfl
  rcases hl1 with hl1 | ⟨host, hl1⟩
  · exact va_calll (va_runS (As := av) (rest := st) ⟨hx, hb, hm, ho, ht⟩ (hC H.size) ⟨callB_of av.length ht (mWs_good hl4) rfl rfl rfl (ht _ hl3) (ht _ hl1) hl5 (by rw [hR]; exact mLv_room hk hl6), ht _ hl2⟩ (mPreS h9 hP hS av) rfl rfl hl.1 rfl (lv_room hw9) hd (by rw [hR]; exact ⟨Nat.le_refl 0, Nat.le_refl 0⟩)) hS (fun q _ h => hA q h) hA
     (fun r u t H1 locs1 ht hvm hw hB hz1 hk1 hS1 => by
      obtain ⟨z, rfl, hw⟩ := hw
      exact kk z u hw H1 locs1 ls (by rw [← ht]; exact hB.1) hS1 hl)
  · exact va_calll (va_runSN (As := av) (rest := st) ⟨hx, hb, hm, ho, ht⟩ (hC H.size) ⟨va_cnB av.length ht (mWs_good hl4) rfl rfl rfl (hN _ hl1) (ht _ hl3) hl5 (by rw [hR]; exact mLv_room hk hl6), ht _ hl2, trivial⟩ (mPreS h9 hP hS av) rfl rfl hl.1 rfl (lv_room hw9) hd (by rw [hR]; exact ⟨Nat.le_refl 0, Nat.le_refl 0⟩)) hS (fun q _ h => hA q h) hA
     (fun r u t H1 locs1 ht hvm hw hB hz1 hk1 hS1 => by
      obtain ⟨z, rfl, hw⟩ := hw
      exact kk z u hw H1 locs1 ls (by rw [← ht]; exact hB.1) hS1 hl)
theorem g_vL (h : mOk x l μ n Γ) {ν : mM} {k idx : Nat} {av stk : List Value} {r : Int} {post : Int → mS → Prop} (hC : CL l Γ ν k (.ref (Γ.2.2.2.1 r) :: av) σ post) (hk : k < n) (hL : mLv μ.1.cls idx ν av.length) (hrv : mRv Γ σ r ν) (hd : decode μ.2.1 pc = .ok (.invokevirtual idx, 3)) (hs : stk = av.reverse ++ .ref (Γ.2.2.2.1 r) :: st) (hw9 : (st.map fun v => v.category).sum ≤ 8) (kk : ∀ (z : Int) (σ' : mS), post z σ' → mG x (pc + 3) lv (mL z :: st) σ') : mG x pc lv stk σ := by
  have h9 := h
  obtain ⟨hx, hb, hm, hnl, ho, ht, hR, hΓ, hD, hK, hN, hS9, hlk, hrt, hll⟩ := h
  subst hΓ; subst hs; subst hll
  intro H locs ls hP hS hl
  obtain ⟨hl1, hl2, hl7, hl3, hl4, hl5, hl6⟩ := hL
  obtain ⟨ci, fs, T, N, hE, hc, h0, h1⟩ := hrv
  have he : (mW x.2.2.1 σ)[r.toNat]? = some (x.2.2.1.2.2.2.1 r, .inr (ci, fs)) := by rw [← hE]; exact mWd_get h0 h1
  have hA : ∀ q : Nat, mA x.2.2.1 H.size q → mA x.2.2.1 x.1.2.2.2.2.heap.size q := mA_in hS.1 rfl
  have hpr := mPreS h9 hP hS (.ref (x.2.2.1.2.2.2.1 r) :: av)
  have hpv : PreV x.1.2.2.2.2 H ν.1.cls (x.2.2.1.2.2.2.1 r) (va_Pc (.ref (x.2.2.1.2.2.2.1 r) :: av) (mPre x.2.2.1 σ H.size)) av := ⟨hpr.1, va_recv hK hP hc he, hpr.2⟩
  rcases hl1 with hl1 | ⟨host, hl1⟩
  · exact va_calll (va_runV (As := av) (rest := st) ⟨hx, hb, hm, ho, ht⟩ (hC H.size) ⟨callB_of av.length ht (mWs_good hl4) rfl rfl rfl (ht _ hl3) (ht _ hl1) hl5 (by rw [hR]; exact mLv_room hk hl6), ht _ hl2, ht _ hl7⟩ hpv rfl rfl hl.1 rfl (lv_room hw9) hd (by rw [hR]; exact ⟨Nat.le_refl 0, Nat.le_refl 0⟩)) hS (fun q _ h => hA q h) hA
     (fun r u t H1 locs1 ht hvm hw hB hz1 hk1 hS1 => by
      obtain ⟨z, rfl, hw⟩ := hw
      exact kk z u hw H1 locs1 ls (by rw [← ht]; exact hB.1) hS1 hl)
  · exact va_calll (va_runVN (As := av) (rest := st) ⟨hx, hb, hm, ho, ht⟩ (hC H.size) ⟨va_cnB av.length ht (mWs_good hl4) rfl rfl rfl (hN _ hl1) (ht _ hl3) hl5 (by rw [hR]; exact mLv_room hk hl6), ht _ hl2, ht _ hl7⟩ hpv rfl rfl hl.1 rfl (lv_room hw9) hd (by rw [hR]; exact ⟨Nat.le_refl 0, Nat.le_refl 0⟩)) hS (fun q _ h => hA q h) hA
     (fun r u t H1 locs1 ht hvm hw hB hz1 hk1 hS1 => by
      obtain ⟨z, rfl, hw⟩ := hw
      exact kk z u hw H1 locs1 ls (by rw [← ht]; exact hB.1) hS1 hl)
theorem g_sV (h : mOk x l μ n Γ) {ν : mM} {k idx : Nat} {av stk : List Value} {post : mS → Prop} (hC : CV l Γ ν k av σ post) (hk : k < n) (hL : mLs μ.1.cls idx ν av.length) (hd : decode μ.2.1 pc = .ok (.invokestatic idx, 3)) (hs : stk = av.reverse ++ st) (hw9 : (st.map fun v => v.category).sum ≤ 8) (kk : ∀ (σ' : mS), post σ' → mG x (pc + 3) lv st σ') : mG x pc lv stk σ := by
  have h9 := h
  obtain ⟨hx, hb, hm, hnl, ho, ht, hR, hΓ, hD, hK, hN, hS9, hlk, hrt, hll⟩ := h
  subst hΓ; subst hs; subst hll
  intro H locs ls hP hS hl
  obtain ⟨hl1, hl2, hl3, hl4, hl5, hl6⟩ := hL
  have hA : ∀ q : Nat, mA x.2.2.1 H.size q → mA x.2.2.1 x.1.2.2.2.2.heap.size q := mA_in hS.1 rfl
  rcases hl1 with hl1 | ⟨host, hl1⟩
  · exact va_callv (va_runS (As := av) (rest := st) ⟨hx, hb, hm, ho, ht⟩ (hC H.size) ⟨callB_of av.length ht (mWs_good hl4) rfl rfl rfl (ht _ hl3) (ht _ hl1) hl5 (by rw [hR]; exact mLv_room hk hl6), ht _ hl2⟩ (mPreS h9 hP hS av) rfl rfl hl.1 rfl (lv_room hw9) hd (by rw [hR]; exact ⟨Nat.le_refl 0, Nat.le_refl 0⟩)) hS (fun q _ h => hA q h) hA
     (fun u t H1 locs1 ht hvm hw hB hz1 hk1 hS1 => kk u hw H1 locs1 ls (by rw [← ht]; exact hB.1) hS1 hl)
  · exact va_callv (va_runSN (As := av) (rest := st) ⟨hx, hb, hm, ho, ht⟩ (hC H.size) ⟨va_cnB av.length ht (mWs_good hl4) rfl rfl rfl (hN _ hl1) (ht _ hl3) hl5 (by rw [hR]; exact mLv_room hk hl6), ht _ hl2, trivial⟩ (mPreS h9 hP hS av) rfl rfl hl.1 rfl (lv_room hw9) hd (by rw [hR]; exact ⟨Nat.le_refl 0, Nat.le_refl 0⟩)) hS (fun q _ h => hA q h) hA
     (fun u t H1 locs1 ht hvm hw hB hz1 hk1 hS1 => kk u hw H1 locs1 ls (by rw [← ht]; exact hB.1) hS1 hl)
theorem g_vV (h : mOk x l μ n Γ) {ν : mM} {k idx : Nat} {av stk : List Value} {r : Int} {post : mS → Prop} (hC : CV l Γ ν k (.ref (Γ.2.2.2.1 r) :: av) σ post) (hk : k < n) (hL : mLv μ.1.cls idx ν av.length) (hrv : mRv Γ σ r ν) (hd : decode μ.2.1 pc = .ok (.invokevirtual idx, 3)) (hs : stk = av.reverse ++ .ref (Γ.2.2.2.1 r) :: st) (hw9 : (st.map fun v => v.category).sum ≤ 8) (kk : ∀ (σ' : mS), post σ' → mG x (pc + 3) lv st σ') : mG x pc lv stk σ := by
  have h9 := h
  obtain ⟨hx, hb, hm, hnl, ho, ht, hR, hΓ, hD, hK, hN, hS9, hlk, hrt, hll⟩ := h
  subst hΓ; subst hs; subst hll
  intro H locs ls hP hS hl
  obtain ⟨hl1, hl2, hl7, hl3, hl4, hl5, hl6⟩ := hL
  obtain ⟨ci, fs, T, N, hE, hc, h0, h1⟩ := hrv
  have he : (mW x.2.2.1 σ)[r.toNat]? = some (x.2.2.1.2.2.2.1 r, .inr (ci, fs)) := by rw [← hE]; exact mWd_get h0 h1
  have hA : ∀ q : Nat, mA x.2.2.1 H.size q → mA x.2.2.1 x.1.2.2.2.2.heap.size q := mA_in hS.1 rfl
  have hpr := mPreS h9 hP hS (.ref (x.2.2.1.2.2.2.1 r) :: av)
  have hpv : PreV x.1.2.2.2.2 H ν.1.cls (x.2.2.1.2.2.2.1 r) (va_Pc (.ref (x.2.2.1.2.2.2.1 r) :: av) (mPre x.2.2.1 σ H.size)) av := ⟨hpr.1, va_recv hK hP hc he, hpr.2⟩
  rcases hl1 with hl1 | ⟨host, hl1⟩
  · exact va_callv (va_runV (As := av) (rest := st) ⟨hx, hb, hm, ho, ht⟩ (hC H.size) ⟨callB_of av.length ht (mWs_good hl4) rfl rfl rfl (ht _ hl3) (ht _ hl1) hl5 (by rw [hR]; exact mLv_room hk hl6), ht _ hl2, ht _ hl7⟩ hpv rfl rfl hl.1 rfl (lv_room hw9) hd (by rw [hR]; exact ⟨Nat.le_refl 0, Nat.le_refl 0⟩)) hS (fun q _ h => hA q h) hA
     (fun u t H1 locs1 ht hvm hw hB hz1 hk1 hS1 => kk u hw H1 locs1 ls (by rw [← ht]; exact hB.1) hS1 hl)
  · exact va_callv (va_runVN (As := av) (rest := st) ⟨hx, hb, hm, ho, ht⟩ (hC H.size) ⟨va_cnB av.length ht (mWs_good hl4) rfl rfl rfl (hN _ hl1) (ht _ hl3) hl5 (by rw [hR]; exact mLv_room hk hl6), ht _ hl2, ht _ hl7⟩ hpv rfl rfl hl.1 rfl (lv_room hw9) hd (by rw [hR]; exact ⟨Nat.le_refl 0, Nat.le_refl 0⟩)) hS (fun q _ h => hA q h) hA
     (fun u t H1 locs1 ht hvm hw hB hz1 hk1 hS1 => kk u hw H1 locs1 ls (by rw [← ht]; exact hB.1) hS1 hl)
end MG
end
section
theorem tb_of {w : Cond} (i : Nat) (h : tables_1[i]? = some w) (g : goodWord w = true) : w ∈ gT := gT_of (List.mem_append_right _ (List.mem_of_getElem? h)) g
theorem tn_of {w : Cond} (i : Nat) (h : tables_1[i]? = some w) (g : nestW w = true) : w ∈ nWs := nW_of (List.mem_append_right _ (List.mem_of_getElem? h)) g
theorem tp_of {w : Cond} (i : Nat) (h : (k2_sels lw_privs)[i]? = some w) (g : goodWord w = true) : w ∈ gT := gT_of (List.mem_append_left _ (List.mem_of_getElem? h)) g
theorem in_of {ws : List Cond} (h : ws.all (fun w => decide (w ∈ lw_tbl) && goodWord w) = true) : ∀ w ∈ ws, w ∈ gT := by
  intro w hw
  have h1 := List.all_eq_true.mp h w hw
  simp only [Bool.and_eq_true, decide_eq_true_eq] at h1
  exact gT_of h1.1 h1.2
abbrev M_X7_init : mM := (yX7_init, cX7_init, 2, none)
theorem co_X7_init : Cond.code yX7_init cX7_init 2 none ∈ gT := tb_of 22 (by decide +kernel) (by decide +kernel)
theorem im_X7_init : Cond.instanceMethod yX7_init ∈ gT := tb_of 21 (by decide +kernel) (by decide +kernel)
abbrev M_X1_init : mM := (yX1_init, cX1_init, 2, none)
theorem co_X1_init : Cond.code yX1_init cX1_init 2 none ∈ gT := tb_of 30 (by decide +kernel) (by decide +kernel)
theorem im_X1_init : Cond.instanceMethod yX1_init ∈ gT := tb_of 29 (by decide +kernel) (by decide +kernel)
abbrev M_X4_init : mM := (yX4_init, cX4_init, 1, none)
theorem co_X4_init : Cond.code yX4_init cX4_init 1 none ∈ gT := tb_of 36 (by decide +kernel) (by decide +kernel)
theorem im_X4_init : Cond.instanceMethod yX4_init ∈ gT := tb_of 35 (by decide +kernel) (by decide +kernel)
abbrev M_X0_init : mM := (yX0_init, cX0_init, 1, none)
theorem co_X0_init : Cond.code yX0_init cX0_init 1 none ∈ gT := tb_of 63 (by decide +kernel) (by decide +kernel)
theorem im_X0_init : Cond.instanceMethod yX0_init ∈ gT := tb_of 62 (by decide +kernel) (by decide +kernel)
abbrev M_X2_init : mM := (yX2_init, cX2_init, 1, none)
theorem co_X2_init : Cond.code yX2_init cX2_init 1 none ∈ gT := tb_of 124 (by decide +kernel) (by decide +kernel)
theorem im_X2_init : Cond.instanceMethod yX2_init ∈ gT := tb_of 123 (by decide +kernel) (by decide +kernel)
abbrev M_X3_init : mM := (yX3_init, cX3_init, 1, none)
theorem co_X3_init : Cond.code yX3_init cX3_init 1 none ∈ gT := tb_of 146 (by decide +kernel) (by decide +kernel)
theorem im_X3_init : Cond.instanceMethod yX3_init ∈ gT := tb_of 145 (by decide +kernel) (by decide +kernel)
abbrev M_X7_council : mM := (yX7_council, cX7_council, 8, (some .int))
theorem co_X7_council : Cond.code yX7_council cX7_council 8 (some .int) ∈ gT := tb_of 181 (by decide +kernel) (by decide +kernel)
theorem im_X7_council : Cond.instanceMethod yX7_council ∈ gT := tb_of 179 (by decide +kernel) (by decide +kernel)
theorem se_X7_council : Cond.selects yX7_council.cls yX7_council yX7_council ∈ gT := tb_of 180 (by decide +kernel) (by decide +kernel)
abbrev M_X7_noSheet : mM := (yX7_noSheet, cX7_noSheet, 1, (some .boolean))
theorem co_X7_noSheet : Cond.code yX7_noSheet cX7_noSheet 1 (some .boolean) ∈ gT := tb_of 184 (by decide +kernel) (by decide +kernel)
theorem st_X7_noSheet : Cond.static yX7_noSheet ∈ gT := tb_of 183 (by decide +kernel) (by decide +kernel)
abbrev M_X7_within : mM := (yX7_within, cX7_within, 2, (some .boolean))
theorem co_X7_within : Cond.code yX7_within cX7_within 2 (some .boolean) ∈ gT := tb_of 187 (by decide +kernel) (by decide +kernel)
theorem st_X7_within : Cond.static yX7_within ∈ gT := tb_of 186 (by decide +kernel) (by decide +kernel)
abbrev M_X3_faultOfCells : mM := (yX3_faultOfCells, cX3_faultOfCells, 5, (some .int))
theorem co_X3_faultOfCells : Cond.code yX3_faultOfCells cX3_faultOfCells 5 (some .int) ∈ gT := tb_of 191 (by decide +kernel) (by decide +kernel)
theorem im_X3_faultOfCells : Cond.instanceMethod yX3_faultOfCells ∈ gT := tb_of 190 (by decide +kernel) (by decide +kernel)
theorem se_X3_faultOfCells : Cond.selects yX3_faultOfCells.cls yX3_faultOfCells yX3_faultOfCells ∈ gT := tp_of 0 (by decide +kernel) (by decide +kernel)
abbrev M_X3_faultOfLane : mM := (yX3_faultOfLane, cX3_faultOfLane, 2, (some .int))
theorem co_X3_faultOfLane : Cond.code yX3_faultOfLane cX3_faultOfLane 2 (some .int) ∈ gT := tb_of 195 (by decide +kernel) (by decide +kernel)
theorem im_X3_faultOfLane : Cond.instanceMethod yX3_faultOfLane ∈ gT := tb_of 194 (by decide +kernel) (by decide +kernel)
theorem se_X3_faultOfLane : Cond.selects yX3_faultOfLane.cls yX3_faultOfLane yX3_faultOfLane ∈ gT := tp_of 1 (by decide +kernel) (by decide +kernel)
abbrev M_X3_isNothing : mM := (yX3_isNothing, cX3_isNothing, 1, (some .boolean))
theorem co_X3_isNothing : Cond.code yX3_isNothing cX3_isNothing 1 (some .boolean) ∈ gT := tb_of 199 (by decide +kernel) (by decide +kernel)
theorem im_X3_isNothing : Cond.instanceMethod yX3_isNothing ∈ gT := tb_of 198 (by decide +kernel) (by decide +kernel)
theorem se_X3_isNothing : Cond.selects yX3_isNothing.cls yX3_isNothing yX3_isNothing ∈ gT := tp_of 2 (by decide +kernel) (by decide +kernel)
abbrev M_X3_hasAll : mM := (yX3_hasAll, cX3_hasAll, 3, (some .boolean))
theorem co_X3_hasAll : Cond.code yX3_hasAll cX3_hasAll 3 (some .boolean) ∈ gT := tb_of 203 (by decide +kernel) (by decide +kernel)
theorem im_X3_hasAll : Cond.instanceMethod yX3_hasAll ∈ gT := tb_of 202 (by decide +kernel) (by decide +kernel)
theorem se_X3_hasAll : Cond.selects yX3_hasAll.cls yX3_hasAll yX3_hasAll ∈ gT := tp_of 3 (by decide +kernel) (by decide +kernel)
abbrev M_X7_failed : mM := (yX7_failed, cX7_failed, 2, (some .int))
theorem co_X7_failed : Cond.code yX7_failed cX7_failed 2 (some .int) ∈ gT := tb_of 208 (by decide +kernel) (by decide +kernel)
theorem im_X7_failed : Cond.instanceMethod yX7_failed ∈ gT := tb_of 207 (by decide +kernel) (by decide +kernel)
theorem se_X7_failed : Cond.selects yX7_failed.cls yX7_failed yX7_failed ∈ gT := tp_of 4 (by decide +kernel) (by decide +kernel)
abbrev M_X5_firstFault : mM := (yX5_firstFault, cX5_firstFault, 5, (some .int))
theorem co_X5_firstFault : Cond.code yX5_firstFault cX5_firstFault 5 (some .int) ∈ gT := tb_of 211 (by decide +kernel) (by decide +kernel)
theorem st_X5_firstFault : Cond.static yX5_firstFault ∈ gT := tb_of 210 (by decide +kernel) (by decide +kernel)
abbrev M_X5_fits : mM := (yX5_fits, cX5_fits, 4, (some .boolean))
theorem co_X5_fits : Cond.code yX5_fits cX5_fits 4 (some .boolean) ∈ gT := tb_of 214 (by decide +kernel) (by decide +kernel)
theorem st_X5_fits : Cond.static yX5_fits ∈ gT := tb_of 213 (by decide +kernel) (by decide +kernel)
abbrev M_X5_kindOf : mM := (yX5_kindOf, cX5_kindOf, 1, (some .int))
theorem co_X5_kindOf : Cond.code yX5_kindOf cX5_kindOf 1 (some .int) ∈ gT := tb_of 217 (by decide +kernel) (by decide +kernel)
theorem st_X5_kindOf : Cond.static yX5_kindOf ∈ gT := tb_of 216 (by decide +kernel) (by decide +kernel)
abbrev M_J0_charAt_5068e : mM := (yJ0_charAt_5068e, cJ0_charAt_5068e, 2, (some .char))
theorem co_J0_charAt_5068e : Cond.code yJ0_charAt_5068e cJ0_charAt_5068e 2 (some .char) ∈ gT := tb_of 222 (by decide +kernel) (by decide +kernel)
theorem im_J0_charAt_5068e : Cond.instanceMethod yJ0_charAt_5068e ∈ gT := tb_of 220 (by decide +kernel) (by decide +kernel)
theorem se_J0_charAt_5068e : Cond.selects yJ0_charAt_5068e.cls yJ0_charAt_5068e yJ0_charAt_5068e ∈ gT := tb_of 221 (by decide +kernel) (by decide +kernel)
abbrev M_J0_isLatin1_aae02 : mM := (yJ0_isLatin1_aae02, cJ0_isLatin1_aae02, 1, (some .boolean))
theorem co_J0_isLatin1_aae02 : Cond.code yJ0_isLatin1_aae02 cJ0_isLatin1_aae02 1 (some .boolean) ∈ gT := tb_of 226 (by decide +kernel) (by decide +kernel)
theorem im_J0_isLatin1_aae02 : Cond.instanceMethod yJ0_isLatin1_aae02 ∈ gT := tb_of 224 (by decide +kernel) (by decide +kernel)
theorem se_J0_isLatin1_aae02 : Cond.selects yJ0_isLatin1_aae02.cls yJ0_isLatin1_aae02 yJ0_isLatin1_aae02 ∈ gT := tb_of 225 (by decide +kernel) (by decide +kernel)
abbrev M_J1_charAt_3b067 : mM := (yJ1_charAt_3b067, cJ1_charAt_3b067, 2, (some .char))
theorem co_J1_charAt_3b067 : Cond.code yJ1_charAt_3b067 cJ1_charAt_3b067 2 (some .char) ∈ gT := tb_of 231 (by decide +kernel) (by decide +kernel)
theorem st_J1_charAt_3b067 : Cond.static yJ1_charAt_3b067 ∈ gT := tb_of 230 (by decide +kernel) (by decide +kernel)
abbrev M_J0_checkIndex_df160 : mM := (yJ0_checkIndex_df160, cJ0_checkIndex_df160, 2, none)
theorem co_J0_checkIndex_df160 : Cond.code yJ0_checkIndex_df160 cJ0_checkIndex_df160 2 none ∈ gT := tb_of 234 (by decide +kernel) (by decide +kernel)
theorem st_J0_checkIndex_df160 : Cond.static yJ0_checkIndex_df160 ∈ gT := tb_of 233 (by decide +kernel) (by decide +kernel)
abbrev M_J3_checkIndex_8e157 : mM := (yJ3_checkIndex_8e157, cJ3_checkIndex_8e157, 3, (some .int))
theorem co_J3_checkIndex_8e157 : Cond.code yJ3_checkIndex_8e157 cJ3_checkIndex_8e157 3 (some .int) ∈ gT := tb_of 239 (by decide +kernel) (by decide +kernel)
theorem st_J3_checkIndex_8e157 : Cond.static yJ3_checkIndex_8e157 ∈ gT := tb_of 238 (by decide +kernel) (by decide +kernel)
abbrev M_J2_charAt_3b067 : mM := (yJ2_charAt_3b067, cJ2_charAt_3b067, 2, (some .char))
theorem co_J2_charAt_3b067 : Cond.code yJ2_charAt_3b067 cJ2_charAt_3b067 2 (some .char) ∈ gT := tb_of 242 (by decide +kernel) (by decide +kernel)
theorem st_J2_charAt_3b067 : Cond.static yJ2_charAt_3b067 ∈ gT := tb_of 241 (by decide +kernel) (by decide +kernel)
abbrev M_J2_checkIndex_2214a : mM := (yJ2_checkIndex_2214a, cJ2_checkIndex_2214a, 2, none)
theorem co_J2_checkIndex_2214a : Cond.code yJ2_checkIndex_2214a cJ2_checkIndex_2214a 2 none ∈ gT := tb_of 245 (by decide +kernel) (by decide +kernel)
theorem st_J2_checkIndex_2214a : Cond.static yJ2_checkIndex_2214a ∈ gT := tb_of 244 (by decide +kernel) (by decide +kernel)
abbrev M_J2_length_9d52b : mM := (yJ2_length_9d52b, cJ2_length_9d52b, 1, (some .int))
theorem co_J2_length_9d52b : Cond.code yJ2_length_9d52b cJ2_length_9d52b 1 (some .int) ∈ gT := tb_of 248 (by decide +kernel) (by decide +kernel)
theorem st_J2_length_9d52b : Cond.static yJ2_length_9d52b ∈ gT := tb_of 247 (by decide +kernel) (by decide +kernel)
abbrev M_J2_getChar_3b067 : mM := (yJ2_getChar_3b067, cJ2_getChar_3b067, 2, (some .char))
theorem co_J2_getChar_3b067 : Cond.code yJ2_getChar_3b067 cJ2_getChar_3b067 2 (some .char) ∈ gT := tb_of 252 (by decide +kernel) (by decide +kernel)
theorem st_J2_getChar_3b067 : Cond.static yJ2_getChar_3b067 ∈ gT := tb_of 251 (by decide +kernel) (by decide +kernel)
abbrev M_X1_found : mM := (yX1_found, cX1_found, 5, none)
theorem co_X1_found : Cond.code yX1_found cX1_found 5 none ∈ gT := tb_of 263 (by decide +kernel) (by decide +kernel)
theorem im_X1_found : Cond.instanceMethod yX1_found ∈ gT := tb_of 262 (by decide +kernel) (by decide +kernel)
theorem se_X1_found : Cond.selects yX1_found.cls yX1_found yX1_found ∈ gT := tp_of 5 (by decide +kernel) (by decide +kernel)
abbrev M_X4_read : mM := (yX4_read, cX4_read, 4, none)
theorem co_X4_read : Cond.code yX4_read cX4_read 4 none ∈ gT := tb_of 267 (by decide +kernel) (by decide +kernel)
theorem im_X4_read : Cond.instanceMethod yX4_read ∈ gT := tb_of 266 (by decide +kernel) (by decide +kernel)
theorem se_X4_read : Cond.selects yX4_read.cls yX4_read yX4_read ∈ gT := tp_of 6 (by decide +kernel) (by decide +kernel)
abbrev M_X5_twoDigits : mM := (yX5_twoDigits, cX5_twoDigits, 2, (some .int))
theorem co_X5_twoDigits : Cond.code yX5_twoDigits cX5_twoDigits 2 (some .int) ∈ gT := tb_of 270 (by decide +kernel) (by decide +kernel)
theorem st_X5_twoDigits : Cond.static yX5_twoDigits ∈ gT := tb_of 269 (by decide +kernel) (by decide +kernel)
abbrev M_X5_digit : mM := (yX5_digit, cX5_digit, 2, (some .int))
theorem co_X5_digit : Cond.code yX5_digit cX5_digit 2 (some .int) ∈ gT := tb_of 273 (by decide +kernel) (by decide +kernel)
theorem st_X5_digit : Cond.static yX5_digit ∈ gT := tb_of 272 (by decide +kernel) (by decide +kernel)
abbrev M_X3_has : mM := (yX3_has, cX3_has, 2, (some .boolean))
theorem co_X3_has : Cond.code yX3_has cX3_has 2 (some .boolean) ∈ gT := tb_of 277 (by decide +kernel) (by decide +kernel)
theorem im_X3_has : Cond.instanceMethod yX3_has ∈ gT := tb_of 276 (by decide +kernel) (by decide +kernel)
theorem se_X3_has : Cond.selects yX3_has.cls yX3_has yX3_has ∈ gT := tp_of 7 (by decide +kernel) (by decide +kernel)
abbrev M_J9_min_7cf53 : mM := (yJ9_min_7cf53, cJ9_min_7cf53, 2, (some .int))
theorem co_J9_min_7cf53 : Cond.code yJ9_min_7cf53 cJ9_min_7cf53 2 (some .int) ∈ gT := tb_of 282 (by decide +kernel) (by decide +kernel)
theorem st_J9_min_7cf53 : Cond.static yJ9_min_7cf53 ∈ gT := tb_of 281 (by decide +kernel) (by decide +kernel)
abbrev M_X0_read : mM := (yX0_read, cX0_read, 3, none)
theorem co_X0_read : Cond.code yX0_read cX0_read 3 none ∈ gT := tb_of 286 (by decide +kernel) (by decide +kernel)
theorem im_X0_read : Cond.instanceMethod yX0_read ∈ gT := tb_of 285 (by decide +kernel) (by decide +kernel)
theorem se_X0_read : Cond.selects yX0_read.cls yX0_read yX0_read ∈ gT := tp_of 8 (by decide +kernel) (by decide +kernel)
abbrev M_X7_ofBill : mM := (yX7_ofBill, cX7_ofBill, 4, (some .int))
theorem co_X7_ofBill : Cond.code yX7_ofBill cX7_ofBill 4 (some .int) ∈ gT := tb_of 295 (by decide +kernel) (by decide +kernel)
theorem im_X7_ofBill : Cond.instanceMethod yX7_ofBill ∈ gT := tb_of 293 (by decide +kernel) (by decide +kernel)
theorem se_X7_ofBill : Cond.selects yX7_ofBill.cls yX7_ofBill yX7_ofBill ∈ gT := tb_of 294 (by decide +kernel) (by decide +kernel)
abbrev M_X7_noBill : mM := (yX7_noBill, cX7_noBill, 2, (some .boolean))
theorem co_X7_noBill : Cond.code yX7_noBill cX7_noBill 2 (some .boolean) ∈ gT := tb_of 299 (by decide +kernel) (by decide +kernel)
theorem im_X7_noBill : Cond.instanceMethod yX7_noBill ∈ gT := tb_of 298 (by decide +kernel) (by decide +kernel)
theorem se_X7_noBill : Cond.selects yX7_noBill.cls yX7_noBill yX7_noBill ∈ gT := tp_of 9 (by decide +kernel) (by decide +kernel)
abbrev M_X7_moon : mM := (yX7_moon, cX7_moon, 2, (some .int))
theorem co_X7_moon : Cond.code yX7_moon cX7_moon 2 (some .int) ∈ gT := tb_of 303 (by decide +kernel) (by decide +kernel)
theorem im_X7_moon : Cond.instanceMethod yX7_moon ∈ gT := tb_of 301 (by decide +kernel) (by decide +kernel)
theorem se_X7_moon : Cond.selects yX7_moon.cls yX7_moon yX7_moon ∈ gT := tb_of 302 (by decide +kernel) (by decide +kernel)
abbrev M_X7_noCouncil : mM := (yX7_noCouncil, cX7_noCouncil, 1, (some .boolean))
theorem co_X7_noCouncil : Cond.code yX7_noCouncil cX7_noCouncil 1 (some .boolean) ∈ gT := tb_of 307 (by decide +kernel) (by decide +kernel)
theorem im_X7_noCouncil : Cond.instanceMethod yX7_noCouncil ∈ gT := tb_of 306 (by decide +kernel) (by decide +kernel)
theorem se_X7_noCouncil : Cond.selects yX7_noCouncil.cls yX7_noCouncil yX7_noCouncil ∈ gT := tp_of 10 (by decide +kernel) (by decide +kernel)
abbrev M_X4_dayOfMoon : mM := (yX4_dayOfMoon, cX4_dayOfMoon, 3, (some .int))
theorem co_X4_dayOfMoon : Cond.code yX4_dayOfMoon cX4_dayOfMoon 3 (some .int) ∈ gT := tb_of 311 (by decide +kernel) (by decide +kernel)
theorem im_X4_dayOfMoon : Cond.instanceMethod yX4_dayOfMoon ∈ gT := tb_of 310 (by decide +kernel) (by decide +kernel)
theorem se_X4_dayOfMoon : Cond.selects yX4_dayOfMoon.cls yX4_dayOfMoon yX4_dayOfMoon ∈ gT := tp_of 11 (by decide +kernel) (by decide +kernel)
abbrev M_X7_span : mM := (yX7_span, cX7_span, 3, (some .int))
theorem co_X7_span : Cond.code yX7_span cX7_span 3 (some .int) ∈ gT := tb_of 315 (by decide +kernel) (by decide +kernel)
theorem im_X7_span : Cond.instanceMethod yX7_span ∈ gT := tb_of 313 (by decide +kernel) (by decide +kernel)
theorem se_X7_span : Cond.selects yX7_span.cls yX7_span yX7_span ∈ gT := tb_of 314 (by decide +kernel) (by decide +kernel)
abbrev M_X7_move : mM := (yX7_move, cX7_move, 4, (some .int))
theorem co_X7_move : Cond.code yX7_move cX7_move 4 (some .int) ∈ gT := tb_of 319 (by decide +kernel) (by decide +kernel)
theorem im_X7_move : Cond.instanceMethod yX7_move ∈ gT := tb_of 317 (by decide +kernel) (by decide +kernel)
theorem se_X7_move : Cond.selects yX7_move.cls yX7_move yX7_move ∈ gT := tb_of 318 (by decide +kernel) (by decide +kernel)
abbrev M_X7_cloud : mM := (yX7_cloud, cX7_cloud, 3, (some .int))
theorem co_X7_cloud : Cond.code yX7_cloud cX7_cloud 3 (some .int) ∈ gT := tb_of 323 (by decide +kernel) (by decide +kernel)
theorem im_X7_cloud : Cond.instanceMethod yX7_cloud ∈ gT := tb_of 321 (by decide +kernel) (by decide +kernel)
theorem se_X7_cloud : Cond.selects yX7_cloud.cls yX7_cloud yX7_cloud ∈ gT := tb_of 322 (by decide +kernel) (by decide +kernel)
abbrev M_X4_cover : mM := (yX4_cover, cX4_cover, 3, (some .boolean))
theorem co_X4_cover : Cond.code yX4_cover cX4_cover 3 (some .boolean) ∈ gT := tb_of 327 (by decide +kernel) (by decide +kernel)
theorem im_X4_cover : Cond.instanceMethod yX4_cover ∈ gT := tb_of 326 (by decide +kernel) (by decide +kernel)
theorem se_X4_cover : Cond.selects yX4_cover.cls yX4_cover yX4_cover ∈ gT := tp_of 12 (by decide +kernel) (by decide +kernel)
abbrev M_X7_struck : mM := (yX7_struck, cX7_struck, 3, (some .int))
theorem co_X7_struck : Cond.code yX7_struck cX7_struck 3 (some .int) ∈ gT := tb_of 331 (by decide +kernel) (by decide +kernel)
theorem im_X7_struck : Cond.instanceMethod yX7_struck ∈ gT := tb_of 329 (by decide +kernel) (by decide +kernel)
theorem se_X7_struck : Cond.selects yX7_struck.cls yX7_struck yX7_struck ∈ gT := tb_of 330 (by decide +kernel) (by decide +kernel)
abbrev M_X1_settle : mM := (yX1_settle, cX1_settle, 1, none)
theorem co_X1_settle : Cond.code yX1_settle cX1_settle 1 none ∈ gT := tb_of 335 (by decide +kernel) (by decide +kernel)
theorem im_X1_settle : Cond.instanceMethod yX1_settle ∈ gT := tb_of 334 (by decide +kernel) (by decide +kernel)
theorem se_X1_settle : Cond.selects yX1_settle.cls yX1_settle yX1_settle ∈ gT := tp_of 13 (by decide +kernel) (by decide +kernel)
abbrev M_X1_watchAll : mM := (yX1_watchAll, cX1_watchAll, 3, none)
theorem co_X1_watchAll : Cond.code yX1_watchAll cX1_watchAll 3 none ∈ gT := tb_of 339 (by decide +kernel) (by decide +kernel)
theorem im_X1_watchAll : Cond.instanceMethod yX1_watchAll ∈ gT := tb_of 338 (by decide +kernel) (by decide +kernel)
theorem se_X1_watchAll : Cond.selects yX1_watchAll.cls yX1_watchAll yX1_watchAll ∈ gT := tp_of 14 (by decide +kernel) (by decide +kernel)
abbrev M_X4_moonsWithin : mM := (yX4_moonsWithin, cX4_moonsWithin, 6, (some .int))
theorem co_X4_moonsWithin : Cond.code yX4_moonsWithin cX4_moonsWithin 6 (some .int) ∈ gT := tb_of 343 (by decide +kernel) (by decide +kernel)
theorem im_X4_moonsWithin : Cond.instanceMethod yX4_moonsWithin ∈ gT := tb_of 342 (by decide +kernel) (by decide +kernel)
theorem se_X4_moonsWithin : Cond.selects yX4_moonsWithin.cls yX4_moonsWithin yX4_moonsWithin ∈ gT := tp_of 15 (by decide +kernel) (by decide +kernel)
abbrev M_X4_cloudedMoons : mM := (yX4_cloudedMoons, cX4_cloudedMoons, 4, (some .int))
theorem co_X4_cloudedMoons : Cond.code yX4_cloudedMoons cX4_cloudedMoons 4 (some .int) ∈ gT := tb_of 348 (by decide +kernel) (by decide +kernel)
theorem im_X4_cloudedMoons : Cond.instanceMethod yX4_cloudedMoons ∈ gT := tb_of 347 (by decide +kernel) (by decide +kernel)
theorem se_X4_cloudedMoons : Cond.selects yX4_cloudedMoons.cls yX4_cloudedMoons yX4_cloudedMoons ∈ gT := tp_of 16 (by decide +kernel) (by decide +kernel)
abbrev M_X1_pass : mM := (yX1_pass, cX1_pass, 9, none)
theorem co_X1_pass : Cond.code yX1_pass cX1_pass 9 none ∈ gT := tb_of 352 (by decide +kernel) (by decide +kernel)
theorem im_X1_pass : Cond.instanceMethod yX1_pass ∈ gT := tb_of 351 (by decide +kernel) (by decide +kernel)
theorem se_X1_pass : Cond.selects yX1_pass.cls yX1_pass yX1_pass ∈ gT := tp_of 17 (by decide +kernel) (by decide +kernel)
abbrev M_X1_earliestBut : mM := (yX1_earliestBut, cX1_earliestBut, 5, (some .int))
theorem co_X1_earliestBut : Cond.code yX1_earliestBut cX1_earliestBut 5 (some .int) ∈ gT := tb_of 356 (by decide +kernel) (by decide +kernel)
theorem im_X1_earliestBut : Cond.instanceMethod yX1_earliestBut ∈ gT := tb_of 355 (by decide +kernel) (by decide +kernel)
theorem se_X1_earliestBut : Cond.selects yX1_earliestBut.cls yX1_earliestBut yX1_earliestBut ∈ gT := tp_of 18 (by decide +kernel) (by decide +kernel)
abbrev M_X1_isInForce : mM := (yX1_isInForce, cX1_isInForce, 3, (some .boolean))
theorem co_X1_isInForce : Cond.code yX1_isInForce cX1_isInForce 3 (some .boolean) ∈ gT := tb_of 360 (by decide +kernel) (by decide +kernel)
theorem im_X1_isInForce : Cond.instanceMethod yX1_isInForce ∈ gT := tb_of 359 (by decide +kernel) (by decide +kernel)
theorem se_X1_isInForce : Cond.selects yX1_isInForce.cls yX1_isInForce yX1_isInForce ∈ gT := tp_of 19 (by decide +kernel) (by decide +kernel)
abbrev M_X1_daysInForce : mM := (yX1_daysInForce, cX1_daysInForce, 7, (some .long))
theorem co_X1_daysInForce : Cond.code yX1_daysInForce cX1_daysInForce 7 (some .long) ∈ gT := tb_of 364 (by decide +kernel) (by decide +kernel)
theorem im_X1_daysInForce : Cond.instanceMethod yX1_daysInForce ∈ gT := tb_of 363 (by decide +kernel) (by decide +kernel)
theorem se_X1_daysInForce : Cond.selects yX1_daysInForce.cls yX1_daysInForce yX1_daysInForce ∈ gT := tp_of 20 (by decide +kernel) (by decide +kernel)
abbrev M_X0_term : mM := (yX0_term, cX0_term, 6, (some .long))
theorem co_X0_term : Cond.code yX0_term cX0_term 6 (some .long) ∈ gT := tb_of 368 (by decide +kernel) (by decide +kernel)
theorem im_X0_term : Cond.instanceMethod yX0_term ∈ gT := tb_of 367 (by decide +kernel) (by decide +kernel)
theorem se_X0_term : Cond.selects yX0_term.cls yX0_term yX0_term ∈ gT := tp_of 21 (by decide +kernel) (by decide +kernel)
abbrev M_J9_max_7cf53 : mM := (yJ9_max_7cf53, cJ9_max_7cf53, 2, (some .int))
theorem co_J9_max_7cf53 : Cond.code yJ9_max_7cf53 cJ9_max_7cf53 2 (some .int) ∈ gT := tb_of 371 (by decide +kernel) (by decide +kernel)
theorem st_J9_max_7cf53 : Cond.static yJ9_max_7cf53 ∈ gT := tb_of 370 (by decide +kernel) (by decide +kernel)
abbrev M_X1_isLater : mM := (yX1_isLater, cX1_isLater, 4, (some .boolean))
theorem co_X1_isLater : Cond.code yX1_isLater cX1_isLater 4 (some .boolean) ∈ gT := tb_of 376 (by decide +kernel) (by decide +kernel)
theorem im_X1_isLater : Cond.instanceMethod yX1_isLater ∈ gT := tb_of 375 (by decide +kernel) (by decide +kernel)
theorem se_X1_isLater : Cond.selects yX1_isLater.cls yX1_isLater yX1_isLater ∈ gT := tp_of 22 (by decide +kernel) (by decide +kernel)
abbrev M_J6_numberOfTrailingZeros_0f7a4 : mM := (yJ6_numberOfTrailingZeros_0f7a4, cJ6_numberOfTrailingZeros_0f7a4, 2, (some .int))
theorem co_J6_numberOfTrailingZeros_0f7a4 : Cond.code yJ6_numberOfTrailingZeros_0f7a4 cJ6_numberOfTrailingZeros_0f7a4 2 (some .int) ∈ gT := tb_of 381 (by decide +kernel) (by decide +kernel)
theorem st_J6_numberOfTrailingZeros_0f7a4 : Cond.static yJ6_numberOfTrailingZeros_0f7a4 ∈ gT := tb_of 380 (by decide +kernel) (by decide +kernel)
abbrev M_X7_passing : mM := (yX7_passing, cX7_passing, 1, (some .int))
theorem co_X7_passing : Cond.code yX7_passing cX7_passing 1 (some .int) ∈ gT := tb_of 386 (by decide +kernel) (by decide +kernel)
theorem im_X7_passing : Cond.instanceMethod yX7_passing ∈ gT := tb_of 384 (by decide +kernel) (by decide +kernel)
theorem se_X7_passing : Cond.selects yX7_passing.cls yX7_passing yX7_passing ∈ gT := tb_of 385 (by decide +kernel) (by decide +kernel)
abbrev M_X7_force : mM := (yX7_force, cX7_force, 2, (some .int))
theorem co_X7_force : Cond.code yX7_force cX7_force 2 (some .int) ∈ gT := tb_of 390 (by decide +kernel) (by decide +kernel)
theorem im_X7_force : Cond.instanceMethod yX7_force ∈ gT := tb_of 388 (by decide +kernel) (by decide +kernel)
theorem se_X7_force : Cond.selects yX7_force.cls yX7_force yX7_force ∈ gT := tb_of 389 (by decide +kernel) (by decide +kernel)
abbrev M_X1_allInForce : mM := (yX1_allInForce, cX1_allInForce, 4, (some .int))
theorem co_X1_allInForce : Cond.code yX1_allInForce cX1_allInForce 4 (some .int) ∈ gT := tb_of 394 (by decide +kernel) (by decide +kernel)
theorem im_X1_allInForce : Cond.instanceMethod yX1_allInForce ∈ gT := tb_of 393 (by decide +kernel) (by decide +kernel)
theorem se_X1_allInForce : Cond.selects yX1_allInForce.cls yX1_allInForce yX1_allInForce ∈ gT := tp_of 23 (by decide +kernel) (by decide +kernel)
abbrev M_X7_holds : mM := (yX7_holds, cX7_holds, 2, (some .int))
theorem co_X7_holds : Cond.code yX7_holds cX7_holds 2 (some .int) ∈ gT := tb_of 398 (by decide +kernel) (by decide +kernel)
theorem im_X7_holds : Cond.instanceMethod yX7_holds ∈ gT := tb_of 396 (by decide +kernel) (by decide +kernel)
theorem se_X7_holds : Cond.selects yX7_holds.cls yX7_holds yX7_holds ∈ gT := tb_of 397 (by decide +kernel) (by decide +kernel)
abbrev M_X1_daysHeld : mM := (yX1_daysHeld, cX1_daysHeld, 2, (some .int))
theorem co_X1_daysHeld : Cond.code yX1_daysHeld cX1_daysHeld 2 (some .int) ∈ gT := tb_of 402 (by decide +kernel) (by decide +kernel)
theorem im_X1_daysHeld : Cond.instanceMethod yX1_daysHeld ∈ gT := tb_of 401 (by decide +kernel) (by decide +kernel)
theorem se_X1_daysHeld : Cond.selects yX1_daysHeld.cls yX1_daysHeld yX1_daysHeld ∈ gT := tp_of 24 (by decide +kernel) (by decide +kernel)
abbrev M_J13_bitCount_95d88 : mM := (yJ13_bitCount_95d88, cJ13_bitCount_95d88, 2, (some .int))
theorem co_J13_bitCount_95d88 : Cond.code yJ13_bitCount_95d88 cJ13_bitCount_95d88 2 (some .int) ∈ gT := tb_of 405 (by decide +kernel) (by decide +kernel)
theorem st_J13_bitCount_95d88 : Cond.static yJ13_bitCount_95d88 ∈ gT := tb_of 404 (by decide +kernel) (by decide +kernel)
abbrev M_X7_chronicle : mM := (yX7_chronicle, cX7_chronicle, 8, (some .int))
theorem co_X7_chronicle : Cond.code yX7_chronicle cX7_chronicle 8 (some .int) ∈ gT := tb_of 412 (by decide +kernel) (by decide +kernel)
theorem im_X7_chronicle : Cond.instanceMethod yX7_chronicle ∈ gT := tb_of 410 (by decide +kernel) (by decide +kernel)
theorem se_X7_chronicle : Cond.selects yX7_chronicle.cls yX7_chronicle yX7_chronicle ∈ gT := tb_of 411 (by decide +kernel) (by decide +kernel)
abbrev M_X7_buy : mM := (yX7_buy, cX7_buy, 3, (some .int))
theorem co_X7_buy : Cond.code yX7_buy cX7_buy 3 (some .int) ∈ gT := tb_of 416 (by decide +kernel) (by decide +kernel)
theorem im_X7_buy : Cond.instanceMethod yX7_buy ∈ gT := tb_of 414 (by decide +kernel) (by decide +kernel)
theorem se_X7_buy : Cond.selects yX7_buy.cls yX7_buy yX7_buy ∈ gT := tb_of 415 (by decide +kernel) (by decide +kernel)
abbrev M_X6_fewestClouds : mM := (yX6_fewestClouds, cX6_fewestClouds, 8, (some .int))
theorem co_X6_fewestClouds : Cond.code yX6_fewestClouds cX6_fewestClouds 8 (some .int) ∈ gT := tb_of 419 (by decide +kernel) (by decide +kernel)
theorem st_X6_fewestClouds : Cond.static yX6_fewestClouds ∈ gT := tb_of 418 (by decide +kernel) (by decide +kernel)
abbrev M_X1_allMoons : mM := (yX1_allMoons, cX1_allMoons, 3, (some .int))
theorem co_X1_allMoons : Cond.code yX1_allMoons cX1_allMoons 3 (some .int) ∈ gT := tb_of 425 (by decide +kernel) (by decide +kernel)
theorem im_X1_allMoons : Cond.instanceMethod yX1_allMoons ∈ gT := tb_of 424 (by decide +kernel) (by decide +kernel)
theorem se_X1_allMoons : Cond.selects yX1_allMoons.cls yX1_allMoons yX1_allMoons ∈ gT := tp_of 25 (by decide +kernel) (by decide +kernel)
abbrev M_J6_bitCount_0f7a4 : mM := (yJ6_bitCount_0f7a4, cJ6_bitCount_0f7a4, 1, (some .int))
theorem co_J6_bitCount_0f7a4 : Cond.code yJ6_bitCount_0f7a4 cJ6_bitCount_0f7a4 1 (some .int) ∈ gT := tb_of 428 (by decide +kernel) (by decide +kernel)
theorem st_J6_bitCount_0f7a4 : Cond.static yJ6_bitCount_0f7a4 ∈ gT := tb_of 427 (by decide +kernel) (by decide +kernel)
abbrev M_X7_when : mM := (yX7_when, cX7_when, 3, (some .int))
theorem co_X7_when : Cond.code yX7_when cX7_when 3 (some .int) ∈ gT := tb_of 437 (by decide +kernel) (by decide +kernel)
theorem im_X7_when : Cond.instanceMethod yX7_when ∈ gT := tb_of 435 (by decide +kernel) (by decide +kernel)
theorem se_X7_when : Cond.selects yX7_when.cls yX7_when yX7_when ∈ gT := tb_of 436 (by decide +kernel) (by decide +kernel)
abbrev M_X6_firstMove : mM := (yX6_firstMove, cX6_firstMove, 7, (some .int))
theorem co_X6_firstMove : Cond.code yX6_firstMove cX6_firstMove 7 (some .int) ∈ gT := tb_of 440 (by decide +kernel) (by decide +kernel)
theorem st_X6_firstMove : Cond.static yX6_firstMove ∈ gT := tb_of 439 (by decide +kernel) (by decide +kernel)
abbrev M_X7_longest : mM := (yX7_longest, cX7_longest, 3, (some .int))
theorem co_X7_longest : Cond.code yX7_longest cX7_longest 3 (some .int) ∈ gT := tb_of 445 (by decide +kernel) (by decide +kernel)
theorem im_X7_longest : Cond.instanceMethod yX7_longest ∈ gT := tb_of 443 (by decide +kernel) (by decide +kernel)
theorem se_X7_longest : Cond.selects yX7_longest.cls yX7_longest yX7_longest ∈ gT := tb_of 444 (by decide +kernel) (by decide +kernel)
abbrev M_X6_longestMove : mM := (yX6_longestMove, cX6_longestMove, 9, (some .int))
theorem co_X6_longestMove : Cond.code yX6_longestMove cX6_longestMove 9 (some .int) ∈ gT := tb_of 448 (by decide +kernel) (by decide +kernel)
theorem st_X6_longestMove : Cond.static yX6_longestMove ∈ gT := tb_of 447 (by decide +kernel) (by decide +kernel)
abbrev M_X7_worth : mM := (yX7_worth, cX7_worth, 2, (some .int))
theorem co_X7_worth : Cond.code yX7_worth cX7_worth 2 (some .int) ∈ gT := tb_of 453 (by decide +kernel) (by decide +kernel)
theorem im_X7_worth : Cond.instanceMethod yX7_worth ∈ gT := tb_of 451 (by decide +kernel) (by decide +kernel)
theorem se_X7_worth : Cond.selects yX7_worth.cls yX7_worth yX7_worth ∈ gT := tb_of 452 (by decide +kernel) (by decide +kernel)
abbrev M_X6_gainOfOthers : mM := (yX6_gainOfOthers, cX6_gainOfOthers, 3, (some .int))
theorem co_X6_gainOfOthers : Cond.code yX6_gainOfOthers cX6_gainOfOthers 3 (some .int) ∈ gT := tb_of 456 (by decide +kernel) (by decide +kernel)
theorem st_X6_gainOfOthers : Cond.static yX6_gainOfOthers ∈ gT := tb_of 455 (by decide +kernel) (by decide +kernel)
abbrev M_X1_daysHeldByOthers : mM := (yX1_daysHeldByOthers, cX1_daysHeldByOthers, 4, (some .int))
theorem co_X1_daysHeldByOthers : Cond.code yX1_daysHeldByOthers cX1_daysHeldByOthers 4 (some .int) ∈ gT := tb_of 460 (by decide +kernel) (by decide +kernel)
theorem im_X1_daysHeldByOthers : Cond.instanceMethod yX1_daysHeldByOthers ∈ gT := tb_of 459 (by decide +kernel) (by decide +kernel)
theorem se_X1_daysHeldByOthers : Cond.selects yX1_daysHeldByOthers.cls yX1_daysHeldByOthers yX1_daysHeldByOthers ∈ gT := tp_of 26 (by decide +kernel) (by decide +kernel)
abbrev M_X7_reading : mM := (yX7_reading, cX7_reading, 4, (some .int))
theorem co_X7_reading : Cond.code yX7_reading cX7_reading 4 (some .int) ∈ gT := tb_of 465 (by decide +kernel) (by decide +kernel)
theorem im_X7_reading : Cond.instanceMethod yX7_reading ∈ gT := tb_of 463 (by decide +kernel) (by decide +kernel)
theorem se_X7_reading : Cond.selects yX7_reading.cls yX7_reading yX7_reading ∈ gT := tb_of 464 (by decide +kernel) (by decide +kernel)
abbrev M_X2_append : mM := (yX2_append, cX2_append, 5, (some .int))
theorem co_X2_append : Cond.code yX2_append cX2_append 5 (some .int) ∈ gT := tb_of 469 (by decide +kernel) (by decide +kernel)
theorem im_X2_append : Cond.instanceMethod yX2_append ∈ gT := tb_of 468 (by decide +kernel) (by decide +kernel)
theorem se_X2_append : Cond.selects yX2_append.cls yX2_append yX2_append ∈ gT := tp_of 27 (by decide +kernel) (by decide +kernel)
abbrev M_X7_back : mM := (yX7_back, cX7_back, 2, (some .int))
theorem co_X7_back : Cond.code yX7_back cX7_back 2 (some .int) ∈ gT := tb_of 473 (by decide +kernel) (by decide +kernel)
theorem im_X7_back : Cond.instanceMethod yX7_back ∈ gT := tb_of 471 (by decide +kernel) (by decide +kernel)
theorem se_X7_back : Cond.selects yX7_back.cls yX7_back yX7_back ∈ gT := tb_of 472 (by decide +kernel) (by decide +kernel)
abbrev M_X7_spans : mM := (yX7_spans, cX7_spans, 1, (some .int))
theorem co_X7_spans : Cond.code yX7_spans cX7_spans 1 (some .int) ∈ gT := tb_of 477 (by decide +kernel) (by decide +kernel)
theorem im_X7_spans : Cond.instanceMethod yX7_spans ∈ gT := tb_of 475 (by decide +kernel) (by decide +kernel)
theorem se_X7_spans : Cond.selects yX7_spans.cls yX7_spans yX7_spans ∈ gT := tb_of 476 (by decide +kernel) (by decide +kernel)
abbrev M_X6_possibleSpans : mM := (yX6_possibleSpans, cX6_possibleSpans, 5, (some .int))
theorem co_X6_possibleSpans : Cond.code yX6_possibleSpans cX6_possibleSpans 5 (some .int) ∈ gT := tb_of 480 (by decide +kernel) (by decide +kernel)
theorem st_X6_possibleSpans : Cond.static yX6_possibleSpans ∈ gT := tb_of 479 (by decide +kernel) (by decide +kernel)
abbrev M_X2_areSo : mM := (yX2_areSo, cX2_areSo, 3, (some .boolean))
theorem co_X2_areSo : Cond.code yX2_areSo cX2_areSo 3 (some .boolean) ∈ gT := tb_of 484 (by decide +kernel) (by decide +kernel)
theorem im_X2_areSo : Cond.instanceMethod yX2_areSo ∈ gT := tb_of 483 (by decide +kernel) (by decide +kernel)
theorem se_X2_areSo : Cond.selects yX2_areSo.cls yX2_areSo yX2_areSo ∈ gT := tp_of 28 (by decide +kernel) (by decide +kernel)
abbrev M_X7_origins : mM := (yX7_origins, cX7_origins, 1, (some .int))
theorem co_X7_origins : Cond.code yX7_origins cX7_origins 1 (some .int) ∈ gT := tb_of 489 (by decide +kernel) (by decide +kernel)
theorem im_X7_origins : Cond.instanceMethod yX7_origins ∈ gT := tb_of 487 (by decide +kernel) (by decide +kernel)
theorem se_X7_origins : Cond.selects yX7_origins.cls yX7_origins yX7_origins ∈ gT := tb_of 488 (by decide +kernel) (by decide +kernel)
abbrev M_X6_possibleOrigins : mM := (yX6_possibleOrigins, cX6_possibleOrigins, 5, (some .int))
theorem co_X6_possibleOrigins : Cond.code yX6_possibleOrigins cX6_possibleOrigins 5 (some .int) ∈ gT := tb_of 492 (by decide +kernel) (by decide +kernel)
theorem st_X6_possibleOrigins : Cond.static yX6_possibleOrigins ∈ gT := tb_of 491 (by decide +kernel) (by decide +kernel)
abbrev M_X7_kinds : mM := (yX7_kinds, cX7_kinds, 2, (some .int))
theorem co_X7_kinds : Cond.code yX7_kinds cX7_kinds 2 (some .int) ∈ gT := tb_of 496 (by decide +kernel) (by decide +kernel)
theorem im_X7_kinds : Cond.instanceMethod yX7_kinds ∈ gT := tb_of 494 (by decide +kernel) (by decide +kernel)
theorem se_X7_kinds : Cond.selects yX7_kinds.cls yX7_kinds yX7_kinds ∈ gT := tb_of 495 (by decide +kernel) (by decide +kernel)
abbrev M_X6_possibleKinds : mM := (yX6_possibleKinds, cX6_possibleKinds, 7, (some .int))
theorem co_X6_possibleKinds : Cond.code yX6_possibleKinds cX6_possibleKinds 7 (some .int) ∈ gT := tb_of 499 (by decide +kernel) (by decide +kernel)
theorem st_X6_possibleKinds : Cond.static yX6_possibleKinds ∈ gT := tb_of 498 (by decide +kernel) (by decide +kernel)
abbrev M_X7_moved : mM := (yX7_moved, cX7_moved, 3, (some .int))
theorem co_X7_moved : Cond.code yX7_moved cX7_moved 3 (some .int) ∈ gT := tb_of 503 (by decide +kernel) (by decide +kernel)
theorem im_X7_moved : Cond.instanceMethod yX7_moved ∈ gT := tb_of 501 (by decide +kernel) (by decide +kernel)
theorem se_X7_moved : Cond.selects yX7_moved.cls yX7_moved yX7_moved ∈ gT := tb_of 502 (by decide +kernel) (by decide +kernel)
abbrev M_X6_possibleMoves : mM := (yX6_possibleMoves, cX6_possibleMoves, 9, (some .int))
theorem co_X6_possibleMoves : Cond.code yX6_possibleMoves cX6_possibleMoves 9 (some .int) ∈ gT := tb_of 506 (by decide +kernel) (by decide +kernel)
theorem st_X6_possibleMoves : Cond.static yX6_possibleMoves ∈ gT := tb_of 505 (by decide +kernel) (by decide +kernel)
abbrev M_X7_odds : mM := (yX7_odds, cX7_odds, 4, (some .long))
theorem co_X7_odds : Cond.code yX7_odds cX7_odds 4 (some .long) ∈ gT := tb_of 510 (by decide +kernel) (by decide +kernel)
theorem im_X7_odds : Cond.instanceMethod yX7_odds ∈ gT := tb_of 508 (by decide +kernel) (by decide +kernel)
theorem se_X7_odds : Cond.selects yX7_odds.cls yX7_odds yX7_odds ∈ gT := tb_of 509 (by decide +kernel) (by decide +kernel)
abbrev M_X6_shareOfClouds : mM := (yX6_shareOfClouds, cX6_shareOfClouds, 8, (some .long))
theorem co_X6_shareOfClouds : Cond.code yX6_shareOfClouds cX6_shareOfClouds 8 (some .long) ∈ gT := tb_of 514 (by decide +kernel) (by decide +kernel)
theorem st_X6_shareOfClouds : Cond.static yX6_shareOfClouds ∈ gT := tb_of 513 (by decide +kernel) (by decide +kernel)
abbrev M_X7_sheet : mM := (yX7_sheet, cX7_sheet, 4, (some .int))
theorem co_X7_sheet : Cond.code yX7_sheet cX7_sheet 4 (some .int) ∈ gT := tb_of 518 (by decide +kernel) (by decide +kernel)
theorem im_X7_sheet : Cond.instanceMethod yX7_sheet ∈ gT := tb_of 516 (by decide +kernel) (by decide +kernel)
theorem se_X7_sheet : Cond.selects yX7_sheet.cls yX7_sheet yX7_sheet ∈ gT := tb_of 517 (by decide +kernel) (by decide +kernel)
abbrev M_X3_begin : mM := (yX3_begin, cX3_begin, 4, none)
theorem co_X3_begin : Cond.code yX3_begin cX3_begin 4 none ∈ gT := tb_of 522 (by decide +kernel) (by decide +kernel)
theorem im_X3_begin : Cond.instanceMethod yX3_begin ∈ gT := tb_of 521 (by decide +kernel) (by decide +kernel)
theorem se_X3_begin : Cond.selects yX3_begin.cls yX3_begin yX3_begin ∈ gT := tp_of 29 (by decide +kernel) (by decide +kernel)
abbrev M_X7_lose : mM := (yX7_lose, cX7_lose, 3, (some .int))
theorem co_X7_lose : Cond.code yX7_lose cX7_lose 3 (some .int) ∈ gT := tb_of 526 (by decide +kernel) (by decide +kernel)
theorem im_X7_lose : Cond.instanceMethod yX7_lose ∈ gT := tb_of 524 (by decide +kernel) (by decide +kernel)
theorem se_X7_lose : Cond.selects yX7_lose.cls yX7_lose yX7_lose ∈ gT := tb_of 525 (by decide +kernel) (by decide +kernel)
abbrev M_X3_drop : mM := (yX3_drop, cX3_drop, 1, none)
theorem co_X3_drop : Cond.code yX3_drop cX3_drop 1 none ∈ gT := tb_of 531 (by decide +kernel) (by decide +kernel)
theorem im_X3_drop : Cond.instanceMethod yX3_drop ∈ gT := tb_of 530 (by decide +kernel) (by decide +kernel)
theorem se_X3_drop : Cond.selects yX3_drop.cls yX3_drop yX3_drop ∈ gT := tp_of 30 (by decide +kernel) (by decide +kernel)
abbrev M_X7_put : mM := (yX7_put, cX7_put, 5, (some .int))
theorem co_X7_put : Cond.code yX7_put cX7_put 5 (some .int) ∈ gT := tb_of 535 (by decide +kernel) (by decide +kernel)
theorem im_X7_put : Cond.instanceMethod yX7_put ∈ gT := tb_of 533 (by decide +kernel) (by decide +kernel)
theorem se_X7_put : Cond.selects yX7_put.cls yX7_put yX7_put ∈ gT := tb_of 534 (by decide +kernel) (by decide +kernel)
abbrev M_X3_cut : mM := (yX3_cut, cX3_cut, 2, (some .int))
theorem co_X3_cut : Cond.code yX3_cut cX3_cut 2 (some .int) ∈ gT := tb_of 540 (by decide +kernel) (by decide +kernel)
theorem im_X3_cut : Cond.instanceMethod yX3_cut ∈ gT := tb_of 539 (by decide +kernel) (by decide +kernel)
theorem se_X3_cut : Cond.selects yX3_cut.cls yX3_cut yX3_cut ∈ gT := tp_of 31 (by decide +kernel) (by decide +kernel)
abbrev M_X7_cell : mM := (yX7_cell, cX7_cell, 5, (some .long))
theorem co_X7_cell : Cond.code yX7_cell cX7_cell 5 (some .long) ∈ gT := tb_of 544 (by decide +kernel) (by decide +kernel)
theorem im_X7_cell : Cond.instanceMethod yX7_cell ∈ gT := tb_of 542 (by decide +kernel) (by decide +kernel)
theorem se_X7_cell : Cond.selects yX7_cell.cls yX7_cell yX7_cell ∈ gT := tb_of 543 (by decide +kernel) (by decide +kernel)
abbrev M_X7_copy : mM := (yX7_copy, cX7_copy, 8, (some .int))
theorem co_X7_copy : Cond.code yX7_copy cX7_copy 8 (some .int) ∈ gT := tb_of 549 (by decide +kernel) (by decide +kernel)
theorem im_X7_copy : Cond.instanceMethod yX7_copy ∈ gT := tb_of 547 (by decide +kernel) (by decide +kernel)
theorem se_X7_copy : Cond.selects yX7_copy.cls yX7_copy yX7_copy ∈ gT := tb_of 548 (by decide +kernel) (by decide +kernel)
abbrev M_X7_tell : mM := (yX7_tell, cX7_tell, 3, (some .int))
theorem co_X7_tell : Cond.code yX7_tell cX7_tell 3 (some .int) ∈ gT := tb_of 557 (by decide +kernel) (by decide +kernel)
theorem im_X7_tell : Cond.instanceMethod yX7_tell ∈ gT := tb_of 555 (by decide +kernel) (by decide +kernel)
theorem se_X7_tell : Cond.selects yX7_tell.cls yX7_tell yX7_tell ∈ gT := tb_of 556 (by decide +kernel) (by decide +kernel)
abbrev M_X7_sunsetBody : mM := (yX7_sunsetBody, cX7_sunsetBody, 2, (some .int))
theorem co_X7_sunsetBody : Cond.code yX7_sunsetBody cX7_sunsetBody 2 (some .int) ∈ gT := tb_of 561 (by decide +kernel) (by decide +kernel)
theorem im_X7_sunsetBody : Cond.instanceMethod yX7_sunsetBody ∈ gT := tb_of 560 (by decide +kernel) (by decide +kernel)
theorem se_X7_sunsetBody : Cond.selects yX7_sunsetBody.cls yX7_sunsetBody yX7_sunsetBody ∈ gT := tp_of 32 (by decide +kernel) (by decide +kernel)
abbrev M_X7_leave : mM := (yX7_leave, cX7_leave, 2, none)
theorem co_X7_leave : Cond.code yX7_leave cX7_leave 2 none ∈ gT := tb_of 565 (by decide +kernel) (by decide +kernel)
theorem im_X7_leave : Cond.instanceMethod yX7_leave ∈ gT := tb_of 564 (by decide +kernel) (by decide +kernel)
theorem se_X7_leave : Cond.selects yX7_leave.cls yX7_leave yX7_leave ∈ gT := tp_of 33 (by decide +kernel) (by decide +kernel)
abbrev M_X7_billBody : mM := (yX7_billBody, cX7_billBody, 2, (some .int))
theorem co_X7_billBody : Cond.code yX7_billBody cX7_billBody 2 (some .int) ∈ gT := tb_of 569 (by decide +kernel) (by decide +kernel)
theorem im_X7_billBody : Cond.instanceMethod yX7_billBody ∈ gT := tb_of 568 (by decide +kernel) (by decide +kernel)
theorem se_X7_billBody : Cond.selects yX7_billBody.cls yX7_billBody yX7_billBody ∈ gT := tp_of 34 (by decide +kernel) (by decide +kernel)
abbrev M_X7_repealBody : mM := (yX7_repealBody, cX7_repealBody, 3, (some .int))
theorem co_X7_repealBody : Cond.code yX7_repealBody cX7_repealBody 3 (some .int) ∈ gT := tb_of 573 (by decide +kernel) (by decide +kernel)
theorem im_X7_repealBody : Cond.instanceMethod yX7_repealBody ∈ gT := tb_of 572 (by decide +kernel) (by decide +kernel)
theorem se_X7_repealBody : Cond.selects yX7_repealBody.cls yX7_repealBody yX7_repealBody ∈ gT := tp_of 35 (by decide +kernel) (by decide +kernel)
abbrev M_X7_seal : mM := (yX7_seal, cX7_seal, 2, (some .int))
theorem co_X7_seal : Cond.code yX7_seal cX7_seal 2 (some .int) ∈ gT := tb_of 577 (by decide +kernel) (by decide +kernel)
theorem im_X7_seal : Cond.instanceMethod yX7_seal ∈ gT := tb_of 575 (by decide +kernel) (by decide +kernel)
theorem se_X7_seal : Cond.selects yX7_seal.cls yX7_seal yX7_seal ∈ gT := tb_of 576 (by decide +kernel) (by decide +kernel)
abbrev M_X7_ownSeal : mM := (yX7_ownSeal, cX7_ownSeal, 1, (some .int))
theorem co_X7_ownSeal : Cond.code yX7_ownSeal cX7_ownSeal 1 (some .int) ∈ gT := tb_of 581 (by decide +kernel) (by decide +kernel)
theorem im_X7_ownSeal : Cond.instanceMethod yX7_ownSeal ∈ gT := tb_of 580 (by decide +kernel) (by decide +kernel)
theorem se_X7_ownSeal : Cond.selects yX7_ownSeal.cls yX7_ownSeal yX7_ownSeal ∈ gT := tp_of 36 (by decide +kernel) (by decide +kernel)
abbrev M_X7_lentSeal : mM := (yX7_lentSeal, cX7_lentSeal, 2, (some .int))
theorem co_X7_lentSeal : Cond.code yX7_lentSeal cX7_lentSeal 2 (some .int) ∈ gT := tb_of 585 (by decide +kernel) (by decide +kernel)
theorem im_X7_lentSeal : Cond.instanceMethod yX7_lentSeal ∈ gT := tb_of 584 (by decide +kernel) (by decide +kernel)
theorem se_X7_lentSeal : Cond.selects yX7_lentSeal.cls yX7_lentSeal yX7_lentSeal ∈ gT := tp_of 37 (by decide +kernel) (by decide +kernel)
abbrev M_X7_as : mM := (yX7_as, cX7_as, 3, (some .int))
theorem co_X7_as : Cond.code yX7_as cX7_as 3 (some .int) ∈ gT := tb_of 589 (by decide +kernel) (by decide +kernel)
theorem im_X7_as : Cond.instanceMethod yX7_as ∈ gT := tb_of 587 (by decide +kernel) (by decide +kernel)
theorem se_X7_as : Cond.selects yX7_as.cls yX7_as yX7_as ∈ gT := tb_of 588 (by decide +kernel) (by decide +kernel)
abbrev M_X7_trace : mM := (yX7_trace, cX7_trace, 1, (some .int))
theorem co_X7_trace : Cond.code yX7_trace cX7_trace 1 (some .int) ∈ gT := tb_of 593 (by decide +kernel) (by decide +kernel)
theorem im_X7_trace : Cond.instanceMethod yX7_trace ∈ gT := tb_of 591 (by decide +kernel) (by decide +kernel)
theorem se_X7_trace : Cond.selects yX7_trace.cls yX7_trace yX7_trace ∈ gT := tb_of 592 (by decide +kernel) (by decide +kernel)
abbrev M_X7_fault : mM := (yX7_fault, cX7_fault, 1, (some .int))
theorem co_X7_fault : Cond.code yX7_fault cX7_fault 1 (some .int) ∈ gT := tb_of 597 (by decide +kernel) (by decide +kernel)
theorem im_X7_fault : Cond.instanceMethod yX7_fault ∈ gT := tb_of 595 (by decide +kernel) (by decide +kernel)
theorem se_X7_fault : Cond.selects yX7_fault.cls yX7_fault yX7_fault ∈ gT := tb_of 596 (by decide +kernel) (by decide +kernel)
abbrev M_X7_many : mM := (yX7_many, cX7_many, 2, (some .int))
theorem co_X7_many : Cond.code yX7_many cX7_many 2 (some .int) ∈ gT := tb_of 601 (by decide +kernel) (by decide +kernel)
theorem im_X7_many : Cond.instanceMethod yX7_many ∈ gT := tb_of 599 (by decide +kernel) (by decide +kernel)
theorem se_X7_many : Cond.selects yX7_many.cls yX7_many yX7_many ∈ gT := tb_of 600 (by decide +kernel) (by decide +kernel)
abbrev M_X8_init : mM := (yX8_init, cX8_init, 1, none)
theorem co_X8_init : Cond.code yX8_init cX8_init 1 none ∈ gT := tb_of 606 (by decide +kernel) (by decide +kernel)
theorem im_X8_init : Cond.instanceMethod yX8_init ∈ gT := tb_of 605 (by decide +kernel) (by decide +kernel)
abbrev M_X8_council : mM := (yX8_council, cX8_council, 8, (some .int))
theorem co_X8_council : Cond.code yX8_council cX8_council 8 (some .int) ∈ gT := tb_of 714 (by decide +kernel) (by decide +kernel)
theorem im_X8_council : Cond.instanceMethod yX8_council ∈ gT := tb_of 712 (by decide +kernel) (by decide +kernel)
theorem se_X8_council : Cond.selects yX8_council.cls yX8_council yX8_council ∈ gT := tb_of 713 (by decide +kernel) (by decide +kernel)
abbrev M_X8_isSheet : mM := (yX8_isSheet, cX8_isSheet, 1, (some .boolean))
theorem co_X8_isSheet : Cond.code yX8_isSheet cX8_isSheet 1 (some .boolean) ∈ gT := tb_of 717 (by decide +kernel) (by decide +kernel)
theorem st_X8_isSheet : Cond.static yX8_isSheet ∈ gT := tb_of 716 (by decide +kernel) (by decide +kernel)
abbrev M_X8_within : mM := (yX8_within, cX8_within, 3, (some .boolean))
theorem co_X8_within : Cond.code yX8_within cX8_within 3 (some .boolean) ∈ gT := tb_of 720 (by decide +kernel) (by decide +kernel)
theorem st_X8_within : Cond.static yX8_within ∈ gT := tb_of 719 (by decide +kernel) (by decide +kernel)
abbrev M_X8_isSort : mM := (yX8_isSort, cX8_isSort, 1, (some .boolean))
theorem co_X8_isSort : Cond.code yX8_isSort cX8_isSort 1 (some .boolean) ∈ gT := tb_of 723 (by decide +kernel) (by decide +kernel)
theorem st_X8_isSort : Cond.static yX8_isSort ∈ gT := tb_of 722 (by decide +kernel) (by decide +kernel)
abbrev M_X8_against : mM := (yX8_against, cX8_against, 5, (some .int))
theorem co_X8_against : Cond.code yX8_against cX8_against 5 (some .int) ∈ gT := tb_of 727 (by decide +kernel) (by decide +kernel)
theorem im_X8_against : Cond.instanceMethod yX8_against ∈ gT := tb_of 726 (by decide +kernel) (by decide +kernel)
theorem se_X8_against : Cond.selects yX8_against.cls yX8_against yX8_against ∈ gT := tp_of 38 (by decide +kernel) (by decide +kernel)
abbrev M_X8_fails : mM := (yX8_fails, cX8_fails, 2, (some .int))
theorem co_X8_fails : Cond.code yX8_fails cX8_fails 2 (some .int) ∈ gT := tb_of 731 (by decide +kernel) (by decide +kernel)
theorem im_X8_fails : Cond.instanceMethod yX8_fails ∈ gT := tb_of 730 (by decide +kernel) (by decide +kernel)
theorem se_X8_fails : Cond.selects yX8_fails.cls yX8_fails yX8_fails ∈ gT := tp_of 39 (by decide +kernel) (by decide +kernel)
abbrev M_X8_readCouncil : mM := (yX8_readCouncil, cX8_readCouncil, 2, (some .boolean))
theorem co_X8_readCouncil : Cond.code yX8_readCouncil cX8_readCouncil 2 (some .boolean) ∈ gT := tb_of 735 (by decide +kernel) (by decide +kernel)
theorem im_X8_readCouncil : Cond.instanceMethod yX8_readCouncil ∈ gT := tb_of 734 (by decide +kernel) (by decide +kernel)
theorem se_X8_readCouncil : Cond.selects yX8_readCouncil.cls yX8_readCouncil yX8_readCouncil ∈ gT := tp_of 40 (by decide +kernel) (by decide +kernel)
abbrev M_X8_isSign : mM := (yX8_isSign, cX8_isSign, 3, (some .boolean))
theorem co_X8_isSign : Cond.code yX8_isSign cX8_isSign 3 (some .boolean) ∈ gT := tb_of 739 (by decide +kernel) (by decide +kernel)
theorem im_X8_isSign : Cond.instanceMethod yX8_isSign ∈ gT := tb_of 738 (by decide +kernel) (by decide +kernel)
theorem se_X8_isSign : Cond.selects yX8_isSign.cls yX8_isSign yX8_isSign ∈ gT := tp_of 41 (by decide +kernel) (by decide +kernel)
abbrev M_X8_readCalendar : mM := (yX8_readCalendar, cX8_readCalendar, 2, (some .boolean))
theorem co_X8_readCalendar : Cond.code yX8_readCalendar cX8_readCalendar 2 (some .boolean) ∈ gT := tb_of 743 (by decide +kernel) (by decide +kernel)
theorem im_X8_readCalendar : Cond.instanceMethod yX8_readCalendar ∈ gT := tb_of 742 (by decide +kernel) (by decide +kernel)
theorem se_X8_readCalendar : Cond.selects yX8_readCalendar.cls yX8_readCalendar yX8_readCalendar ∈ gT := tp_of 42 (by decide +kernel) (by decide +kernel)
abbrev M_X8_number : mM := (yX8_number, cX8_number, 6, (some .int))
theorem co_X8_number : Cond.code yX8_number cX8_number 6 (some .int) ∈ gT := tb_of 747 (by decide +kernel) (by decide +kernel)
theorem im_X8_number : Cond.instanceMethod yX8_number ∈ gT := tb_of 746 (by decide +kernel) (by decide +kernel)
theorem se_X8_number : Cond.selects yX8_number.cls yX8_number yX8_number ∈ gT := tp_of 43 (by decide +kernel) (by decide +kernel)
abbrev M_X8_digit : mM := (yX8_digit, cX8_digit, 4, (some .int))
theorem co_X8_digit : Cond.code yX8_digit cX8_digit 4 (some .int) ∈ gT := tb_of 751 (by decide +kernel) (by decide +kernel)
theorem im_X8_digit : Cond.instanceMethod yX8_digit ∈ gT := tb_of 750 (by decide +kernel) (by decide +kernel)
theorem se_X8_digit : Cond.selects yX8_digit.cls yX8_digit yX8_digit ∈ gT := tp_of 44 (by decide +kernel) (by decide +kernel)
abbrev M_X8_readBill : mM := (yX8_readBill, cX8_readBill, 5, (some .boolean))
theorem co_X8_readBill : Cond.code yX8_readBill cX8_readBill 5 (some .boolean) ∈ gT := tb_of 755 (by decide +kernel) (by decide +kernel)
theorem im_X8_readBill : Cond.instanceMethod yX8_readBill ∈ gT := tb_of 754 (by decide +kernel) (by decide +kernel)
theorem se_X8_readBill : Cond.selects yX8_readBill.cls yX8_readBill yX8_readBill ∈ gT := tp_of 45 (by decide +kernel) (by decide +kernel)
abbrev M_X8_ofBill : mM := (yX8_ofBill, cX8_ofBill, 3, (some .int))
theorem co_X8_ofBill : Cond.code yX8_ofBill cX8_ofBill 3 (some .int) ∈ gT := tb_of 759 (by decide +kernel) (by decide +kernel)
theorem im_X8_ofBill : Cond.instanceMethod yX8_ofBill ∈ gT := tb_of 757 (by decide +kernel) (by decide +kernel)
theorem se_X8_ofBill : Cond.selects yX8_ofBill.cls yX8_ofBill yX8_ofBill ∈ gT := tb_of 758 (by decide +kernel) (by decide +kernel)
abbrev M_X8_isBill : mM := (yX8_isBill, cX8_isBill, 2, (some .boolean))
theorem co_X8_isBill : Cond.code yX8_isBill cX8_isBill 2 (some .boolean) ∈ gT := tb_of 763 (by decide +kernel) (by decide +kernel)
theorem im_X8_isBill : Cond.instanceMethod yX8_isBill ∈ gT := tb_of 762 (by decide +kernel) (by decide +kernel)
theorem se_X8_isBill : Cond.selects yX8_isBill.cls yX8_isBill yX8_isBill ∈ gT := tp_of 46 (by decide +kernel) (by decide +kernel)
abbrev M_X8_moon : mM := (yX8_moon, cX8_moon, 2, (some .int))
theorem co_X8_moon : Cond.code yX8_moon cX8_moon 2 (some .int) ∈ gT := tb_of 767 (by decide +kernel) (by decide +kernel)
theorem im_X8_moon : Cond.instanceMethod yX8_moon ∈ gT := tb_of 765 (by decide +kernel) (by decide +kernel)
theorem se_X8_moon : Cond.selects yX8_moon.cls yX8_moon yX8_moon ∈ gT := tb_of 766 (by decide +kernel) (by decide +kernel)
abbrev M_X8_moonDay : mM := (yX8_moonDay, cX8_moonDay, 2, (some .int))
theorem co_X8_moonDay : Cond.code yX8_moonDay cX8_moonDay 2 (some .int) ∈ gT := tb_of 771 (by decide +kernel) (by decide +kernel)
theorem im_X8_moonDay : Cond.instanceMethod yX8_moonDay ∈ gT := tb_of 770 (by decide +kernel) (by decide +kernel)
theorem se_X8_moonDay : Cond.selects yX8_moonDay.cls yX8_moonDay yX8_moonDay ∈ gT := tp_of 47 (by decide +kernel) (by decide +kernel)
abbrev M_X8_span : mM := (yX8_span, cX8_span, 3, (some .int))
theorem co_X8_span : Cond.code yX8_span cX8_span 3 (some .int) ∈ gT := tb_of 775 (by decide +kernel) (by decide +kernel)
theorem im_X8_span : Cond.instanceMethod yX8_span ∈ gT := tb_of 773 (by decide +kernel) (by decide +kernel)
theorem se_X8_span : Cond.selects yX8_span.cls yX8_span yX8_span ∈ gT := tb_of 774 (by decide +kernel) (by decide +kernel)
abbrev M_X8_move : mM := (yX8_move, cX8_move, 4, (some .int))
theorem co_X8_move : Cond.code yX8_move cX8_move 4 (some .int) ∈ gT := tb_of 779 (by decide +kernel) (by decide +kernel)
theorem im_X8_move : Cond.instanceMethod yX8_move ∈ gT := tb_of 777 (by decide +kernel) (by decide +kernel)
theorem se_X8_move : Cond.selects yX8_move.cls yX8_move yX8_move ∈ gT := tb_of 778 (by decide +kernel) (by decide +kernel)
abbrev M_X8_cloud : mM := (yX8_cloud, cX8_cloud, 4, (some .int))
theorem co_X8_cloud : Cond.code yX8_cloud cX8_cloud 4 (some .int) ∈ gT := tb_of 783 (by decide +kernel) (by decide +kernel)
theorem im_X8_cloud : Cond.instanceMethod yX8_cloud ∈ gT := tb_of 781 (by decide +kernel) (by decide +kernel)
theorem se_X8_cloud : Cond.selects yX8_cloud.cls yX8_cloud yX8_cloud ∈ gT := tb_of 782 (by decide +kernel) (by decide +kernel)
abbrev M_X8_isDay : mM := (yX8_isDay, cX8_isDay, 1, (some .boolean))
theorem co_X8_isDay : Cond.code yX8_isDay cX8_isDay 1 (some .boolean) ∈ gT := tb_of 786 (by decide +kernel) (by decide +kernel)
theorem st_X8_isDay : Cond.static yX8_isDay ∈ gT := tb_of 785 (by decide +kernel) (by decide +kernel)
abbrev M_X8_struck : mM := (yX8_struck, cX8_struck, 2, (some .int))
theorem co_X8_struck : Cond.code yX8_struck cX8_struck 2 (some .int) ∈ gT := tb_of 790 (by decide +kernel) (by decide +kernel)
theorem im_X8_struck : Cond.instanceMethod yX8_struck ∈ gT := tb_of 788 (by decide +kernel) (by decide +kernel)
theorem se_X8_struck : Cond.selects yX8_struck.cls yX8_struck yX8_struck ∈ gT := tb_of 789 (by decide +kernel) (by decide +kernel)
abbrev M_X8_struckOn : mM := (yX8_struckOn, cX8_struckOn, 3, (some .int))
theorem co_X8_struckOn : Cond.code yX8_struckOn cX8_struckOn 3 (some .int) ∈ gT := tb_of 794 (by decide +kernel) (by decide +kernel)
theorem im_X8_struckOn : Cond.instanceMethod yX8_struckOn ∈ gT := tb_of 793 (by decide +kernel) (by decide +kernel)
theorem se_X8_struckOn : Cond.selects yX8_struckOn.cls yX8_struckOn yX8_struckOn ∈ gT := tp_of 48 (by decide +kernel) (by decide +kernel)
abbrev M_X8_isDark : mM := (yX8_isDark, cX8_isDark, 2, (some .boolean))
theorem co_X8_isDark : Cond.code yX8_isDark cX8_isDark 2 (some .boolean) ∈ gT := tb_of 798 (by decide +kernel) (by decide +kernel)
theorem im_X8_isDark : Cond.instanceMethod yX8_isDark ∈ gT := tb_of 797 (by decide +kernel) (by decide +kernel)
theorem se_X8_isDark : Cond.selects yX8_isDark.cls yX8_isDark yX8_isDark ∈ gT := tp_of 49 (by decide +kernel) (by decide +kernel)
abbrev M_X8_passing : mM := (yX8_passing, cX8_passing, 3, (some .int))
theorem co_X8_passing : Cond.code yX8_passing cX8_passing 3 (some .int) ∈ gT := tb_of 802 (by decide +kernel) (by decide +kernel)
theorem im_X8_passing : Cond.instanceMethod yX8_passing ∈ gT := tb_of 800 (by decide +kernel) (by decide +kernel)
theorem se_X8_passing : Cond.selects yX8_passing.cls yX8_passing yX8_passing ∈ gT := tb_of 801 (by decide +kernel) (by decide +kernel)
abbrev M_X8_layPassing : mM := (yX8_layPassing, cX8_layPassing, 4, none)
theorem co_X8_layPassing : Cond.code yX8_layPassing cX8_layPassing 4 none ∈ gT := tb_of 806 (by decide +kernel) (by decide +kernel)
theorem im_X8_layPassing : Cond.instanceMethod yX8_layPassing ∈ gT := tb_of 805 (by decide +kernel) (by decide +kernel)
theorem se_X8_layPassing : Cond.selects yX8_layPassing.cls yX8_layPassing yX8_layPassing ∈ gT := tp_of 50 (by decide +kernel) (by decide +kernel)
abbrev M_X8_layOrder : mM := (yX8_layOrder, cX8_layOrder, 3, none)
theorem co_X8_layOrder : Cond.code yX8_layOrder cX8_layOrder 3 none ∈ gT := tb_of 810 (by decide +kernel) (by decide +kernel)
theorem im_X8_layOrder : Cond.instanceMethod yX8_layOrder ∈ gT := tb_of 809 (by decide +kernel) (by decide +kernel)
theorem se_X8_layOrder : Cond.selects yX8_layOrder.cls yX8_layOrder yX8_layOrder ∈ gT := tp_of 51 (by decide +kernel) (by decide +kernel)
abbrev M_X8_layForce : mM := (yX8_layForce, cX8_layForce, 5, none)
theorem co_X8_layForce : Cond.code yX8_layForce cX8_layForce 5 none ∈ gT := tb_of 814 (by decide +kernel) (by decide +kernel)
theorem im_X8_layForce : Cond.instanceMethod yX8_layForce ∈ gT := tb_of 813 (by decide +kernel) (by decide +kernel)
theorem se_X8_layForce : Cond.selects yX8_layForce.cls yX8_layForce yX8_layForce ∈ gT := tp_of 52 (by decide +kernel) (by decide +kernel)
abbrev M_X8_isOn : mM := (yX8_isOn, cX8_isOn, 4, (some .boolean))
theorem co_X8_isOn : Cond.code yX8_isOn cX8_isOn 4 (some .boolean) ∈ gT := tb_of 818 (by decide +kernel) (by decide +kernel)
theorem im_X8_isOn : Cond.instanceMethod yX8_isOn ∈ gT := tb_of 817 (by decide +kernel) (by decide +kernel)
theorem se_X8_isOn : Cond.selects yX8_isOn.cls yX8_isOn yX8_isOn ∈ gT := tp_of 53 (by decide +kernel) (by decide +kernel)
abbrev M_X8_force : mM := (yX8_force, cX8_force, 2, (some .int))
theorem co_X8_force : Cond.code yX8_force cX8_force 2 (some .int) ∈ gT := tb_of 822 (by decide +kernel) (by decide +kernel)
theorem im_X8_force : Cond.instanceMethod yX8_force ∈ gT := tb_of 820 (by decide +kernel) (by decide +kernel)
theorem se_X8_force : Cond.selects yX8_force.cls yX8_force yX8_force ∈ gT := tb_of 821 (by decide +kernel) (by decide +kernel)
abbrev M_X8_forceOn : mM := (yX8_forceOn, cX8_forceOn, 2, (some .int))
theorem co_X8_forceOn : Cond.code yX8_forceOn cX8_forceOn 2 (some .int) ∈ gT := tb_of 826 (by decide +kernel) (by decide +kernel)
theorem im_X8_forceOn : Cond.instanceMethod yX8_forceOn ∈ gT := tb_of 825 (by decide +kernel) (by decide +kernel)
theorem se_X8_forceOn : Cond.selects yX8_forceOn.cls yX8_forceOn yX8_forceOn ∈ gT := tp_of 54 (by decide +kernel) (by decide +kernel)
abbrev M_X8_forceNow : mM := (yX8_forceNow, cX8_forceNow, 4, (some .int))
theorem co_X8_forceNow : Cond.code yX8_forceNow cX8_forceNow 4 (some .int) ∈ gT := tb_of 830 (by decide +kernel) (by decide +kernel)
theorem im_X8_forceNow : Cond.instanceMethod yX8_forceNow ∈ gT := tb_of 829 (by decide +kernel) (by decide +kernel)
theorem se_X8_forceNow : Cond.selects yX8_forceNow.cls yX8_forceNow yX8_forceNow ∈ gT := tp_of 55 (by decide +kernel) (by decide +kernel)
abbrev M_X8_holds : mM := (yX8_holds, cX8_holds, 2, (some .int))
theorem co_X8_holds : Cond.code yX8_holds cX8_holds 2 (some .int) ∈ gT := tb_of 834 (by decide +kernel) (by decide +kernel)
theorem im_X8_holds : Cond.instanceMethod yX8_holds ∈ gT := tb_of 832 (by decide +kernel) (by decide +kernel)
theorem se_X8_holds : Cond.selects yX8_holds.cls yX8_holds yX8_holds ∈ gT := tb_of 833 (by decide +kernel) (by decide +kernel)
abbrev M_X8_holdsNow : mM := (yX8_holdsNow, cX8_holdsNow, 4, (some .int))
theorem co_X8_holdsNow : Cond.code yX8_holdsNow cX8_holdsNow 4 (some .int) ∈ gT := tb_of 838 (by decide +kernel) (by decide +kernel)
theorem im_X8_holdsNow : Cond.instanceMethod yX8_holdsNow ∈ gT := tb_of 837 (by decide +kernel) (by decide +kernel)
theorem se_X8_holdsNow : Cond.selects yX8_holdsNow.cls yX8_holdsNow yX8_holdsNow ∈ gT := tp_of 56 (by decide +kernel) (by decide +kernel)
abbrev M_X8_chronicle : mM := (yX8_chronicle, cX8_chronicle, 7, (some .int))
theorem co_X8_chronicle : Cond.code yX8_chronicle cX8_chronicle 7 (some .int) ∈ gT := tb_of 842 (by decide +kernel) (by decide +kernel)
theorem im_X8_chronicle : Cond.instanceMethod yX8_chronicle ∈ gT := tb_of 840 (by decide +kernel) (by decide +kernel)
theorem se_X8_chronicle : Cond.selects yX8_chronicle.cls yX8_chronicle yX8_chronicle ∈ gT := tb_of 841 (by decide +kernel) (by decide +kernel)
abbrev M_X8_buy : mM := (yX8_buy, cX8_buy, 7, (some .int))
theorem co_X8_buy : Cond.code yX8_buy cX8_buy 7 (some .int) ∈ gT := tb_of 846 (by decide +kernel) (by decide +kernel)
theorem im_X8_buy : Cond.instanceMethod yX8_buy ∈ gT := tb_of 844 (by decide +kernel) (by decide +kernel)
theorem se_X8_buy : Cond.selects yX8_buy.cls yX8_buy yX8_buy ∈ gT := tb_of 845 (by decide +kernel) (by decide +kernel)
abbrev M_X8_darkMoons : mM := (yX8_darkMoons, cX8_darkMoons, 3, (some .int))
theorem co_X8_darkMoons : Cond.code yX8_darkMoons cX8_darkMoons 3 (some .int) ∈ gT := tb_of 850 (by decide +kernel) (by decide +kernel)
theorem im_X8_darkMoons : Cond.instanceMethod yX8_darkMoons ∈ gT := tb_of 849 (by decide +kernel) (by decide +kernel)
theorem se_X8_darkMoons : Cond.selects yX8_darkMoons.cls yX8_darkMoons yX8_darkMoons ∈ gT := tp_of 57 (by decide +kernel) (by decide +kernel)
abbrev M_X8_moons : mM := (yX8_moons, cX8_moons, 2, (some .int))
theorem co_X8_moons : Cond.code yX8_moons cX8_moons 2 (some .int) ∈ gT := tb_of 854 (by decide +kernel) (by decide +kernel)
theorem im_X8_moons : Cond.instanceMethod yX8_moons ∈ gT := tb_of 853 (by decide +kernel) (by decide +kernel)
theorem se_X8_moons : Cond.selects yX8_moons.cls yX8_moons yX8_moons ∈ gT := tp_of 58 (by decide +kernel) (by decide +kernel)
abbrev M_X8_size : mM := (yX8_size, cX8_size, 3, (some .int))
theorem co_X8_size : Cond.code yX8_size cX8_size 3 (some .int) ∈ gT := tb_of 857 (by decide +kernel) (by decide +kernel)
theorem st_X8_size : Cond.static yX8_size ∈ gT := tb_of 856 (by decide +kernel) (by decide +kernel)
abbrev M_X8_when : mM := (yX8_when, cX8_when, 6, (some .int))
theorem co_X8_when : Cond.code yX8_when cX8_when 6 (some .int) ∈ gT := tb_of 861 (by decide +kernel) (by decide +kernel)
theorem im_X8_when : Cond.instanceMethod yX8_when ∈ gT := tb_of 859 (by decide +kernel) (by decide +kernel)
theorem se_X8_when : Cond.selects yX8_when.cls yX8_when yX8_when ∈ gT := tb_of 860 (by decide +kernel) (by decide +kernel)
abbrev M_X8_longest : mM := (yX8_longest, cX8_longest, 8, (some .int))
theorem co_X8_longest : Cond.code yX8_longest cX8_longest 8 (some .int) ∈ gT := tb_of 865 (by decide +kernel) (by decide +kernel)
theorem im_X8_longest : Cond.instanceMethod yX8_longest ∈ gT := tb_of 863 (by decide +kernel) (by decide +kernel)
theorem se_X8_longest : Cond.selects yX8_longest.cls yX8_longest yX8_longest ∈ gT := tb_of 864 (by decide +kernel) (by decide +kernel)
abbrev M_X8_worth : mM := (yX8_worth, cX8_worth, 4, (some .int))
theorem co_X8_worth : Cond.code yX8_worth cX8_worth 4 (some .int) ∈ gT := tb_of 869 (by decide +kernel) (by decide +kernel)
theorem im_X8_worth : Cond.instanceMethod yX8_worth ∈ gT := tb_of 867 (by decide +kernel) (by decide +kernel)
theorem se_X8_worth : Cond.selects yX8_worth.cls yX8_worth yX8_worth ∈ gT := tb_of 868 (by decide +kernel) (by decide +kernel)
abbrev M_X8_othersHold : mM := (yX8_othersHold, cX8_othersHold, 4, (some .int))
theorem co_X8_othersHold : Cond.code yX8_othersHold cX8_othersHold 4 (some .int) ∈ gT := tb_of 873 (by decide +kernel) (by decide +kernel)
theorem im_X8_othersHold : Cond.instanceMethod yX8_othersHold ∈ gT := tb_of 872 (by decide +kernel) (by decide +kernel)
theorem se_X8_othersHold : Cond.selects yX8_othersHold.cls yX8_othersHold yX8_othersHold ∈ gT := tp_of 59 (by decide +kernel) (by decide +kernel)
abbrev M_X8_reading : mM := (yX8_reading, cX8_reading, 4, (some .int))
theorem co_X8_reading : Cond.code yX8_reading cX8_reading 4 (some .int) ∈ gT := tb_of 877 (by decide +kernel) (by decide +kernel)
theorem im_X8_reading : Cond.instanceMethod yX8_reading ∈ gT := tb_of 875 (by decide +kernel) (by decide +kernel)
theorem se_X8_reading : Cond.selects yX8_reading.cls yX8_reading yX8_reading ∈ gT := tb_of 876 (by decide +kernel) (by decide +kernel)
abbrev M_X8_back : mM := (yX8_back, cX8_back, 2, (some .int))
theorem co_X8_back : Cond.code yX8_back cX8_back 2 (some .int) ∈ gT := tb_of 881 (by decide +kernel) (by decide +kernel)
theorem im_X8_back : Cond.instanceMethod yX8_back ∈ gT := tb_of 879 (by decide +kernel) (by decide +kernel)
theorem se_X8_back : Cond.selects yX8_back.cls yX8_back yX8_back ∈ gT := tb_of 880 (by decide +kernel) (by decide +kernel)
abbrev M_X8_spans : mM := (yX8_spans, cX8_spans, 4, (some .int))
theorem co_X8_spans : Cond.code yX8_spans cX8_spans 4 (some .int) ∈ gT := tb_of 885 (by decide +kernel) (by decide +kernel)
theorem im_X8_spans : Cond.instanceMethod yX8_spans ∈ gT := tb_of 883 (by decide +kernel) (by decide +kernel)
theorem se_X8_spans : Cond.selects yX8_spans.cls yX8_spans yX8_spans ∈ gT := tb_of 884 (by decide +kernel) (by decide +kernel)
abbrev M_X8_areSo : mM := (yX8_areSo, cX8_areSo, 2, (some .boolean))
theorem co_X8_areSo : Cond.code yX8_areSo cX8_areSo 2 (some .boolean) ∈ gT := tb_of 889 (by decide +kernel) (by decide +kernel)
theorem im_X8_areSo : Cond.instanceMethod yX8_areSo ∈ gT := tb_of 888 (by decide +kernel) (by decide +kernel)
theorem se_X8_areSo : Cond.selects yX8_areSo.cls yX8_areSo yX8_areSo ∈ gT := tp_of 60 (by decide +kernel) (by decide +kernel)
abbrev M_X8_origins : mM := (yX8_origins, cX8_origins, 4, (some .int))
theorem co_X8_origins : Cond.code yX8_origins cX8_origins 4 (some .int) ∈ gT := tb_of 893 (by decide +kernel) (by decide +kernel)
theorem im_X8_origins : Cond.instanceMethod yX8_origins ∈ gT := tb_of 891 (by decide +kernel) (by decide +kernel)
theorem se_X8_origins : Cond.selects yX8_origins.cls yX8_origins yX8_origins ∈ gT := tb_of 892 (by decide +kernel) (by decide +kernel)
abbrev M_X8_kinds : mM := (yX8_kinds, cX8_kinds, 5, (some .int))
theorem co_X8_kinds : Cond.code yX8_kinds cX8_kinds 5 (some .int) ∈ gT := tb_of 897 (by decide +kernel) (by decide +kernel)
theorem im_X8_kinds : Cond.instanceMethod yX8_kinds ∈ gT := tb_of 895 (by decide +kernel) (by decide +kernel)
theorem se_X8_kinds : Cond.selects yX8_kinds.cls yX8_kinds yX8_kinds ∈ gT := tb_of 896 (by decide +kernel) (by decide +kernel)
abbrev M_X8_moved : mM := (yX8_moved, cX8_moved, 7, (some .int))
theorem co_X8_moved : Cond.code yX8_moved cX8_moved 7 (some .int) ∈ gT := tb_of 901 (by decide +kernel) (by decide +kernel)
theorem im_X8_moved : Cond.instanceMethod yX8_moved ∈ gT := tb_of 899 (by decide +kernel) (by decide +kernel)
theorem se_X8_moved : Cond.selects yX8_moved.cls yX8_moved yX8_moved ∈ gT := tb_of 900 (by decide +kernel) (by decide +kernel)
abbrev M_X8_odds : mM := (yX8_odds, cX8_odds, 7, (some .long))
theorem co_X8_odds : Cond.code yX8_odds cX8_odds 7 (some .long) ∈ gT := tb_of 905 (by decide +kernel) (by decide +kernel)
theorem im_X8_odds : Cond.instanceMethod yX8_odds ∈ gT := tb_of 903 (by decide +kernel) (by decide +kernel)
theorem se_X8_odds : Cond.selects yX8_odds.cls yX8_odds yX8_odds ∈ gT := tb_of 904 (by decide +kernel) (by decide +kernel)
abbrev M_X8_inLeastTerms : mM := (yX8_inLeastTerms, cX8_inLeastTerms, 11, (some .long))
theorem co_X8_inLeastTerms : Cond.code yX8_inLeastTerms cX8_inLeastTerms 11 (some .long) ∈ gT := tb_of 909 (by decide +kernel) (by decide +kernel)
theorem st_X8_inLeastTerms : Cond.static yX8_inLeastTerms ∈ gT := tb_of 908 (by decide +kernel) (by decide +kernel)
abbrev M_X8_sheet : mM := (yX8_sheet, cX8_sheet, 5, (some .int))
theorem co_X8_sheet : Cond.code yX8_sheet cX8_sheet 5 (some .int) ∈ gT := tb_of 913 (by decide +kernel) (by decide +kernel)
theorem im_X8_sheet : Cond.instanceMethod yX8_sheet ∈ gT := tb_of 911 (by decide +kernel) (by decide +kernel)
theorem se_X8_sheet : Cond.selects yX8_sheet.cls yX8_sheet yX8_sheet ∈ gT := tb_of 912 (by decide +kernel) (by decide +kernel)
abbrev M_X8_lose : mM := (yX8_lose, cX8_lose, 3, (some .int))
theorem co_X8_lose : Cond.code yX8_lose cX8_lose 3 (some .int) ∈ gT := tb_of 917 (by decide +kernel) (by decide +kernel)
theorem im_X8_lose : Cond.instanceMethod yX8_lose ∈ gT := tb_of 915 (by decide +kernel) (by decide +kernel)
theorem se_X8_lose : Cond.selects yX8_lose.cls yX8_lose yX8_lose ∈ gT := tb_of 916 (by decide +kernel) (by decide +kernel)
abbrev M_X8_put : mM := (yX8_put, cX8_put, 4, (some .int))
theorem co_X8_put : Cond.code yX8_put cX8_put 4 (some .int) ∈ gT := tb_of 921 (by decide +kernel) (by decide +kernel)
theorem im_X8_put : Cond.instanceMethod yX8_put ∈ gT := tb_of 919 (by decide +kernel) (by decide +kernel)
theorem se_X8_put : Cond.selects yX8_put.cls yX8_put yX8_put ∈ gT := tb_of 920 (by decide +kernel) (by decide +kernel)
abbrev M_X8_cell : mM := (yX8_cell, cX8_cell, 4, (some .long))
theorem co_X8_cell : Cond.code yX8_cell cX8_cell 4 (some .long) ∈ gT := tb_of 925 (by decide +kernel) (by decide +kernel)
theorem im_X8_cell : Cond.instanceMethod yX8_cell ∈ gT := tb_of 923 (by decide +kernel) (by decide +kernel)
theorem se_X8_cell : Cond.selects yX8_cell.cls yX8_cell yX8_cell ∈ gT := tb_of 924 (by decide +kernel) (by decide +kernel)
abbrev M_X8_lost : mM := (yX8_lost, cX8_lost, 2, (some .long))
theorem co_X8_lost : Cond.code yX8_lost cX8_lost 2 (some .long) ∈ gT := tb_of 929 (by decide +kernel) (by decide +kernel)
theorem im_X8_lost : Cond.instanceMethod yX8_lost ∈ gT := tb_of 928 (by decide +kernel) (by decide +kernel)
theorem se_X8_lost : Cond.selects yX8_lost.cls yX8_lost yX8_lost ∈ gT := tp_of 61 (by decide +kernel) (by decide +kernel)
abbrev M_X8_copy : mM := (yX8_copy, cX8_copy, 10, (some .int))
theorem co_X8_copy : Cond.code yX8_copy cX8_copy 10 (some .int) ∈ gT := tb_of 933 (by decide +kernel) (by decide +kernel)
theorem im_X8_copy : Cond.instanceMethod yX8_copy ∈ gT := tb_of 931 (by decide +kernel) (by decide +kernel)
theorem se_X8_copy : Cond.selects yX8_copy.cls yX8_copy yX8_copy ∈ gT := tb_of 932 (by decide +kernel) (by decide +kernel)
abbrev M_X8_tell : mM := (yX8_tell, cX8_tell, 3, (some .int))
theorem co_X8_tell : Cond.code yX8_tell cX8_tell 3 (some .int) ∈ gT := tb_of 937 (by decide +kernel) (by decide +kernel)
theorem im_X8_tell : Cond.instanceMethod yX8_tell ∈ gT := tb_of 935 (by decide +kernel) (by decide +kernel)
theorem se_X8_tell : Cond.selects yX8_tell.cls yX8_tell yX8_tell ∈ gT := tb_of 936 (by decide +kernel) (by decide +kernel)
abbrev M_X8_begins : mM := (yX8_begins, cX8_begins, 2, none)
theorem co_X8_begins : Cond.code yX8_begins cX8_begins 2 none ∈ gT := tb_of 941 (by decide +kernel) (by decide +kernel)
theorem im_X8_begins : Cond.instanceMethod yX8_begins ∈ gT := tb_of 940 (by decide +kernel) (by decide +kernel)
theorem se_X8_begins : Cond.selects yX8_begins.cls yX8_begins yX8_begins ∈ gT := tp_of 62 (by decide +kernel) (by decide +kernel)
abbrev M_X8_seal : mM := (yX8_seal, cX8_seal, 2, (some .int))
theorem co_X8_seal : Cond.code yX8_seal cX8_seal 2 (some .int) ∈ gT := tb_of 945 (by decide +kernel) (by decide +kernel)
theorem im_X8_seal : Cond.instanceMethod yX8_seal ∈ gT := tb_of 943 (by decide +kernel) (by decide +kernel)
theorem se_X8_seal : Cond.selects yX8_seal.cls yX8_seal yX8_seal ∈ gT := tb_of 944 (by decide +kernel) (by decide +kernel)
abbrev M_X8_as : mM := (yX8_as, cX8_as, 3, (some .int))
theorem co_X8_as : Cond.code yX8_as cX8_as 3 (some .int) ∈ gT := tb_of 949 (by decide +kernel) (by decide +kernel)
theorem im_X8_as : Cond.instanceMethod yX8_as ∈ gT := tb_of 947 (by decide +kernel) (by decide +kernel)
theorem se_X8_as : Cond.selects yX8_as.cls yX8_as yX8_as ∈ gT := tb_of 948 (by decide +kernel) (by decide +kernel)
abbrev M_X8_trace : mM := (yX8_trace, cX8_trace, 1, (some .int))
theorem co_X8_trace : Cond.code yX8_trace cX8_trace 1 (some .int) ∈ gT := tb_of 953 (by decide +kernel) (by decide +kernel)
theorem im_X8_trace : Cond.instanceMethod yX8_trace ∈ gT := tb_of 951 (by decide +kernel) (by decide +kernel)
theorem se_X8_trace : Cond.selects yX8_trace.cls yX8_trace yX8_trace ∈ gT := tb_of 952 (by decide +kernel) (by decide +kernel)
abbrev M_X8_fault : mM := (yX8_fault, cX8_fault, 1, (some .int))
theorem co_X8_fault : Cond.code yX8_fault cX8_fault 1 (some .int) ∈ gT := tb_of 957 (by decide +kernel) (by decide +kernel)
theorem im_X8_fault : Cond.instanceMethod yX8_fault ∈ gT := tb_of 955 (by decide +kernel) (by decide +kernel)
theorem se_X8_fault : Cond.selects yX8_fault.cls yX8_fault yX8_fault ∈ gT := tb_of 956 (by decide +kernel) (by decide +kernel)
abbrev M_X8_many : mM := (yX8_many, cX8_many, 2, (some .int))
theorem co_X8_many : Cond.code yX8_many cX8_many 2 (some .int) ∈ gT := tb_of 961 (by decide +kernel) (by decide +kernel)
theorem im_X8_many : Cond.instanceMethod yX8_many ∈ gT := tb_of 959 (by decide +kernel) (by decide +kernel)
theorem se_X8_many : Cond.selects yX8_many.cls yX8_many yX8_many ∈ gT := tb_of 960 (by decide +kernel) (by decide +kernel)
theorem ini_RL : Cond.initialized RL ∈ gT := tb_of 0 (by decide +kernel) (by decide +kernel)
theorem ini_RX7 : Cond.initialized RX7 ∈ gT := tb_of 1 (by decide +kernel) (by decide +kernel)
theorem ini_RX1 : Cond.initialized RX1 ∈ gT := tb_of 2 (by decide +kernel) (by decide +kernel)
theorem ini_RX4 : Cond.initialized RX4 ∈ gT := tb_of 3 (by decide +kernel) (by decide +kernel)
theorem ini_RX0 : Cond.initialized RX0 ∈ gT := tb_of 4 (by decide +kernel) (by decide +kernel)
theorem ini_RX2 : Cond.initialized RX2 ∈ gT := tb_of 5 (by decide +kernel) (by decide +kernel)
theorem ini_RX3 : Cond.initialized RX3 ∈ gT := tb_of 6 (by decide +kernel) (by decide +kernel)
theorem ini_RX8 : Cond.initialized RX8 ∈ gT := tb_of 7 (by decide +kernel) (by decide +kernel)
theorem ini_RX5 : Cond.initialized RX5 ∈ gT := tb_of 8 (by decide +kernel) (by decide +kernel)
theorem ini_RJ0 : Cond.initialized RJ0 ∈ gT := tb_of 9 (by decide +kernel) (by decide +kernel)
theorem ini_RJ1 : Cond.initialized RJ1 ∈ gT := tb_of 10 (by decide +kernel) (by decide +kernel)
theorem ini_RJ3 : Cond.initialized RJ3 ∈ gT := tb_of 11 (by decide +kernel) (by decide +kernel)
theorem ini_RJ2 : Cond.initialized RJ2 ∈ gT := tb_of 12 (by decide +kernel) (by decide +kernel)
theorem ini_RJ9 : Cond.initialized RJ9 ∈ gT := tb_of 13 (by decide +kernel) (by decide +kernel)
theorem ini_RJ6 : Cond.initialized RJ6 ∈ gT := tb_of 14 (by decide +kernel) (by decide +kernel)
theorem ini_RJ13 : Cond.initialized RJ13 ∈ gT := tb_of 15 (by decide +kernel) (by decide +kernel)
theorem ini_RX6 : Cond.initialized RX6 ∈ gT := tb_of 16 (by decide +kernel) (by decide +kernel)
theorem ini_RJ10 : Cond.initialized RJ10 ∈ gT := tb_of 17 (by decide +kernel) (by decide +kernel)
theorem lm_RL_13 : mLv RL 13 M_X7_council 4 := ⟨Or.inl (tb_of 178 (by decide +kernel) (by decide +kernel)), im_X7_council, se_X7_council, ini_RX7, co_X7_council, ⟨by decide +kernel, by decide +kernel, by decide +kernel⟩, by decide⟩
theorem lm_RX7_36 : mLs RX7 36 M_X7_noSheet 1 := ⟨Or.inl (tb_of 182 (by decide +kernel) (by decide +kernel)), st_X7_noSheet, ini_RX7, co_X7_noSheet, ⟨by decide +kernel, by decide +kernel, by decide +kernel⟩, by decide⟩
theorem lm_RX7_40 : mLs RX7 40 M_X7_within 2 := ⟨Or.inl (tb_of 185 (by decide +kernel) (by decide +kernel)), st_X7_within, ini_RX7, co_X7_within, ⟨by decide +kernel, by decide +kernel, by decide +kernel⟩, by decide⟩
theorem lm_RX3_30 : mLv RX3 30 M_X3_faultOfLane 1 := ⟨Or.inl (tb_of 192 (by decide +kernel) (by decide +kernel)), im_X3_faultOfLane, se_X3_faultOfLane, ini_RX3, co_X3_faultOfLane, ⟨by decide +kernel, by decide +kernel, by decide +kernel⟩, by decide⟩
theorem lm_RX3_26 : mLv RX3 26 M_X3_isNothing 0 := ⟨Or.inl (tb_of 196 (by decide +kernel) (by decide +kernel)), im_X3_isNothing, se_X3_isNothing, ini_RX3, co_X3_isNothing, ⟨by decide +kernel, by decide +kernel, by decide +kernel⟩, by decide⟩
theorem lm_RX3_34 : mLv RX3 34 M_X3_hasAll 2 := ⟨Or.inl (tb_of 200 (by decide +kernel) (by decide +kernel)), im_X3_hasAll, se_X3_hasAll, ini_RX3, co_X3_hasAll, ⟨by decide +kernel, by decide +kernel, by decide +kernel⟩, by decide⟩
theorem lm_RX7_48 : mLv RX7 48 M_X7_failed 1 := ⟨Or.inl (tb_of 205 (by decide +kernel) (by decide +kernel)), im_X7_failed, se_X7_failed, ini_RX7, co_X7_failed, ⟨by decide +kernel, by decide +kernel, by decide +kernel⟩, by decide⟩
theorem lm_RX5_15 : mLs RX5 15 M_X5_fits 3 := ⟨Or.inl (tb_of 212 (by decide +kernel) (by decide +kernel)), st_X5_fits, ini_RX5, co_X5_fits, ⟨by decide +kernel, by decide +kernel, by decide +kernel⟩, by decide⟩
theorem lm_RX5_21 : mLs RX5 21 M_X5_kindOf 1 := ⟨Or.inl (tb_of 215 (by decide +kernel) (by decide +kernel)), st_X5_kindOf, ini_RX5, co_X5_kindOf, ⟨by decide +kernel, by decide +kernel, by decide +kernel⟩, by decide⟩
theorem lm_RX5_27 : mLv RX5 27 M_J0_charAt_5068e 1 := ⟨Or.inl (tb_of 219 (by decide +kernel) (by decide +kernel)), im_J0_charAt_5068e, se_J0_charAt_5068e, ini_RJ0, co_J0_charAt_5068e, ⟨by decide +kernel, by decide +kernel, by decide +kernel⟩, by decide⟩
theorem lm_RJ0_492 : mLv RJ0 492 M_J0_isLatin1_aae02 0 := ⟨Or.inl (tb_of 223 (by decide +kernel) (by decide +kernel)), im_J0_isLatin1_aae02, se_J0_isLatin1_aae02, ini_RJ0, co_J0_isLatin1_aae02, ⟨by decide +kernel, by decide +kernel, by decide +kernel⟩, by decide⟩
theorem lm_RJ0_495 : mLs RJ0 495 M_J1_charAt_3b067 2 := ⟨Or.inl (tb_of 229 (by decide +kernel) (by decide +kernel)), st_J1_charAt_3b067, ini_RJ1, co_J1_charAt_3b067, ⟨by decide +kernel, by decide +kernel, by decide +kernel⟩, by decide⟩
theorem lm_RJ1_9 : mLs RJ1 9 M_J0_checkIndex_df160 2 := ⟨Or.inl (tb_of 232 (by decide +kernel) (by decide +kernel)), st_J0_checkIndex_df160, ini_RJ0, co_J0_checkIndex_df160, ⟨by decide +kernel, by decide +kernel, by decide +kernel⟩, by decide⟩
theorem lm_RJ0_1059 : mLs RJ0 1059 M_J3_checkIndex_8e157 3 := ⟨Or.inl (tb_of 237 (by decide +kernel) (by decide +kernel)), st_J3_checkIndex_8e157, ini_RJ3, co_J3_checkIndex_8e157, ⟨by decide +kernel, by decide +kernel, by decide +kernel⟩, by decide⟩
theorem lm_RJ0_498 : mLs RJ0 498 M_J2_charAt_3b067 2 := ⟨Or.inl (tb_of 240 (by decide +kernel) (by decide +kernel)), st_J2_charAt_3b067, ini_RJ2, co_J2_charAt_3b067, ⟨by decide +kernel, by decide +kernel, by decide +kernel⟩, by decide⟩
theorem lm_RJ2_67 : mLs RJ2 67 M_J2_checkIndex_2214a 2 := ⟨Or.inl (tb_of 243 (by decide +kernel) (by decide +kernel)), st_J2_checkIndex_2214a, ini_RJ2, co_J2_checkIndex_2214a, ⟨by decide +kernel, by decide +kernel, by decide +kernel⟩, by decide⟩
theorem lm_RJ2_48 : mLs RJ2 48 M_J2_length_9d52b 1 := ⟨Or.inl (tb_of 246 (by decide +kernel) (by decide +kernel)), st_J2_length_9d52b, ini_RJ2, co_J2_length_9d52b, ⟨by decide +kernel, by decide +kernel, by decide +kernel⟩, by decide⟩
theorem lm_RJ2_414 : mLs RJ2 414 M_J0_checkIndex_df160 2 := ⟨Or.inl (tb_of 249 (by decide +kernel) (by decide +kernel)), st_J0_checkIndex_df160, ini_RJ0, co_J0_checkIndex_df160, ⟨by decide +kernel, by decide +kernel, by decide +kernel⟩, by decide⟩
theorem lm_RJ2_71 : mLs RJ2 71 M_J2_getChar_3b067 2 := ⟨Or.inl (tb_of 250 (by decide +kernel) (by decide +kernel)), st_J2_getChar_3b067, ini_RJ2, co_J2_getChar_3b067, ⟨by decide +kernel, by decide +kernel, by decide +kernel⟩, by decide⟩
theorem lm_RX5_39 : mLs RX5 39 M_X5_digit 2 := ⟨Or.inl (tb_of 271 (by decide +kernel) (by decide +kernel)), st_X5_digit, ini_RX5, co_X5_digit, ⟨by decide +kernel, by decide +kernel, by decide +kernel⟩, by decide⟩
theorem lm_RX1_39 : mLs RX1 39 M_J9_min_7cf53 2 := ⟨Or.inl (tb_of 280 (by decide +kernel) (by decide +kernel)), st_J9_min_7cf53, ini_RJ9, co_J9_min_7cf53, ⟨by decide +kernel, by decide +kernel, by decide +kernel⟩, by decide⟩
theorem lm_RL_18 : mLv RL 18 M_X7_ofBill 2 := ⟨Or.inl (tb_of 292 (by decide +kernel) (by decide +kernel)), im_X7_ofBill, se_X7_ofBill, ini_RX7, co_X7_ofBill, ⟨by decide +kernel, by decide +kernel, by decide +kernel⟩, by decide⟩
theorem lm_RX7_66 : mLv RX7 66 M_X7_noBill 1 := ⟨Or.inl (tb_of 296 (by decide +kernel) (by decide +kernel)), im_X7_noBill, se_X7_noBill, ini_RX7, co_X7_noBill, ⟨by decide +kernel, by decide +kernel, by decide +kernel⟩, by decide⟩
theorem lm_RL_23 : mLv RL 23 M_X7_moon 1 := ⟨Or.inl (tb_of 300 (by decide +kernel) (by decide +kernel)), im_X7_moon, se_X7_moon, ini_RX7, co_X7_moon, ⟨by decide +kernel, by decide +kernel, by decide +kernel⟩, by decide⟩
theorem lm_RX7_90 : mLv RX7 90 M_X7_noCouncil 0 := ⟨Or.inl (tb_of 304 (by decide +kernel) (by decide +kernel)), im_X7_noCouncil, se_X7_noCouncil, ini_RX7, co_X7_noCouncil, ⟨by decide +kernel, by decide +kernel, by decide +kernel⟩, by decide⟩
theorem lm_RL_28 : mLv RL 28 M_X7_span 1 := ⟨Or.inl (tb_of 312 (by decide +kernel) (by decide +kernel)), im_X7_span, se_X7_span, ini_RX7, co_X7_span, ⟨by decide +kernel, by decide +kernel, by decide +kernel⟩, by decide⟩
theorem lm_RL_32 : mLv RL 32 M_X7_move 2 := ⟨Or.inl (tb_of 316 (by decide +kernel) (by decide +kernel)), im_X7_move, se_X7_move, ini_RX7, co_X7_move, ⟨by decide +kernel, by decide +kernel, by decide +kernel⟩, by decide⟩
theorem lm_RL_36 : mLv RL 36 M_X7_cloud 2 := ⟨Or.inl (tb_of 320 (by decide +kernel) (by decide +kernel)), im_X7_cloud, se_X7_cloud, ini_RX7, co_X7_cloud, ⟨by decide +kernel, by decide +kernel, by decide +kernel⟩, by decide⟩
theorem lm_RL_41 : mLv RL 41 M_X7_struck 1 := ⟨Or.inl (tb_of 328 (by decide +kernel) (by decide +kernel)), im_X7_struck, se_X7_struck, ini_RX7, co_X7_struck, ⟨by decide +kernel, by decide +kernel, by decide +kernel⟩, by decide⟩
theorem lm_RX1_49 : mLv RX1 49 M_X1_watchAll 0 := ⟨Or.inl (tb_of 336 (by decide +kernel) (by decide +kernel)), im_X1_watchAll, se_X1_watchAll, ini_RX1, co_X1_watchAll, ⟨by decide +kernel, by decide +kernel, by decide +kernel⟩, by decide⟩
theorem lm_RX4_37 : mLv RX4 37 M_X4_dayOfMoon 1 := ⟨Or.inl (tb_of 344 (by decide +kernel) (by decide +kernel)), im_X4_dayOfMoon, se_X4_dayOfMoon, ini_RX4, co_X4_dayOfMoon, ⟨by decide +kernel, by decide +kernel, by decide +kernel⟩, by decide⟩
theorem lm_RX1_56 : mLv RX1 56 M_X1_pass 2 := ⟨Or.inl (tb_of 349 (by decide +kernel) (by decide +kernel)), im_X1_pass, se_X1_pass, ini_RX1, co_X1_pass, ⟨by decide +kernel, by decide +kernel, by decide +kernel⟩, by decide⟩
theorem lm_RX1_72 : mLv RX1 72 M_X1_earliestBut 1 := ⟨Or.inl (tb_of 353 (by decide +kernel) (by decide +kernel)), im_X1_earliestBut, se_X1_earliestBut, ini_RX1, co_X1_earliestBut, ⟨by decide +kernel, by decide +kernel, by decide +kernel⟩, by decide⟩
theorem lm_RX1_79 : mLv RX1 79 M_X1_isInForce 2 := ⟨Or.inl (tb_of 357 (by decide +kernel) (by decide +kernel)), im_X1_isInForce, se_X1_isInForce, ini_RX1, co_X1_isInForce, ⟨by decide +kernel, by decide +kernel, by decide +kernel⟩, by decide⟩
theorem lm_RX1_96 : mLv RX1 96 M_X1_daysInForce 3 := ⟨Or.inl (tb_of 361 (by decide +kernel) (by decide +kernel)), im_X1_daysInForce, se_X1_daysInForce, ini_RX1, co_X1_daysInForce, ⟨by decide +kernel, by decide +kernel, by decide +kernel⟩, by decide⟩
theorem lm_RX0_50 : mLs RX0 50 M_J9_max_7cf53 2 := ⟨Or.inl (tb_of 369 (by decide +kernel) (by decide +kernel)), st_J9_max_7cf53, ini_RJ9, co_J9_max_7cf53, ⟨by decide +kernel, by decide +kernel, by decide +kernel⟩, by decide⟩
theorem lm_RX0_56 : mLs RX0 56 M_J9_min_7cf53 2 := ⟨Or.inl (tb_of 372 (by decide +kernel) (by decide +kernel)), st_J9_min_7cf53, ini_RJ9, co_J9_min_7cf53, ⟨by decide +kernel, by decide +kernel, by decide +kernel⟩, by decide⟩
theorem lm_RX1_93 : mLv RX1 93 M_X1_isLater 2 := ⟨Or.inl (tb_of 373 (by decide +kernel) (by decide +kernel)), im_X1_isLater, se_X1_isLater, ini_RX1, co_X1_isLater, ⟨by decide +kernel, by decide +kernel, by decide +kernel⟩, by decide⟩
theorem lm_RX7_120 : mLs RX7 120 M_J6_numberOfTrailingZeros_0f7a4 1 := ⟨Or.inl (tb_of 379 (by decide +kernel) (by decide +kernel)), st_J6_numberOfTrailingZeros_0f7a4, ini_RJ6, co_J6_numberOfTrailingZeros_0f7a4, ⟨by decide +kernel, by decide +kernel, by decide +kernel⟩, by decide⟩
theorem lm_RL_45 : mLv RL 45 M_X7_passing 0 := ⟨Or.inl (tb_of 383 (by decide +kernel) (by decide +kernel)), im_X7_passing, se_X7_passing, ini_RX7, co_X7_passing, ⟨by decide +kernel, by decide +kernel, by decide +kernel⟩, by decide⟩
theorem lm_RL_50 : mLv RL 50 M_X7_force 1 := ⟨Or.inl (tb_of 387 (by decide +kernel) (by decide +kernel)), im_X7_force, se_X7_force, ini_RX7, co_X7_force, ⟨by decide +kernel, by decide +kernel, by decide +kernel⟩, by decide⟩
theorem lm_RL_54 : mLv RL 54 M_X7_holds 1 := ⟨Or.inl (tb_of 395 (by decide +kernel) (by decide +kernel)), im_X7_holds, se_X7_holds, ini_RX7, co_X7_holds, ⟨by decide +kernel, by decide +kernel, by decide +kernel⟩, by decide⟩
theorem lm_RX1_102 : mLs RX1 102 M_J13_bitCount_95d88 1 := ⟨Or.inl (tb_of 403 (by decide +kernel) (by decide +kernel)), st_J13_bitCount_95d88, ini_RJ13, co_J13_bitCount_95d88, ⟨by decide +kernel, by decide +kernel, by decide +kernel⟩, by decide⟩
theorem lm_RL_58 : mLv RL 58 M_X7_chronicle 4 := ⟨Or.inl (tb_of 409 (by decide +kernel) (by decide +kernel)), im_X7_chronicle, se_X7_chronicle, ini_RX7, co_X7_chronicle, ⟨by decide +kernel, by decide +kernel, by decide +kernel⟩, by decide⟩
theorem lm_RL_62 : mLv RL 62 M_X7_buy 2 := ⟨Or.inl (tb_of 413 (by decide +kernel) (by decide +kernel)), im_X7_buy, se_X7_buy, ini_RX7, co_X7_buy, ⟨by decide +kernel, by decide +kernel, by decide +kernel⟩, by decide⟩
theorem lm_RX6_27 : mLs RX6 27 M_J6_bitCount_0f7a4 1 := ⟨Or.inl (tb_of 426 (by decide +kernel) (by decide +kernel)), st_J6_bitCount_0f7a4, ini_RJ6, co_J6_bitCount_0f7a4, ⟨by decide +kernel, by decide +kernel, by decide +kernel⟩, by decide⟩
theorem lm_RL_66 : mLv RL 66 M_X7_when 2 := ⟨Or.inl (tb_of 434 (by decide +kernel) (by decide +kernel)), im_X7_when, se_X7_when, ini_RX7, co_X7_when, ⟨by decide +kernel, by decide +kernel, by decide +kernel⟩, by decide⟩
theorem lm_RL_70 : mLv RL 70 M_X7_longest 2 := ⟨Or.inl (tb_of 442 (by decide +kernel) (by decide +kernel)), im_X7_longest, se_X7_longest, ini_RX7, co_X7_longest, ⟨by decide +kernel, by decide +kernel, by decide +kernel⟩, by decide⟩
theorem lm_RL_74 : mLv RL 74 M_X7_worth 1 := ⟨Or.inl (tb_of 450 (by decide +kernel) (by decide +kernel)), im_X7_worth, se_X7_worth, ini_RX7, co_X7_worth, ⟨by decide +kernel, by decide +kernel, by decide +kernel⟩, by decide⟩
theorem lm_RX1_108 : mLv RX1 108 M_X1_daysHeld 1 := ⟨Or.inl (tb_of 461 (by decide +kernel) (by decide +kernel)), im_X1_daysHeld, se_X1_daysHeld, ini_RX1, co_X1_daysHeld, ⟨by decide +kernel, by decide +kernel, by decide +kernel⟩, by decide⟩
theorem lm_RL_78 : mLv RL 78 M_X7_reading 3 := ⟨Or.inl (tb_of 462 (by decide +kernel) (by decide +kernel)), im_X7_reading, se_X7_reading, ini_RX7, co_X7_reading, ⟨by decide +kernel, by decide +kernel, by decide +kernel⟩, by decide⟩
theorem lm_RL_83 : mLv RL 83 M_X7_back 1 := ⟨Or.inl (tb_of 470 (by decide +kernel) (by decide +kernel)), im_X7_back, se_X7_back, ini_RX7, co_X7_back, ⟨by decide +kernel, by decide +kernel, by decide +kernel⟩, by decide⟩
theorem lm_RL_87 : mLv RL 87 M_X7_spans 0 := ⟨Or.inl (tb_of 474 (by decide +kernel) (by decide +kernel)), im_X7_spans, se_X7_spans, ini_RX7, co_X7_spans, ⟨by decide +kernel, by decide +kernel, by decide +kernel⟩, by decide⟩
theorem lm_RL_91 : mLv RL 91 M_X7_origins 0 := ⟨Or.inl (tb_of 486 (by decide +kernel) (by decide +kernel)), im_X7_origins, se_X7_origins, ini_RX7, co_X7_origins, ⟨by decide +kernel, by decide +kernel, by decide +kernel⟩, by decide⟩
theorem lm_RL_95 : mLv RL 95 M_X7_kinds 1 := ⟨Or.inl (tb_of 493 (by decide +kernel) (by decide +kernel)), im_X7_kinds, se_X7_kinds, ini_RX7, co_X7_kinds, ⟨by decide +kernel, by decide +kernel, by decide +kernel⟩, by decide⟩
theorem lm_RL_99 : mLv RL 99 M_X7_moved 2 := ⟨Or.inl (tb_of 500 (by decide +kernel) (by decide +kernel)), im_X7_moved, se_X7_moved, ini_RX7, co_X7_moved, ⟨by decide +kernel, by decide +kernel, by decide +kernel⟩, by decide⟩
theorem lm_RL_103 : mLv RL 103 M_X7_odds 3 := ⟨Or.inl (tb_of 507 (by decide +kernel) (by decide +kernel)), im_X7_odds, se_X7_odds, ini_RX7, co_X7_odds, ⟨by decide +kernel, by decide +kernel, by decide +kernel⟩, by decide⟩
theorem lm_RL_108 : mLv RL 108 M_X7_sheet 3 := ⟨Or.inl (tb_of 515 (by decide +kernel) (by decide +kernel)), im_X7_sheet, se_X7_sheet, ini_RX7, co_X7_sheet, ⟨by decide +kernel, by decide +kernel, by decide +kernel⟩, by decide⟩
theorem lm_RL_113 : mLv RL 113 M_X7_lose 1 := ⟨Or.inl (tb_of 523 (by decide +kernel) (by decide +kernel)), im_X7_lose, se_X7_lose, ini_RX7, co_X7_lose, ⟨by decide +kernel, by decide +kernel, by decide +kernel⟩, by decide⟩
theorem lm_RL_117 : mLv RL 117 M_X7_put 3 := ⟨Or.inl (tb_of 532 (by decide +kernel) (by decide +kernel)), im_X7_put, se_X7_put, ini_RX7, co_X7_put, ⟨by decide +kernel, by decide +kernel, by decide +kernel⟩, by decide⟩
theorem lm_RL_121 : mLv RL 121 M_X7_cell 3 := ⟨Or.inl (tb_of 541 (by decide +kernel) (by decide +kernel)), im_X7_cell, se_X7_cell, ini_RX7, co_X7_cell, ⟨by decide +kernel, by decide +kernel, by decide +kernel⟩, by decide⟩
theorem lm_RL_125 : mLv RL 125 M_X7_copy 5 := ⟨Or.inl (tb_of 546 (by decide +kernel) (by decide +kernel)), im_X7_copy, se_X7_copy, ini_RX7, co_X7_copy, ⟨by decide +kernel, by decide +kernel, by decide +kernel⟩, by decide⟩
theorem lm_RL_130 : mLv RL 130 M_X7_tell 1 := ⟨Or.inl (tb_of 554 (by decide +kernel) (by decide +kernel)), im_X7_tell, se_X7_tell, ini_RX7, co_X7_tell, ⟨by decide +kernel, by decide +kernel, by decide +kernel⟩, by decide⟩
theorem lm_RX7_211 : mLv RX7 211 M_X7_sunsetBody 1 := ⟨Or.inl (tb_of 558 (by decide +kernel) (by decide +kernel)), im_X7_sunsetBody, se_X7_sunsetBody, ini_RX7, co_X7_sunsetBody, ⟨by decide +kernel, by decide +kernel, by decide +kernel⟩, by decide⟩
theorem lm_RX7_236 : mLv RX7 236 M_X7_leave 1 := ⟨Or.inl (tb_of 562 (by decide +kernel) (by decide +kernel)), im_X7_leave, se_X7_leave, ini_RX7, co_X7_leave, ⟨by decide +kernel, by decide +kernel, by decide +kernel⟩, by decide⟩
theorem lm_RX7_218 : mLv RX7 218 M_X7_billBody 1 := ⟨Or.inl (tb_of 566 (by decide +kernel) (by decide +kernel)), im_X7_billBody, se_X7_billBody, ini_RX7, co_X7_billBody, ⟨by decide +kernel, by decide +kernel, by decide +kernel⟩, by decide⟩
theorem lm_RX7_215 : mLv RX7 215 M_X7_repealBody 1 := ⟨Or.inl (tb_of 570 (by decide +kernel) (by decide +kernel)), im_X7_repealBody, se_X7_repealBody, ini_RX7, co_X7_repealBody, ⟨by decide +kernel, by decide +kernel, by decide +kernel⟩, by decide⟩
theorem lm_RL_134 : mLv RL 134 M_X7_seal 1 := ⟨Or.inl (tb_of 574 (by decide +kernel) (by decide +kernel)), im_X7_seal, se_X7_seal, ini_RX7, co_X7_seal, ⟨by decide +kernel, by decide +kernel, by decide +kernel⟩, by decide⟩
theorem lm_RX7_221 : mLv RX7 221 M_X7_ownSeal 0 := ⟨Or.inl (tb_of 578 (by decide +kernel) (by decide +kernel)), im_X7_ownSeal, se_X7_ownSeal, ini_RX7, co_X7_ownSeal, ⟨by decide +kernel, by decide +kernel, by decide +kernel⟩, by decide⟩
theorem lm_RX7_224 : mLv RX7 224 M_X7_lentSeal 1 := ⟨Or.inl (tb_of 582 (by decide +kernel) (by decide +kernel)), im_X7_lentSeal, se_X7_lentSeal, ini_RX7, co_X7_lentSeal, ⟨by decide +kernel, by decide +kernel, by decide +kernel⟩, by decide⟩
theorem lm_RL_138 : mLv RL 138 M_X7_as 2 := ⟨Or.inl (tb_of 586 (by decide +kernel) (by decide +kernel)), im_X7_as, se_X7_as, ini_RX7, co_X7_as, ⟨by decide +kernel, by decide +kernel, by decide +kernel⟩, by decide⟩
theorem lm_RL_142 : mLv RL 142 M_X7_trace 0 := ⟨Or.inl (tb_of 590 (by decide +kernel) (by decide +kernel)), im_X7_trace, se_X7_trace, ini_RX7, co_X7_trace, ⟨by decide +kernel, by decide +kernel, by decide +kernel⟩, by decide⟩
theorem lm_RL_146 : mLv RL 146 M_X7_fault 0 := ⟨Or.inl (tb_of 594 (by decide +kernel) (by decide +kernel)), im_X7_fault, se_X7_fault, ini_RX7, co_X7_fault, ⟨by decide +kernel, by decide +kernel, by decide +kernel⟩, by decide⟩
theorem lm_RL_150 : mLv RL 150 M_X7_many 1 := ⟨Or.inl (tb_of 598 (by decide +kernel) (by decide +kernel)), im_X7_many, se_X7_many, ini_RX7, co_X7_many, ⟨by decide +kernel, by decide +kernel, by decide +kernel⟩, by decide⟩
theorem lm_RL_17 : mLv RL 17 M_X8_council 4 := ⟨Or.inl (tb_of 711 (by decide +kernel) (by decide +kernel)), im_X8_council, se_X8_council, ini_RX8, co_X8_council, ⟨by decide +kernel, by decide +kernel, by decide +kernel⟩, by decide⟩
theorem lm_RX8_82 : mLs RX8 82 M_X8_isSheet 1 := ⟨Or.inl (tb_of 715 (by decide +kernel) (by decide +kernel)), st_X8_isSheet, ini_RX8, co_X8_isSheet, ⟨by decide +kernel, by decide +kernel, by decide +kernel⟩, by decide⟩
theorem lm_RX8_68 : mLs RX8 68 M_X8_within 3 := ⟨Or.inl (tb_of 718 (by decide +kernel) (by decide +kernel)), st_X8_within, ini_RX8, co_X8_within, ⟨by decide +kernel, by decide +kernel, by decide +kernel⟩, by decide⟩
theorem lm_RX8_86 : mLs RX8 86 M_X8_isSort 1 := ⟨Or.inl (tb_of 721 (by decide +kernel) (by decide +kernel)), st_X8_isSort, ini_RX8, co_X8_isSort, ⟨by decide +kernel, by decide +kernel, by decide +kernel⟩, by decide⟩
theorem lm_RX8_89 : mLv RX8 89 M_X8_against 4 := ⟨Or.inl (tb_of 724 (by decide +kernel) (by decide +kernel)), im_X8_against, se_X8_against, ini_RX8, co_X8_against, ⟨by decide +kernel, by decide +kernel, by decide +kernel⟩, by decide⟩
theorem lm_RX8_93 : mLv RX8 93 M_X8_fails 1 := ⟨Or.inl (tb_of 728 (by decide +kernel) (by decide +kernel)), im_X8_fails, se_X8_fails, ini_RX8, co_X8_fails, ⟨by decide +kernel, by decide +kernel, by decide +kernel⟩, by decide⟩
theorem lm_RX8_97 : mLv RX8 97 M_X8_readCouncil 1 := ⟨Or.inl (tb_of 732 (by decide +kernel) (by decide +kernel)), im_X8_readCouncil, se_X8_readCouncil, ini_RX8, co_X8_readCouncil, ⟨by decide +kernel, by decide +kernel, by decide +kernel⟩, by decide⟩
theorem lm_RX8_133 : mLv RX8 133 M_X8_isSign 2 := ⟨Or.inl (tb_of 736 (by decide +kernel) (by decide +kernel)), im_X8_isSign, se_X8_isSign, ini_RX8, co_X8_isSign, ⟨by decide +kernel, by decide +kernel, by decide +kernel⟩, by decide⟩
theorem lm_RX8_137 : mLv RX8 137 M_X8_readCalendar 1 := ⟨Or.inl (tb_of 740 (by decide +kernel) (by decide +kernel)), im_X8_readCalendar, se_X8_readCalendar, ini_RX8, co_X8_readCalendar, ⟨by decide +kernel, by decide +kernel, by decide +kernel⟩, by decide⟩
theorem lm_RX8_143 : mLv RX8 143 M_X8_number 3 := ⟨Or.inl (tb_of 744 (by decide +kernel) (by decide +kernel)), im_X8_number, se_X8_number, ini_RX8, co_X8_number, ⟨by decide +kernel, by decide +kernel, by decide +kernel⟩, by decide⟩
theorem lm_RX8_78 : mLv RX8 78 M_X8_digit 3 := ⟨Or.inl (tb_of 748 (by decide +kernel) (by decide +kernel)), im_X8_digit, se_X8_digit, ini_RX8, co_X8_digit, ⟨by decide +kernel, by decide +kernel, by decide +kernel⟩, by decide⟩
theorem lm_RX8_140 : mLv RX8 140 M_X8_readBill 1 := ⟨Or.inl (tb_of 752 (by decide +kernel) (by decide +kernel)), im_X8_readBill, se_X8_readBill, ini_RX8, co_X8_readBill, ⟨by decide +kernel, by decide +kernel, by decide +kernel⟩, by decide⟩
theorem lm_RL_22 : mLv RL 22 M_X8_ofBill 2 := ⟨Or.inl (tb_of 756 (by decide +kernel) (by decide +kernel)), im_X8_ofBill, se_X8_ofBill, ini_RX8, co_X8_ofBill, ⟨by decide +kernel, by decide +kernel, by decide +kernel⟩, by decide⟩
theorem lm_RX8_146 : mLv RX8 146 M_X8_isBill 1 := ⟨Or.inl (tb_of 760 (by decide +kernel) (by decide +kernel)), im_X8_isBill, se_X8_isBill, ini_RX8, co_X8_isBill, ⟨by decide +kernel, by decide +kernel, by decide +kernel⟩, by decide⟩
theorem lm_RL_27 : mLv RL 27 M_X8_moon 1 := ⟨Or.inl (tb_of 764 (by decide +kernel) (by decide +kernel)), im_X8_moon, se_X8_moon, ini_RX8, co_X8_moon, ⟨by decide +kernel, by decide +kernel, by decide +kernel⟩, by decide⟩
theorem lm_RX8_149 : mLv RX8 149 M_X8_moonDay 1 := ⟨Or.inl (tb_of 768 (by decide +kernel) (by decide +kernel)), im_X8_moonDay, se_X8_moonDay, ini_RX8, co_X8_moonDay, ⟨by decide +kernel, by decide +kernel, by decide +kernel⟩, by decide⟩
theorem lm_RL_31 : mLv RL 31 M_X8_span 1 := ⟨Or.inl (tb_of 772 (by decide +kernel) (by decide +kernel)), im_X8_span, se_X8_span, ini_RX8, co_X8_span, ⟨by decide +kernel, by decide +kernel, by decide +kernel⟩, by decide⟩
theorem lm_RL_35 : mLv RL 35 M_X8_move 2 := ⟨Or.inl (tb_of 776 (by decide +kernel) (by decide +kernel)), im_X8_move, se_X8_move, ini_RX8, co_X8_move, ⟨by decide +kernel, by decide +kernel, by decide +kernel⟩, by decide⟩
theorem lm_RL_40 : mLv RL 40 M_X8_cloud 2 := ⟨Or.inl (tb_of 780 (by decide +kernel) (by decide +kernel)), im_X8_cloud, se_X8_cloud, ini_RX8, co_X8_cloud, ⟨by decide +kernel, by decide +kernel, by decide +kernel⟩, by decide⟩
theorem lm_RX8_152 : mLs RX8 152 M_X8_isDay 1 := ⟨Or.inl (tb_of 784 (by decide +kernel) (by decide +kernel)), st_X8_isDay, ini_RX8, co_X8_isDay, ⟨by decide +kernel, by decide +kernel, by decide +kernel⟩, by decide⟩
theorem lm_RL_44 : mLv RL 44 M_X8_struck 1 := ⟨Or.inl (tb_of 787 (by decide +kernel) (by decide +kernel)), im_X8_struck, se_X8_struck, ini_RX8, co_X8_struck, ⟨by decide +kernel, by decide +kernel, by decide +kernel⟩, by decide⟩
theorem lm_RX8_165 : mLv RX8 165 M_X8_struckOn 1 := ⟨Or.inl (tb_of 791 (by decide +kernel) (by decide +kernel)), im_X8_struckOn, se_X8_struckOn, ini_RX8, co_X8_struckOn, ⟨by decide +kernel, by decide +kernel, by decide +kernel⟩, by decide⟩
theorem lm_RX8_162 : mLv RX8 162 M_X8_isDark 1 := ⟨Or.inl (tb_of 795 (by decide +kernel) (by decide +kernel)), im_X8_isDark, se_X8_isDark, ini_RX8, co_X8_isDark, ⟨by decide +kernel, by decide +kernel, by decide +kernel⟩, by decide⟩
theorem lm_RL_49 : mLv RL 49 M_X8_passing 0 := ⟨Or.inl (tb_of 799 (by decide +kernel) (by decide +kernel)), im_X8_passing, se_X8_passing, ini_RX8, co_X8_passing, ⟨by decide +kernel, by decide +kernel, by decide +kernel⟩, by decide⟩
theorem lm_RX8_178 : mLv RX8 178 M_X8_layPassing 0 := ⟨Or.inl (tb_of 803 (by decide +kernel) (by decide +kernel)), im_X8_layPassing, se_X8_layPassing, ini_RX8, co_X8_layPassing, ⟨by decide +kernel, by decide +kernel, by decide +kernel⟩, by decide⟩
theorem lm_RX8_171 : mLv RX8 171 M_X8_layOrder 0 := ⟨Or.inl (tb_of 807 (by decide +kernel) (by decide +kernel)), im_X8_layOrder, se_X8_layOrder, ini_RX8, co_X8_layOrder, ⟨by decide +kernel, by decide +kernel, by decide +kernel⟩, by decide⟩
theorem lm_RX8_174 : mLv RX8 174 M_X8_layForce 1 := ⟨Or.inl (tb_of 811 (by decide +kernel) (by decide +kernel)), im_X8_layForce, se_X8_layForce, ini_RX8, co_X8_layForce, ⟨by decide +kernel, by decide +kernel, by decide +kernel⟩, by decide⟩
theorem lm_RX8_168 : mLv RX8 168 M_X8_isOn 2 := ⟨Or.inl (tb_of 815 (by decide +kernel) (by decide +kernel)), im_X8_isOn, se_X8_isOn, ini_RX8, co_X8_isOn, ⟨by decide +kernel, by decide +kernel, by decide +kernel⟩, by decide⟩
theorem lm_RL_53 : mLv RL 53 M_X8_force 1 := ⟨Or.inl (tb_of 819 (by decide +kernel) (by decide +kernel)), im_X8_force, se_X8_force, ini_RX8, co_X8_force, ⟨by decide +kernel, by decide +kernel, by decide +kernel⟩, by decide⟩
theorem lm_RX8_184 : mLv RX8 184 M_X8_forceOn 1 := ⟨Or.inl (tb_of 823 (by decide +kernel) (by decide +kernel)), im_X8_forceOn, se_X8_forceOn, ini_RX8, co_X8_forceOn, ⟨by decide +kernel, by decide +kernel, by decide +kernel⟩, by decide⟩
theorem lm_RX8_181 : mLv RX8 181 M_X8_forceNow 1 := ⟨Or.inl (tb_of 827 (by decide +kernel) (by decide +kernel)), im_X8_forceNow, se_X8_forceNow, ini_RX8, co_X8_forceNow, ⟨by decide +kernel, by decide +kernel, by decide +kernel⟩, by decide⟩
theorem lm_RL_57 : mLv RL 57 M_X8_holds 1 := ⟨Or.inl (tb_of 831 (by decide +kernel) (by decide +kernel)), im_X8_holds, se_X8_holds, ini_RX8, co_X8_holds, ⟨by decide +kernel, by decide +kernel, by decide +kernel⟩, by decide⟩
theorem lm_RX8_187 : mLv RX8 187 M_X8_holdsNow 1 := ⟨Or.inl (tb_of 835 (by decide +kernel) (by decide +kernel)), im_X8_holdsNow, se_X8_holdsNow, ini_RX8, co_X8_holdsNow, ⟨by decide +kernel, by decide +kernel, by decide +kernel⟩, by decide⟩
theorem lm_RL_61 : mLv RL 61 M_X8_chronicle 4 := ⟨Or.inl (tb_of 839 (by decide +kernel) (by decide +kernel)), im_X8_chronicle, se_X8_chronicle, ini_RX8, co_X8_chronicle, ⟨by decide +kernel, by decide +kernel, by decide +kernel⟩, by decide⟩
theorem lm_RL_65 : mLv RL 65 M_X8_buy 2 := ⟨Or.inl (tb_of 843 (by decide +kernel) (by decide +kernel)), im_X8_buy, se_X8_buy, ini_RX8, co_X8_buy, ⟨by decide +kernel, by decide +kernel, by decide +kernel⟩, by decide⟩
theorem lm_RX8_190 : mLv RX8 190 M_X8_darkMoons 0 := ⟨Or.inl (tb_of 847 (by decide +kernel) (by decide +kernel)), im_X8_darkMoons, se_X8_darkMoons, ini_RX8, co_X8_darkMoons, ⟨by decide +kernel, by decide +kernel, by decide +kernel⟩, by decide⟩
theorem lm_RX8_194 : mLv RX8 194 M_X8_moons 0 := ⟨Or.inl (tb_of 851 (by decide +kernel) (by decide +kernel)), im_X8_moons, se_X8_moons, ini_RX8, co_X8_moons, ⟨by decide +kernel, by decide +kernel, by decide +kernel⟩, by decide⟩
theorem lm_RX8_197 : mLs RX8 197 M_X8_size 1 := ⟨Or.inl (tb_of 855 (by decide +kernel) (by decide +kernel)), st_X8_size, ini_RX8, co_X8_size, ⟨by decide +kernel, by decide +kernel, by decide +kernel⟩, by decide⟩
theorem lm_RL_69 : mLv RL 69 M_X8_when 2 := ⟨Or.inl (tb_of 858 (by decide +kernel) (by decide +kernel)), im_X8_when, se_X8_when, ini_RX8, co_X8_when, ⟨by decide +kernel, by decide +kernel, by decide +kernel⟩, by decide⟩
theorem lm_RL_73 : mLv RL 73 M_X8_longest 2 := ⟨Or.inl (tb_of 862 (by decide +kernel) (by decide +kernel)), im_X8_longest, se_X8_longest, ini_RX8, co_X8_longest, ⟨by decide +kernel, by decide +kernel, by decide +kernel⟩, by decide⟩
theorem lm_RL_77 : mLv RL 77 M_X8_worth 1 := ⟨Or.inl (tb_of 866 (by decide +kernel) (by decide +kernel)), im_X8_worth, se_X8_worth, ini_RX8, co_X8_worth, ⟨by decide +kernel, by decide +kernel, by decide +kernel⟩, by decide⟩
theorem lm_RX8_200 : mLv RX8 200 M_X8_othersHold 1 := ⟨Or.inl (tb_of 870 (by decide +kernel) (by decide +kernel)), im_X8_othersHold, se_X8_othersHold, ini_RX8, co_X8_othersHold, ⟨by decide +kernel, by decide +kernel, by decide +kernel⟩, by decide⟩
theorem lm_RL_82 : mLv RL 82 M_X8_reading 3 := ⟨Or.inl (tb_of 874 (by decide +kernel) (by decide +kernel)), im_X8_reading, se_X8_reading, ini_RX8, co_X8_reading, ⟨by decide +kernel, by decide +kernel, by decide +kernel⟩, by decide⟩
theorem lm_RL_86 : mLv RL 86 M_X8_back 1 := ⟨Or.inl (tb_of 878 (by decide +kernel) (by decide +kernel)), im_X8_back, se_X8_back, ini_RX8, co_X8_back, ⟨by decide +kernel, by decide +kernel, by decide +kernel⟩, by decide⟩
theorem lm_RL_90 : mLv RL 90 M_X8_spans 0 := ⟨Or.inl (tb_of 882 (by decide +kernel) (by decide +kernel)), im_X8_spans, se_X8_spans, ini_RX8, co_X8_spans, ⟨by decide +kernel, by decide +kernel, by decide +kernel⟩, by decide⟩
theorem lm_RX8_203 : mLv RX8 203 M_X8_areSo 0 := ⟨Or.inl (tb_of 886 (by decide +kernel) (by decide +kernel)), im_X8_areSo, se_X8_areSo, ini_RX8, co_X8_areSo, ⟨by decide +kernel, by decide +kernel, by decide +kernel⟩, by decide⟩
theorem lm_RL_94 : mLv RL 94 M_X8_origins 0 := ⟨Or.inl (tb_of 890 (by decide +kernel) (by decide +kernel)), im_X8_origins, se_X8_origins, ini_RX8, co_X8_origins, ⟨by decide +kernel, by decide +kernel, by decide +kernel⟩, by decide⟩
theorem lm_RL_98 : mLv RL 98 M_X8_kinds 1 := ⟨Or.inl (tb_of 894 (by decide +kernel) (by decide +kernel)), im_X8_kinds, se_X8_kinds, ini_RX8, co_X8_kinds, ⟨by decide +kernel, by decide +kernel, by decide +kernel⟩, by decide⟩
theorem lm_RL_102 : mLv RL 102 M_X8_moved 2 := ⟨Or.inl (tb_of 898 (by decide +kernel) (by decide +kernel)), im_X8_moved, se_X8_moved, ini_RX8, co_X8_moved, ⟨by decide +kernel, by decide +kernel, by decide +kernel⟩, by decide⟩
theorem lm_RL_107 : mLv RL 107 M_X8_odds 3 := ⟨Or.inl (tb_of 902 (by decide +kernel) (by decide +kernel)), im_X8_odds, se_X8_odds, ini_RX8, co_X8_odds, ⟨by decide +kernel, by decide +kernel, by decide +kernel⟩, by decide⟩
theorem lm_RX8_207 : mLs RX8 207 M_X8_inLeastTerms 3 := ⟨Or.inl (tb_of 907 (by decide +kernel) (by decide +kernel)), st_X8_inLeastTerms, ini_RX8, co_X8_inLeastTerms, ⟨by decide +kernel, by decide +kernel, by decide +kernel⟩, by decide⟩
theorem lm_RL_112 : mLv RL 112 M_X8_sheet 3 := ⟨Or.inl (tb_of 910 (by decide +kernel) (by decide +kernel)), im_X8_sheet, se_X8_sheet, ini_RX8, co_X8_sheet, ⟨by decide +kernel, by decide +kernel, by decide +kernel⟩, by decide⟩
theorem lm_RL_116 : mLv RL 116 M_X8_lose 1 := ⟨Or.inl (tb_of 914 (by decide +kernel) (by decide +kernel)), im_X8_lose, se_X8_lose, ini_RX8, co_X8_lose, ⟨by decide +kernel, by decide +kernel, by decide +kernel⟩, by decide⟩
theorem lm_RL_120 : mLv RL 120 M_X8_put 3 := ⟨Or.inl (tb_of 918 (by decide +kernel) (by decide +kernel)), im_X8_put, se_X8_put, ini_RX8, co_X8_put, ⟨by decide +kernel, by decide +kernel, by decide +kernel⟩, by decide⟩
theorem lm_RL_124 : mLv RL 124 M_X8_cell 3 := ⟨Or.inl (tb_of 922 (by decide +kernel) (by decide +kernel)), im_X8_cell, se_X8_cell, ini_RX8, co_X8_cell, ⟨by decide +kernel, by decide +kernel, by decide +kernel⟩, by decide⟩
theorem lm_RX8_211 : mLv RX8 211 M_X8_lost 1 := ⟨Or.inl (tb_of 926 (by decide +kernel) (by decide +kernel)), im_X8_lost, se_X8_lost, ini_RX8, co_X8_lost, ⟨by decide +kernel, by decide +kernel, by decide +kernel⟩, by decide⟩
theorem lm_RL_129 : mLv RL 129 M_X8_copy 5 := ⟨Or.inl (tb_of 930 (by decide +kernel) (by decide +kernel)), im_X8_copy, se_X8_copy, ini_RX8, co_X8_copy, ⟨by decide +kernel, by decide +kernel, by decide +kernel⟩, by decide⟩
theorem lm_RL_133 : mLv RL 133 M_X8_tell 1 := ⟨Or.inl (tb_of 934 (by decide +kernel) (by decide +kernel)), im_X8_tell, se_X8_tell, ini_RX8, co_X8_tell, ⟨by decide +kernel, by decide +kernel, by decide +kernel⟩, by decide⟩
theorem lm_RX8_218 : mLv RX8 218 M_X8_begins 1 := ⟨Or.inl (tb_of 938 (by decide +kernel) (by decide +kernel)), im_X8_begins, se_X8_begins, ini_RX8, co_X8_begins, ⟨by decide +kernel, by decide +kernel, by decide +kernel⟩, by decide⟩
theorem lm_RL_137 : mLv RL 137 M_X8_seal 1 := ⟨Or.inl (tb_of 942 (by decide +kernel) (by decide +kernel)), im_X8_seal, se_X8_seal, ini_RX8, co_X8_seal, ⟨by decide +kernel, by decide +kernel, by decide +kernel⟩, by decide⟩
theorem lm_RL_141 : mLv RL 141 M_X8_as 2 := ⟨Or.inl (tb_of 946 (by decide +kernel) (by decide +kernel)), im_X8_as, se_X8_as, ini_RX8, co_X8_as, ⟨by decide +kernel, by decide +kernel, by decide +kernel⟩, by decide⟩
theorem lm_RL_145 : mLv RL 145 M_X8_trace 0 := ⟨Or.inl (tb_of 950 (by decide +kernel) (by decide +kernel)), im_X8_trace, se_X8_trace, ini_RX8, co_X8_trace, ⟨by decide +kernel, by decide +kernel, by decide +kernel⟩, by decide⟩
theorem lm_RL_149 : mLv RL 149 M_X8_fault 0 := ⟨Or.inl (tb_of 954 (by decide +kernel) (by decide +kernel)), im_X8_fault, se_X8_fault, ini_RX8, co_X8_fault, ⟨by decide +kernel, by decide +kernel, by decide +kernel⟩, by decide⟩
theorem lm_RL_153 : mLv RL 153 M_X8_many 1 := ⟨Or.inl (tb_of 958 (by decide +kernel) (by decide +kernel)), im_X8_many, se_X8_many, ini_RX8, co_X8_many, ⟨by decide +kernel, by decide +kernel, by decide +kernel⟩, by decide⟩
theorem lm_RX7_44 : mLv RX7 44 M_X3_faultOfCells 3 := ⟨Or.inr ⟨"MoonVeto", tn_of 188 (by decide +kernel) (by decide +kernel)⟩, im_X3_faultOfCells, se_X3_faultOfCells, ini_RX3, co_X3_faultOfCells, ⟨by decide +kernel, by decide +kernel, by decide +kernel⟩, by decide⟩
theorem lm_RX3_22 : mLs RX3 22 M_X7_within 2 := ⟨Or.inr ⟨"MoonVeto", tn_of 204 (by decide +kernel) (by decide +kernel)⟩, st_X7_within, ini_RX7, co_X7_within, ⟨by decide +kernel, by decide +kernel, by decide +kernel⟩, by decide⟩
theorem lm_RX7_52 : mLs RX7 52 M_X5_firstFault 3 := ⟨Or.inr ⟨"MoonVeto", tn_of 209 (by decide +kernel) (by decide +kernel)⟩, st_X5_firstFault, ini_RX5, co_X5_firstFault, ⟨by decide +kernel, by decide +kernel, by decide +kernel⟩, by decide⟩
theorem lm_RX7_58 : mLv RX7 58 M_X1_found 3 := ⟨Or.inr ⟨"MoonVeto", tn_of 260 (by decide +kernel) (by decide +kernel)⟩, im_X1_found, se_X1_found, ini_RX1, co_X1_found, ⟨by decide +kernel, by decide +kernel, by decide +kernel⟩, by decide⟩
theorem lm_RX1_25 : mLv RX1 25 M_X4_read 2 := ⟨Or.inr ⟨"MoonVeto", tn_of 264 (by decide +kernel) (by decide +kernel)⟩, im_X4_read, se_X4_read, ini_RX4, co_X4_read, ⟨by decide +kernel, by decide +kernel, by decide +kernel⟩, by decide⟩
theorem lm_RX4_15 : mLs RX4 15 M_X5_twoDigits 2 := ⟨Or.inr ⟨"MoonVeto", tn_of 268 (by decide +kernel) (by decide +kernel)⟩, st_X5_twoDigits, ini_RX5, co_X5_twoDigits, ⟨by decide +kernel, by decide +kernel, by decide +kernel⟩, by decide⟩
theorem lm_RX5_35 : mLv RX5 35 M_X3_has 1 := ⟨Or.inr ⟨"MoonVeto", tn_of 274 (by decide +kernel) (by decide +kernel)⟩, im_X3_has, se_X3_has, ini_RX3, co_X3_has, ⟨by decide +kernel, by decide +kernel, by decide +kernel⟩, by decide⟩
theorem lm_RX4_28 : mLs RX4 28 M_X5_digit 2 := ⟨Or.inr ⟨"MoonVeto", tn_of 278 (by decide +kernel) (by decide +kernel)⟩, st_X5_digit, ini_RX5, co_X5_digit, ⟨by decide +kernel, by decide +kernel, by decide +kernel⟩, by decide⟩
theorem lm_RX1_29 : mLs RX1 29 M_X5_digit 2 := ⟨Or.inr ⟨"MoonVeto", tn_of 279 (by decide +kernel) (by decide +kernel)⟩, st_X5_digit, ini_RX5, co_X5_digit, ⟨by decide +kernel, by decide +kernel, by decide +kernel⟩, by decide⟩
theorem lm_RX1_48 : mLv RX1 48 M_X0_read 2 := ⟨Or.inr ⟨"MoonVeto", tn_of 283 (by decide +kernel) (by decide +kernel)⟩, im_X0_read, se_X0_read, ini_RX0, co_X0_read, ⟨by decide +kernel, by decide +kernel, by decide +kernel⟩, by decide⟩
theorem lm_RX0_9 : mLv RX0 9 M_X3_has 1 := ⟨Or.inr ⟨"MoonVeto", tn_of 287 (by decide +kernel) (by decide +kernel)⟩, im_X3_has, se_X3_has, ini_RX3, co_X3_has, ⟨by decide +kernel, by decide +kernel, by decide +kernel⟩, by decide⟩
theorem lm_RX0_19 : mLs RX0 19 M_X5_kindOf 1 := ⟨Or.inr ⟨"MoonVeto", tn_of 288 (by decide +kernel) (by decide +kernel)⟩, st_X5_kindOf, ini_RX5, co_X5_kindOf, ⟨by decide +kernel, by decide +kernel, by decide +kernel⟩, by decide⟩
theorem lm_RX0_31 : mLs RX0 31 M_X5_twoDigits 2 := ⟨Or.inr ⟨"MoonVeto", tn_of 289 (by decide +kernel) (by decide +kernel)⟩, st_X5_twoDigits, ini_RX5, co_X5_twoDigits, ⟨by decide +kernel, by decide +kernel, by decide +kernel⟩, by decide⟩
theorem lm_RX0_38 : mLs RX0 38 M_X5_digit 2 := ⟨Or.inr ⟨"MoonVeto", tn_of 290 (by decide +kernel) (by decide +kernel)⟩, st_X5_digit, ini_RX5, co_X5_digit, ⟨by decide +kernel, by decide +kernel, by decide +kernel⟩, by decide⟩
theorem lm_RX7_98 : mLv RX7 98 M_X4_dayOfMoon 1 := ⟨Or.inr ⟨"MoonVeto", tn_of 308 (by decide +kernel) (by decide +kernel)⟩, im_X4_dayOfMoon, se_X4_dayOfMoon, ini_RX4, co_X4_dayOfMoon, ⟨by decide +kernel, by decide +kernel, by decide +kernel⟩, by decide⟩
theorem lm_RX7_106 : mLv RX7 106 M_X4_cover 2 := ⟨Or.inr ⟨"MoonVeto", tn_of 324 (by decide +kernel) (by decide +kernel)⟩, im_X4_cover, se_X4_cover, ini_RX4, co_X4_cover, ⟨by decide +kernel, by decide +kernel, by decide +kernel⟩, by decide⟩
theorem lm_RX7_110 : mLv RX7 110 M_X1_settle 0 := ⟨Or.inr ⟨"MoonVeto", tn_of 332 (by decide +kernel) (by decide +kernel)⟩, im_X1_settle, se_X1_settle, ini_RX1, co_X1_settle, ⟨by decide +kernel, by decide +kernel, by decide +kernel⟩, by decide⟩
theorem lm_RX1_63 : mLv RX1 63 M_X4_moonsWithin 2 := ⟨Or.inr ⟨"MoonVeto", tn_of 340 (by decide +kernel) (by decide +kernel)⟩, im_X4_moonsWithin, se_X4_moonsWithin, ini_RX4, co_X4_moonsWithin, ⟨by decide +kernel, by decide +kernel, by decide +kernel⟩, by decide⟩
theorem lm_RX1_52 : mLv RX1 52 M_X4_cloudedMoons 0 := ⟨Or.inr ⟨"MoonVeto", tn_of 345 (by decide +kernel) (by decide +kernel)⟩, im_X4_cloudedMoons, se_X4_cloudedMoons, ini_RX4, co_X4_cloudedMoons, ⟨by decide +kernel, by decide +kernel, by decide +kernel⟩, by decide⟩
theorem lm_RX1_83 : mLv RX1 83 M_X0_term 1 := ⟨Or.inr ⟨"MoonVeto", tn_of 365 (by decide +kernel) (by decide +kernel)⟩, im_X0_term, se_X0_term, ini_RX0, co_X0_term, ⟨by decide +kernel, by decide +kernel, by decide +kernel⟩, by decide⟩
theorem lm_RX7_116 : mLv RX7 116 M_X4_cloudedMoons 0 := ⟨Or.inr ⟨"MoonVeto", tn_of 378 (by decide +kernel) (by decide +kernel)⟩, im_X4_cloudedMoons, se_X4_cloudedMoons, ini_RX4, co_X4_cloudedMoons, ⟨by decide +kernel, by decide +kernel, by decide +kernel⟩, by decide⟩
theorem lm_RX7_128 : mLv RX7 128 M_X1_allInForce 1 := ⟨Or.inr ⟨"MoonVeto", tn_of 391 (by decide +kernel) (by decide +kernel)⟩, im_X1_allInForce, se_X1_allInForce, ini_RX1, co_X1_allInForce, ⟨by decide +kernel, by decide +kernel, by decide +kernel⟩, by decide⟩
theorem lm_RX7_131 : mLv RX7 131 M_X1_daysHeld 1 := ⟨Or.inr ⟨"MoonVeto", tn_of 399 (by decide +kernel) (by decide +kernel)⟩, im_X1_daysHeld, se_X1_daysHeld, ini_RX1, co_X1_daysHeld, ⟨by decide +kernel, by decide +kernel, by decide +kernel⟩, by decide⟩
theorem lm_RX7_138 : mLs RX7 138 M_X6_fewestClouds 3 := ⟨Or.inr ⟨"MoonVeto", tn_of 417 (by decide +kernel) (by decide +kernel)⟩, st_X6_fewestClouds, ini_RX6, co_X6_fewestClouds, ⟨by decide +kernel, by decide +kernel, by decide +kernel⟩, by decide⟩
theorem lm_RX6_9 : mLv RX6 9 M_X1_watchAll 0 := ⟨Or.inr ⟨"MoonVeto", tn_of 420 (by decide +kernel) (by decide +kernel)⟩, im_X1_watchAll, se_X1_watchAll, ini_RX1, co_X1_watchAll, ⟨by decide +kernel, by decide +kernel, by decide +kernel⟩, by decide⟩
theorem lm_RX6_18 : mLv RX6 18 M_X4_cloudedMoons 0 := ⟨Or.inr ⟨"MoonVeto", tn_of 421 (by decide +kernel) (by decide +kernel)⟩, im_X4_cloudedMoons, se_X4_cloudedMoons, ini_RX4, co_X4_cloudedMoons, ⟨by decide +kernel, by decide +kernel, by decide +kernel⟩, by decide⟩
theorem lm_RX6_24 : mLv RX6 24 M_X1_allMoons 0 := ⟨Or.inr ⟨"MoonVeto", tn_of 422 (by decide +kernel) (by decide +kernel)⟩, im_X1_allMoons, se_X1_allMoons, ini_RX1, co_X1_allMoons, ⟨by decide +kernel, by decide +kernel, by decide +kernel⟩, by decide⟩
theorem lm_RX6_33 : mLv RX6 33 M_X1_pass 2 := ⟨Or.inr ⟨"MoonVeto", tn_of 432 (by decide +kernel) (by decide +kernel)⟩, im_X1_pass, se_X1_pass, ini_RX1, co_X1_pass, ⟨by decide +kernel, by decide +kernel, by decide +kernel⟩, by decide⟩
theorem lm_RX6_37 : mLv RX6 37 M_X1_isInForce 2 := ⟨Or.inr ⟨"MoonVeto", tn_of 433 (by decide +kernel) (by decide +kernel)⟩, im_X1_isInForce, se_X1_isInForce, ini_RX1, co_X1_isInForce, ⟨by decide +kernel, by decide +kernel, by decide +kernel⟩, by decide⟩
theorem lm_RX7_144 : mLs RX7 144 M_X6_firstMove 3 := ⟨Or.inr ⟨"MoonVeto", tn_of 438 (by decide +kernel) (by decide +kernel)⟩, st_X6_firstMove, ini_RX6, co_X6_firstMove, ⟨by decide +kernel, by decide +kernel, by decide +kernel⟩, by decide⟩
theorem lm_RX6_51 : mLv RX6 51 M_X1_settle 0 := ⟨Or.inr ⟨"MoonVeto", tn_of 441 (by decide +kernel) (by decide +kernel)⟩, im_X1_settle, se_X1_settle, ini_RX1, co_X1_settle, ⟨by decide +kernel, by decide +kernel, by decide +kernel⟩, by decide⟩
theorem lm_RX7_147 : mLs RX7 147 M_X6_longestMove 3 := ⟨Or.inr ⟨"MoonVeto", tn_of 446 (by decide +kernel) (by decide +kernel)⟩, st_X6_longestMove, ini_RX6, co_X6_longestMove, ⟨by decide +kernel, by decide +kernel, by decide +kernel⟩, by decide⟩
theorem lm_RX6_54 : mLv RX6 54 M_X1_daysHeld 1 := ⟨Or.inr ⟨"MoonVeto", tn_of 449 (by decide +kernel) (by decide +kernel)⟩, im_X1_daysHeld, se_X1_daysHeld, ini_RX1, co_X1_daysHeld, ⟨by decide +kernel, by decide +kernel, by decide +kernel⟩, by decide⟩
theorem lm_RX7_151 : mLs RX7 151 M_X6_gainOfOthers 2 := ⟨Or.inr ⟨"MoonVeto", tn_of 454 (by decide +kernel) (by decide +kernel)⟩, st_X6_gainOfOthers, ini_RX6, co_X6_gainOfOthers, ⟨by decide +kernel, by decide +kernel, by decide +kernel⟩, by decide⟩
theorem lm_RX6_57 : mLv RX6 57 M_X1_daysHeldByOthers 1 := ⟨Or.inr ⟨"MoonVeto", tn_of 457 (by decide +kernel) (by decide +kernel)⟩, im_X1_daysHeldByOthers, se_X1_daysHeldByOthers, ini_RX1, co_X1_daysHeldByOthers, ⟨by decide +kernel, by decide +kernel, by decide +kernel⟩, by decide⟩
theorem lm_RX7_155 : mLv RX7 155 M_X2_append 3 := ⟨Or.inr ⟨"MoonVeto", tn_of 466 (by decide +kernel) (by decide +kernel)⟩, im_X2_append, se_X2_append, ini_RX2, co_X2_append, ⟨by decide +kernel, by decide +kernel, by decide +kernel⟩, by decide⟩
theorem lm_RX7_159 : mLs RX7 159 M_X6_possibleSpans 2 := ⟨Or.inr ⟨"MoonVeto", tn_of 478 (by decide +kernel) (by decide +kernel)⟩, st_X6_possibleSpans, ini_RX6, co_X6_possibleSpans, ⟨by decide +kernel, by decide +kernel, by decide +kernel⟩, by decide⟩
theorem lm_RX6_63 : mLv RX6 63 M_X2_areSo 1 := ⟨Or.inr ⟨"MoonVeto", tn_of 481 (by decide +kernel) (by decide +kernel)⟩, im_X2_areSo, se_X2_areSo, ini_RX2, co_X2_areSo, ⟨by decide +kernel, by decide +kernel, by decide +kernel⟩, by decide⟩
theorem lm_RX2_26 : mLv RX2 26 M_X1_isInForce 2 := ⟨Or.inr ⟨"MoonVeto", tn_of 485 (by decide +kernel) (by decide +kernel)⟩, im_X1_isInForce, se_X1_isInForce, ini_RX1, co_X1_isInForce, ⟨by decide +kernel, by decide +kernel, by decide +kernel⟩, by decide⟩
theorem lm_RX7_163 : mLs RX7 163 M_X6_possibleOrigins 2 := ⟨Or.inr ⟨"MoonVeto", tn_of 490 (by decide +kernel) (by decide +kernel)⟩, st_X6_possibleOrigins, ini_RX6, co_X6_possibleOrigins, ⟨by decide +kernel, by decide +kernel, by decide +kernel⟩, by decide⟩
theorem lm_RX7_166 : mLs RX7 166 M_X6_possibleKinds 3 := ⟨Or.inr ⟨"MoonVeto", tn_of 497 (by decide +kernel) (by decide +kernel)⟩, st_X6_possibleKinds, ini_RX6, co_X6_possibleKinds, ⟨by decide +kernel, by decide +kernel, by decide +kernel⟩, by decide⟩
theorem lm_RX7_170 : mLs RX7 170 M_X6_possibleMoves 4 := ⟨Or.inr ⟨"MoonVeto", tn_of 504 (by decide +kernel) (by decide +kernel)⟩, st_X6_possibleMoves, ini_RX6, co_X6_possibleMoves, ⟨by decide +kernel, by decide +kernel, by decide +kernel⟩, by decide⟩
theorem lm_RX7_176 : mLs RX7 176 M_X6_shareOfClouds 4 := ⟨Or.inr ⟨"MoonVeto", tn_of 512 (by decide +kernel) (by decide +kernel)⟩, st_X6_shareOfClouds, ini_RX6, co_X6_shareOfClouds, ⟨by decide +kernel, by decide +kernel, by decide +kernel⟩, by decide⟩
theorem lm_RX7_180 : mLv RX7 180 M_X3_begin 2 := ⟨Or.inr ⟨"MoonVeto", tn_of 519 (by decide +kernel) (by decide +kernel)⟩, im_X3_begin, se_X3_begin, ini_RX3, co_X3_begin, ⟨by decide +kernel, by decide +kernel, by decide +kernel⟩, by decide⟩
theorem lm_RX7_184 : mLv RX7 184 M_X3_isNothing 0 := ⟨Or.inr ⟨"MoonVeto", tn_of 527 (by decide +kernel) (by decide +kernel)⟩, im_X3_isNothing, se_X3_isNothing, ini_RX3, co_X3_isNothing, ⟨by decide +kernel, by decide +kernel, by decide +kernel⟩, by decide⟩
theorem lm_RX7_187 : mLv RX7 187 M_X3_drop 0 := ⟨Or.inr ⟨"MoonVeto", tn_of 528 (by decide +kernel) (by decide +kernel)⟩, im_X3_drop, se_X3_drop, ini_RX3, co_X3_drop, ⟨by decide +kernel, by decide +kernel, by decide +kernel⟩, by decide⟩
theorem lm_RX7_190 : mLv RX7 190 M_X3_has 1 := ⟨Or.inr ⟨"MoonVeto", tn_of 536 (by decide +kernel) (by decide +kernel)⟩, im_X3_has, se_X3_has, ini_RX3, co_X3_has, ⟨by decide +kernel, by decide +kernel, by decide +kernel⟩, by decide⟩
theorem lm_RX7_193 : mLv RX7 193 M_X3_cut 1 := ⟨Or.inr ⟨"MoonVeto", tn_of 537 (by decide +kernel) (by decide +kernel)⟩, im_X3_cut, se_X3_cut, ini_RX3, co_X3_cut, ⟨by decide +kernel, by decide +kernel, by decide +kernel⟩, by decide⟩
theorem lm_RX7_196 : mLv RX7 196 M_X3_faultOfLane 1 := ⟨Or.inr ⟨"MoonVeto", tn_of 545 (by decide +kernel) (by decide +kernel)⟩, im_X3_faultOfLane, se_X3_faultOfLane, ini_RX3, co_X3_faultOfLane, ⟨by decide +kernel, by decide +kernel, by decide +kernel⟩, by decide⟩
theorem lm_RX7_202 : mLv RX7 202 M_X3_hasAll 2 := ⟨Or.inr ⟨"MoonVeto", tn_of 550 (by decide +kernel) (by decide +kernel)⟩, im_X3_hasAll, se_X3_hasAll, ini_RX3, co_X3_hasAll, ⟨by decide +kernel, by decide +kernel, by decide +kernel⟩, by decide⟩
theorem lf_RX4_9 : mLf RX4 9 "MoonVeto$Sky" "clouded" "[Z" := Or.inl (tb_of 38 (by decide +kernel) (by decide +kernel))
theorem lf_RX4_34 : mLf RX4 34 "MoonVeto$Sky" "cloudedNights" "I" := Or.inl (tb_of 39 (by decide +kernel) (by decide +kernel))
theorem lf_RX4_21 : mLf RX4 21 "MoonVeto$Sky" "begins" "I" := Or.inl (tb_of 41 (by decide +kernel) (by decide +kernel))
theorem lf_RX4_25 : mLf RX4 25 "MoonVeto$Sky" "upper" "I" := Or.inl (tb_of 44 (by decide +kernel) (by decide +kernel))
theorem lf_RX4_31 : mLf RX4 31 "MoonVeto$Sky" "lower" "I" := Or.inl (tb_of 45 (by decide +kernel) (by decide +kernel))
theorem lf_RX0_25 : mLf RX0 25 "MoonVeto$Bill" "kind" "I" := Or.inl (tb_of 65 (by decide +kernel) (by decide +kernel))
theorem lf_RX0_35 : mLf RX0 35 "MoonVeto$Bill" "day" "I" := Or.inl (tb_of 69 (by decide +kernel) (by decide +kernel))
theorem lf_RX0_41 : mLf RX0 41 "MoonVeto$Bill" "needs" "I" := Or.inl (tb_of 73 (by decide +kernel) (by decide +kernel))
theorem lf_RX0_44 : mLf RX0 44 "MoonVeto$Bill" "names" "I" := Or.inl (tb_of 76 (by decide +kernel) (by decide +kernel))
theorem lf_RX0_47 : mLf RX0 47 "MoonVeto$Bill" "lasts" "I" := Or.inl (tb_of 79 (by decide +kernel) (by decide +kernel))
theorem lf_RX1_12 : mLf RX1 12 "MoonVeto$Council" "sky" "LMoonVeto$Sky;" := Or.inl (tb_of 96 (by decide +kernel) (by decide +kernel))
theorem lf_RX1_20 : mLf RX1 20 "MoonVeto$Council" "bills" "[LMoonVeto$Bill;" := Or.inl (tb_of 99 (by decide +kernel) (by decide +kernel))
theorem lf_RX1_45 : mLf RX1 45 "MoonVeto$Council" "count" "I" := Or.inl (tb_of 102 (by decide +kernel) (by decide +kernel))
theorem lf_RX1_35 : mLf RX1 35 "MoonVeto$Council" "watch" "I" := Or.inl (tb_of 104 (by decide +kernel) (by decide +kernel))
theorem lf_RX1_69 : mLf RX1 69 "MoonVeto$Council" "passes" "I" := Or.inl (tb_of 107 (by decide +kernel) (by decide +kernel))
theorem lf_RX2_9 : mLf RX2 9 "MoonVeto$Readings" "bills" "[I" := Or.inl (tb_of 126 (by decide +kernel) (by decide +kernel))
theorem lf_RX2_15 : mLf RX2 15 "MoonVeto$Readings" "days" "[I" := Or.inl (tb_of 127 (by decide +kernel) (by decide +kernel))
theorem lf_RX2_18 : mLf RX2 18 "MoonVeto$Readings" "were" "[Z" := Or.inl (tb_of 128 (by decide +kernel) (by decide +kernel))
theorem lf_RX2_22 : mLf RX2 22 "MoonVeto$Readings" "count" "I" := Or.inl (tb_of 129 (by decide +kernel) (by decide +kernel))
theorem lf_RX3_9 : mLf RX3 9 "MoonVeto$Sheet" "cells" "[I" := Or.inl (tb_of 148 (by decide +kernel) (by decide +kernel))
theorem lf_RX3_15 : mLf RX3 15 "MoonVeto$Sheet" "lane" "I" := Or.inl (tb_of 152 (by decide +kernel) (by decide +kernel))
theorem lf_RX3_19 : mLf RX3 19 "MoonVeto$Sheet" "length" "I" := Or.inl (tb_of 154 (by decide +kernel) (by decide +kernel))
theorem lf_RX7_12 : mLf RX7 12 "MoonVeto" "council" "LMoonVeto$Council;" := Or.inl (tb_of 162 (by decide +kernel) (by decide +kernel))
theorem lf_RX7_21 : mLf RX7 21 "MoonVeto" "readings" "LMoonVeto$Readings;" := Or.inl (tb_of 163 (by decide +kernel) (by decide +kernel))
theorem lf_RX7_27 : mLf RX7 27 "MoonVeto" "sheets" "[LMoonVeto$Sheet;" := Or.inl (tb_of 164 (by decide +kernel) (by decide +kernel))
theorem lf_RX7_227 : mLf RX7 227 "MoonVeto" "traced" "I" := Or.inl (tb_of 165 (by decide +kernel) (by decide +kernel))
theorem lf_RX7_32 : mLf RX7 32 "MoonVeto" "latestFault" "I" := Or.inl (tb_of 166 (by decide +kernel) (by decide +kernel))
theorem lf_RJ0_38 : mLf RJ0 38 "java/lang/String" "COMPACT_STRINGS" "Z" := Or.inl (tb_of 227 (by decide +kernel) (by decide +kernel))
theorem lf_RJ0_1053 : mLf RJ0 1053 "jdk/internal/util/Preconditions" "SIOOBE_FORMATTER" "Ljava/util/function/BiFunction;" := Or.inl (tb_of 235 (by decide +kernel) (by decide +kernel))
theorem lf_RJ2_44 : mLf RJ2 44 "java/lang/StringUTF16" "$assertionsDisabled" "Z" := Or.inl (tb_of 253 (by decide +kernel) (by decide +kernel))
theorem lf_RJ2_59 : mLf RJ2 59 "java/lang/StringUTF16" "HI_BYTE_SHIFT" "I" := Or.inl (tb_of 255 (by decide +kernel) (by decide +kernel))
theorem lf_RJ2_63 : mLf RJ2 63 "java/lang/StringUTF16" "LO_BYTE_SHIFT" "I" := Or.inl (tb_of 257 (by decide +kernel) (by decide +kernel))
theorem lf_RX8_63 : mLf RX8 63 "MoonVetoModel" "fault" "I" := Or.inl (tb_of 608 (by decide +kernel) (by decide +kernel))
theorem lf_RX8_215 : mLf RX8 215 "MoonVetoModel" "trace" "I" := Or.inl (tb_of 609 (by decide +kernel) (by decide +kernel))
theorem lf_RX8_9 : mLf RX8 9 "MoonVetoModel" "sorts" "[I" := Or.inl (tb_of 610 (by decide +kernel) (by decide +kernel))
theorem lf_RX8_13 : mLf RX8 13 "MoonVetoModel" "sheetLong" "[I" := Or.inl (tb_of 611 (by decide +kernel) (by decide +kernel))
theorem lf_RX8_16 : mLf RX8 16 "MoonVetoModel" "cells" "[I" := Or.inl (tb_of 612 (by decide +kernel) (by decide +kernel))
theorem lf_RX8_103 : mLf RX8 103 "MoonVetoModel" "origin" "I" := Or.inl (tb_of 613 (by decide +kernel) (by decide +kernel))
theorem lf_RX8_109 : mLf RX8 109 "MoonVetoModel" "upper" "I" := Or.inl (tb_of 614 (by decide +kernel) (by decide +kernel))
theorem lf_RX8_115 : mLf RX8 115 "MoonVetoModel" "lower" "I" := Or.inl (tb_of 615 (by decide +kernel) (by decide +kernel))
theorem lf_RX8_121 : mLf RX8 121 "MoonVetoModel" "span" "I" := Or.inl (tb_of 616 (by decide +kernel) (by decide +kernel))
theorem lf_RX8_72 : mLf RX8 72 "MoonVetoModel" "bills" "I" := Or.inl (tb_of 617 (by decide +kernel) (by decide +kernel))
theorem lf_RX8_19 : mLf RX8 19 "MoonVetoModel" "kind" "[I" := Or.inl (tb_of 618 (by decide +kernel) (by decide +kernel))
theorem lf_RX8_22 : mLf RX8 22 "MoonVetoModel" "dayOf" "[I" := Or.inl (tb_of 619 (by decide +kernel) (by decide +kernel))
theorem lf_RX8_25 : mLf RX8 25 "MoonVetoModel" "needs" "[I" := Or.inl (tb_of 620 (by decide +kernel) (by decide +kernel))
theorem lf_RX8_28 : mLf RX8 28 "MoonVetoModel" "names" "[I" := Or.inl (tb_of 621 (by decide +kernel) (by decide +kernel))
theorem lf_RX8_31 : mLf RX8 31 "MoonVetoModel" "lasts" "[I" := Or.inl (tb_of 622 (by decide +kernel) (by decide +kernel))
theorem lf_RX8_127 : mLf RX8 127 "MoonVetoModel" "nights" "I" := Or.inl (tb_of 623 (by decide +kernel) (by decide +kernel))
theorem lf_RX8_34 : mLf RX8 34 "MoonVetoModel" "isClouded" "[Z" := Or.inl (tb_of 624 (by decide +kernel) (by decide +kernel))
theorem lf_RX8_155 : mLf RX8 155 "MoonVetoModel" "cloudedToo" "I" := Or.inl (tb_of 625 (by decide +kernel) (by decide +kernel))
theorem lf_RX8_158 : mLf RX8 158 "MoonVetoModel" "onlyThese" "Z" := Or.inl (tb_of 626 (by decide +kernel) (by decide +kernel))
theorem lf_RX8_38 : mLf RX8 38 "MoonVetoModel" "struckToo" "I" := Or.inl (tb_of 627 (by decide +kernel) (by decide +kernel))
theorem lf_RX8_75 : mLf RX8 75 "MoonVetoModel" "at" "I" := Or.inl (tb_of 628 (by decide +kernel) (by decide +kernel))
theorem lf_RX8_100 : mLf RX8 100 "MoonVetoModel" "readOrigin" "I" := Or.inl (tb_of 629 (by decide +kernel) (by decide +kernel))
theorem lf_RX8_106 : mLf RX8 106 "MoonVetoModel" "readUpper" "I" := Or.inl (tb_of 630 (by decide +kernel) (by decide +kernel))
theorem lf_RX8_112 : mLf RX8 112 "MoonVetoModel" "readLower" "I" := Or.inl (tb_of 631 (by decide +kernel) (by decide +kernel))
theorem lf_RX8_118 : mLf RX8 118 "MoonVetoModel" "readSpan" "I" := Or.inl (tb_of 632 (by decide +kernel) (by decide +kernel))
theorem lf_RX8_124 : mLf RX8 124 "MoonVetoModel" "readMany" "I" := Or.inl (tb_of 633 (by decide +kernel) (by decide +kernel))
theorem lf_RX8_42 : mLf RX8 42 "MoonVetoModel" "read" "[I" := Or.inl (tb_of 634 (by decide +kernel) (by decide +kernel))
theorem lf_RX8_45 : mLf RX8 45 "MoonVetoModel" "order" "[I" := Or.inl (tb_of 635 (by decide +kernel) (by decide +kernel))
theorem lf_RX8_48 : mLf RX8 48 "MoonVetoModel" "doesPass" "[Z" := Or.inl (tb_of 636 (by decide +kernel) (by decide +kernel))
theorem lf_RX8_51 : mLf RX8 51 "MoonVetoModel" "inForce" "[Z" := Or.inl (tb_of 637 (by decide +kernel) (by decide +kernel))
theorem lf_RX8_130 : mLf RX8 130 "MoonVetoModel" "readings" "I" := Or.inl (tb_of 638 (by decide +kernel) (by decide +kernel))
theorem lf_RX8_54 : mLf RX8 54 "MoonVetoModel" "readBillOf" "[I" := Or.inl (tb_of 639 (by decide +kernel) (by decide +kernel))
theorem lf_RX8_57 : mLf RX8 57 "MoonVetoModel" "readDay" "[I" := Or.inl (tb_of 640 (by decide +kernel) (by decide +kernel))
theorem lf_RX8_60 : mLf RX8 60 "MoonVetoModel" "readWas" "[Z" := Or.inl (tb_of 641 (by decide +kernel) (by decide +kernel))
theorem lf_RJ0_15 : mLf RJ0 15 "java/lang/String" "coder" "B" := Or.inl (tb_of 962 (by decide +kernel) (by decide +kernel))
theorem lf_RJ0_9 : mLf RJ0 9 "java/lang/String" "value" "[B" := Or.inl (tb_of 963 (by decide +kernel) (by decide +kernel))
theorem lf_RX7_233 : mLf RX7 233 "MoonVeto$Sky" "cloudedNights" "I" := Or.inr ⟨"MoonVeto", tn_of 40 (by decide +kernel) (by decide +kernel)⟩
theorem lf_RX6_69 : mLf RX6 69 "MoonVeto$Sky" "begins" "I" := Or.inr ⟨"MoonVeto", tn_of 42 (by decide +kernel) (by decide +kernel)⟩
theorem lf_RX7_230 : mLf RX7 230 "MoonVeto$Sky" "begins" "I" := Or.inr ⟨"MoonVeto", tn_of 43 (by decide +kernel) (by decide +kernel)⟩
theorem lf_RX7_73 : mLf RX7 73 "MoonVeto$Bill" "kind" "I" := Or.inr ⟨"MoonVeto", tn_of 66 (by decide +kernel) (by decide +kernel)⟩
theorem lf_RX6_72 : mLf RX6 72 "MoonVeto$Bill" "kind" "I" := Or.inr ⟨"MoonVeto", tn_of 67 (by decide +kernel) (by decide +kernel)⟩
theorem lf_RX1_87 : mLf RX1 87 "MoonVeto$Bill" "kind" "I" := Or.inr ⟨"MoonVeto", tn_of 68 (by decide +kernel) (by decide +kernel)⟩
theorem lf_RX6_45 : mLf RX6 45 "MoonVeto$Bill" "day" "I" := Or.inr ⟨"MoonVeto", tn_of 70 (by decide +kernel) (by decide +kernel)⟩
theorem lf_RX7_78 : mLf RX7 78 "MoonVeto$Bill" "day" "I" := Or.inr ⟨"MoonVeto", tn_of 71 (by decide +kernel) (by decide +kernel)⟩
theorem lf_RX1_60 : mLf RX1 60 "MoonVeto$Bill" "day" "I" := Or.inr ⟨"MoonVeto", tn_of 72 (by decide +kernel) (by decide +kernel)⟩
theorem lf_RX7_81 : mLf RX7 81 "MoonVeto$Bill" "needs" "I" := Or.inr ⟨"MoonVeto", tn_of 74 (by decide +kernel) (by decide +kernel)⟩
theorem lf_RX1_76 : mLf RX1 76 "MoonVeto$Bill" "needs" "I" := Or.inr ⟨"MoonVeto", tn_of 75 (by decide +kernel) (by decide +kernel)⟩
theorem lf_RX7_84 : mLf RX7 84 "MoonVeto$Bill" "names" "I" := Or.inr ⟨"MoonVeto", tn_of 77 (by decide +kernel) (by decide +kernel)⟩
theorem lf_RX1_90 : mLf RX1 90 "MoonVeto$Bill" "names" "I" := Or.inr ⟨"MoonVeto", tn_of 78 (by decide +kernel) (by decide +kernel)⟩
theorem lf_RX7_87 : mLf RX7 87 "MoonVeto$Bill" "lasts" "I" := Or.inr ⟨"MoonVeto", tn_of 80 (by decide +kernel) (by decide +kernel)⟩
theorem lf_RX1_66 : mLf RX1 66 "MoonVeto$Bill" "moons" "I" := Or.inr ⟨"MoonVeto", tn_of 81 (by decide +kernel) (by decide +kernel)⟩
theorem lf_RX7_113 : mLf RX7 113 "MoonVeto$Bill" "moons" "I" := Or.inr ⟨"MoonVeto", tn_of 82 (by decide +kernel) (by decide +kernel)⟩
theorem lf_RX6_14 : mLf RX6 14 "MoonVeto$Council" "sky" "LMoonVeto$Sky;" := Or.inr ⟨"MoonVeto", tn_of 97 (by decide +kernel) (by decide +kernel)⟩
theorem lf_RX7_94 : mLf RX7 94 "MoonVeto$Council" "sky" "LMoonVeto$Sky;" := Or.inr ⟨"MoonVeto", tn_of 98 (by decide +kernel) (by decide +kernel)⟩
theorem lf_RX6_41 : mLf RX6 41 "MoonVeto$Council" "bills" "[LMoonVeto$Bill;" := Or.inr ⟨"MoonVeto", tn_of 100 (by decide +kernel) (by decide +kernel)⟩
theorem lf_RX7_69 : mLf RX7 69 "MoonVeto$Council" "bills" "[LMoonVeto$Bill;" := Or.inr ⟨"MoonVeto", tn_of 101 (by decide +kernel) (by decide +kernel)⟩
theorem lf_RX7_65 : mLf RX7 65 "MoonVeto$Council" "count" "I" := Or.inr ⟨"MoonVeto", tn_of 103 (by decide +kernel) (by decide +kernel)⟩
theorem lf_RX7_103 : mLf RX7 103 "MoonVeto$Council" "watch" "I" := Or.inr ⟨"MoonVeto", tn_of 105 (by decide +kernel) (by decide +kernel)⟩
theorem lf_RX6_60 : mLf RX6 60 "MoonVeto$Council" "watch" "I" := Or.inr ⟨"MoonVeto", tn_of 106 (by decide +kernel) (by decide +kernel)⟩
theorem lf_RX7_125 : mLf RX7 125 "MoonVeto$Council" "passes" "I" := Or.inr ⟨"MoonVeto", tn_of 108 (by decide +kernel) (by decide +kernel)⟩
theorem lf_RX7_62 : mLf RX7 62 "MoonVeto$Readings" "count" "I" := Or.inr ⟨"MoonVeto", tn_of 130 (by decide +kernel) (by decide +kernel)⟩
theorem lf_RX0_15 : mLf RX0 15 "MoonVeto$Sheet" "cells" "[I" := Or.inr ⟨"MoonVeto", tn_of 149 (by decide +kernel) (by decide +kernel)⟩
theorem lf_RX5_9 : mLf RX5 9 "MoonVeto$Sheet" "cells" "[I" := Or.inr ⟨"MoonVeto", tn_of 150 (by decide +kernel) (by decide +kernel)⟩
theorem lf_RX7_134 : mLf RX7 134 "MoonVeto$Sheet" "cells" "[I" := Or.inr ⟨"MoonVeto", tn_of 151 (by decide +kernel) (by decide +kernel)⟩
theorem lf_RX7_199 : mLf RX7 199 "MoonVeto$Sheet" "lane" "I" := Or.inr ⟨"MoonVeto", tn_of 153 (by decide +kernel) (by decide +kernel)⟩
theorem lc_RX1_100 : Cond.constantLong RX1 100 (-1) ∈ gT := tb_of 377 (by decide +kernel) (by decide +kernel)
theorem lc_RJ6_264 : Cond.constant RJ6 264 (65536) ∈ gT := tb_of 382 (by decide +kernel) (by decide +kernel)
theorem lc_RJ13_314 : Cond.constantLong RJ13 314 (6148914691236517205) ∈ gT := tb_of 406 (by decide +kernel) (by decide +kernel)
theorem lc_RJ13_316 : Cond.constantLong RJ13 316 (3689348814741910323) ∈ gT := tb_of 407 (by decide +kernel) (by decide +kernel)
theorem lc_RJ13_318 : Cond.constantLong RJ13 318 (1085102592571150095) ∈ gT := tb_of 408 (by decide +kernel) (by decide +kernel)
theorem lc_RJ6_265 : Cond.constant RJ6 265 (1431655765) ∈ gT := tb_of 429 (by decide +kernel) (by decide +kernel)
theorem lc_RJ6_266 : Cond.constant RJ6 266 (858993459) ∈ gT := tb_of 430 (by decide +kernel) (by decide +kernel)
theorem lc_RJ6_267 : Cond.constant RJ6 267 (252645135) ∈ gT := tb_of 431 (by decide +kernel) (by decide +kernel)
theorem lc_RX7_174 : Cond.constantLong RX7 174 (-9223372036854775808) ∈ gT := tb_of 511 (by decide +kernel) (by decide +kernel)
theorem lc_RX8_66 : Cond.constantLong RX8 66 (-9223372036854775808) ∈ gT := tb_of 906 (by decide +kernel) (by decide +kernel)
theorem inX0 : ∀ w ∈ u_ws RX0 TX0 6, w ∈ gT := in_of (by decide +kernel)
theorem inX1 : ∀ w ∈ u_ws RX1 TX1 5, w ∈ gT := in_of (by decide +kernel)
theorem inX2 : ∀ w ∈ u_ws RX2 TX2 4, w ∈ gT := in_of (by decide +kernel)
theorem inX3 : ∀ w ∈ u_ws RX3 TX3 3, w ∈ gT := in_of (by decide +kernel)
theorem inX4 : ∀ w ∈ u_ws RX4 TX4 5, w ∈ gT := in_of (by decide +kernel)
theorem inX7 : ∀ w ∈ u_ws RX7 TX7 5, w ∈ gT := in_of (by decide +kernel)
theorem inX8 : ∀ w ∈ u_ws RX8 TX8 34, w ∈ gT := in_of (by decide +kernel)
end
section
/-! ===== the two worlds ===== -/
abbrev mC : Type := ClassId × ClassId × ClassId × ClassId
abbrev mTy (cs : mC) : List (ClassId × FieldType) := [(cs.1, .int), (cs.2.1, .boolean), (cs.2.2.1, .object "MoonVeto$Bill"), (cs.2.2.2, .object "MoonVeto$Sheet")]
def mRow (ρ : Int → Int) : Nat → Int32 := fun j => Int32.ofInt (ρ (j : Int))
/-- the class: 0 MoonVeto, 1 Council, 2 Sky, 3 its nights, 4 the bills' row, 5 .. 10 bills, 11 Readings, 12 13 14 its rows, 15 the sheets' row, 16 .. 19 sheets, 20 .. 23 their cells -/
def EXr (cs : mC) (ad : Int → Nat) (ρ : Int → Int) (k : Int) : va_E :=
  if k = 0 then .inr (5, [.ref (ad 1), .ref (ad 11), .ref (ad 15), mI (ρ 3), mI (ρ 4)])
  else if k = 1 then .inr (1, [.ref (ad 2), .ref (ad 4), mI (ρ 2), mI (ρ 3), mI (ρ 4)])
  else if k = 2 then .inr (4, [.ref (ad 3), mI (ρ 1), mI (ρ 2), mI (ρ 3), mI (ρ 4)])
  else if k = 3 then .inl (cs.2.1, 110, .inl (mRow ρ))
  else if k = 4 then .inl (cs.2.2.1, 6, .inr (.inr (.inr (.inr (fun j => some (ad (5 + (j : Int))))))))
  else if k < 11 then .inr (0, [mI (ρ 0), mI (ρ 1), mI (ρ 2), mI (ρ 3), mI (ρ 4), mI (ρ 5)])
  else if k = 11 then .inr (2, [.ref (ad 12), .ref (ad 13), .ref (ad 14), mI (ρ 3)])
  else if k = 12 then .inl (cs.1, 8, .inl (mRow ρ))
  else if k = 13 then .inl (cs.1, 8, .inl (mRow ρ))
  else if k = 14 then .inl (cs.2.1, 8, .inl (mRow ρ))
  else if k = 15 then .inl (cs.2.2.2, 4, .inr (.inr (.inr (.inr (fun j => some (ad (16 + (j : Int))))))))
  else if k < 20 then .inr (3, [.ref (ad (k + 4)), mI (ρ 1), mI (ρ 2)])
  else .inl (cs.1, 60, .inl (mRow ρ))
def EX (cs : mC) (ad : Int → Nat) (σ : mS) (k : Int) : va_E := EXr cs ad (σ k) k
abbrev gX (D : va_G) (cs : mC) (ad : Int → Nat) : mE := (D, mTy cs, 24, ad, EX cs ad)
/-- the reference: 0 the object; its rows: 1 sorts, 2 sheetLong, 3 cells, 4 kind, 5 dayOf, 6 needs, 7 names, 8 lasts, 9 isClouded, 10 read, 11 order, 12 doesPass, 13 inForce, 14 readBillOf, 15 readDay, 16 readWas -/
def EMr (cs : mC) (ad : Int → Nat) (ρ : Int → Int) (k : Int) : va_E :=
  if k = 0 then .inr (6, [mI (ρ 0), mI (ρ 1), .ref (ad 1), .ref (ad 2), .ref (ad 3), mI (ρ 5), mI (ρ 6), mI (ρ 7), mI (ρ 8), mI (ρ 9), .ref (ad 4), .ref (ad 5), .ref (ad 6), .ref (ad 7), .ref (ad 8), mI (ρ 15), .ref (ad 9), mI (ρ 17), mI (ρ 18), mI (ρ 19), mI (ρ 20), mI (ρ 21), mI (ρ 22), mI (ρ 23), mI (ρ 24), mI (ρ 25), .ref (ad 10), .ref (ad 11), .ref (ad 12), .ref (ad 13), mI (ρ 30), .ref (ad 14), .ref (ad 15), .ref (ad 16)])
  else if k = 1 then .inl (cs.1, 4, .inl (mRow ρ))
  else if k = 2 then .inl (cs.1, 4, .inl (mRow ρ))
  else if k = 3 then .inl (cs.1, 240, .inl (mRow ρ))
  else if k < 9 then .inl (cs.1, 6, .inl (mRow ρ))
  else if k = 9 then .inl (cs.2.1, 110, .inl (mRow ρ))
  else if k = 10 then .inl (cs.1, 30, .inl (mRow ρ))
  else if k = 11 then .inl (cs.1, 6, .inl (mRow ρ))
  else if k < 14 then .inl (cs.2.1, 6, .inl (mRow ρ))
  else if k < 16 then .inl (cs.1, 8, .inl (mRow ρ))
  else .inl (cs.2.1, 8, .inl (mRow ρ))
def EM (cs : mC) (ad : Int → Nat) (σ : mS) (k : Int) : va_E := EMr cs ad (σ k) k
abbrev gM (D : va_G) (cs : mC) (ad : Int → Nat) : mE := (D, mTy cs, 17, ad, EM cs ad)
theorem mUp_row (σ : mS) (k j v : Int) : mUp σ k j v k = fun b => if b = j then v else σ k b := by
  funext b
  simp [mUp]
theorem mUp_off (σ : mS) {k a : Int} (j v : Int) (h : a ≠ k) : mUp σ k j v a = σ a := by
  funext b
  exact mUp_ne σ v (Or.inl h)
theorem EX_off {cs : mC} {ad : Int → Nat} (σ : mS) (k j v : Int) : ∀ a : Int, a ≠ k → EX cs ad (mUp σ k j v) a = EX cs ad σ a := fun a h => by unfold EX; rw [mUp_off σ j v h]
theorem EM_off {cs : mC} {ad : Int → Nat} (σ : mS) (k j v : Int) : ∀ a : Int, a ≠ k → EM cs ad (mUp σ k j v) a = EM cs ad σ a := fun a h => by unfold EM; rw [mUp_off σ j v h]
theorem mRow_at (ρ : Int → Int) {i : Int} (h : 0 ≤ i) : mRow ρ i.toNat = Int32.ofInt (ρ i) := by
  unfold mRow
  rw [Int.toNat_of_nonneg h]
theorem mRow_up (σ : mS) (k : Int) {i : Int} (v : Int) (h : 0 ≤ i) : mRow (mUp σ k i v k) = upd (mRow (σ k)) i.toNat (Int32.ofInt v) := by
  funext j
  unfold mRow upd
  rw [mUp_row]
  show Int32.ofInt (if (j : Int) = i then v else σ k (j : Int)) = if j = i.toNat then Int32.ofInt v else Int32.ofInt (σ k (j : Int))
  by_cases hj : j = i.toNat
  · rw [if_pos hj, if_pos (by omega)]
  · rw [if_neg hj, if_neg (by omega)]
theorem EX_0 (cs : mC) (ad : Int → Nat) (σ : mS) : EX cs ad σ 0 = .inr (5, [.ref (ad 1), .ref (ad 11), .ref (ad 15), mI (σ 0 3), mI (σ 0 4)]) := by simp [EX, EXr]
theorem EX_1 (cs : mC) (ad : Int → Nat) (σ : mS) : EX cs ad σ 1 = .inr (1, [.ref (ad 2), .ref (ad 4), mI (σ 1 2), mI (σ 1 3), mI (σ 1 4)]) := by simp [EX, EXr]
theorem EX_2 (cs : mC) (ad : Int → Nat) (σ : mS) : EX cs ad σ 2 = .inr (4, [.ref (ad 3), mI (σ 2 1), mI (σ 2 2), mI (σ 2 3), mI (σ 2 4)]) := by simp [EX, EXr]
theorem EX_3 (cs : mC) (ad : Int → Nat) (σ : mS) : EX cs ad σ 3 = .inl (cs.2.1, 110, .inl (mRow (σ 3))) := by simp [EX, EXr]
theorem EX_4 (cs : mC) (ad : Int → Nat) (σ : mS) : EX cs ad σ 4 = .inl (cs.2.2.1, 6, .inr (.inr (.inr (.inr (fun j => some (ad (5 + (j : Int)))))))) := by simp [EX, EXr]
theorem EX_11 (cs : mC) (ad : Int → Nat) (σ : mS) : EX cs ad σ 11 = .inr (2, [.ref (ad 12), .ref (ad 13), .ref (ad 14), mI (σ 11 3)]) := by simp [EX, EXr]
theorem EX_12 (cs : mC) (ad : Int → Nat) (σ : mS) : EX cs ad σ 12 = .inl (cs.1, 8, .inl (mRow (σ 12))) := by simp [EX, EXr]
theorem EX_13 (cs : mC) (ad : Int → Nat) (σ : mS) : EX cs ad σ 13 = .inl (cs.1, 8, .inl (mRow (σ 13))) := by simp [EX, EXr]
theorem EX_14 (cs : mC) (ad : Int → Nat) (σ : mS) : EX cs ad σ 14 = .inl (cs.2.1, 8, .inl (mRow (σ 14))) := by simp [EX, EXr]
theorem EX_15 (cs : mC) (ad : Int → Nat) (σ : mS) : EX cs ad σ 15 = .inl (cs.2.2.2, 4, .inr (.inr (.inr (.inr (fun j => some (ad (16 + (j : Int)))))))) := by simp [EX, EXr]
theorem EX_b (cs : mC) (ad : Int → Nat) (σ : mS) {k : Int} (h0 : 5 ≤ k) (h1 : k < 11) : EX cs ad σ k = .inr (0, [mI (σ k 0), mI (σ k 1), mI (σ k 2), mI (σ k 3), mI (σ k 4), mI (σ k 5)]) := by
  unfold EX EXr
  rw [if_neg (by omega), if_neg (by omega), if_neg (by omega), if_neg (by omega), if_neg (by omega), if_pos h1]
theorem EX_s (cs : mC) (ad : Int → Nat) (σ : mS) {k : Int} (h0 : 16 ≤ k) (h1 : k < 20) : EX cs ad σ k = .inr (3, [.ref (ad (k + 4)), mI (σ k 1), mI (σ k 2)]) := by
  unfold EX EXr
  rw [if_neg (by omega), if_neg (by omega), if_neg (by omega), if_neg (by omega), if_neg (by omega), if_neg (by omega), if_neg (by omega), if_neg (by omega), if_neg (by omega), if_neg (by omega), if_neg (by omega), if_pos h1]
theorem EX_c (cs : mC) (ad : Int → Nat) (σ : mS) {k : Int} (h0 : 20 ≤ k) : EX cs ad σ k = .inl (cs.1, 60, .inl (mRow (σ k))) := by
  unfold EX EXr
  rw [if_neg (by omega), if_neg (by omega), if_neg (by omega), if_neg (by omega), if_neg (by omega), if_neg (by omega), if_neg (by omega), if_neg (by omega), if_neg (by omega), if_neg (by omega), if_neg (by omega), if_neg (by omega)]
theorem EM_0 (cs : mC) (ad : Int → Nat) (σ : mS) : EM cs ad σ 0 = .inr (6, [mI (σ 0 0), mI (σ 0 1), .ref (ad 1), .ref (ad 2), .ref (ad 3), mI (σ 0 5), mI (σ 0 6), mI (σ 0 7), mI (σ 0 8), mI (σ 0 9), .ref (ad 4), .ref (ad 5), .ref (ad 6), .ref (ad 7), .ref (ad 8), mI (σ 0 15), .ref (ad 9), mI (σ 0 17), mI (σ 0 18), mI (σ 0 19), mI (σ 0 20), mI (σ 0 21), mI (σ 0 22), mI (σ 0 23), mI (σ 0 24), mI (σ 0 25), .ref (ad 10), .ref (ad 11), .ref (ad 12), .ref (ad 13), mI (σ 0 30), .ref (ad 14), .ref (ad 15), .ref (ad 16)]) := by simp [EM, EMr]
theorem EM_1 (cs : mC) (ad : Int → Nat) (σ : mS) : EM cs ad σ 1 = .inl (cs.1, 4, .inl (mRow (σ 1))) := by simp [EM, EMr]
theorem EM_2 (cs : mC) (ad : Int → Nat) (σ : mS) : EM cs ad σ 2 = .inl (cs.1, 4, .inl (mRow (σ 2))) := by simp [EM, EMr]
theorem EM_3 (cs : mC) (ad : Int → Nat) (σ : mS) : EM cs ad σ 3 = .inl (cs.1, 240, .inl (mRow (σ 3))) := by simp [EM, EMr]
theorem EM_4 (cs : mC) (ad : Int → Nat) (σ : mS) : EM cs ad σ 4 = .inl (cs.1, 6, .inl (mRow (σ 4))) := by simp [EM, EMr]
theorem EM_5 (cs : mC) (ad : Int → Nat) (σ : mS) : EM cs ad σ 5 = .inl (cs.1, 6, .inl (mRow (σ 5))) := by simp [EM, EMr]
theorem EM_6 (cs : mC) (ad : Int → Nat) (σ : mS) : EM cs ad σ 6 = .inl (cs.1, 6, .inl (mRow (σ 6))) := by simp [EM, EMr]
theorem EM_7 (cs : mC) (ad : Int → Nat) (σ : mS) : EM cs ad σ 7 = .inl (cs.1, 6, .inl (mRow (σ 7))) := by simp [EM, EMr]
theorem EM_8 (cs : mC) (ad : Int → Nat) (σ : mS) : EM cs ad σ 8 = .inl (cs.1, 6, .inl (mRow (σ 8))) := by simp [EM, EMr]
theorem EM_9 (cs : mC) (ad : Int → Nat) (σ : mS) : EM cs ad σ 9 = .inl (cs.2.1, 110, .inl (mRow (σ 9))) := by simp [EM, EMr]
theorem EM_10 (cs : mC) (ad : Int → Nat) (σ : mS) : EM cs ad σ 10 = .inl (cs.1, 30, .inl (mRow (σ 10))) := by simp [EM, EMr]
theorem EM_11 (cs : mC) (ad : Int → Nat) (σ : mS) : EM cs ad σ 11 = .inl (cs.1, 6, .inl (mRow (σ 11))) := by simp [EM, EMr]
theorem EM_12 (cs : mC) (ad : Int → Nat) (σ : mS) : EM cs ad σ 12 = .inl (cs.2.1, 6, .inl (mRow (σ 12))) := by simp [EM, EMr]
theorem EM_13 (cs : mC) (ad : Int → Nat) (σ : mS) : EM cs ad σ 13 = .inl (cs.2.1, 6, .inl (mRow (σ 13))) := by simp [EM, EMr]
theorem EM_14 (cs : mC) (ad : Int → Nat) (σ : mS) : EM cs ad σ 14 = .inl (cs.1, 8, .inl (mRow (σ 14))) := by simp [EM, EMr]
theorem EM_15 (cs : mC) (ad : Int → Nat) (σ : mS) : EM cs ad σ 15 = .inl (cs.1, 8, .inl (mRow (σ 15))) := by simp [EM, EMr]
theorem EM_16 (cs : mC) (ad : Int → Nat) (σ : mS) : EM cs ad σ 16 = .inl (cs.2.1, 8, .inl (mRow (σ 16))) := by simp [EM, EMr]
section WR
variable {x : mX} {l : Launch} {μ : mM} {n : Nat} {pc : Nat} {lv : List (Nat × Value)} {st : List Value} {σ : mS} {D : va_G} {cs : mC} {ad : Int → Nat}
theorem gxV_council (h : mOk x l μ n (gX D cs ad)) {idx : Nat} (hd : decode μ.2.1 pc = .ok (.getfield idx, 3)) (hL : mLf μ.1.cls idx (TX7 0).1 (TX7 0).2.1 (TX7 0).2.2.1) (kk : mG x (pc + 3) lv (.ref (ad 1) :: st) σ) : mG x pc lv (.ref (ad 0) :: st) σ :=
  g_getf h (k := 0) inX7 (rfl : vwCl[5]? = some (RX7, TX7, 5)) (j := 0) (by decide) hL hd (by decide) (by show (0 : Int) < 24; decide) (EX_0 cs ad σ) rfl kk
theorem gxV_readings (h : mOk x l μ n (gX D cs ad)) {idx : Nat} (hd : decode μ.2.1 pc = .ok (.getfield idx, 3)) (hL : mLf μ.1.cls idx (TX7 1).1 (TX7 1).2.1 (TX7 1).2.2.1) (kk : mG x (pc + 3) lv (.ref (ad 11) :: st) σ) : mG x pc lv (.ref (ad 0) :: st) σ :=
  g_getf h (k := 0) inX7 (rfl : vwCl[5]? = some (RX7, TX7, 5)) (j := 1) (by decide) hL hd (by decide) (by show (0 : Int) < 24; decide) (EX_0 cs ad σ) rfl kk
theorem gxV_sheets (h : mOk x l μ n (gX D cs ad)) {idx : Nat} (hd : decode μ.2.1 pc = .ok (.getfield idx, 3)) (hL : mLf μ.1.cls idx (TX7 2).1 (TX7 2).2.1 (TX7 2).2.2.1) (kk : mG x (pc + 3) lv (.ref (ad 15) :: st) σ) : mG x pc lv (.ref (ad 0) :: st) σ :=
  g_getf h (k := 0) inX7 (rfl : vwCl[5]? = some (RX7, TX7, 5)) (j := 2) (by decide) hL hd (by decide) (by show (0 : Int) < 24; decide) (EX_0 cs ad σ) rfl kk
theorem gxV_traced (h : mOk x l μ n (gX D cs ad)) {idx : Nat} (hd : decode μ.2.1 pc = .ok (.getfield idx, 3)) (hL : mLf μ.1.cls idx (TX7 3).1 (TX7 3).2.1 (TX7 3).2.2.1) (kk : mG x (pc + 3) lv (mI (σ 0 3) :: st) σ) : mG x pc lv (.ref (ad 0) :: st) σ :=
  g_getf h (k := 0) inX7 (rfl : vwCl[5]? = some (RX7, TX7, 5)) (j := 3) (by decide) hL hd (by decide) (by show (0 : Int) < 24; decide) (EX_0 cs ad σ) rfl kk
theorem pxV_traced (h : mOk x l μ n (gX D cs ad)) {idx : Nat} {v : Int} (hd : decode μ.2.1 pc = .ok (.putfield idx, 3)) (hL : mLf μ.1.cls idx (TX7 3).1 (TX7 3).2.1 (TX7 3).2.2.1) (kk : mG x (pc + 3) lv st (mUp σ 0 3 v)) : mG x pc lv (mI v :: .ref (ad 0) :: st) σ :=
  g_putf h (k := 0) (σ' := mUp σ 0 3 v) (ty := .int) inX7 tyX7 tyX7_ok nmX7 (rfl : vwCl[5]? = some (RX7, TX7, 5)) (j := 3) (by decide) hL rfl (by decide +kernel) rfl rfl (Nat.le_of_ble_eq_true rfl) hd (by decide) (by show (0 : Int) < 24; decide) (EX_0 cs ad σ) (by show EX cs ad (mUp σ 0 3 v) 0 = _; rw [EX_0 cs ad (mUp σ 0 3 v)]; simp [mUp]) (EX_off σ 0 3 v) kk
theorem gxV_latestFault (h : mOk x l μ n (gX D cs ad)) {idx : Nat} (hd : decode μ.2.1 pc = .ok (.getfield idx, 3)) (hL : mLf μ.1.cls idx (TX7 4).1 (TX7 4).2.1 (TX7 4).2.2.1) (kk : mG x (pc + 3) lv (mI (σ 0 4) :: st) σ) : mG x pc lv (.ref (ad 0) :: st) σ :=
  g_getf h (k := 0) inX7 (rfl : vwCl[5]? = some (RX7, TX7, 5)) (j := 4) (by decide) hL hd (by decide) (by show (0 : Int) < 24; decide) (EX_0 cs ad σ) rfl kk
theorem pxV_latestFault (h : mOk x l μ n (gX D cs ad)) {idx : Nat} {v : Int} (hd : decode μ.2.1 pc = .ok (.putfield idx, 3)) (hL : mLf μ.1.cls idx (TX7 4).1 (TX7 4).2.1 (TX7 4).2.2.1) (kk : mG x (pc + 3) lv st (mUp σ 0 4 v)) : mG x pc lv (mI v :: .ref (ad 0) :: st) σ :=
  g_putf h (k := 0) (σ' := mUp σ 0 4 v) (ty := .int) inX7 tyX7 tyX7_ok nmX7 (rfl : vwCl[5]? = some (RX7, TX7, 5)) (j := 4) (by decide) hL rfl (by decide +kernel) rfl rfl (Nat.le_of_ble_eq_true rfl) hd (by decide) (by show (0 : Int) < 24; decide) (EX_0 cs ad σ) (by show EX cs ad (mUp σ 0 4 v) 0 = _; rw [EX_0 cs ad (mUp σ 0 4 v)]; simp [mUp]) (EX_off σ 0 4 v) kk
theorem gxC_sky (h : mOk x l μ n (gX D cs ad)) {idx : Nat} (hd : decode μ.2.1 pc = .ok (.getfield idx, 3)) (hL : mLf μ.1.cls idx (TX1 0).1 (TX1 0).2.1 (TX1 0).2.2.1) (kk : mG x (pc + 3) lv (.ref (ad 2) :: st) σ) : mG x pc lv (.ref (ad 1) :: st) σ :=
  g_getf h (k := 1) inX1 (rfl : vwCl[1]? = some (RX1, TX1, 5)) (j := 0) (by decide) hL hd (by decide) (by show (1 : Int) < 24; decide) (EX_1 cs ad σ) rfl kk
theorem gxC_bills (h : mOk x l μ n (gX D cs ad)) {idx : Nat} (hd : decode μ.2.1 pc = .ok (.getfield idx, 3)) (hL : mLf μ.1.cls idx (TX1 1).1 (TX1 1).2.1 (TX1 1).2.2.1) (kk : mG x (pc + 3) lv (.ref (ad 4) :: st) σ) : mG x pc lv (.ref (ad 1) :: st) σ :=
  g_getf h (k := 1) inX1 (rfl : vwCl[1]? = some (RX1, TX1, 5)) (j := 1) (by decide) hL hd (by decide) (by show (1 : Int) < 24; decide) (EX_1 cs ad σ) rfl kk
theorem gxC_count (h : mOk x l μ n (gX D cs ad)) {idx : Nat} (hd : decode μ.2.1 pc = .ok (.getfield idx, 3)) (hL : mLf μ.1.cls idx (TX1 2).1 (TX1 2).2.1 (TX1 2).2.2.1) (kk : mG x (pc + 3) lv (mI (σ 1 2) :: st) σ) : mG x pc lv (.ref (ad 1) :: st) σ :=
  g_getf h (k := 1) inX1 (rfl : vwCl[1]? = some (RX1, TX1, 5)) (j := 2) (by decide) hL hd (by decide) (by show (1 : Int) < 24; decide) (EX_1 cs ad σ) rfl kk
theorem pxC_count (h : mOk x l μ n (gX D cs ad)) {idx : Nat} {v : Int} (hd : decode μ.2.1 pc = .ok (.putfield idx, 3)) (hL : mLf μ.1.cls idx (TX1 2).1 (TX1 2).2.1 (TX1 2).2.2.1) (kk : mG x (pc + 3) lv st (mUp σ 1 2 v)) : mG x pc lv (mI v :: .ref (ad 1) :: st) σ :=
  g_putf h (k := 1) (σ' := mUp σ 1 2 v) (ty := .int) inX1 tyX1 tyX1_ok nmX1 (rfl : vwCl[1]? = some (RX1, TX1, 5)) (j := 2) (by decide) hL rfl (by decide +kernel) rfl rfl (Nat.le_of_ble_eq_true rfl) hd (by decide) (by show (1 : Int) < 24; decide) (EX_1 cs ad σ) (by show EX cs ad (mUp σ 1 2 v) 1 = _; rw [EX_1 cs ad (mUp σ 1 2 v)]; simp [mUp]) (EX_off σ 1 2 v) kk
theorem gxC_watch (h : mOk x l μ n (gX D cs ad)) {idx : Nat} (hd : decode μ.2.1 pc = .ok (.getfield idx, 3)) (hL : mLf μ.1.cls idx (TX1 3).1 (TX1 3).2.1 (TX1 3).2.2.1) (kk : mG x (pc + 3) lv (mI (σ 1 3) :: st) σ) : mG x pc lv (.ref (ad 1) :: st) σ :=
  g_getf h (k := 1) inX1 (rfl : vwCl[1]? = some (RX1, TX1, 5)) (j := 3) (by decide) hL hd (by decide) (by show (1 : Int) < 24; decide) (EX_1 cs ad σ) rfl kk
theorem pxC_watch (h : mOk x l μ n (gX D cs ad)) {idx : Nat} {v : Int} (hd : decode μ.2.1 pc = .ok (.putfield idx, 3)) (hL : mLf μ.1.cls idx (TX1 3).1 (TX1 3).2.1 (TX1 3).2.2.1) (kk : mG x (pc + 3) lv st (mUp σ 1 3 v)) : mG x pc lv (mI v :: .ref (ad 1) :: st) σ :=
  g_putf h (k := 1) (σ' := mUp σ 1 3 v) (ty := .int) inX1 tyX1 tyX1_ok nmX1 (rfl : vwCl[1]? = some (RX1, TX1, 5)) (j := 3) (by decide) hL rfl (by decide +kernel) rfl rfl (Nat.le_of_ble_eq_true rfl) hd (by decide) (by show (1 : Int) < 24; decide) (EX_1 cs ad σ) (by show EX cs ad (mUp σ 1 3 v) 1 = _; rw [EX_1 cs ad (mUp σ 1 3 v)]; simp [mUp]) (EX_off σ 1 3 v) kk
theorem gxC_passes (h : mOk x l μ n (gX D cs ad)) {idx : Nat} (hd : decode μ.2.1 pc = .ok (.getfield idx, 3)) (hL : mLf μ.1.cls idx (TX1 4).1 (TX1 4).2.1 (TX1 4).2.2.1) (kk : mG x (pc + 3) lv (mI (σ 1 4) :: st) σ) : mG x pc lv (.ref (ad 1) :: st) σ :=
  g_getf h (k := 1) inX1 (rfl : vwCl[1]? = some (RX1, TX1, 5)) (j := 4) (by decide) hL hd (by decide) (by show (1 : Int) < 24; decide) (EX_1 cs ad σ) rfl kk
theorem pxC_passes (h : mOk x l μ n (gX D cs ad)) {idx : Nat} {v : Int} (hd : decode μ.2.1 pc = .ok (.putfield idx, 3)) (hL : mLf μ.1.cls idx (TX1 4).1 (TX1 4).2.1 (TX1 4).2.2.1) (kk : mG x (pc + 3) lv st (mUp σ 1 4 v)) : mG x pc lv (mI v :: .ref (ad 1) :: st) σ :=
  g_putf h (k := 1) (σ' := mUp σ 1 4 v) (ty := .int) inX1 tyX1 tyX1_ok nmX1 (rfl : vwCl[1]? = some (RX1, TX1, 5)) (j := 4) (by decide) hL rfl (by decide +kernel) rfl rfl (Nat.le_of_ble_eq_true rfl) hd (by decide) (by show (1 : Int) < 24; decide) (EX_1 cs ad σ) (by show EX cs ad (mUp σ 1 4 v) 1 = _; rw [EX_1 cs ad (mUp σ 1 4 v)]; simp [mUp]) (EX_off σ 1 4 v) kk
theorem gxK_clouded (h : mOk x l μ n (gX D cs ad)) {idx : Nat} (hd : decode μ.2.1 pc = .ok (.getfield idx, 3)) (hL : mLf μ.1.cls idx (TX4 0).1 (TX4 0).2.1 (TX4 0).2.2.1) (kk : mG x (pc + 3) lv (.ref (ad 3) :: st) σ) : mG x pc lv (.ref (ad 2) :: st) σ :=
  g_getf h (k := 2) inX4 (rfl : vwCl[4]? = some (RX4, TX4, 5)) (j := 0) (by decide) hL hd (by decide) (by show (2 : Int) < 24; decide) (EX_2 cs ad σ) rfl kk
theorem gxK_cloudedNights (h : mOk x l μ n (gX D cs ad)) {idx : Nat} (hd : decode μ.2.1 pc = .ok (.getfield idx, 3)) (hL : mLf μ.1.cls idx (TX4 1).1 (TX4 1).2.1 (TX4 1).2.2.1) (kk : mG x (pc + 3) lv (mI (σ 2 1) :: st) σ) : mG x pc lv (.ref (ad 2) :: st) σ :=
  g_getf h (k := 2) inX4 (rfl : vwCl[4]? = some (RX4, TX4, 5)) (j := 1) (by decide) hL hd (by decide) (by show (2 : Int) < 24; decide) (EX_2 cs ad σ) rfl kk
theorem pxK_cloudedNights (h : mOk x l μ n (gX D cs ad)) {idx : Nat} {v : Int} (hd : decode μ.2.1 pc = .ok (.putfield idx, 3)) (hL : mLf μ.1.cls idx (TX4 1).1 (TX4 1).2.1 (TX4 1).2.2.1) (kk : mG x (pc + 3) lv st (mUp σ 2 1 v)) : mG x pc lv (mI v :: .ref (ad 2) :: st) σ :=
  g_putf h (k := 2) (σ' := mUp σ 2 1 v) (ty := .int) inX4 tyX4 tyX4_ok nmX4 (rfl : vwCl[4]? = some (RX4, TX4, 5)) (j := 1) (by decide) hL rfl (by decide +kernel) rfl rfl (Nat.le_of_ble_eq_true rfl) hd (by decide) (by show (2 : Int) < 24; decide) (EX_2 cs ad σ) (by show EX cs ad (mUp σ 2 1 v) 2 = _; rw [EX_2 cs ad (mUp σ 2 1 v)]; simp [mUp]) (EX_off σ 2 1 v) kk
theorem gxK_begins (h : mOk x l μ n (gX D cs ad)) {idx : Nat} (hd : decode μ.2.1 pc = .ok (.getfield idx, 3)) (hL : mLf μ.1.cls idx (TX4 2).1 (TX4 2).2.1 (TX4 2).2.2.1) (kk : mG x (pc + 3) lv (mI (σ 2 2) :: st) σ) : mG x pc lv (.ref (ad 2) :: st) σ :=
  g_getf h (k := 2) inX4 (rfl : vwCl[4]? = some (RX4, TX4, 5)) (j := 2) (by decide) hL hd (by decide) (by show (2 : Int) < 24; decide) (EX_2 cs ad σ) rfl kk
theorem pxK_begins (h : mOk x l μ n (gX D cs ad)) {idx : Nat} {v : Int} (hd : decode μ.2.1 pc = .ok (.putfield idx, 3)) (hL : mLf μ.1.cls idx (TX4 2).1 (TX4 2).2.1 (TX4 2).2.2.1) (kk : mG x (pc + 3) lv st (mUp σ 2 2 v)) : mG x pc lv (mI v :: .ref (ad 2) :: st) σ :=
  g_putf h (k := 2) (σ' := mUp σ 2 2 v) (ty := .int) inX4 tyX4 tyX4_ok nmX4 (rfl : vwCl[4]? = some (RX4, TX4, 5)) (j := 2) (by decide) hL rfl (by decide +kernel) rfl rfl (Nat.le_of_ble_eq_true rfl) hd (by decide) (by show (2 : Int) < 24; decide) (EX_2 cs ad σ) (by show EX cs ad (mUp σ 2 2 v) 2 = _; rw [EX_2 cs ad (mUp σ 2 2 v)]; simp [mUp]) (EX_off σ 2 2 v) kk
theorem gxK_upper (h : mOk x l μ n (gX D cs ad)) {idx : Nat} (hd : decode μ.2.1 pc = .ok (.getfield idx, 3)) (hL : mLf μ.1.cls idx (TX4 3).1 (TX4 3).2.1 (TX4 3).2.2.1) (kk : mG x (pc + 3) lv (mI (σ 2 3) :: st) σ) : mG x pc lv (.ref (ad 2) :: st) σ :=
  g_getf h (k := 2) inX4 (rfl : vwCl[4]? = some (RX4, TX4, 5)) (j := 3) (by decide) hL hd (by decide) (by show (2 : Int) < 24; decide) (EX_2 cs ad σ) rfl kk
theorem pxK_upper (h : mOk x l μ n (gX D cs ad)) {idx : Nat} {v : Int} (hd : decode μ.2.1 pc = .ok (.putfield idx, 3)) (hL : mLf μ.1.cls idx (TX4 3).1 (TX4 3).2.1 (TX4 3).2.2.1) (kk : mG x (pc + 3) lv st (mUp σ 2 3 v)) : mG x pc lv (mI v :: .ref (ad 2) :: st) σ :=
  g_putf h (k := 2) (σ' := mUp σ 2 3 v) (ty := .int) inX4 tyX4 tyX4_ok nmX4 (rfl : vwCl[4]? = some (RX4, TX4, 5)) (j := 3) (by decide) hL rfl (by decide +kernel) rfl rfl (Nat.le_of_ble_eq_true rfl) hd (by decide) (by show (2 : Int) < 24; decide) (EX_2 cs ad σ) (by show EX cs ad (mUp σ 2 3 v) 2 = _; rw [EX_2 cs ad (mUp σ 2 3 v)]; simp [mUp]) (EX_off σ 2 3 v) kk
theorem gxK_lower (h : mOk x l μ n (gX D cs ad)) {idx : Nat} (hd : decode μ.2.1 pc = .ok (.getfield idx, 3)) (hL : mLf μ.1.cls idx (TX4 4).1 (TX4 4).2.1 (TX4 4).2.2.1) (kk : mG x (pc + 3) lv (mI (σ 2 4) :: st) σ) : mG x pc lv (.ref (ad 2) :: st) σ :=
  g_getf h (k := 2) inX4 (rfl : vwCl[4]? = some (RX4, TX4, 5)) (j := 4) (by decide) hL hd (by decide) (by show (2 : Int) < 24; decide) (EX_2 cs ad σ) rfl kk
theorem pxK_lower (h : mOk x l μ n (gX D cs ad)) {idx : Nat} {v : Int} (hd : decode μ.2.1 pc = .ok (.putfield idx, 3)) (hL : mLf μ.1.cls idx (TX4 4).1 (TX4 4).2.1 (TX4 4).2.2.1) (kk : mG x (pc + 3) lv st (mUp σ 2 4 v)) : mG x pc lv (mI v :: .ref (ad 2) :: st) σ :=
  g_putf h (k := 2) (σ' := mUp σ 2 4 v) (ty := .int) inX4 tyX4 tyX4_ok nmX4 (rfl : vwCl[4]? = some (RX4, TX4, 5)) (j := 4) (by decide) hL rfl (by decide +kernel) rfl rfl (Nat.le_of_ble_eq_true rfl) hd (by decide) (by show (2 : Int) < 24; decide) (EX_2 cs ad σ) (by show EX cs ad (mUp σ 2 4 v) 2 = _; rw [EX_2 cs ad (mUp σ 2 4 v)]; simp [mUp]) (EX_off σ 2 4 v) kk
theorem gxR_bills (h : mOk x l μ n (gX D cs ad)) {idx : Nat} (hd : decode μ.2.1 pc = .ok (.getfield idx, 3)) (hL : mLf μ.1.cls idx (TX2 0).1 (TX2 0).2.1 (TX2 0).2.2.1) (kk : mG x (pc + 3) lv (.ref (ad 12) :: st) σ) : mG x pc lv (.ref (ad 11) :: st) σ :=
  g_getf h (k := 11) inX2 (rfl : vwCl[2]? = some (RX2, TX2, 4)) (j := 0) (by decide) hL hd (by decide) (by show (11 : Int) < 24; decide) (EX_11 cs ad σ) rfl kk
theorem gxR_days (h : mOk x l μ n (gX D cs ad)) {idx : Nat} (hd : decode μ.2.1 pc = .ok (.getfield idx, 3)) (hL : mLf μ.1.cls idx (TX2 1).1 (TX2 1).2.1 (TX2 1).2.2.1) (kk : mG x (pc + 3) lv (.ref (ad 13) :: st) σ) : mG x pc lv (.ref (ad 11) :: st) σ :=
  g_getf h (k := 11) inX2 (rfl : vwCl[2]? = some (RX2, TX2, 4)) (j := 1) (by decide) hL hd (by decide) (by show (11 : Int) < 24; decide) (EX_11 cs ad σ) rfl kk
theorem gxR_were (h : mOk x l μ n (gX D cs ad)) {idx : Nat} (hd : decode μ.2.1 pc = .ok (.getfield idx, 3)) (hL : mLf μ.1.cls idx (TX2 2).1 (TX2 2).2.1 (TX2 2).2.2.1) (kk : mG x (pc + 3) lv (.ref (ad 14) :: st) σ) : mG x pc lv (.ref (ad 11) :: st) σ :=
  g_getf h (k := 11) inX2 (rfl : vwCl[2]? = some (RX2, TX2, 4)) (j := 2) (by decide) hL hd (by decide) (by show (11 : Int) < 24; decide) (EX_11 cs ad σ) rfl kk
theorem gxR_count (h : mOk x l μ n (gX D cs ad)) {idx : Nat} (hd : decode μ.2.1 pc = .ok (.getfield idx, 3)) (hL : mLf μ.1.cls idx (TX2 3).1 (TX2 3).2.1 (TX2 3).2.2.1) (kk : mG x (pc + 3) lv (mI (σ 11 3) :: st) σ) : mG x pc lv (.ref (ad 11) :: st) σ :=
  g_getf h (k := 11) inX2 (rfl : vwCl[2]? = some (RX2, TX2, 4)) (j := 3) (by decide) hL hd (by decide) (by show (11 : Int) < 24; decide) (EX_11 cs ad σ) rfl kk
theorem pxR_count (h : mOk x l μ n (gX D cs ad)) {idx : Nat} {v : Int} (hd : decode μ.2.1 pc = .ok (.putfield idx, 3)) (hL : mLf μ.1.cls idx (TX2 3).1 (TX2 3).2.1 (TX2 3).2.2.1) (kk : mG x (pc + 3) lv st (mUp σ 11 3 v)) : mG x pc lv (mI v :: .ref (ad 11) :: st) σ :=
  g_putf h (k := 11) (σ' := mUp σ 11 3 v) (ty := .int) inX2 tyX2 tyX2_ok nmX2 (rfl : vwCl[2]? = some (RX2, TX2, 4)) (j := 3) (by decide) hL rfl (by decide +kernel) rfl rfl (Nat.le_of_ble_eq_true rfl) hd (by decide) (by show (11 : Int) < 24; decide) (EX_11 cs ad σ) (by show EX cs ad (mUp σ 11 3 v) 11 = _; rw [EX_11 cs ad (mUp σ 11 3 v)]; simp [mUp]) (EX_off σ 11 3 v) kk
theorem gxB_kind (h : mOk x l μ n (gX D cs ad)) {k : Int} (h0 : 5 ≤ k) (h1 : k < 11) {idx : Nat} (hd : decode μ.2.1 pc = .ok (.getfield idx, 3)) (hL : mLf μ.1.cls idx (TX0 0).1 (TX0 0).2.1 (TX0 0).2.2.1) (kk : mG x (pc + 3) lv (mI (σ k 0) :: st) σ) : mG x pc lv (.ref (ad k) :: st) σ :=
  g_getf h (k := k) inX0 (rfl : vwCl[0]? = some (RX0, TX0, 6)) (j := 0) (by decide) hL hd (by omega) (by show k < (24 : Int); omega) (EX_b cs ad σ h0 h1) rfl kk
theorem pxB_kind (h : mOk x l μ n (gX D cs ad)) {k : Int} (h0 : 5 ≤ k) (h1 : k < 11) {idx : Nat} {v : Int} (hd : decode μ.2.1 pc = .ok (.putfield idx, 3)) (hL : mLf μ.1.cls idx (TX0 0).1 (TX0 0).2.1 (TX0 0).2.2.1) (kk : mG x (pc + 3) lv st (mUp σ k 0 v)) : mG x pc lv (mI v :: .ref (ad k) :: st) σ :=
  g_putf h (k := k) (σ' := mUp σ k 0 v) (ty := .int) inX0 tyX0 tyX0_ok nmX0 (rfl : vwCl[0]? = some (RX0, TX0, 6)) (j := 0) (by decide) hL rfl (by decide +kernel) rfl rfl (Nat.le_of_ble_eq_true rfl) hd (by omega) (by show k < (24 : Int); omega) (EX_b cs ad σ h0 h1) (by show EX cs ad (mUp σ k 0 v) k = _; rw [EX_b cs ad (mUp σ k 0 v) h0 h1]; simp [mUp]) (EX_off σ k 0 v) kk
theorem gxB_day (h : mOk x l μ n (gX D cs ad)) {k : Int} (h0 : 5 ≤ k) (h1 : k < 11) {idx : Nat} (hd : decode μ.2.1 pc = .ok (.getfield idx, 3)) (hL : mLf μ.1.cls idx (TX0 1).1 (TX0 1).2.1 (TX0 1).2.2.1) (kk : mG x (pc + 3) lv (mI (σ k 1) :: st) σ) : mG x pc lv (.ref (ad k) :: st) σ :=
  g_getf h (k := k) inX0 (rfl : vwCl[0]? = some (RX0, TX0, 6)) (j := 1) (by decide) hL hd (by omega) (by show k < (24 : Int); omega) (EX_b cs ad σ h0 h1) rfl kk
theorem pxB_day (h : mOk x l μ n (gX D cs ad)) {k : Int} (h0 : 5 ≤ k) (h1 : k < 11) {idx : Nat} {v : Int} (hd : decode μ.2.1 pc = .ok (.putfield idx, 3)) (hL : mLf μ.1.cls idx (TX0 1).1 (TX0 1).2.1 (TX0 1).2.2.1) (kk : mG x (pc + 3) lv st (mUp σ k 1 v)) : mG x pc lv (mI v :: .ref (ad k) :: st) σ :=
  g_putf h (k := k) (σ' := mUp σ k 1 v) (ty := .int) inX0 tyX0 tyX0_ok nmX0 (rfl : vwCl[0]? = some (RX0, TX0, 6)) (j := 1) (by decide) hL rfl (by decide +kernel) rfl rfl (Nat.le_of_ble_eq_true rfl) hd (by omega) (by show k < (24 : Int); omega) (EX_b cs ad σ h0 h1) (by show EX cs ad (mUp σ k 1 v) k = _; rw [EX_b cs ad (mUp σ k 1 v) h0 h1]; simp [mUp]) (EX_off σ k 1 v) kk
theorem gxB_needs (h : mOk x l μ n (gX D cs ad)) {k : Int} (h0 : 5 ≤ k) (h1 : k < 11) {idx : Nat} (hd : decode μ.2.1 pc = .ok (.getfield idx, 3)) (hL : mLf μ.1.cls idx (TX0 2).1 (TX0 2).2.1 (TX0 2).2.2.1) (kk : mG x (pc + 3) lv (mI (σ k 2) :: st) σ) : mG x pc lv (.ref (ad k) :: st) σ :=
  g_getf h (k := k) inX0 (rfl : vwCl[0]? = some (RX0, TX0, 6)) (j := 2) (by decide) hL hd (by omega) (by show k < (24 : Int); omega) (EX_b cs ad σ h0 h1) rfl kk
theorem pxB_needs (h : mOk x l μ n (gX D cs ad)) {k : Int} (h0 : 5 ≤ k) (h1 : k < 11) {idx : Nat} {v : Int} (hd : decode μ.2.1 pc = .ok (.putfield idx, 3)) (hL : mLf μ.1.cls idx (TX0 2).1 (TX0 2).2.1 (TX0 2).2.2.1) (kk : mG x (pc + 3) lv st (mUp σ k 2 v)) : mG x pc lv (mI v :: .ref (ad k) :: st) σ :=
  g_putf h (k := k) (σ' := mUp σ k 2 v) (ty := .int) inX0 tyX0 tyX0_ok nmX0 (rfl : vwCl[0]? = some (RX0, TX0, 6)) (j := 2) (by decide) hL rfl (by decide +kernel) rfl rfl (Nat.le_of_ble_eq_true rfl) hd (by omega) (by show k < (24 : Int); omega) (EX_b cs ad σ h0 h1) (by show EX cs ad (mUp σ k 2 v) k = _; rw [EX_b cs ad (mUp σ k 2 v) h0 h1]; simp [mUp]) (EX_off σ k 2 v) kk
theorem gxB_names (h : mOk x l μ n (gX D cs ad)) {k : Int} (h0 : 5 ≤ k) (h1 : k < 11) {idx : Nat} (hd : decode μ.2.1 pc = .ok (.getfield idx, 3)) (hL : mLf μ.1.cls idx (TX0 3).1 (TX0 3).2.1 (TX0 3).2.2.1) (kk : mG x (pc + 3) lv (mI (σ k 3) :: st) σ) : mG x pc lv (.ref (ad k) :: st) σ :=
  g_getf h (k := k) inX0 (rfl : vwCl[0]? = some (RX0, TX0, 6)) (j := 3) (by decide) hL hd (by omega) (by show k < (24 : Int); omega) (EX_b cs ad σ h0 h1) rfl kk
theorem pxB_names (h : mOk x l μ n (gX D cs ad)) {k : Int} (h0 : 5 ≤ k) (h1 : k < 11) {idx : Nat} {v : Int} (hd : decode μ.2.1 pc = .ok (.putfield idx, 3)) (hL : mLf μ.1.cls idx (TX0 3).1 (TX0 3).2.1 (TX0 3).2.2.1) (kk : mG x (pc + 3) lv st (mUp σ k 3 v)) : mG x pc lv (mI v :: .ref (ad k) :: st) σ :=
  g_putf h (k := k) (σ' := mUp σ k 3 v) (ty := .int) inX0 tyX0 tyX0_ok nmX0 (rfl : vwCl[0]? = some (RX0, TX0, 6)) (j := 3) (by decide) hL rfl (by decide +kernel) rfl rfl (Nat.le_of_ble_eq_true rfl) hd (by omega) (by show k < (24 : Int); omega) (EX_b cs ad σ h0 h1) (by show EX cs ad (mUp σ k 3 v) k = _; rw [EX_b cs ad (mUp σ k 3 v) h0 h1]; simp [mUp]) (EX_off σ k 3 v) kk
theorem gxB_lasts (h : mOk x l μ n (gX D cs ad)) {k : Int} (h0 : 5 ≤ k) (h1 : k < 11) {idx : Nat} (hd : decode μ.2.1 pc = .ok (.getfield idx, 3)) (hL : mLf μ.1.cls idx (TX0 4).1 (TX0 4).2.1 (TX0 4).2.2.1) (kk : mG x (pc + 3) lv (mI (σ k 4) :: st) σ) : mG x pc lv (.ref (ad k) :: st) σ :=
  g_getf h (k := k) inX0 (rfl : vwCl[0]? = some (RX0, TX0, 6)) (j := 4) (by decide) hL hd (by omega) (by show k < (24 : Int); omega) (EX_b cs ad σ h0 h1) rfl kk
theorem pxB_lasts (h : mOk x l μ n (gX D cs ad)) {k : Int} (h0 : 5 ≤ k) (h1 : k < 11) {idx : Nat} {v : Int} (hd : decode μ.2.1 pc = .ok (.putfield idx, 3)) (hL : mLf μ.1.cls idx (TX0 4).1 (TX0 4).2.1 (TX0 4).2.2.1) (kk : mG x (pc + 3) lv st (mUp σ k 4 v)) : mG x pc lv (mI v :: .ref (ad k) :: st) σ :=
  g_putf h (k := k) (σ' := mUp σ k 4 v) (ty := .int) inX0 tyX0 tyX0_ok nmX0 (rfl : vwCl[0]? = some (RX0, TX0, 6)) (j := 4) (by decide) hL rfl (by decide +kernel) rfl rfl (Nat.le_of_ble_eq_true rfl) hd (by omega) (by show k < (24 : Int); omega) (EX_b cs ad σ h0 h1) (by show EX cs ad (mUp σ k 4 v) k = _; rw [EX_b cs ad (mUp σ k 4 v) h0 h1]; simp [mUp]) (EX_off σ k 4 v) kk
theorem gxB_moons (h : mOk x l μ n (gX D cs ad)) {k : Int} (h0 : 5 ≤ k) (h1 : k < 11) {idx : Nat} (hd : decode μ.2.1 pc = .ok (.getfield idx, 3)) (hL : mLf μ.1.cls idx (TX0 5).1 (TX0 5).2.1 (TX0 5).2.2.1) (kk : mG x (pc + 3) lv (mI (σ k 5) :: st) σ) : mG x pc lv (.ref (ad k) :: st) σ :=
  g_getf h (k := k) inX0 (rfl : vwCl[0]? = some (RX0, TX0, 6)) (j := 5) (by decide) hL hd (by omega) (by show k < (24 : Int); omega) (EX_b cs ad σ h0 h1) rfl kk
theorem pxB_moons (h : mOk x l μ n (gX D cs ad)) {k : Int} (h0 : 5 ≤ k) (h1 : k < 11) {idx : Nat} {v : Int} (hd : decode μ.2.1 pc = .ok (.putfield idx, 3)) (hL : mLf μ.1.cls idx (TX0 5).1 (TX0 5).2.1 (TX0 5).2.2.1) (kk : mG x (pc + 3) lv st (mUp σ k 5 v)) : mG x pc lv (mI v :: .ref (ad k) :: st) σ :=
  g_putf h (k := k) (σ' := mUp σ k 5 v) (ty := .int) inX0 tyX0 tyX0_ok nmX0 (rfl : vwCl[0]? = some (RX0, TX0, 6)) (j := 5) (by decide) hL rfl (by decide +kernel) rfl rfl (Nat.le_of_ble_eq_true rfl) hd (by omega) (by show k < (24 : Int); omega) (EX_b cs ad σ h0 h1) (by show EX cs ad (mUp σ k 5 v) k = _; rw [EX_b cs ad (mUp σ k 5 v) h0 h1]; simp [mUp]) (EX_off σ k 5 v) kk
theorem gxS_cells (h : mOk x l μ n (gX D cs ad)) {k : Int} (h0 : 16 ≤ k) (h1 : k < 20) {idx : Nat} (hd : decode μ.2.1 pc = .ok (.getfield idx, 3)) (hL : mLf μ.1.cls idx (TX3 0).1 (TX3 0).2.1 (TX3 0).2.2.1) (kk : mG x (pc + 3) lv (.ref (ad (k + 4)) :: st) σ) : mG x pc lv (.ref (ad k) :: st) σ :=
  g_getf h (k := k) inX3 (rfl : vwCl[3]? = some (RX3, TX3, 3)) (j := 0) (by decide) hL hd (by omega) (by show k < (24 : Int); omega) (EX_s cs ad σ h0 h1) rfl kk
theorem gxS_lane (h : mOk x l μ n (gX D cs ad)) {k : Int} (h0 : 16 ≤ k) (h1 : k < 20) {idx : Nat} (hd : decode μ.2.1 pc = .ok (.getfield idx, 3)) (hL : mLf μ.1.cls idx (TX3 1).1 (TX3 1).2.1 (TX3 1).2.2.1) (kk : mG x (pc + 3) lv (mI (σ k 1) :: st) σ) : mG x pc lv (.ref (ad k) :: st) σ :=
  g_getf h (k := k) inX3 (rfl : vwCl[3]? = some (RX3, TX3, 3)) (j := 1) (by decide) hL hd (by omega) (by show k < (24 : Int); omega) (EX_s cs ad σ h0 h1) rfl kk
theorem pxS_lane (h : mOk x l μ n (gX D cs ad)) {k : Int} (h0 : 16 ≤ k) (h1 : k < 20) {idx : Nat} {v : Int} (hd : decode μ.2.1 pc = .ok (.putfield idx, 3)) (hL : mLf μ.1.cls idx (TX3 1).1 (TX3 1).2.1 (TX3 1).2.2.1) (kk : mG x (pc + 3) lv st (mUp σ k 1 v)) : mG x pc lv (mI v :: .ref (ad k) :: st) σ :=
  g_putf h (k := k) (σ' := mUp σ k 1 v) (ty := .int) inX3 tyX3 tyX3_ok nmX3 (rfl : vwCl[3]? = some (RX3, TX3, 3)) (j := 1) (by decide) hL rfl (by decide +kernel) rfl rfl (Nat.le_of_ble_eq_true rfl) hd (by omega) (by show k < (24 : Int); omega) (EX_s cs ad σ h0 h1) (by show EX cs ad (mUp σ k 1 v) k = _; rw [EX_s cs ad (mUp σ k 1 v) h0 h1]; simp [mUp]) (EX_off σ k 1 v) kk
theorem gxS_length (h : mOk x l μ n (gX D cs ad)) {k : Int} (h0 : 16 ≤ k) (h1 : k < 20) {idx : Nat} (hd : decode μ.2.1 pc = .ok (.getfield idx, 3)) (hL : mLf μ.1.cls idx (TX3 2).1 (TX3 2).2.1 (TX3 2).2.2.1) (kk : mG x (pc + 3) lv (mI (σ k 2) :: st) σ) : mG x pc lv (.ref (ad k) :: st) σ :=
  g_getf h (k := k) inX3 (rfl : vwCl[3]? = some (RX3, TX3, 3)) (j := 2) (by decide) hL hd (by omega) (by show k < (24 : Int); omega) (EX_s cs ad σ h0 h1) rfl kk
theorem pxS_length (h : mOk x l μ n (gX D cs ad)) {k : Int} (h0 : 16 ≤ k) (h1 : k < 20) {idx : Nat} {v : Int} (hd : decode μ.2.1 pc = .ok (.putfield idx, 3)) (hL : mLf μ.1.cls idx (TX3 2).1 (TX3 2).2.1 (TX3 2).2.2.1) (kk : mG x (pc + 3) lv st (mUp σ k 2 v)) : mG x pc lv (mI v :: .ref (ad k) :: st) σ :=
  g_putf h (k := k) (σ' := mUp σ k 2 v) (ty := .int) inX3 tyX3 tyX3_ok nmX3 (rfl : vwCl[3]? = some (RX3, TX3, 3)) (j := 2) (by decide) hL rfl (by decide +kernel) rfl rfl (Nat.le_of_ble_eq_true rfl) hd (by omega) (by show k < (24 : Int); omega) (EX_s cs ad σ h0 h1) (by show EX cs ad (mUp σ k 2 v) k = _; rw [EX_s cs ad (mUp σ k 2 v) h0 h1]; simp [mUp]) (EX_off σ k 2 v) kk
theorem rvV {ν : mM} (hν : ν.1.cls = RX7) : mRv (gX D cs ad) σ 0 ν := ⟨5, _, TX7, 5, EX_0 cs ad σ, by rw [hν]; rfl, by decide, by show (0 : Int) < 24; decide⟩
theorem rvC {ν : mM} (hν : ν.1.cls = RX1) : mRv (gX D cs ad) σ 1 ν := ⟨1, _, TX1, 5, EX_1 cs ad σ, by rw [hν]; rfl, by decide, by show (1 : Int) < 24; decide⟩
theorem rvK {ν : mM} (hν : ν.1.cls = RX4) : mRv (gX D cs ad) σ 2 ν := ⟨4, _, TX4, 5, EX_2 cs ad σ, by rw [hν]; rfl, by decide, by show (2 : Int) < 24; decide⟩
theorem rvR {ν : mM} (hν : ν.1.cls = RX2) : mRv (gX D cs ad) σ 11 ν := ⟨2, _, TX2, 4, EX_11 cs ad σ, by rw [hν]; rfl, by decide, by show (11 : Int) < 24; decide⟩
theorem rvB {ν : mM} {k : Int} (hν : ν.1.cls = RX0) (h0 : 5 ≤ k) (h1 : k < 11) : mRv (gX D cs ad) σ k ν := ⟨0, _, TX0, 6, EX_b cs ad σ h0 h1, by rw [hν]; rfl, by omega, by show k < (24 : Int); omega⟩
theorem rvS {ν : mM} {k : Int} (hν : ν.1.cls = RX3) (h0 : 16 ≤ k) (h1 : k < 20) : mRv (gX D cs ad) σ k ν := ⟨3, _, TX3, 3, EX_s cs ad σ h0 h1, by rw [hν]; rfl, by omega, by show k < (24 : Int); omega⟩
theorem rvM {ν : mM} (hν : ν.1.cls = RX8) : mRv (gM D cs ad) σ 0 ν := ⟨6, _, TX8, 34, EM_0 cs ad σ, by rw [hν]; rfl, by decide, by show (0 : Int) < 17; decide⟩
theorem lx_nights (h : mOk x l μ n (gX D cs ad)) {i : Int} (hd : decode μ.2.1 pc = .ok (.baload, 1)) (hi0 : 0 ≤ i) (hi1 : i < 110) (kk : mG x (pc + 1) lv (mI (σ 3 i) :: st) σ) : mG x pc lv (mI i :: .ref (ad 3) :: st) σ :=
  g_zald h (k := 3) (t0 := 1) (N := 110) (by decide) (by show (3 : Int) < 24; decide) (EX_3 cs ad σ) rfl hi0 hi1 (by decide) (mRow_at (σ 3) hi0) hd kk
theorem sx_nights (h : mOk x l μ n (gX D cs ad)) {i v : Int} (hd : decode μ.2.1 pc = .ok (.bastore, 1)) (hi0 : 0 ≤ i) (hi1 : i < 110) (hz : v = 0 ∨ v = 1) (kk : mG x (pc + 1) lv st (mUp σ 3 i v)) : mG x pc lv (mI v :: mI i :: .ref (ad 3) :: st) σ :=
  g_zast h (k := 3) (t0 := 1) (N := 110) (σ' := mUp σ 3 i v) (by decide) (by show (3 : Int) < 24; decide) (EX_3 cs ad σ) rfl hi0 hi1 (by decide) hz (by show EX cs ad (mUp σ 3 i v) 3 = _; rw [EX_3 cs ad (mUp σ 3 i v), mRow_up σ 3 v hi0]) (EX_off σ 3 i v) hd kk
theorem lx_rbills (h : mOk x l μ n (gX D cs ad)) {i : Int} (hd : decode μ.2.1 pc = .ok (.iaload, 1)) (hi0 : 0 ≤ i) (hi1 : i < 8) (kk : mG x (pc + 1) lv (mI (σ 12 i) :: st) σ) : mG x pc lv (mI i :: .ref (ad 12) :: st) σ :=
  g_iald h (k := 12) (t0 := 0) (N := 8) (by decide) (by show (12 : Int) < 24; decide) (EX_12 cs ad σ) rfl hi0 hi1 (by decide) (mRow_at (σ 12) hi0) hd kk
theorem sx_rbills (h : mOk x l μ n (gX D cs ad)) {i v : Int} (hd : decode μ.2.1 pc = .ok (.iastore, 1)) (hi0 : 0 ≤ i) (hi1 : i < 8) (kk : mG x (pc + 1) lv st (mUp σ 12 i v)) : mG x pc lv (mI v :: mI i :: .ref (ad 12) :: st) σ :=
  g_iast h (k := 12) (t0 := 0) (N := 8) (σ' := mUp σ 12 i v) (by decide) (by show (12 : Int) < 24; decide) (EX_12 cs ad σ) rfl hi0 hi1 (by decide) (by show EX cs ad (mUp σ 12 i v) 12 = _; rw [EX_12 cs ad (mUp σ 12 i v), mRow_up σ 12 v hi0]) (EX_off σ 12 i v) hd kk
theorem lx_rdays (h : mOk x l μ n (gX D cs ad)) {i : Int} (hd : decode μ.2.1 pc = .ok (.iaload, 1)) (hi0 : 0 ≤ i) (hi1 : i < 8) (kk : mG x (pc + 1) lv (mI (σ 13 i) :: st) σ) : mG x pc lv (mI i :: .ref (ad 13) :: st) σ :=
  g_iald h (k := 13) (t0 := 0) (N := 8) (by decide) (by show (13 : Int) < 24; decide) (EX_13 cs ad σ) rfl hi0 hi1 (by decide) (mRow_at (σ 13) hi0) hd kk
theorem sx_rdays (h : mOk x l μ n (gX D cs ad)) {i v : Int} (hd : decode μ.2.1 pc = .ok (.iastore, 1)) (hi0 : 0 ≤ i) (hi1 : i < 8) (kk : mG x (pc + 1) lv st (mUp σ 13 i v)) : mG x pc lv (mI v :: mI i :: .ref (ad 13) :: st) σ :=
  g_iast h (k := 13) (t0 := 0) (N := 8) (σ' := mUp σ 13 i v) (by decide) (by show (13 : Int) < 24; decide) (EX_13 cs ad σ) rfl hi0 hi1 (by decide) (by show EX cs ad (mUp σ 13 i v) 13 = _; rw [EX_13 cs ad (mUp σ 13 i v), mRow_up σ 13 v hi0]) (EX_off σ 13 i v) hd kk
theorem lx_rwere (h : mOk x l μ n (gX D cs ad)) {i : Int} (hd : decode μ.2.1 pc = .ok (.baload, 1)) (hi0 : 0 ≤ i) (hi1 : i < 8) (kk : mG x (pc + 1) lv (mI (σ 14 i) :: st) σ) : mG x pc lv (mI i :: .ref (ad 14) :: st) σ :=
  g_zald h (k := 14) (t0 := 1) (N := 8) (by decide) (by show (14 : Int) < 24; decide) (EX_14 cs ad σ) rfl hi0 hi1 (by decide) (mRow_at (σ 14) hi0) hd kk
theorem sx_rwere (h : mOk x l μ n (gX D cs ad)) {i v : Int} (hd : decode μ.2.1 pc = .ok (.bastore, 1)) (hi0 : 0 ≤ i) (hi1 : i < 8) (hz : v = 0 ∨ v = 1) (kk : mG x (pc + 1) lv st (mUp σ 14 i v)) : mG x pc lv (mI v :: mI i :: .ref (ad 14) :: st) σ :=
  g_zast h (k := 14) (t0 := 1) (N := 8) (σ' := mUp σ 14 i v) (by decide) (by show (14 : Int) < 24; decide) (EX_14 cs ad σ) rfl hi0 hi1 (by decide) hz (by show EX cs ad (mUp σ 14 i v) 14 = _; rw [EX_14 cs ad (mUp σ 14 i v), mRow_up σ 14 v hi0]) (EX_off σ 14 i v) hd kk
theorem lx_cells (h : mOk x l μ n (gX D cs ad)) {k : Int} (h0 : 20 ≤ k) (h1 : k < 24) {i : Int} (hd : decode μ.2.1 pc = .ok (.iaload, 1)) (hi0 : 0 ≤ i) (hi1 : i < 60) (kk : mG x (pc + 1) lv (mI (σ k i) :: st) σ) : mG x pc lv (mI i :: .ref (ad k) :: st) σ :=
  g_iald h (k := k) (t0 := 0) (N := 60) (by omega) (by show k < (24 : Int); omega) (EX_c cs ad σ h0) rfl hi0 hi1 (by decide) (mRow_at (σ k) hi0) hd kk
theorem sx_cells (h : mOk x l μ n (gX D cs ad)) {k : Int} (h0 : 20 ≤ k) (h1 : k < 24) {i v : Int} (hd : decode μ.2.1 pc = .ok (.iastore, 1)) (hi0 : 0 ≤ i) (hi1 : i < 60) (kk : mG x (pc + 1) lv st (mUp σ k i v)) : mG x pc lv (mI v :: mI i :: .ref (ad k) :: st) σ :=
  g_iast h (k := k) (t0 := 0) (N := 60) (σ' := mUp σ k i v) (by omega) (by show k < (24 : Int); omega) (EX_c cs ad σ h0) rfl hi0 hi1 (by decide) (by show EX cs ad (mUp σ k i v) k = _; rw [EX_c cs ad (mUp σ k i v) h0, mRow_up σ k v hi0]) (EX_off σ k i v) hd kk
theorem lx_bills (h : mOk x l μ n (gX D cs ad)) {i : Int} (hd : decode μ.2.1 pc = .ok (.aaload, 1)) (hi0 : 0 ≤ i) (hi1 : i < 6) (kk : mG x (pc + 1) lv (.ref (ad (5 + i)) :: st) σ) : mG x pc lv (mI i :: .ref (ad 4) :: st) σ :=
  g_aald h (k := 4) (t0 := 2) (N := 6) (by decide) (by show (4 : Int) < 24; decide) (EX_4 cs ad σ) rfl hi0 hi1 (by decide) (by rw [Int.toNat_of_nonneg hi0]) hd kk
theorem lx_sheets (h : mOk x l μ n (gX D cs ad)) {i : Int} (hd : decode μ.2.1 pc = .ok (.aaload, 1)) (hi0 : 0 ≤ i) (hi1 : i < 4) (kk : mG x (pc + 1) lv (.ref (ad (16 + i)) :: st) σ) : mG x pc lv (mI i :: .ref (ad 15) :: st) σ :=
  g_aald h (k := 15) (t0 := 3) (N := 4) (by decide) (by show (15 : Int) < 24; decide) (EX_15 cs ad σ) rfl hi0 hi1 (by decide) (by rw [Int.toNat_of_nonneg hi0]) hd kk
theorem gm_fault (h : mOk x l μ n (gM D cs ad)) {idx : Nat} (hd : decode μ.2.1 pc = .ok (.getfield idx, 3)) (hL : mLf μ.1.cls idx (TX8 0).1 (TX8 0).2.1 (TX8 0).2.2.1) (kk : mG x (pc + 3) lv (mI (σ 0 0) :: st) σ) : mG x pc lv (.ref (ad 0) :: st) σ :=
  g_getf h (k := 0) inX8 (rfl : vwCl[6]? = some (RX8, TX8, 34)) (j := 0) (by decide) hL hd (by decide) (by show (0 : Int) < 17; decide) (EM_0 cs ad σ) rfl kk
theorem pm_fault (h : mOk x l μ n (gM D cs ad)) {idx : Nat} {v : Int} (hd : decode μ.2.1 pc = .ok (.putfield idx, 3)) (hL : mLf μ.1.cls idx (TX8 0).1 (TX8 0).2.1 (TX8 0).2.2.1) (kk : mG x (pc + 3) lv st (mUp σ 0 0 v)) : mG x pc lv (mI v :: .ref (ad 0) :: st) σ :=
  g_putf h (k := 0) (σ' := mUp σ 0 0 v) (ty := .int) inX8 tyX8 tyX8_ok nmX8 (rfl : vwCl[6]? = some (RX8, TX8, 34)) (j := 0) (by decide) hL rfl (by decide +kernel) rfl rfl (Nat.le_of_ble_eq_true rfl) hd (by decide) (by show (0 : Int) < 17; decide) (EM_0 cs ad σ) (by show EM cs ad (mUp σ 0 0 v) 0 = _; rw [EM_0 cs ad (mUp σ 0 0 v)]; simp [mUp]) (EM_off σ 0 0 v) kk
theorem gm_trace (h : mOk x l μ n (gM D cs ad)) {idx : Nat} (hd : decode μ.2.1 pc = .ok (.getfield idx, 3)) (hL : mLf μ.1.cls idx (TX8 1).1 (TX8 1).2.1 (TX8 1).2.2.1) (kk : mG x (pc + 3) lv (mI (σ 0 1) :: st) σ) : mG x pc lv (.ref (ad 0) :: st) σ :=
  g_getf h (k := 0) inX8 (rfl : vwCl[6]? = some (RX8, TX8, 34)) (j := 1) (by decide) hL hd (by decide) (by show (0 : Int) < 17; decide) (EM_0 cs ad σ) rfl kk
theorem pm_trace (h : mOk x l μ n (gM D cs ad)) {idx : Nat} {v : Int} (hd : decode μ.2.1 pc = .ok (.putfield idx, 3)) (hL : mLf μ.1.cls idx (TX8 1).1 (TX8 1).2.1 (TX8 1).2.2.1) (kk : mG x (pc + 3) lv st (mUp σ 0 1 v)) : mG x pc lv (mI v :: .ref (ad 0) :: st) σ :=
  g_putf h (k := 0) (σ' := mUp σ 0 1 v) (ty := .int) inX8 tyX8 tyX8_ok nmX8 (rfl : vwCl[6]? = some (RX8, TX8, 34)) (j := 1) (by decide) hL rfl (by decide +kernel) rfl rfl (Nat.le_of_ble_eq_true rfl) hd (by decide) (by show (0 : Int) < 17; decide) (EM_0 cs ad σ) (by show EM cs ad (mUp σ 0 1 v) 0 = _; rw [EM_0 cs ad (mUp σ 0 1 v)]; simp [mUp]) (EM_off σ 0 1 v) kk
theorem gm_sorts (h : mOk x l μ n (gM D cs ad)) {idx : Nat} (hd : decode μ.2.1 pc = .ok (.getfield idx, 3)) (hL : mLf μ.1.cls idx (TX8 2).1 (TX8 2).2.1 (TX8 2).2.2.1) (kk : mG x (pc + 3) lv (.ref (ad 1) :: st) σ) : mG x pc lv (.ref (ad 0) :: st) σ :=
  g_getf h (k := 0) inX8 (rfl : vwCl[6]? = some (RX8, TX8, 34)) (j := 2) (by decide) hL hd (by decide) (by show (0 : Int) < 17; decide) (EM_0 cs ad σ) rfl kk
theorem gm_sheetLong (h : mOk x l μ n (gM D cs ad)) {idx : Nat} (hd : decode μ.2.1 pc = .ok (.getfield idx, 3)) (hL : mLf μ.1.cls idx (TX8 3).1 (TX8 3).2.1 (TX8 3).2.2.1) (kk : mG x (pc + 3) lv (.ref (ad 2) :: st) σ) : mG x pc lv (.ref (ad 0) :: st) σ :=
  g_getf h (k := 0) inX8 (rfl : vwCl[6]? = some (RX8, TX8, 34)) (j := 3) (by decide) hL hd (by decide) (by show (0 : Int) < 17; decide) (EM_0 cs ad σ) rfl kk
theorem gm_cells (h : mOk x l μ n (gM D cs ad)) {idx : Nat} (hd : decode μ.2.1 pc = .ok (.getfield idx, 3)) (hL : mLf μ.1.cls idx (TX8 4).1 (TX8 4).2.1 (TX8 4).2.2.1) (kk : mG x (pc + 3) lv (.ref (ad 3) :: st) σ) : mG x pc lv (.ref (ad 0) :: st) σ :=
  g_getf h (k := 0) inX8 (rfl : vwCl[6]? = some (RX8, TX8, 34)) (j := 4) (by decide) hL hd (by decide) (by show (0 : Int) < 17; decide) (EM_0 cs ad σ) rfl kk
theorem gm_origin (h : mOk x l μ n (gM D cs ad)) {idx : Nat} (hd : decode μ.2.1 pc = .ok (.getfield idx, 3)) (hL : mLf μ.1.cls idx (TX8 5).1 (TX8 5).2.1 (TX8 5).2.2.1) (kk : mG x (pc + 3) lv (mI (σ 0 5) :: st) σ) : mG x pc lv (.ref (ad 0) :: st) σ :=
  g_getf h (k := 0) inX8 (rfl : vwCl[6]? = some (RX8, TX8, 34)) (j := 5) (by decide) hL hd (by decide) (by show (0 : Int) < 17; decide) (EM_0 cs ad σ) rfl kk
theorem pm_origin (h : mOk x l μ n (gM D cs ad)) {idx : Nat} {v : Int} (hd : decode μ.2.1 pc = .ok (.putfield idx, 3)) (hL : mLf μ.1.cls idx (TX8 5).1 (TX8 5).2.1 (TX8 5).2.2.1) (kk : mG x (pc + 3) lv st (mUp σ 0 5 v)) : mG x pc lv (mI v :: .ref (ad 0) :: st) σ :=
  g_putf h (k := 0) (σ' := mUp σ 0 5 v) (ty := .int) inX8 tyX8 tyX8_ok nmX8 (rfl : vwCl[6]? = some (RX8, TX8, 34)) (j := 5) (by decide) hL rfl (by decide +kernel) rfl rfl (Nat.le_of_ble_eq_true rfl) hd (by decide) (by show (0 : Int) < 17; decide) (EM_0 cs ad σ) (by show EM cs ad (mUp σ 0 5 v) 0 = _; rw [EM_0 cs ad (mUp σ 0 5 v)]; simp [mUp]) (EM_off σ 0 5 v) kk
theorem gm_upper (h : mOk x l μ n (gM D cs ad)) {idx : Nat} (hd : decode μ.2.1 pc = .ok (.getfield idx, 3)) (hL : mLf μ.1.cls idx (TX8 6).1 (TX8 6).2.1 (TX8 6).2.2.1) (kk : mG x (pc + 3) lv (mI (σ 0 6) :: st) σ) : mG x pc lv (.ref (ad 0) :: st) σ :=
  g_getf h (k := 0) inX8 (rfl : vwCl[6]? = some (RX8, TX8, 34)) (j := 6) (by decide) hL hd (by decide) (by show (0 : Int) < 17; decide) (EM_0 cs ad σ) rfl kk
theorem pm_upper (h : mOk x l μ n (gM D cs ad)) {idx : Nat} {v : Int} (hd : decode μ.2.1 pc = .ok (.putfield idx, 3)) (hL : mLf μ.1.cls idx (TX8 6).1 (TX8 6).2.1 (TX8 6).2.2.1) (kk : mG x (pc + 3) lv st (mUp σ 0 6 v)) : mG x pc lv (mI v :: .ref (ad 0) :: st) σ :=
  g_putf h (k := 0) (σ' := mUp σ 0 6 v) (ty := .int) inX8 tyX8 tyX8_ok nmX8 (rfl : vwCl[6]? = some (RX8, TX8, 34)) (j := 6) (by decide) hL rfl (by decide +kernel) rfl rfl (Nat.le_of_ble_eq_true rfl) hd (by decide) (by show (0 : Int) < 17; decide) (EM_0 cs ad σ) (by show EM cs ad (mUp σ 0 6 v) 0 = _; rw [EM_0 cs ad (mUp σ 0 6 v)]; simp [mUp]) (EM_off σ 0 6 v) kk
theorem gm_lower (h : mOk x l μ n (gM D cs ad)) {idx : Nat} (hd : decode μ.2.1 pc = .ok (.getfield idx, 3)) (hL : mLf μ.1.cls idx (TX8 7).1 (TX8 7).2.1 (TX8 7).2.2.1) (kk : mG x (pc + 3) lv (mI (σ 0 7) :: st) σ) : mG x pc lv (.ref (ad 0) :: st) σ :=
  g_getf h (k := 0) inX8 (rfl : vwCl[6]? = some (RX8, TX8, 34)) (j := 7) (by decide) hL hd (by decide) (by show (0 : Int) < 17; decide) (EM_0 cs ad σ) rfl kk
theorem pm_lower (h : mOk x l μ n (gM D cs ad)) {idx : Nat} {v : Int} (hd : decode μ.2.1 pc = .ok (.putfield idx, 3)) (hL : mLf μ.1.cls idx (TX8 7).1 (TX8 7).2.1 (TX8 7).2.2.1) (kk : mG x (pc + 3) lv st (mUp σ 0 7 v)) : mG x pc lv (mI v :: .ref (ad 0) :: st) σ :=
  g_putf h (k := 0) (σ' := mUp σ 0 7 v) (ty := .int) inX8 tyX8 tyX8_ok nmX8 (rfl : vwCl[6]? = some (RX8, TX8, 34)) (j := 7) (by decide) hL rfl (by decide +kernel) rfl rfl (Nat.le_of_ble_eq_true rfl) hd (by decide) (by show (0 : Int) < 17; decide) (EM_0 cs ad σ) (by show EM cs ad (mUp σ 0 7 v) 0 = _; rw [EM_0 cs ad (mUp σ 0 7 v)]; simp [mUp]) (EM_off σ 0 7 v) kk
theorem gm_span (h : mOk x l μ n (gM D cs ad)) {idx : Nat} (hd : decode μ.2.1 pc = .ok (.getfield idx, 3)) (hL : mLf μ.1.cls idx (TX8 8).1 (TX8 8).2.1 (TX8 8).2.2.1) (kk : mG x (pc + 3) lv (mI (σ 0 8) :: st) σ) : mG x pc lv (.ref (ad 0) :: st) σ :=
  g_getf h (k := 0) inX8 (rfl : vwCl[6]? = some (RX8, TX8, 34)) (j := 8) (by decide) hL hd (by decide) (by show (0 : Int) < 17; decide) (EM_0 cs ad σ) rfl kk
theorem pm_span (h : mOk x l μ n (gM D cs ad)) {idx : Nat} {v : Int} (hd : decode μ.2.1 pc = .ok (.putfield idx, 3)) (hL : mLf μ.1.cls idx (TX8 8).1 (TX8 8).2.1 (TX8 8).2.2.1) (kk : mG x (pc + 3) lv st (mUp σ 0 8 v)) : mG x pc lv (mI v :: .ref (ad 0) :: st) σ :=
  g_putf h (k := 0) (σ' := mUp σ 0 8 v) (ty := .int) inX8 tyX8 tyX8_ok nmX8 (rfl : vwCl[6]? = some (RX8, TX8, 34)) (j := 8) (by decide) hL rfl (by decide +kernel) rfl rfl (Nat.le_of_ble_eq_true rfl) hd (by decide) (by show (0 : Int) < 17; decide) (EM_0 cs ad σ) (by show EM cs ad (mUp σ 0 8 v) 0 = _; rw [EM_0 cs ad (mUp σ 0 8 v)]; simp [mUp]) (EM_off σ 0 8 v) kk
theorem gm_bills (h : mOk x l μ n (gM D cs ad)) {idx : Nat} (hd : decode μ.2.1 pc = .ok (.getfield idx, 3)) (hL : mLf μ.1.cls idx (TX8 9).1 (TX8 9).2.1 (TX8 9).2.2.1) (kk : mG x (pc + 3) lv (mI (σ 0 9) :: st) σ) : mG x pc lv (.ref (ad 0) :: st) σ :=
  g_getf h (k := 0) inX8 (rfl : vwCl[6]? = some (RX8, TX8, 34)) (j := 9) (by decide) hL hd (by decide) (by show (0 : Int) < 17; decide) (EM_0 cs ad σ) rfl kk
theorem pm_bills (h : mOk x l μ n (gM D cs ad)) {idx : Nat} {v : Int} (hd : decode μ.2.1 pc = .ok (.putfield idx, 3)) (hL : mLf μ.1.cls idx (TX8 9).1 (TX8 9).2.1 (TX8 9).2.2.1) (kk : mG x (pc + 3) lv st (mUp σ 0 9 v)) : mG x pc lv (mI v :: .ref (ad 0) :: st) σ :=
  g_putf h (k := 0) (σ' := mUp σ 0 9 v) (ty := .int) inX8 tyX8 tyX8_ok nmX8 (rfl : vwCl[6]? = some (RX8, TX8, 34)) (j := 9) (by decide) hL rfl (by decide +kernel) rfl rfl (Nat.le_of_ble_eq_true rfl) hd (by decide) (by show (0 : Int) < 17; decide) (EM_0 cs ad σ) (by show EM cs ad (mUp σ 0 9 v) 0 = _; rw [EM_0 cs ad (mUp σ 0 9 v)]; simp [mUp]) (EM_off σ 0 9 v) kk
theorem gm_kind (h : mOk x l μ n (gM D cs ad)) {idx : Nat} (hd : decode μ.2.1 pc = .ok (.getfield idx, 3)) (hL : mLf μ.1.cls idx (TX8 10).1 (TX8 10).2.1 (TX8 10).2.2.1) (kk : mG x (pc + 3) lv (.ref (ad 4) :: st) σ) : mG x pc lv (.ref (ad 0) :: st) σ :=
  g_getf h (k := 0) inX8 (rfl : vwCl[6]? = some (RX8, TX8, 34)) (j := 10) (by decide) hL hd (by decide) (by show (0 : Int) < 17; decide) (EM_0 cs ad σ) rfl kk
theorem gm_dayOf (h : mOk x l μ n (gM D cs ad)) {idx : Nat} (hd : decode μ.2.1 pc = .ok (.getfield idx, 3)) (hL : mLf μ.1.cls idx (TX8 11).1 (TX8 11).2.1 (TX8 11).2.2.1) (kk : mG x (pc + 3) lv (.ref (ad 5) :: st) σ) : mG x pc lv (.ref (ad 0) :: st) σ :=
  g_getf h (k := 0) inX8 (rfl : vwCl[6]? = some (RX8, TX8, 34)) (j := 11) (by decide) hL hd (by decide) (by show (0 : Int) < 17; decide) (EM_0 cs ad σ) rfl kk
theorem gm_needs (h : mOk x l μ n (gM D cs ad)) {idx : Nat} (hd : decode μ.2.1 pc = .ok (.getfield idx, 3)) (hL : mLf μ.1.cls idx (TX8 12).1 (TX8 12).2.1 (TX8 12).2.2.1) (kk : mG x (pc + 3) lv (.ref (ad 6) :: st) σ) : mG x pc lv (.ref (ad 0) :: st) σ :=
  g_getf h (k := 0) inX8 (rfl : vwCl[6]? = some (RX8, TX8, 34)) (j := 12) (by decide) hL hd (by decide) (by show (0 : Int) < 17; decide) (EM_0 cs ad σ) rfl kk
theorem gm_names (h : mOk x l μ n (gM D cs ad)) {idx : Nat} (hd : decode μ.2.1 pc = .ok (.getfield idx, 3)) (hL : mLf μ.1.cls idx (TX8 13).1 (TX8 13).2.1 (TX8 13).2.2.1) (kk : mG x (pc + 3) lv (.ref (ad 7) :: st) σ) : mG x pc lv (.ref (ad 0) :: st) σ :=
  g_getf h (k := 0) inX8 (rfl : vwCl[6]? = some (RX8, TX8, 34)) (j := 13) (by decide) hL hd (by decide) (by show (0 : Int) < 17; decide) (EM_0 cs ad σ) rfl kk
theorem gm_lasts (h : mOk x l μ n (gM D cs ad)) {idx : Nat} (hd : decode μ.2.1 pc = .ok (.getfield idx, 3)) (hL : mLf μ.1.cls idx (TX8 14).1 (TX8 14).2.1 (TX8 14).2.2.1) (kk : mG x (pc + 3) lv (.ref (ad 8) :: st) σ) : mG x pc lv (.ref (ad 0) :: st) σ :=
  g_getf h (k := 0) inX8 (rfl : vwCl[6]? = some (RX8, TX8, 34)) (j := 14) (by decide) hL hd (by decide) (by show (0 : Int) < 17; decide) (EM_0 cs ad σ) rfl kk
theorem gm_nights (h : mOk x l μ n (gM D cs ad)) {idx : Nat} (hd : decode μ.2.1 pc = .ok (.getfield idx, 3)) (hL : mLf μ.1.cls idx (TX8 15).1 (TX8 15).2.1 (TX8 15).2.2.1) (kk : mG x (pc + 3) lv (mI (σ 0 15) :: st) σ) : mG x pc lv (.ref (ad 0) :: st) σ :=
  g_getf h (k := 0) inX8 (rfl : vwCl[6]? = some (RX8, TX8, 34)) (j := 15) (by decide) hL hd (by decide) (by show (0 : Int) < 17; decide) (EM_0 cs ad σ) rfl kk
theorem pm_nights (h : mOk x l μ n (gM D cs ad)) {idx : Nat} {v : Int} (hd : decode μ.2.1 pc = .ok (.putfield idx, 3)) (hL : mLf μ.1.cls idx (TX8 15).1 (TX8 15).2.1 (TX8 15).2.2.1) (kk : mG x (pc + 3) lv st (mUp σ 0 15 v)) : mG x pc lv (mI v :: .ref (ad 0) :: st) σ :=
  g_putf h (k := 0) (σ' := mUp σ 0 15 v) (ty := .int) inX8 tyX8 tyX8_ok nmX8 (rfl : vwCl[6]? = some (RX8, TX8, 34)) (j := 15) (by decide) hL rfl (by decide +kernel) rfl rfl (Nat.le_of_ble_eq_true rfl) hd (by decide) (by show (0 : Int) < 17; decide) (EM_0 cs ad σ) (by show EM cs ad (mUp σ 0 15 v) 0 = _; rw [EM_0 cs ad (mUp σ 0 15 v)]; simp [mUp]) (EM_off σ 0 15 v) kk
theorem gm_isClouded (h : mOk x l μ n (gM D cs ad)) {idx : Nat} (hd : decode μ.2.1 pc = .ok (.getfield idx, 3)) (hL : mLf μ.1.cls idx (TX8 16).1 (TX8 16).2.1 (TX8 16).2.2.1) (kk : mG x (pc + 3) lv (.ref (ad 9) :: st) σ) : mG x pc lv (.ref (ad 0) :: st) σ :=
  g_getf h (k := 0) inX8 (rfl : vwCl[6]? = some (RX8, TX8, 34)) (j := 16) (by decide) hL hd (by decide) (by show (0 : Int) < 17; decide) (EM_0 cs ad σ) rfl kk
theorem gm_cloudedToo (h : mOk x l μ n (gM D cs ad)) {idx : Nat} (hd : decode μ.2.1 pc = .ok (.getfield idx, 3)) (hL : mLf μ.1.cls idx (TX8 17).1 (TX8 17).2.1 (TX8 17).2.2.1) (kk : mG x (pc + 3) lv (mI (σ 0 17) :: st) σ) : mG x pc lv (.ref (ad 0) :: st) σ :=
  g_getf h (k := 0) inX8 (rfl : vwCl[6]? = some (RX8, TX8, 34)) (j := 17) (by decide) hL hd (by decide) (by show (0 : Int) < 17; decide) (EM_0 cs ad σ) rfl kk
theorem pm_cloudedToo (h : mOk x l μ n (gM D cs ad)) {idx : Nat} {v : Int} (hd : decode μ.2.1 pc = .ok (.putfield idx, 3)) (hL : mLf μ.1.cls idx (TX8 17).1 (TX8 17).2.1 (TX8 17).2.2.1) (kk : mG x (pc + 3) lv st (mUp σ 0 17 v)) : mG x pc lv (mI v :: .ref (ad 0) :: st) σ :=
  g_putf h (k := 0) (σ' := mUp σ 0 17 v) (ty := .int) inX8 tyX8 tyX8_ok nmX8 (rfl : vwCl[6]? = some (RX8, TX8, 34)) (j := 17) (by decide) hL rfl (by decide +kernel) rfl rfl (Nat.le_of_ble_eq_true rfl) hd (by decide) (by show (0 : Int) < 17; decide) (EM_0 cs ad σ) (by show EM cs ad (mUp σ 0 17 v) 0 = _; rw [EM_0 cs ad (mUp σ 0 17 v)]; simp [mUp]) (EM_off σ 0 17 v) kk
theorem gm_onlyThese (h : mOk x l μ n (gM D cs ad)) {idx : Nat} (hd : decode μ.2.1 pc = .ok (.getfield idx, 3)) (hL : mLf μ.1.cls idx (TX8 18).1 (TX8 18).2.1 (TX8 18).2.2.1) (kk : mG x (pc + 3) lv (mI (σ 0 18) :: st) σ) : mG x pc lv (.ref (ad 0) :: st) σ :=
  g_getf h (k := 0) inX8 (rfl : vwCl[6]? = some (RX8, TX8, 34)) (j := 18) (by decide) hL hd (by decide) (by show (0 : Int) < 17; decide) (EM_0 cs ad σ) rfl kk
theorem pm_onlyThese (h : mOk x l μ n (gM D cs ad)) {idx : Nat} {v : Int} (hd : decode μ.2.1 pc = .ok (.putfield idx, 3)) (hL : mLf μ.1.cls idx (TX8 18).1 (TX8 18).2.1 (TX8 18).2.2.1) (hz : v = 0 ∨ v = 1) (kk : mG x (pc + 3) lv st (mUp σ 0 18 v)) : mG x pc lv (mI v :: .ref (ad 0) :: st) σ :=
  g_putf h (k := 0) (σ' := mUp σ 0 18 v) (ty := .boolean) inX8 tyX8 tyX8_ok nmX8 (rfl : vwCl[6]? = some (RX8, TX8, 34)) (j := 18) (by decide) hL rfl (by decide +kernel) (by rcases hz with rfl | rfl <;> rfl) (by rcases hz with rfl | rfl <;> rfl) (Nat.le_of_ble_eq_true rfl) hd (by decide) (by show (0 : Int) < 17; decide) (EM_0 cs ad σ) (by show EM cs ad (mUp σ 0 18 v) 0 = _; rw [EM_0 cs ad (mUp σ 0 18 v)]; simp [mUp]) (EM_off σ 0 18 v) kk
theorem gm_struckToo (h : mOk x l μ n (gM D cs ad)) {idx : Nat} (hd : decode μ.2.1 pc = .ok (.getfield idx, 3)) (hL : mLf μ.1.cls idx (TX8 19).1 (TX8 19).2.1 (TX8 19).2.2.1) (kk : mG x (pc + 3) lv (mI (σ 0 19) :: st) σ) : mG x pc lv (.ref (ad 0) :: st) σ :=
  g_getf h (k := 0) inX8 (rfl : vwCl[6]? = some (RX8, TX8, 34)) (j := 19) (by decide) hL hd (by decide) (by show (0 : Int) < 17; decide) (EM_0 cs ad σ) rfl kk
theorem pm_struckToo (h : mOk x l μ n (gM D cs ad)) {idx : Nat} {v : Int} (hd : decode μ.2.1 pc = .ok (.putfield idx, 3)) (hL : mLf μ.1.cls idx (TX8 19).1 (TX8 19).2.1 (TX8 19).2.2.1) (kk : mG x (pc + 3) lv st (mUp σ 0 19 v)) : mG x pc lv (mI v :: .ref (ad 0) :: st) σ :=
  g_putf h (k := 0) (σ' := mUp σ 0 19 v) (ty := .int) inX8 tyX8 tyX8_ok nmX8 (rfl : vwCl[6]? = some (RX8, TX8, 34)) (j := 19) (by decide) hL rfl (by decide +kernel) rfl rfl (Nat.le_of_ble_eq_true rfl) hd (by decide) (by show (0 : Int) < 17; decide) (EM_0 cs ad σ) (by show EM cs ad (mUp σ 0 19 v) 0 = _; rw [EM_0 cs ad (mUp σ 0 19 v)]; simp [mUp]) (EM_off σ 0 19 v) kk
theorem gm_at (h : mOk x l μ n (gM D cs ad)) {idx : Nat} (hd : decode μ.2.1 pc = .ok (.getfield idx, 3)) (hL : mLf μ.1.cls idx (TX8 20).1 (TX8 20).2.1 (TX8 20).2.2.1) (kk : mG x (pc + 3) lv (mI (σ 0 20) :: st) σ) : mG x pc lv (.ref (ad 0) :: st) σ :=
  g_getf h (k := 0) inX8 (rfl : vwCl[6]? = some (RX8, TX8, 34)) (j := 20) (by decide) hL hd (by decide) (by show (0 : Int) < 17; decide) (EM_0 cs ad σ) rfl kk
theorem pm_at (h : mOk x l μ n (gM D cs ad)) {idx : Nat} {v : Int} (hd : decode μ.2.1 pc = .ok (.putfield idx, 3)) (hL : mLf μ.1.cls idx (TX8 20).1 (TX8 20).2.1 (TX8 20).2.2.1) (kk : mG x (pc + 3) lv st (mUp σ 0 20 v)) : mG x pc lv (mI v :: .ref (ad 0) :: st) σ :=
  g_putf h (k := 0) (σ' := mUp σ 0 20 v) (ty := .int) inX8 tyX8 tyX8_ok nmX8 (rfl : vwCl[6]? = some (RX8, TX8, 34)) (j := 20) (by decide) hL rfl (by decide +kernel) rfl rfl (Nat.le_of_ble_eq_true rfl) hd (by decide) (by show (0 : Int) < 17; decide) (EM_0 cs ad σ) (by show EM cs ad (mUp σ 0 20 v) 0 = _; rw [EM_0 cs ad (mUp σ 0 20 v)]; simp [mUp]) (EM_off σ 0 20 v) kk
theorem gm_readOrigin (h : mOk x l μ n (gM D cs ad)) {idx : Nat} (hd : decode μ.2.1 pc = .ok (.getfield idx, 3)) (hL : mLf μ.1.cls idx (TX8 21).1 (TX8 21).2.1 (TX8 21).2.2.1) (kk : mG x (pc + 3) lv (mI (σ 0 21) :: st) σ) : mG x pc lv (.ref (ad 0) :: st) σ :=
  g_getf h (k := 0) inX8 (rfl : vwCl[6]? = some (RX8, TX8, 34)) (j := 21) (by decide) hL hd (by decide) (by show (0 : Int) < 17; decide) (EM_0 cs ad σ) rfl kk
theorem pm_readOrigin (h : mOk x l μ n (gM D cs ad)) {idx : Nat} {v : Int} (hd : decode μ.2.1 pc = .ok (.putfield idx, 3)) (hL : mLf μ.1.cls idx (TX8 21).1 (TX8 21).2.1 (TX8 21).2.2.1) (kk : mG x (pc + 3) lv st (mUp σ 0 21 v)) : mG x pc lv (mI v :: .ref (ad 0) :: st) σ :=
  g_putf h (k := 0) (σ' := mUp σ 0 21 v) (ty := .int) inX8 tyX8 tyX8_ok nmX8 (rfl : vwCl[6]? = some (RX8, TX8, 34)) (j := 21) (by decide) hL rfl (by decide +kernel) rfl rfl (Nat.le_of_ble_eq_true rfl) hd (by decide) (by show (0 : Int) < 17; decide) (EM_0 cs ad σ) (by show EM cs ad (mUp σ 0 21 v) 0 = _; rw [EM_0 cs ad (mUp σ 0 21 v)]; simp [mUp]) (EM_off σ 0 21 v) kk
theorem gm_readUpper (h : mOk x l μ n (gM D cs ad)) {idx : Nat} (hd : decode μ.2.1 pc = .ok (.getfield idx, 3)) (hL : mLf μ.1.cls idx (TX8 22).1 (TX8 22).2.1 (TX8 22).2.2.1) (kk : mG x (pc + 3) lv (mI (σ 0 22) :: st) σ) : mG x pc lv (.ref (ad 0) :: st) σ :=
  g_getf h (k := 0) inX8 (rfl : vwCl[6]? = some (RX8, TX8, 34)) (j := 22) (by decide) hL hd (by decide) (by show (0 : Int) < 17; decide) (EM_0 cs ad σ) rfl kk
theorem pm_readUpper (h : mOk x l μ n (gM D cs ad)) {idx : Nat} {v : Int} (hd : decode μ.2.1 pc = .ok (.putfield idx, 3)) (hL : mLf μ.1.cls idx (TX8 22).1 (TX8 22).2.1 (TX8 22).2.2.1) (kk : mG x (pc + 3) lv st (mUp σ 0 22 v)) : mG x pc lv (mI v :: .ref (ad 0) :: st) σ :=
  g_putf h (k := 0) (σ' := mUp σ 0 22 v) (ty := .int) inX8 tyX8 tyX8_ok nmX8 (rfl : vwCl[6]? = some (RX8, TX8, 34)) (j := 22) (by decide) hL rfl (by decide +kernel) rfl rfl (Nat.le_of_ble_eq_true rfl) hd (by decide) (by show (0 : Int) < 17; decide) (EM_0 cs ad σ) (by show EM cs ad (mUp σ 0 22 v) 0 = _; rw [EM_0 cs ad (mUp σ 0 22 v)]; simp [mUp]) (EM_off σ 0 22 v) kk
theorem gm_readLower (h : mOk x l μ n (gM D cs ad)) {idx : Nat} (hd : decode μ.2.1 pc = .ok (.getfield idx, 3)) (hL : mLf μ.1.cls idx (TX8 23).1 (TX8 23).2.1 (TX8 23).2.2.1) (kk : mG x (pc + 3) lv (mI (σ 0 23) :: st) σ) : mG x pc lv (.ref (ad 0) :: st) σ :=
  g_getf h (k := 0) inX8 (rfl : vwCl[6]? = some (RX8, TX8, 34)) (j := 23) (by decide) hL hd (by decide) (by show (0 : Int) < 17; decide) (EM_0 cs ad σ) rfl kk
theorem pm_readLower (h : mOk x l μ n (gM D cs ad)) {idx : Nat} {v : Int} (hd : decode μ.2.1 pc = .ok (.putfield idx, 3)) (hL : mLf μ.1.cls idx (TX8 23).1 (TX8 23).2.1 (TX8 23).2.2.1) (kk : mG x (pc + 3) lv st (mUp σ 0 23 v)) : mG x pc lv (mI v :: .ref (ad 0) :: st) σ :=
  g_putf h (k := 0) (σ' := mUp σ 0 23 v) (ty := .int) inX8 tyX8 tyX8_ok nmX8 (rfl : vwCl[6]? = some (RX8, TX8, 34)) (j := 23) (by decide) hL rfl (by decide +kernel) rfl rfl (Nat.le_of_ble_eq_true rfl) hd (by decide) (by show (0 : Int) < 17; decide) (EM_0 cs ad σ) (by show EM cs ad (mUp σ 0 23 v) 0 = _; rw [EM_0 cs ad (mUp σ 0 23 v)]; simp [mUp]) (EM_off σ 0 23 v) kk
theorem gm_readSpan (h : mOk x l μ n (gM D cs ad)) {idx : Nat} (hd : decode μ.2.1 pc = .ok (.getfield idx, 3)) (hL : mLf μ.1.cls idx (TX8 24).1 (TX8 24).2.1 (TX8 24).2.2.1) (kk : mG x (pc + 3) lv (mI (σ 0 24) :: st) σ) : mG x pc lv (.ref (ad 0) :: st) σ :=
  g_getf h (k := 0) inX8 (rfl : vwCl[6]? = some (RX8, TX8, 34)) (j := 24) (by decide) hL hd (by decide) (by show (0 : Int) < 17; decide) (EM_0 cs ad σ) rfl kk
theorem pm_readSpan (h : mOk x l μ n (gM D cs ad)) {idx : Nat} {v : Int} (hd : decode μ.2.1 pc = .ok (.putfield idx, 3)) (hL : mLf μ.1.cls idx (TX8 24).1 (TX8 24).2.1 (TX8 24).2.2.1) (kk : mG x (pc + 3) lv st (mUp σ 0 24 v)) : mG x pc lv (mI v :: .ref (ad 0) :: st) σ :=
  g_putf h (k := 0) (σ' := mUp σ 0 24 v) (ty := .int) inX8 tyX8 tyX8_ok nmX8 (rfl : vwCl[6]? = some (RX8, TX8, 34)) (j := 24) (by decide) hL rfl (by decide +kernel) rfl rfl (Nat.le_of_ble_eq_true rfl) hd (by decide) (by show (0 : Int) < 17; decide) (EM_0 cs ad σ) (by show EM cs ad (mUp σ 0 24 v) 0 = _; rw [EM_0 cs ad (mUp σ 0 24 v)]; simp [mUp]) (EM_off σ 0 24 v) kk
theorem gm_readMany (h : mOk x l μ n (gM D cs ad)) {idx : Nat} (hd : decode μ.2.1 pc = .ok (.getfield idx, 3)) (hL : mLf μ.1.cls idx (TX8 25).1 (TX8 25).2.1 (TX8 25).2.2.1) (kk : mG x (pc + 3) lv (mI (σ 0 25) :: st) σ) : mG x pc lv (.ref (ad 0) :: st) σ :=
  g_getf h (k := 0) inX8 (rfl : vwCl[6]? = some (RX8, TX8, 34)) (j := 25) (by decide) hL hd (by decide) (by show (0 : Int) < 17; decide) (EM_0 cs ad σ) rfl kk
theorem pm_readMany (h : mOk x l μ n (gM D cs ad)) {idx : Nat} {v : Int} (hd : decode μ.2.1 pc = .ok (.putfield idx, 3)) (hL : mLf μ.1.cls idx (TX8 25).1 (TX8 25).2.1 (TX8 25).2.2.1) (kk : mG x (pc + 3) lv st (mUp σ 0 25 v)) : mG x pc lv (mI v :: .ref (ad 0) :: st) σ :=
  g_putf h (k := 0) (σ' := mUp σ 0 25 v) (ty := .int) inX8 tyX8 tyX8_ok nmX8 (rfl : vwCl[6]? = some (RX8, TX8, 34)) (j := 25) (by decide) hL rfl (by decide +kernel) rfl rfl (Nat.le_of_ble_eq_true rfl) hd (by decide) (by show (0 : Int) < 17; decide) (EM_0 cs ad σ) (by show EM cs ad (mUp σ 0 25 v) 0 = _; rw [EM_0 cs ad (mUp σ 0 25 v)]; simp [mUp]) (EM_off σ 0 25 v) kk
theorem gm_read (h : mOk x l μ n (gM D cs ad)) {idx : Nat} (hd : decode μ.2.1 pc = .ok (.getfield idx, 3)) (hL : mLf μ.1.cls idx (TX8 26).1 (TX8 26).2.1 (TX8 26).2.2.1) (kk : mG x (pc + 3) lv (.ref (ad 10) :: st) σ) : mG x pc lv (.ref (ad 0) :: st) σ :=
  g_getf h (k := 0) inX8 (rfl : vwCl[6]? = some (RX8, TX8, 34)) (j := 26) (by decide) hL hd (by decide) (by show (0 : Int) < 17; decide) (EM_0 cs ad σ) rfl kk
theorem gm_order (h : mOk x l μ n (gM D cs ad)) {idx : Nat} (hd : decode μ.2.1 pc = .ok (.getfield idx, 3)) (hL : mLf μ.1.cls idx (TX8 27).1 (TX8 27).2.1 (TX8 27).2.2.1) (kk : mG x (pc + 3) lv (.ref (ad 11) :: st) σ) : mG x pc lv (.ref (ad 0) :: st) σ :=
  g_getf h (k := 0) inX8 (rfl : vwCl[6]? = some (RX8, TX8, 34)) (j := 27) (by decide) hL hd (by decide) (by show (0 : Int) < 17; decide) (EM_0 cs ad σ) rfl kk
theorem gm_doesPass (h : mOk x l μ n (gM D cs ad)) {idx : Nat} (hd : decode μ.2.1 pc = .ok (.getfield idx, 3)) (hL : mLf μ.1.cls idx (TX8 28).1 (TX8 28).2.1 (TX8 28).2.2.1) (kk : mG x (pc + 3) lv (.ref (ad 12) :: st) σ) : mG x pc lv (.ref (ad 0) :: st) σ :=
  g_getf h (k := 0) inX8 (rfl : vwCl[6]? = some (RX8, TX8, 34)) (j := 28) (by decide) hL hd (by decide) (by show (0 : Int) < 17; decide) (EM_0 cs ad σ) rfl kk
theorem gm_inForce (h : mOk x l μ n (gM D cs ad)) {idx : Nat} (hd : decode μ.2.1 pc = .ok (.getfield idx, 3)) (hL : mLf μ.1.cls idx (TX8 29).1 (TX8 29).2.1 (TX8 29).2.2.1) (kk : mG x (pc + 3) lv (.ref (ad 13) :: st) σ) : mG x pc lv (.ref (ad 0) :: st) σ :=
  g_getf h (k := 0) inX8 (rfl : vwCl[6]? = some (RX8, TX8, 34)) (j := 29) (by decide) hL hd (by decide) (by show (0 : Int) < 17; decide) (EM_0 cs ad σ) rfl kk
theorem gm_readings (h : mOk x l μ n (gM D cs ad)) {idx : Nat} (hd : decode μ.2.1 pc = .ok (.getfield idx, 3)) (hL : mLf μ.1.cls idx (TX8 30).1 (TX8 30).2.1 (TX8 30).2.2.1) (kk : mG x (pc + 3) lv (mI (σ 0 30) :: st) σ) : mG x pc lv (.ref (ad 0) :: st) σ :=
  g_getf h (k := 0) inX8 (rfl : vwCl[6]? = some (RX8, TX8, 34)) (j := 30) (by decide) hL hd (by decide) (by show (0 : Int) < 17; decide) (EM_0 cs ad σ) rfl kk
theorem pm_readings (h : mOk x l μ n (gM D cs ad)) {idx : Nat} {v : Int} (hd : decode μ.2.1 pc = .ok (.putfield idx, 3)) (hL : mLf μ.1.cls idx (TX8 30).1 (TX8 30).2.1 (TX8 30).2.2.1) (kk : mG x (pc + 3) lv st (mUp σ 0 30 v)) : mG x pc lv (mI v :: .ref (ad 0) :: st) σ :=
  g_putf h (k := 0) (σ' := mUp σ 0 30 v) (ty := .int) inX8 tyX8 tyX8_ok nmX8 (rfl : vwCl[6]? = some (RX8, TX8, 34)) (j := 30) (by decide) hL rfl (by decide +kernel) rfl rfl (Nat.le_of_ble_eq_true rfl) hd (by decide) (by show (0 : Int) < 17; decide) (EM_0 cs ad σ) (by show EM cs ad (mUp σ 0 30 v) 0 = _; rw [EM_0 cs ad (mUp σ 0 30 v)]; simp [mUp]) (EM_off σ 0 30 v) kk
theorem gm_readBillOf (h : mOk x l μ n (gM D cs ad)) {idx : Nat} (hd : decode μ.2.1 pc = .ok (.getfield idx, 3)) (hL : mLf μ.1.cls idx (TX8 31).1 (TX8 31).2.1 (TX8 31).2.2.1) (kk : mG x (pc + 3) lv (.ref (ad 14) :: st) σ) : mG x pc lv (.ref (ad 0) :: st) σ :=
  g_getf h (k := 0) inX8 (rfl : vwCl[6]? = some (RX8, TX8, 34)) (j := 31) (by decide) hL hd (by decide) (by show (0 : Int) < 17; decide) (EM_0 cs ad σ) rfl kk
theorem gm_readDay (h : mOk x l μ n (gM D cs ad)) {idx : Nat} (hd : decode μ.2.1 pc = .ok (.getfield idx, 3)) (hL : mLf μ.1.cls idx (TX8 32).1 (TX8 32).2.1 (TX8 32).2.2.1) (kk : mG x (pc + 3) lv (.ref (ad 15) :: st) σ) : mG x pc lv (.ref (ad 0) :: st) σ :=
  g_getf h (k := 0) inX8 (rfl : vwCl[6]? = some (RX8, TX8, 34)) (j := 32) (by decide) hL hd (by decide) (by show (0 : Int) < 17; decide) (EM_0 cs ad σ) rfl kk
theorem gm_readWas (h : mOk x l μ n (gM D cs ad)) {idx : Nat} (hd : decode μ.2.1 pc = .ok (.getfield idx, 3)) (hL : mLf μ.1.cls idx (TX8 33).1 (TX8 33).2.1 (TX8 33).2.2.1) (kk : mG x (pc + 3) lv (.ref (ad 16) :: st) σ) : mG x pc lv (.ref (ad 0) :: st) σ :=
  g_getf h (k := 0) inX8 (rfl : vwCl[6]? = some (RX8, TX8, 34)) (j := 33) (by decide) hL hd (by decide) (by show (0 : Int) < 17; decide) (EM_0 cs ad σ) rfl kk
theorem lm_sorts (h : mOk x l μ n (gM D cs ad)) {i : Int} (hd : decode μ.2.1 pc = .ok (.iaload, 1)) (hi0 : 0 ≤ i) (hi1 : i < 4) (kk : mG x (pc + 1) lv (mI (σ 1 i) :: st) σ) : mG x pc lv (mI i :: .ref (ad 1) :: st) σ :=
  g_iald h (k := 1) (t0 := 0) (N := 4) (by decide) (by show (1 : Int) < 17; decide) (EM_1 cs ad σ) rfl hi0 hi1 (by decide) (mRow_at (σ 1) hi0) hd kk
theorem sm_sorts (h : mOk x l μ n (gM D cs ad)) {i v : Int} (hd : decode μ.2.1 pc = .ok (.iastore, 1)) (hi0 : 0 ≤ i) (hi1 : i < 4) (kk : mG x (pc + 1) lv st (mUp σ 1 i v)) : mG x pc lv (mI v :: mI i :: .ref (ad 1) :: st) σ :=
  g_iast h (k := 1) (t0 := 0) (N := 4) (σ' := mUp σ 1 i v) (by decide) (by show (1 : Int) < 17; decide) (EM_1 cs ad σ) rfl hi0 hi1 (by decide) (by show EM cs ad (mUp σ 1 i v) 1 = _; rw [EM_1 cs ad (mUp σ 1 i v), mRow_up σ 1 v hi0]) (EM_off σ 1 i v) hd kk
theorem lm_sheetLong (h : mOk x l μ n (gM D cs ad)) {i : Int} (hd : decode μ.2.1 pc = .ok (.iaload, 1)) (hi0 : 0 ≤ i) (hi1 : i < 4) (kk : mG x (pc + 1) lv (mI (σ 2 i) :: st) σ) : mG x pc lv (mI i :: .ref (ad 2) :: st) σ :=
  g_iald h (k := 2) (t0 := 0) (N := 4) (by decide) (by show (2 : Int) < 17; decide) (EM_2 cs ad σ) rfl hi0 hi1 (by decide) (mRow_at (σ 2) hi0) hd kk
theorem sm_sheetLong (h : mOk x l μ n (gM D cs ad)) {i v : Int} (hd : decode μ.2.1 pc = .ok (.iastore, 1)) (hi0 : 0 ≤ i) (hi1 : i < 4) (kk : mG x (pc + 1) lv st (mUp σ 2 i v)) : mG x pc lv (mI v :: mI i :: .ref (ad 2) :: st) σ :=
  g_iast h (k := 2) (t0 := 0) (N := 4) (σ' := mUp σ 2 i v) (by decide) (by show (2 : Int) < 17; decide) (EM_2 cs ad σ) rfl hi0 hi1 (by decide) (by show EM cs ad (mUp σ 2 i v) 2 = _; rw [EM_2 cs ad (mUp σ 2 i v), mRow_up σ 2 v hi0]) (EM_off σ 2 i v) hd kk
theorem lm_cells (h : mOk x l μ n (gM D cs ad)) {i : Int} (hd : decode μ.2.1 pc = .ok (.iaload, 1)) (hi0 : 0 ≤ i) (hi1 : i < 240) (kk : mG x (pc + 1) lv (mI (σ 3 i) :: st) σ) : mG x pc lv (mI i :: .ref (ad 3) :: st) σ :=
  g_iald h (k := 3) (t0 := 0) (N := 240) (by decide) (by show (3 : Int) < 17; decide) (EM_3 cs ad σ) rfl hi0 hi1 (by decide) (mRow_at (σ 3) hi0) hd kk
theorem sm_cells (h : mOk x l μ n (gM D cs ad)) {i v : Int} (hd : decode μ.2.1 pc = .ok (.iastore, 1)) (hi0 : 0 ≤ i) (hi1 : i < 240) (kk : mG x (pc + 1) lv st (mUp σ 3 i v)) : mG x pc lv (mI v :: mI i :: .ref (ad 3) :: st) σ :=
  g_iast h (k := 3) (t0 := 0) (N := 240) (σ' := mUp σ 3 i v) (by decide) (by show (3 : Int) < 17; decide) (EM_3 cs ad σ) rfl hi0 hi1 (by decide) (by show EM cs ad (mUp σ 3 i v) 3 = _; rw [EM_3 cs ad (mUp σ 3 i v), mRow_up σ 3 v hi0]) (EM_off σ 3 i v) hd kk
theorem lm_kind (h : mOk x l μ n (gM D cs ad)) {i : Int} (hd : decode μ.2.1 pc = .ok (.iaload, 1)) (hi0 : 0 ≤ i) (hi1 : i < 6) (kk : mG x (pc + 1) lv (mI (σ 4 i) :: st) σ) : mG x pc lv (mI i :: .ref (ad 4) :: st) σ :=
  g_iald h (k := 4) (t0 := 0) (N := 6) (by decide) (by show (4 : Int) < 17; decide) (EM_4 cs ad σ) rfl hi0 hi1 (by decide) (mRow_at (σ 4) hi0) hd kk
theorem sm_kind (h : mOk x l μ n (gM D cs ad)) {i v : Int} (hd : decode μ.2.1 pc = .ok (.iastore, 1)) (hi0 : 0 ≤ i) (hi1 : i < 6) (kk : mG x (pc + 1) lv st (mUp σ 4 i v)) : mG x pc lv (mI v :: mI i :: .ref (ad 4) :: st) σ :=
  g_iast h (k := 4) (t0 := 0) (N := 6) (σ' := mUp σ 4 i v) (by decide) (by show (4 : Int) < 17; decide) (EM_4 cs ad σ) rfl hi0 hi1 (by decide) (by show EM cs ad (mUp σ 4 i v) 4 = _; rw [EM_4 cs ad (mUp σ 4 i v), mRow_up σ 4 v hi0]) (EM_off σ 4 i v) hd kk
theorem lm_dayOf (h : mOk x l μ n (gM D cs ad)) {i : Int} (hd : decode μ.2.1 pc = .ok (.iaload, 1)) (hi0 : 0 ≤ i) (hi1 : i < 6) (kk : mG x (pc + 1) lv (mI (σ 5 i) :: st) σ) : mG x pc lv (mI i :: .ref (ad 5) :: st) σ :=
  g_iald h (k := 5) (t0 := 0) (N := 6) (by decide) (by show (5 : Int) < 17; decide) (EM_5 cs ad σ) rfl hi0 hi1 (by decide) (mRow_at (σ 5) hi0) hd kk
theorem sm_dayOf (h : mOk x l μ n (gM D cs ad)) {i v : Int} (hd : decode μ.2.1 pc = .ok (.iastore, 1)) (hi0 : 0 ≤ i) (hi1 : i < 6) (kk : mG x (pc + 1) lv st (mUp σ 5 i v)) : mG x pc lv (mI v :: mI i :: .ref (ad 5) :: st) σ :=
  g_iast h (k := 5) (t0 := 0) (N := 6) (σ' := mUp σ 5 i v) (by decide) (by show (5 : Int) < 17; decide) (EM_5 cs ad σ) rfl hi0 hi1 (by decide) (by show EM cs ad (mUp σ 5 i v) 5 = _; rw [EM_5 cs ad (mUp σ 5 i v), mRow_up σ 5 v hi0]) (EM_off σ 5 i v) hd kk
theorem lm_needs (h : mOk x l μ n (gM D cs ad)) {i : Int} (hd : decode μ.2.1 pc = .ok (.iaload, 1)) (hi0 : 0 ≤ i) (hi1 : i < 6) (kk : mG x (pc + 1) lv (mI (σ 6 i) :: st) σ) : mG x pc lv (mI i :: .ref (ad 6) :: st) σ :=
  g_iald h (k := 6) (t0 := 0) (N := 6) (by decide) (by show (6 : Int) < 17; decide) (EM_6 cs ad σ) rfl hi0 hi1 (by decide) (mRow_at (σ 6) hi0) hd kk
theorem sm_needs (h : mOk x l μ n (gM D cs ad)) {i v : Int} (hd : decode μ.2.1 pc = .ok (.iastore, 1)) (hi0 : 0 ≤ i) (hi1 : i < 6) (kk : mG x (pc + 1) lv st (mUp σ 6 i v)) : mG x pc lv (mI v :: mI i :: .ref (ad 6) :: st) σ :=
  g_iast h (k := 6) (t0 := 0) (N := 6) (σ' := mUp σ 6 i v) (by decide) (by show (6 : Int) < 17; decide) (EM_6 cs ad σ) rfl hi0 hi1 (by decide) (by show EM cs ad (mUp σ 6 i v) 6 = _; rw [EM_6 cs ad (mUp σ 6 i v), mRow_up σ 6 v hi0]) (EM_off σ 6 i v) hd kk
theorem lm_names (h : mOk x l μ n (gM D cs ad)) {i : Int} (hd : decode μ.2.1 pc = .ok (.iaload, 1)) (hi0 : 0 ≤ i) (hi1 : i < 6) (kk : mG x (pc + 1) lv (mI (σ 7 i) :: st) σ) : mG x pc lv (mI i :: .ref (ad 7) :: st) σ :=
  g_iald h (k := 7) (t0 := 0) (N := 6) (by decide) (by show (7 : Int) < 17; decide) (EM_7 cs ad σ) rfl hi0 hi1 (by decide) (mRow_at (σ 7) hi0) hd kk
theorem sm_names (h : mOk x l μ n (gM D cs ad)) {i v : Int} (hd : decode μ.2.1 pc = .ok (.iastore, 1)) (hi0 : 0 ≤ i) (hi1 : i < 6) (kk : mG x (pc + 1) lv st (mUp σ 7 i v)) : mG x pc lv (mI v :: mI i :: .ref (ad 7) :: st) σ :=
  g_iast h (k := 7) (t0 := 0) (N := 6) (σ' := mUp σ 7 i v) (by decide) (by show (7 : Int) < 17; decide) (EM_7 cs ad σ) rfl hi0 hi1 (by decide) (by show EM cs ad (mUp σ 7 i v) 7 = _; rw [EM_7 cs ad (mUp σ 7 i v), mRow_up σ 7 v hi0]) (EM_off σ 7 i v) hd kk
theorem lm_lasts (h : mOk x l μ n (gM D cs ad)) {i : Int} (hd : decode μ.2.1 pc = .ok (.iaload, 1)) (hi0 : 0 ≤ i) (hi1 : i < 6) (kk : mG x (pc + 1) lv (mI (σ 8 i) :: st) σ) : mG x pc lv (mI i :: .ref (ad 8) :: st) σ :=
  g_iald h (k := 8) (t0 := 0) (N := 6) (by decide) (by show (8 : Int) < 17; decide) (EM_8 cs ad σ) rfl hi0 hi1 (by decide) (mRow_at (σ 8) hi0) hd kk
theorem sm_lasts (h : mOk x l μ n (gM D cs ad)) {i v : Int} (hd : decode μ.2.1 pc = .ok (.iastore, 1)) (hi0 : 0 ≤ i) (hi1 : i < 6) (kk : mG x (pc + 1) lv st (mUp σ 8 i v)) : mG x pc lv (mI v :: mI i :: .ref (ad 8) :: st) σ :=
  g_iast h (k := 8) (t0 := 0) (N := 6) (σ' := mUp σ 8 i v) (by decide) (by show (8 : Int) < 17; decide) (EM_8 cs ad σ) rfl hi0 hi1 (by decide) (by show EM cs ad (mUp σ 8 i v) 8 = _; rw [EM_8 cs ad (mUp σ 8 i v), mRow_up σ 8 v hi0]) (EM_off σ 8 i v) hd kk
theorem lm_isClouded (h : mOk x l μ n (gM D cs ad)) {i : Int} (hd : decode μ.2.1 pc = .ok (.baload, 1)) (hi0 : 0 ≤ i) (hi1 : i < 110) (kk : mG x (pc + 1) lv (mI (σ 9 i) :: st) σ) : mG x pc lv (mI i :: .ref (ad 9) :: st) σ :=
  g_zald h (k := 9) (t0 := 1) (N := 110) (by decide) (by show (9 : Int) < 17; decide) (EM_9 cs ad σ) rfl hi0 hi1 (by decide) (mRow_at (σ 9) hi0) hd kk
theorem sm_isClouded (h : mOk x l μ n (gM D cs ad)) {i v : Int} (hd : decode μ.2.1 pc = .ok (.bastore, 1)) (hi0 : 0 ≤ i) (hi1 : i < 110) (hz : v = 0 ∨ v = 1) (kk : mG x (pc + 1) lv st (mUp σ 9 i v)) : mG x pc lv (mI v :: mI i :: .ref (ad 9) :: st) σ :=
  g_zast h (k := 9) (t0 := 1) (N := 110) (σ' := mUp σ 9 i v) (by decide) (by show (9 : Int) < 17; decide) (EM_9 cs ad σ) rfl hi0 hi1 (by decide) hz (by show EM cs ad (mUp σ 9 i v) 9 = _; rw [EM_9 cs ad (mUp σ 9 i v), mRow_up σ 9 v hi0]) (EM_off σ 9 i v) hd kk
theorem lm_read (h : mOk x l μ n (gM D cs ad)) {i : Int} (hd : decode μ.2.1 pc = .ok (.iaload, 1)) (hi0 : 0 ≤ i) (hi1 : i < 30) (kk : mG x (pc + 1) lv (mI (σ 10 i) :: st) σ) : mG x pc lv (mI i :: .ref (ad 10) :: st) σ :=
  g_iald h (k := 10) (t0 := 0) (N := 30) (by decide) (by show (10 : Int) < 17; decide) (EM_10 cs ad σ) rfl hi0 hi1 (by decide) (mRow_at (σ 10) hi0) hd kk
theorem sm_read (h : mOk x l μ n (gM D cs ad)) {i v : Int} (hd : decode μ.2.1 pc = .ok (.iastore, 1)) (hi0 : 0 ≤ i) (hi1 : i < 30) (kk : mG x (pc + 1) lv st (mUp σ 10 i v)) : mG x pc lv (mI v :: mI i :: .ref (ad 10) :: st) σ :=
  g_iast h (k := 10) (t0 := 0) (N := 30) (σ' := mUp σ 10 i v) (by decide) (by show (10 : Int) < 17; decide) (EM_10 cs ad σ) rfl hi0 hi1 (by decide) (by show EM cs ad (mUp σ 10 i v) 10 = _; rw [EM_10 cs ad (mUp σ 10 i v), mRow_up σ 10 v hi0]) (EM_off σ 10 i v) hd kk
theorem lm_order (h : mOk x l μ n (gM D cs ad)) {i : Int} (hd : decode μ.2.1 pc = .ok (.iaload, 1)) (hi0 : 0 ≤ i) (hi1 : i < 6) (kk : mG x (pc + 1) lv (mI (σ 11 i) :: st) σ) : mG x pc lv (mI i :: .ref (ad 11) :: st) σ :=
  g_iald h (k := 11) (t0 := 0) (N := 6) (by decide) (by show (11 : Int) < 17; decide) (EM_11 cs ad σ) rfl hi0 hi1 (by decide) (mRow_at (σ 11) hi0) hd kk
theorem sm_order (h : mOk x l μ n (gM D cs ad)) {i v : Int} (hd : decode μ.2.1 pc = .ok (.iastore, 1)) (hi0 : 0 ≤ i) (hi1 : i < 6) (kk : mG x (pc + 1) lv st (mUp σ 11 i v)) : mG x pc lv (mI v :: mI i :: .ref (ad 11) :: st) σ :=
  g_iast h (k := 11) (t0 := 0) (N := 6) (σ' := mUp σ 11 i v) (by decide) (by show (11 : Int) < 17; decide) (EM_11 cs ad σ) rfl hi0 hi1 (by decide) (by show EM cs ad (mUp σ 11 i v) 11 = _; rw [EM_11 cs ad (mUp σ 11 i v), mRow_up σ 11 v hi0]) (EM_off σ 11 i v) hd kk
theorem lm_doesPass (h : mOk x l μ n (gM D cs ad)) {i : Int} (hd : decode μ.2.1 pc = .ok (.baload, 1)) (hi0 : 0 ≤ i) (hi1 : i < 6) (kk : mG x (pc + 1) lv (mI (σ 12 i) :: st) σ) : mG x pc lv (mI i :: .ref (ad 12) :: st) σ :=
  g_zald h (k := 12) (t0 := 1) (N := 6) (by decide) (by show (12 : Int) < 17; decide) (EM_12 cs ad σ) rfl hi0 hi1 (by decide) (mRow_at (σ 12) hi0) hd kk
theorem sm_doesPass (h : mOk x l μ n (gM D cs ad)) {i v : Int} (hd : decode μ.2.1 pc = .ok (.bastore, 1)) (hi0 : 0 ≤ i) (hi1 : i < 6) (hz : v = 0 ∨ v = 1) (kk : mG x (pc + 1) lv st (mUp σ 12 i v)) : mG x pc lv (mI v :: mI i :: .ref (ad 12) :: st) σ :=
  g_zast h (k := 12) (t0 := 1) (N := 6) (σ' := mUp σ 12 i v) (by decide) (by show (12 : Int) < 17; decide) (EM_12 cs ad σ) rfl hi0 hi1 (by decide) hz (by show EM cs ad (mUp σ 12 i v) 12 = _; rw [EM_12 cs ad (mUp σ 12 i v), mRow_up σ 12 v hi0]) (EM_off σ 12 i v) hd kk
theorem lm_inForce (h : mOk x l μ n (gM D cs ad)) {i : Int} (hd : decode μ.2.1 pc = .ok (.baload, 1)) (hi0 : 0 ≤ i) (hi1 : i < 6) (kk : mG x (pc + 1) lv (mI (σ 13 i) :: st) σ) : mG x pc lv (mI i :: .ref (ad 13) :: st) σ :=
  g_zald h (k := 13) (t0 := 1) (N := 6) (by decide) (by show (13 : Int) < 17; decide) (EM_13 cs ad σ) rfl hi0 hi1 (by decide) (mRow_at (σ 13) hi0) hd kk
theorem sm_inForce (h : mOk x l μ n (gM D cs ad)) {i v : Int} (hd : decode μ.2.1 pc = .ok (.bastore, 1)) (hi0 : 0 ≤ i) (hi1 : i < 6) (hz : v = 0 ∨ v = 1) (kk : mG x (pc + 1) lv st (mUp σ 13 i v)) : mG x pc lv (mI v :: mI i :: .ref (ad 13) :: st) σ :=
  g_zast h (k := 13) (t0 := 1) (N := 6) (σ' := mUp σ 13 i v) (by decide) (by show (13 : Int) < 17; decide) (EM_13 cs ad σ) rfl hi0 hi1 (by decide) hz (by show EM cs ad (mUp σ 13 i v) 13 = _; rw [EM_13 cs ad (mUp σ 13 i v), mRow_up σ 13 v hi0]) (EM_off σ 13 i v) hd kk
theorem lm_readBillOf (h : mOk x l μ n (gM D cs ad)) {i : Int} (hd : decode μ.2.1 pc = .ok (.iaload, 1)) (hi0 : 0 ≤ i) (hi1 : i < 8) (kk : mG x (pc + 1) lv (mI (σ 14 i) :: st) σ) : mG x pc lv (mI i :: .ref (ad 14) :: st) σ :=
  g_iald h (k := 14) (t0 := 0) (N := 8) (by decide) (by show (14 : Int) < 17; decide) (EM_14 cs ad σ) rfl hi0 hi1 (by decide) (mRow_at (σ 14) hi0) hd kk
theorem sm_readBillOf (h : mOk x l μ n (gM D cs ad)) {i v : Int} (hd : decode μ.2.1 pc = .ok (.iastore, 1)) (hi0 : 0 ≤ i) (hi1 : i < 8) (kk : mG x (pc + 1) lv st (mUp σ 14 i v)) : mG x pc lv (mI v :: mI i :: .ref (ad 14) :: st) σ :=
  g_iast h (k := 14) (t0 := 0) (N := 8) (σ' := mUp σ 14 i v) (by decide) (by show (14 : Int) < 17; decide) (EM_14 cs ad σ) rfl hi0 hi1 (by decide) (by show EM cs ad (mUp σ 14 i v) 14 = _; rw [EM_14 cs ad (mUp σ 14 i v), mRow_up σ 14 v hi0]) (EM_off σ 14 i v) hd kk
theorem lm_readDay (h : mOk x l μ n (gM D cs ad)) {i : Int} (hd : decode μ.2.1 pc = .ok (.iaload, 1)) (hi0 : 0 ≤ i) (hi1 : i < 8) (kk : mG x (pc + 1) lv (mI (σ 15 i) :: st) σ) : mG x pc lv (mI i :: .ref (ad 15) :: st) σ :=
  g_iald h (k := 15) (t0 := 0) (N := 8) (by decide) (by show (15 : Int) < 17; decide) (EM_15 cs ad σ) rfl hi0 hi1 (by decide) (mRow_at (σ 15) hi0) hd kk
theorem sm_readDay (h : mOk x l μ n (gM D cs ad)) {i v : Int} (hd : decode μ.2.1 pc = .ok (.iastore, 1)) (hi0 : 0 ≤ i) (hi1 : i < 8) (kk : mG x (pc + 1) lv st (mUp σ 15 i v)) : mG x pc lv (mI v :: mI i :: .ref (ad 15) :: st) σ :=
  g_iast h (k := 15) (t0 := 0) (N := 8) (σ' := mUp σ 15 i v) (by decide) (by show (15 : Int) < 17; decide) (EM_15 cs ad σ) rfl hi0 hi1 (by decide) (by show EM cs ad (mUp σ 15 i v) 15 = _; rw [EM_15 cs ad (mUp σ 15 i v), mRow_up σ 15 v hi0]) (EM_off σ 15 i v) hd kk
theorem lm_readWas (h : mOk x l μ n (gM D cs ad)) {i : Int} (hd : decode μ.2.1 pc = .ok (.baload, 1)) (hi0 : 0 ≤ i) (hi1 : i < 8) (kk : mG x (pc + 1) lv (mI (σ 16 i) :: st) σ) : mG x pc lv (mI i :: .ref (ad 16) :: st) σ :=
  g_zald h (k := 16) (t0 := 1) (N := 8) (by decide) (by show (16 : Int) < 17; decide) (EM_16 cs ad σ) rfl hi0 hi1 (by decide) (mRow_at (σ 16) hi0) hd kk
theorem sm_readWas (h : mOk x l μ n (gM D cs ad)) {i v : Int} (hd : decode μ.2.1 pc = .ok (.bastore, 1)) (hi0 : 0 ≤ i) (hi1 : i < 8) (hz : v = 0 ∨ v = 1) (kk : mG x (pc + 1) lv st (mUp σ 16 i v)) : mG x pc lv (mI v :: mI i :: .ref (ad 16) :: st) σ :=
  g_zast h (k := 16) (t0 := 1) (N := 8) (σ' := mUp σ 16 i v) (by decide) (by show (16 : Int) < 17; decide) (EM_16 cs ad σ) rfl hi0 hi1 (by decide) hz (by show EM cs ad (mUp σ 16 i v) 16 = _; rw [EM_16 cs ad (mUp σ 16 i v), mRow_up σ 16 v hi0]) (EM_off σ 16 i v) hd kk
end WR
end
section
/-! truth values -/
def bl (p : Prop) [Decidable p] : Int := if p then 1 else 0
theorem bl1 {p : Prop} [Decidable p] (h : p) : (1 : Int) = bl p := by unfold bl; rw [if_pos h]
theorem bl0 {p : Prop} [Decidable p] (h : ¬ p) : (0 : Int) = bl p := by unfold bl; rw [if_neg h]
theorem bl_01 (p : Prop) [Decidable p] : bl p = 0 ∨ bl p = 1 := by
  unfold bl
  by_cases h : p
  · rw [if_pos h]; exact Or.inr rfl
  · rw [if_neg h]; exact Or.inl rfl
theorem bl_rng (p : Prop) [Decidable p] : i32 (bl p) := by
  rcases bl_01 p with h | h <;> rw [h] <;> exact ⟨by omega, by omega⟩
theorem bl_eq0 {p : Prop} [Decidable p] : bl p = 0 ↔ ¬ p := by
  unfold bl
  by_cases h : p
  · rw [if_pos h]; simp [h]
  · rw [if_neg h]; simp [h]
theorem bl_cong {p q : Prop} [Decidable p] [Decidable q] (h : p ↔ q) : bl p = bl q := by
  unfold bl
  by_cases hp : p
  · rw [if_pos hp, if_pos (h.mp hp)]
  · rw [if_neg hp, if_neg (fun z => hp (h.mpr z))]
section MB
variable {x : mX} {l : Launch} {μ : mM} {n : Nat} {Γ : mE} {pc : Nat} {lv : List (Nat × Value)} {st : List Value} {σ : mS}
theorem g_ifb_eq (h : mOk x l μ n Γ) {p : Prop} [Decidable p] {off : Int} {tgt : Nat} (hd : decode μ.2.1 pc = .ok (.ifCond .eq off, 3)) (ht : (pc : Int) + off = (tgt : Int)) (kt : ¬ p → mG x tgt lv st σ) (kf : p → mG x (pc + 3) lv st σ) : mG x pc lv (mI (bl p) :: st) σ :=
  g_if_eq h hd ht (bl_rng p) (fun c => kt (bl_eq0.mp c)) (fun c => kf (Decidable.byContradiction fun q => c (bl_eq0.mpr q)))
theorem g_ifb_ne (h : mOk x l μ n Γ) {p : Prop} [Decidable p] {off : Int} {tgt : Nat} (hd : decode μ.2.1 pc = .ok (.ifCond .ne off, 3)) (ht : (pc : Int) + off = (tgt : Int)) (kt : p → mG x tgt lv st σ) (kf : ¬ p → mG x (pc + 3) lv st σ) : mG x pc lv (mI (bl p) :: st) σ :=
  g_if_ne h hd ht (bl_rng p) (fun c => kt (Decidable.byContradiction fun q => c (bl_eq0.mpr q))) (fun c => kf (bl_eq0.mp c))
end MB
section MV
variable {x : mX} {pc : Nat} {lv : List (Nat × Value)} {st : List Value} {σ : mS}
theorem g_val {a b : Int} (e : a = b) (k : mG x pc lv (mI b :: st) σ) : mG x pc lv (mI a :: st) σ := e ▸ k
theorem g_val2 {v : Value} {a b : Int} (e : a = b) (k : mG x pc lv (v :: mI b :: st) σ) : mG x pc lv (v :: mI a :: st) σ := e ▸ k
theorem g_val3 {v w : Value} {a b : Int} (e : a = b) (k : mG x pc lv (v :: w :: mI b :: st) σ) : mG x pc lv (v :: w :: mI a :: st) σ := e ▸ k
theorem g_vall {a b : Int} (e : a = b) (k : mG x pc lv (mL b :: st) σ) : mG x pc lv (mL a :: st) σ := e ▸ k
theorem g_sta {s t : mS} (e : s = t) (k : mG x pc lv st t) : mG x pc lv st s := e ▸ k
end MV
end
section
set_option maxRecDepth 100000 in
set_option maxHeartbeats 2000000 in
theorem c_X8_within {l : Launch} {D : va_G} {cs : mC} {ad : Int → Nat} (σ : mS) (v a b : Int) (hv : i32 v) (ha : i32 a) (hb : i32 b) : CI l (gM D cs ad) M_X8_within 0 [mI v, mI a, mI b] σ (fun z σ' => z = bl (a ≤ v ∧ v ≤ b) ∧ σ' = σ) := by
  refine CI.of (by decide) (Nat.le_of_ble_eq_true rfl) (fun x h hq => ?_)
  show mG x 0 [(0, mI v), (1, mI a), (2, mI b)] [] σ
  refine g_iload_n h dX8_within_0 rfl ?_
  refine g_iload_n h dX8_within_1 rfl ?_
  refine g_icmp_lt (tgt := 14) h dX8_within_2 (by decide) hv ha (fun c2 => ?_) (fun c2 => ?_)
  · refine g_iconst h dX8_within_14 rfl ?_
    refine g_zret h hq rfl dX8_within_15 (by omega) ?_
    first | exact ⟨bl1 (by omega), rfl⟩ | exact ⟨bl0 (by omega), rfl⟩
  · refine g_iload_n h dX8_within_5 rfl ?_
    refine g_iload_n h dX8_within_6 rfl ?_
    refine g_icmp_gt (tgt := 14) h dX8_within_7 (by decide) hv hb (fun c7 => ?_) (fun c7 => ?_)
    · refine g_iconst h dX8_within_14 rfl ?_
      refine g_zret h hq rfl dX8_within_15 (by omega) ?_
      first | exact ⟨bl1 (by omega), rfl⟩ | exact ⟨bl0 (by omega), rfl⟩
    · refine g_iconst h dX8_within_10 rfl ?_
      refine g_goto (tgt := 15) h dX8_within_11 (by decide) ?_
      refine g_zret h hq rfl dX8_within_15 (by omega) ?_
      first | exact ⟨bl1 (by omega), rfl⟩ | exact ⟨bl0 (by omega), rfl⟩
set_option maxRecDepth 100000 in
set_option maxHeartbeats 2000000 in
theorem c_X8_isSheet {l : Launch} {D : va_G} {cs : mC} {ad : Int → Nat} (σ : mS) (v : Int) (hv : i32 v) : CI l (gM D cs ad) M_X8_isSheet 1 [mI v] σ (fun z σ' => z = bl (0 ≤ v ∧ v ≤ 3) ∧ σ' = σ) := by
  refine CI.of (by decide) (Nat.le_of_ble_eq_true rfl) (fun x h hq => ?_)
  show mG x 0 [(0, mI v)] [] σ
  refine g_iload_n h dX8_isSheet_0 rfl ?_
  refine g_iconst h dX8_isSheet_1 rfl ?_
  refine g_iconst h dX8_isSheet_2 rfl ?_
  refine g_sI h (c_X8_within _ _ _ _ hv ⟨by omega, by omega⟩ ⟨by omega, by omega⟩) (by decide) lm_RX8_68 dX8_isSheet_3 rfl (Nat.le_of_ble_eq_true rfl) (fun z3 s3 p3 => ?_)
  obtain ⟨rfl, rfl⟩ := p3
  refine g_zret h hq rfl dX8_isSheet_6 (bl_01 _) ⟨rfl, rfl⟩
set_option maxRecDepth 100000 in
set_option maxHeartbeats 2000000 in
theorem c_X8_isSort {l : Launch} {D : va_G} {cs : mC} {ad : Int → Nat} (σ : mS) (v : Int) (hv : i32 v) : CI l (gM D cs ad) M_X8_isSort 1 [mI v] σ (fun z σ' => z = bl (0 ≤ v ∧ v ≤ 2) ∧ σ' = σ) := by
  refine CI.of (by decide) (Nat.le_of_ble_eq_true rfl) (fun x h hq => ?_)
  show mG x 0 [(0, mI v)] [] σ
  refine g_iload_n h dX8_isSort_0 rfl ?_
  refine g_iconst h dX8_isSort_1 rfl ?_
  refine g_iconst h dX8_isSort_2 rfl ?_
  refine g_sI h (c_X8_within _ _ _ _ hv ⟨by omega, by omega⟩ ⟨by omega, by omega⟩) (by decide) lm_RX8_68 dX8_isSort_3 rfl (Nat.le_of_ble_eq_true rfl) (fun z3 s3 p3 => ?_)
  obtain ⟨rfl, rfl⟩ := p3
  refine g_zret h hq rfl dX8_isSort_6 (bl_01 _) ⟨rfl, rfl⟩
set_option maxRecDepth 100000 in
set_option maxHeartbeats 2000000 in
theorem c_X8_isDay {l : Launch} {D : va_G} {cs : mC} {ad : Int → Nat} (σ : mS) (v : Int) (hv : i32 v) : CI l (gM D cs ad) M_X8_isDay 1 [mI v] σ (fun z σ' => z = bl (0 ≤ v ∧ v ≤ 109) ∧ σ' = σ) := by
  refine CI.of (by decide) (Nat.le_of_ble_eq_true rfl) (fun x h hq => ?_)
  show mG x 0 [(0, mI v)] [] σ
  refine g_iload_n h dX8_isDay_0 rfl ?_
  refine g_iconst h dX8_isDay_1 rfl ?_
  refine g_bipush h dX8_isDay_2 (by decide) ?_
  refine g_sI h (c_X8_within _ _ _ _ hv ⟨by omega, by omega⟩ ⟨by omega, by omega⟩) (by decide) lm_RX8_68 dX8_isDay_4 rfl (Nat.le_of_ble_eq_true rfl) (fun z4 s4 p4 => ?_)
  obtain ⟨rfl, rfl⟩ := p4
  refine g_zret h hq rfl dX8_isDay_7 (bl_01 _) ⟨rfl, rfl⟩
set_option maxRecDepth 100000 in
set_option maxHeartbeats 2000000 in
theorem c_X8_isBill {l : Launch} {D : va_G} {cs : mC} {ad : Int → Nat} (σ : mS) (v : Int) (hv : i32 v) (hR : i32 (σ 0 9)) : CI l (gM D cs ad) M_X8_isBill 0 [.ref (ad 0), mI v] σ (fun z σ' => z = bl (0 ≤ v ∧ v < σ 0 9) ∧ σ' = σ) := by
  refine CI.of (by decide) (Nat.le_of_ble_eq_true rfl) (fun x h hq => ?_)
  show mG x 0 [(0, .ref (ad 0)), (1, mI v)] [] σ
  refine g_iload_n h dX8_isBill_0 rfl ?_
  refine g_if_lt (tgt := 16) h dX8_isBill_1 (by decide) hv (fun c1 => ?_) (fun c1 => ?_)
  · refine g_iconst h dX8_isBill_16 rfl ?_
    refine g_zret h hq rfl dX8_isBill_17 (by omega) ?_
    first | exact ⟨bl1 (by omega), rfl⟩ | exact ⟨bl0 (by omega), rfl⟩
  · refine g_iload_n h dX8_isBill_4 rfl ?_
    refine g_aload_n h dX8_isBill_5 rfl ?_
    refine gm_bills h dX8_isBill_6 lf_RX8_72 ?_
    refine g_icmp_ge (tgt := 16) h dX8_isBill_9 (by decide) hv hR (fun c9 => ?_) (fun c9 => ?_)
    · refine g_iconst h dX8_isBill_16 rfl ?_
      refine g_zret h hq rfl dX8_isBill_17 (by omega) ?_
      first | exact ⟨bl1 (by omega), rfl⟩ | exact ⟨bl0 (by omega), rfl⟩
    · refine g_iconst h dX8_isBill_12 rfl ?_
      refine g_goto (tgt := 17) h dX8_isBill_13 (by decide) ?_
      refine g_zret h hq rfl dX8_isBill_17 (by omega) ?_
      first | exact ⟨bl1 (by omega), rfl⟩ | exact ⟨bl0 (by omega), rfl⟩
set_option maxRecDepth 100000 in
set_option maxHeartbeats 2000000 in
theorem c_X8_fails {l : Launch} {D : va_G} {cs : mC} {ad : Int → Nat} (σ : mS) (v : Int)  : CI l (gM D cs ad) M_X8_fails 0 [.ref (ad 0), mI v] σ (fun z σ' => z = -10 - v ∧ σ' = mUp σ 0 0 v) := by
  refine CI.of (by decide) (Nat.le_of_ble_eq_true rfl) (fun x h hq => ?_)
  show mG x 0 [(0, .ref (ad 0)), (1, mI v)] [] σ
  refine g_aload_n h dX8_fails_0 rfl ?_
  refine g_iload_n h dX8_fails_1 rfl ?_
  refine pm_fault h dX8_fails_2 lf_RX8_63 ?_
  refine g_bipush h dX8_fails_5 (by decide) ?_
  refine g_iload_n h dX8_fails_7 rfl ?_
  refine g_isub h dX8_fails_8 ?_
  refine g_iret h hq rfl dX8_fails_9 ⟨rfl, rfl⟩
set_option maxRecDepth 100000 in
set_option maxHeartbeats 2000000 in
theorem c_X8_lost {l : Launch} {D : va_G} {cs : mC} {ad : Int → Nat} (σ : mS) (v : Int)  : CL l (gM D cs ad) M_X8_lost 0 [.ref (ad 0), mI v] σ (fun z σ' => z = -9223372036854775808 ∧ σ' = mUp σ 0 0 v) := by
  refine CL.of (by decide) (Nat.le_of_ble_eq_true rfl) (fun x h hq => ?_)
  show mG x 0 [(0, .ref (ad 0)), (1, mI v)] [] σ
  refine g_aload_n h dX8_lost_0 rfl ?_
  refine g_iload_n h dX8_lost_1 rfl ?_
  refine pm_fault h dX8_lost_2 lf_RX8_63 ?_
  refine g_ldc2 (v := -9223372036854775808) h dX8_lost_5 lc_RX8_66 (by decide) ?_
  refine g_lret h hq rfl dX8_lost_8 ⟨rfl, rfl⟩
set_option maxRecDepth 100000 in
set_option maxHeartbeats 2000000 in
theorem c_X8_begins {l : Launch} {D : va_G} {cs : mC} {ad : Int → Nat} (σ : mS) (v : Int)  : CV l (gM D cs ad) M_X8_begins 0 [.ref (ad 0), mI v] σ (fun σ' => σ' = mUp σ 0 1 (31 * σ 0 1 + v)) := by
  refine CV.of (by decide) (Nat.le_of_ble_eq_true rfl) (fun x h hq => ?_)
  show mG x 0 [(0, .ref (ad 0)), (1, mI v)] [] σ
  refine g_aload_n h dX8_begins_0 rfl ?_
  refine g_bipush h dX8_begins_1 (by decide) ?_
  refine g_aload_n h dX8_begins_3 rfl ?_
  refine gm_trace h dX8_begins_4 lf_RX8_215 ?_
  refine g_imul h dX8_begins_7 ?_
  refine g_iload_n h dX8_begins_8 rfl ?_
  refine g_iadd h dX8_begins_9 ?_
  refine pm_trace h dX8_begins_10 lf_RX8_215 ?_
  refine g_vret h hq rfl dX8_begins_13 rfl
set_option maxRecDepth 100000 in
set_option maxHeartbeats 2000000 in
theorem c_X8_trace {l : Launch} {D : va_G} {cs : mC} {ad : Int → Nat} (σ : mS)   : CI l (gM D cs ad) M_X8_trace 0 [.ref (ad 0)] σ (fun z σ' => z = σ 0 1 ∧ σ' = σ) := by
  refine CI.of (by decide) (Nat.le_of_ble_eq_true rfl) (fun x h hq => ?_)
  show mG x 0 [(0, .ref (ad 0))] [] σ
  refine g_aload_n h dX8_trace_0 rfl ?_
  refine gm_trace h dX8_trace_1 lf_RX8_215 ?_
  refine g_iret h hq rfl dX8_trace_4 ⟨rfl, rfl⟩
set_option maxRecDepth 100000 in
set_option maxHeartbeats 2000000 in
theorem c_X8_fault {l : Launch} {D : va_G} {cs : mC} {ad : Int → Nat} (σ : mS)   : CI l (gM D cs ad) M_X8_fault 0 [.ref (ad 0)] σ (fun z σ' => z = σ 0 0 ∧ σ' = σ) := by
  refine CI.of (by decide) (Nat.le_of_ble_eq_true rfl) (fun x h hq => ?_)
  show mG x 0 [(0, .ref (ad 0))] [] σ
  refine g_aload_n h dX8_fault_0 rfl ?_
  refine gm_fault h dX8_fault_1 lf_RX8_63 ?_
  refine g_iret h hq rfl dX8_fault_4 ⟨rfl, rfl⟩
set_option maxRecDepth 100000 in
set_option maxHeartbeats 2000000 in
theorem c_X8_moonDay {l : Launch} {D : va_G} {cs : mC} {ad : Int → Nat} (σ : mS) (n : Int) (h0 : 0 ≤ n * σ 0 6) (h1 : n * σ 0 6 ≤ 2147483647) (h2 : 0 < σ 0 7) (h3 : σ 0 7 ≤ 2147483647) : CI l (gM D cs ad) M_X8_moonDay 0 [.ref (ad 0), mI n] σ (fun z σ' => z = σ 0 5 + n * σ 0 6 / σ 0 7 ∧ σ' = σ) := by
  refine CI.of (by decide) (Nat.le_of_ble_eq_true rfl) (fun x h hq => ?_)
  show mG x 0 [(0, .ref (ad 0)), (1, mI n)] [] σ
  refine g_aload_n h dX8_moonDay_0 rfl ?_
  refine gm_origin h dX8_moonDay_1 lf_RX8_103 ?_
  refine g_iload_n h dX8_moonDay_4 rfl ?_
  refine g_aload_n h dX8_moonDay_5 rfl ?_
  refine gm_upper h dX8_moonDay_6 lf_RX8_109 ?_
  refine g_imul h dX8_moonDay_9 ?_
  refine g_aload_n h dX8_moonDay_10 rfl ?_
  refine gm_lower h dX8_moonDay_11 lf_RX8_115 ?_
  refine g_idiv h dX8_moonDay_14 (by omega) (by omega) (by omega) (by omega) ?_
  refine g_iadd h dX8_moonDay_15 ?_
  refine g_iret h hq rfl dX8_moonDay_16 ⟨rfl, rfl⟩
end
section
/-! ===== sets as bits ===== -/
def setN (p : Int → Bool) : Nat → Nat
  | 0 => 0
  | n + 1 => setN p n + (if p (n : Int) then 2 ^ n else 0)
theorem setN_lt (p : Int → Bool) : ∀ n, setN p n < 2 ^ n
  | 0 => by simp [setN]
  | n + 1 => by
    have h := setN_lt p n
    unfold setN
    rw [Nat.pow_succ]
    by_cases hp : p (n : Int) = true
    · rw [if_pos hp]; omega
    · rw [if_neg hp]; omega
theorem setN_tb (p : Int → Bool) : ∀ n i, (setN p n).testBit i = (decide (i < n) && p (i : Int))
  | 0, i => by simp [setN]
  | n + 1, i => by
    have h := setN_lt p n
    have ih := setN_tb p n i
    unfold setN
    by_cases hp : p (n : Int) = true
    · rw [if_pos hp, Nat.add_comm]
      rcases Nat.lt_trichotomy i n with q | q | q
      · rw [Nat.testBit_two_pow_add_gt q, ih]
        simp [q, Nat.lt_succ_of_lt q]
      · subst q
        rw [Nat.testBit_two_pow_add_eq, ih]
        simp [hp]
      · rw [Nat.testBit_lt_two_pow (Nat.lt_of_lt_of_le (show 2 ^ n + setN p n < 2 ^ (n + 1) by rw [Nat.pow_succ]; omega) (Nat.pow_le_pow_right (by omega) q))]
        simp; omega
    · rw [if_neg hp, Nat.add_zero, ih]
      rcases Nat.lt_trichotomy i n with q | q | q
      · simp [q, Nat.lt_succ_of_lt q]
      · subst q
        simp at hp
        simp [hp]
      · have h1 : ¬ i < n := by omega
        have h2 : ¬ i < n + 1 := by omega
        simp [h1, h2]
theorem setN_cong {p q : Int → Bool} : ∀ {n : Nat}, (∀ i : Int, 0 ≤ i → i < n → p i = q i) → setN p n = setN q n
  | 0, _ => rfl
  | n + 1, h => by
    unfold setN
    rw [setN_cong (fun i h0 h1 => h i h0 (by omega)), h (n : Int) (by omega) (by omega)]
def setOf (n : Nat) (p : Int → Bool) : Int := (setN p n : Int)
theorem setOf_cong {n : Nat} {p q : Int → Bool} (h : ∀ i : Int, 0 ≤ i → i < n → p i = q i) : setOf n p = setOf n q := by unfold setOf; rw [setN_cong h]
theorem setOf_0 (p : Int → Bool) : setOf 0 p = 0 := rfl
theorem setOf_pos (n : Nat) (p : Int → Bool) : 0 ≤ setOf n p := Int.natCast_nonneg _
theorem setOf_lt {n : Nat} (hn : n ≤ 31) (p : Int → Bool) : setOf n p ≤ 2147483647 := by
  have h := setN_lt p n
  have h2 : 2 ^ n ≤ 2 ^ 31 := Nat.pow_le_pow_right (by omega) hn
  unfold setOf
  omega
theorem setOf_32 {n : Nat} (hn : n ≤ 31) (p : Int → Bool) : i32 (setOf n p) := ⟨by have := setOf_pos n p; omega, setOf_lt hn p⟩
theorem setN_inj {p q : Int → Bool} {n : Nat} (h : setN p n = setN q n) {i : Int} (h0 : 0 ≤ i) (h1 : i < n) : p i = q i := by
  have h2 := setN_tb p n i.toNat
  rw [h, setN_tb q n i.toNat, Int.toNat_of_nonneg h0] at h2
  have h3 : decide (i.toNat < n) = true := by simp; omega
  rw [h3] at h2
  simpa using h2.symm
theorem b32 (x : Nat) (i : Nat) : (Int32.ofInt (x : Int)).toBitVec.getLsbD i = (decide (i < 32) && x.testBit i) := by
  rw [Int32.ofInt_eq_ofNat]
  simp [Int32.toBitVec_ofNat', BitVec.getLsbD_ofNat]
theorem i32_bits {a : Int32} {n : Nat} (hn : n < 2 ^ 31) (h : ∀ i, i < 32 → a.toBitVec.getLsbD i = n.testBit i) : a.toInt = (n : Int) := by
  have e : a = Int32.ofInt (n : Int) := by
    apply Int32.toBitVec_inj.mp
    apply BitVec.eq_of_getLsbD_eq
    intro i hi
    rw [h i hi, b32]
    simp [hi]
  rw [e]
  exact i32_to ⟨by omega, by omega⟩
theorem iOr_nat {x y z : Nat} (hz : z < 2 ^ 31) (h : ∀ i, i < 32 → (x.testBit i || y.testBit i) = z.testBit i) : iOr (x : Int) (y : Int) = (z : Int) := by
  unfold iOr
  refine i32_bits hz (fun i hi => ?_)
  rw [Int32.toBitVec_or, BitVec.getLsbD_or, b32, b32, ← h i hi]
  simp [hi]
theorem iAnd_nat {x y z : Nat} (hz : z < 2 ^ 31) (h : ∀ i, i < 32 → (x.testBit i && y.testBit i) = z.testBit i) : iAnd (x : Int) (y : Int) = (z : Int) := by
  unfold iAnd
  refine i32_bits hz (fun i hi => ?_)
  rw [Int32.toBitVec_and, BitVec.getLsbD_and, b32, b32, ← h i hi]
  simp [hi]
theorem iDif_nat {x y z : Nat} (hz : z < 2 ^ 31) (h : ∀ i, i < 32 → (x.testBit i && !(y.testBit i)) = z.testBit i) : iAnd (x : Int) (iXor (y : Int) (-1)) = (z : Int) := by
  unfold iAnd iXor
  rw [Int32.ofInt_toInt]
  refine i32_bits hz (fun i hi => ?_)
  rw [Int32.toBitVec_and, BitVec.getLsbD_and, b32, Int32.toBitVec_xor, BitVec.getLsbD_xor, b32, ← h i hi]
  have e : (Int32.ofInt (-1)).toBitVec.getLsbD i = true := by
    have : ∀ i, i < 32 → (Int32.ofInt (-1)).toBitVec.getLsbD i = true := by decide +kernel
    exact this i hi
  rw [e]
  simp [hi]
theorem iOr_set {n : Nat} (hn : n ≤ 31) (p q : Int → Bool) : iOr (setOf n p) (setOf n q) = setOf n (fun i => p i || q i) := by
  unfold setOf
  refine iOr_nat (Nat.lt_of_lt_of_le (setN_lt _ n) (Nat.pow_le_pow_right (by omega) hn)) (fun i _ => ?_)
  rw [setN_tb, setN_tb, setN_tb]
  cases decide (i < n) <;> simp
theorem iAnd_set {n : Nat} (hn : n ≤ 31) (p q : Int → Bool) : iAnd (setOf n p) (setOf n q) = setOf n (fun i => p i && q i) := by
  unfold setOf
  refine iAnd_nat (Nat.lt_of_lt_of_le (setN_lt _ n) (Nat.pow_le_pow_right (by omega) hn)) (fun i _ => ?_)
  rw [setN_tb, setN_tb, setN_tb]
  cases decide (i < n) <;> simp
theorem iDif_set {n : Nat} (hn : n ≤ 31) (p q : Int → Bool) : iAnd (setOf n p) (iXor (setOf n q) (-1)) = setOf n (fun i => p i && !q i) := by
  unfold setOf
  refine iDif_nat (Nat.lt_of_lt_of_le (setN_lt _ n) (Nat.pow_le_pow_right (by omega) hn)) (fun i _ => ?_)
  rw [setN_tb, setN_tb, setN_tb]
  cases decide (i < n) <;> simp
theorem iShl1 {b : Int} (h0 : 0 ≤ b) (h1 : b < 31) : iShl 1 b = ((2 ^ b.toNat : Nat) : Int) := by
  have h : ∀ n : Nat, n < 31 → iShl 1 (n : Int) = ((2 ^ n : Nat) : Int) := by decide +kernel
  have := h b.toNat (by omega)
  rwa [Int.toNat_of_nonneg h0] at this
theorem pow_set {n : Nat} {b : Int} (h0 : 0 ≤ b) (h1 : b < n) : ((2 ^ b.toNat : Nat) : Int) = setOf n (fun i => decide (i = b)) := by
  unfold setOf
  have e : 2 ^ b.toNat = setN (fun i => decide (i = b)) n := by
    apply Nat.eq_of_testBit_eq
    intro i
    rw [setN_tb, Nat.testBit_two_pow]
    by_cases hi : b.toNat = i
    · have h2 : i < n := by omega
      have h3 : (i : Int) = b := by omega
      simp [hi, h2, h3]
    · have h3 : ¬ (i : Int) = b := by omega
      simp [hi, h3]
  rw [e]
theorem iShl_set {n : Nat} (hn : n ≤ 31) {b : Int} (h0 : 0 ≤ b) (h1 : b < n) : iShl 1 b = setOf n (fun i => decide (i = b)) := by
  rw [iShl1 h0 (by omega), pow_set h0 h1]
theorem set_add {n : Nat} (hn : n ≤ 31) (p : Int → Bool) {b : Int} (h0 : 0 ≤ b) (h1 : b < n) : iOr (setOf n p) (iShl 1 b) = setOf n (fun i => p i || decide (i = b)) := by
  rw [iShl_set hn h0 h1, iOr_set hn]
theorem set_grow {n : Nat} (p : Int → Bool) : setOf (n + 1) p = setOf n p + (if p (n : Int) then ((2 ^ n : Nat) : Int) else 0) := by
  unfold setOf
  rw [setN]
  by_cases hp : p (n : Int) = true
  · rw [if_pos hp, if_pos hp]; omega
  · rw [if_neg hp, if_neg hp]; omega
theorem set_succ {n : Nat} (hn : n < 31) (p : Int → Bool) {v : Int} (hv : v = if p (n : Int) then iShl 1 (n : Int) else 0) : iOr (setOf n p) v = setOf (n + 1) p := by
  have hlt := setN_lt p n
  have e2 : (2 ^ n : Nat) < 2 ^ 31 := Nat.pow_lt_pow_right (by omega) hn
  have hz : setN p (n + 1) < 2 ^ 31 := Nat.lt_of_lt_of_le (setN_lt p (n + 1)) (Nat.pow_le_pow_right (by omega) (by omega))
  subst hv
  by_cases hp : p (n : Int) = true
  · rw [if_pos hp, iShl1 (by omega) (by omega), Int.toNat_natCast]
    unfold setOf
    refine iOr_nat hz (fun i _ => ?_)
    rw [setN_tb, setN_tb, Nat.testBit_two_pow]
    rcases Nat.lt_trichotomy i n with q | q | q
    · have h1 : ¬ n = i := by omega
      simp [q, h1, Nat.lt_succ_of_lt q]
    · subst q
      simp [hp]
    · have h1 : ¬ i < n := by omega
      have h2 : ¬ i < n + 1 := by omega
      have h3 : ¬ n = i := by omega
      simp [h1, h2, h3]
  · rw [if_neg hp]
    unfold setOf
    refine iOr_nat (x := setN p n) (y := 0) hz (fun i _ => ?_)
    rw [setN_tb, setN_tb, Nat.zero_testBit]
    rcases Nat.lt_trichotomy i n with q | q | q
    · simp [q, Nat.lt_succ_of_lt q]
    · subst q
      simp at hp
      simp [hp]
    · have h1 : ¬ i < n := by omega
      have h2 : ¬ i < n + 1 := by omega
      simp [h1, h2]
theorem s_l9 : ∀ n, n < 32 → ((nI n &&& 31).toBitVec.smod 32).toNat = n := by decide +kernel
/-- a bit is read -/
theorem bit_rd {x : Nat} (hx : x < 2 ^ 31) {b : Int} (h0 : 0 ≤ b) (h1 : b < 31) : iAnd (iShr (x : Int) b) 1 = bl (x.testBit b.toNat = true) := by
  have eb : Int32.ofInt b = nI b.toNat := by
    have := Int32.ofInt_eq_ofNat (n := b.toNat)
    rwa [Int.toNat_of_nonneg h0] at this
  have ex : Int32.ofInt (x : Int) = nI x := Int32.ofInt_eq_ofNat
  unfold iAnd iShr
  rw [Int32.ofInt_toInt, eb, ex, pk_shrN hx _ b.toNat (s_l9 b.toNat (by omega))]
  have e1 : Int32.ofInt 1 = (1 : Int32) := by decide
  rw [e1, pk_andN (m := 1) (by have := Nat.div_le_self x (2 ^ b.toNat); omega) 1 (by decide), nI_toInt (by omega)]
  rw [Nat.testBit_eq_decide_div_mod_eq]
  unfold bl
  by_cases h : x / 2 ^ b.toNat % 2 = 1
  · rw [if_pos (by simp [h])]
    omega
  · rw [if_neg (by simp [h])]
    omega
theorem set_rd {n : Nat} (hn : n ≤ 31) (p : Int → Bool) {b : Int} (h0 : 0 ≤ b) (h1 : b < n) : iAnd (iShr (setOf n p) b) 1 = bl (p b = true) := by
  have hx : setN p n < 2 ^ 31 := Nat.lt_of_lt_of_le (setN_lt p n) (Nat.pow_le_pow_right (by omega) hn)
  show iAnd (iShr ((setN p n : Nat) : Int) b) 1 = _
  rw [bit_rd hx h0 (by omega)]
  refine bl_cong ?_
  rw [setN_tb, Int.toNat_of_nonneg h0]
  have h2 : decide (b.toNat < n) = true := by simp; omega
  rw [h2]
  simp
theorem set_zero {n : Nat} {p : Int → Bool} : setOf n p = 0 ↔ ∀ i : Int, 0 ≤ i → i < n → p i = false := by
  constructor
  · intro h i h0 h1
    have h2 : setN p n = setN (fun _ => false) n := by
      have h3 : setN p n = 0 := by unfold setOf at h; omega
      have h4 : ∀ m, setN (fun _ => false) m = 0 := by
        intro m
        induction m with
        | zero => rfl
        | succ m ih => simp [setN, ih]
      rw [h3, h4]
    exact setN_inj h2 h0 h1
  · intro h
    have h4 : ∀ m, setN (fun _ => false) m = 0 := by
      intro m
      induction m with
      | zero => rfl
      | succ m ih => simp [setN, ih]
    unfold setOf
    rw [setN_cong (q := fun _ => false) (fun i h0 h1 => h i h0 h1), h4]
    rfl
end
section
/-! ===== what the calls mean, in numbers: τ is the state as both sides show it =====
  τ 0 0 begins, 0 1 upper, 0 2 lower, 0 3 span, 0 4 how many bills, 0 5 clouded nights, 0 6 readings, 0 7 trace, 0 8 fault;
  τ 1 b kind, 2 b day, 3 b needs, 4 b names, 5 b lasts; τ 6 d clouded; τ 7 q, 8 q, 9 q a reading's bill, day, truth; τ 10 k a sheet's lane (-1: nothing), 11 k its length; τ (12 + k) i its cells -/
def anyN (p : Int → Bool) : Nat → Bool
  | 0 => false
  | n + 1 => anyN p n || p (n : Int)
theorem anyN_iff {p : Int → Bool} : ∀ {n : Nat}, anyN p n = true ↔ ∃ i : Int, 0 ≤ i ∧ i < n ∧ p i = true
  | 0 => by
    constructor
    · intro h; cases h
    · rintro ⟨i, h0, h1, -⟩; omega
  | n + 1 => by
    unfold anyN
    rw [Bool.or_eq_true, anyN_iff (n := n)]
    constructor
    · rintro (⟨i, h0, h1, h2⟩ | h)
      · exact ⟨i, h0, by omega, h2⟩
      · exact ⟨(n : Int), by omega, by omega, h⟩
    · rintro ⟨i, h0, h1, h2⟩
      by_cases hi : i = (n : Int)
      · exact Or.inr (hi ▸ h2)
      · exact Or.inl ⟨i, h0, by omega, h2⟩
theorem anyN_no {p : Int → Bool} {n : Nat} : anyN p n = false ↔ ∀ i : Int, 0 ≤ i → i < n → p i = false := by
  constructor
  · intro h i h0 h1
    cases hp : p i with
    | false => rfl
    | true => rw [anyN_iff.mpr ⟨i, h0, h1, hp⟩] at h; cases h
  · intro h
    cases ha : anyN p n with
    | false => rfl
    | true =>
      obtain ⟨i, h0, h1, h2⟩ := anyN_iff.mp ha
      rw [h i h0 h1] at h2
      cases h2
theorem anyN_cong {p q : Int → Bool} {n : Nat} (h : ∀ i : Int, 0 ≤ i → i < n → p i = q i) : anyN p n = anyN q n := by
  cases hq : anyN q n with
  | true =>
    obtain ⟨i, h0, h1, h2⟩ := anyN_iff.mp hq
    exact anyN_iff.mpr ⟨i, h0, h1, (h i h0 h1).trans h2⟩
  | false => exact anyN_no.mpr (fun i h0 h1 => (h i h0 h1).trans (anyN_no.mp hq i h0 h1))
def cntN (p : Int → Bool) : Nat → Int
  | 0 => 0
  | n + 1 => cntN p n + (if p (n : Int) then 1 else 0)
theorem cntN_cong {p q : Int → Bool} : ∀ {n : Nat}, (∀ i : Int, 0 ≤ i → i < n → p i = q i) → cntN p n = cntN q n
  | 0, _ => rfl
  | n + 1, h => by
    unfold cntN
    rw [cntN_cong (fun i h0 h1 => h i h0 (by omega)), h (n : Int) (by omega) (by omega)]
theorem cntN_le (p : Int → Bool) : ∀ n : Nat, 0 ≤ cntN p n ∧ cntN p n ≤ n
  | 0 => by simp [cntN]
  | n + 1 => by
    have h := cntN_le p n
    unfold cntN
    by_cases hp : p (n : Int) = true
    · rw [if_pos hp]; omega
    · rw [if_neg hp]; omega
/-- the first, or n -/
def fstN (p : Int → Bool) : Nat → Int
  | 0 => 0
  | n + 1 => if fstN p n < n then fstN p n else if p (n : Int) then n else n + 1
theorem fstN_sp (p : Int → Bool) : ∀ n : Nat, 0 ≤ fstN p n ∧ fstN p n ≤ n ∧ (∀ i : Int, 0 ≤ i → i < fstN p n → p i = false) ∧ (fstN p n < n → p (fstN p n) = true)
  | 0 => ⟨by simp [fstN], by simp [fstN], fun i h0 h1 => by simp [fstN] at h1; omega, fun h => by simp [fstN] at h⟩
  | n + 1 => by
    obtain ⟨h0, h1, h2, h3⟩ := fstN_sp p n
    unfold fstN
    by_cases hl : fstN p n < n
    · rw [if_pos hl]
      exact ⟨h0, by omega, h2, fun _ => h3 hl⟩
    · rw [if_neg hl]
      have e : fstN p n = n := by omega
      rw [e] at h2
      by_cases hp : p (n : Int) = true
      · rw [if_pos hp]
        exact ⟨by omega, by omega, h2, fun _ => hp⟩
      · rw [if_neg hp]
        refine ⟨by omega, by omega, fun i g0 g1 => ?_, fun g => by omega⟩
        by_cases hi : i = (n : Int)
        · rw [hi]; simpa using hp
        · exact h2 i g0 (by omega)
theorem fstN_is {p : Int → Bool} {n : Nat} {i : Int} (h0 : 0 ≤ i) (h1 : i < n) (hp : p i = true) (hb : ∀ j : Int, 0 ≤ j → j < i → p j = false) : fstN p n = i := by
  obtain ⟨g0, g1, g2, g3⟩ := fstN_sp p n
  rcases Int.lt_trichotomy (fstN p n) i with q | q | q
  · have := g3 (by omega)
    rw [hb _ g0 q] at this
    cases this
  · exact q
  · rw [g2 i h0 q] at hp
    cases hp
theorem fstN_no {p : Int → Bool} {n : Nat} (h : ∀ i : Int, 0 ≤ i → i < n → p i = false) : fstN p n = n := by
  obtain ⟨g0, g1, g2, g3⟩ := fstN_sp p n
  by_cases q : fstN p n < n
  · have := g3 q
    rw [h _ g0 q] at this
    cases this
  · omega
theorem fstN_cong {p q : Int → Bool} {n : Nat} (h : ∀ i : Int, 0 ≤ i → i < n → p i = q i) : fstN p n = fstN q n := by
  obtain ⟨g0, g1, g2, g3⟩ := fstN_sp q n
  by_cases hl : fstN q n < n
  · exact fstN_is g0 hl ((h _ g0 hl).trans (g3 hl)) (fun j j0 j1 => (h j j0 (by omega)).trans (g2 j j0 j1))
  · have e : fstN q n = n := by omega
    rw [e] at g2
    rw [e]
    exact fstN_no (fun i h0 h1 => (h i h0 h1).trans (g2 i h0 h1))
/-! moons -/
def qMd (τ : mS) (m : Int) : Int := τ 0 0 + m * τ 0 1 / τ 0 2
def qWt (τ : mS) (b m : Int) : Bool := decide (τ 2 b ≤ qMd τ m ∧ qMd τ m ≤ τ 2 b + τ 0 3)
/-- a bill is struck: dk m: full moon m is dark -/
def qSt (τ : mS) (dk : Int → Bool) (b : Int) : Bool := anyN (fun m => qWt τ b m && !dk m) 11
/-! force -/
def qOn (τ : mS) (P : Int → Bool) (b d : Int) : Bool := P b && (decide (τ 2 b < d) && (decide (¬ τ 1 b = 1) || decide (d ≤ τ 2 b + 10 * τ 5 b)))
def qBf (τ : mS) (a b : Int) : Bool := decide (τ 2 a < τ 2 b ∨ (τ 2 a = τ 2 b ∧ a < b))
def qIn (τ : mS) (P : Int → Bool) : Nat → Int → Int → Bool
  | 0, _, _ => false
  | f + 1, b, d => qOn τ P b d && !(anyN (fun r => decide (τ 1 r = 2) && (decide (τ 4 r = b) && (qBf τ b r && qIn τ P f r d))) (τ 0 4).toNat)
/-- the bills by their days: an enumeration in order -/
def qSr (τ : mS) (n : Int) (o : Int → Int) : Prop := (∀ i : Int, 0 ≤ i → i < n → 0 ≤ o i ∧ o i < n) ∧ (∀ i j : Int, 0 ≤ i → i < j → j < n → qBf τ (o i) (o j) = true) ∧ ∀ b : Int, 0 ≤ b → b < n → ∃ i : Int, 0 ≤ i ∧ i < n ∧ o i = b
theorem qBf_asym {τ : mS} {a b : Int} (h : qBf τ a b = true) : qBf τ b a = false := by
  unfold qBf at *
  simp only [decide_eq_true_eq] at h
  simp only [decide_eq_false_iff_not]
  omega
theorem qBf_irr {τ : mS} {a : Int} : qBf τ a a = false := by
  unfold qBf
  simp
theorem qBf_tri {τ : mS} {a b : Int} (h : ¬ a = b) : qBf τ a b = true ∨ qBf τ b a = true := by
  unfold qBf
  simp only [decide_eq_true_eq]
  omega
theorem qBf_tr {τ : mS} {a b c : Int} (h : qBf τ a b = true) (h2 : qBf τ b c = true) : qBf τ a c = true := by
  unfold qBf at *
  simp only [decide_eq_true_eq] at *
  omega
theorem qSr_lt {τ : mS} {n : Int} {o : Int → Int} (h : qSr τ n o) {i j : Int} (hi0 : 0 ≤ i) (hi : i < n) (hj0 : 0 ≤ j) (hj : j < n) (hb : qBf τ (o i) (o j) = true) : i < j := by
  rcases Int.lt_trichotomy i j with q | q | q
  · exact q
  · rw [q, qBf_irr] at hb; cases hb
  · rw [qBf_asym (h.2.1 j i hj0 q hi)] at hb; cases hb
theorem qSr_inj {τ : mS} {n : Int} {o : Int → Int} (h : qSr τ n o) {i j : Int} (hi0 : 0 ≤ i) (hi : i < n) (hj0 : 0 ≤ j) (hj : j < n) (e : o i = o j) : i = j := by
  rcases Int.lt_trichotomy i j with q | q | q
  · have := h.2.1 i j hi0 q hj
    rw [e, qBf_irr] at this
    cases this
  · exact q
  · have := h.2.1 j i hj0 q hi
    rw [e, qBf_irr] at this
    cases this
/-- depth enough is depth enough -/
theorem qIn_st {τ : mS} {P : Int → Bool} {o : Int → Int} (h : qSr τ (τ 0 4) o) (d : Int) : ∀ (f : Nat) (i : Int), 0 ≤ i → i < τ 0 4 → τ 0 4 - i ≤ f → qIn τ P f (o i) d = qIn τ P (f + 1) (o i) d := by
  intro f
  induction f with
  | zero => intro i h0 h1 h2; omega
  | succ f ih =>
    intro i h0 h1 h2
    show (qOn τ P (o i) d && !(anyN (fun r => decide (τ 1 r = 2) && (decide (τ 4 r = o i) && (qBf τ (o i) r && qIn τ P f r d))) (τ 0 4).toNat)) = (qOn τ P (o i) d && !(anyN (fun r => decide (τ 1 r = 2) && (decide (τ 4 r = o i) && (qBf τ (o i) r && qIn τ P (f + 1) r d))) (τ 0 4).toNat))
    rw [anyN_cong (q := fun r => decide (τ 1 r = 2) && (decide (τ 4 r = o i) && (qBf τ (o i) r && qIn τ P (f + 1) r d)))]
    intro r r0 r1
    cases hb : qBf τ (o i) r with
    | false => simp
    | true =>
      obtain ⟨j, j0, j1, rfl⟩ := h.2.2 r r0 (by omega)
      have hij := qSr_lt h h0 h1 j0 j1 hb
      rw [ih j j0 j1 (by omega)]
theorem qIn_ge {τ : mS} {P : Int → Bool} {o : Int → Int} (h : qSr τ (τ 0 4) o) (d : Int) {i : Int} (h0 : 0 ≤ i) (h1 : i < τ 0 4) (f : Nat) (hf : τ 0 4 - i ≤ f) : ∀ k : Nat, qIn τ P f (o i) d = qIn τ P (f + k) (o i) d := by
  intro k
  induction k with
  | zero => rfl
  | succ k ih => rw [ih]; exact qIn_st h d (f + k) i h0 h1 (by omega)
/-- force looks at what passes of the bills there are alone -/
theorem qIn_cong {τ : mS} {P Q : Int → Bool} (hPQ : ∀ b : Int, 0 ≤ b → b < τ 0 4 → P b = Q b) (d : Int) : ∀ (f : Nat) (b : Int), 0 ≤ b → b < τ 0 4 → qIn τ P f b d = qIn τ Q f b d := by
  intro f
  induction f with
  | zero => intro b _ _; rfl
  | succ f ih =>
    intro b h0 h1
    unfold qIn
    rw [anyN_cong (q := fun r => decide (τ 1 r = 2) && (decide (τ 4 r = b) && (qBf τ b r && qIn τ Q f r d))) (fun r r0 r1 => by rw [ih r r0 (by omega)])]
    unfold qOn
    rw [hPQ b h0 h1]
/-! passing: one bill after the other, by their days -/
def qMay (τ : mS) (st : Int → Bool) (P : Int → Bool) (b : Int) : Bool := !st b && (decide (τ 3 b = 6) || (decide (τ 3 b < τ 0 4) && qIn τ P 6 (τ 3 b) (τ 2 b)))
def qPk (τ : mS) (o : Int → Int) (st : Int → Bool) : Nat → Int → Bool
  | 0, _ => false
  | k + 1, b => qPk τ o st k b || (decide (b = o (k : Int)) && qMay τ st (qPk τ o st k) b)
theorem qPk_cong {τ : mS} {o o' : Int → Int} {st st' : Int → Bool} : ∀ (k : Nat), (∀ i : Int, 0 ≤ i → i < k → o i = o' i) → (∀ i : Int, 0 ≤ i → i < k → st (o i) = st' (o i)) → qPk τ o st k = qPk τ o' st' k
  | 0, _, _ => rfl
  | k + 1, h, hs => by
    have e := qPk_cong (τ := τ) k (fun i h0 h1 => h i h0 (by omega)) (fun i h0 h1 => hs i h0 (by omega))
    funext b
    show (qPk τ o st k b || (decide (b = o (k : Int)) && qMay τ st (qPk τ o st k) b)) = (qPk τ o' st' k b || (decide (b = o' (k : Int)) && qMay τ st' (qPk τ o' st' k) b))
    rw [e, ← h (k : Int) (by omega) (by omega)]
    by_cases hb : b = o (k : Int)
    · have hs2 := hs (k : Int) (by omega) (by omega)
      unfold qMay
      rw [hb, hs2]
    · simp [hb]
/-- one more bill is put among those in order -/
theorem qSr_ins {τ : mS} {k p : Int} {o o' : Int → Int} (h : qSr τ k o) (hp0 : 0 ≤ p) (hp1 : p ≤ k) (hlo : ∀ i : Int, 0 ≤ i → i < p → τ 2 (o i) ≤ τ 2 k) (hhi : ∀ i : Int, p ≤ i → i < k → τ 2 k < τ 2 (o i)) (e1 : ∀ i : Int, 0 ≤ i → i < p → o' i = o i) (e2 : o' p = k) (e3 : ∀ i : Int, p < i → i ≤ k → o' i = o (i - 1)) : qSr τ (k + 1) o' := by
  refine ⟨fun i h0 h1 => ?_, fun i j h0 h1 h2 => ?_, fun b h0 h1 => ?_⟩
  · rcases Int.lt_trichotomy i p with q | q | q
    · rw [e1 i h0 q]
      have := h.1 i h0 (by omega)
      omega
    · rw [q, e2]; omega
    · rw [e3 i q (by omega)]
      have := h.1 (i - 1) (by omega) (by omega)
      omega
  · rcases Int.lt_trichotomy j p with q | q | q
    · rw [e1 i h0 (by omega), e1 j (by omega) q]
      exact h.2.1 i j h0 h1 (by omega)
    · subst q
      rw [e1 i h0 h1, e2]
      have g1 := hlo i h0 h1
      have g2 := (h.1 i h0 (by omega)).2
      unfold qBf
      simp only [decide_eq_true_eq]
      omega
    · rw [e3 j q (by omega)]
      rcases Int.lt_trichotomy i p with r | r | r
      · rw [e1 i h0 r]
        exact h.2.1 i (j - 1) h0 (by omega) (by omega)
      · rw [r, e2]
        have g1 := hhi (j - 1) (by omega) (by omega)
        unfold qBf
        simp only [decide_eq_true_eq]
        omega
      · rw [e3 i r (by omega)]
        exact h.2.1 (i - 1) (j - 1) (by omega) (by omega) (by omega)
  · by_cases hb : b = k
    · exact ⟨p, hp0, by omega, by rw [e2, hb]⟩
    · obtain ⟨i, i0, i1, rfl⟩ := h.2.2 b h0 (by omega)
      by_cases hi : i < p
      · exact ⟨i, i0, by omega, e1 i i0 hi⟩
      · exact ⟨i + 1, by omega, by omega, by rw [e3 (i + 1) (by omega) (by omega), show i + 1 - 1 = i by omega]⟩
theorem qSr_0 (τ : mS) (o : Int → Int) : qSr τ 0 o := ⟨fun i h0 h1 => by omega, fun i j h0 h1 h2 => by omega, fun b h0 h1 => by omega⟩
theorem qSr_ex (τ : mS) : ∀ n : Nat, ∃ o : Int → Int, qSr τ (n : Int) o
  | 0 => ⟨fun _ => 0, qSr_0 τ _⟩
  | n + 1 => by
    obtain ⟨o, h⟩ := qSr_ex τ n
    obtain ⟨g0, g1, g2, g3⟩ := fstN_sp (fun i => decide (τ 2 (n : Int) < τ 2 (o i))) n
    generalize fstN (fun i => decide (τ 2 (n : Int) < τ 2 (o i))) n = p at g0 g1 g2 g3
    refine ⟨fun i => if i < p then o i else if i = p then (n : Int) else o (i - 1), ?_⟩
    have key : qSr τ ((n : Int) + 1) (fun i => if i < p then o i else if i = p then (n : Int) else o (i - 1)) := by
      refine qSr_ins h g0 g1 (fun i h0 h1 => ?_) (fun i h0 h1 => ?_) (fun i h0 h1 => ?_) ?_ (fun i h0 h1 => ?_)
      · have := g2 i h0 h1
        simp only [decide_eq_false_iff_not] at this
        omega
      · have q := g3 (by omega)
        simp only [decide_eq_true_eq] at q
        by_cases hi : i = p
        · rw [hi]; exact q
        · have r := h.2.1 p i g0 (by omega) h1
          unfold qBf at r
          simp only [decide_eq_true_eq] at r
          omega
      · show (if i < p then _ else _) = _
        rw [if_pos h1]
      · show (if p < p then _ else if p = p then _ else _) = _
        rw [if_neg (by omega), if_pos rfl]
      · show (if i < p then _ else if i = p then _ else _) = _
        rw [if_neg (by omega), if_neg (by omega)]
    exact key
theorem qSr_un {τ : mS} {n : Int} {o o' : Int → Int} (h : qSr τ n o) (h' : qSr τ n o') : ∀ (m : Nat) (i : Int), 0 ≤ i → i < m → i < n → o i = o' i := by
  intro m
  induction m with
  | zero => intro i h0 h1; omega
  | succ m ih =>
    intro i h0 h1 h2
    by_cases hm : i < m
    · exact ih i h0 hm h2
    · obtain ⟨j, j0, j1, ej⟩ := h.2.2 (o' i) (h'.1 i h0 h2).1 (h'.1 i h0 h2).2
      obtain ⟨j', j0', j1', ej'⟩ := h'.2.2 (o i) (h.1 i h0 h2).1 (h.1 i h0 h2).2
      have g1 : ¬ j < i := by
        intro q
        have := ih j j0 (by omega) j1
        have := qSr_inj h' j0 j1 h0 h2 (by rw [← this, ej])
        omega
      have g2 : ¬ j' < i := by
        intro q
        have := ih j' j0' (by omega) j1'
        have := qSr_inj h j0' j1' h0 h2 (by rw [this, ej'])
        omega
      by_cases q : j = i
      · rw [← q, ej, q]
      · by_cases q' : j' = i
        · rw [← ej', q']
        · have a1 := h.2.1 i j h0 (by omega) j1
          have a2 := h'.2.1 i j' h0 (by omega) j1'
          rw [ej] at a1
          rw [ej', qBf_asym a1] at a2
          cases a2
/-- the bills in order -/
noncomputable def qO (τ : mS) : Int → Int := Classical.choose (qSr_ex τ (τ 0 4).toNat)
theorem qO_ok {τ : mS} (h : 0 ≤ τ 0 4) : qSr τ (τ 0 4) (qO τ) := by
  have this : qSr τ ((τ 0 4).toNat : Int) (qO τ) := Classical.choose_spec (qSr_ex τ (τ 0 4).toNat)
  rwa [Int.toNat_of_nonneg h] at this
theorem qO_un {τ : mS} (h : 0 ≤ τ 0 4) {o : Int → Int} (ho : qSr τ (τ 0 4) o) {i : Int} (h0 : 0 ≤ i) (h1 : i < τ 0 4) : o i = qO τ i := qSr_un ho (qO_ok h) (i.toNat + 1) i h0 (by omega) h1
/-- what passes -/
noncomputable def qPf (τ : mS) (st : Int → Bool) : Int → Bool := qPk τ (qO τ) st (τ 0 4).toNat
theorem qPf_cong {τ : mS} (h : 0 ≤ τ 0 4) {st st' : Int → Bool} (hs : ∀ b : Int, 0 ≤ b → b < τ 0 4 → st b = st' b) : qPf τ st = qPf τ st' := by
  unfold qPf
  refine qPk_cong _ (fun _ _ _ => rfl) (fun i h0 h1 => ?_)
  have := (qO_ok h).1 i h0 (by omega)
  exact hs _ this.1 this.2
/-- in force, for good: six are enough -/
noncomputable def qF (τ : mS) (st : Int → Bool) (b d : Int) : Bool := qIn τ (qPf τ st) 6 b d
/-- well formed -/
def qWf (τ : mS) : Prop := 0 ≤ τ 0 4 ∧ τ 0 4 ≤ 6 ∧ 0 ≤ τ 0 0 ∧ τ 0 0 ≤ 29 ∧ 0 ≤ τ 0 3 ∧ τ 0 3 ≤ 9 ∧ (0 < τ 0 4 → 20 ≤ τ 0 1 ∧ τ 0 1 ≤ 60 ∧ 1 ≤ τ 0 2 ∧ τ 0 2 ≤ 2) ∧ ∀ b : Int, 0 ≤ b → b < 6 → 0 ≤ τ 1 b ∧ τ 1 b ≤ 2 ∧ 0 ≤ τ 2 b ∧ τ 2 b ≤ 99 ∧ 0 ≤ τ 3 b ∧ τ 3 b ≤ 6 ∧ 0 ≤ τ 4 b ∧ τ 4 b ≤ 6 ∧ 0 ≤ τ 5 b ∧ τ 5 b ≤ 9
/-! the calendar -/
theorem qMd_rng {τ : mS} (h : qWf τ) (hn : 0 < τ 0 4) {m : Int} (h0 : 0 ≤ m) (h1 : m ≤ 100) : 0 ≤ m * τ 0 1 ∧ m * τ 0 1 ≤ 6000 ∧ 0 ≤ qMd τ m ∧ qMd τ m ≤ 6029 ∧ 10 * m ≤ qMd τ m := by
  obtain ⟨-, -, a0, a1, -, -, a2, -⟩ := h
  obtain ⟨u0, u1, l0, l1⟩ := a2 hn
  have e1 : 0 ≤ m * τ 0 1 := Int.mul_nonneg h0 (by omega)
  have e2 : m * τ 0 1 ≤ 100 * 60 := Int.mul_le_mul h1 u1 (by omega) (by omega)
  have e3 : m * 20 ≤ m * τ 0 1 := Int.mul_le_mul_of_nonneg_left u0 h0
  unfold qMd
  rcases (show τ 0 2 = 1 ∨ τ 0 2 = 2 by omega) with e | e <;> rw [e] <;> omega
theorem qMd_mono {τ : mS} (h : qWf τ) (hn : 0 < τ 0 4) {m : Int} (h0 : 0 ≤ m) : qMd τ m ≤ qMd τ (m + 1) := by
  obtain ⟨-, -, a0, a1, -, -, a2, -⟩ := h
  obtain ⟨u0, u1, l0, l1⟩ := a2 hn
  unfold qMd
  have e : (m + 1) * τ 0 1 = m * τ 0 1 + τ 0 1 := by rw [Int.add_mul, Int.one_mul]
  rw [e]
  rcases (show τ 0 2 = 1 ∨ τ 0 2 = 2 by omega) with e | e <;> rw [e] <;> omega
theorem qMd_mono2 {τ : mS} (h : qWf τ) (hn : 0 < τ 0 4) {m : Int} (h0 : 0 ≤ m) : ∀ k : Nat, qMd τ m ≤ qMd τ (m + k)
  | 0 => by simp
  | k + 1 => by
    have h1 := qMd_mono2 h hn h0 k
    have h2 := qMd_mono h hn (m := m + k) (by omega)
    rw [show m + ((k + 1 : Nat) : Int) = m + k + 1 by omega]
    omega
theorem qMd_le {τ : mS} (h : qWf τ) (hn : 0 < τ 0 4) {m m' : Int} (h0 : 0 ≤ m) (h1 : m ≤ m') : qMd τ m ≤ qMd τ m' := by
  have := qMd_mono2 h hn h0 (m' - m).toNat
  rwa [show m + ((m' - m).toNat : Int) = m' by omega] at this
theorem qWt_in {τ : mS} (h : qWf τ) {b m : Int} (hb0 : 0 ≤ b) (hb1 : b < 6) (hw : qWt τ b m = true) : qMd τ m ≤ 108 := by
  unfold qWt at hw
  simp only [decide_eq_true_eq] at hw
  obtain ⟨-, -, -, -, s0, s1, -, hb⟩ := h
  have := hb b hb0 hb1
  omega
/-- how many full moons there are on days 0 .. 109 -/
def qNm (τ : mS) : Int := fstN (fun m => decide (110 ≤ qMd τ m)) 11
theorem qNm_sp {τ : mS} (h : qWf τ) (hn : 0 < τ 0 4) : 0 ≤ qNm τ ∧ qNm τ ≤ 11 ∧ (∀ m : Int, 0 ≤ m → m < qNm τ → qMd τ m < 110) ∧ ∀ m : Int, qNm τ ≤ m → 110 ≤ qMd τ m := by
  obtain ⟨g0, g1, g2, g3⟩ := fstN_sp (fun m => decide (110 ≤ qMd τ m)) 11
  refine ⟨g0, g1, fun m h0 h1 => ?_, fun m hm => ?_⟩
  · have := g2 m h0 h1
    simp only [decide_eq_false_iff_not] at this
    omega
  · by_cases hl : qNm τ < 11
    · have := g3 hl
      simp only [decide_eq_true_eq] at this
      have := qMd_le h hn g0 hm
      unfold qNm at *
      omega
    · have e : qNm τ = 11 := by unfold qNm at *; omega
      have h1 := (qMd_rng h hn (m := 11) (by omega) (by omega)).2.2.2.2
      have h2 := qMd_le h hn (m := 11) (m' := m) (by omega) (by omega)
      omega
end
section
/-! ===== the reference's state, as it is shown ===== -/
def vM (σ : mS) : mS := fun a b =>
  if a = 0 then (if b = 0 then σ 0 5 else if b = 1 then σ 0 6 else if b = 2 then σ 0 7 else if b = 3 then σ 0 8 else if b = 4 then σ 0 9 else if b = 5 then σ 0 15 else if b = 6 then σ 0 30 else if b = 7 then σ 0 1 else if b = 8 then σ 0 0 else 0)
  else if a < 0 then 0
  else if a < 6 then (if 0 ≤ b ∧ b < 6 then σ (a + 3) b else 0)
  else if a = 6 then (if 0 ≤ b ∧ b < 110 then σ 9 b else 0)
  else if a < 10 then (if 0 ≤ b ∧ b < 8 then σ (a + 7) b else 0)
  else if a = 10 then (if 0 ≤ b ∧ b < 4 then (if σ 1 b = -9 then -1 else σ 1 b) else 0)
  else if a = 11 then (if 0 ≤ b ∧ b < 4 then (if σ 1 b = -9 then 0 else σ 2 b) else 0)
  else if a < 16 then (if 0 ≤ b ∧ b < 60 then σ 3 (60 * (a - 12) + b) else 0)
  else 0
theorem vM_b (σ : mS) {a b : Int} (a0 : 1 ≤ a) (a1 : a < 6) (h0 : 0 ≤ b) (h1 : b < 6) : vM σ a b = σ (a + 3) b := by
  unfold vM
  rw [if_neg (by omega), if_neg (by omega), if_pos a1, if_pos ⟨h0, h1⟩]
theorem vM_kind (σ : mS) {b : Int} (h0 : 0 ≤ b) (h1 : b < 6) : vM σ 1 b = σ 4 b := vM_b σ (by omega) (by omega) h0 h1
theorem vM_day (σ : mS) {b : Int} (h0 : 0 ≤ b) (h1 : b < 6) : vM σ 2 b = σ 5 b := vM_b σ (by omega) (by omega) h0 h1
theorem vM_needs (σ : mS) {b : Int} (h0 : 0 ≤ b) (h1 : b < 6) : vM σ 3 b = σ 6 b := vM_b σ (by omega) (by omega) h0 h1
theorem vM_names (σ : mS) {b : Int} (h0 : 0 ≤ b) (h1 : b < 6) : vM σ 4 b = σ 7 b := vM_b σ (by omega) (by omega) h0 h1
theorem vM_lasts (σ : mS) {b : Int} (h0 : 0 ≤ b) (h1 : b < 6) : vM σ 5 b = σ 8 b := vM_b σ (by omega) (by omega) h0 h1
theorem vM_cl (σ : mS) {b : Int} (h0 : 0 ≤ b) (h1 : b < 110) : vM σ 6 b = σ 9 b := by
  unfold vM
  rw [if_neg (by omega), if_neg (by omega), if_neg (by omega), if_pos rfl, if_pos ⟨h0, h1⟩]
theorem vM_rd (σ : mS) {a b : Int} (a0 : 7 ≤ a) (a1 : a < 10) (h0 : 0 ≤ b) (h1 : b < 8) : vM σ a b = σ (a + 7) b := by
  unfold vM
  rw [if_neg (by omega), if_neg (by omega), if_neg (by omega), if_neg (by omega), if_pos a1, if_pos ⟨h0, h1⟩]
theorem vM_so (σ : mS) {b : Int} (h0 : 0 ≤ b) (h1 : b < 4) : vM σ 10 b = if σ 1 b = -9 then -1 else σ 1 b := by
  unfold vM
  rw [if_neg (by omega), if_neg (by omega), if_neg (by omega), if_neg (by omega), if_neg (by omega), if_pos rfl, if_pos ⟨h0, h1⟩]
theorem vM_le (σ : mS) {b : Int} (h0 : 0 ≤ b) (h1 : b < 4) : vM σ 11 b = if σ 1 b = -9 then 0 else σ 2 b := by
  unfold vM
  rw [if_neg (by omega), if_neg (by omega), if_neg (by omega), if_neg (by omega), if_neg (by omega), if_neg (by omega), if_pos rfl, if_pos ⟨h0, h1⟩]
theorem vM_ce (σ : mS) {a b : Int} (a0 : 12 ≤ a) (a1 : a < 16) (h0 : 0 ≤ b) (h1 : b < 60) : vM σ a b = σ 3 (60 * (a - 12) + b) := by
  unfold vM
  rw [if_neg (by omega), if_neg (by omega), if_neg (by omega), if_neg (by omega), if_neg (by omega), if_neg (by omega), if_neg (by omega), if_pos a1, if_pos ⟨h0, h1⟩]
/-- the same but for what is not shown -/
def mSh (σ σ' : mS) : Prop := (∀ j : Int, (j < 17 ∨ 25 < j) → σ' 0 j = σ 0 j) ∧ (∀ k : Int, 1 ≤ k → k < 10 → σ' k = σ k) ∧ ∀ k : Int, 14 ≤ k → σ' k = σ k
theorem mSh.view {σ σ' : mS} (h : mSh σ σ') : vM σ' = vM σ := by
  obtain ⟨h1, h2, h3⟩ := h
  funext a b
  unfold vM
  rw [h1 5 (by omega), h1 6 (by omega), h1 7 (by omega), h1 8 (by omega), h1 9 (by omega), h1 15 (by omega), h1 30 (by omega), h1 1 (by omega), h1 0 (by omega), h2 9 (by omega) (by omega), h2 1 (by omega) (by omega), h2 2 (by omega) (by omega), h2 3 (by omega) (by omega)]
  by_cases a0 : a = 0
  · rw [if_pos a0, if_pos a0]
  · rw [if_neg a0, if_neg a0]
    by_cases a1 : a < 0
    · rw [if_pos a1, if_pos a1]
    · rw [if_neg a1, if_neg a1]
      by_cases a2 : a < 6
      · rw [if_pos a2, if_pos a2, h2 (a + 3) (by omega) (by omega)]
      · rw [if_neg a2, if_neg a2]
        by_cases a3 : a = 6
        · rw [if_pos a3, if_pos a3]
        · rw [if_neg a3, if_neg a3]
          by_cases a4 : a < 10
          · rw [if_pos a4, if_pos a4, h3 (a + 7) (by omega)]
          · rw [if_neg a4, if_neg a4]
theorem mSh.rf (σ : mS) : mSh σ σ := ⟨fun _ _ => rfl, fun _ _ _ => rfl, fun _ _ => rfl⟩
theorem mSh.tr {σ σ' σ'' : mS} (h : mSh σ σ') (h' : mSh σ' σ'') : mSh σ σ'' := ⟨fun j hj => (h'.1 j hj).trans (h.1 j hj), fun k h0 h1 => (h'.2.1 k h0 h1).trans (h.2.1 k h0 h1), fun k h0 => (h'.2.2 k h0).trans (h.2.2 k h0)⟩
theorem mSh.up0 (σ : mS) {j : Int} (v : Int) (h0 : 17 ≤ j) (h1 : j ≤ 25) : mSh σ (mUp σ 0 j v) := ⟨fun i hi => mUp_ne σ v (Or.inr (by omega)), fun k k0 k1 => mUp_off σ j v (by omega), fun k k0 => mUp_off σ j v (by omega)⟩
theorem mSh.up (σ : mS) {k : Int} (j v : Int) (h0 : 10 ≤ k) (h1 : k ≤ 13) : mSh σ (mUp σ k j v) := ⟨fun i hi => mUp_ne σ v (Or.inl (by omega)), fun a a0 a1 => mUp_off σ j v (by omega), fun a a0 => mUp_off σ j v (by omega)⟩
/-- the same but for the rows order, doesPass, inForce -/
def mSc (σ σ' : mS) : Prop := ∀ k : Int, ¬ k = 11 → ¬ k = 12 → ¬ k = 13 → σ' k = σ k
theorem mSc.rf (σ : mS) : mSc σ σ := fun _ _ _ _ => rfl
theorem mSc.tr {σ σ' σ'' : mS} (h : mSc σ σ') (h' : mSc σ' σ'') : mSc σ σ'' := fun k a b c => (h' k a b c).trans (h k a b c)
theorem mSc.up (σ : mS) {k : Int} (j v : Int) (h : k = 11 ∨ k = 12 ∨ k = 13) : mSc σ (mUp σ k j v) := fun a a1 a2 a3 => mUp_off σ j v (by omega)
theorem mSc.sh {σ σ' : mS} (h : mSc σ σ') : mSh σ σ' := ⟨fun j _ => by rw [h 0 (by omega) (by omega) (by omega)], fun k k0 k1 => h k (by omega) (by omega) (by omega), fun k k0 => h k (by omega) (by omega) (by omega)⟩
theorem mSc.view {σ σ' : mS} (h : mSc σ σ') : vM σ' = vM σ := h.sh.view
/-- which moons are dark, for the reference -/
def dkM (σ : mS) (m : Int) : Bool := (σ 0 17).toNat.testBit m.toNat || (decide (σ 0 18 = 0) && decide (σ 9 (qMd (vM σ) m) = 1))
def stM (σ : mS) (b : Int) : Bool := decide (b = σ 0 19) || qSt (vM σ) (dkM σ) b
theorem mSc.dk {σ σ' : mS} (h : mSc σ σ') : dkM σ' = dkM σ := by
  funext m
  unfold dkM
  rw [h.view, h 0 (by omega) (by omega) (by omega), h 9 (by omega) (by omega) (by omega)]
theorem mSc.st {σ σ' : mS} (h : mSc σ σ') : stM σ' = stM σ := by
  funext b
  unfold stM
  rw [h.dk, h.view, h 0 (by omega) (by omega) (by omega)]
/-- the reference's own: what its calls take for granted while they work -/
def mWf (σ : mS) : Prop := qWf (vM σ) ∧ 0 < σ 0 9 ∧ 0 ≤ σ 0 17 ∧ σ 0 17 ≤ 2147483647 ∧ (σ 0 18 = 0 ∨ σ 0 18 = 1) ∧ i32 (σ 0 19) ∧ ∀ d : Int, 0 ≤ d → d < 110 → σ 9 d = 0 ∨ σ 9 d = 1
theorem mSc.wf {σ σ' : mS} (h : mSc σ σ') (w : mWf σ) : mWf σ' := by
  unfold mWf
  rw [h.view, h 0 (by omega) (by omega) (by omega), h 9 (by omega) (by omega) (by omega)]
  exact w
end
section
theorem c_moonDay {l : Launch} {D : va_G} {cs : mC} {ad : Int → Nat} (σ : mS) (n : Int) (hw : qWf (vM σ)) (hn : 0 < σ 0 9) (h0 : 0 ≤ n) (h1 : n ≤ 100) : CI l (gM D cs ad) M_X8_moonDay 0 [.ref (ad 0), mI n] σ (fun z σ' => z = qMd (vM σ) n ∧ σ' = σ) := by
  have g := qMd_rng hw hn h0 h1
  have g2 : 20 ≤ σ 0 6 ∧ σ 0 6 ≤ 60 ∧ 1 ≤ σ 0 7 ∧ σ 0 7 ≤ 2 := hw.2.2.2.2.2.2.1 hn
  have e1 : 0 ≤ n * σ 0 6 := g.1
  have e2 : n * σ 0 6 ≤ 6000 := g.2.1
  exact c_X8_moonDay σ n e1 (by omega) (by omega) (by omega)
set_option maxRecDepth 100000 in
set_option maxHeartbeats 2000000 in
theorem lp_X8_moons {x : mX} {l : Launch} {D : va_G} {cs : mC} {ad : Int → Nat} {post : Int → mS → Prop} (h : mOk x l M_X8_moons 1 (gM D cs ad)) (hq : rI x (gM D cs ad) post) {σ : mS} (hw : qWf (vM σ)) (hn : 0 < σ 0 9) (hp : post (qNm (vM σ)) σ) : ∀ (f : Nat) (m : Int), 0 ≤ m → m ≤ qNm (vM σ) → qNm (vM σ) - m < f → mG x 2 [(0, .ref (ad 0)), (1, mI m)] [] σ := by
  intro f
  obtain ⟨q0, q1, q2, q3⟩ := qNm_sp hw hn
  induction f with
  | zero => intro m h0 h1 h2; omega
  | succ f ih =>
    intro m h0 h1 h2
    have g := qMd_rng hw hn h0 (show m ≤ 100 by omega)
    refine g_aload_n h dX8_moons_2 rfl ?_
    refine g_iload_n h dX8_moons_3 rfl ?_
    refine g_vI h (c_moonDay _ _ hw hn (by omega) (by omega)) (by decide) lm_RX8_149 (rvM rfl) dX8_moons_4 rfl (Nat.le_of_ble_eq_true rfl) (fun z4 s4 p4 => ?_)
    obtain ⟨e4, r4⟩ := p4; subst e4; replace r4 := Eq.symm r4; subst r4
    refine g_bipush h dX8_moons_7 (by decide) ?_
    refine g_icmp_ge (tgt := 18) h dX8_moons_9 (by decide) (by first | exact hR _ _ | exact ⟨by omega, by omega⟩) (by first | exact hR _ _ | exact ⟨by omega, by omega⟩) (fun c9 => ?_) (fun c9 => ?_)
    · refine g_iload_n h dX8_moons_18 rfl ?_
      refine g_iret h hq rfl dX8_moons_19 (by
      have e : m = qNm (vM σ) := by
        rcases Int.lt_or_le m (qNm (vM σ)) with q | q
        · have := q2 m h0 q; omega
        · omega
      rw [e]; exact hp)
    · have g9 : m < qNm (vM σ) := by
        rcases Int.lt_or_le m (qNm (vM σ)) with q | q
        · exact q
        · have := q3 m q; omega
      refine g_iinc h dX8_moons_12 rfl (by decide) rfl ?_
      refine g_goto (tgt := 2) h dX8_moons_15 (by decide) ?_
      exact ih (m + 1) (by omega) (by omega) (by omega)
set_option maxRecDepth 100000 in
set_option maxHeartbeats 2000000 in
theorem c_X8_moons {l : Launch} {D : va_G} {cs : mC} {ad : Int → Nat} (σ : mS)  (hw : qWf (vM σ)) (hn : 0 < σ 0 9) : CI l (gM D cs ad) M_X8_moons 1 [.ref (ad 0)] σ (fun z σ' => z = qNm (vM σ) ∧ σ' = σ) := by
  refine CI.of (by decide) (Nat.le_of_ble_eq_true rfl) (fun x h hq => ?_)
  show mG x 0 [(0, .ref (ad 0))] [] σ
  refine g_iconst h dX8_moons_0 rfl ?_
  refine g_istore_n h dX8_moons_1 (by decide) rfl ?_
  have g := qNm_sp hw hn
  exact lp_X8_moons h hq hw hn ⟨rfl, rfl⟩ 13 0 (by omega) (by omega) (by omega)
theorem dk_out {σ : mS} {m : Int} (h0 : 0 ≤ m) (h1 : m < 31) (hc : 0 ≤ σ 0 17) (hc2 : σ 0 17 ≤ 2147483647) : iAnd (iShr (σ 0 17) m) 1 = bl ((σ 0 17).toNat.testBit m.toNat = true) := by
  have := bit_rd (x := (σ 0 17).toNat) (by omega) h0 h1
  rwa [Int.toNat_of_nonneg hc] at this
set_option maxRecDepth 100000 in
set_option maxHeartbeats 2000000 in
theorem c_X8_isDark {l : Launch} {D : va_G} {cs : mC} {ad : Int → Nat} (σ : mS) (m : Int) (hw : mWf σ) (h0 : 0 ≤ m) (h1 : m < 31) (h2 : qMd (vM σ) m < 110) : CI l (gM D cs ad) M_X8_isDark 1 [.ref (ad 0), mI m] σ (fun z σ' => z = bl (dkM σ m = true) ∧ σ' = σ) := by
  refine CI.of (by decide) (Nat.le_of_ble_eq_true rfl) (fun x h hq => ?_)
  show mG x 0 [(0, .ref (ad 0)), (1, mI m)] [] σ
  refine g_aload_n h dX8_isDark_0 rfl ?_
  refine gm_cloudedToo h dX8_isDark_1 lf_RX8_155 ?_
  refine g_iload_n h dX8_isDark_4 rfl ?_
  refine g_ishr h dX8_isDark_5 ?_
  refine g_iconst h dX8_isDark_6 rfl ?_
  refine g_iand h dX8_isDark_7 ?_
  refine g_iconst h dX8_isDark_8 rfl ?_
  rw [dk_out h0 h1 hw.2.2.1 hw.2.2.2.1]
  refine g_icmp_eq (tgt := 32) h dX8_isDark_9 (by decide) (bl_rng _) ⟨by omega, by omega⟩ (fun c9 => ?_) (fun c9 => ?_)
  · have c : (σ 0 17).toNat.testBit m.toNat = true := Decidable.byContradiction fun q => by rw [← bl0 q] at c9; omega
    refine g_iconst h dX8_isDark_32 rfl ?_
    refine g_goto (tgt := 37) h dX8_isDark_33 (by decide) ?_
    refine g_zret h hq rfl dX8_isDark_37 (by omega) ?_
    first | exact ⟨bl1 (by unfold dkM; simp [*]), rfl⟩ | exact ⟨bl0 (by unfold dkM; simp [*]), rfl⟩
  · have c : ¬ (σ 0 17).toNat.testBit m.toNat = true := fun q => c9 (bl1 q).symm
    refine g_aload_n h dX8_isDark_12 rfl ?_
    refine gm_onlyThese h dX8_isDark_13 lf_RX8_158 ?_
    have hz : σ 0 18 = 0 ∨ σ 0 18 = 1 := hw.2.2.2.2.1
    refine g_if_ne (tgt := 36) h dX8_isDark_16 (by decide) (by first | exact hR _ _ | exact ⟨by omega, by omega⟩) (fun c16 => ?_) (fun c16 => ?_)
    · refine g_iconst h dX8_isDark_36 rfl ?_
      refine g_zret h hq rfl dX8_isDark_37 (by omega) ?_
      first | exact ⟨bl1 (by unfold dkM; simp [*]), rfl⟩ | exact ⟨bl0 (by unfold dkM; simp [*]), rfl⟩
    · refine g_aload_n h dX8_isDark_19 rfl ?_
      refine gm_isClouded h dX8_isDark_20 lf_RX8_34 ?_
      refine g_aload_n h dX8_isDark_23 rfl ?_
      refine g_iload_n h dX8_isDark_24 rfl ?_
      refine g_vI h (c_moonDay _ _ hw.1 hw.2.1 (by omega) (by omega)) (by decide) lm_RX8_149 (rvM rfl) dX8_isDark_25 rfl (Nat.le_of_ble_eq_true rfl) (fun z25 s25 p25 => ?_)
      obtain ⟨e25, r25⟩ := p25; subst e25; replace r25 := Eq.symm r25; subst r25
      have g := qMd_rng hw.1 hw.2.1 h0 (show m ≤ 100 by omega)
      refine lm_isClouded h dX8_isDark_28 g.2.2.1 h2 ?_
      have hcl := hw.2.2.2.2.2.2 _ g.2.2.1 h2
      refine g_if_eq (tgt := 36) h dX8_isDark_29 (by decide) (by first | exact hR _ _ | exact ⟨by omega, by omega⟩) (fun c29 => ?_) (fun c29 => ?_)
      · refine g_iconst h dX8_isDark_36 rfl ?_
        refine g_zret h hq rfl dX8_isDark_37 (by omega) ?_
        first | exact ⟨bl1 (by unfold dkM; simp [*]), rfl⟩ | exact ⟨bl0 (by unfold dkM; simp [*]), rfl⟩
      · have c29b : σ 9 (qMd (vM σ) m) = 1 := by omega
        refine g_iconst h dX8_isDark_32 rfl ?_
        refine g_goto (tgt := 37) h dX8_isDark_33 (by decide) ?_
        refine g_zret h hq rfl dX8_isDark_37 (by omega) ?_
        first | exact ⟨bl1 (by unfold dkM; simp [*]), rfl⟩ | exact ⟨bl0 (by unfold dkM; simp [*]), rfl⟩
def qFs (τ : mS) (dk : Int → Bool) (b : Int) : Int := if fstN (fun m => qWt τ b m && !dk m) 11 < 11 then qMd τ (fstN (fun m => qWt τ b m && !dk m) 11) else -9
theorem qFs_st {τ : mS} (h : qWf τ) (hn : 0 < τ 0 4) {dk : Int → Bool} {b : Int} : (qFs τ dk b = -9 ↔ qSt τ dk b = false) := by
  obtain ⟨g0, g1, g2, g3⟩ := fstN_sp (fun m => qWt τ b m && !dk m) 11
  unfold qFs qSt
  by_cases hl : fstN (fun m => qWt τ b m && !dk m) 11 < 11
  · rw [if_pos hl]
    have g := qMd_rng h hn g0 (show fstN (fun m => qWt τ b m && !dk m) 11 ≤ 100 by omega)
    constructor
    · intro q; omega
    · intro q
      have := anyN_no.mp q _ g0 hl
      rw [g3 hl] at this
      cases this
  · rw [if_neg hl]
    have e : fstN (fun m => qWt τ b m && !dk m) 11 = 11 := by omega
    rw [e] at g2
    exact ⟨fun _ => anyN_no.mpr g2, fun _ => rfl⟩
set_option maxRecDepth 100000 in
set_option maxHeartbeats 2000000 in
theorem lp_X8_struckOn {x : mX} {l : Launch} {D : va_G} {cs : mC} {ad : Int → Nat} {post : Int → mS → Prop} (h : mOk x l M_X8_struckOn 2 (gM D cs ad)) (hq : rI x (gM D cs ad) post) {σ : mS} (hw : mWf σ) {b : Int} (b0 : 0 ≤ b) (b1 : b < 6) (hp : post (qFs (vM σ) (dkM σ) b) σ) : ∀ (f : Nat) (m : Int), 0 ≤ m → m ≤ 11 → 11 - m < f → (∀ j : Int, 0 ≤ j → j < m → (qWt (vM σ) b j && !dkM σ j) = false) → mG x 2 [(0, .ref (ad 0)), (1, mI b), (2, mI m)] [] σ := by
  intro f
  have hd := hw.1.2.2.2.2.2.2.2 b b0 b1
  have hs : 0 ≤ σ 0 8 ∧ σ 0 8 ≤ 9 := ⟨hw.1.2.2.2.2.1, hw.1.2.2.2.2.2.1⟩
  rw [vM_day σ b0 b1] at hd
  have e11 := (qMd_rng hw.1 hw.2.1 (m := 11) (by omega) (by omega)).2.2.2.2
  induction f with
  | zero => intro m h0 h1 h2; omega
  | succ f ih =>
    intro m h0 h1 h2 hj
    have g := qMd_rng hw.1 hw.2.1 h0 (show m ≤ 100 by omega)
    have hadv : m < 11 → (qWt (vM σ) b m && !dkM σ m) = false → mG x 2 [(0, .ref (ad 0)), (1, mI b), (2, mI (m + 1))] [] σ := fun q1 q2 => ih (m + 1) (by omega) (by omega) (by omega) (fun j j0 j1 => by
      by_cases q : j = m
      · rw [q]; exact q2
      · exact hj j j0 (by omega))
    refine g_aload_n h dX8_struckOn_2 rfl ?_
    refine g_iload_n h dX8_struckOn_3 rfl ?_
    refine g_vI h (c_moonDay _ _ hw.1 hw.2.1 (by omega) (by omega)) (by decide) lm_RX8_149 (rvM rfl) dX8_struckOn_4 rfl (Nat.le_of_ble_eq_true rfl) (fun z4 s4 p4 => ?_)
    obtain ⟨e4, r4⟩ := p4; subst e4; replace r4 := Eq.symm r4; subst r4
    refine g_bipush h dX8_struckOn_7 (by decide) ?_
    refine g_icmp_ge (tgt := 60) h dX8_struckOn_9 (by decide) (by first | exact hR _ _ | exact ⟨by omega, by omega⟩) (by first | exact hR _ _ | exact ⟨by omega, by omega⟩) (fun c9 => ?_) (fun c9 => ?_)
    · refine g_bipush h dX8_struckOn_60 (by decide) ?_
      refine g_iret h hq rfl dX8_struckOn_62 (by
      have e : fstN (fun m => qWt (vM σ) b m && !dkM σ m) 11 = 11 := fstN_no (fun j j0 j1 => by
        by_cases q : j < m
        · exact hj j j0 q
        · have := qMd_le hw.1 hw.2.1 h0 (show m ≤ j by omega)
          cases hq9 : qWt (vM σ) b j with
          | false => rfl
          | true =>
            have := qWt_in hw.1 b0 b1 hq9
            omega)
      unfold qFs at hp
      rw [e, if_neg (by omega)] at hp
      exact hp)
    · have c9b : m < 11 := by
        rcases Int.lt_or_le m 11 with q | q
        · exact q
        · have : m = 11 := by omega
          subst this; omega
      refine g_aload_n h dX8_struckOn_12 rfl ?_
      refine g_iload_n h dX8_struckOn_13 rfl ?_
      refine g_vI h (c_moonDay _ _ hw.1 hw.2.1 (by omega) (by omega)) (by decide) lm_RX8_149 (rvM rfl) dX8_struckOn_14 rfl (Nat.le_of_ble_eq_true rfl) (fun z14 s14 p14 => ?_)
      obtain ⟨e14, r14⟩ := p14; subst e14; replace r14 := Eq.symm r14; subst r14
      refine g_aload_n h dX8_struckOn_17 rfl ?_
      refine gm_dayOf h dX8_struckOn_18 lf_RX8_22 ?_
      refine g_iload_n h dX8_struckOn_21 rfl ?_
      refine lm_dayOf h dX8_struckOn_22 (by omega) (by omega) ?_
      refine g_aload_n h dX8_struckOn_23 rfl ?_
      refine gm_dayOf h dX8_struckOn_24 lf_RX8_22 ?_
      refine g_iload_n h dX8_struckOn_27 rfl ?_
      refine lm_dayOf h dX8_struckOn_28 (by omega) (by omega) ?_
      refine g_aload_n h dX8_struckOn_29 rfl ?_
      refine gm_span h dX8_struckOn_30 lf_RX8_121 ?_
      refine g_iadd h dX8_struckOn_33 ?_
      refine g_sI h (c_X8_within _ _ _ _ ⟨by omega, by omega⟩ ⟨by omega, by omega⟩ ⟨by omega, by omega⟩) (by decide) lm_RX8_68 dX8_struckOn_34 rfl (Nat.le_of_ble_eq_true rfl) (fun z34 s34 p34 => ?_)
      obtain ⟨e34, r34⟩ := p34; subst e34; replace r34 := Eq.symm r34; subst r34
      refine g_ifb_eq (tgt := 54) h dX8_struckOn_37 (by decide)  (fun c37 => ?_) (fun c37 => ?_)
      · have cw : qWt (vM σ) b m = false := by
          unfold qWt
          rw [vM_day σ b0 b1]
          exact decide_eq_false c37
        refine g_iinc h dX8_struckOn_54 rfl (by decide) rfl ?_
        refine g_goto (tgt := 2) h dX8_struckOn_57 (by decide) ?_
        exact hadv c9b (by first | (rw [cw]; rfl) | simp [cw, c45])
      · have cw : qWt (vM σ) b m = true := by
          unfold qWt
          rw [vM_day σ b0 b1]
          exact decide_eq_true c37
        refine g_aload_n h dX8_struckOn_40 rfl ?_
        refine g_iload_n h dX8_struckOn_41 rfl ?_
        refine g_vI h (c_X8_isDark _ _ hw (by omega) (by omega) (by omega)) (by decide) lm_RX8_162 (rvM rfl) dX8_struckOn_42 rfl (Nat.le_of_ble_eq_true rfl) (fun z42 s42 p42 => ?_)
        obtain ⟨e42, r42⟩ := p42; subst e42; replace r42 := Eq.symm r42; subst r42
        refine g_ifb_ne (tgt := 54) h dX8_struckOn_45 (by decide)  (fun c45 => ?_) (fun c45 => ?_)
        · refine g_iinc h dX8_struckOn_54 rfl (by decide) rfl ?_
          refine g_goto (tgt := 2) h dX8_struckOn_57 (by decide) ?_
          exact hadv c9b (by first | (rw [cw]; rfl) | simp [cw, c45])
        · refine g_aload_n h dX8_struckOn_48 rfl ?_
          refine g_iload_n h dX8_struckOn_49 rfl ?_
          refine g_vI h (c_moonDay _ _ hw.1 hw.2.1 (by omega) (by omega)) (by decide) lm_RX8_149 (rvM rfl) dX8_struckOn_50 rfl (Nat.le_of_ble_eq_true rfl) (fun z50 s50 p50 => ?_)
          obtain ⟨e50, r50⟩ := p50; subst e50; replace r50 := Eq.symm r50; subst r50
          refine g_iret h hq rfl dX8_struckOn_53 (by
            have e : fstN (fun m => qWt (vM σ) b m && !dkM σ m) 11 = m := fstN_is h0 c9b (by simp [cw, c45]) hj
            unfold qFs at hp
            rw [e, if_pos (by omega)] at hp
            exact hp)
set_option maxRecDepth 100000 in
set_option maxHeartbeats 2000000 in
theorem c_X8_struckOn {l : Launch} {D : va_G} {cs : mC} {ad : Int → Nat} (σ : mS) (b : Int) (hw : mWf σ) (b0 : 0 ≤ b) (b1 : b < 6) : CI l (gM D cs ad) M_X8_struckOn 2 [.ref (ad 0), mI b] σ (fun z σ' => z = qFs (vM σ) (dkM σ) b ∧ σ' = σ) := by
  refine CI.of (by decide) (Nat.le_of_ble_eq_true rfl) (fun x h hq => ?_)
  show mG x 0 [(0, .ref (ad 0)), (1, mI b)] [] σ
  refine g_iconst h dX8_struckOn_0 rfl ?_
  refine g_istore_n h dX8_struckOn_1 (by decide) rfl ?_
  exact lp_X8_struckOn h hq hw b0 b1 ⟨rfl, rfl⟩ 12 0 (by omega) (by omega) (by omega) (fun j j0 j1 => by omega)
set_option maxRecDepth 100000 in
set_option maxHeartbeats 2000000 in
theorem c_X8_isOn {l : Launch} {D : va_G} {cs : mC} {ad : Int → Nat} (σ : mS) (b d : Int) (hw : qWf (vM σ)) (b0 : 0 ≤ b) (b1 : b < 6) (d0 : 0 ≤ d) (d1 : d < 200) (hP : σ 12 b = 0 ∨ σ 12 b = 1) : CI l (gM D cs ad) M_X8_isOn 0 [.ref (ad 0), mI b, mI d] σ (fun z σ' => z = bl (qOn (vM σ) (fun k => decide (σ 12 k = 1)) b d = true) ∧ σ' = σ) := by
  refine CI.of (by decide) (Nat.le_of_ble_eq_true rfl) (fun x h hq => ?_)
  show mG x 0 [(0, .ref (ad 0)), (1, mI b), (2, mI d)] [] σ
  refine g_iload_n h dX8_isOn_0 rfl ?_
  refine g_aload_n h dX8_isOn_1 rfl ?_
  refine gm_dayOf h dX8_isOn_2 lf_RX8_22 ?_
  refine g_iload_n h dX8_isOn_5 rfl ?_
  refine lm_dayOf h dX8_isOn_6 (by omega) (by omega) ?_
  refine g_isub h dX8_isOn_7 ?_
  refine g_istore_n h dX8_isOn_8 (by decide) rfl ?_
  refine g_aload_n h dX8_isOn_9 rfl ?_
  refine gm_doesPass h dX8_isOn_10 lf_RX8_48 ?_
  refine g_iload_n h dX8_isOn_13 rfl ?_
  refine lm_doesPass h dX8_isOn_14 (by omega) (by omega) ?_
  have hb := hw.2.2.2.2.2.2.2 b b0 b1
  rw [vM_day σ b0 b1, vM_kind σ b0 b1, vM_lasts σ b0 b1] at hb
  refine g_if_eq (tgt := 49) h dX8_isOn_15 (by decide) (by first | exact hR _ _ | exact ⟨by omega, by omega⟩) (fun c15 => ?_) (fun c15 => ?_)
  · refine g_iconst h dX8_isOn_49 rfl ?_
    refine g_zret h hq rfl dX8_isOn_50 (by omega) ?_
    first | exact ⟨bl1 (by unfold qOn; rw [vM_day σ b0 b1, vM_kind σ b0 b1, vM_lasts σ b0 b1]; simp; omega), rfl⟩ | exact ⟨bl0 (by unfold qOn; rw [vM_day σ b0 b1, vM_kind σ b0 b1, vM_lasts σ b0 b1]; simp; omega), rfl⟩
  · refine g_iload_n h dX8_isOn_18 rfl ?_
    refine g_if_le (tgt := 49) h dX8_isOn_19 (by decide) (by first | exact hR _ _ | exact ⟨by omega, by omega⟩) (fun c19 => ?_) (fun c19 => ?_)
    · refine g_iconst h dX8_isOn_49 rfl ?_
      refine g_zret h hq rfl dX8_isOn_50 (by omega) ?_
      first | exact ⟨bl1 (by unfold qOn; rw [vM_day σ b0 b1, vM_kind σ b0 b1, vM_lasts σ b0 b1]; simp; omega), rfl⟩ | exact ⟨bl0 (by unfold qOn; rw [vM_day σ b0 b1, vM_kind σ b0 b1, vM_lasts σ b0 b1]; simp; omega), rfl⟩
    · refine g_aload_n h dX8_isOn_22 rfl ?_
      refine gm_kind h dX8_isOn_23 lf_RX8_19 ?_
      refine g_iload_n h dX8_isOn_26 rfl ?_
      refine lm_kind h dX8_isOn_27 (by omega) (by omega) ?_
      refine g_iconst h dX8_isOn_28 rfl ?_
      refine g_icmp_ne (tgt := 45) h dX8_isOn_29 (by decide) (by first | exact hR _ _ | exact ⟨by omega, by omega⟩) (by first | exact hR _ _ | exact ⟨by omega, by omega⟩) (fun c29 => ?_) (fun c29 => ?_)
      · refine g_iconst h dX8_isOn_45 rfl ?_
        refine g_goto (tgt := 50) h dX8_isOn_46 (by decide) ?_
        refine g_zret h hq rfl dX8_isOn_50 (by omega) ?_
        first | exact ⟨bl1 (by unfold qOn; rw [vM_day σ b0 b1, vM_kind σ b0 b1, vM_lasts σ b0 b1]; simp; omega), rfl⟩ | exact ⟨bl0 (by unfold qOn; rw [vM_day σ b0 b1, vM_kind σ b0 b1, vM_lasts σ b0 b1]; simp; omega), rfl⟩
      · refine g_iload_n h dX8_isOn_32 rfl ?_
        refine g_bipush h dX8_isOn_33 (by decide) ?_
        refine g_aload_n h dX8_isOn_35 rfl ?_
        refine gm_lasts h dX8_isOn_36 lf_RX8_31 ?_
        refine g_iload_n h dX8_isOn_39 rfl ?_
        refine lm_lasts h dX8_isOn_40 (by omega) (by omega) ?_
        refine g_imul h dX8_isOn_41 ?_
        refine g_icmp_gt (tgt := 49) h dX8_isOn_42 (by decide) (by first | exact hR _ _ | exact ⟨by omega, by omega⟩) (by first | exact hR _ _ | exact ⟨by omega, by omega⟩) (fun c42 => ?_) (fun c42 => ?_)
        · refine g_iconst h dX8_isOn_49 rfl ?_
          refine g_zret h hq rfl dX8_isOn_50 (by omega) ?_
          first | exact ⟨bl1 (by unfold qOn; rw [vM_day σ b0 b1, vM_kind σ b0 b1, vM_lasts σ b0 b1]; simp; omega), rfl⟩ | exact ⟨bl0 (by unfold qOn; rw [vM_day σ b0 b1, vM_kind σ b0 b1, vM_lasts σ b0 b1]; simp; omega), rfl⟩
        · refine g_iconst h dX8_isOn_45 rfl ?_
          refine g_goto (tgt := 50) h dX8_isOn_46 (by decide) ?_
          refine g_zret h hq rfl dX8_isOn_50 (by omega) ?_
          first | exact ⟨bl1 (by unfold qOn; rw [vM_day σ b0 b1, vM_kind σ b0 b1, vM_lasts σ b0 b1]; simp; omega), rfl⟩ | exact ⟨bl0 (by unfold qOn; rw [vM_day σ b0 b1, vM_kind σ b0 b1, vM_lasts σ b0 b1]; simp; omega), rfl⟩
end
section
/-- but for one row the same -/
def m1 (r : Int) (σ s : mS) : Prop := ∀ k : Int, ¬ k = r → s k = σ k
theorem m1.rf (r : Int) (σ : mS) : m1 r σ σ := fun _ _ => rfl
theorem m1.up {r : Int} {σ s : mS} (h : m1 r σ s) (j v : Int) : m1 r σ (mUp s r j v) := fun k hk => (mUp_off s j v hk).trans (h k hk)
theorem m1.sc {r : Int} {σ s : mS} (h : m1 r σ s) (hr : r = 11 ∨ r = 12 ∨ r = 13) : mSc σ s := fun k a b c => h k (by omega)
theorem m1.tr {r : Int} {σ s t : mS} (h : m1 r σ s) (h' : m1 r s t) : m1 r σ t := fun k hk => (h' k hk).trans (h k hk)
set_option maxRecDepth 100000 in
set_option maxHeartbeats 2000000 in
theorem lpi_X8_layOrder {x : mX} {l : Launch} {D : va_G} {cs : mC} {ad : Int → Nat} {post : mS → Prop} (h : mOk x l M_X8_layOrder 0 (gM D cs ad)) (hq : rV x (gM D cs ad) post) {σ : mS} (hw : qWf (vM σ)) {k : Int} (k0 : 0 ≤ k) (k1 : k < 6) {o : Int → Int} (ho : qSr (vM σ) k o) (hk : ∀ s : mS, m1 11 σ s → qSr (vM σ) (k + 1) (s 11) → mG x 2 [(0, .ref (ad 0)), (1, mI (k + 1))] [] s) : ∀ (f : Nat) (a : Int) (s : mS), a < f → m1 11 σ s → 0 ≤ a → a ≤ k → (∀ i : Int, 0 ≤ i → i < a → s 11 i = o i) → (∀ i : Int, a < i → i ≤ k → s 11 i = o (i - 1)) → (∀ i : Int, a ≤ i → i < k → vM σ 2 k < vM σ 2 (o i)) → mG x 12 [(0, .ref (ad 0)), (1, mI k), (2, mI a)] [] s := by
  intro f
  induction f with
  | zero => intro a s hf hs ha0 ha1; omega
  | succ f ih =>
    intro a s hf hs ha0 ha1 h1 h2 h3
    refine g_iload_n h dX8_layOrder_12 rfl ?_
    refine g_if_le (tgt := 58) h dX8_layOrder_13 (by decide) (by first | exact hR _ _ | exact ⟨by omega, by omega⟩) (fun c13 => ?_) (fun c13 => ?_)
    · have hlo : ∀ i : Int, 0 ≤ i → i < a → vM σ 2 (o i) ≤ vM σ 2 k := fun i i0 i1 => by omega
      refine g_aload_n h dX8_layOrder_58 rfl ?_
      refine gm_order h dX8_layOrder_59 lf_RX8_45 ?_
      refine g_iload_n h dX8_layOrder_62 rfl ?_
      refine g_iload_n h dX8_layOrder_63 rfl ?_
      refine sm_order h dX8_layOrder_64 (by omega) (by omega) ?_
      refine g_iinc h dX8_layOrder_65 rfl (by decide) rfl ?_
      refine g_goto (tgt := 2) h dX8_layOrder_68 (by decide) ?_
      have key : mG x 2 [(0, .ref (ad 0)), (1, mI (k + 1))] [] (mUp s 11 a k) := hk _ (hs.up a k) (qSr_ins ho ha0 ha1 hlo h3 (fun i i0 i1 => by rw [mUp_ne s k (Or.inr (by omega)), h1 i i0 i1]) (mUp_eq s 11 a k) (fun i i0 i1 => by rw [mUp_ne s k (Or.inr (by omega)), h2 i i0 i1]))
      exact g_lv rfl key
    · have ea : s 11 (a - 1) = o (a - 1) := h1 (a - 1) (by omega) (by omega)
      have hr := ho.1 (a - 1) (by omega) (by omega)
      have e5 : s 5 = σ 5 := hs 5 (by omega)
      have hda := hw.2.2.2.2.2.2.2 (o (a - 1)) hr.1 (by omega)
      have hdk := hw.2.2.2.2.2.2.2 k k0 (by omega)
      have v1 := vM_day σ hr.1 (show o (a - 1) < 6 by omega)
      have v2 := vM_day σ k0 (show k < 6 by omega)
      refine g_aload_n h dX8_layOrder_16 rfl ?_
      refine gm_dayOf h dX8_layOrder_17 lf_RX8_22 ?_
      refine g_aload_n h dX8_layOrder_20 rfl ?_
      refine gm_order h dX8_layOrder_21 lf_RX8_45 ?_
      refine g_iload_n h dX8_layOrder_24 rfl ?_
      refine g_iconst h dX8_layOrder_25 rfl ?_
      refine g_isub h dX8_layOrder_26 ?_
      refine lm_order h dX8_layOrder_27 (by omega) (by omega) ?_
      refine lm_dayOf h dX8_layOrder_28 (by omega) (by omega) ?_
      refine g_aload_n h dX8_layOrder_29 rfl ?_
      refine gm_dayOf h dX8_layOrder_30 lf_RX8_22 ?_
      refine g_iload_n h dX8_layOrder_33 rfl ?_
      refine lm_dayOf h dX8_layOrder_34 (by omega) (by omega) ?_
      rw [ea, e5]
      refine g_icmp_le (tgt := 58) h dX8_layOrder_35 (by decide) ⟨by omega, by omega⟩ ⟨by omega, by omega⟩ (fun c35 => ?_) (fun c35 => ?_)
      · have hlo : ∀ i : Int, 0 ≤ i → i < a → vM σ 2 (o i) ≤ vM σ 2 k := by
          intro i i0 i1
          by_cases q : i = a - 1
          · rw [q]; omega
          · have r := ho.2.1 i (a - 1) i0 (by omega) (by omega)
            unfold qBf at r
            simp only [decide_eq_true_eq] at r
            omega
        refine g_aload_n h dX8_layOrder_58 rfl ?_
        refine gm_order h dX8_layOrder_59 lf_RX8_45 ?_
        refine g_iload_n h dX8_layOrder_62 rfl ?_
        refine g_iload_n h dX8_layOrder_63 rfl ?_
        refine sm_order h dX8_layOrder_64 (by omega) (by omega) ?_
        refine g_iinc h dX8_layOrder_65 rfl (by decide) rfl ?_
        refine g_goto (tgt := 2) h dX8_layOrder_68 (by decide) ?_
        have key : mG x 2 [(0, .ref (ad 0)), (1, mI (k + 1))] [] (mUp s 11 a k) := hk _ (hs.up a k) (qSr_ins ho ha0 ha1 hlo h3 (fun i i0 i1 => by rw [mUp_ne s k (Or.inr (by omega)), h1 i i0 i1]) (mUp_eq s 11 a k) (fun i i0 i1 => by rw [mUp_ne s k (Or.inr (by omega)), h2 i i0 i1]))
        exact g_lv rfl key
      · refine g_aload_n h dX8_layOrder_38 rfl ?_
        refine gm_order h dX8_layOrder_39 lf_RX8_45 ?_
        refine g_iload_n h dX8_layOrder_42 rfl ?_
        refine g_aload_n h dX8_layOrder_43 rfl ?_
        refine gm_order h dX8_layOrder_44 lf_RX8_45 ?_
        refine g_iload_n h dX8_layOrder_47 rfl ?_
        refine g_iconst h dX8_layOrder_48 rfl ?_
        refine g_isub h dX8_layOrder_49 ?_
        refine lm_order h dX8_layOrder_50 (by omega) (by omega) ?_
        refine sm_order h dX8_layOrder_51 (by omega) (by omega) ?_
        refine g_iinc h dX8_layOrder_52 rfl (by decide) rfl ?_
        refine g_goto (tgt := 12) h dX8_layOrder_55 (by decide) ?_
        exact ih (a - 1) (mUp s 11 a (s 11 (a - 1))) (by omega) (hs.up _ _) (by omega) (by omega) (fun i i0 i1 => by rw [mUp_ne s _ (Or.inr (by omega))]; exact h1 i i0 (by omega)) (fun i i0 i1 => by
          by_cases q : i = a
          · rw [q, mUp_eq]; exact ea
          · rw [mUp_ne s _ (Or.inr (by omega))]; exact h2 i (by omega) i1) (fun i i0 i1 => by
          by_cases q : i = a - 1
          · rw [q]; omega
          · exact h3 i (by omega) i1)
set_option maxRecDepth 100000 in
set_option maxHeartbeats 2000000 in
theorem lp_X8_layOrder {x : mX} {l : Launch} {D : va_G} {cs : mC} {ad : Int → Nat} {post : mS → Prop} (h : mOk x l M_X8_layOrder 0 (gM D cs ad)) (hq : rV x (gM D cs ad) post) {σ : mS} (hw : qWf (vM σ)) (hp : ∀ s : mS, m1 11 σ s → qSr (vM σ) (σ 0 9) (s 11) → post s) : ∀ (f : Nat) (k : Int) (s : mS), 0 ≤ k → k ≤ σ 0 9 → σ 0 9 - k < f → m1 11 σ s → qSr (vM σ) k (s 11) → mG x 2 [(0, .ref (ad 0)), (1, mI k)] [] s := by
  intro f
  have hn0 : 0 ≤ σ 0 9 := hw.1
  have hn6 : σ 0 9 ≤ 6 := hw.2.1
  induction f with
  | zero => intro k s h0 h1 h2; omega
  | succ f ih =>
    intro k s h0 h1 h2 hs ho
    have e9 : s 0 9 = σ 0 9 := by rw [hs 0 (by omega)]
    refine g_iload_n h dX8_layOrder_2 rfl ?_
    refine g_aload_n h dX8_layOrder_3 rfl ?_
    refine gm_bills h dX8_layOrder_4 lf_RX8_72 ?_
    refine g_icmp_ge (tgt := 71) h dX8_layOrder_7 (by decide) (by first | exact hR _ _ | exact ⟨by omega, by omega⟩) (by first | exact hR _ _ | exact ⟨by omega, by omega⟩) (fun c7 => ?_) (fun c7 => ?_)
    · refine g_vret h hq rfl dX8_layOrder_71 (hp s hs (by rw [show σ 0 9 = k by omega]; exact ho))
    · refine g_iload_n h dX8_layOrder_10 rfl ?_
      refine g_istore_n h dX8_layOrder_11 (by decide) rfl ?_
      exact lpi_X8_layOrder h hq hw h0 (by omega) ho (fun s2 q1 q2 => ih (k + 1) s2 (by omega) (by omega) (by omega) q1 q2) (k.toNat + 1) k s (by omega) hs h0 (by omega) (fun i _ _ => rfl) (fun i i0 i1 => by omega) (fun i i0 i1 => by omega)
set_option maxRecDepth 100000 in
set_option maxHeartbeats 2000000 in
theorem c_X8_layOrder {l : Launch} {D : va_G} {cs : mC} {ad : Int → Nat} (σ : mS)  (hw : qWf (vM σ)) : CV l (gM D cs ad) M_X8_layOrder 0 [.ref (ad 0)] σ (fun s => m1 11 σ s ∧ qSr (vM σ) (σ 0 9) (s 11)) := by
  refine CV.of (by decide) (Nat.le_of_ble_eq_true rfl) (fun x h hq => ?_)
  show mG x 0 [(0, .ref (ad 0))] [] σ
  refine g_iconst h dX8_layOrder_0 rfl ?_
  refine g_istore_n h dX8_layOrder_1 (by decide) rfl ?_
  have hn0 : 0 ≤ σ 0 9 := hw.1
  have hn6 : σ 0 9 ≤ 6 := hw.2.1
  exact lp_X8_layOrder h hq hw (fun s a b => ⟨a, b⟩) 7 0 σ (by omega) (by omega) (by omega) (m1.rf 11 σ) (qSr_0 _ _)
/-- who is named, by those behind place k -/
def qNd (τ : mS) (P : Int → Bool) (o : Int → Int) (d k b : Int) : Bool := anyN (fun j => decide (k < j) && (decide (τ 1 (o j) = 2) && (decide (τ 4 (o j) = b) && qIn τ P 6 (o j) d))) (τ 0 4).toNat
theorem qNd_top {τ : mS} {P : Int → Bool} {o : Int → Int} {d k b : Int} (h : τ 0 4 ≤ k + 1) : qNd τ P o d k b = false := anyN_no.mpr (fun i h0 h1 => by
  have : decide (k < i) = false := by simp; omega
  rw [this]; rfl)
theorem qNd_step {τ : mS} {P : Int → Bool} {o : Int → Int} {d k : Int} (h0 : 0 ≤ k) (h1 : k < τ 0 4) (b : Int) : qNd τ P o d (k - 1) b = (qNd τ P o d k b || (decide (τ 1 (o k) = 2) && (decide (τ 4 (o k) = b) && qIn τ P 6 (o k) d))) := by
  unfold qNd
  cases hr : (decide (τ 1 (o k) = 2) && (decide (τ 4 (o k) = b) && qIn τ P 6 (o k) d)) with
  | true =>
    rw [Bool.or_true]
    refine anyN_iff.mpr ⟨k, h0, by omega, ?_⟩
    rw [hr]
    simp
    omega
  | false =>
    rw [Bool.or_false]
    refine anyN_cong (fun j j0 j1 => ?_)
    by_cases hj : j = k
    · subst hj
      rw [hr]
      simp
    · have : decide (k - 1 < j) = decide (k < j) := by
        rw [decide_eq_decide]; omega
      rw [this]
theorem qIn_nd {τ : mS} {P : Int → Bool} {o : Int → Int} (h : qSr τ (τ 0 4) o) (h6 : τ 0 4 ≤ 6) {d k : Int} (h0 : 0 ≤ k) (h1 : k < τ 0 4) : qIn τ P 6 (o k) d = (qOn τ P (o k) d && !qNd τ P o d k (o k)) := by
  show (qOn τ P (o k) d && !(anyN (fun r => decide (τ 1 r = 2) && (decide (τ 4 r = o k) && (qBf τ (o k) r && qIn τ P 5 r d))) (τ 0 4).toNat)) = _
  have e : anyN (fun r => decide (τ 1 r = 2) && (decide (τ 4 r = o k) && (qBf τ (o k) r && qIn τ P 5 r d))) (τ 0 4).toNat = qNd τ P o d k (o k) := by
    cases hq : qNd τ P o d k (o k) with
    | true =>
      obtain ⟨j, j0, j1, hj⟩ := anyN_iff.mp hq
      simp only [Bool.and_eq_true, decide_eq_true_eq] at hj
      obtain ⟨a1, a2, a3, a4⟩ := hj
      refine anyN_iff.mpr ⟨o j, (h.1 j j0 (by omega)).1, by have := (h.1 j j0 (by omega)).2; omega, ?_⟩
      rw [qIn_st h d 5 j j0 (by omega) (by omega), a4, h.2.1 k j h0 a1 (by omega)]
      simp [a2, a3]
    | false =>
      refine anyN_no.mpr (fun r r0 r1 => ?_)
      obtain ⟨j, j0, j1, rfl⟩ := h.2.2 r r0 (by omega)
      cases hb : qBf τ (o k) (o j) with
      | false => simp
      | true =>
        have hkj := qSr_lt h h0 h1 j0 j1 hb
        have := anyN_no.mp hq j j0 (by omega)
        rw [qIn_st h d 5 j j0 (by omega) (by omega)]
        have e1 : decide (k < j) = true := by simp; omega
        rw [e1, Bool.true_and] at this
        simpa using this
  rw [e]
set_option maxRecDepth 100000 in
set_option maxHeartbeats 2000000 in
theorem lp_X8_layForce {x : mX} {l : Launch} {D : va_G} {cs : mC} {ad : Int → Nat} {post : mS → Prop} (h : mOk x l M_X8_layForce 1 (gM D cs ad)) (hq : rV x (gM D cs ad) post) {σ : mS} (hw : qWf (vM σ)) {o : Int → Int} (hord : qSr (vM σ) (σ 0 9) o) (hoe : ∀ i : Int, 0 ≤ i → i < σ 0 9 → σ 11 i = o i) (hP : ∀ b : Int, 0 ≤ b → b < σ 0 9 → σ 12 b = 0 ∨ σ 12 b = 1) {d : Int} (d0 : 0 ≤ d) (d1 : d < 200) (hp : ∀ s : mS, m1 13 σ s → (∀ b : Int, 0 ≤ b → b < σ 0 9 → s 13 b = bl (qIn (vM σ) (fun k => decide (σ 12 k = 1)) 6 b d = true)) → post s) : ∀ (f : Nat) (k : Int) (s : mS) (nd : Int), -1 ≤ k → k < σ 0 9 → k < f → m1 13 σ s → nd = setOf 7 (qNd (vM σ) (fun k => decide (σ 12 k = 1)) o d k) → (∀ j : Int, k < j → j < σ 0 9 → 0 ≤ j → s 13 (o j) = bl (qIn (vM σ) (fun k => decide (σ 12 k = 1)) 6 (o j) d = true)) → mG x 9 [(0, .ref (ad 0)), (1, mI d), (2, mI nd), (3, mI k)] [] s := by
  intro f
  have hn0 : 0 ≤ σ 0 9 := hw.1
  have hn6 : σ 0 9 ≤ 6 := hw.2.1
  have hfin : ∀ (k : Int) (s : mS), k < 0 → m1 13 σ s → (∀ j : Int, k < j → j < σ 0 9 → 0 ≤ j → s 13 (o j) = bl (qIn (vM σ) (fun k => decide (σ 12 k = 1)) 6 (o j) d = true)) → post s := fun k s hk hs hj => hp s hs (fun b b0 b1 => by
    obtain ⟨i, i0, i1, rfl⟩ := hord.2.2 b b0 b1
    exact hj i (by omega) i1 i0)
  induction f with
  | zero =>
    intro k s nd h0 h1 h2 hs hnd hj
    refine g_iload_n h dX8_layForce_9 rfl ?_
    refine g_if_lt (tgt := 95) h dX8_layForce_10 (by decide) ⟨by omega, by omega⟩ (fun c10 => ?_) (fun c10 => ?_)
    · exact g_vret h hq rfl dX8_layForce_95 (hfin k s (by omega) hs hj)
    · omega
  | succ f ih =>
    intro k s nd h0' h1 h2 hs hnd hj
    refine g_iload_n h dX8_layForce_9 rfl ?_
    refine g_if_lt (tgt := 95) h dX8_layForce_10 (by decide) (by first | exact hR _ _ | exact ⟨by omega, by omega⟩) (fun c10 => ?_) (fun c10 => ?_)
    · refine g_vret h hq rfl dX8_layForce_95 (hfin k s (by omega) hs hj)
    · have h0 : 0 ≤ k := by omega
      have ho := hord
      have hb := ho.1 k h0 (by omega)
      have eo : s 11 k = o k := by rw [hs 11 (by omega)]; exact hoe k h0 (by omega)
      have hkd := hw.2.2.2.2.2.2.2 (o k) hb.1 (by omega)
      rw [vM_kind σ hb.1 (by omega), vM_names σ hb.1 (by omega)] at hkd
      have e4 : s 4 = σ 4 := hs 4 (by omega)
      have e7 : s 7 = σ 7 := hs 7 (by omega)
      have hIn := qIn_nd (P := fun k => decide (σ 12 k = 1)) ho hn6 (d := d) h0 (show k < vM σ 0 4 from h1)
      have J87 : ∀ (w : Int) (s2 : mS), m1 13 σ s2 → (∀ j : Int, k - 1 < j → j < σ 0 9 → 0 ≤ j → s2 13 (o j) = bl (qIn (vM σ) (fun k => decide (σ 12 k = 1)) 6 (o j) d = true)) → w = (if qIn (vM σ) (fun k => decide (σ 12 k = 1)) 6 (o k) d = true ∧ σ 4 (o k) = 2 then iShl 1 (σ 7 (o k)) else 0) → mG x 87 [(0, .ref (ad 0)), (1, mI d), (2, mI nd), (3, mI k), (4, mI (o k))] [mI w, mI nd] s2 := by
        intro w s2 hs2 hj2 hw2
        refine g_ior h dX8_layForce_87 ?_
        refine g_istore_n h dX8_layForce_88 (by decide) rfl ?_
        refine g_iinc h dX8_layForce_89 rfl (by decide) rfl ?_
        refine g_goto (tgt := 9) h dX8_layForce_92 (by decide) ?_
        refine g_lv (lv' := [(0, .ref (ad 0)), (1, mI d), (2, mI (iOr nd w)), (3, mI (k + -1))]) rfl ?_
        refine ih (k + -1) s2 (iOr nd w) (by omega) (by omega) (by omega) hs2 ?_ (fun j a b c => hj2 j (by omega) b c)
        rw [hnd, show k + -1 = k - 1 by omega]
        by_cases q : qIn (vM σ) (fun k => decide (σ 12 k = 1)) 6 (o k) d = true ∧ σ 4 (o k) = 2
        · rw [hw2, if_pos q, set_add (by omega) _ (by omega) (by omega)]
          refine setOf_cong (fun i i0 i1 => ?_)
          rw [qNd_step h0 (show k < vM σ 0 4 from h1), q.1, vM_kind σ hb.1 (by omega), vM_names σ hb.1 (by omega)]
          have : decide (i = σ 7 (o k)) = decide (σ 7 (o k) = i) := by rw [decide_eq_decide]; omega
          simp [q.2, this]
        · rw [hw2, if_neg q]
          have e0 : iOr (setOf 7 (qNd (vM σ) (fun k => decide (σ 12 k = 1)) o d k)) 0 = setOf 7 (qNd (vM σ) (fun k => decide (σ 12 k = 1)) o d k) := by
            have := iOr_set (n := 7) (by omega) (qNd (vM σ) (fun k => decide (σ 12 k = 1)) o d k) (fun _ => false)
            rw [set_zero.mpr (fun i _ _ => rfl)] at this
            simpa using this
          rw [e0]
          refine setOf_cong (fun i i0 i1 => ?_)
          rw [qNd_step h0 (show k < vM σ 0 4 from h1), vM_kind σ hb.1 (by omega), vM_names σ hb.1 (by omega)]
          have : (decide (σ 4 (o k) = 2) && (decide (σ 7 (o k) = i) && qIn (vM σ) (fun k => decide (σ 12 k = 1)) 6 (o k) d)) = false := by
            cases hz : (decide (σ 4 (o k) = 2) && (decide (σ 7 (o k) = i) && qIn (vM σ) (fun k => decide (σ 12 k = 1)) 6 (o k) d)) with
            | false => rfl
            | true =>
              simp only [Bool.and_eq_true, decide_eq_true_eq] at hz
              exact absurd ⟨hz.2.2, hz.1⟩ q
          rw [this, Bool.or_false]
      have J51 : ∀ v : Int, v = bl (qIn (vM σ) (fun k => decide (σ 12 k = 1)) 6 (o k) d = true) → mG x 51 [(0, .ref (ad 0)), (1, mI d), (2, mI nd), (3, mI k), (4, mI (o k))] [mI v, mI (o k), .ref (ad 13)] s := by
        intro v hv
        have hv01 := bl_01 (qIn (vM σ) (fun k => decide (σ 12 k = 1)) 6 (o k) d = true)
        refine sm_inForce h dX8_layForce_51 (by omega) (by omega) (by omega) ?_
        have hs2 := hs.up (o k) v
        have hj2 : ∀ j : Int, k - 1 < j → j < σ 0 9 → 0 ≤ j → mUp s 13 (o k) v 13 (o j) = bl (qIn (vM σ) (fun k => decide (σ 12 k = 1)) 6 (o j) d = true) := fun j a b c => by
          by_cases q : j = k
          · rw [q, mUp_eq, hv]
          · rw [mUp_ne s v (Or.inr (fun z => q (qSr_inj ho c b h0 h1 z)))]
            exact hj j (by omega) b c
        refine g_iload_n h dX8_layForce_52 rfl ?_
        refine g_aload_n h dX8_layForce_53 rfl ?_
        refine gm_inForce h dX8_layForce_54 lf_RX8_51 ?_
        refine g_iload h dX8_layForce_57 rfl ?_
        refine lm_inForce h dX8_layForce_59 (by omega) (by omega) ?_
        refine g_val (b := bl (qIn (vM σ) (fun k => decide (σ 12 k = 1)) 6 (o k) d = true)) ((mUp_eq s 13 (o k) v).trans hv) ?_
        refine g_ifb_eq (tgt := 86) h dX8_layForce_60 (by decide)  (fun c60 => ?_) (fun c60 => ?_)
        · refine g_iconst h dX8_layForce_86 rfl ?_
          exact J87 _ _ hs2 hj2 (by first | rw [if_pos ⟨by assumption, by assumption⟩] | rw [if_neg (fun z => by first | exact absurd z.1 (by assumption) | exact absurd z.2 (by assumption))])
        · refine g_aload_n h dX8_layForce_63 rfl ?_
          refine gm_kind h dX8_layForce_64 lf_RX8_19 ?_
          refine g_iload h dX8_layForce_67 rfl ?_
          refine lm_kind h dX8_layForce_69 (by omega) (by omega) ?_
          refine g_iconst h dX8_layForce_70 rfl ?_
          refine g_val2 (b := σ 4 (o k)) (by rw [mUp_off s (o k) v (show (4 : Int) ≠ 13 by omega), e4]) ?_
          refine g_icmp_ne (tgt := 86) h dX8_layForce_71 (by decide) ⟨by omega, by omega⟩ ⟨by omega, by omega⟩ (fun c71 => ?_) (fun c71 => ?_)
          · refine g_iconst h dX8_layForce_86 rfl ?_
            exact J87 _ _ hs2 hj2 (by first | rw [if_pos ⟨by assumption, by assumption⟩] | rw [if_neg (fun z => by first | exact absurd z.1 (by assumption) | exact absurd z.2 (by assumption))])
          · refine g_iconst h dX8_layForce_74 rfl ?_
            refine g_aload_n h dX8_layForce_75 rfl ?_
            refine gm_names h dX8_layForce_76 lf_RX8_28 ?_
            refine g_iload h dX8_layForce_79 rfl ?_
            refine lm_names h dX8_layForce_81 (by omega) (by omega) ?_
            refine g_val (b := σ 7 (o k)) (by rw [mUp_off s (o k) v (show (7 : Int) ≠ 13 by omega), e7]) ?_
            refine g_ishl h dX8_layForce_82 ?_
            refine g_goto (tgt := 87) h dX8_layForce_83 (by decide) ?_
            exact J87 _ _ hs2 hj2 (by first | rw [if_pos ⟨by assumption, by assumption⟩] | rw [if_neg (fun z => by first | exact absurd z.1 (by assumption) | exact absurd z.2 (by assumption))])
      refine g_aload_n h dX8_layForce_13 rfl ?_
      refine gm_order h dX8_layForce_14 lf_RX8_45 ?_
      refine g_iload_n h dX8_layForce_17 rfl ?_
      refine lm_order h dX8_layForce_18 (by omega) (by omega) ?_
      refine g_val eo ?_
      refine g_istore h dX8_layForce_19 (by decide) rfl ?_
      refine g_aload_n h dX8_layForce_21 rfl ?_
      refine gm_inForce h dX8_layForce_22 lf_RX8_51 ?_
      refine g_iload h dX8_layForce_25 rfl ?_
      refine g_aload_n h dX8_layForce_27 rfl ?_
      refine g_iload h dX8_layForce_28 rfl ?_
      refine g_iload_n h dX8_layForce_30 rfl ?_
      refine g_vI h (c_X8_isOn _ _ _ (by rw [(hs.sc (by omega)).view]; exact hw) (by omega) (by omega) d0 d1 (by rw [hs 12 (by omega)]; exact hP _ hb.1 (by omega))) (by decide) lm_RX8_168 (rvM rfl) dX8_layForce_31 rfl (Nat.le_of_ble_eq_true rfl) (fun z31 s31 p31 => ?_)
      obtain ⟨e31, r31⟩ := p31; rw [(hs.sc (by omega)).view, hs 12 (by omega)] at e31; subst e31; replace r31 := Eq.symm r31; subst r31
      refine g_ifb_eq (tgt := 50) h dX8_layForce_34 (by decide)  (fun c34 => ?_) (fun c34 => ?_)
      · refine g_iconst h dX8_layForce_50 rfl ?_
        exact J51 _ (by first | exact bl1 (by rw [hIn]; simp [*]) | exact bl0 (by rw [hIn]; simp [*]))
      · refine g_iload_n h dX8_layForce_37 rfl ?_
        refine g_iload h dX8_layForce_38 rfl ?_
        refine g_ishr h dX8_layForce_40 ?_
        refine g_iconst h dX8_layForce_41 rfl ?_
        refine g_iand h dX8_layForce_42 ?_
        refine g_val (b := bl (qNd (vM σ) (fun k => decide (σ 12 k = 1)) o d k (o k) = true)) (by rw [hnd, set_rd (by omega) _ hb.1 (by omega)]) ?_
        refine g_ifb_ne (tgt := 50) h dX8_layForce_43 (by decide)  (fun c43 => ?_) (fun c43 => ?_)
        · refine g_iconst h dX8_layForce_50 rfl ?_
          exact J51 _ (by first | exact bl1 (by rw [hIn]; simp [*]) | exact bl0 (by rw [hIn]; simp [*]))
        · refine g_iconst h dX8_layForce_46 rfl ?_
          refine g_goto (tgt := 51) h dX8_layForce_47 (by decide) ?_
          exact J51 _ (by first | exact bl1 (by rw [hIn]; simp [*]) | exact bl0 (by rw [hIn]; simp [*]))
set_option maxRecDepth 100000 in
set_option maxHeartbeats 2000000 in
theorem c_X8_layForce {l : Launch} {D : va_G} {cs : mC} {ad : Int → Nat} (σ : mS) (d : Int) (hw : qWf (vM σ)) (hord : qSr (vM σ) (σ 0 9) (σ 11)) (hP : ∀ b : Int, 0 ≤ b → b < σ 0 9 → σ 12 b = 0 ∨ σ 12 b = 1) (d0 : 0 ≤ d) (d1 : d < 200) : CV l (gM D cs ad) M_X8_layForce 1 [.ref (ad 0), mI d] σ (fun s => m1 13 σ s ∧ ∀ b : Int, 0 ≤ b → b < σ 0 9 → s 13 b = bl (qIn (vM σ) (fun k => decide (σ 12 k = 1)) 6 b d = true)) := by
  refine CV.of (by decide) (Nat.le_of_ble_eq_true rfl) (fun x h hq => ?_)
  show mG x 0 [(0, .ref (ad 0)), (1, mI d)] [] σ
  refine g_iconst h dX8_layForce_0 rfl ?_
  refine g_istore_n h dX8_layForce_1 (by decide) rfl ?_
  refine g_aload_n h dX8_layForce_2 rfl ?_
  refine gm_bills h dX8_layForce_3 lf_RX8_72 ?_
  refine g_iconst h dX8_layForce_6 rfl ?_
  refine g_isub h dX8_layForce_7 ?_
  refine g_istore_n h dX8_layForce_8 (by decide) rfl ?_
  have hn0 : 0 ≤ σ 0 9 := hw.1
  have hn6 : σ 0 9 ≤ 6 := hw.2.1
  exact lp_X8_layForce h hq hw hord (fun i _ _ => rfl) hP d0 d1 (fun s a b => ⟨a, b⟩) 7 (σ 0 9 - 1) σ 0 (by omega) (by omega) (by omega) (m1.rf 13 σ) (set_zero.mpr (fun i _ _ => qNd_top (show σ 0 9 ≤ σ 0 9 - 1 + 1 by omega))).symm (fun j a b c => by omega)
end
section
/-- laid: the order, and what passes -/
def mLd (σ s : mS) (Q : Int → Bool) : Prop := mSc σ s ∧ qSr (vM σ) (σ 0 9) (s 11) ∧ ∀ b : Int, 0 ≤ b → b < σ 0 9 → s 12 b = bl (Q b = true)
theorem qPk_of {τ : mS} {o : Int → Int} {st : Int → Bool} : ∀ (k : Nat) {b : Int}, qPk τ o st k b = true → ∃ i : Int, 0 ≤ i ∧ i < k ∧ b = o i
  | 0, b, h => by cases h
  | k + 1, b, h => by
    have h1 : (qPk τ o st k b || (decide (b = o (k : Int)) && qMay τ st (qPk τ o st k) b)) = true := h
    rw [Bool.or_eq_true] at h1
    rcases h1 with h1 | h1
    · obtain ⟨i, i0, i1, e⟩ := qPk_of k h1
      exact ⟨i, i0, by omega, e⟩
    · rw [Bool.and_eq_true] at h1
      exact ⟨(k : Int), by omega, by omega, of_decide_eq_true h1.1⟩
theorem qPk_at {τ : mS} {o : Int → Int} {st : Int → Bool} {n : Int} (h : qSr τ n o) (k : Nat) (hk : (k : Int) < n) : qPk τ o st (k + 1) (o (k : Int)) = qMay τ st (qPk τ o st k) (o (k : Int)) := by
  show (qPk τ o st k (o k) || (decide (o (k : Int) = o (k : Int)) && qMay τ st (qPk τ o st k) (o k))) = _
  have e : qPk τ o st k (o (k : Int)) = false := by
    cases hq : qPk τ o st k (o (k : Int)) with
    | false => rfl
    | true =>
      obtain ⟨i, i0, i1, e⟩ := qPk_of k hq
      have := qSr_inj h (by omega) hk i0 (by omega) e
      omega
  rw [e]
  simp
theorem qPk_ne {τ : mS} {o : Int → Int} {st : Int → Bool} (k : Nat) {b : Int} (hb : ¬ b = o (k : Int)) : qPk τ o st (k + 1) b = qPk τ o st k b := by
  show (qPk τ o st k b || (decide (b = o (k : Int)) && qMay τ st (qPk τ o st k) b)) = _
  simp [hb]
theorem qFs_rng {τ : mS} (h : qWf τ) (hn : 0 < τ 0 4) (dk : Int → Bool) (b : Int) : i32 (qFs τ dk b) := by
  obtain ⟨g0, g1, g2, g3⟩ := fstN_sp (fun m => qWt τ b m && !dk m) 11
  have g := qMd_rng h hn g0 (show fstN (fun m => qWt τ b m && !dk m) 11 ≤ 100 by omega)
  unfold qFs
  by_cases hl : fstN (fun m => qWt τ b m && !dk m) 11 < 11
  · rw [if_pos hl]; exact ⟨by omega, by omega⟩
  · rw [if_neg hl]; exact ⟨by omega, by omega⟩
set_option maxRecDepth 100000 in
set_option maxHeartbeats 2000000 in
theorem lp2_X8_layPassing {x : mX} {l : Launch} {D : va_G} {cs : mC} {ad : Int → Nat} {post : mS → Prop} (h : mOk x l M_X8_layPassing 3 (gM D cs ad)) (hq : rV x (gM D cs ad) post) {σ : mS} (hw : mWf σ) {o : Int → Int} (ho : qSr (vM σ) (σ 0 9) o) (hp : ∀ s : mS, mSc σ s → (∀ i : Int, 0 ≤ i → i < σ 0 9 → s 11 i = o i) → (∀ b : Int, 0 ≤ b → b < σ 0 9 → s 12 b = bl (qPk (vM σ) o (stM σ) (σ 0 9).toNat b = true)) → post s) : ∀ (f : Nat) (k : Int) (s : mS), 0 ≤ k → k ≤ σ 0 9 → σ 0 9 - k < f → mSc σ s → (∀ i : Int, 0 ≤ i → i < σ 0 9 → s 11 i = o i) → (∀ b : Int, 0 ≤ b → b < σ 0 9 → s 12 b = bl (qPk (vM σ) o (stM σ) k.toNat b = true)) → mG x 29 [(0, .ref (ad 0)), (1, mI k)] [] s := by
  intro f
  have hn0 : 0 ≤ σ 0 9 := hw.1.1
  have hn6 : σ 0 9 ≤ 6 := hw.1.2.1
  induction f with
  | zero => intro k s h0 h1 h2; omega
  | succ f ih =>
    intro k s h0 h1 h2 hs hso2 hP
    have e9 : s 0 9 = σ 0 9 := by rw [hs 0 (by omega) (by omega) (by omega)]
    refine g_iload_n h dX8_layPassing_29 rfl ?_
    refine g_aload_n h dX8_layPassing_30 rfl ?_
    refine gm_bills h dX8_layPassing_31 lf_RX8_72 ?_
    refine g_icmp_ge (tgt := 139) h dX8_layPassing_34 (by decide) (by first | exact hR _ _ | exact ⟨by omega, by omega⟩) (by first | exact hR _ _ | exact ⟨by omega, by omega⟩) (fun c34 => ?_) (fun c34 => ?_)
    · refine g_vret h hq rfl dX8_layPassing_139 (hp s hs hso2 (by rw [show (σ 0 9).toNat = k.toNat by omega]; exact hP))
    · have hb := ho.1 k h0 (by omega)
      have hso : qSr (vM σ) (σ 0 9) (s 11) := ⟨fun i i0 i1 => by rw [hso2 i i0 i1]; exact ho.1 i i0 i1, fun i j i0 ij j1 => by rw [hso2 i i0 (by omega), hso2 j (by omega) j1]; exact ho.2.1 i j i0 ij j1, fun b b0 b1 => by
        obtain ⟨i, i0, i1, e⟩ := ho.2.2 b b0 b1
        exact ⟨i, i0, i1, by rw [hso2 i i0 i1]; exact e⟩⟩
      have J126 : ∀ (v : Int) (s2 : mS), mSc σ s2 → (∀ i : Int, 0 ≤ i → i < σ 0 9 → s2 11 i = o i) → (∀ b : Int, 0 ≤ b → b < σ 0 9 → s2 12 b = bl (qPk (vM σ) o (stM σ) k.toNat b = true)) → v = bl (qMay (vM σ) (stM σ) (qPk (vM σ) o (stM σ) k.toNat) (o k) = true) → mG x 126 [(0, .ref (ad 0)), (1, mI k), (2, mI (o k)), (3, mI v)] [] s2 := by
        intro v s2 hs2 ho2 hP2 hv
        have hv01 := bl_01 (qMay (vM σ) (stM σ) (qPk (vM σ) o (stM σ) k.toNat) (o k) = true)
        refine g_aload_n h dX8_layPassing_126 rfl ?_
        refine gm_doesPass h dX8_layPassing_127 lf_RX8_48 ?_
        refine g_iload_n h dX8_layPassing_130 rfl ?_
        refine g_iload_n h dX8_layPassing_131 rfl ?_
        refine sm_doesPass h dX8_layPassing_132 (by omega) (by omega) (by omega) ?_
        refine g_iinc h dX8_layPassing_133 rfl (by decide) rfl ?_
        refine g_goto (tgt := 29) h dX8_layPassing_136 (by decide) ?_
        refine g_lv (lv' := [(0, .ref (ad 0)), (1, mI (k + 1))]) rfl ?_
        have hkn : ((k.toNat : Nat) : Int) = k := Int.toNat_of_nonneg h0
        refine ih (k + 1) (mUp s2 12 (o k) v) (by omega) (by omega) (by omega) (hs2.tr (mSc.up s2 _ _ (by omega))) (fun i i0 i1 => by rw [mUp_ne s2 v (Or.inl (by omega))]; exact ho2 i i0 i1) (fun b b0 b1 => ?_)
        rw [show (k + 1).toNat = k.toNat + 1 by omega]
        by_cases q : b = o k
        · rw [q, mUp_eq, hv]
          have := qPk_at (st := stM σ) ho k.toNat (by omega)
          rw [hkn] at this
          rw [this]
        · rw [mUp_ne s2 v (Or.inr q), hP2 b b0 b1, qPk_ne k.toNat (by rw [hkn]; exact q)]
      have J67 : ∀ (v : Int), v = bl (stM σ (o k) = false) → mG x 67 [(0, .ref (ad 0)), (1, mI k), (2, mI (o k))] [mI v] s := by
        intro v hv
        refine g_istore_n h dX8_layPassing_67 (by decide) rfl ?_
        refine g_iload_n h dX8_layPassing_68 rfl ?_
        refine g_val hv ?_
        refine g_ifb_eq (tgt := 126) h dX8_layPassing_69 (by decide)  (fun c69 => ?_) (fun c69 => ?_)
        · exact J126 _ s hs hso2 hP (by
            rw [hv, ← bl0 c69]
            exact bl0 (by unfold qMay; intro z; simp only [Bool.and_eq_true, Bool.not_eq_true'] at z; exact c69 z.1))
        · have e6 : s 6 = σ 6 := hs 6 (by omega) (by omega) (by omega)
          have e5 : s 5 = σ 5 := hs 5 (by omega) (by omega) (by omega)
          have e9 : s 0 9 = σ 0 9 := by rw [hs 0 (by omega) (by omega) (by omega)]
          have hbd := hw.1.2.2.2.2.2.2.2 (o k) hb.1 (by omega)
          have v3 := vM_needs σ hb.1 (show o k < 6 by omega)
          have v2 := vM_day σ hb.1 (show o k < 6 by omega)
          refine g_aload_n h dX8_layPassing_72 rfl ?_
          refine gm_needs h dX8_layPassing_73 lf_RX8_25 ?_
          refine g_iload_n h dX8_layPassing_76 rfl ?_
          refine lm_needs h dX8_layPassing_77 (by omega) (by omega) ?_
          refine g_bipush h dX8_layPassing_78 (by decide) ?_
          refine g_val2 (b := σ 6 (o k)) (by rw [e6]) ?_
          refine g_icmp_eq (tgt := 126) h dX8_layPassing_80 (by decide) ⟨by omega, by omega⟩ ⟨by omega, by omega⟩ (fun c80 => ?_) (fun c80 => ?_)
          · exact J126 _ s hs hso2 hP (by
              rw [hv, ← bl1 c69]
              exact bl1 (by unfold qMay; rw [v3, c69]; simp [c80]))
          · refine g_aload_n h dX8_layPassing_83 rfl ?_
            refine g_aload_n h dX8_layPassing_84 rfl ?_
            refine gm_dayOf h dX8_layPassing_85 lf_RX8_22 ?_
            refine g_iload_n h dX8_layPassing_88 rfl ?_
            refine lm_dayOf h dX8_layPassing_89 (by omega) (by omega) ?_
            refine g_val (b := σ 5 (o k)) (by rw [e5]) ?_
            refine g_vV h (c_X8_layForce s _ (by rw [hs.view]; exact hw.1) (by rw [hs.view, e9]; exact hso) (fun b b0 b1 => by rw [hP b b0 (by omega)]; exact bl_01 _) (by omega) (by omega)) (by decide) lm_RX8_174 (rvM rfl) dX8_layPassing_90 rfl (Nat.le_of_ble_eq_true rfl) (fun s90 p90 => ?_)
            obtain ⟨hs9, hF⟩ := p90
            rw [hs.view, e9] at hF
            have hsc9 : mSc σ s90 := hs.tr (hs9.sc (by omega))
            have f6 : s90 6 = σ 6 := hsc9 6 (by omega) (by omega) (by omega)
            have f9 : s90 0 9 = σ 0 9 := by rw [hsc9 0 (by omega) (by omega) (by omega)]
            have hcg := qIn_cong (τ := vM σ) (P := fun j => decide (s 12 j = 1)) (Q := qPk (vM σ) o (stM σ) k.toNat) (fun b b0 b1 => by
              have hb9 := hP b b0 b1
              cases hz : qPk (vM σ) o (stM σ) k.toNat b with
              | true => rw [hz] at hb9; rw [hb9, ← bl1 rfl]; rfl
              | false => rw [hz] at hb9; rw [hb9, ← bl0 (by decide)]; rfl) (σ 5 (o k)) 6
            refine g_aload_n h dX8_layPassing_93 rfl ?_
            refine g_aload_n h dX8_layPassing_94 rfl ?_
            refine gm_needs h dX8_layPassing_95 lf_RX8_25 ?_
            refine g_iload_n h dX8_layPassing_98 rfl ?_
            refine lm_needs h dX8_layPassing_99 (by omega) (by omega) ?_
            refine g_val (b := σ 6 (o k)) (by rw [f6]) ?_
            refine g_vI h (c_X8_isBill _ _ ⟨by omega, by omega⟩ ⟨by omega, by omega⟩) (by decide) lm_RX8_146 (rvM rfl) dX8_layPassing_100 rfl (Nat.le_of_ble_eq_true rfl) (fun z100 s100 p100 => ?_)
            obtain ⟨e100, r100⟩ := p100; rw [f9] at e100; subst e100; replace r100 := Eq.symm r100; subst r100
            refine g_ifb_eq (tgt := 124) h dX8_layPassing_103 (by decide)  (fun c103 => ?_) (fun c103 => ?_)
            · refine g_iconst h dX8_layPassing_124 rfl ?_
            
              refine g_istore_n h dX8_layPassing_125 (by decide) rfl ?_
              exact J126 _ s90 hsc9 (fun i i0 i1 => by rw [hs9 11 (by omega)]; exact hso2 i i0 i1) (fun b b0 b1 => by rw [hs9 12 (by omega)]; exact hP b b0 b1) (bl0 (by
                unfold qMay; rw [v3, v2]
                intro z
                simp only [Bool.and_eq_true, Bool.or_eq_true, decide_eq_true_eq] at z
                rcases z.2 with z | z
                · omega
                · exact c103 ⟨by omega, z.1⟩))
            · refine g_aload_n h dX8_layPassing_106 rfl ?_
              refine gm_inForce h dX8_layPassing_107 lf_RX8_51 ?_
              refine g_aload_n h dX8_layPassing_110 rfl ?_
              refine gm_needs h dX8_layPassing_111 lf_RX8_25 ?_
              refine g_iload_n h dX8_layPassing_114 rfl ?_
              refine lm_needs h dX8_layPassing_115 (by omega) (by omega) ?_
              refine g_val (b := σ 6 (o k)) (by rw [f6]) ?_
              refine lm_inForce h dX8_layPassing_116 c103.1 (by omega) ?_
              refine g_val (hF _ c103.1 c103.2) ?_
              refine g_ifb_eq (tgt := 124) h dX8_layPassing_117 (by decide)  (fun c117 => ?_) (fun c117 => ?_)
              · refine g_iconst h dX8_layPassing_124 rfl ?_
              
                refine g_istore_n h dX8_layPassing_125 (by decide) rfl ?_
                exact J126 _ s90 hsc9 (fun i i0 i1 => by rw [hs9 11 (by omega)]; exact hso2 i i0 i1) (fun b b0 b1 => by rw [hs9 12 (by omega)]; exact hP b b0 b1) (bl0 (by
                  unfold qMay; rw [v3, v2]
                  intro z
                  simp only [Bool.and_eq_true, Bool.or_eq_true, decide_eq_true_eq] at z
                  rcases z.2 with z | z
                  · omega
                  · exact c117 ((hcg (σ 6 (o k)) c103.1 c103.2).trans z.2)))
              · refine g_iconst h dX8_layPassing_120 rfl ?_
                refine g_goto (tgt := 125) h dX8_layPassing_121 (by decide) ?_
              
                refine g_istore_n h dX8_layPassing_125 (by decide) rfl ?_
                exact J126 _ s90 hsc9 (fun i i0 i1 => by rw [hs9 11 (by omega)]; exact hso2 i i0 i1) (fun b b0 b1 => by rw [hs9 12 (by omega)]; exact hP b b0 b1) (bl1 (by
                  have q := hcg (σ 6 (o k)) c103.1 c103.2
                  have c2 : decide (σ 6 (o k) < vM σ 0 4) = true := decide_eq_true c103.2
                  unfold qMay; rw [v3, v2, ← q, c69, c117, c2]; simp))
      refine g_aload_n h dX8_layPassing_37 rfl ?_
      refine gm_order h dX8_layPassing_38 lf_RX8_45 ?_
      refine g_iload_n h dX8_layPassing_41 rfl ?_
      refine lm_order h dX8_layPassing_42 (by omega) (by omega) ?_
      refine g_val (hso2 k h0 (by omega)) ?_
      refine g_istore_n h dX8_layPassing_43 (by decide) rfl ?_
      refine g_iload_n h dX8_layPassing_44 rfl ?_
      refine g_aload_n h dX8_layPassing_45 rfl ?_
      refine gm_struckToo h dX8_layPassing_46 lf_RX8_38 ?_
      have e19 : s 0 19 = σ 0 19 := by rw [hs 0 (by omega) (by omega) (by omega)]
      refine g_val e19 ?_
      refine g_icmp_eq (tgt := 66) h dX8_layPassing_49 (by decide) ⟨by omega, by omega⟩ hw.2.2.2.2.2.1 (fun c49 => ?_) (fun c49 => ?_)
      · refine g_iconst h dX8_layPassing_66 rfl ?_
        exact J67 _ (by first | exact bl1 (by unfold stM; rw [hfs.mp (by assumption)]; simp; omega) | exact bl0 (by unfold stM; first | (intro z; simp only [Bool.or_eq_false_iff] at z; first | exact absurd (hfs.mpr z.2) (by assumption) | (have := z.1; simp at this; omega))))
      · refine g_aload_n h dX8_layPassing_52 rfl ?_
        refine g_iload_n h dX8_layPassing_53 rfl ?_
        refine g_vI h (c_X8_struckOn _ _ (hs.wf hw) (by omega) (by omega)) (by decide) lm_RX8_165 (rvM rfl) dX8_layPassing_54 rfl (Nat.le_of_ble_eq_true rfl) (fun z54 s54 p54 => ?_)
        obtain ⟨e54, r54⟩ := p54; rw [hs.view, hs.dk] at e54; subst e54; replace r54 := Eq.symm r54; subst r54
        have hfs := qFs_st hw.1 hw.2.1 (dk := dkM σ) (b := o k)
        refine g_bipush h dX8_layPassing_57 (by decide) ?_
        refine g_icmp_ne (tgt := 66) h dX8_layPassing_59 (by decide) (qFs_rng hw.1 hw.2.1 _ _) ⟨by omega, by omega⟩ (fun c59 => ?_) (fun c59 => ?_)
        · refine g_iconst h dX8_layPassing_66 rfl ?_
          exact J67 _ (by first | exact bl1 (by unfold stM; rw [hfs.mp (by assumption)]; simp; omega) | exact bl0 (by unfold stM; first | (intro z; simp only [Bool.or_eq_false_iff] at z; first | exact absurd (hfs.mpr z.2) (by assumption) | (have := z.1; simp at this; omega))))
        · refine g_iconst h dX8_layPassing_62 rfl ?_
          refine g_goto (tgt := 67) h dX8_layPassing_63 (by decide) ?_
          exact J67 _ (by first | exact bl1 (by unfold stM; rw [hfs.mp (by assumption)]; simp; omega) | exact bl0 (by unfold stM; first | (intro z; simp only [Bool.or_eq_false_iff] at z; first | exact absurd (hfs.mpr z.2) (by assumption) | (have := z.1; simp at this; omega))))
set_option maxRecDepth 100000 in
set_option maxHeartbeats 2000000 in
theorem lp1_X8_layPassing {x : mX} {l : Launch} {D : va_G} {cs : mC} {ad : Int → Nat} {post : mS → Prop} (h : mOk x l M_X8_layPassing 3 (gM D cs ad)) (hq : rV x (gM D cs ad) post) {σ : mS} (hw : mWf σ) (hp : ∀ s : mS, mLd σ s (qPf (vM σ) (stM σ)) → post s) : ∀ (f : Nat) (k : Int) (s : mS), 0 ≤ k → k ≤ σ 0 9 → σ 0 9 - k < f → mSc σ s → qSr (vM σ) (σ 0 9) (s 11) → (∀ b : Int, 0 ≤ b → b < k → s 12 b = 0) → mG x 6 [(0, .ref (ad 0)), (1, mI k)] [] s := by
  intro f
  have hn0 : 0 ≤ σ 0 9 := hw.1.1
  have hn6 : σ 0 9 ≤ 6 := hw.1.2.1
  induction f with
  | zero => intro k s h0 h1 h2; omega
  | succ f ih =>
    intro k s h0 h1 h2 hs hso hz
    have e9 : s 0 9 = σ 0 9 := by rw [hs 0 (by omega) (by omega) (by omega)]
    refine g_iload_n h dX8_layPassing_6 rfl ?_
    refine g_aload_n h dX8_layPassing_7 rfl ?_
    refine gm_bills h dX8_layPassing_8 lf_RX8_72 ?_
    refine g_icmp_ge (tgt := 27) h dX8_layPassing_11 (by decide) (by first | exact hR _ _ | exact ⟨by omega, by omega⟩) (by first | exact hR _ _ | exact ⟨by omega, by omega⟩) (fun c11 => ?_) (fun c11 => ?_)
    · refine g_iconst h dX8_layPassing_27 rfl ?_
      refine g_istore_n h dX8_layPassing_28 (by decide) rfl ?_
      refine lp2_X8_layPassing h hq hw hso (fun s2 a b c => hp s2 ⟨a, ⟨fun i i0 i1 => by rw [b i i0 i1]; exact hso.1 i i0 i1, fun i j i0 ij j1 => by rw [b i i0 (by omega), b j (by omega) j1]; exact hso.2.1 i j i0 ij j1, fun q q0 q1 => by
          obtain ⟨i, i0, i1, e⟩ := hso.2.2 q q0 q1
          exact ⟨i, i0, i1, by rw [b i i0 i1]; exact e⟩⟩, fun q q0 q1 => by
          rw [c q q0 q1]
          unfold qPf
          rw [qPk_cong (τ := vM σ) (o := s 11) (o' := qO (vM σ)) (st := stM σ) (st' := stM σ) (σ 0 9).toNat (fun i i0 i1 => qO_un hw.1.1 hso i0 (show i < σ 0 9 by omega)) (fun _ _ _ => rfl)]
          rfl⟩) 8 0 s (by omega) (by omega) (by omega) hs (fun i _ _ => rfl) (fun b b0 b1 => by
          rw [hz b b0 (by omega)]
          exact bl0 (fun z => by cases z))
    · refine g_aload_n h dX8_layPassing_14 rfl ?_
      refine gm_doesPass h dX8_layPassing_15 lf_RX8_48 ?_
      refine g_iload_n h dX8_layPassing_18 rfl ?_
      refine g_iconst h dX8_layPassing_19 rfl ?_
      refine sm_doesPass h dX8_layPassing_20 (by omega) (by omega) (by omega) ?_
      refine g_iinc h dX8_layPassing_21 rfl (by decide) rfl ?_
      refine g_goto (tgt := 6) h dX8_layPassing_24 (by decide) ?_
      refine ih (k + 1) (mUp s 12 k 0) (by omega) (by omega) (by omega) (hs.tr (mSc.up s _ _ (by omega))) (by rw [mUp_off s k 0 (show (11 : Int) ≠ 12 by omega)]; exact hso) (fun b b0 b1 => ?_)
      by_cases q : b = k
      · rw [q, mUp_eq]
      · rw [mUp_ne s 0 (Or.inr q)]; exact hz b b0 (by omega)
set_option maxRecDepth 100000 in
set_option maxHeartbeats 2000000 in
theorem c_X8_layPassing {l : Launch} {D : va_G} {cs : mC} {ad : Int → Nat} (σ : mS)  (hw : mWf σ) : CV l (gM D cs ad) M_X8_layPassing 3 [.ref (ad 0)] σ (fun s => mLd σ s (qPf (vM σ) (stM σ))) := by
  refine CV.of (by decide) (Nat.le_of_ble_eq_true rfl) (fun x h hq => ?_)
  show mG x 0 [(0, .ref (ad 0))] [] σ
  refine g_aload_n h dX8_layPassing_0 rfl ?_
  refine g_vV h (c_X8_layOrder _ hw.1) (by decide) lm_RX8_171 (rvM rfl) dX8_layPassing_1 rfl (Nat.le_of_ble_eq_true rfl) (fun s1 p1 => ?_)
  obtain ⟨q1, q2⟩ := p1
  have hn0 : 0 ≤ σ 0 9 := hw.1.1
  have hn6 : σ 0 9 ≤ 6 := hw.1.2.1
  refine g_iconst h dX8_layPassing_4 rfl ?_
  refine g_istore_n h dX8_layPassing_5 (by decide) rfl ?_
  exact lp1_X8_layPassing h hq hw (fun s q => q) 8 0 s1 (by omega) (by omega) (by omega) (q1.sc (by omega)) q2 (fun b b0 b1 => by omega)
end
section
/-! ===== what the calls answer, out of τ ===== -/
def qCl (τ : mS) (m : Int) : Bool := decide (τ 6 (qMd τ m) = 1)
def qSI (τ : mS) (b : Int) : Bool := qSt τ (qCl τ) b
noncomputable def qFI (τ : mS) (b d : Int) : Bool := qF τ (qSI τ) b d
/-- the readings are so -/
noncomputable def qAs (τ : mS) (st : Int → Bool) : Bool := !anyN (fun q => decide (¬ bl (qF τ st (τ 7 q) (τ 8 q) = true) = τ 9 q)) (τ 0 6).toNat
noncomputable def qAI (τ : mS) : Bool := qAs τ (qSI τ)
def sumN (f : Int → Int) : Nat → Int
  | 0 => 0
  | n + 1 => sumN f n + f (n : Int)
theorem sumN_cong {f g : Int → Int} : ∀ {n : Nat}, (∀ i : Int, 0 ≤ i → i < n → f i = g i) → sumN f n = sumN g n
  | 0, _ => rfl
  | n + 1, h => by
    unfold sumN
    rw [sumN_cong (fun i h0 h1 => h i h0 (by omega)), h (n : Int) (by omega) (by omega)]
theorem sumN_bd {f : Int → Int} {c : Int} (hc : 0 ≤ c) : ∀ {n : Nat}, (∀ i : Int, 0 ≤ i → i < n → 0 ≤ f i ∧ f i ≤ c) → 0 ≤ sumN f n ∧ sumN f n ≤ n * c
  | 0, _ => by simp [sumN]
  | n + 1, h => by
    have h1 := sumN_bd hc (n := n) (fun i h0 h1 => h i h0 (by omega))
    have h2 := h (n : Int) (by omega) (by omega)
    unfold sumN
    have e : ((n + 1 : Nat) : Int) * c = n * c + c := by
      rw [show ((n + 1 : Nat) : Int) = (n : Int) + 1 by omega, Int.add_mul, Int.one_mul]
    rw [e]
    omega
/-- what all but one hold together -/
noncomputable def qOh (τ : mS) (st : Int → Bool) (b : Int) : Int := sumN (fun d => cntN (fun a => qF τ st a d && !decide (a = b)) (τ 0 4).toNat) 110
/-- the first of the most -/
def lgM (f : Int → Int) : Nat → Int
  | 0 => -1
  | n + 1 => if lgM f n < f (n : Int) then f (n : Int) else lgM f n
def lgD (f : Int → Int) : Nat → Int
  | 0 => 0
  | n + 1 => if lgM f n < f (n : Int) then (n : Int) else lgD f n
/-- the best of the sets: the fewest, then the least -/
def pcN : Nat → Int := fun x => cntN (fun i => x.testBit i.toNat) 31
def byF (g : Nat → Bool) : Nat → Int
  | 0 => -9
  | n + 1 => if g n = true ∧ (byF g n = -9 ∨ pcN n < pcN (byF g n).toNat) then (n : Int) else byF g n
theorem byF_rng (g : Nat → Bool) : ∀ n : Nat, byF g n = -9 ∨ (0 ≤ byF g n ∧ byF g n < n)
  | 0 => Or.inl rfl
  | n + 1 => by
    have h := byF_rng g n
    unfold byF
    by_cases q : g n = true ∧ (byF g n = -9 ∨ pcN n < pcN (byF g n).toNat)
    · rw [if_pos q]; omega
    · rw [if_neg q]; omega
theorem byF_no {g : Nat → Bool} : ∀ {n : Nat}, byF g n = -9 → ∀ s : Nat, s < n → g s = false
  | 0, _, s, hs => by omega
  | n + 1, h, s, hs => by
    unfold byF at h
    by_cases q : g n = true ∧ (byF g n = -9 ∨ pcN n < pcN (byF g n).toNat)
    · rw [if_pos q] at h; omega
    · rw [if_neg q] at h
      by_cases e : s = n
      · subst e
        cases hg : g s with
        | false => rfl
        | true => exact absurd ⟨hg, Or.inl h⟩ q
      · exact byF_no h s (by omega)
theorem byF_yes {g : Nat → Bool} : ∀ {n : Nat}, ¬ byF g n = -9 → g (byF g n).toNat = true ∧ ∀ s : Nat, s < n → g s = true → pcN (byF g n).toNat < pcN s ∨ (pcN (byF g n).toNat = pcN s ∧ byF g n ≤ s)
  | 0, h => absurd rfl h
  | n + 1, h => by
    have hr := byF_rng g n
    unfold byF at h
    rw [byF]
    by_cases q : g n = true ∧ (byF g n = -9 ∨ pcN n < pcN (byF g n).toNat)
    · rw [if_pos q]
      refine ⟨by rw [Int.toNat_natCast]; exact q.1, fun s hs hg => ?_⟩
      rw [Int.toNat_natCast]
      by_cases e : s = n
      · subst e; exact Or.inr ⟨rfl, by omega⟩
      · rcases q.2 with q2 | q2
        · rw [byF_no q2 s (by omega)] at hg; cases hg
        · by_cases hz : byF g n = -9
          · rw [byF_no hz s (by omega)] at hg; cases hg
          · have := (byF_yes hz).2 s (by omega) hg
            omega
    · rw [if_neg q] at h ⊢
      obtain ⟨y1, y2⟩ := byF_yes h
      refine ⟨y1, fun s hs hg => ?_⟩
      by_cases e : s = n
      · subst e
        have : ¬ pcN s < pcN (byF g s).toNat := fun z => q ⟨hg, Or.inr z⟩
        omega
      · exact y2 s (by omega) hg
theorem byF_cong {g g' : Nat → Bool} : ∀ {n : Nat}, (∀ s : Nat, s < n → g s = g' s) → byF g n = byF g' n
  | 0, _ => rfl
  | n + 1, h => by
    unfold byF
    rw [byF_cong (fun s hs => h s (by omega)), h n (by omega)]
/-- clouds to be bought: over all sets of the moons there are -/
noncomputable def qBg (τ : mS) (b d : Int) (s : Nat) : Bool := (!anyN (fun m => s.testBit m.toNat && qCl τ m) (qNm τ).toNat) && qF τ (qSt τ (fun m => s.testBit m.toNat || qCl τ m)) b d
noncomputable def qBy (τ : mS) (b d : Int) : Int := byF (qBg τ b d) (2 ^ (qNm τ).toNat)
/-- odds: how many of the sets -/
noncomputable def qOg (τ : mS) (b d : Int) (s : Nat) : Bool := qF τ (qSt τ (fun m => s.testBit m.toNat)) b d
def cntS (g : Nat → Bool) : Nat → Int
  | 0 => 0
  | n + 1 => cntS g n + (if g n then 1 else 0)
theorem cntS_bd (g : Nat → Bool) : ∀ n : Nat, 0 ≤ cntS g n ∧ cntS g n ≤ n
  | 0 => by simp [cntS]
  | n + 1 => by
    have h := cntS_bd g n
    unfold cntS
    by_cases q : g n = true
    · rw [if_pos q]; omega
    · rw [if_neg q]; omega
noncomputable def qOn2 (τ : mS) (b d : Int) : Int := cntS (qOg τ b d) (2 ^ (qNm τ).toNat)
/-! one number of τ is another -/
theorem qSt_cong {τ : mS} {dk dk' : Int → Bool} {b : Int} (h : ∀ m : Int, 0 ≤ m → m < 11 → qWt τ b m = true → dk m = dk' m) : qSt τ dk b = qSt τ dk' b := by
  unfold qSt
  refine anyN_cong (fun m h0 h1 => ?_)
  cases hw : qWt τ b m with
  | false => rfl
  | true => rw [h m h0 h1 hw]
theorem qF_cong {τ : mS} (h : 0 ≤ τ 0 4) {st st' : Int → Bool} (hs : ∀ b : Int, 0 ≤ b → b < τ 0 4 → st b = st' b) (b d : Int) : qF τ st b d = qF τ st' b d := by
  unfold qF
  rw [qPf_cong h hs]
/-- the whole is well formed -/
def qW (τ : mS) : Prop := qWf τ ∧ (∀ d : Int, 0 ≤ d → d < 110 → τ 6 d = 0 ∨ τ 6 d = 1) ∧ 0 ≤ τ 0 6 ∧ τ 0 6 ≤ 8 ∧ (∀ q : Int, 0 ≤ q → q < τ 0 6 → 0 ≤ τ 7 q ∧ τ 7 q < τ 0 4 ∧ 0 ≤ τ 8 q ∧ τ 8 q ≤ 109 ∧ (τ 9 q = 0 ∨ τ 9 q = 1)) ∧ ∀ k : Int, 0 ≤ k → k < 4 → -1 ≤ τ 10 k ∧ τ 10 k ≤ 2 ∧ 0 ≤ τ 11 k ∧ τ 11 k ≤ 60 ∧ ∀ i : Int, 0 ≤ i → i < 60 → i32 (τ (12 + k) i)
theorem qWf_span {τ : mS} (h : qWf τ) {v : Int} (h0 : 0 ≤ v) (h1 : v ≤ 9) : qWf (mUp τ 0 3 v) := by
  obtain ⟨a1, a2, a3, a4, a5, a6, a7, a8⟩ := h
  have e : ∀ a b : Int, ¬ (a = 0 ∧ b = 3) → mUp τ 0 3 v a b = τ a b := fun a b q => mUp_ne τ v (by omega)
  unfold qWf
  rw [mUp_eq, e 0 4 (by omega), e 0 0 (by omega), e 0 1 (by omega), e 0 2 (by omega)]
  refine ⟨a1, a2, a3, a4, h0, h1, a7, fun b b0 b1 => ?_⟩
  rw [e 1 b (by omega), e 2 b (by omega), e 3 b (by omega), e 4 b (by omega), e 5 b (by omega)]
  exact a8 b b0 b1
theorem qWf_orig {τ : mS} (h : qWf τ) {v : Int} (h0 : 0 ≤ v) (h1 : v ≤ 29) : qWf (mUp τ 0 0 v) := by
  obtain ⟨a1, a2, a3, a4, a5, a6, a7, a8⟩ := h
  have e : ∀ a b : Int, ¬ (a = 0 ∧ b = 0) → mUp τ 0 0 v a b = τ a b := fun a b q => mUp_ne τ v (by omega)
  unfold qWf
  rw [mUp_eq, e 0 4 (by omega), e 0 3 (by omega), e 0 1 (by omega), e 0 2 (by omega)]
  refine ⟨a1, a2, h0, h1, a5, a6, a7, fun b b0 b1 => ?_⟩
  rw [e 1 b (by omega), e 2 b (by omega), e 3 b (by omega), e 4 b (by omega), e 5 b (by omega)]
  exact a8 b b0 b1
theorem qWf_day {τ : mS} (h : qWf τ) {k v : Int} (h0 : 0 ≤ v) (h1 : v ≤ 99) : qWf (mUp τ 2 k v) := by
  obtain ⟨a1, a2, a3, a4, a5, a6, a7, a8⟩ := h
  have e : ∀ a b : Int, ¬ a = 2 → mUp τ 2 k v a b = τ a b := fun a b q => mUp_ne τ v (by omega)
  unfold qWf
  rw [e 0 4 (by omega), e 0 0 (by omega), e 0 3 (by omega), e 0 1 (by omega), e 0 2 (by omega)]
  refine ⟨a1, a2, a3, a4, a5, a6, a7, fun b b0 b1 => ?_⟩
  rw [e 1 b (by omega), e 3 b (by omega), e 4 b (by omega), e 5 b (by omega)]
  have := a8 b b0 b1
  by_cases q : b = k
  · rw [q, mUp_eq, ← q]; omega
  · rw [mUp_ne τ v (Or.inr q)]; exact this
theorem qWf_kind {τ : mS} (h : qWf τ) {k v : Int} (h0 : 0 ≤ v) (h1 : v ≤ 2) : qWf (mUp τ 1 k v) := by
  obtain ⟨a1, a2, a3, a4, a5, a6, a7, a8⟩ := h
  have e : ∀ a b : Int, ¬ a = 1 → mUp τ 1 k v a b = τ a b := fun a b q => mUp_ne τ v (by omega)
  unfold qWf
  rw [e 0 4 (by omega), e 0 0 (by omega), e 0 3 (by omega), e 0 1 (by omega), e 0 2 (by omega)]
  refine ⟨a1, a2, a3, a4, a5, a6, a7, fun b b0 b1 => ?_⟩
  rw [e 2 b (by omega), e 3 b (by omega), e 4 b (by omega), e 5 b (by omega)]
  have := a8 b b0 b1
  by_cases q : b = k
  · rw [q, mUp_eq, ← q]; omega
  · rw [mUp_ne τ v (Or.inr q)]; exact this
theorem mUp_up (σ : mS) (k j v w : Int) : mUp (mUp σ k j v) k j w = mUp σ k j w := by
  funext a b
  unfold mUp
  by_cases q : a = k ∧ b = j
  · rw [if_pos q, if_pos q]
  · rw [if_neg q, if_neg q, if_neg q]
theorem mUp_id (σ : mS) (k j : Int) : mUp σ k j (σ k j) = σ := by
  funext a b
  unfold mUp
  by_cases q : a = k ∧ b = j
  · rw [if_pos q, q.1, q.2]
  · rw [if_neg q]
/-! the reference's state: one number is another -/
theorem vM_up_b (σ : mS) {r b : Int} (v : Int) (r0 : 4 ≤ r) (r1 : r ≤ 8) (h0 : 0 ≤ b) (h1 : b < 6) : vM (mUp σ r b v) = mUp (vM σ) (r - 3) b v := by
  funext a c
  have hr : ∀ q : Int, ¬ q = r → mUp σ r b v q = σ q := fun q hq => mUp_off σ b v hq
  by_cases ha : 1 ≤ a ∧ a < 6
  · by_cases hc : 0 ≤ c ∧ c < 6
    · rw [vM_b _ ha.1 ha.2 hc.1 hc.2]
      by_cases q : a = r - 3 ∧ c = b
      · rw [show a + 3 = r by omega, q.2, mUp_eq, q.1, mUp_eq]
      · rw [mUp_ne σ v (by omega), mUp_ne (vM σ) v (by omega), vM_b _ ha.1 ha.2 hc.1 hc.2]
    · rw [mUp_ne (vM σ) v (by omega)]
      unfold vM
      rw [if_neg (by omega), if_neg (by omega), if_pos ha.2, if_neg hc, if_neg (by omega), if_neg (by omega), if_pos ha.2, if_neg hc]
  · rw [mUp_ne (vM σ) v (by omega)]
    unfold vM
    rw [hr 0 (by omega), hr 9 (by omega), hr 1 (by omega), hr 2 (by omega), hr 3 (by omega)]
    by_cases a0 : a = 0
    · rw [if_pos a0, if_pos a0]
    · rw [if_neg a0, if_neg a0]
      by_cases a1 : a < 0
      · rw [if_pos a1, if_pos a1]
      · rw [if_neg a1, if_neg a1, if_neg (show ¬ a < 6 by omega), if_neg (show ¬ a < 6 by omega)]
        by_cases a3 : a = 6
        · rw [if_pos a3, if_pos a3]
        · rw [if_neg a3, if_neg a3]
          by_cases a4 : a < 10
          · rw [if_pos a4, if_pos a4, hr (a + 7) (by omega)]
          · rw [if_neg a4, if_neg a4]
theorem vM_up0 (σ : mS) (j c v : Int) (h : ∀ b : Int, vM (mUp σ 0 j v) 0 b = if b = c then v else vM σ 0 b) : vM (mUp σ 0 j v) = mUp (vM σ) 0 c v := by
  funext a b
  have hr : ∀ q : Int, ¬ q = 0 → mUp σ 0 j v q = σ q := fun q hq => mUp_off σ j v hq
  by_cases a0 : a = 0
  · subst a0
    rw [h b]
    unfold mUp
    simp
  · rw [mUp_ne (vM σ) v (Or.inl a0)]
    unfold vM
    rw [if_neg a0, if_neg a0, hr 9 (by omega), hr 1 (by omega), hr 2 (by omega), hr 3 (by omega)]
    by_cases a1 : a < 0
    · rw [if_pos a1, if_pos a1]
    · rw [if_neg a1, if_neg a1]
      by_cases a2 : a < 6
      · rw [if_pos a2, if_pos a2, hr (a + 3) (by omega)]
      · rw [if_neg a2, if_neg a2]
        by_cases a3 : a = 6
        · rw [if_pos a3, if_pos a3]
        · rw [if_neg a3, if_neg a3]
          by_cases a4 : a < 10
          · rw [if_pos a4, if_pos a4, hr (a + 7) (by omega)]
          · rw [if_neg a4, if_neg a4]
theorem vM_up_span (σ : mS) (v : Int) : vM (mUp σ 0 8 v) = mUp (vM σ) 0 3 v := vM_up0 σ 8 3 v (fun b => by simp only [vM, mUp]; simp; repeat' split <;> omega)
theorem vM_up_orig (σ : mS) (v : Int) : vM (mUp σ 0 5 v) = mUp (vM σ) 0 0 v := vM_up0 σ 5 0 v (fun b => by simp only [vM, mUp]; simp; repeat' split <;> omega)
theorem vM_up_fault (σ : mS) (v : Int) : vM (mUp σ 0 0 v) = mUp (vM σ) 0 8 v := vM_up0 σ 0 8 v (fun b => by simp only [vM, mUp]; simp; repeat' split <;> omega)
theorem vM_up_trace (σ : mS) (v : Int) : vM (mUp σ 0 1 v) = mUp (vM σ) 0 7 v := vM_up0 σ 1 7 v (fun b => by simp only [vM, mUp]; simp; repeat' split <;> omega)
theorem vM_up_nights (σ : mS) (v : Int) : vM (mUp σ 0 15 v) = mUp (vM σ) 0 5 v := vM_up0 σ 15 5 v (fun b => by simp only [vM, mUp]; simp; repeat' split <;> omega)
theorem vM_up_reads (σ : mS) (v : Int) : vM (mUp σ 0 30 v) = mUp (vM σ) 0 6 v := vM_up0 σ 30 6 v (fun b => by simp only [vM, mUp]; simp; repeat' split <;> omega)
/-- same but for the three rows and one number -/
def mSq (r j : Int) (σ s : mS) : Prop := (∀ k : Int, ¬ k = 11 → ¬ k = 12 → ¬ k = 13 → ¬ k = r → s k = σ k) ∧ ∀ i : Int, ¬ i = j → s r i = σ r i
theorem mSq.of {r j : Int} {σ s : mS} (hr : r < 11) (h : mSc σ s) : mSq r j σ s := ⟨fun k a b c _ => h k a b c, fun i _ => by rw [h r (by omega) (by omega) (by omega)]⟩
theorem mSq.sc {r j : Int} {σ s : mS} (hr : r < 11) (h : mSq r j σ s) (v : Int) : mSc (mUp σ r j v) (mUp s r j v) := by
  intro k a b c
  by_cases q : k = r
  · subst q
    funext i
    by_cases e : i = j
    · rw [e, mUp_eq, mUp_eq]
    · rw [mUp_ne s v (Or.inr e), mUp_ne σ v (Or.inr e)]; exact h.2 i e
  · rw [mUp_off s j v q, mUp_off σ j v q]; exact h.1 k a b c q
theorem mSq.next {r j v : Int} {σ s : mS} (hr : r < 11) (h : mSc (mUp σ r j v) s) : mSq r j σ s := ⟨fun k a b c q => (h k a b c).trans (mUp_off σ j v q), fun i q => by rw [h r (by omega) (by omega) (by omega)]; exact mUp_ne σ v (Or.inr q)⟩
theorem mSq.back {r j : Int} {σ s : mS} (hr : r < 11) (h : mSq r j σ s) : mSc σ (mUp s r j (σ r j)) := by
  have := h.sc hr (σ r j)
  rwa [mUp_id] at this
/-- idle: between the calls -/
def mIdl (σ : mS) : Prop := σ 0 17 = 0 ∧ σ 0 18 = 0 ∧ σ 0 19 = -9
theorem mIdl.st {σ : mS} (h : mIdl σ) (hw : qWf (vM σ)) (hn : 0 < σ 0 9) : ∀ b : Int, 0 ≤ b → b < vM σ 0 4 → stM σ b = qSI (vM σ) b := by
  intro b b0 b1
  obtain ⟨h1, h2, h3⟩ := h
  have h6 := hw.2.1
  unfold stM qSI
  have e : decide (b = σ 0 19) = false := by rw [h3]; simp; omega
  rw [e, Bool.false_or]
  refine qSt_cong (fun m m0 m1 hm => ?_)
  have g := qMd_rng hw hn m0 (show m ≤ 100 by omega)
  have g2 := qWt_in hw b0 (by omega) hm
  unfold dkM qCl
  rw [h1, h2, vM_cl σ g.2.2.1 (by omega)]
  simp
theorem mIdl.F {σ : mS} (h : mIdl σ) (hw : qWf (vM σ)) (hn : 0 < σ 0 9) (b d : Int) : qF (vM σ) (stM σ) b d = qFI (vM σ) b d := qF_cong hw.1 (h.st hw hn) b d
theorem mIdl.Pf {σ : mS} (h : mIdl σ) (hw : qWf (vM σ)) (hn : 0 < σ 0 9) : qPf (vM σ) (stM σ) = qPf (vM σ) (qSI (vM σ)) := qPf_cong hw.1 (h.st hw hn)
theorem mIdl.wf {σ : mS} (h : mIdl σ) (hw : qW (vM σ)) (hn : 0 < σ 0 9) : mWf σ := by
  obtain ⟨h1, h2, h3⟩ := h
  refine ⟨hw.1, hn, by rw [h1]; omega, by rw [h1]; omega, Or.inl h2, by rw [h3]; exact ⟨by omega, by omega⟩, fun d d0 d1 => ?_⟩
  have := hw.2.1 d d0 d1
  rwa [vM_cl σ d0 d1] at this
end
section
theorem ior0 {n : Nat} (hn : n ≤ 31) (p : Int → Bool) : iOr (setOf n p) 0 = setOf n p := by
  have := iOr_set hn p (fun _ => false)
  rw [set_zero.mpr (fun i _ _ => rfl)] at this
  simpa using this
theorem set_next {n : Nat} (hn : n < 31) (p : Int → Bool) {k : Int} (hk : k = n) {v : Int} (hv : v = if p k = true then iShl 1 k else 0) : iOr (setOf n p) v = setOf (k + 1).toNat p := by
  subst hk
  rw [show ((n : Int) + 1).toNat = n + 1 by omega]
  exact set_succ hn p (by rw [hv])
set_option maxRecDepth 100000 in
set_option maxHeartbeats 2000000 in
theorem lp_X8_forceNow {x : mX} {l : Launch} {D : va_G} {cs : mC} {ad : Int → Nat} {post : Int → mS → Prop} (h : mOk x l M_X8_forceNow 2 (gM D cs ad)) (hq : rI x (gM D cs ad) post) {σ s : mS} (hs : m1 13 σ s) (hn0 : 0 ≤ σ 0 9) (hn6 : σ 0 9 ≤ 6) {p : Int → Bool} (hF : ∀ b : Int, 0 ≤ b → b < σ 0 9 → s 13 b = bl (p b = true)) {d : Int} (hp : post (setOf (σ 0 9).toNat p) s) : ∀ (f : Nat) (k : Int), 0 ≤ k → k ≤ σ 0 9 → σ 0 9 - k < f → mG x 9 [(0, .ref (ad 0)), (1, mI d), (2, mI (setOf k.toNat p)), (3, mI k)] [] s := by
  intro f
  have e9 : s 0 9 = σ 0 9 := by rw [hs 0 (by omega)]
  induction f with
  | zero => intro k h0 h1 h2; omega
  | succ f ih =>
    intro k h0 h1 h2
    have J34 : ∀ v : Int, k < σ 0 9 → v = (if p k = true then iShl 1 k else 0) → mG x 34 [(0, .ref (ad 0)), (1, mI d), (2, mI (setOf k.toNat p)), (3, mI k)] [mI v, mI (setOf k.toNat p)] s := by
      intro v hk hv
      refine g_ior h dX8_forceNow_34 ?_
      refine g_istore_n h dX8_forceNow_35 (by decide) rfl ?_
      refine g_iinc h dX8_forceNow_36 rfl (by decide) rfl ?_
      refine g_goto (tgt := 9) h dX8_forceNow_39 (by decide) ?_
      refine g_lv (lv' := [(0, .ref (ad 0)), (1, mI d), (2, mI (iOr (setOf k.toNat p) v)), (3, mI (k + 1))]) rfl ?_
      rw [set_next (by omega) p (by omega) hv]
      exact ih (k + 1) (by omega) (by omega) (by omega)
    refine g_iload_n h dX8_forceNow_9 rfl ?_
    refine g_aload_n h dX8_forceNow_10 rfl ?_
    refine gm_bills h dX8_forceNow_11 lf_RX8_72 ?_
    refine g_icmp_ge (tgt := 42) h dX8_forceNow_14 (by decide) (by first | exact hR _ _ | exact ⟨by omega, by omega⟩) (by first | exact hR _ _ | exact ⟨by omega, by omega⟩) (fun c14 => ?_) (fun c14 => ?_)
    · refine g_iload_n h dX8_forceNow_42 rfl ?_
      refine g_iret h hq rfl dX8_forceNow_43 (by rw [show k.toNat = (σ 0 9).toNat by omega]; exact hp)
    · refine g_iload_n h dX8_forceNow_17 rfl ?_
      refine g_aload_n h dX8_forceNow_18 rfl ?_
      refine gm_inForce h dX8_forceNow_19 lf_RX8_51 ?_
      refine g_iload_n h dX8_forceNow_22 rfl ?_
      refine lm_inForce h dX8_forceNow_23 (by omega) (by omega) ?_
      refine g_val (hF k h0 (by omega)) ?_
      refine g_ifb_eq (tgt := 33) h dX8_forceNow_24 (by decide)  (fun c24 => ?_) (fun c24 => ?_)
      · refine g_iconst h dX8_forceNow_33 rfl ?_
        exact J34 _ (by omega) (by rw [if_neg c24])
      · refine g_iconst h dX8_forceNow_27 rfl ?_
        refine g_iload_n h dX8_forceNow_28 rfl ?_
        refine g_ishl h dX8_forceNow_29 ?_
        refine g_goto (tgt := 34) h dX8_forceNow_30 (by decide) ?_
        exact J34 _ (by omega) (by rw [if_pos c24])
set_option maxRecDepth 100000 in
set_option maxHeartbeats 2000000 in
theorem c_X8_forceNow {l : Launch} {D : va_G} {cs : mC} {ad : Int → Nat} (σ : mS) (Q : Int → Bool) (d : Int) (hw : qWf (vM σ)) (hord : qSr (vM σ) (σ 0 9) (σ 11)) (hP : ∀ b : Int, 0 ≤ b → b < σ 0 9 → σ 12 b = bl (Q b = true)) (d0 : 0 ≤ d) (d1 : d < 200) : CI l (gM D cs ad) M_X8_forceNow 2 [.ref (ad 0), mI d] σ (fun z s => z = setOf (σ 0 9).toNat (fun b => qIn (vM σ) Q 6 b d) ∧ m1 13 σ s) := by
  refine CI.of (by decide) (Nat.le_of_ble_eq_true rfl) (fun x h hq => ?_)
  show mG x 0 [(0, .ref (ad 0)), (1, mI d)] [] σ
  refine g_aload_n h dX8_forceNow_0 rfl ?_
  refine g_iload_n h dX8_forceNow_1 rfl ?_
  refine g_vV h (c_X8_layForce σ _ hw hord (fun b b0 b1 => by rw [hP b b0 b1]; exact bl_01 _) d0 d1) (by decide) lm_RX8_174 (rvM rfl) dX8_forceNow_2 rfl (Nat.le_of_ble_eq_true rfl) (fun s2 p2 => ?_)
  obtain ⟨hs, hF⟩ := p2
  have hn0 : 0 ≤ σ 0 9 := hw.1
  have hn6 : σ 0 9 ≤ 6 := hw.2.1
  have hF2 : ∀ b : Int, 0 ≤ b → b < σ 0 9 → s2 13 b = bl (qIn (vM σ) Q 6 b d = true) := fun b b0 b1 => by
    rw [hF b b0 b1, qIn_cong (τ := vM σ) (P := fun k => decide (σ 12 k = 1)) (Q := Q) (fun a a0 a1 => by
      have := hP a a0 a1
      cases hz : Q a with
      | true => rw [hz] at this; rw [this, ← bl1 rfl]; rfl
      | false => rw [hz] at this; rw [this, ← bl0 (by decide)]; rfl) d 6 b b0 b1]
  refine g_iconst h dX8_forceNow_5 rfl ?_
  refine g_istore_n h dX8_forceNow_6 (by decide) rfl ?_
  refine g_iconst h dX8_forceNow_7 rfl ?_
  refine g_istore_n h dX8_forceNow_8 (by decide) rfl ?_
  exact lp_X8_forceNow h hq hs hn0 hn6 hF2 ⟨rfl, hs⟩ 8 0 (by omega) (by omega) (by omega)
set_option maxRecDepth 100000 in
set_option maxHeartbeats 2000000 in
theorem c_X8_forceOn {l : Launch} {D : va_G} {cs : mC} {ad : Int → Nat} (σ : mS) (d : Int) (hw : mWf σ) (d0 : 0 ≤ d) (d1 : d < 200) : CI l (gM D cs ad) M_X8_forceOn 4 [.ref (ad 0), mI d] σ (fun z s => z = setOf (σ 0 9).toNat (fun b => qF (vM σ) (stM σ) b d) ∧ mSc σ s) := by
  refine CI.of (by decide) (Nat.le_of_ble_eq_true rfl) (fun x h hq => ?_)
  show mG x 0 [(0, .ref (ad 0)), (1, mI d)] [] σ
  refine g_aload_n h dX8_forceOn_0 rfl ?_
  refine g_vV h (c_X8_layPassing σ hw) (by decide) lm_RX8_178 (rvM rfl) dX8_forceOn_1 rfl (Nat.le_of_ble_eq_true rfl) (fun s1 p1 => ?_)
  obtain ⟨q1, q2, q3⟩ := p1
  have e9 : s1 0 9 = σ 0 9 := by rw [q1 0 (by omega) (by omega) (by omega)]
  refine g_aload_n h dX8_forceOn_4 rfl ?_
  refine g_iload_n h dX8_forceOn_5 rfl ?_
  refine g_vI h (c_X8_forceNow s1 (qPf (vM σ) (stM σ)) _ (by rw [q1.view]; exact hw.1) (by rw [q1.view, e9]; exact q2) (by rw [e9]; exact q3) d0 d1) (by decide) lm_RX8_181 (rvM rfl) dX8_forceOn_6 rfl (Nat.le_of_ble_eq_true rfl) (fun z6 s6 p6 => ?_)
  obtain ⟨e6, r6⟩ := p6
  rw [q1.view, e9] at e6
  refine g_iret h hq rfl dX8_forceOn_9 ⟨e6, q1.tr (r6.sc (by omega))⟩
theorem cnt_next (p : Int → Bool) {k : Int} (h0 : 0 ≤ k) : cntN p k.toNat + bl (p k = true) = cntN p (k + 1).toNat := by
  rw [show (k + 1).toNat = k.toNat + 1 by omega]
  show _ = cntN p k.toNat + (if p ((k.toNat : Nat) : Int) then 1 else 0)
  rw [Int.toNat_of_nonneg h0]
  rfl
set_option maxRecDepth 100000 in
set_option maxHeartbeats 2000000 in
theorem lp_X8_holdsNow {x : mX} {l : Launch} {D : va_G} {cs : mC} {ad : Int → Nat} {post : Int → mS → Prop} (h : mOk x l M_X8_holdsNow 4 (gM D cs ad)) (hq : rI x (gM D cs ad) post) {σ : mS} (hw : mWf σ) {b : Int} (b0 : 0 ≤ b) (b1 : b < σ 0 9) (hp : ∀ s : mS, mSc σ s → post (cntN (fun d => qF (vM σ) (stM σ) b d) 110) s) : ∀ (f : Nat) (k : Int) (s : mS), 0 ≤ k → k ≤ 110 → 110 - k < f → mLd σ s (qPf (vM σ) (stM σ)) → mG x 8 [(0, .ref (ad 0)), (1, mI b), (2, mI (cntN (fun d => qF (vM σ) (stM σ) b d) k.toNat)), (3, mI k)] [] s := by
  intro f
  have hn6 : σ 0 9 ≤ 6 := hw.1.2.1
  induction f with
  | zero => intro k s h0 h1 h2; omega
  | succ f ih =>
    intro k s h0 h1 h2 hl
    have hl9 := hl
    obtain ⟨q1, q2, q3⟩ := hl
    have e9 : s 0 9 = σ 0 9 := by rw [q1 0 (by omega) (by omega) (by omega)]
    refine g_iload_n h dX8_holdsNow_8 rfl ?_
    refine g_bipush h dX8_holdsNow_9 (by decide) ?_
    refine g_icmp_ge (tgt := 32) h dX8_holdsNow_11 (by decide) (by first | exact hR _ _ | exact ⟨by omega, by omega⟩) (by first | exact hR _ _ | exact ⟨by omega, by omega⟩) (fun c11 => ?_) (fun c11 => ?_)
    · refine g_iload_n h dX8_holdsNow_32 rfl ?_
      refine g_iret h hq rfl dX8_holdsNow_33 (by rw [show k.toNat = 110 by omega]; exact hp s q1)
    · refine g_iload_n h dX8_holdsNow_14 rfl ?_
      refine g_aload_n h dX8_holdsNow_15 rfl ?_
      refine g_iload_n h dX8_holdsNow_16 rfl ?_
      refine g_vI h (c_X8_forceNow s (qPf (vM σ) (stM σ)) _ (by rw [q1.view]; exact hw.1) (by rw [q1.view, e9]; exact q2) (by rw [e9]; exact q3) h0 (by omega)) (by decide) lm_RX8_181 (rvM rfl) dX8_holdsNow_17 rfl (Nat.le_of_ble_eq_true rfl) (fun z17 s17 p17 => ?_)
      obtain ⟨e17, r17⟩ := p17
      rw [q1.view, e9] at e17
      subst e17
      refine g_iload_n h dX8_holdsNow_20 rfl ?_
      refine g_ishr h dX8_holdsNow_21 ?_
      refine g_iconst h dX8_holdsNow_22 rfl ?_
      refine g_iand h dX8_holdsNow_23 ?_
      refine g_val (b := bl (qF (vM σ) (stM σ) b k = true)) (set_rd (by omega) _ b0 (by omega)) ?_
      refine g_iadd h dX8_holdsNow_24 ?_
      refine g_val (cnt_next (fun d => qF (vM σ) (stM σ) b d) h0) ?_
      refine g_istore_n h dX8_holdsNow_25 (by decide) rfl ?_
      refine g_iinc h dX8_holdsNow_26 rfl (by decide) rfl ?_
      refine g_goto (tgt := 8) h dX8_holdsNow_29 (by decide) ?_
      exact ih (k + 1) s17 (by omega) (by omega) (by omega) ⟨q1.tr (r17.sc (by omega)), by rw [r17 11 (by omega)]; exact q2, fun a a0 a1 => by rw [r17 12 (by omega)]; exact q3 a a0 a1⟩
set_option maxRecDepth 100000 in
set_option maxHeartbeats 2000000 in
theorem c_X8_holdsNow {l : Launch} {D : va_G} {cs : mC} {ad : Int → Nat} (σ : mS) (b : Int) (hw : mWf σ) (b0 : 0 ≤ b) (b1 : b < σ 0 9) : CI l (gM D cs ad) M_X8_holdsNow 4 [.ref (ad 0), mI b] σ (fun z s => z = cntN (fun d => qF (vM σ) (stM σ) b d) 110 ∧ mSc σ s) := by
  refine CI.of (by decide) (Nat.le_of_ble_eq_true rfl) (fun x h hq => ?_)
  show mG x 0 [(0, .ref (ad 0)), (1, mI b)] [] σ
  refine g_aload_n h dX8_holdsNow_0 rfl ?_
  refine g_vV h (c_X8_layPassing σ hw) (by decide) lm_RX8_178 (rvM rfl) dX8_holdsNow_1 rfl (Nat.le_of_ble_eq_true rfl) (fun s1 p1 => ?_)
  skip
  refine g_iconst h dX8_holdsNow_4 rfl ?_
  refine g_istore_n h dX8_holdsNow_5 (by decide) rfl ?_
  refine g_iconst h dX8_holdsNow_6 rfl ?_
  refine g_istore_n h dX8_holdsNow_7 (by decide) rfl ?_
  exact lp_X8_holdsNow h hq hw b0 b1 (fun s q => ⟨rfl, q⟩) 111 0 s1 (by omega) (by omega) (by omega) p1
theorem cnt_shift (p : Int → Bool) : ∀ n : Nat, cntN p (n + 1) = bl (p 0 = true) + cntN (fun i => p (i + 1)) n
  | 0 => by
    show 0 + (if p ((0 : Nat) : Int) then 1 else 0) = bl (p 0 = true) + 0
    rw [Int.add_zero, Int.zero_add]; rfl
  | n + 1 => by
    have h := cnt_shift p n
    show cntN p (n + 1) + (if p ((n + 1 : Nat) : Int) then 1 else 0) = bl (p 0 = true) + (cntN (fun i => p (i + 1)) n + (if p ((n : Int) + 1) then 1 else 0))
    rw [h, show ((n + 1 : Nat) : Int) = (n : Int) + 1 by omega]
    omega
theorem cnt_0 : ∀ {n : Nat} {p : Int → Bool}, (∀ i : Int, 0 ≤ i → i < n → p i = false) → cntN p n = 0
  | 0, _, _ => rfl
  | n + 1, p, h => by
    unfold cntN
    rw [cnt_0 (fun i h0 h1 => h i h0 (by omega)), h (n : Int) (by omega) (by omega)]
    rfl
theorem cnt_more (p : Int → Bool) (n : Nat) : ∀ m : Nat, (∀ i : Int, n ≤ i → p i = false) → cntN p (n + m) = cntN p n
  | 0, _ => rfl
  | m + 1, h => by
    show cntN p (n + m) + (if p ((n + m : Nat) : Int) then 1 else 0) = _
    rw [cnt_more p n m h, h ((n + m : Nat) : Int) (by omega)]
    simp
/-- how many bits from the lowest m on -/
def pcM (x : Nat) (m : Nat) : Int := cntN (fun i => x.testBit i.toNat) m
theorem pcM_half (x : Nat) (m : Nat) : pcM x (m + 1) = (x % 2 : Nat) + pcM (x / 2) m := by
  unfold pcM
  rw [cnt_shift]
  have e : cntN (fun i => x.testBit (i + 1).toNat) m = cntN (fun i => (x / 2).testBit i.toNat) m := cntN_cong (fun i h0 h1 => by
    rw [show (i + 1).toNat = i.toNat + 1 by omega, Nat.testBit_succ])
  rw [e]
  have e2 : bl (x.testBit (0 : Int).toNat = true) = ((x % 2 : Nat) : Int) := by
    show bl (x.testBit 0 = true) = _
    rw [Nat.testBit_zero]
    unfold bl
    by_cases q : x % 2 = 1
    · rw [if_pos (by simp [q])]; omega
    · rw [if_neg (by simp [q])]; omega
  rw [e2]
theorem pc_set {n : Nat} (hn : n ≤ 31) (p : Int → Bool) : pcN (setN p n) = cntN p n := by
  unfold pcN
  have h := cnt_more (fun i => (setN p n).testBit i.toNat) n (31 - n) (fun i hi => by
    rw [setN_tb]
    have : decide (i.toNat < n) = false := by simp; omega
    rw [this]; rfl)
  rw [show n + (31 - n) = 31 by omega] at h
  rw [h]
  refine cntN_cong (fun i h0 h1 => ?_)
  rw [setN_tb, Int.toNat_of_nonneg h0]
  have : decide (i.toNat < n) = true := by simp; omega
  rw [this]; rfl
theorem and1 {x : Nat} (hx : x < 2 ^ 31) : iAnd (x : Int) 1 = ((x % 2 : Nat) : Int) := by
  have e : ((1 : Nat) : Int) = 1 := rfl
  rw [← e]
  refine iAnd_nat (by omega) (fun i _ => ?_)
  cases i with
  | zero => simp [Nat.testBit_zero]
  | succ i =>
    rw [Nat.testBit_succ, Nat.testBit_succ, Nat.testBit_succ]
    have : x % 2 / 2 = 0 := by omega
    rw [this]
    simp
theorem shr1 {x : Nat} (hx : x < 2 ^ 31) : iShr (x : Int) 1 = ((x / 2 : Nat) : Int) := by
  have ex : Int32.ofInt (x : Int) = nI x := Int32.ofInt_eq_ofNat
  have e1 : Int32.ofInt 1 = nI 1 := by decide
  unfold iShr
  rw [ex, e1, pk_shrN hx _ 1 (s_l9 1 (by omega)), nI_toInt (by omega), Nat.pow_one]
set_option maxRecDepth 100000 in
set_option maxHeartbeats 2000000 in
theorem lp_X8_size {x : mX} {l : Launch} {D : va_G} {cs : mC} {ad : Int → Nat} {post : Int → mS → Prop} (h : mOk x l M_X8_size 0 (gM D cs ad)) (hq : rI x (gM D cs ad) post) {σ : mS} {x0 : Int} {r : Int} (hp : post r σ) : ∀ (f : Nat) (y : Nat) (a : Int), y < 2 ^ f → f ≤ 31 → a + pcM y f = r → mG x 4 [(0, mI x0), (1, mI a), (2, mI (y : Int))] [] σ := by
  intro f
  induction f with
  | zero =>
    intro y a hy hf ha
    have hy0 : y = 0 := by simpa using hy
    subst hy0
    refine g_iload_n h dX8_size_4 rfl ?_
    refine g_if_le (tgt := 21) h dX8_size_5 (by decide) ⟨by omega, by omega⟩ (fun c => ?_) (fun c => ?_)
    · refine g_iload_n h dX8_size_21 rfl ?_
      exact g_iret h hq rfl dX8_size_22 (by
        have e : a = r := by rw [← ha]; exact (Int.add_zero a).symm
        rw [e]; exact hp)
    · exact absurd (Int.le_refl 0) c
  | succ f ih =>
    intro y a hy hf ha
    have hy31 : y < 2 ^ 31 := Nat.lt_of_lt_of_le hy (Nat.pow_le_pow_right (by omega) hf)
    refine g_iload_n h dX8_size_4 rfl ?_
    refine g_if_le (tgt := 21) h dX8_size_5 (by decide) ⟨by omega, by omega⟩ (fun c5 => ?_) (fun c5 => ?_)
    · refine g_iload_n h dX8_size_21 rfl ?_
      refine g_iret h hq rfl dX8_size_22 (by
      have hy0 : y = 0 := by omega
      subst hy0
      have e : pcM 0 (f + 1) = 0 := cnt_0 (fun i _ _ => by simp)
      rw [e, Int.add_zero] at ha
      rw [ha]; exact hp)
    · refine g_iload_n h dX8_size_8 rfl ?_
      refine g_iload_n h dX8_size_9 rfl ?_
      refine g_iconst h dX8_size_10 rfl ?_
      refine g_iand h dX8_size_11 ?_
      refine g_val (and1 hy31) ?_
      refine g_iadd h dX8_size_12 ?_
      refine g_istore_n h dX8_size_13 (by decide) rfl ?_
      refine g_iload_n h dX8_size_14 rfl ?_
      refine g_iconst h dX8_size_15 rfl ?_
      refine g_ishr h dX8_size_16 ?_
      refine g_val (shr1 hy31) ?_
      refine g_istore_n h dX8_size_17 (by decide) rfl ?_
      refine g_goto (tgt := 4) h dX8_size_18 (by decide) ?_
      refine ih (y / 2) (a + ((y % 2 : Nat) : Int)) (by rw [Nat.pow_succ] at hy; omega) (by omega) ?_
      rw [← ha, pcM_half y f]
      omega
set_option maxRecDepth 100000 in
set_option maxHeartbeats 2000000 in
theorem c_X8_size {l : Launch} {D : va_G} {cs : mC} {ad : Int → Nat} (σ : mS) (y : Nat) (hy : y < 2 ^ 31) : CI l (gM D cs ad) M_X8_size 0 [mI (y : Int)] σ (fun z s => z = pcN y ∧ s = σ) := by
  refine CI.of (by decide) (Nat.le_of_ble_eq_true rfl) (fun x h hq => ?_)
  show mG x 0 [(0, mI (y : Int))] [] σ
  refine g_iconst h dX8_size_0 rfl ?_
  refine g_istore_n h dX8_size_1 (by decide) rfl ?_
  refine g_iload_n h dX8_size_2 rfl ?_
  refine g_istore_n h dX8_size_3 (by decide) rfl ?_
  exact lp_X8_size h hq ⟨rfl, rfl⟩ 31 y 0 hy (by omega) (by rw [Int.zero_add]; rfl)
theorem vM_qCl {σ : mS} (hw : qWf (vM σ)) (hn : 0 < σ 0 9) {m : Int} (h0 : 0 ≤ m) (h1 : m ≤ 100) (h2 : qMd (vM σ) m < 110) : qCl (vM σ) m = decide (σ 9 (qMd (vM σ) m) = 1) := by
  have g := qMd_rng hw hn h0 h1
  unfold qCl
  rw [vM_cl σ g.2.2.1 h2]
set_option maxRecDepth 100000 in
set_option maxHeartbeats 2000000 in
theorem lp_X8_darkMoons {x : mX} {l : Launch} {D : va_G} {cs : mC} {ad : Int → Nat} {post : Int → mS → Prop} (h : mOk x l M_X8_darkMoons 1 (gM D cs ad)) (hq : rI x (gM D cs ad) post) {σ : mS} (hw : qWf (vM σ)) (hn : 0 < σ 0 9) (hcl : ∀ d : Int, 0 ≤ d → d < 110 → σ 9 d = 0 ∨ σ 9 d = 1) (hp : post (setOf (qNm (vM σ)).toNat (qCl (vM σ))) σ) : ∀ (f : Nat) (k : Int), 0 ≤ k → k ≤ qNm (vM σ) → qNm (vM σ) - k < f → mG x 4 [(0, .ref (ad 0)), (1, mI (setOf k.toNat (qCl (vM σ)))), (2, mI k)] [] σ := by
  intro f
  obtain ⟨q0, q1, q2, q3⟩ := qNm_sp hw hn
  induction f with
  | zero => intro k h0 h1 h2; omega
  | succ f ih =>
    intro k h0 h1 h2
    have g := qMd_rng hw hn h0 (show k ≤ 100 by omega)
    have J35 : ∀ v : Int, k < qNm (vM σ) → v = (if qCl (vM σ) k = true then iShl 1 k else 0) → mG x 35 [(0, .ref (ad 0)), (1, mI (setOf k.toNat (qCl (vM σ)))), (2, mI k)] [mI v, mI (setOf k.toNat (qCl (vM σ)))] σ := by
      intro v hk hv
      refine g_ior h dX8_darkMoons_35 ?_
      refine g_istore_n h dX8_darkMoons_36 (by decide) rfl ?_
      refine g_iinc h dX8_darkMoons_37 rfl (by decide) rfl ?_
      refine g_goto (tgt := 4) h dX8_darkMoons_40 (by decide) ?_
      refine g_lv (lv' := [(0, .ref (ad 0)), (1, mI (iOr (setOf k.toNat (qCl (vM σ))) v)), (2, mI (k + 1))]) rfl ?_
      rw [set_next (by omega) (qCl (vM σ)) (by omega) hv]
      exact ih (k + 1) (by omega) (by omega) (by omega)
    refine g_aload_n h dX8_darkMoons_4 rfl ?_
    refine g_iload_n h dX8_darkMoons_5 rfl ?_
    refine g_vI h (c_moonDay _ _ hw hn (by omega) (by omega)) (by decide) lm_RX8_149 (rvM rfl) dX8_darkMoons_6 rfl (Nat.le_of_ble_eq_true rfl) (fun z6 s6 p6 => ?_)
    obtain ⟨e6, r6⟩ := p6; subst e6; replace r6 := Eq.symm r6; subst r6
    refine g_bipush h dX8_darkMoons_9 (by decide) ?_
    refine g_icmp_ge (tgt := 43) h dX8_darkMoons_11 (by decide) (by first | exact hR _ _ | exact ⟨by omega, by omega⟩) (by first | exact hR _ _ | exact ⟨by omega, by omega⟩) (fun c11 => ?_) (fun c11 => ?_)
    · have hk : k = qNm (vM σ) := by
        rcases Int.lt_or_le k (qNm (vM σ)) with q | q
        · have := q2 k h0 q; omega
        · omega
      refine g_iload_n h dX8_darkMoons_43 rfl ?_
      refine g_iret h hq rfl dX8_darkMoons_44 (by rw [hk]; exact hp)
    · have hk : k < qNm (vM σ) := by
        rcases Int.lt_or_le k (qNm (vM σ)) with q | q
        · exact q
        · have := q3 k q; omega
      have hc9 := hcl _ g.2.2.1 (q2 k h0 hk)
      have ec := vM_qCl hw hn h0 (show k ≤ 100 by omega) (q2 k h0 hk)
      refine g_iload_n h dX8_darkMoons_14 rfl ?_
      refine g_aload_n h dX8_darkMoons_15 rfl ?_
      refine gm_isClouded h dX8_darkMoons_16 lf_RX8_34 ?_
      refine g_aload_n h dX8_darkMoons_19 rfl ?_
      refine g_iload_n h dX8_darkMoons_20 rfl ?_
      refine g_vI h (c_moonDay _ _ hw hn (by omega) (by omega)) (by decide) lm_RX8_149 (rvM rfl) dX8_darkMoons_21 rfl (Nat.le_of_ble_eq_true rfl) (fun z21 s21 p21 => ?_)
      obtain ⟨e21, r21⟩ := p21; subst e21; replace r21 := Eq.symm r21; subst r21
      refine lm_isClouded h dX8_darkMoons_24 g.2.2.1 (q2 k h0 hk) ?_
      refine g_if_eq (tgt := 34) h dX8_darkMoons_25 (by decide) ⟨by omega, by omega⟩ (fun c25 => ?_) (fun c25 => ?_)
      · refine g_iconst h dX8_darkMoons_34 rfl ?_
        exact J35 _ hk (by rw [ec, if_neg (by simp; omega)])
      · refine g_iconst h dX8_darkMoons_28 rfl ?_
        refine g_iload_n h dX8_darkMoons_29 rfl ?_
        refine g_ishl h dX8_darkMoons_30 ?_
        refine g_goto (tgt := 35) h dX8_darkMoons_31 (by decide) ?_
        exact J35 _ hk (by rw [ec, if_pos (by simp; omega)])
set_option maxRecDepth 100000 in
set_option maxHeartbeats 2000000 in
theorem c_X8_darkMoons {l : Launch} {D : va_G} {cs : mC} {ad : Int → Nat} (σ : mS)  (hw : qWf (vM σ)) (hn : 0 < σ 0 9) (hcl : ∀ d : Int, 0 ≤ d → d < 110 → σ 9 d = 0 ∨ σ 9 d = 1) : CI l (gM D cs ad) M_X8_darkMoons 1 [.ref (ad 0)] σ (fun z s => z = setOf (qNm (vM σ)).toNat (qCl (vM σ)) ∧ s = σ) := by
  refine CI.of (by decide) (Nat.le_of_ble_eq_true rfl) (fun x h hq => ?_)
  show mG x 0 [(0, .ref (ad 0))] [] σ
  refine g_iconst h dX8_darkMoons_0 rfl ?_
  refine g_istore_n h dX8_darkMoons_1 (by decide) rfl ?_
  refine g_iconst h dX8_darkMoons_2 rfl ?_
  refine g_istore_n h dX8_darkMoons_3 (by decide) rfl ?_
  have g := qNm_sp hw hn
  exact lp_X8_darkMoons h hq hw hn hcl ⟨rfl, rfl⟩ 13 0 (by omega) (by omega) (by omega)
theorem sum_next (p : Int → Int) {k : Int} (h0 : 0 ≤ k) : sumN p k.toNat + p k = sumN p (k + 1).toNat := by
  rw [show (k + 1).toNat = k.toNat + 1 by omega]
  show _ = sumN p k.toNat + p ((k.toNat : Nat) : Int)
  rw [Int.toNat_of_nonneg h0]
set_option maxRecDepth 100000 in
set_option maxHeartbeats 2000000 in
theorem lp_X8_othersHold {x : mX} {l : Launch} {D : va_G} {cs : mC} {ad : Int → Nat} {post : Int → mS → Prop} (h : mOk x l M_X8_othersHold 4 (gM D cs ad)) (hq : rI x (gM D cs ad) post) {σ : mS} (hw : mWf σ) {b : Int} (b0 : 0 ≤ b) (b1 : b < σ 0 9) (hp : ∀ s : mS, mSc σ s → post (sumN (fun d => cntN (fun a => qF (vM σ) (stM σ) a d && !decide (a = b)) (σ 0 9).toNat) 110) s) : ∀ (f : Nat) (k : Int) (s : mS), 0 ≤ k → k ≤ 110 → 110 - k < f → mLd σ s (qPf (vM σ) (stM σ)) → mG x 8 [(0, .ref (ad 0)), (1, mI b), (2, mI (sumN (fun d => cntN (fun a => qF (vM σ) (stM σ) a d && !decide (a = b)) (σ 0 9).toNat) k.toNat)), (3, mI k)] [] s := by
  intro f
  have hn6 : σ 0 9 ≤ 6 := hw.1.2.1
  induction f with
  | zero => intro k s h0 h1 h2; omega
  | succ f ih =>
    intro k s h0 h1 h2 hl
    have hl9 := hl
    obtain ⟨q1, q2, q3⟩ := hl
    have e9 : s 0 9 = σ 0 9 := by rw [q1 0 (by omega) (by omega) (by omega)]
    refine g_iload_n h dX8_othersHold_8 rfl ?_
    refine g_bipush h dX8_othersHold_9 (by decide) ?_
    refine g_icmp_ge (tgt := 37) h dX8_othersHold_11 (by decide) (by first | exact hR _ _ | exact ⟨by omega, by omega⟩) (by first | exact hR _ _ | exact ⟨by omega, by omega⟩) (fun c11 => ?_) (fun c11 => ?_)
    · refine g_iload_n h dX8_othersHold_37 rfl ?_
      refine g_iret h hq rfl dX8_othersHold_38 (by rw [show k.toNat = 110 by omega]; exact hp s q1)
    · refine g_iload_n h dX8_othersHold_14 rfl ?_
      refine g_aload_n h dX8_othersHold_15 rfl ?_
      refine g_iload_n h dX8_othersHold_16 rfl ?_
      refine g_vI h (c_X8_forceNow s (qPf (vM σ) (stM σ)) _ (by rw [q1.view]; exact hw.1) (by rw [q1.view, e9]; exact q2) (by rw [e9]; exact q3) h0 (by omega)) (by decide) lm_RX8_181 (rvM rfl) dX8_othersHold_17 rfl (Nat.le_of_ble_eq_true rfl) (fun z17 s17 p17 => ?_)
      obtain ⟨e17, r17⟩ := p17
      rw [q1.view, e9] at e17
      subst e17
      refine g_iconst h dX8_othersHold_20 rfl ?_
      refine g_iload_n h dX8_othersHold_21 rfl ?_
      refine g_ishl h dX8_othersHold_22 ?_
      refine g_iconst h dX8_othersHold_23 rfl ?_
      refine g_ixor h dX8_othersHold_24 ?_
      refine g_iand h dX8_othersHold_25 ?_
      refine g_val (b := ((setN (fun a => qF (vM σ) (stM σ) a k && !decide (a = b)) (σ 0 9).toNat : Nat) : Int)) (by rw [iShl_set (n := (σ 0 9).toNat) (by omega) b0 (by omega)]; exact iDif_set (by omega) _ _) ?_
      refine g_sI h (c_X8_size _ _ (Nat.lt_of_lt_of_le (setN_lt _ _) (Nat.pow_le_pow_right (by omega) (by omega)))) (by decide) lm_RX8_197 dX8_othersHold_26 rfl (Nat.le_of_ble_eq_true rfl) (fun z26 s26 p26 => ?_)
      obtain ⟨e26, r26⟩ := p26; rw [pc_set (by omega)] at e26; subst e26; replace r26 := Eq.symm r26; subst r26
      refine g_iadd h dX8_othersHold_29 ?_
      refine g_val (sum_next (fun d => cntN (fun a => qF (vM σ) (stM σ) a d && !decide (a = b)) (σ 0 9).toNat) h0) ?_
      refine g_istore_n h dX8_othersHold_30 (by decide) rfl ?_
      refine g_iinc h dX8_othersHold_31 rfl (by decide) rfl ?_
      refine g_goto (tgt := 8) h dX8_othersHold_34 (by decide) ?_
      exact ih (k + 1) s17 (by omega) (by omega) (by omega) ⟨q1.tr (r17.sc (by omega)), by rw [r17 11 (by omega)]; exact q2, fun a a0 a1 => by rw [r17 12 (by omega)]; exact q3 a a0 a1⟩
set_option maxRecDepth 100000 in
set_option maxHeartbeats 2000000 in
theorem c_X8_othersHold {l : Launch} {D : va_G} {cs : mC} {ad : Int → Nat} (σ : mS) (b : Int) (hw : mWf σ) (b0 : 0 ≤ b) (b1 : b < σ 0 9) : CI l (gM D cs ad) M_X8_othersHold 4 [.ref (ad 0), mI b] σ (fun z s => z = qOh (vM σ) (stM σ) b ∧ mSc σ s) := by
  refine CI.of (by decide) (Nat.le_of_ble_eq_true rfl) (fun x h hq => ?_)
  show mG x 0 [(0, .ref (ad 0)), (1, mI b)] [] σ
  refine g_aload_n h dX8_othersHold_0 rfl ?_
  refine g_vV h (c_X8_layPassing σ hw) (by decide) lm_RX8_178 (rvM rfl) dX8_othersHold_1 rfl (Nat.le_of_ble_eq_true rfl) (fun s1 p1 => ?_)
  skip
  refine g_iconst h dX8_othersHold_4 rfl ?_
  refine g_istore_n h dX8_othersHold_5 (by decide) rfl ?_
  refine g_iconst h dX8_othersHold_6 rfl ?_
  refine g_istore_n h dX8_othersHold_7 (by decide) rfl ?_
  exact lp_X8_othersHold h hq hw b0 b1 (fun s q => ⟨rfl, q⟩) 111 0 s1 (by omega) (by omega) (by omega) p1
/-- the readings of the reference, well formed -/
def mRd (σ : mS) : Prop := 0 ≤ σ 0 30 ∧ σ 0 30 ≤ 8 ∧ ∀ q : Int, 0 ≤ q → q < σ 0 30 → 0 ≤ σ 14 q ∧ σ 14 q < σ 0 9 ∧ 0 ≤ σ 15 q ∧ σ 15 q ≤ 109 ∧ (σ 16 q = 0 ∨ σ 16 q = 1)
set_option maxRecDepth 100000 in
set_option maxHeartbeats 2000000 in
theorem lp_X8_areSo {x : mX} {l : Launch} {D : va_G} {cs : mC} {ad : Int → Nat} {post : Int → mS → Prop} (h : mOk x l M_X8_areSo 4 (gM D cs ad)) (hq : rI x (gM D cs ad) post) {σ : mS} (hw : mWf σ) (hr : mRd σ) (hp : ∀ s : mS, mSc σ s → post (bl (qAs (vM σ) (stM σ) = true)) s) : ∀ (f : Nat) (k : Int) (s : mS), 0 ≤ k → k ≤ σ 0 30 → σ 0 30 - k < f → mLd σ s (qPf (vM σ) (stM σ)) → (∀ j : Int, 0 ≤ j → j < k → (fun q => decide (¬ bl (qF (vM σ) (stM σ) (vM σ 7 q) (vM σ 8 q) = true) = vM σ 9 q)) j = false) → mG x 6 [(0, .ref (ad 0)), (1, mI k)] [] s := by
  intro f
  have hn6 : σ 0 9 ≤ 6 := hw.1.2.1
  have hr0 := hr.1
  have hr8 := hr.2.1
  induction f with
  | zero => intro k s h0 h1 h2; omega
  | succ f ih =>
    intro k s h0 h1 h2 hl hj
    have hl9 := hl
    obtain ⟨q1, q2, q3⟩ := hl
    have e9 : s 0 9 = σ 0 9 := by rw [q1 0 (by omega) (by omega) (by omega)]
    have e30 : s 0 30 = σ 0 30 := by rw [q1 0 (by omega) (by omega) (by omega)]
    have e14 : s 14 = σ 14 := q1 14 (by omega) (by omega) (by omega)
    have e15 : s 15 = σ 15 := q1 15 (by omega) (by omega) (by omega)
    have e16 : s 16 = σ 16 := q1 16 (by omega) (by omega) (by omega)
    refine g_iload_n h dX8_areSo_6 rfl ?_
    refine g_aload_n h dX8_areSo_7 rfl ?_
    refine gm_readings h dX8_areSo_8 lf_RX8_130 ?_
    refine g_icmp_ge (tgt := 52) h dX8_areSo_11 (by decide) (by first | exact hR _ _ | exact ⟨by omega, by omega⟩) (by first | exact hR _ _ | exact ⟨by omega, by omega⟩) (fun c11 => ?_) (fun c11 => ?_)
    · refine g_iconst h dX8_areSo_52 rfl ?_
      refine g_zret h hq rfl dX8_areSo_53 (Or.inr rfl) (by
      have e : qAs (vM σ) (stM σ) = true := by
        unfold qAs
        rw [anyN_no.mpr (fun j j0 j1 => hj j j0 (by have : j < σ 0 30 := (by have e : (vM σ 0 6) = σ 0 30 := rfl; omega); omega))]
        rfl
      rw [bl1 e]; exact hp s q1)
    · have hrk := hr.2.2 k h0 (by omega)
      have v7 : vM σ 7 k = σ 14 k := vM_rd σ (by omega) (by omega) h0 (by omega)
      have v8 : vM σ 8 k = σ 15 k := vM_rd σ (by omega) (by omega) h0 (by omega)
      have v9 : vM σ 9 k = σ 16 k := vM_rd σ (by omega) (by omega) h0 (by omega)
      refine g_aload_n h dX8_areSo_14 rfl ?_
      refine g_aload_n h dX8_areSo_15 rfl ?_
      refine gm_readDay h dX8_areSo_16 lf_RX8_57 ?_
      refine g_iload_n h dX8_areSo_19 rfl ?_
      refine lm_readDay h dX8_areSo_20 (by omega) (by omega) ?_
      refine g_val (b := σ 15 k) (by rw [e15]) ?_
      refine g_vV h (c_X8_layForce s _ (by rw [q1.view]; exact hw.1) (by rw [q1.view, e9]; exact q2) (fun b b0 b1 => by rw [q3 b b0 (by omega)]; exact bl_01 _) (by omega) (by omega)) (by decide) lm_RX8_174 (rvM rfl) dX8_areSo_21 rfl (Nat.le_of_ble_eq_true rfl) (fun s21 p21 => ?_)
      obtain ⟨r21, hF⟩ := p21
      rw [q1.view, e9] at hF
      have f14 : s21 14 = σ 14 := (r21 14 (by omega)).trans e14
      have f16 : s21 16 = σ 16 := (r21 16 (by omega)).trans e16
      have hFk : s21 13 (σ 14 k) = bl (qF (vM σ) (stM σ) (σ 14 k) (σ 15 k) = true) := by
        rw [hF _ hrk.1 hrk.2.1]
        unfold qF
        rw [qIn_cong (τ := vM σ) (P := fun j => decide (s 12 j = 1)) (Q := qPf (vM σ) (stM σ)) (fun a a0 a1 => by
          have := q3 a a0 a1
          cases hz : qPf (vM σ) (stM σ) a with
          | true => rw [hz] at this; rw [this, ← bl1 rfl]; rfl
          | false => rw [hz] at this; rw [this, ← bl0 (by decide)]; rfl) (σ 15 k) 6 _ hrk.1 hrk.2.1]
      refine g_aload_n h dX8_areSo_24 rfl ?_
      refine gm_inForce h dX8_areSo_25 lf_RX8_51 ?_
      refine g_aload_n h dX8_areSo_28 rfl ?_
      refine gm_readBillOf h dX8_areSo_29 lf_RX8_54 ?_
      refine g_iload_n h dX8_areSo_32 rfl ?_
      refine lm_readBillOf h dX8_areSo_33 (by omega) (by omega) ?_
      refine g_val (b := σ 14 k) (by rw [f14]) ?_
      refine lm_inForce h dX8_areSo_34 hrk.1 (by omega) ?_
      refine g_val hFk ?_
      refine g_aload_n h dX8_areSo_35 rfl ?_
      refine gm_readWas h dX8_areSo_36 lf_RX8_60 ?_
      refine g_iload_n h dX8_areSo_39 rfl ?_
      refine lm_readWas h dX8_areSo_40 (by omega) (by omega) ?_
      refine g_val (b := σ 16 k) (by rw [f16]) ?_
      refine g_icmp_eq (tgt := 46) h dX8_areSo_41 (by decide) (bl_rng _) ⟨by omega, by omega⟩ (fun c41 => ?_) (fun c41 => ?_)
      · refine g_iinc h dX8_areSo_46 rfl (by decide) rfl ?_
        refine g_goto (tgt := 6) h dX8_areSo_49 (by decide) ?_
        exact ih (k + 1) s21 (by omega) (by omega) (by omega) ⟨q1.tr (r21.sc (by omega)), by rw [r21 11 (by omega)]; exact q2, fun a a0 a1 => by rw [r21 12 (by omega)]; exact q3 a a0 a1⟩ (fun j j0 j1 => by
          by_cases q : j = k
          · subst q; dsimp only; rw [v7, v8, v9]; simp [c41]
          · exact hj j j0 (by omega))
      · refine g_iconst h dX8_areSo_44 rfl ?_
        refine g_zret h hq rfl dX8_areSo_45 (Or.inl rfl) (by
        have e : ¬ qAs (vM σ) (stM σ) = true := by
          unfold qAs
          have e2 : (vM σ 0 6) = σ 0 30 := rfl
          rw [anyN_iff.mpr ⟨k, h0, by omega, by rw [v7, v8, v9]; exact decide_eq_true c41⟩]
          decide
        rw [bl0 e]; exact hp s21 (q1.tr (r21.sc (by omega))))
set_option maxRecDepth 100000 in
set_option maxHeartbeats 2000000 in
theorem c_X8_areSo {l : Launch} {D : va_G} {cs : mC} {ad : Int → Nat} (σ : mS)  (hw : mWf σ) (hr : mRd σ) : CI l (gM D cs ad) M_X8_areSo 4 [.ref (ad 0)] σ (fun z s => z = bl (qAs (vM σ) (stM σ) = true) ∧ mSc σ s) := by
  refine CI.of (by decide) (Nat.le_of_ble_eq_true rfl) (fun x h hq => ?_)
  show mG x 0 [(0, .ref (ad 0))] [] σ
  refine g_aload_n h dX8_areSo_0 rfl ?_
  refine g_vV h (c_X8_layPassing σ hw) (by decide) lm_RX8_178 (rvM rfl) dX8_areSo_1 rfl (Nat.le_of_ble_eq_true rfl) (fun s1 p1 => ?_)
  have hr0 := hr.1
  have hr8 := hr.2.1
  refine g_iconst h dX8_areSo_4 rfl ?_
  refine g_istore_n h dX8_areSo_5 (by decide) rfl ?_
  exact lp_X8_areSo h hq hw hr (fun s q => ⟨rfl, q⟩) 9 0 s1 (by omega) (by omega) (by omega) p1 (fun j j0 j1 => by omega)
end
