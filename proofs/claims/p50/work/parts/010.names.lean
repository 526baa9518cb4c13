-- ===== PART A: goes FIRST, ahead of the names: the tables' words, and 'selects' of the private methods out of them =====
/-- a private method of a class that the tables say can be made, by its rows of tables_1 -/
def lw_okq (q : MethodName × Nat) : Prop := (q.1.cls ≠ "java/lang/invoke/MethodHandle" ∧ q.1.cls ≠ "java/lang/invoke/VarHandle") ∧ Cond.instantiable q.1.cls q.2 ∈ tables_1 ∧ Cond.privateMethod q.1 ∈ tables_1 ∧ Cond.instanceMethod q.1 ∈ tables_1
theorem lw_p0 : lw_okq (⟨"WindowViews", "finding", "(I)I"⟩, 11) := ⟨⟨by decide +kernel, by decide +kernel⟩, List.mem_of_getElem? (i := 15) (by decide +kernel), List.mem_of_getElem? (i := 178) (by decide +kernel), List.mem_of_getElem? (i := 179) (by decide +kernel)⟩
theorem lw_p1 : lw_okq (⟨"WindowViews$Town", "isTaken", "(I)Z"⟩, 8) := ⟨⟨by decide +kernel, by decide +kernel⟩, List.mem_of_getElem? (i := 23) (by decide +kernel), List.mem_of_getElem? (i := 183) (by decide +kernel), List.mem_of_getElem? (i := 184) (by decide +kernel)⟩
theorem lw_p2 : lw_okq (⟨"WindowViews$Town", "put", "(IIIII)V"⟩, 8) := ⟨⟨by decide +kernel, by decide +kernel⟩, List.mem_of_getElem? (i := 23) (by decide +kernel), List.mem_of_getElem? (i := 187) (by decide +kernel), List.mem_of_getElem? (i := 188) (by decide +kernel)⟩
theorem lw_p3 : lw_okq (⟨"WindowViews$Town", "thingCount", "()I"⟩, 8) := ⟨⟨by decide +kernel, by decide +kernel⟩, List.mem_of_getElem? (i := 23) (by decide +kernel), List.mem_of_getElem? (i := 191) (by decide +kernel), List.mem_of_getElem? (i := 192) (by decide +kernel)⟩
theorem lw_p4 : lw_okq (⟨"WindowViews$Town", "takeOff", "(I)V"⟩, 8) := ⟨⟨by decide +kernel, by decide +kernel⟩, List.mem_of_getElem? (i := 23) (by decide +kernel), List.mem_of_getElem? (i := 200) (by decide +kernel), List.mem_of_getElem? (i := 201) (by decide +kernel)⟩
theorem lw_p5 : lw_okq (⟨"WindowViews$Town", "standing", "(I)I"⟩, 8) := ⟨⟨by decide +kernel, by decide +kernel⟩, List.mem_of_getElem? (i := 23) (by decide +kernel), List.mem_of_getElem? (i := 208) (by decide +kernel), List.mem_of_getElem? (i := 209) (by decide +kernel)⟩
theorem lw_p6 : lw_okq (⟨"WindowViews$Town", "isSummer", "()Z"⟩, 8) := ⟨⟨by decide +kernel, by decide +kernel⟩, List.mem_of_getElem? (i := 23) (by decide +kernel), List.mem_of_getElem? (i := 212) (by decide +kernel), List.mem_of_getElem? (i := 213) (by decide +kernel)⟩
theorem lw_p7 : lw_okq (⟨"WindowViews$Town", "squarePrice", "(I)I"⟩, 8) := ⟨⟨by decide +kernel, by decide +kernel⟩, List.mem_of_getElem? (i := 23) (by decide +kernel), List.mem_of_getElem? (i := 219) (by decide +kernel), List.mem_of_getElem? (i := 220) (by decide +kernel)⟩
theorem lw_p8 : lw_okq (⟨"WindowViews$Town", "growth", "(I)I"⟩, 8) := ⟨⟨by decide +kernel, by decide +kernel⟩, List.mem_of_getElem? (i := 23) (by decide +kernel), List.mem_of_getElem? (i := 223) (by decide +kernel), List.mem_of_getElem? (i := 224) (by decide +kernel)⟩
theorem lw_p9 : lw_okq (⟨"WindowViews$Town", "addWindow", "(IIII)V"⟩, 8) := ⟨⟨by decide +kernel, by decide +kernel⟩, List.mem_of_getElem? (i := 23) (by decide +kernel), List.mem_of_getElem? (i := 242) (by decide +kernel), List.mem_of_getElem? (i := 243) (by decide +kernel)⟩
theorem lw_p10 : lw_okq (⟨"WindowViews", "isWindow", "(I)Z"⟩, 11) := ⟨⟨by decide +kernel, by decide +kernel⟩, List.mem_of_getElem? (i := 15) (by decide +kernel), List.mem_of_getElem? (i := 250) (by decide +kernel), List.mem_of_getElem? (i := 251) (by decide +kernel)⟩
theorem lw_p11 : lw_okq (⟨"WindowViews$Glance", "isBroken", "(LWindowViews$Town;I)Z"⟩, 3) := ⟨⟨by decide +kernel, by decide +kernel⟩, List.mem_of_getElem? (i := 71) (by decide +kernel), List.mem_of_getElem? (i := 265) (by decide +kernel), List.mem_of_getElem? (i := 266) (by decide +kernel)⟩
theorem lw_p12 : lw_okq (⟨"WindowViews$Glance", "squaresOfOwner", "(LWindowViews$Town;II)I"⟩, 3) := ⟨⟨by decide +kernel, by decide +kernel⟩, List.mem_of_getElem? (i := 71) (by decide +kernel), List.mem_of_getElem? (i := 269) (by decide +kernel), List.mem_of_getElem? (i := 270) (by decide +kernel)⟩
theorem lw_p13 : lw_okq (⟨"WindowViews$Glance", "look", "(LWindowViews$Town;I)V"⟩, 3) := ⟨⟨by decide +kernel, by decide +kernel⟩, List.mem_of_getElem? (i := 71) (by decide +kernel), List.mem_of_getElem? (i := 273) (by decide +kernel), List.mem_of_getElem? (i := 274) (by decide +kernel)⟩
theorem lw_p14 : lw_okq (⟨"WindowViews$Glance", "lowestSeen", "(II)I"⟩, 3) := ⟨⟨by decide +kernel, by decide +kernel⟩, List.mem_of_getElem? (i := 71) (by decide +kernel), List.mem_of_getElem? (i := 282) (by decide +kernel), List.mem_of_getElem? (i := 283) (by decide +kernel)⟩
theorem lw_p15 : lw_okq (⟨"WindowViews$Glance", "squares", "(I)I"⟩, 3) := ⟨⟨by decide +kernel, by decide +kernel⟩, List.mem_of_getElem? (i := 71) (by decide +kernel), List.mem_of_getElem? (i := 292) (by decide +kernel), List.mem_of_getElem? (i := 293) (by decide +kernel)⟩
def lw_privs_1 : List (MethodName × Nat) := [(⟨"WindowViews", "finding", "(I)I"⟩, 11), (⟨"WindowViews$Town", "isTaken", "(I)Z"⟩, 8), (⟨"WindowViews$Town", "put", "(IIIII)V"⟩, 8), (⟨"WindowViews$Town", "thingCount", "()I"⟩, 8), (⟨"WindowViews$Town", "takeOff", "(I)V"⟩, 8), (⟨"WindowViews$Town", "standing", "(I)I"⟩, 8), (⟨"WindowViews$Town", "isSummer", "()Z"⟩, 8), (⟨"WindowViews$Town", "squarePrice", "(I)I"⟩, 8), (⟨"WindowViews$Town", "growth", "(I)I"⟩, 8), (⟨"WindowViews$Town", "addWindow", "(IIII)V"⟩, 8), (⟨"WindowViews", "isWindow", "(I)Z"⟩, 11), (⟨"WindowViews$Glance", "isBroken", "(LWindowViews$Town;I)Z"⟩, 3), (⟨"WindowViews$Glance", "squaresOfOwner", "(LWindowViews$Town;II)I"⟩, 3), (⟨"WindowViews$Glance", "look", "(LWindowViews$Town;I)V"⟩, 3), (⟨"WindowViews$Glance", "lowestSeen", "(II)I"⟩, 3), (⟨"WindowViews$Glance", "squares", "(I)I"⟩, 3)]
theorem lw_r1 : ∀ q ∈ lw_privs_1, lw_okq q := List.forall_mem_cons.mpr ⟨lw_p0, List.forall_mem_cons.mpr ⟨lw_p1, List.forall_mem_cons.mpr ⟨lw_p2, List.forall_mem_cons.mpr ⟨lw_p3, List.forall_mem_cons.mpr ⟨lw_p4, List.forall_mem_cons.mpr ⟨lw_p5, List.forall_mem_cons.mpr ⟨lw_p6, List.forall_mem_cons.mpr ⟨lw_p7, List.forall_mem_cons.mpr ⟨lw_p8, List.forall_mem_cons.mpr ⟨lw_p9, List.forall_mem_cons.mpr ⟨lw_p10, List.forall_mem_cons.mpr ⟨lw_p11, List.forall_mem_cons.mpr ⟨lw_p12, List.forall_mem_cons.mpr ⟨lw_p13, List.forall_mem_cons.mpr ⟨lw_p14, List.forall_mem_cons.mpr ⟨lw_p15, fun _ h => absurd h List.not_mem_nil⟩⟩⟩⟩⟩⟩⟩⟩⟩⟩⟩⟩⟩⟩⟩⟩
theorem lw_p16 : lw_okq (⟨"WindowViews$Glance", "squareSet", "(I)I"⟩, 3) := ⟨⟨by decide +kernel, by decide +kernel⟩, List.mem_of_getElem? (i := 71) (by decide +kernel), List.mem_of_getElem? (i := 305) (by decide +kernel), List.mem_of_getElem? (i := 306) (by decide +kernel)⟩
theorem lw_p17 : lw_okq (⟨"WindowViews$Glance", "squaresInView", "(LWindowViews$Town;I)I"⟩, 3) := ⟨⟨by decide +kernel, by decide +kernel⟩, List.mem_of_getElem? (i := 71) (by decide +kernel), List.mem_of_getElem? (i := 313) (by decide +kernel), List.mem_of_getElem? (i := 314) (by decide +kernel)⟩
theorem lw_p18 : lw_okq (⟨"WindowViews$Glance", "lotSet", "(LWindowViews$Town;I)I"⟩, 3) := ⟨⟨by decide +kernel, by decide +kernel⟩, List.mem_of_getElem? (i := 71) (by decide +kernel), List.mem_of_getElem? (i := 326) (by decide +kernel), List.mem_of_getElem? (i := 327) (by decide +kernel)⟩
theorem lw_p19 : lw_okq (⟨"WindowViews$Glance", "pay", "(LWindowViews$Town;I[I)I"⟩, 3) := ⟨⟨by decide +kernel, by decide +kernel⟩, List.mem_of_getElem? (i := 71) (by decide +kernel), List.mem_of_getElem? (i := 338) (by decide +kernel), List.mem_of_getElem? (i := 339) (by decide +kernel)⟩
theorem lw_p20 : lw_okq (⟨"WindowViews$Glance", "gainsInto", "(LWindowViews$Town;[I)I"⟩, 3) := ⟨⟨by decide +kernel, by decide +kernel⟩, List.mem_of_getElem? (i := 71) (by decide +kernel), List.mem_of_getElem? (i := 347) (by decide +kernel), List.mem_of_getElem? (i := 348) (by decide +kernel)⟩
theorem lw_p21 : lw_okq (⟨"WindowViews$Glance", "brokenSet", "(LWindowViews$Town;)I"⟩, 3) := ⟨⟨by decide +kernel, by decide +kernel⟩, List.mem_of_getElem? (i := 71) (by decide +kernel), List.mem_of_getElem? (i := 356) (by decide +kernel), List.mem_of_getElem? (i := 357) (by decide +kernel)⟩
theorem lw_p22 : lw_okq (⟨"WindowViews", "passMonths", "(LWindowViews$Town;I)I"⟩, 11) := ⟨⟨by decide +kernel, by decide +kernel⟩, List.mem_of_getElem? (i := 15) (by decide +kernel), List.mem_of_getElem? (i := 365) (by decide +kernel), List.mem_of_getElem? (i := 366) (by decide +kernel)⟩
theorem lw_p23 : lw_okq (⟨"WindowViews$Glance", "payAll", "(LWindowViews$Town;)I"⟩, 3) := ⟨⟨by decide +kernel, by decide +kernel⟩, List.mem_of_getElem? (i := 71) (by decide +kernel), List.mem_of_getElem? (i := 369) (by decide +kernel), List.mem_of_getElem? (i := 370) (by decide +kernel)⟩
theorem lw_p24 : lw_okq (⟨"WindowViews$Town", "growAll", "()V"⟩, 8) := ⟨⟨by decide +kernel, by decide +kernel⟩, List.mem_of_getElem? (i := 23) (by decide +kernel), List.mem_of_getElem? (i := 373) (by decide +kernel), List.mem_of_getElem? (i := 374) (by decide +kernel)⟩
theorem lw_p25 : lw_okq (⟨"WindowViews$Town", "become", "(LWindowViews$Town;)V"⟩, 8) := ⟨⟨by decide +kernel, by decide +kernel⟩, List.mem_of_getElem? (i := 23) (by decide +kernel), List.mem_of_getElem? (i := 382) (by decide +kernel), List.mem_of_getElem? (i := 383) (by decide +kernel)⟩
theorem lw_p26 : lw_okq (⟨"WindowViews$Glance", "squaresInAllViews", "(LWindowViews$Town;)I"⟩, 3) := ⟨⟨by decide +kernel, by decide +kernel⟩, List.mem_of_getElem? (i := 71) (by decide +kernel), List.mem_of_getElem? (i := 389) (by decide +kernel), List.mem_of_getElem? (i := 390) (by decide +kernel)⟩
theorem lw_p27 : lw_okq (⟨"WindowViews", "tryUntilBroken", "(I)I"⟩, 11) := ⟨⟨by decide +kernel, by decide +kernel⟩, List.mem_of_getElem? (i := 15) (by decide +kernel), List.mem_of_getElem? (i := 398) (by decide +kernel), List.mem_of_getElem? (i := 399) (by decide +kernel)⟩
theorem lw_p28 : lw_okq (⟨"WindowViews", "isBrokenWithout", "(II)Z"⟩, 11) := ⟨⟨by decide +kernel, by decide +kernel⟩, List.mem_of_getElem? (i := 15) (by decide +kernel), List.mem_of_getElem? (i := 406) (by decide +kernel), List.mem_of_getElem? (i := 407) (by decide +kernel)⟩
theorem lw_p29 : lw_okq (⟨"WindowViews", "bestFor", "(II)I"⟩, 11) := ⟨⟨by decide +kernel, by decide +kernel⟩, List.mem_of_getElem? (i := 15) (by decide +kernel), List.mem_of_getElem? (i := 414) (by decide +kernel), List.mem_of_getElem? (i := 415) (by decide +kernel)⟩
theorem lw_p30 : lw_okq (⟨"WindowViews$Town", "isOwnersLot", "(II)Z"⟩, 8) := ⟨⟨by decide +kernel, by decide +kernel⟩, List.mem_of_getElem? (i := 23) (by decide +kernel), List.mem_of_getElem? (i := 460) (by decide +kernel), List.mem_of_getElem? (i := 461) (by decide +kernel)⟩
theorem lw_p31 : lw_okq (⟨"WindowViews", "bothGainIfLower", "(II)Z"⟩, 11) := ⟨⟨by decide +kernel, by decide +kernel⟩, List.mem_of_getElem? (i := 15) (by decide +kernel), List.mem_of_getElem? (i := 464) (by decide +kernel), List.mem_of_getElem? (i := 465) (by decide +kernel)⟩
def lw_privs_2 : List (MethodName × Nat) := [(⟨"WindowViews$Glance", "squareSet", "(I)I"⟩, 3), (⟨"WindowViews$Glance", "squaresInView", "(LWindowViews$Town;I)I"⟩, 3), (⟨"WindowViews$Glance", "lotSet", "(LWindowViews$Town;I)I"⟩, 3), (⟨"WindowViews$Glance", "pay", "(LWindowViews$Town;I[I)I"⟩, 3), (⟨"WindowViews$Glance", "gainsInto", "(LWindowViews$Town;[I)I"⟩, 3), (⟨"WindowViews$Glance", "brokenSet", "(LWindowViews$Town;)I"⟩, 3), (⟨"WindowViews", "passMonths", "(LWindowViews$Town;I)I"⟩, 11), (⟨"WindowViews$Glance", "payAll", "(LWindowViews$Town;)I"⟩, 3), (⟨"WindowViews$Town", "growAll", "()V"⟩, 8), (⟨"WindowViews$Town", "become", "(LWindowViews$Town;)V"⟩, 8), (⟨"WindowViews$Glance", "squaresInAllViews", "(LWindowViews$Town;)I"⟩, 3), (⟨"WindowViews", "tryUntilBroken", "(I)I"⟩, 11), (⟨"WindowViews", "isBrokenWithout", "(II)Z"⟩, 11), (⟨"WindowViews", "bestFor", "(II)I"⟩, 11), (⟨"WindowViews$Town", "isOwnersLot", "(II)Z"⟩, 8), (⟨"WindowViews", "bothGainIfLower", "(II)Z"⟩, 11)]
theorem lw_r2 : ∀ q ∈ lw_privs_2, lw_okq q := List.forall_mem_cons.mpr ⟨lw_p16, List.forall_mem_cons.mpr ⟨lw_p17, List.forall_mem_cons.mpr ⟨lw_p18, List.forall_mem_cons.mpr ⟨lw_p19, List.forall_mem_cons.mpr ⟨lw_p20, List.forall_mem_cons.mpr ⟨lw_p21, List.forall_mem_cons.mpr ⟨lw_p22, List.forall_mem_cons.mpr ⟨lw_p23, List.forall_mem_cons.mpr ⟨lw_p24, List.forall_mem_cons.mpr ⟨lw_p25, List.forall_mem_cons.mpr ⟨lw_p26, List.forall_mem_cons.mpr ⟨lw_p27, List.forall_mem_cons.mpr ⟨lw_p28, List.forall_mem_cons.mpr ⟨lw_p29, List.forall_mem_cons.mpr ⟨lw_p30, List.forall_mem_cons.mpr ⟨lw_p31, fun _ h => absurd h List.not_mem_nil⟩⟩⟩⟩⟩⟩⟩⟩⟩⟩⟩⟩⟩⟩⟩⟩
theorem lw_p32 : lw_okq (⟨"WindowViews$Town", "lower", "(I)I"⟩, 8) := ⟨⟨by decide +kernel, by decide +kernel⟩, List.mem_of_getElem? (i := 23) (by decide +kernel), List.mem_of_getElem? (i := 468) (by decide +kernel), List.mem_of_getElem? (i := 469) (by decide +kernel)⟩
theorem lw_p33 : lw_okq (⟨"WindowViews$Town", "exchange", "(II)V"⟩, 8) := ⟨⟨by decide +kernel, by decide +kernel⟩, List.mem_of_getElem? (i := 23) (by decide +kernel), List.mem_of_getElem? (i := 476) (by decide +kernel), List.mem_of_getElem? (i := 477) (by decide +kernel)⟩
theorem lw_p34 : lw_okq (⟨"WindowViews$Town", "draw", "()I"⟩, 8) := ⟨⟨by decide +kernel, by decide +kernel⟩, List.mem_of_getElem? (i := 23) (by decide +kernel), List.mem_of_getElem? (i := 487) (by decide +kernel), List.mem_of_getElem? (i := 488) (by decide +kernel)⟩
theorem lw_p35 : lw_okq (⟨"WindowViews$Town", "lotOfThing", "(I)I"⟩, 8) := ⟨⟨by decide +kernel, by decide +kernel⟩, List.mem_of_getElem? (i := 23) (by decide +kernel), List.mem_of_getElem? (i := 492) (by decide +kernel), List.mem_of_getElem? (i := 493) (by decide +kernel)⟩
theorem lw_p36 : lw_okq (⟨"WindowViews$Tape", "append", "(I)V"⟩, 7) := ⟨⟨by decide +kernel, by decide +kernel⟩, List.mem_of_getElem? (i := 87) (by decide +kernel), List.mem_of_getElem? (i := 504) (by decide +kernel), List.mem_of_getElem? (i := 505) (by decide +kernel)⟩
theorem lw_p37 : lw_okq (⟨"WindowViews$Tape", "readText", "(LWindowViews$Town;)I"⟩, 7) := ⟨⟨by decide +kernel, by decide +kernel⟩, List.mem_of_getElem? (i := 87) (by decide +kernel), List.mem_of_getElem? (i := 516) (by decide +kernel), List.mem_of_getElem? (i := 517) (by decide +kernel)⟩
theorem lw_p38 : lw_okq (⟨"WindowViews$Tape", "nextToken", "()V"⟩, 7) := ⟨⟨by decide +kernel, by decide +kernel⟩, List.mem_of_getElem? (i := 87) (by decide +kernel), List.mem_of_getElem? (i := 520) (by decide +kernel), List.mem_of_getElem? (i := 521) (by decide +kernel)⟩
theorem lw_p39 : lw_okq (⟨"WindowViews$Tape", "sortAt", "(I)I"⟩, 7) := ⟨⟨by decide +kernel, by decide +kernel⟩, List.mem_of_getElem? (i := 87) (by decide +kernel), List.mem_of_getElem? (i := 524) (by decide +kernel), List.mem_of_getElem? (i := 525) (by decide +kernel)⟩
theorem lw_p40 : lw_okq (⟨"WindowViews$Tape", "readItem", "(LWindowViews$Town;)V"⟩, 7) := ⟨⟨by decide +kernel, by decide +kernel⟩, List.mem_of_getElem? (i := 87) (by decide +kernel), List.mem_of_getElem? (i := 529) (by decide +kernel), List.mem_of_getElem? (i := 530) (by decide +kernel)⟩
theorem lw_p41 : lw_okq (⟨"WindowViews$Tape", "kindOfWord", "()I"⟩, 7) := ⟨⟨by decide +kernel, by decide +kernel⟩, List.mem_of_getElem? (i := 87) (by decide +kernel), List.mem_of_getElem? (i := 533) (by decide +kernel), List.mem_of_getElem? (i := 534) (by decide +kernel)⟩
theorem lw_p42 : lw_okq (⟨"WindowViews$Tape", "isWord", "(Ljava/lang/String;)Z"⟩, 7) := ⟨⟨by decide +kernel, by decide +kernel⟩, List.mem_of_getElem? (i := 87) (by decide +kernel), List.mem_of_getElem? (i := 538) (by decide +kernel), List.mem_of_getElem? (i := 539) (by decide +kernel)⟩
theorem lw_p43 : lw_okq (⟨"WindowViews$Tape", "readThing", "(LWindowViews$Town;I)V"⟩, 7) := ⟨⟨by decide +kernel, by decide +kernel⟩, List.mem_of_getElem? (i := 87) (by decide +kernel), List.mem_of_getElem? (i := 596) (by decide +kernel), List.mem_of_getElem? (i := 597) (by decide +kernel)⟩
theorem lw_p44 : lw_okq (⟨"WindowViews$Tape", "takeWord", "(Ljava/lang/String;)V"⟩, 7) := ⟨⟨by decide +kernel, by decide +kernel⟩, List.mem_of_getElem? (i := 87) (by decide +kernel), List.mem_of_getElem? (i := 601) (by decide +kernel), List.mem_of_getElem? (i := 602) (by decide +kernel)⟩
theorem lw_p45 : lw_okq (⟨"WindowViews$Tape", "failHere", "()V"⟩, 7) := ⟨⟨by decide +kernel, by decide +kernel⟩, List.mem_of_getElem? (i := 87) (by decide +kernel), List.mem_of_getElem? (i := 605) (by decide +kernel), List.mem_of_getElem? (i := 606) (by decide +kernel)⟩
theorem lw_p46 : lw_okq (⟨"WindowViews$Tape", "takeLot", "(LWindowViews$Town;Z)I"⟩, 7) := ⟨⟨by decide +kernel, by decide +kernel⟩, List.mem_of_getElem? (i := 87) (by decide +kernel), List.mem_of_getElem? (i := 609) (by decide +kernel), List.mem_of_getElem? (i := 610) (by decide +kernel)⟩
theorem lw_p47 : lw_okq (⟨"WindowViews$Tape", "takeNumber", "(I)I"⟩, 7) := ⟨⟨by decide +kernel, by decide +kernel⟩, List.mem_of_getElem? (i := 87) (by decide +kernel), List.mem_of_getElem? (i := 615) (by decide +kernel), List.mem_of_getElem? (i := 616) (by decide +kernel)⟩
def lw_privs_3 : List (MethodName × Nat) := [(⟨"WindowViews$Town", "lower", "(I)I"⟩, 8), (⟨"WindowViews$Town", "exchange", "(II)V"⟩, 8), (⟨"WindowViews$Town", "draw", "()I"⟩, 8), (⟨"WindowViews$Town", "lotOfThing", "(I)I"⟩, 8), (⟨"WindowViews$Tape", "append", "(I)V"⟩, 7), (⟨"WindowViews$Tape", "readText", "(LWindowViews$Town;)I"⟩, 7), (⟨"WindowViews$Tape", "nextToken", "()V"⟩, 7), (⟨"WindowViews$Tape", "sortAt", "(I)I"⟩, 7), (⟨"WindowViews$Tape", "readItem", "(LWindowViews$Town;)V"⟩, 7), (⟨"WindowViews$Tape", "kindOfWord", "()I"⟩, 7), (⟨"WindowViews$Tape", "isWord", "(Ljava/lang/String;)Z"⟩, 7), (⟨"WindowViews$Tape", "readThing", "(LWindowViews$Town;I)V"⟩, 7), (⟨"WindowViews$Tape", "takeWord", "(Ljava/lang/String;)V"⟩, 7), (⟨"WindowViews$Tape", "failHere", "()V"⟩, 7), (⟨"WindowViews$Tape", "takeLot", "(LWindowViews$Town;Z)I"⟩, 7), (⟨"WindowViews$Tape", "takeNumber", "(I)I"⟩, 7)]
theorem lw_r3 : ∀ q ∈ lw_privs_3, lw_okq q := List.forall_mem_cons.mpr ⟨lw_p32, List.forall_mem_cons.mpr ⟨lw_p33, List.forall_mem_cons.mpr ⟨lw_p34, List.forall_mem_cons.mpr ⟨lw_p35, List.forall_mem_cons.mpr ⟨lw_p36, List.forall_mem_cons.mpr ⟨lw_p37, List.forall_mem_cons.mpr ⟨lw_p38, List.forall_mem_cons.mpr ⟨lw_p39, List.forall_mem_cons.mpr ⟨lw_p40, List.forall_mem_cons.mpr ⟨lw_p41, List.forall_mem_cons.mpr ⟨lw_p42, List.forall_mem_cons.mpr ⟨lw_p43, List.forall_mem_cons.mpr ⟨lw_p44, List.forall_mem_cons.mpr ⟨lw_p45, List.forall_mem_cons.mpr ⟨lw_p46, List.forall_mem_cons.mpr ⟨lw_p47, fun _ h => absurd h List.not_mem_nil⟩⟩⟩⟩⟩⟩⟩⟩⟩⟩⟩⟩⟩⟩⟩⟩
theorem lw_p48 : lw_okq (⟨"WindowViews$Tape", "readWindow", "(LWindowViews$Town;)V"⟩, 7) := ⟨⟨by decide +kernel, by decide +kernel⟩, List.mem_of_getElem? (i := 87) (by decide +kernel), List.mem_of_getElem? (i := 623) (by decide +kernel), List.mem_of_getElem? (i := 624) (by decide +kernel)⟩
theorem lw_p49 : lw_okq (⟨"WindowViews$Tape", "readPrice", "(LWindowViews$Town;)V"⟩, 7) := ⟨⟨by decide +kernel, by decide +kernel⟩, List.mem_of_getElem? (i := 87) (by decide +kernel), List.mem_of_getElem? (i := 632) (by decide +kernel), List.mem_of_getElem? (i := 633) (by decide +kernel)⟩
theorem lw_p50 : lw_okq (⟨"WindowViews$Tape", "readClear", "(LWindowViews$Town;)V"⟩, 7) := ⟨⟨by decide +kernel, by decide +kernel⟩, List.mem_of_getElem? (i := 87) (by decide +kernel), List.mem_of_getElem? (i := 637) (by decide +kernel), List.mem_of_getElem? (i := 638) (by decide +kernel)⟩
theorem lw_p51 : lw_okq (⟨"WindowViews$Sheets", "begin", "(III)V"⟩, 3) := ⟨⟨by decide +kernel, by decide +kernel⟩, List.mem_of_getElem? (i := 117) (by decide +kernel), List.mem_of_getElem? (i := 661) (by decide +kernel), List.mem_of_getElem? (i := 662) (by decide +kernel)⟩
theorem lw_p52 : lw_okq (⟨"WindowViews$Sheets", "isMissing", "(I)Z"⟩, 3) := ⟨⟨by decide +kernel, by decide +kernel⟩, List.mem_of_getElem? (i := 117) (by decide +kernel), List.mem_of_getElem? (i := 669) (by decide +kernel), List.mem_of_getElem? (i := 670) (by decide +kernel)⟩
theorem lw_p53 : lw_okq (⟨"WindowViews$Sheets", "store", "(III)V"⟩, 3) := ⟨⟨by decide +kernel, by decide +kernel⟩, List.mem_of_getElem? (i := 117) (by decide +kernel), List.mem_of_getElem? (i := 673) (by decide +kernel), List.mem_of_getElem? (i := 674) (by decide +kernel)⟩
theorem lw_p54 : lw_okq (⟨"WindowViews$Sheets", "hasRange", "(III)Z"⟩, 3) := ⟨⟨by decide +kernel, by decide +kernel⟩, List.mem_of_getElem? (i := 117) (by decide +kernel), List.mem_of_getElem? (i := 681) (by decide +kernel), List.mem_of_getElem? (i := 682) (by decide +kernel)⟩
theorem lw_p55 : lw_okq (⟨"WindowViews$Town", "heightOfAll", "()I"⟩, 8) := ⟨⟨by decide +kernel, by decide +kernel⟩, List.mem_of_getElem? (i := 23) (by decide +kernel), List.mem_of_getElem? (i := 710) (by decide +kernel), List.mem_of_getElem? (i := 711) (by decide +kernel)⟩
theorem lw_p56 : lw_okq (⟨"WindowViews$Town", "contractCount", "()I"⟩, 8) := ⟨⟨by decide +kernel, by decide +kernel⟩, List.mem_of_getElem? (i := 23) (by decide +kernel), List.mem_of_getElem? (i := 714) (by decide +kernel), List.mem_of_getElem? (i := 715) (by decide +kernel)⟩
theorem lw_p57 : lw_okq (⟨"WindowViews$Town", "spotsInUse", "()I"⟩, 8) := ⟨⟨by decide +kernel, by decide +kernel⟩, List.mem_of_getElem? (i := 23) (by decide +kernel), List.mem_of_getElem? (i := 718) (by decide +kernel), List.mem_of_getElem? (i := 719) (by decide +kernel)⟩
theorem lw_p58 : lw_okq (⟨"WindowViewsModel", "finds", "(I)I"⟩, 21) := ⟨⟨by decide +kernel, by decide +kernel⟩, List.mem_of_getElem? (i := 726) (by decide +kernel), List.mem_of_getElem? (i := 820) (by decide +kernel), List.mem_of_getElem? (i := 821) (by decide +kernel)⟩
theorem lw_p59 : lw_okq (⟨"WindowViewsModel", "isThing", "(I)Z"⟩, 21) := ⟨⟨by decide +kernel, by decide +kernel⟩, List.mem_of_getElem? (i := 726) (by decide +kernel), List.mem_of_getElem? (i := 824) (by decide +kernel), List.mem_of_getElem? (i := 825) (by decide +kernel)⟩
theorem lw_p60 : lw_okq (⟨"WindowViewsModel", "its", "(II)I"⟩, 21) := ⟨⟨by decide +kernel, by decide +kernel⟩, List.mem_of_getElem? (i := 726) (by decide +kernel), List.mem_of_getElem? (i := 828) (by decide +kernel), List.mem_of_getElem? (i := 829) (by decide +kernel)⟩
theorem lw_p61 : lw_okq (⟨"WindowViewsModel", "builds", "(IIIII)V"⟩, 21) := ⟨⟨by decide +kernel, by decide +kernel⟩, List.mem_of_getElem? (i := 726) (by decide +kernel), List.mem_of_getElem? (i := 833) (by decide +kernel), List.mem_of_getElem? (i := 834) (by decide +kernel)⟩
theorem lw_p62 : lw_okq (⟨"WindowViewsModel", "things", "()I"⟩, 21) := ⟨⟨by decide +kernel, by decide +kernel⟩, List.mem_of_getElem? (i := 726) (by decide +kernel), List.mem_of_getElem? (i := 837) (by decide +kernel), List.mem_of_getElem? (i := 838) (by decide +kernel)⟩
theorem lw_p63 : lw_okq (⟨"WindowViewsModel", "lotWrong", "(I)I"⟩, 21) := ⟨⟨by decide +kernel, by decide +kernel⟩, List.mem_of_getElem? (i := 726) (by decide +kernel), List.mem_of_getElem? (i := 845) (by decide +kernel), List.mem_of_getElem? (i := 846) (by decide +kernel)⟩
def lw_privs_4 : List (MethodName × Nat) := [(⟨"WindowViews$Tape", "readWindow", "(LWindowViews$Town;)V"⟩, 7), (⟨"WindowViews$Tape", "readPrice", "(LWindowViews$Town;)V"⟩, 7), (⟨"WindowViews$Tape", "readClear", "(LWindowViews$Town;)V"⟩, 7), (⟨"WindowViews$Sheets", "begin", "(III)V"⟩, 3), (⟨"WindowViews$Sheets", "isMissing", "(I)Z"⟩, 3), (⟨"WindowViews$Sheets", "store", "(III)V"⟩, 3), (⟨"WindowViews$Sheets", "hasRange", "(III)Z"⟩, 3), (⟨"WindowViews$Town", "heightOfAll", "()I"⟩, 8), (⟨"WindowViews$Town", "contractCount", "()I"⟩, 8), (⟨"WindowViews$Town", "spotsInUse", "()I"⟩, 8), (⟨"WindowViewsModel", "finds", "(I)I"⟩, 21), (⟨"WindowViewsModel", "isThing", "(I)Z"⟩, 21), (⟨"WindowViewsModel", "its", "(II)I"⟩, 21), (⟨"WindowViewsModel", "builds", "(IIIII)V"⟩, 21), (⟨"WindowViewsModel", "things", "()I"⟩, 21), (⟨"WindowViewsModel", "lotWrong", "(I)I"⟩, 21)]
theorem lw_r4 : ∀ q ∈ lw_privs_4, lw_okq q := List.forall_mem_cons.mpr ⟨lw_p48, List.forall_mem_cons.mpr ⟨lw_p49, List.forall_mem_cons.mpr ⟨lw_p50, List.forall_mem_cons.mpr ⟨lw_p51, List.forall_mem_cons.mpr ⟨lw_p52, List.forall_mem_cons.mpr ⟨lw_p53, List.forall_mem_cons.mpr ⟨lw_p54, List.forall_mem_cons.mpr ⟨lw_p55, List.forall_mem_cons.mpr ⟨lw_p56, List.forall_mem_cons.mpr ⟨lw_p57, List.forall_mem_cons.mpr ⟨lw_p58, List.forall_mem_cons.mpr ⟨lw_p59, List.forall_mem_cons.mpr ⟨lw_p60, List.forall_mem_cons.mpr ⟨lw_p61, List.forall_mem_cons.mpr ⟨lw_p62, List.forall_mem_cons.mpr ⟨lw_p63, fun _ h => absurd h List.not_mem_nil⟩⟩⟩⟩⟩⟩⟩⟩⟩⟩⟩⟩⟩⟩⟩⟩
theorem lw_p64 : lw_okq (⟨"WindowViewsModel", "stands", "(I)I"⟩, 21) := ⟨⟨by decide +kernel, by decide +kernel⟩, List.mem_of_getElem? (i := 726) (by decide +kernel), List.mem_of_getElem? (i := 854) (by decide +kernel), List.mem_of_getElem? (i := 855) (by decide +kernel)⟩
theorem lw_p65 : lw_okq (⟨"WindowViewsModel", "isSummer", "()Z"⟩, 21) := ⟨⟨by decide +kernel, by decide +kernel⟩, List.mem_of_getElem? (i := 726) (by decide +kernel), List.mem_of_getElem? (i := 858) (by decide +kernel), List.mem_of_getElem? (i := 859) (by decide +kernel)⟩
theorem lw_p66 : lw_okq (⟨"WindowViewsModel", "priceOf", "(I)I"⟩, 21) := ⟨⟨by decide +kernel, by decide +kernel⟩, List.mem_of_getElem? (i := 726) (by decide +kernel), List.mem_of_getElem? (i := 863) (by decide +kernel), List.mem_of_getElem? (i := 864) (by decide +kernel)⟩
theorem lw_p67 : lw_okq (⟨"WindowViewsModel", "grows", "(I)I"⟩, 21) := ⟨⟨by decide +kernel, by decide +kernel⟩, List.mem_of_getElem? (i := 726) (by decide +kernel), List.mem_of_getElem? (i := 867) (by decide +kernel), List.mem_of_getElem? (i := 868) (by decide +kernel)⟩
theorem lw_p68 : lw_okq (⟨"WindowViewsModel", "newWindow", "(IIII)I"⟩, 21) := ⟨⟨by decide +kernel, by decide +kernel⟩, List.mem_of_getElem? (i := 726) (by decide +kernel), List.mem_of_getElem? (i := 885) (by decide +kernel), List.mem_of_getElem? (i := 886) (by decide +kernel)⟩
theorem lw_p69 : lw_okq (⟨"WindowViewsModel", "isWindow", "(I)Z"⟩, 21) := ⟨⟨by decide +kernel, by decide +kernel⟩, List.mem_of_getElem? (i := 726) (by decide +kernel), List.mem_of_getElem? (i := 896) (by decide +kernel), List.mem_of_getElem? (i := 897) (by decide +kernel)⟩
theorem lw_p70 : lw_okq (⟨"WindowViewsModel", "told", "(II)I"⟩, 21) := ⟨⟨by decide +kernel, by decide +kernel⟩, List.mem_of_getElem? (i := 726) (by decide +kernel), List.mem_of_getElem? (i := 901) (by decide +kernel), List.mem_of_getElem? (i := 902) (by decide +kernel)⟩
theorem lw_p71 : lw_okq (⟨"WindowViewsModel", "isBroken", "(I)Z"⟩, 21) := ⟨⟨by decide +kernel, by decide +kernel⟩, List.mem_of_getElem? (i := 726) (by decide +kernel), List.mem_of_getElem? (i := 915) (by decide +kernel), List.mem_of_getElem? (i := 916) (by decide +kernel)⟩
theorem lw_p72 : lw_okq (⟨"WindowViewsModel", "looks", "(I)V"⟩, 21) := ⟨⟨by decide +kernel, by decide +kernel⟩, List.mem_of_getElem? (i := 726) (by decide +kernel), List.mem_of_getElem? (i := 919) (by decide +kernel), List.mem_of_getElem? (i := 920) (by decide +kernel)⟩
theorem lw_p73 : lw_okq (⟨"WindowViewsModel", "seen", "(II)I"⟩, 21) := ⟨⟨by decide +kernel, by decide +kernel⟩, List.mem_of_getElem? (i := 726) (by decide +kernel), List.mem_of_getElem? (i := 923) (by decide +kernel), List.mem_of_getElem? (i := 924) (by decide +kernel)⟩
theorem lw_p74 : lw_okq (⟨"WindowViewsModel", "gainOf", "(I)I"⟩, 21) := ⟨⟨by decide +kernel, by decide +kernel⟩, List.mem_of_getElem? (i := 726) (by decide +kernel), List.mem_of_getElem? (i := 966) (by decide +kernel), List.mem_of_getElem? (i := 967) (by decide +kernel)⟩
theorem lw_p75 : lw_okq (⟨"WindowViewsModel", "findGains", "()I"⟩, 21) := ⟨⟨by decide +kernel, by decide +kernel⟩, List.mem_of_getElem? (i := 726) (by decide +kernel), List.mem_of_getElem? (i := 970) (by decide +kernel), List.mem_of_getElem? (i := 971) (by decide +kernel)⟩
theorem lw_p76 : lw_okq (⟨"WindowViewsModel", "brokenSet", "()I"⟩, 21) := ⟨⟨by decide +kernel, by decide +kernel⟩, List.mem_of_getElem? (i := 726) (by decide +kernel), List.mem_of_getElem? (i := 978) (by decide +kernel), List.mem_of_getElem? (i := 979) (by decide +kernel)⟩
theorem lw_p77 : lw_okq (⟨"WindowViewsModel", "isTooLate", "(I)Z"⟩, 21) := ⟨⟨by decide +kernel, by decide +kernel⟩, List.mem_of_getElem? (i := 726) (by decide +kernel), List.mem_of_getElem? (i := 987) (by decide +kernel), List.mem_of_getElem? (i := 988) (by decide +kernel)⟩
theorem lw_p78 : lw_okq (⟨"WindowViewsModel", "monthsGo", "(I)I"⟩, 21) := ⟨⟨by decide +kernel, by decide +kernel⟩, List.mem_of_getElem? (i := 726) (by decide +kernel), List.mem_of_getElem? (i := 991) (by decide +kernel), List.mem_of_getElem? (i := 992) (by decide +kernel)⟩
theorem lw_p79 : lw_okq (⟨"WindowViewsModel", "month", "()I"⟩, 21) := ⟨⟨by decide +kernel, by decide +kernel⟩, List.mem_of_getElem? (i := 726) (by decide +kernel), List.mem_of_getElem? (i := 995) (by decide +kernel), List.mem_of_getElem? (i := 996) (by decide +kernel)⟩
def lw_privs_5 : List (MethodName × Nat) := [(⟨"WindowViewsModel", "stands", "(I)I"⟩, 21), (⟨"WindowViewsModel", "isSummer", "()Z"⟩, 21), (⟨"WindowViewsModel", "priceOf", "(I)I"⟩, 21), (⟨"WindowViewsModel", "grows", "(I)I"⟩, 21), (⟨"WindowViewsModel", "newWindow", "(IIII)I"⟩, 21), (⟨"WindowViewsModel", "isWindow", "(I)Z"⟩, 21), (⟨"WindowViewsModel", "told", "(II)I"⟩, 21), (⟨"WindowViewsModel", "isBroken", "(I)Z"⟩, 21), (⟨"WindowViewsModel", "looks", "(I)V"⟩, 21), (⟨"WindowViewsModel", "seen", "(II)I"⟩, 21), (⟨"WindowViewsModel", "gainOf", "(I)I"⟩, 21), (⟨"WindowViewsModel", "findGains", "()I"⟩, 21), (⟨"WindowViewsModel", "brokenSet", "()I"⟩, 21), (⟨"WindowViewsModel", "isTooLate", "(I)Z"⟩, 21), (⟨"WindowViewsModel", "monthsGo", "(I)I"⟩, 21), (⟨"WindowViewsModel", "month", "()I"⟩, 21)]
theorem lw_r5 : ∀ q ∈ lw_privs_5, lw_okq q := List.forall_mem_cons.mpr ⟨lw_p64, List.forall_mem_cons.mpr ⟨lw_p65, List.forall_mem_cons.mpr ⟨lw_p66, List.forall_mem_cons.mpr ⟨lw_p67, List.forall_mem_cons.mpr ⟨lw_p68, List.forall_mem_cons.mpr ⟨lw_p69, List.forall_mem_cons.mpr ⟨lw_p70, List.forall_mem_cons.mpr ⟨lw_p71, List.forall_mem_cons.mpr ⟨lw_p72, List.forall_mem_cons.mpr ⟨lw_p73, List.forall_mem_cons.mpr ⟨lw_p74, List.forall_mem_cons.mpr ⟨lw_p75, List.forall_mem_cons.mpr ⟨lw_p76, List.forall_mem_cons.mpr ⟨lw_p77, List.forall_mem_cons.mpr ⟨lw_p78, List.forall_mem_cons.mpr ⟨lw_p79, fun _ h => absurd h List.not_mem_nil⟩⟩⟩⟩⟩⟩⟩⟩⟩⟩⟩⟩⟩⟩⟩⟩
theorem lw_p80 : lw_okq (⟨"WindowViewsModel", "puts", "()V"⟩, 21) := ⟨⟨by decide +kernel, by decide +kernel⟩, List.mem_of_getElem? (i := 726) (by decide +kernel), List.mem_of_getElem? (i := 1004) (by decide +kernel), List.mem_of_getElem? (i := 1005) (by decide +kernel)⟩
theorem lw_p81 : lw_okq (⟨"WindowViewsModel", "allViews", "()I"⟩, 21) := ⟨⟨by decide +kernel, by decide +kernel⟩, List.mem_of_getElem? (i := 726) (by decide +kernel), List.mem_of_getElem? (i := 1008) (by decide +kernel), List.mem_of_getElem? (i := 1009) (by decide +kernel)⟩
theorem lw_p82 : lw_okq (⟨"WindowViewsModel", "putsBack", "()V"⟩, 21) := ⟨⟨by decide +kernel, by decide +kernel⟩, List.mem_of_getElem? (i := 726) (by decide +kernel), List.mem_of_getElem? (i := 1012) (by decide +kernel), List.mem_of_getElem? (i := 1013) (by decide +kernel)⟩
theorem lw_p83 : lw_okq (⟨"WindowViewsModel", "isLate", "(I)Z"⟩, 21) := ⟨⟨by decide +kernel, by decide +kernel⟩, List.mem_of_getElem? (i := 726) (by decide +kernel), List.mem_of_getElem? (i := 1020) (by decide +kernel), List.mem_of_getElem? (i := 1021) (by decide +kernel)⟩
theorem lw_p84 : lw_okq (⟨"WindowViewsModel", "breaks", "(I)I"⟩, 21) := ⟨⟨by decide +kernel, by decide +kernel⟩, List.mem_of_getElem? (i := 726) (by decide +kernel), List.mem_of_getElem? (i := 1024) (by decide +kernel), List.mem_of_getElem? (i := 1025) (by decide +kernel)⟩
theorem lw_p85 : lw_okq (⟨"WindowViewsModel", "bestPart", "(III)I"⟩, 21) := ⟨⟨by decide +kernel, by decide +kernel⟩, List.mem_of_getElem? (i := 726) (by decide +kernel), List.mem_of_getElem? (i := 1036) (by decide +kernel), List.mem_of_getElem? (i := 1037) (by decide +kernel)⟩
theorem lw_p86 : lw_okq (⟨"WindowViewsModel", "viewOf", "(I)I"⟩, 21) := ⟨⟨by decide +kernel, by decide +kernel⟩, List.mem_of_getElem? (i := 726) (by decide +kernel), List.mem_of_getElem? (i := 1056) (by decide +kernel), List.mem_of_getElem? (i := 1057) (by decide +kernel)⟩
theorem lw_p87 : lw_okq (⟨"WindowViewsModel", "isLowered", "(II)Z"⟩, 21) := ⟨⟨by decide +kernel, by decide +kernel⟩, List.mem_of_getElem? (i := 726) (by decide +kernel), List.mem_of_getElem? (i := 1080) (by decide +kernel), List.mem_of_getElem? (i := 1081) (by decide +kernel)⟩
theorem lw_p88 : lw_okq (⟨"WindowViewsModel", "draw", "()I"⟩, 21) := ⟨⟨by decide +kernel, by decide +kernel⟩, List.mem_of_getElem? (i := 726) (by decide +kernel), List.mem_of_getElem? (i := 1093) (by decide +kernel), List.mem_of_getElem? (i := 1094) (by decide +kernel)⟩
theorem lw_p89 : lw_okq (⟨"WindowViewsModel", "token", "()V"⟩, 21) := ⟨⟨by decide +kernel, by decide +kernel⟩, List.mem_of_getElem? (i := 726) (by decide +kernel), List.mem_of_getElem? (i := 1114) (by decide +kernel), List.mem_of_getElem? (i := 1115) (by decide +kernel)⟩
theorem lw_p90 : lw_okq (⟨"WindowViewsModel", "byteAt", "(I)I"⟩, 21) := ⟨⟨by decide +kernel, by decide +kernel⟩, List.mem_of_getElem? (i := 726) (by decide +kernel), List.mem_of_getElem? (i := 1118) (by decide +kernel), List.mem_of_getElem? (i := 1119) (by decide +kernel)⟩
theorem lw_p91 : lw_okq (⟨"WindowViewsModel", "item", "()V"⟩, 21) := ⟨⟨by decide +kernel, by decide +kernel⟩, List.mem_of_getElem? (i := 726) (by decide +kernel), List.mem_of_getElem? (i := 1132) (by decide +kernel), List.mem_of_getElem? (i := 1133) (by decide +kernel)⟩
theorem lw_p92 : lw_okq (⟨"WindowViewsModel", "kindHere", "()I"⟩, 21) := ⟨⟨by decide +kernel, by decide +kernel⟩, List.mem_of_getElem? (i := 726) (by decide +kernel), List.mem_of_getElem? (i := 1136) (by decide +kernel), List.mem_of_getElem? (i := 1137) (by decide +kernel)⟩
theorem lw_p93 : lw_okq (⟨"WindowViewsModel", "word", "()J"⟩, 21) := ⟨⟨by decide +kernel, by decide +kernel⟩, List.mem_of_getElem? (i := 726) (by decide +kernel), List.mem_of_getElem? (i := 1140) (by decide +kernel), List.mem_of_getElem? (i := 1141) (by decide +kernel)⟩
theorem lw_p94 : lw_okq (⟨"WindowViewsModel", "thingItem", "(I)V"⟩, 21) := ⟨⟨by decide +kernel, by decide +kernel⟩, List.mem_of_getElem? (i := 726) (by decide +kernel), List.mem_of_getElem? (i := 1153) (by decide +kernel), List.mem_of_getElem? (i := 1154) (by decide +kernel)⟩
theorem lw_p95 : lw_okq (⟨"WindowViewsModel", "needs", "(Z)V"⟩, 21) := ⟨⟨by decide +kernel, by decide +kernel⟩, List.mem_of_getElem? (i := 726) (by decide +kernel), List.mem_of_getElem? (i := 1157) (by decide +kernel), List.mem_of_getElem? (i := 1158) (by decide +kernel)⟩
def lw_privs_6 : List (MethodName × Nat) := [(⟨"WindowViewsModel", "puts", "()V"⟩, 21), (⟨"WindowViewsModel", "allViews", "()I"⟩, 21), (⟨"WindowViewsModel", "putsBack", "()V"⟩, 21), (⟨"WindowViewsModel", "isLate", "(I)Z"⟩, 21), (⟨"WindowViewsModel", "breaks", "(I)I"⟩, 21), (⟨"WindowViewsModel", "bestPart", "(III)I"⟩, 21), (⟨"WindowViewsModel", "viewOf", "(I)I"⟩, 21), (⟨"WindowViewsModel", "isLowered", "(II)Z"⟩, 21), (⟨"WindowViewsModel", "draw", "()I"⟩, 21), (⟨"WindowViewsModel", "token", "()V"⟩, 21), (⟨"WindowViewsModel", "byteAt", "(I)I"⟩, 21), (⟨"WindowViewsModel", "item", "()V"⟩, 21), (⟨"WindowViewsModel", "kindHere", "()I"⟩, 21), (⟨"WindowViewsModel", "word", "()J"⟩, 21), (⟨"WindowViewsModel", "thingItem", "(I)V"⟩, 21), (⟨"WindowViewsModel", "needs", "(Z)V"⟩, 21)]
theorem lw_r6 : ∀ q ∈ lw_privs_6, lw_okq q := List.forall_mem_cons.mpr ⟨lw_p80, List.forall_mem_cons.mpr ⟨lw_p81, List.forall_mem_cons.mpr ⟨lw_p82, List.forall_mem_cons.mpr ⟨lw_p83, List.forall_mem_cons.mpr ⟨lw_p84, List.forall_mem_cons.mpr ⟨lw_p85, List.forall_mem_cons.mpr ⟨lw_p86, List.forall_mem_cons.mpr ⟨lw_p87, List.forall_mem_cons.mpr ⟨lw_p88, List.forall_mem_cons.mpr ⟨lw_p89, List.forall_mem_cons.mpr ⟨lw_p90, List.forall_mem_cons.mpr ⟨lw_p91, List.forall_mem_cons.mpr ⟨lw_p92, List.forall_mem_cons.mpr ⟨lw_p93, List.forall_mem_cons.mpr ⟨lw_p94, List.forall_mem_cons.mpr ⟨lw_p95, fun _ h => absurd h List.not_mem_nil⟩⟩⟩⟩⟩⟩⟩⟩⟩⟩⟩⟩⟩⟩⟩⟩
theorem lw_p96 : lw_okq (⟨"WindowViewsModel", "lotTold", "(Z)V"⟩, 21) := ⟨⟨by decide +kernel, by decide +kernel⟩, List.mem_of_getElem? (i := 726) (by decide +kernel), List.mem_of_getElem? (i := 1162) (by decide +kernel), List.mem_of_getElem? (i := 1163) (by decide +kernel)⟩
theorem lw_p97 : lw_okq (⟨"WindowViewsModel", "numberBehind", "(JI)I"⟩, 21) := ⟨⟨by decide +kernel, by decide +kernel⟩, List.mem_of_getElem? (i := 726) (by decide +kernel), List.mem_of_getElem? (i := 1167) (by decide +kernel), List.mem_of_getElem? (i := 1168) (by decide +kernel)⟩
theorem lw_p98 : lw_okq (⟨"WindowViewsModel", "number", "(II)V"⟩, 21) := ⟨⟨by decide +kernel, by decide +kernel⟩, List.mem_of_getElem? (i := 726) (by decide +kernel), List.mem_of_getElem? (i := 1171) (by decide +kernel), List.mem_of_getElem? (i := 1172) (by decide +kernel)⟩
theorem lw_p99 : lw_okq (⟨"WindowViewsModel", "windowItem", "()V"⟩, 21) := ⟨⟨by decide +kernel, by decide +kernel⟩, List.mem_of_getElem? (i := 726) (by decide +kernel), List.mem_of_getElem? (i := 1178) (by decide +kernel), List.mem_of_getElem? (i := 1179) (by decide +kernel)⟩
theorem lw_p100 : lw_okq (⟨"WindowViewsModel", "priceItem", "()V"⟩, 21) := ⟨⟨by decide +kernel, by decide +kernel⟩, List.mem_of_getElem? (i := 726) (by decide +kernel), List.mem_of_getElem? (i := 1186) (by decide +kernel), List.mem_of_getElem? (i := 1187) (by decide +kernel)⟩
theorem lw_p101 : lw_okq (⟨"WindowViewsModel", "wrong", "(I)I"⟩, 21) := ⟨⟨by decide +kernel, by decide +kernel⟩, List.mem_of_getElem? (i := 726) (by decide +kernel), List.mem_of_getElem? (i := 1213) (by decide +kernel), List.mem_of_getElem? (i := 1214) (by decide +kernel)⟩
theorem lw_p102 : lw_okq (⟨"WindowViewsModel", "heights", "()I"⟩, 21) := ⟨⟨by decide +kernel, by decide +kernel⟩, List.mem_of_getElem? (i := 726) (by decide +kernel), List.mem_of_getElem? (i := 1248) (by decide +kernel), List.mem_of_getElem? (i := 1249) (by decide +kernel)⟩
theorem lw_p103 : lw_okq (⟨"WindowViewsModel", "contracts", "()I"⟩, 21) := ⟨⟨by decide +kernel, by decide +kernel⟩, List.mem_of_getElem? (i := 726) (by decide +kernel), List.mem_of_getElem? (i := 1252) (by decide +kernel), List.mem_of_getElem? (i := 1253) (by decide +kernel)⟩
theorem lw_p104 : lw_okq (⟨"WindowViewsModel", "held", "()I"⟩, 21) := ⟨⟨by decide +kernel, by decide +kernel⟩, List.mem_of_getElem? (i := 726) (by decide +kernel), List.mem_of_getElem? (i := 1256) (by decide +kernel), List.mem_of_getElem? (i := 1257) (by decide +kernel)⟩
def lw_privs_7 : List (MethodName × Nat) := [(⟨"WindowViewsModel", "lotTold", "(Z)V"⟩, 21), (⟨"WindowViewsModel", "numberBehind", "(JI)I"⟩, 21), (⟨"WindowViewsModel", "number", "(II)V"⟩, 21), (⟨"WindowViewsModel", "windowItem", "()V"⟩, 21), (⟨"WindowViewsModel", "priceItem", "()V"⟩, 21), (⟨"WindowViewsModel", "wrong", "(I)I"⟩, 21), (⟨"WindowViewsModel", "heights", "()I"⟩, 21), (⟨"WindowViewsModel", "contracts", "()I"⟩, 21), (⟨"WindowViewsModel", "held", "()I"⟩, 21)]
theorem lw_r7 : ∀ q ∈ lw_privs_7, lw_okq q := List.forall_mem_cons.mpr ⟨lw_p96, List.forall_mem_cons.mpr ⟨lw_p97, List.forall_mem_cons.mpr ⟨lw_p98, List.forall_mem_cons.mpr ⟨lw_p99, List.forall_mem_cons.mpr ⟨lw_p100, List.forall_mem_cons.mpr ⟨lw_p101, List.forall_mem_cons.mpr ⟨lw_p102, List.forall_mem_cons.mpr ⟨lw_p103, List.forall_mem_cons.mpr ⟨lw_p104, fun _ h => absurd h List.not_mem_nil⟩⟩⟩⟩⟩⟩⟩⟩⟩
def lw_privs : List (MethodName × Nat) := lw_privs_1 ++ (lw_privs_2 ++ (lw_privs_3 ++ (lw_privs_4 ++ (lw_privs_5 ++ (lw_privs_6 ++ (lw_privs_7))))))
def lw_tbl : List Cond := k2_sels lw_privs ++ tables_1
theorem lw_privs_ok : ∀ q ∈ lw_privs, lw_okq q := by
  show ∀ q ∈ lw_privs_1 ++ (lw_privs_2 ++ (lw_privs_3 ++ (lw_privs_4 ++ (lw_privs_5 ++ (lw_privs_6 ++ (lw_privs_7)))))), lw_okq q
  exact List.forall_mem_append.mpr ⟨lw_r1, List.forall_mem_append.mpr ⟨lw_r2, List.forall_mem_append.mpr ⟨lw_r3, List.forall_mem_append.mpr ⟨lw_r4, List.forall_mem_append.mpr ⟨lw_r5, List.forall_mem_append.mpr ⟨lw_r6, lw_r7⟩⟩⟩⟩⟩⟩
-- ===== end of PART A; then your names; then what follows =====
def RX0 : String := "WindowViews$Glance"
def TX0 : u_T := fun k => match k with
  | 0 => ("WindowViews$Glance", "lotsAway", "[I", true)
  | 1 => ("WindowViews$Glance", "tops", "[I", true)
  | _ => ("WindowViews$Glance", "lowest", "[I", true)
def tyX0 : Nat → FieldType := fun k => match k with
  | 0 => .array .int
  | 1 => .array .int
  | _ => .array .int
theorem nmX0 : ∀ a, a < 3 → ∀ b, b < 3 → a ≠ b → (TX0 a).2.1 ≠ (TX0 b).2.1 := by decide +kernel
theorem tyX0_ok : ∀ k, k < 3 → parseFieldDescriptor (TX0 k).2.2.1 = some (tyX0 k) := by decide +kernel
abbrev cX0_init : ByteArray := prog_2_method_1_code
def yX0_init : MethodName := ⟨RX0, "<init>", "()V"⟩
abbrev cX0_look : ByteArray := prog_2_method_2_code
def yX0_look : MethodName := ⟨RX0, "look", "(LWindowViews$Town;I)V"⟩
abbrev cX0_nextLot : ByteArray := prog_2_method_3_code
def yX0_nextLot : MethodName := ⟨RX0, "nextLot", "(II)I"⟩
abbrev cX0_lowestSeen : ByteArray := prog_2_method_4_code
def yX0_lowestSeen : MethodName := ⟨RX0, "lowestSeen", "(II)I"⟩
abbrev cX0_squares : ByteArray := prog_2_method_5_code
def yX0_squares : MethodName := ⟨RX0, "squares", "(I)I"⟩
abbrev cX0_squareSet : ByteArray := prog_2_method_6_code
def yX0_squareSet : MethodName := ⟨RX0, "squareSet", "(I)I"⟩
abbrev cX0_squaresInView : ByteArray := prog_2_method_7_code
def yX0_squaresInView : MethodName := ⟨RX0, "squaresInView", "(LWindowViews$Town;I)I"⟩
abbrev cX0_squaresInAllViews : ByteArray := prog_2_method_8_code
def yX0_squaresInAllViews : MethodName := ⟨RX0, "squaresInAllViews", "(LWindowViews$Town;)I"⟩
abbrev cX0_squaresOfOwner : ByteArray := prog_2_method_9_code
def yX0_squaresOfOwner : MethodName := ⟨RX0, "squaresOfOwner", "(LWindowViews$Town;II)I"⟩
abbrev cX0_lotSet : ByteArray := prog_2_method_10_code
def yX0_lotSet : MethodName := ⟨RX0, "lotSet", "(LWindowViews$Town;I)I"⟩
abbrev cX0_pay : ByteArray := prog_2_method_11_code
def yX0_pay : MethodName := ⟨RX0, "pay", "(LWindowViews$Town;I[I)I"⟩
abbrev cX0_payAll : ByteArray := prog_2_method_12_code
def yX0_payAll : MethodName := ⟨RX0, "payAll", "(LWindowViews$Town;)I"⟩
abbrev cX0_gainsInto : ByteArray := prog_2_method_13_code
def yX0_gainsInto : MethodName := ⟨RX0, "gainsInto", "(LWindowViews$Town;[I)I"⟩
abbrev cX0_isBroken : ByteArray := prog_2_method_14_code
def yX0_isBroken : MethodName := ⟨RX0, "isBroken", "(LWindowViews$Town;I)Z"⟩
abbrev cX0_brokenSet : ByteArray := prog_2_method_15_code
def yX0_brokenSet : MethodName := ⟨RX0, "brokenSet", "(LWindowViews$Town;)I"⟩
def RX1 : String := "WindowViews$Sheets"
def TX1 : u_T := fun k => match k with
  | 0 => ("WindowViews$Sheets", "numbers", "[[I", true)
  | 1 => ("WindowViews$Sheets", "bits", "[I", true)
  | _ => ("WindowViews$Sheets", "lengths", "[I", true)
def tyX1 : Nat → FieldType := fun k => match k with
  | 0 => .array (.array .int)
  | 1 => .array .int
  | _ => .array .int
theorem nmX1 : ∀ a, a < 3 → ∀ b, b < 3 → a ≠ b → (TX1 a).2.1 ≠ (TX1 b).2.1 := by decide +kernel
theorem tyX1_ok : ∀ k, k < 3 → parseFieldDescriptor (TX1 k).2.2.1 = some (tyX1 k) := by decide +kernel
abbrev cX1_init : ByteArray := prog_3_method_1_code
def yX1_init : MethodName := ⟨RX1, "<init>", "()V"⟩
abbrev cX1_isMissing : ByteArray := prog_3_method_2_code
def yX1_isMissing : MethodName := ⟨RX1, "isMissing", "(I)Z"⟩
abbrev cX1_begin : ByteArray := prog_3_method_3_code
def yX1_begin : MethodName := ⟨RX1, "begin", "(III)V"⟩
abbrev cX1_store : ByteArray := prog_3_method_4_code
def yX1_store : MethodName := ⟨RX1, "store", "(III)V"⟩
abbrev cX1_hasRange : ByteArray := prog_3_method_5_code
def yX1_hasRange : MethodName := ⟨RX1, "hasRange", "(III)Z"⟩
def RX2 : String := "WindowViews$Tape"
def TX2 : u_T := fun k => match k with
  | 0 => ("WindowViews$Tape", "bytes", "[I", true)
  | 1 => ("WindowViews$Tape", "length", "I", false)
  | 2 => ("WindowViews$Tape", "sort", "I", false)
  | 3 => ("WindowViews$Tape", "begin", "I", false)
  | 4 => ("WindowViews$Tape", "end", "I", false)
  | 5 => ("WindowViews$Tape", "number", "I", false)
  | _ => ("WindowViews$Tape", "fault", "I", false)
def tyX2 : Nat → FieldType := fun k => match k with
  | 0 => .array .int
  | 1 => .int
  | 2 => .int
  | 3 => .int
  | 4 => .int
  | 5 => .int
  | _ => .int
theorem nmX2 : ∀ a, a < 7 → ∀ b, b < 7 → a ≠ b → (TX2 a).2.1 ≠ (TX2 b).2.1 := by decide +kernel
theorem tyX2_ok : ∀ k, k < 7 → parseFieldDescriptor (TX2 k).2.2.1 = some (tyX2 k) := by decide +kernel
abbrev cX2_init : ByteArray := prog_4_method_1_code
def yX2_init : MethodName := ⟨RX2, "<init>", "()V"⟩
abbrev cX2_append : ByteArray := prog_4_method_2_code
def yX2_append : MethodName := ⟨RX2, "append", "(I)V"⟩
abbrev cX2_readText : ByteArray := prog_4_method_3_code
def yX2_readText : MethodName := ⟨RX2, "readText", "(LWindowViews$Town;)I"⟩
abbrev cX2_readItem : ByteArray := prog_4_method_4_code
def yX2_readItem : MethodName := ⟨RX2, "readItem", "(LWindowViews$Town;)V"⟩
abbrev cX2_readThing : ByteArray := prog_4_method_5_code
def yX2_readThing : MethodName := ⟨RX2, "readThing", "(LWindowViews$Town;I)V"⟩
abbrev cX2_readWindow : ByteArray := prog_4_method_6_code
def yX2_readWindow : MethodName := ⟨RX2, "readWindow", "(LWindowViews$Town;)V"⟩
abbrev cX2_readPrice : ByteArray := prog_4_method_7_code
def yX2_readPrice : MethodName := ⟨RX2, "readPrice", "(LWindowViews$Town;)V"⟩
abbrev cX2_readClear : ByteArray := prog_4_method_8_code
def yX2_readClear : MethodName := ⟨RX2, "readClear", "(LWindowViews$Town;)V"⟩
abbrev cX2_failHere : ByteArray := prog_4_method_9_code
def yX2_failHere : MethodName := ⟨RX2, "failHere", "()V"⟩
abbrev cX2_takeWord : ByteArray := prog_4_method_10_code
def yX2_takeWord : MethodName := ⟨RX2, "takeWord", "(Ljava/lang/String;)V"⟩
abbrev cX2_takeNumber : ByteArray := prog_4_method_11_code
def yX2_takeNumber : MethodName := ⟨RX2, "takeNumber", "(I)I"⟩
abbrev cX2_takeLot : ByteArray := prog_4_method_12_code
def yX2_takeLot : MethodName := ⟨RX2, "takeLot", "(LWindowViews$Town;Z)I"⟩
abbrev cX2_kindOfWord : ByteArray := prog_4_method_13_code
def yX2_kindOfWord : MethodName := ⟨RX2, "kindOfWord", "()I"⟩
abbrev cX2_isWord : ByteArray := prog_4_method_14_code
def yX2_isWord : MethodName := ⟨RX2, "isWord", "(Ljava/lang/String;)Z"⟩
abbrev cX2_nextToken : ByteArray := prog_4_method_15_code
def yX2_nextToken : MethodName := ⟨RX2, "nextToken", "()V"⟩
abbrev cX2_sortAt : ByteArray := prog_4_method_16_code
def yX2_sortAt : MethodName := ⟨RX2, "sortAt", "(I)I"⟩
def RX3 : String := "WindowViews$Town"
def TX3 : u_T := fun k => match k with
  | 0 => ("WindowViews$Town", "things", "[[I", true)
  | 1 => ("WindowViews$Town", "windows", "[[I", true)
  | 2 => ("WindowViews$Town", "paintPrices", "[I", true)
  | 3 => ("WindowViews$Town", "purses", "[I", true)
  | 4 => ("WindowViews$Town", "spots", "[I", true)
  | 5 => ("WindowViews$Town", "windowCount", "I", false)
  | 6 => ("WindowViews$Town", "month", "I", false)
  | _ => ("WindowViews$Town", "z", "I", false)
def tyX3 : Nat → FieldType := fun k => match k with
  | 0 => .array (.array .int)
  | 1 => .array (.array .int)
  | 2 => .array .int
  | 3 => .array .int
  | 4 => .array .int
  | 5 => .int
  | 6 => .int
  | _ => .int
theorem nmX3 : ∀ a, a < 8 → ∀ b, b < 8 → a ≠ b → (TX3 a).2.1 ≠ (TX3 b).2.1 := by decide +kernel
theorem tyX3_ok : ∀ k, k < 8 → parseFieldDescriptor (TX3 k).2.2.1 = some (tyX3 k) := by decide +kernel
abbrev cX3_init : ByteArray := prog_5_method_1_code
def yX3_init : MethodName := ⟨RX3, "<init>", "()V"⟩
abbrev cX3_become : ByteArray := prog_5_method_2_code
def yX3_become : MethodName := ⟨RX3, "become", "(LWindowViews$Town;)V"⟩
abbrev cX3_isTaken : ByteArray := prog_5_method_3_code
def yX3_isTaken : MethodName := ⟨RX3, "isTaken", "(I)Z"⟩
abbrev cX3_isOwnersLot : ByteArray := prog_5_method_4_code
def yX3_isOwnersLot : MethodName := ⟨RX3, "isOwnersLot", "(II)Z"⟩
abbrev cX3_put : ByteArray := prog_5_method_5_code
def yX3_put : MethodName := ⟨RX3, "put", "(IIIII)V"⟩
abbrev cX3_takeOff : ByteArray := prog_5_method_6_code
def yX3_takeOff : MethodName := ⟨RX3, "takeOff", "(I)V"⟩
abbrev cX3_exchange : ByteArray := prog_5_method_7_code
def yX3_exchange : MethodName := ⟨RX3, "exchange", "(II)V"⟩
abbrev cX3_lower : ByteArray := prog_5_method_8_code
def yX3_lower : MethodName := ⟨RX3, "lower", "(I)I"⟩
abbrev cX3_addWindow : ByteArray := prog_5_method_9_code
def yX3_addWindow : MethodName := ⟨RX3, "addWindow", "(IIII)V"⟩
abbrev cX3_isSummer : ByteArray := prog_5_method_10_code
def yX3_isSummer : MethodName := ⟨RX3, "isSummer", "()Z"⟩
abbrev cX3_standing : ByteArray := prog_5_method_11_code
def yX3_standing : MethodName := ⟨RX3, "standing", "(I)I"⟩
abbrev cX3_growth : ByteArray := prog_5_method_12_code
def yX3_growth : MethodName := ⟨RX3, "growth", "(I)I"⟩
abbrev cX3_squarePrice : ByteArray := prog_5_method_13_code
def yX3_squarePrice : MethodName := ⟨RX3, "squarePrice", "(I)I"⟩
abbrev cX3_growAll : ByteArray := prog_5_method_14_code
def yX3_growAll : MethodName := ⟨RX3, "growAll", "()V"⟩
abbrev cX3_draw : ByteArray := prog_5_method_15_code
def yX3_draw : MethodName := ⟨RX3, "draw", "()I"⟩
abbrev cX3_lotOfThing : ByteArray := prog_5_method_16_code
def yX3_lotOfThing : MethodName := ⟨RX3, "lotOfThing", "(I)I"⟩
abbrev cX3_thingCount : ByteArray := prog_5_method_17_code
def yX3_thingCount : MethodName := ⟨RX3, "thingCount", "()I"⟩
abbrev cX3_heightOfAll : ByteArray := prog_5_method_18_code
def yX3_heightOfAll : MethodName := ⟨RX3, "heightOfAll", "()I"⟩
abbrev cX3_contractCount : ByteArray := prog_5_method_19_code
def yX3_contractCount : MethodName := ⟨RX3, "contractCount", "()I"⟩
abbrev cX3_spotsInUse : ByteArray := prog_5_method_20_code
def yX3_spotsInUse : MethodName := ⟨RX3, "spotsInUse", "()I"⟩
def RX4 : String := "WindowViews"
def TX4 : u_T := fun k => match k with
  | 0 => ("WindowViews", "town", "LWindowViews$Town;", true)
  | 1 => ("WindowViews", "kept", "LWindowViews$Town;", true)
  | 2 => ("WindowViews", "trial", "LWindowViews$Town;", true)
  | 3 => ("WindowViews", "glance", "LWindowViews$Glance;", true)
  | 4 => ("WindowViews", "tape", "LWindowViews$Tape;", true)
  | 5 => ("WindowViews", "sheets", "LWindowViews$Sheets;", true)
  | 6 => ("WindowViews", "told", "[I", true)
  | 7 => ("WindowViews", "gainsBefore", "[I", true)
  | 8 => ("WindowViews", "gainsAfter", "[I", true)
  | 9 => ("WindowViews", "spareRow", "[I", true)
  | _ => ("WindowViews", "imageKept", "Z", false)
def tyX4 : Nat → FieldType := fun k => match k with
  | 0 => .object "WindowViews$Town"
  | 1 => .object "WindowViews$Town"
  | 2 => .object "WindowViews$Town"
  | 3 => .object "WindowViews$Glance"
  | 4 => .object "WindowViews$Tape"
  | 5 => .object "WindowViews$Sheets"
  | 6 => .array .int
  | 7 => .array .int
  | 8 => .array .int
  | 9 => .array .int
  | _ => .boolean
theorem nmX4 : ∀ a, a < 11 → ∀ b, b < 11 → a ≠ b → (TX4 a).2.1 ≠ (TX4 b).2.1 := by decide +kernel
theorem tyX4_ok : ∀ k, k < 11 → parseFieldDescriptor (TX4 k).2.2.1 = some (tyX4 k) := by decide +kernel
abbrev cX4_init : ByteArray := prog_1_method_1_code
def yX4_init : MethodName := ⟨RX4, "<init>", "()V"⟩
abbrev cX4_build : ByteArray := prog_1_method_2_code
def yX4_build : MethodName := ⟨RX4, "build", "(IIII)I"⟩
abbrev cX4_clear : ByteArray := prog_1_method_3_code
def yX4_clear : MethodName := ⟨RX4, "clear", "(I)I"⟩
abbrev cX4_of : ByteArray := prog_1_method_4_code
def yX4_of : MethodName := ⟨RX4, "of", "(II)I"⟩
abbrev cX4_change : ByteArray := prog_1_method_5_code
def yX4_change : MethodName := ⟨RX4, "change", "(III)I"⟩
abbrev cX4_price : ByteArray := prog_1_method_6_code
def yX4_price : MethodName := ⟨RX4, "price", "(II)I"⟩
abbrev cX4_window : ByteArray := prog_1_method_7_code
def yX4_window : MethodName := ⟨RX4, "window", "(IIII)I"⟩
abbrev cX4_windowOf : ByteArray := prog_1_method_8_code
def yX4_windowOf : MethodName := ⟨RX4, "windowOf", "(II)I"⟩
abbrev cX4_turn : ByteArray := prog_1_method_9_code
def yX4_turn : MethodName := ⟨RX4, "turn", "(III)I"⟩
abbrev cX4_contract : ByteArray := prog_1_method_10_code
def yX4_contract : MethodName := ⟨RX4, "contract", "(III)I"⟩
abbrev cX4_purse : ByteArray := prog_1_method_11_code
def yX4_purse : MethodName := ⟨RX4, "purse", "(I)I"⟩
abbrev cX4_sees : ByteArray := prog_1_method_12_code
def yX4_sees : MethodName := ⟨RX4, "sees", "(II)I"⟩
abbrev cX4_view : ByteArray := prog_1_method_13_code
def yX4_view : MethodName := ⟨RX4, "view", "(I)I"⟩
abbrev cX4_share : ByteArray := prog_1_method_14_code
def yX4_share : MethodName := ⟨RX4, "share", "(II)I"⟩
abbrev cX4_lots : ByteArray := prog_1_method_15_code
def yX4_lots : MethodName := ⟨RX4, "lots", "(I)I"⟩
abbrev cX4_watched : ByteArray := prog_1_method_16_code
def yX4_watched : MethodName := ⟨RX4, "watched", "(I)I"⟩
abbrev cX4_rent : ByteArray := prog_1_method_17_code
def yX4_rent : MethodName := ⟨RX4, "rent", "(I)I"⟩
abbrev cX4_gain : ByteArray := prog_1_method_18_code
def yX4_gain : MethodName := ⟨RX4, "gain", "(I)I"⟩
abbrev cX4_broken : ByteArray := prog_1_method_19_code
def yX4_broken : MethodName := ⟨RX4, "broken", "()I"⟩
abbrev cX4_months : ByteArray := prog_1_method_20_code
def yX4_months : MethodName := ⟨RX4, "months", "(I)I"⟩
abbrev cX4_ahead : ByteArray := prog_1_method_21_code
def yX4_ahead : MethodName := ⟨RX4, "ahead", "(II)I"⟩
abbrev cX4_breach : ByteArray := prog_1_method_22_code
def yX4_breach : MethodName := ⟨RX4, "breach", "(I)I"⟩
abbrev cX4_blame : ByteArray := prog_1_method_23_code
def yX4_blame : MethodName := ⟨RX4, "blame", "(I)I"⟩
abbrev cX4_paint : ByteArray := prog_1_method_24_code
def yX4_paint : MethodName := ⟨RX4, "paint", "(I)I"⟩
abbrev cX4_height : ByteArray := prog_1_method_25_code
def yX4_height : MethodName := ⟨RX4, "height", "(I)I"⟩
abbrev cX4_storey : ByteArray := prog_1_method_26_code
def yX4_storey : MethodName := ⟨RX4, "storey", "(II)I"⟩
abbrev cX4_allowed : ByteArray := prog_1_method_27_code
def yX4_allowed : MethodName := ⟨RX4, "allowed", "(I)I"⟩
abbrev cX4_opens : ByteArray := prog_1_method_28_code
def yX4_opens : MethodName := ⟨RX4, "opens", "(I)I"⟩
abbrev cX4_level : ByteArray := prog_1_method_29_code
def yX4_level : MethodName := ⟨RX4, "level", "(I)I"⟩
abbrev cX4_cheapest : ByteArray := prog_1_method_30_code
def yX4_cheapest : MethodName := ⟨RX4, "cheapest", "(I)I"⟩
abbrev cX4_site : ByteArray := prog_1_method_31_code
def yX4_site : MethodName := ⟨RX4, "site", "(III)I"⟩
abbrev cX4_worst : ByteArray := prog_1_method_32_code
def yX4_worst : MethodName := ⟨RX4, "worst", "(I)I"⟩
abbrev cX4_trade : ByteArray := prog_1_method_33_code
def yX4_trade : MethodName := ⟨RX4, "trade", "(II)I"⟩
abbrev cX4_swap : ByteArray := prog_1_method_34_code
def yX4_swap : MethodName := ⟨RX4, "swap", "(II)I"⟩
abbrev cX4_spill : ByteArray := prog_1_method_35_code
def yX4_spill : MethodName := ⟨RX4, "spill", "(I)I"⟩
abbrev cX4_seed : ByteArray := prog_1_method_36_code
def yX4_seed : MethodName := ⟨RX4, "seed", "(I)I"⟩
abbrev cX4_feed : ByteArray := prog_1_method_37_code
def yX4_feed : MethodName := ⟨RX4, "feed", "(II)I"⟩
abbrev cX4_wipe : ByteArray := prog_1_method_38_code
def yX4_wipe : MethodName := ⟨RX4, "wipe", "()I"⟩
abbrev cX4_text : ByteArray := prog_1_method_39_code
def yX4_text : MethodName := ⟨RX4, "text", "()I"⟩
abbrev cX4_hold : ByteArray := prog_1_method_40_code
def yX4_hold : MethodName := ⟨RX4, "hold", "(II)I"⟩
abbrev cX4_as : ByteArray := prog_1_method_41_code
def yX4_as : MethodName := ⟨RX4, "as", "(II)I"⟩
abbrev cX4_sheet : ByteArray := prog_1_method_42_code
def yX4_sheet : MethodName := ⟨RX4, "sheet", "(III)I"⟩
abbrev cX4_write : ByteArray := prog_1_method_43_code
def yX4_write : MethodName := ⟨RX4, "write", "(III)I"⟩
abbrev cX4_copy : ByteArray := prog_1_method_44_code
def yX4_copy : MethodName := ⟨RX4, "copy", "(IIIII)I"⟩
abbrev cX4_load : ByteArray := prog_1_method_45_code
def yX4_load : MethodName := ⟨RX4, "load", "(II)I"⟩
abbrev cX4_judge : ByteArray := prog_1_method_46_code
def yX4_judge : MethodName := ⟨RX4, "judge", "(II)I"⟩
abbrev cX4_image : ByteArray := prog_1_method_47_code
def yX4_image : MethodName := ⟨RX4, "image", "()I"⟩
abbrev cX4_undo : ByteArray := prog_1_method_48_code
def yX4_undo : MethodName := ⟨RX4, "undo", "()I"⟩
abbrev cX4_tear : ByteArray := prog_1_method_49_code
def yX4_tear : MethodName := ⟨RX4, "tear", "()I"⟩
abbrev cX4_count : ByteArray := prog_1_method_50_code
def yX4_count : MethodName := ⟨RX4, "count", "(I)I"⟩
abbrev cX4_status : ByteArray := prog_1_method_51_code
def yX4_status : MethodName := ⟨RX4, "status", "(I)I"⟩
abbrev cX4_finding : ByteArray := prog_1_method_52_code
def yX4_finding : MethodName := ⟨RX4, "finding", "(I)I"⟩
abbrev cX4_within : ByteArray := prog_1_method_53_code
def yX4_within : MethodName := ⟨RX4, "within", "(II)Z"⟩
abbrev cX4_isWindow : ByteArray := prog_1_method_54_code
def yX4_isWindow : MethodName := ⟨RX4, "isWindow", "(I)Z"⟩
abbrev cX4_thingLimit : ByteArray := prog_1_method_55_code
def yX4_thingLimit : MethodName := ⟨RX4, "thingLimit", "(I)I"⟩
abbrev cX4_windowLimit : ByteArray := prog_1_method_56_code
def yX4_windowLimit : MethodName := ⟨RX4, "windowLimit", "(I)I"⟩
abbrev cX4_isOfKind : ByteArray := prog_1_method_57_code
def yX4_isOfKind : MethodName := ⟨RX4, "isOfKind", "(II)Z"⟩
abbrev cX4_kindAbove : ByteArray := prog_1_method_58_code
def yX4_kindAbove : MethodName := ⟨RX4, "kindAbove", "(I)I"⟩
abbrev cX4_passMonths : ByteArray := prog_1_method_59_code
def yX4_passMonths : MethodName := ⟨RX4, "passMonths", "(LWindowViews$Town;I)I"⟩
abbrev cX4_tryUntilBroken : ByteArray := prog_1_method_60_code
def yX4_tryUntilBroken : MethodName := ⟨RX4, "tryUntilBroken", "(I)I"⟩
abbrev cX4_isBrokenWithout : ByteArray := prog_1_method_61_code
def yX4_isBrokenWithout : MethodName := ⟨RX4, "isBrokenWithout", "(II)Z"⟩
abbrev cX4_bestFor : ByteArray := prog_1_method_62_code
def yX4_bestFor : MethodName := ⟨RX4, "bestFor", "(II)I"⟩
abbrev cX4_bothGainIfLower : ByteArray := prog_1_method_63_code
def yX4_bothGainIfLower : MethodName := ⟨RX4, "bothGainIfLower", "(II)Z"⟩
def RX5 : String := "WindowViewsModel"
def TX5 : u_T := fun k => match k with
  | 0 => ("WindowViewsModel", "s", "[I", true)
  | 1 => ("WindowViewsModel", "keptS", "[I", true)
  | 2 => ("WindowViewsModel", "other", "[I", true)
  | 3 => ("WindowViewsModel", "statuses", "[I", true)
  | 4 => ("WindowViewsModel", "isKept", "Z", false)
  | 5 => ("WindowViewsModel", "squares", "[I", true)
  | 6 => ("WindowViewsModel", "allSquares", "I", false)
  | 7 => ("WindowViewsModel", "rentHere", "I", false)
  | 8 => ("WindowViewsModel", "lotSet", "I", false)
  | 9 => ("WindowViewsModel", "gains", "[I", true)
  | 10 => ("WindowViewsModel", "hadGains", "[I", true)
  | 11 => ("WindowViewsModel", "tape", "[I", true)
  | 12 => ("WindowViewsModel", "taped", "I", false)
  | 13 => ("WindowViewsModel", "from", "I", false)
  | 14 => ("WindowViewsModel", "to", "I", false)
  | 15 => ("WindowViewsModel", "value", "I", false)
  | 16 => ("WindowViewsModel", "isWrong", "Z", false)
  | 17 => ("WindowViewsModel", "bitsOf", "[I", true)
  | 18 => ("WindowViewsModel", "sizeOf", "[I", true)
  | 19 => ("WindowViewsModel", "number", "[I", true)
  | _ => ("WindowViewsModel", "moved", "[I", true)
def tyX5 : Nat → FieldType := fun k => match k with
  | 0 => .array .int
  | 1 => .array .int
  | 2 => .array .int
  | 3 => .array .int
  | 4 => .boolean
  | 5 => .array .int
  | 6 => .int
  | 7 => .int
  | 8 => .int
  | 9 => .array .int
  | 10 => .array .int
  | 11 => .array .int
  | 12 => .int
  | 13 => .int
  | 14 => .int
  | 15 => .int
  | 16 => .boolean
  | 17 => .array .int
  | 18 => .array .int
  | 19 => .array .int
  | _ => .array .int
theorem nmX5 : ∀ a, a < 21 → ∀ b, b < 21 → a ≠ b → (TX5 a).2.1 ≠ (TX5 b).2.1 := by decide +kernel
theorem tyX5_ok : ∀ k, k < 21 → parseFieldDescriptor (TX5 k).2.2.1 = some (tyX5 k) := by decide +kernel
abbrev cX5_init : ByteArray := prog_7_method_1_code
def yX5_init : MethodName := ⟨RX5, "<init>", "()V"⟩
abbrev cX5_in : ByteArray := prog_7_method_2_code
def yX5_in : MethodName := ⟨RX5, "in", "(JJJ)Z"⟩
abbrev cX5_finds : ByteArray := prog_7_method_3_code
def yX5_finds : MethodName := ⟨RX5, "finds", "(I)I"⟩
abbrev cX5_isLot : ByteArray := prog_7_method_4_code
def yX5_isLot : MethodName := ⟨RX5, "isLot", "(I)Z"⟩
abbrev cX5_isOwner : ByteArray := prog_7_method_5_code
def yX5_isOwner : MethodName := ⟨RX5, "isOwner", "(I)Z"⟩
abbrev cX5_isHeight : ByteArray := prog_7_method_6_code
def yX5_isHeight : MethodName := ⟨RX5, "isHeight", "(I)Z"⟩
abbrev cX5_isWindow : ByteArray := prog_7_method_7_code
def yX5_isWindow : MethodName := ⟨RX5, "isWindow", "(I)Z"⟩
abbrev cX5_ones : ByteArray := prog_7_method_8_code
def yX5_ones : MethodName := ⟨RX5, "ones", "(I)I"⟩
abbrev cX5_draw : ByteArray := prog_7_method_9_code
def yX5_draw : MethodName := ⟨RX5, "draw", "()I"⟩
abbrev cX5_puts : ByteArray := prog_7_method_10_code
def yX5_puts : MethodName := ⟨RX5, "puts", "()V"⟩
abbrev cX5_putsBack : ByteArray := prog_7_method_11_code
def yX5_putsBack : MethodName := ⟨RX5, "putsBack", "()V"⟩
abbrev cX5_at : ByteArray := prog_7_method_12_code
def yX5_at : MethodName := ⟨RX5, "at", "(II)I"⟩
abbrev cX5_its : ByteArray := prog_7_method_13_code
def yX5_its : MethodName := ⟨RX5, "its", "(II)I"⟩
abbrev cX5_isThing : ByteArray := prog_7_method_14_code
def yX5_isThing : MethodName := ⟨RX5, "isThing", "(I)Z"⟩
abbrev cX5_things : ByteArray := prog_7_method_15_code
def yX5_things : MethodName := ⟨RX5, "things", "()I"⟩
abbrev cX5_builds : ByteArray := prog_7_method_16_code
def yX5_builds : MethodName := ⟨RX5, "builds", "(IIIII)V"⟩
abbrev cX5_build : ByteArray := prog_7_method_17_code
def yX5_build : MethodName := ⟨RX5, "build", "(IIII)I"⟩
abbrev cX5_lotWrong : ByteArray := prog_7_method_18_code
def yX5_lotWrong : MethodName := ⟨RX5, "lotWrong", "(I)I"⟩
abbrev cX5_clear : ByteArray := prog_7_method_19_code
def yX5_clear : MethodName := ⟨RX5, "clear", "(I)I"⟩
abbrev cX5_isSummer : ByteArray := prog_7_method_20_code
def yX5_isSummer : MethodName := ⟨RX5, "isSummer", "()Z"⟩
abbrev cX5_stands : ByteArray := prog_7_method_21_code
def yX5_stands : MethodName := ⟨RX5, "stands", "(I)I"⟩
abbrev cX5_grows : ByteArray := prog_7_method_22_code
def yX5_grows : MethodName := ⟨RX5, "grows", "(I)I"⟩
abbrev cX5_priceOf : ByteArray := prog_7_method_23_code
def yX5_priceOf : MethodName := ⟨RX5, "priceOf", "(I)I"⟩
abbrev cX5_of : ByteArray := prog_7_method_24_code
def yX5_of : MethodName := ⟨RX5, "of", "(II)I"⟩
abbrev cX5_change : ByteArray := prog_7_method_25_code
def yX5_change : MethodName := ⟨RX5, "change", "(III)I"⟩
abbrev cX5_price : ByteArray := prog_7_method_26_code
def yX5_price : MethodName := ⟨RX5, "price", "(II)I"⟩
abbrev cX5_where : ByteArray := prog_7_method_27_code
def yX5_where : MethodName := ⟨RX5, "where", "(II)I"⟩
abbrev cX5_told : ByteArray := prog_7_method_28_code
def yX5_told : MethodName := ⟨RX5, "told", "(II)I"⟩
abbrev cX5_newWindow : ByteArray := prog_7_method_29_code
def yX5_newWindow : MethodName := ⟨RX5, "newWindow", "(IIII)I"⟩
abbrev cX5_window : ByteArray := prog_7_method_30_code
def yX5_window : MethodName := ⟨RX5, "window", "(IIII)I"⟩
abbrev cX5_windowOf : ByteArray := prog_7_method_31_code
def yX5_windowOf : MethodName := ⟨RX5, "windowOf", "(II)I"⟩
abbrev cX5_turn : ByteArray := prog_7_method_32_code
def yX5_turn : MethodName := ⟨RX5, "turn", "(III)I"⟩
abbrev cX5_contract : ByteArray := prog_7_method_33_code
def yX5_contract : MethodName := ⟨RX5, "contract", "(III)I"⟩
abbrev cX5_purse : ByteArray := prog_7_method_34_code
def yX5_purse : MethodName := ⟨RX5, "purse", "(I)I"⟩
abbrev cX5_lotAt : ByteArray := prog_7_method_35_code
def yX5_lotAt : MethodName := ⟨RX5, "lotAt", "(III)I"⟩
abbrev cX5_seen : ByteArray := prog_7_method_36_code
def yX5_seen : MethodName := ⟨RX5, "seen", "(II)I"⟩
abbrev cX5_sees : ByteArray := prog_7_method_37_code
def yX5_sees : MethodName := ⟨RX5, "sees", "(II)I"⟩
abbrev cX5_looks : ByteArray := prog_7_method_38_code
def yX5_looks : MethodName := ⟨RX5, "looks", "(I)V"⟩
abbrev cX5_view : ByteArray := prog_7_method_39_code
def yX5_view : MethodName := ⟨RX5, "view", "(I)I"⟩
abbrev cX5_share : ByteArray := prog_7_method_40_code
def yX5_share : MethodName := ⟨RX5, "share", "(II)I"⟩
abbrev cX5_lots : ByteArray := prog_7_method_41_code
def yX5_lots : MethodName := ⟨RX5, "lots", "(I)I"⟩
abbrev cX5_watched : ByteArray := prog_7_method_42_code
def yX5_watched : MethodName := ⟨RX5, "watched", "(I)I"⟩
abbrev cX5_rent : ByteArray := prog_7_method_43_code
def yX5_rent : MethodName := ⟨RX5, "rent", "(I)I"⟩
abbrev cX5_findGains : ByteArray := prog_7_method_44_code
def yX5_findGains : MethodName := ⟨RX5, "findGains", "()I"⟩
abbrev cX5_gainOf : ByteArray := prog_7_method_45_code
def yX5_gainOf : MethodName := ⟨RX5, "gainOf", "(I)I"⟩
abbrev cX5_gain : ByteArray := prog_7_method_46_code
def yX5_gain : MethodName := ⟨RX5, "gain", "(I)I"⟩
abbrev cX5_isBroken : ByteArray := prog_7_method_47_code
def yX5_isBroken : MethodName := ⟨RX5, "isBroken", "(I)Z"⟩
abbrev cX5_brokenSet : ByteArray := prog_7_method_48_code
def yX5_brokenSet : MethodName := ⟨RX5, "brokenSet", "()I"⟩
abbrev cX5_broken : ByteArray := prog_7_method_49_code
def yX5_broken : MethodName := ⟨RX5, "broken", "()I"⟩
abbrev cX5_month : ByteArray := prog_7_method_50_code
def yX5_month : MethodName := ⟨RX5, "month", "()I"⟩
abbrev cX5_monthsGo : ByteArray := prog_7_method_51_code
def yX5_monthsGo : MethodName := ⟨RX5, "monthsGo", "(I)I"⟩
abbrev cX5_isTooLate : ByteArray := prog_7_method_52_code
def yX5_isTooLate : MethodName := ⟨RX5, "isTooLate", "(I)Z"⟩
abbrev cX5_months : ByteArray := prog_7_method_53_code
def yX5_months : MethodName := ⟨RX5, "months", "(I)I"⟩
abbrev cX5_allViews : ByteArray := prog_7_method_54_code
def yX5_allViews : MethodName := ⟨RX5, "allViews", "()I"⟩
abbrev cX5_ahead : ByteArray := prog_7_method_55_code
def yX5_ahead : MethodName := ⟨RX5, "ahead", "(II)I"⟩
abbrev cX5_breaks : ByteArray := prog_7_method_56_code
def yX5_breaks : MethodName := ⟨RX5, "breaks", "(I)I"⟩
abbrev cX5_isLate : ByteArray := prog_7_method_57_code
def yX5_isLate : MethodName := ⟨RX5, "isLate", "(I)Z"⟩
abbrev cX5_breach : ByteArray := prog_7_method_58_code
def yX5_breach : MethodName := ⟨RX5, "breach", "(I)I"⟩
abbrev cX5_blame : ByteArray := prog_7_method_59_code
def yX5_blame : MethodName := ⟨RX5, "blame", "(I)I"⟩
abbrev cX5_bestPart : ByteArray := prog_7_method_60_code
def yX5_bestPart : MethodName := ⟨RX5, "bestPart", "(III)I"⟩
abbrev cX5_paint : ByteArray := prog_7_method_61_code
def yX5_paint : MethodName := ⟨RX5, "paint", "(I)I"⟩
abbrev cX5_height : ByteArray := prog_7_method_62_code
def yX5_height : MethodName := ⟨RX5, "height", "(I)I"⟩
abbrev cX5_storey : ByteArray := prog_7_method_63_code
def yX5_storey : MethodName := ⟨RX5, "storey", "(II)I"⟩
abbrev cX5_allowed : ByteArray := prog_7_method_64_code
def yX5_allowed : MethodName := ⟨RX5, "allowed", "(I)I"⟩
abbrev cX5_viewOf : ByteArray := prog_7_method_65_code
def yX5_viewOf : MethodName := ⟨RX5, "viewOf", "(I)I"⟩
abbrev cX5_opens : ByteArray := prog_7_method_66_code
def yX5_opens : MethodName := ⟨RX5, "opens", "(I)I"⟩
abbrev cX5_level : ByteArray := prog_7_method_67_code
def yX5_level : MethodName := ⟨RX5, "level", "(I)I"⟩
abbrev cX5_cheapest : ByteArray := prog_7_method_68_code
def yX5_cheapest : MethodName := ⟨RX5, "cheapest", "(I)I"⟩
abbrev cX5_site : ByteArray := prog_7_method_69_code
def yX5_site : MethodName := ⟨RX5, "site", "(III)I"⟩
abbrev cX5_worst : ByteArray := prog_7_method_70_code
def yX5_worst : MethodName := ⟨RX5, "worst", "(I)I"⟩
abbrev cX5_isLowered : ByteArray := prog_7_method_71_code
def yX5_isLowered : MethodName := ⟨RX5, "isLowered", "(II)Z"⟩
abbrev cX5_trade : ByteArray := prog_7_method_72_code
def yX5_trade : MethodName := ⟨RX5, "trade", "(II)I"⟩
abbrev cX5_swap : ByteArray := prog_7_method_73_code
def yX5_swap : MethodName := ⟨RX5, "swap", "(II)I"⟩
abbrev cX5_spill : ByteArray := prog_7_method_74_code
def yX5_spill : MethodName := ⟨RX5, "spill", "(I)I"⟩
abbrev cX5_seed : ByteArray := prog_7_method_75_code
def yX5_seed : MethodName := ⟨RX5, "seed", "(I)I"⟩
abbrev cX5_feed : ByteArray := prog_7_method_76_code
def yX5_feed : MethodName := ⟨RX5, "feed", "(II)I"⟩
abbrev cX5_wipe : ByteArray := prog_7_method_77_code
def yX5_wipe : MethodName := ⟨RX5, "wipe", "()I"⟩
abbrev cX5_byteAt : ByteArray := prog_7_method_78_code
def yX5_byteAt : MethodName := ⟨RX5, "byteAt", "(I)I"⟩
abbrev cX5_isLetter : ByteArray := prog_7_method_79_code
def yX5_isLetter : MethodName := ⟨RX5, "isLetter", "(I)Z"⟩
abbrev cX5_isDigit : ByteArray := prog_7_method_80_code
def yX5_isDigit : MethodName := ⟨RX5, "isDigit", "(I)Z"⟩
abbrev cX5_token : ByteArray := prog_7_method_81_code
def yX5_token : MethodName := ⟨RX5, "token", "()V"⟩
abbrev cX5_needs : ByteArray := prog_7_method_82_code
def yX5_needs : MethodName := ⟨RX5, "needs", "(Z)V"⟩
abbrev cX5_word : ByteArray := prog_7_method_83_code
def yX5_word : MethodName := ⟨RX5, "word", "()J"⟩
abbrev cX5_number : ByteArray := prog_7_method_84_code
def yX5_number : MethodName := ⟨RX5, "number", "(II)V"⟩
abbrev cX5_kindHere : ByteArray := prog_7_method_85_code
def yX5_kindHere : MethodName := ⟨RX5, "kindHere", "()I"⟩
abbrev cX5_lotTold : ByteArray := prog_7_method_86_code
def yX5_lotTold : MethodName := ⟨RX5, "lotTold", "(Z)V"⟩
abbrev cX5_numberBehind : ByteArray := prog_7_method_87_code
def yX5_numberBehind : MethodName := ⟨RX5, "numberBehind", "(JI)I"⟩
abbrev cX5_thingItem : ByteArray := prog_7_method_88_code
def yX5_thingItem : MethodName := ⟨RX5, "thingItem", "(I)V"⟩
abbrev cX5_windowItem : ByteArray := prog_7_method_89_code
def yX5_windowItem : MethodName := ⟨RX5, "windowItem", "()V"⟩
abbrev cX5_priceItem : ByteArray := prog_7_method_90_code
def yX5_priceItem : MethodName := ⟨RX5, "priceItem", "()V"⟩
abbrev cX5_item : ByteArray := prog_7_method_91_code
def yX5_item : MethodName := ⟨RX5, "item", "()V"⟩
abbrev cX5_text : ByteArray := prog_7_method_92_code
def yX5_text : MethodName := ⟨RX5, "text", "()I"⟩
abbrev cX5_hold : ByteArray := prog_7_method_93_code
def yX5_hold : MethodName := ⟨RX5, "hold", "(II)I"⟩
abbrev cX5_as : ByteArray := prog_7_method_94_code
def yX5_as : MethodName := ⟨RX5, "as", "(II)I"⟩
abbrev cX5_isOne : ByteArray := prog_7_method_95_code
def yX5_isOne : MethodName := ⟨RX5, "isOne", "(I)Z"⟩
abbrev cX5_sheet : ByteArray := prog_7_method_96_code
def yX5_sheet : MethodName := ⟨RX5, "sheet", "(III)I"⟩
abbrev cX5_narrowed : ByteArray := prog_7_method_97_code
def yX5_narrowed : MethodName := ⟨RX5, "narrowed", "(II)I"⟩
abbrev cX5_wrong : ByteArray := prog_7_method_98_code
def yX5_wrong : MethodName := ⟨RX5, "wrong", "(I)I"⟩
abbrev cX5_write : ByteArray := prog_7_method_99_code
def yX5_write : MethodName := ⟨RX5, "write", "(III)I"⟩
abbrev cX5_copy : ByteArray := prog_7_method_100_code
def yX5_copy : MethodName := ⟨RX5, "copy", "(IIIII)I"⟩
abbrev cX5_load : ByteArray := prog_7_method_101_code
def yX5_load : MethodName := ⟨RX5, "load", "(II)I"⟩
abbrev cX5_judge : ByteArray := prog_7_method_102_code
def yX5_judge : MethodName := ⟨RX5, "judge", "(II)I"⟩
abbrev cX5_image : ByteArray := prog_7_method_103_code
def yX5_image : MethodName := ⟨RX5, "image", "()I"⟩
abbrev cX5_undo : ByteArray := prog_7_method_104_code
def yX5_undo : MethodName := ⟨RX5, "undo", "()I"⟩
abbrev cX5_tear : ByteArray := prog_7_method_105_code
def yX5_tear : MethodName := ⟨RX5, "tear", "()I"⟩
abbrev cX5_heights : ByteArray := prog_7_method_106_code
def yX5_heights : MethodName := ⟨RX5, "heights", "()I"⟩
abbrev cX5_contracts : ByteArray := prog_7_method_107_code
def yX5_contracts : MethodName := ⟨RX5, "contracts", "()I"⟩
abbrev cX5_held : ByteArray := prog_7_method_108_code
def yX5_held : MethodName := ⟨RX5, "held", "()I"⟩
abbrev cX5_count : ByteArray := prog_7_method_109_code
def yX5_count : MethodName := ⟨RX5, "count", "(I)I"⟩
abbrev cX5_status : ByteArray := prog_7_method_110_code
def yX5_status : MethodName := ⟨RX5, "status", "(I)I"⟩
def RJ6 : String := "java/lang/Integer"
def TJ6 : u_T := fun k => match k with
  | _ => ("", "", "", false)
def tyJ6 : Nat → FieldType := fun k => match k with
  | _ => .int
theorem nmJ6 : ∀ a, a < 0 → ∀ b, b < 0 → a ≠ b → (TJ6 a).2.1 ≠ (TJ6 b).2.1 := by decide +kernel
theorem tyJ6_ok : ∀ k, k < 0 → parseFieldDescriptor (TJ6 k).2.2.1 = some (tyJ6 k) := by decide +kernel
abbrev cJ6_compare_7cf53 : ByteArray := prog_8_method_40_code
def yJ6_compare_7cf53 : MethodName := ⟨RJ6, "compare", "(II)I"⟩
abbrev cJ6_bitCount_0f7a4 : ByteArray := prog_8_method_49_code
def yJ6_bitCount_0f7a4 : MethodName := ⟨RJ6, "bitCount", "(I)I"⟩
def RJ9 : String := "java/lang/Math"
def TJ9 : u_T := fun k => match k with
  | _ => ("", "", "", false)
def tyJ9 : Nat → FieldType := fun k => match k with
  | _ => .int
theorem nmJ9 : ∀ a, a < 0 → ∀ b, b < 0 → a ≠ b → (TJ9 a).2.1 ≠ (TJ9 b).2.1 := by decide +kernel
theorem tyJ9_ok : ∀ k, k < 0 → parseFieldDescriptor (TJ9 k).2.2.1 = some (tyJ9 k) := by decide +kernel
abbrev cJ9_floorDiv_7cf53 : ByteArray := prog_9_method_47_code
def yJ9_floorDiv_7cf53 : MethodName := ⟨RJ9, "floorDiv", "(II)I"⟩
abbrev cJ9_max_7cf53 : ByteArray := prog_9_method_65_code
def yJ9_max_7cf53 : MethodName := ⟨RJ9, "max", "(II)I"⟩
abbrev cJ9_min_7cf53 : ByteArray := prog_9_method_69_code
def yJ9_min_7cf53 : MethodName := ⟨RJ9, "min", "(II)I"⟩
def RJ0 : String := "java/lang/String"
def TJ0 : u_T := fun k => match k with
  | _ => ("", "", "", false)
def tyJ0 : Nat → FieldType := fun k => match k with
  | _ => .int
theorem nmJ0 : ∀ a, a < 0 → ∀ b, b < 0 → a ≠ b → (TJ0 a).2.1 ≠ (TJ0 b).2.1 := by decide +kernel
theorem tyJ0_ok : ∀ k, k < 0 → parseFieldDescriptor (TJ0 k).2.2.1 = some (tyJ0 k) := by decide +kernel
abbrev cJ0_length_8abf5 : ByteArray := prog_10_method_54_code
def yJ0_length_8abf5 : MethodName := ⟨RJ0, "length", "()I"⟩
abbrev cJ0_charAt_5068e : ByteArray := prog_10_method_56_code
def yJ0_charAt_5068e : MethodName := ⟨RJ0, "charAt", "(I)C"⟩
abbrev cJ0_coder_7d493 : ByteArray := prog_10_method_152_code
def yJ0_coder_7d493 : MethodName := ⟨RJ0, "coder", "()B"⟩
abbrev cJ0_isLatin1_aae02 : ByteArray := prog_10_method_154_code
def yJ0_isLatin1_aae02 : MethodName := ⟨RJ0, "isLatin1", "()Z"⟩
abbrev cJ0_checkIndex_df160 : ByteArray := prog_10_method_155_code
def yJ0_checkIndex_df160 : MethodName := ⟨RJ0, "checkIndex", "(II)V"⟩
def RJ1 : String := "java/lang/StringLatin1"
def TJ1 : u_T := fun k => match k with
  | _ => ("", "", "", false)
def tyJ1 : Nat → FieldType := fun k => match k with
  | _ => .int
theorem nmJ1 : ∀ a, a < 0 → ∀ b, b < 0 → a ≠ b → (TJ1 a).2.1 ≠ (TJ1 b).2.1 := by decide +kernel
theorem tyJ1_ok : ∀ k, k < 0 → parseFieldDescriptor (TJ1 k).2.2.1 = some (tyJ1 k) := by decide +kernel
abbrev cJ1_charAt_3b067 : ByteArray := prog_11_method_2_code
def yJ1_charAt_3b067 : MethodName := ⟨RJ1, "charAt", "([BI)C"⟩
def RJ2 : String := "java/lang/StringUTF16"
def TJ2 : u_T := fun k => match k with
  | _ => ("", "", "", false)
def tyJ2 : Nat → FieldType := fun k => match k with
  | _ => .int
theorem nmJ2 : ∀ a, a < 0 → ∀ b, b < 0 → a ≠ b → (TJ2 a).2.1 ≠ (TJ2 b).2.1 := by decide +kernel
theorem tyJ2_ok : ∀ k, k < 0 → parseFieldDescriptor (TJ2 k).2.2.1 = some (tyJ2 k) := by decide +kernel
abbrev cJ2_getChar_3b067 : ByteArray := prog_12_method_5_code
def yJ2_getChar_3b067 : MethodName := ⟨RJ2, "getChar", "([BI)C"⟩
abbrev cJ2_length_9d52b : ByteArray := prog_12_method_6_code
def yJ2_length_9d52b : MethodName := ⟨RJ2, "length", "([B)I"⟩
abbrev cJ2_charAt_3b067 : ByteArray := prog_12_method_83_code
def yJ2_charAt_3b067 : MethodName := ⟨RJ2, "charAt", "([BI)C"⟩
abbrev cJ2_checkIndex_2214a : ByteArray := prog_12_method_91_code
def yJ2_checkIndex_2214a : MethodName := ⟨RJ2, "checkIndex", "(I[B)V"⟩
def RJ10 : String := "java/lang/System"
def TJ10 : u_T := fun k => match k with
  | _ => ("", "", "", false)
def tyJ10 : Nat → FieldType := fun k => match k with
  | _ => .int
theorem nmJ10 : ∀ a, a < 0 → ∀ b, b < 0 → a ≠ b → (TJ10 a).2.1 ≠ (TJ10 b).2.1 := by decide +kernel
theorem tyJ10_ok : ∀ k, k < 0 → parseFieldDescriptor (TJ10 k).2.2.1 = some (tyJ10 k) := by decide +kernel
def RJ3 : String := "jdk/internal/util/Preconditions"
def TJ3 : u_T := fun k => match k with
  | _ => ("", "", "", false)
def tyJ3 : Nat → FieldType := fun k => match k with
  | _ => .int
theorem nmJ3 : ∀ a, a < 0 → ∀ b, b < 0 → a ≠ b → (TJ3 a).2.1 ≠ (TJ3 b).2.1 := by decide +kernel
theorem tyJ3_ok : ∀ k, k < 0 → parseFieldDescriptor (TJ3 k).2.2.1 = some (tyJ3 k) := by decide +kernel
abbrev cJ3_checkIndex_8e157 : ByteArray := prog_14_method_11_code
def yJ3_checkIndex_8e157 : MethodName := ⟨RJ3, "checkIndex", "(IILjava/util/function/BiFunction;)I"⟩
def RL : String := "WindowViewsLaw"
abbrev cL_law : ByteArray := code
def yL_law : MethodName := ⟨RL, "law", "([I)Z"⟩
