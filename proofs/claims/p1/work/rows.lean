section
-- ===== PART A: goes FIRST, ahead of the names: the tables' words, and 'selects' of the private methods out of them =====
/-- a private method of a class that the tables say can be made, by its rows of tables_1 -/
def lw_okq (q : MethodName × Nat) : Prop := (q.1.cls ≠ "java/lang/invoke/MethodHandle" ∧ q.1.cls ≠ "java/lang/invoke/VarHandle") ∧ Cond.instantiable q.1.cls q.2 ∈ tables_1 ∧ Cond.privateMethod q.1 ∈ tables_1 ∧ Cond.instanceMethod q.1 ∈ tables_1
theorem lw_p0 : lw_okq (⟨"TileHouse", "at", "(I)LTileHouse$Seat;"⟩, 19) := ⟨⟨by decide +kernel, by decide +kernel⟩, List.mem_of_getElem? (i := 16) (by decide +kernel), List.mem_of_getElem? (i := 303) (by decide +kernel), List.mem_of_getElem? (i := 304) (by decide +kernel)⟩
theorem lw_p1 : lw_okq (⟨"TileHouse", "drawTile", "(IZ)V"⟩, 19) := ⟨⟨by decide +kernel, by decide +kernel⟩, List.mem_of_getElem? (i := 16) (by decide +kernel), List.mem_of_getElem? (i := 326) (by decide +kernel), List.mem_of_getElem? (i := 327) (by decide +kernel)⟩
theorem lw_p2 : lw_okq (⟨"TileHouse", "mayThrow", "(I)Z"⟩, 19) := ⟨⟨by decide +kernel, by decide +kernel⟩, List.mem_of_getElem? (i := 16) (by decide +kernel), List.mem_of_getElem? (i := 343) (by decide +kernel), List.mem_of_getElem? (i := 344) (by decide +kernel)⟩
theorem lw_p3 : lw_okq (⟨"TileHouse", "mayBet", "(LTileHouse$Seat;)Z"⟩, 19) := ⟨⟨by decide +kernel, by decide +kernel⟩, List.mem_of_getElem? (i := 16) (by decide +kernel), List.mem_of_getElem? (i := 359) (by decide +kernel), List.mem_of_getElem? (i := 360) (by decide +kernel)⟩
theorem lw_p4 : lw_okq (⟨"TileHouse$Tiles", "isSetsAndPair", "()Z"⟩, 6) := ⟨⟨by decide +kernel, by decide +kernel⟩, List.mem_of_getElem? (i := 118) (by decide +kernel), List.mem_of_getElem? (i := 396) (by decide +kernel), List.mem_of_getElem? (i := 397) (by decide +kernel)⟩
theorem lw_p5 : lw_okq (⟨"TileHouse$Tiles", "splitsBeside", "(I)Z"⟩, 6) := ⟨⟨by decide +kernel, by decide +kernel⟩, List.mem_of_getElem? (i := 118) (by decide +kernel), List.mem_of_getElem? (i := 400) (by decide +kernel), List.mem_of_getElem? (i := 401) (by decide +kernel)⟩
theorem lw_p6 : lw_okq (⟨"TileHouse", "someoneSays", "()Z"⟩, 19) := ⟨⟨by decide +kernel, by decide +kernel⟩, List.mem_of_getElem? (i := 16) (by decide +kernel), List.mem_of_getElem? (i := 416) (by decide +kernel), List.mem_of_getElem? (i := 417) (by decide +kernel)⟩
theorem lw_p7 : lw_okq (⟨"TileHouse", "winByTile", "()V"⟩, 19) := ⟨⟨by decide +kernel, by decide +kernel⟩, List.mem_of_getElem? (i := 16) (by decide +kernel), List.mem_of_getElem? (i := 420) (by decide +kernel), List.mem_of_getElem? (i := 421) (by decide +kernel)⟩
theorem lw_p8 : lw_okq (⟨"TileHouse", "weighHand", "(IZ)I"⟩, 19) := ⟨⟨by decide +kernel, by decide +kernel⟩, List.mem_of_getElem? (i := 16) (by decide +kernel), List.mem_of_getElem? (i := 424) (by decide +kernel), List.mem_of_getElem? (i := 425) (by decide +kernel)⟩
theorem lw_p9 : lw_okq (⟨"TileHouse", "toldForms", "(LTileHouse$Seat;Z)J"⟩, 19) := ⟨⟨by decide +kernel, by decide +kernel⟩, List.mem_of_getElem? (i := 16) (by decide +kernel), List.mem_of_getElem? (i := 428) (by decide +kernel), List.mem_of_getElem? (i := 429) (by decide +kernel)⟩
theorem lw_p10 : lw_okq (⟨"TileHouse", "firstDraw", "(IZ)J"⟩, 19) := ⟨⟨by decide +kernel, by decide +kernel⟩, List.mem_of_getElem? (i := 16) (by decide +kernel), List.mem_of_getElem? (i := 438) (by decide +kernel), List.mem_of_getElem? (i := 439) (by decide +kernel)⟩
theorem lw_p11 : lw_okq (⟨"TileHouse", "windOf", "(I)I"⟩, 19) := ⟨⟨by decide +kernel, by decide +kernel⟩, List.mem_of_getElem? (i := 16) (by decide +kernel), List.mem_of_getElem? (i := 457) (by decide +kernel), List.mem_of_getElem? (i := 458) (by decide +kernel)⟩
theorem lw_p12 : lw_okq (⟨"TileHouse$Judge", "toldOnes", "(J)J"⟩, 19) := ⟨⟨by decide +kernel, by decide +kernel⟩, List.mem_of_getElem? (i := 47) (by decide +kernel), List.mem_of_getElem? (i := 468) (by decide +kernel), List.mem_of_getElem? (i := 469) (by decide +kernel)⟩
theorem lw_p13 : lw_okq (⟨"TileHouse$Judge", "tileForms", "(J)J"⟩, 19) := ⟨⟨by decide +kernel, by decide +kernel⟩, List.mem_of_getElem? (i := 47) (by decide +kernel), List.mem_of_getElem? (i := 476) (by decide +kernel), List.mem_of_getElem? (i := 477) (by decide +kernel)⟩
theorem lw_p14 : lw_okq (⟨"TileHouse$Judge", "isNineGates", "(J)Z"⟩, 19) := ⟨⟨by decide +kernel, by decide +kernel⟩, List.mem_of_getElem? (i := 47) (by decide +kernel), List.mem_of_getElem? (i := 490) (by decide +kernel), List.mem_of_getElem? (i := 491) (by decide +kernel)⟩
theorem lw_p15 : lw_okq (⟨"TileHouse$Judge", "offer", "(JI)V"⟩, 19) := ⟨⟨by decide +kernel, by decide +kernel⟩, List.mem_of_getElem? (i := 47) (by decide +kernel), List.mem_of_getElem? (i := 496) (by decide +kernel), List.mem_of_getElem? (i := 497) (by decide +kernel)⟩
def lw_privs_1 : List (MethodName × Nat) := [(⟨"TileHouse", "at", "(I)LTileHouse$Seat;"⟩, 19), (⟨"TileHouse", "drawTile", "(IZ)V"⟩, 19), (⟨"TileHouse", "mayThrow", "(I)Z"⟩, 19), (⟨"TileHouse", "mayBet", "(LTileHouse$Seat;)Z"⟩, 19), (⟨"TileHouse$Tiles", "isSetsAndPair", "()Z"⟩, 6), (⟨"TileHouse$Tiles", "splitsBeside", "(I)Z"⟩, 6), (⟨"TileHouse", "someoneSays", "()Z"⟩, 19), (⟨"TileHouse", "winByTile", "()V"⟩, 19), (⟨"TileHouse", "weighHand", "(IZ)I"⟩, 19), (⟨"TileHouse", "toldForms", "(LTileHouse$Seat;Z)J"⟩, 19), (⟨"TileHouse", "firstDraw", "(IZ)J"⟩, 19), (⟨"TileHouse", "windOf", "(I)I"⟩, 19), (⟨"TileHouse$Judge", "toldOnes", "(J)J"⟩, 19), (⟨"TileHouse$Judge", "tileForms", "(J)J"⟩, 19), (⟨"TileHouse$Judge", "isNineGates", "(J)Z"⟩, 19), (⟨"TileHouse$Judge", "offer", "(JI)V"⟩, 19)]
theorem lw_r1 : ∀ q ∈ lw_privs_1, lw_okq q := List.forall_mem_cons.mpr ⟨lw_p0, List.forall_mem_cons.mpr ⟨lw_p1, List.forall_mem_cons.mpr ⟨lw_p2, List.forall_mem_cons.mpr ⟨lw_p3, List.forall_mem_cons.mpr ⟨lw_p4, List.forall_mem_cons.mpr ⟨lw_p5, List.forall_mem_cons.mpr ⟨lw_p6, List.forall_mem_cons.mpr ⟨lw_p7, List.forall_mem_cons.mpr ⟨lw_p8, List.forall_mem_cons.mpr ⟨lw_p9, List.forall_mem_cons.mpr ⟨lw_p10, List.forall_mem_cons.mpr ⟨lw_p11, List.forall_mem_cons.mpr ⟨lw_p12, List.forall_mem_cons.mpr ⟨lw_p13, List.forall_mem_cons.mpr ⟨lw_p14, List.forall_mem_cons.mpr ⟨lw_p15, fun _ h => absurd h List.not_mem_nil⟩⟩⟩⟩⟩⟩⟩⟩⟩⟩⟩⟩⟩⟩⟩⟩
theorem lw_p16 : lw_okq (⟨"TileHouse$Judge", "isBetter", "(IIIJ)Z"⟩, 19) := ⟨⟨by decide +kernel, by decide +kernel⟩, List.mem_of_getElem? (i := 47) (by decide +kernel), List.mem_of_getElem? (i := 518) (by decide +kernel), List.mem_of_getElem? (i := 519) (by decide +kernel)⟩
theorem lw_p17 : lw_okq (⟨"TileHouse$Judge", "findThrees", "()I"⟩, 19) := ⟨⟨by decide +kernel, by decide +kernel⟩, List.mem_of_getElem? (i := 47) (by decide +kernel), List.mem_of_getElem? (i := 524) (by decide +kernel), List.mem_of_getElem? (i := 525) (by decide +kernel)⟩
theorem lw_p18 : lw_okq (⟨"TileHouse$Judge", "chosenThrees", "(I)J"⟩, 19) := ⟨⟨by decide +kernel, by decide +kernel⟩, List.mem_of_getElem? (i := 47) (by decide +kernel), List.mem_of_getElem? (i := 528) (by decide +kernel), List.mem_of_getElem? (i := 529) (by decide +kernel)⟩
theorem lw_p19 : lw_okq (⟨"TileHouse$Judge", "fillWay", "(J)Z"⟩, 19) := ⟨⟨by decide +kernel, by decide +kernel⟩, List.mem_of_getElem? (i := 47) (by decide +kernel), List.mem_of_getElem? (i := 532) (by decide +kernel), List.mem_of_getElem? (i := 533) (by decide +kernel)⟩
theorem lw_p20 : lw_okq (⟨"TileHouse$Judge", "weighWay", "()V"⟩, 19) := ⟨⟨by decide +kernel, by decide +kernel⟩, List.mem_of_getElem? (i := 47) (by decide +kernel), List.mem_of_getElem? (i := 538) (by decide +kernel), List.mem_of_getElem? (i := 539) (by decide +kernel)⟩
theorem lw_p21 : lw_okq (⟨"TileHouse$Judge", "likeRuns", "()J"⟩, 19) := ⟨⟨by decide +kernel, by decide +kernel⟩, List.mem_of_getElem? (i := 47) (by decide +kernel), List.mem_of_getElem? (i := 542) (by decide +kernel), List.mem_of_getElem? (i := 543) (by decide +kernel)⟩
theorem lw_p22 : lw_okq (⟨"TileHouse$Judge", "setForms", "()J"⟩, 19) := ⟨⟨by decide +kernel, by decide +kernel⟩, List.mem_of_getElem? (i := 47) (by decide +kernel), List.mem_of_getElem? (i := 546) (by decide +kernel), List.mem_of_getElem? (i := 547) (by decide +kernel)⟩
theorem lw_p23 : lw_okq (⟨"TileHouse$Judge", "endForms", "()J"⟩, 19) := ⟨⟨by decide +kernel, by decide +kernel⟩, List.mem_of_getElem? (i := 47) (by decide +kernel), List.mem_of_getElem? (i := 553) (by decide +kernel), List.mem_of_getElem? (i := 554) (by decide +kernel)⟩
theorem lw_p24 : lw_okq (⟨"TileHouse$Judge", "mayHaveCompleted", "(I)Z"⟩, 19) := ⟨⟨by decide +kernel, by decide +kernel⟩, List.mem_of_getElem? (i := 47) (by decide +kernel), List.mem_of_getElem? (i := 559) (by decide +kernel), List.mem_of_getElem? (i := 560) (by decide +kernel)⟩
theorem lw_p25 : lw_okq (⟨"TileHouse$Judge", "weighCompleted", "(JI)V"⟩, 19) := ⟨⟨by decide +kernel, by decide +kernel⟩, List.mem_of_getElem? (i := 47) (by decide +kernel), List.mem_of_getElem? (i := 563) (by decide +kernel), List.mem_of_getElem? (i := 564) (by decide +kernel)⟩
theorem lw_p26 : lw_okq (⟨"TileHouse$Judge", "isHidden", "(II)Z"⟩, 19) := ⟨⟨by decide +kernel, by decide +kernel⟩, List.mem_of_getElem? (i := 47) (by decide +kernel), List.mem_of_getElem? (i := 567) (by decide +kernel), List.mem_of_getElem? (i := 568) (by decide +kernel)⟩
theorem lw_p27 : lw_okq (⟨"TileHouse$Judge", "pairFu", "()I"⟩, 19) := ⟨⟨by decide +kernel, by decide +kernel⟩, List.mem_of_getElem? (i := 47) (by decide +kernel), List.mem_of_getElem? (i := 571) (by decide +kernel), List.mem_of_getElem? (i := 572) (by decide +kernel)⟩
theorem lw_p28 : lw_okq (⟨"TileHouse$Judge", "waitFu", "(I)I"⟩, 19) := ⟨⟨by decide +kernel, by decide +kernel⟩, List.mem_of_getElem? (i := 47) (by decide +kernel), List.mem_of_getElem? (i := 575) (by decide +kernel), List.mem_of_getElem? (i := 576) (by decide +kernel)⟩
theorem lw_p29 : lw_okq (⟨"TileHouse$Judge", "fuOf", "(IZ)I"⟩, 19) := ⟨⟨by decide +kernel, by decide +kernel⟩, List.mem_of_getElem? (i := 47) (by decide +kernel), List.mem_of_getElem? (i := 579) (by decide +kernel), List.mem_of_getElem? (i := 580) (by decide +kernel)⟩
theorem lw_p30 : lw_okq (⟨"TileHouse", "recordWin", "(III)V"⟩, 19) := ⟨⟨by decide +kernel, by decide +kernel⟩, List.mem_of_getElem? (i := 16) (by decide +kernel), List.mem_of_getElem? (i := 589) (by decide +kernel), List.mem_of_getElem? (i := 590) (by decide +kernel)⟩
theorem lw_p31 : lw_okq (⟨"TileHouse", "endHand", "(ZZ)V"⟩, 19) := ⟨⟨by decide +kernel, by decide +kernel⟩, List.mem_of_getElem? (i := 16) (by decide +kernel), List.mem_of_getElem? (i := 593) (by decide +kernel), List.mem_of_getElem? (i := 594) (by decide +kernel)⟩
def lw_privs_2 : List (MethodName × Nat) := [(⟨"TileHouse$Judge", "isBetter", "(IIIJ)Z"⟩, 19), (⟨"TileHouse$Judge", "findThrees", "()I"⟩, 19), (⟨"TileHouse$Judge", "chosenThrees", "(I)J"⟩, 19), (⟨"TileHouse$Judge", "fillWay", "(J)Z"⟩, 19), (⟨"TileHouse$Judge", "weighWay", "()V"⟩, 19), (⟨"TileHouse$Judge", "likeRuns", "()J"⟩, 19), (⟨"TileHouse$Judge", "setForms", "()J"⟩, 19), (⟨"TileHouse$Judge", "endForms", "()J"⟩, 19), (⟨"TileHouse$Judge", "mayHaveCompleted", "(I)Z"⟩, 19), (⟨"TileHouse$Judge", "weighCompleted", "(JI)V"⟩, 19), (⟨"TileHouse$Judge", "isHidden", "(II)Z"⟩, 19), (⟨"TileHouse$Judge", "pairFu", "()I"⟩, 19), (⟨"TileHouse$Judge", "waitFu", "(I)I"⟩, 19), (⟨"TileHouse$Judge", "fuOf", "(IZ)I"⟩, 19), (⟨"TileHouse", "recordWin", "(III)V"⟩, 19), (⟨"TileHouse", "endHand", "(ZZ)V"⟩, 19)]
theorem lw_r2 : ∀ q ∈ lw_privs_2, lw_okq q := List.forall_mem_cons.mpr ⟨lw_p16, List.forall_mem_cons.mpr ⟨lw_p17, List.forall_mem_cons.mpr ⟨lw_p18, List.forall_mem_cons.mpr ⟨lw_p19, List.forall_mem_cons.mpr ⟨lw_p20, List.forall_mem_cons.mpr ⟨lw_p21, List.forall_mem_cons.mpr ⟨lw_p22, List.forall_mem_cons.mpr ⟨lw_p23, List.forall_mem_cons.mpr ⟨lw_p24, List.forall_mem_cons.mpr ⟨lw_p25, List.forall_mem_cons.mpr ⟨lw_p26, List.forall_mem_cons.mpr ⟨lw_p27, List.forall_mem_cons.mpr ⟨lw_p28, List.forall_mem_cons.mpr ⟨lw_p29, List.forall_mem_cons.mpr ⟨lw_p30, List.forall_mem_cons.mpr ⟨lw_p31, fun _ h => absurd h List.not_mem_nil⟩⟩⟩⟩⟩⟩⟩⟩⟩⟩⟩⟩⟩⟩⟩⟩
theorem lw_p32 : lw_okq (⟨"TileHouse", "someoneIsBroke", "()Z"⟩, 19) := ⟨⟨by decide +kernel, by decide +kernel⟩, List.mem_of_getElem? (i := 16) (by decide +kernel), List.mem_of_getElem? (i := 597) (by decide +kernel), List.mem_of_getElem? (i := 598) (by decide +kernel)⟩
theorem lw_p33 : lw_okq (⟨"TileHouse", "richest", "()I"⟩, 19) := ⟨⟨by decide +kernel, by decide +kernel⟩, List.mem_of_getElem? (i := 16) (by decide +kernel), List.mem_of_getElem? (i := 601) (by decide +kernel), List.mem_of_getElem? (i := 602) (by decide +kernel)⟩
theorem lw_p34 : lw_okq (⟨"TileHouse", "letTileGo", "()V"⟩, 19) := ⟨⟨by decide +kernel, by decide +kernel⟩, List.mem_of_getElem? (i := 16) (by decide +kernel), List.mem_of_getElem? (i := 605) (by decide +kernel), List.mem_of_getElem? (i := 606) (by decide +kernel)⟩
theorem lw_p35 : lw_okq (⟨"TileHouse", "makeFour", "(I)V"⟩, 19) := ⟨⟨by decide +kernel, by decide +kernel⟩, List.mem_of_getElem? (i := 16) (by decide +kernel), List.mem_of_getElem? (i := 610) (by decide +kernel), List.mem_of_getElem? (i := 611) (by decide +kernel)⟩
theorem lw_p36 : lw_okq (⟨"TileHouse", "breakHand", "()V"⟩, 19) := ⟨⟨by decide +kernel, by decide +kernel⟩, List.mem_of_getElem? (i := 16) (by decide +kernel), List.mem_of_getElem? (i := 614) (by decide +kernel), List.mem_of_getElem? (i := 615) (by decide +kernel)⟩
theorem lw_p37 : lw_okq (⟨"TileHouse", "endUnwon", "()V"⟩, 19) := ⟨⟨by decide +kernel, by decide +kernel⟩, List.mem_of_getElem? (i := 16) (by decide +kernel), List.mem_of_getElem? (i := 618) (by decide +kernel), List.mem_of_getElem? (i := 619) (by decide +kernel)⟩
theorem lw_p38 : lw_okq (⟨"TileHouse", "mayClaimSet", "(I)Z"⟩, 19) := ⟨⟨by decide +kernel, by decide +kernel⟩, List.mem_of_getElem? (i := 16) (by decide +kernel), List.mem_of_getElem? (i := 626) (by decide +kernel), List.mem_of_getElem? (i := 627) (by decide +kernel)⟩
theorem lw_p39 : lw_okq (⟨"TileHouse", "otherEnd", "(I)J"⟩, 19) := ⟨⟨by decide +kernel, by decide +kernel⟩, List.mem_of_getElem? (i := 16) (by decide +kernel), List.mem_of_getElem? (i := 634) (by decide +kernel), List.mem_of_getElem? (i := 635) (by decide +kernel)⟩
theorem lw_p40 : lw_okq (⟨"TileHouse", "takeSet", "(III)V"⟩, 19) := ⟨⟨by decide +kernel, by decide +kernel⟩, List.mem_of_getElem? (i := 16) (by decide +kernel), List.mem_of_getElem? (i := 643) (by decide +kernel), List.mem_of_getElem? (i := 644) (by decide +kernel)⟩
theorem lw_p41 : lw_okq (⟨"TileHouse", "mayMakeFour", "()Z"⟩, 19) := ⟨⟨by decide +kernel, by decide +kernel⟩, List.mem_of_getElem? (i := 16) (by decide +kernel), List.mem_of_getElem? (i := 666) (by decide +kernel), List.mem_of_getElem? (i := 667) (by decide +kernel)⟩
theorem lw_p42 : lw_okq (⟨"TileHouse", "isWin", "(I)Z"⟩, 19) := ⟨⟨by decide +kernel, by decide +kernel⟩, List.mem_of_getElem? (i := 16) (by decide +kernel), List.mem_of_getElem? (i := 714) (by decide +kernel), List.mem_of_getElem? (i := 715) (by decide +kernel)⟩
theorem lw_p43 : lw_okq (⟨"java/lang/Throwable", "fillInStackTrace", "(I)Ljava/lang/Throwable;"⟩, 6) := ⟨⟨by decide +kernel, by decide +kernel⟩, List.mem_of_getElem? (i := 808) (by decide +kernel), List.mem_of_getElem? (i := 806) (by decide +kernel), List.mem_of_getElem? (i := 807) (by decide +kernel)⟩
theorem lw_p44 : lw_okq (⟨"TileHouseModel", "gives", "(III)V"⟩, 68) := ⟨⟨by decide +kernel, by decide +kernel⟩, List.mem_of_getElem? (i := 850) (by decide +kernel), List.mem_of_getElem? (i := 1073) (by decide +kernel), List.mem_of_getElem? (i := 1074) (by decide +kernel)⟩
theorem lw_p45 : lw_okq (⟨"TileHouseModel", "draws", "(IZ)V"⟩, 68) := ⟨⟨by decide +kernel, by decide +kernel⟩, List.mem_of_getElem? (i := 850) (by decide +kernel), List.mem_of_getElem? (i := 1077) (by decide +kernel), List.mem_of_getElem? (i := 1078) (by decide +kernel)⟩
theorem lw_p46 : lw_okq (⟨"TileHouseModel", "has", "(II)I"⟩, 68) := ⟨⟨by decide +kernel, by decide +kernel⟩, List.mem_of_getElem? (i := 850) (by decide +kernel), List.mem_of_getElem? (i := 1088) (by decide +kernel), List.mem_of_getElem? (i := 1089) (by decide +kernel)⟩
theorem lw_p47 : lw_okq (⟨"TileHouseModel", "isOpen", "(I)Z"⟩, 68) := ⟨⟨by decide +kernel, by decide +kernel⟩, List.mem_of_getElem? (i := 850) (by decide +kernel), List.mem_of_getElem? (i := 1092) (by decide +kernel), List.mem_of_getElem? (i := 1093) (by decide +kernel)⟩
def lw_privs_3 : List (MethodName × Nat) := [(⟨"TileHouse", "someoneIsBroke", "()Z"⟩, 19), (⟨"TileHouse", "richest", "()I"⟩, 19), (⟨"TileHouse", "letTileGo", "()V"⟩, 19), (⟨"TileHouse", "makeFour", "(I)V"⟩, 19), (⟨"TileHouse", "breakHand", "()V"⟩, 19), (⟨"TileHouse", "endUnwon", "()V"⟩, 19), (⟨"TileHouse", "mayClaimSet", "(I)Z"⟩, 19), (⟨"TileHouse", "otherEnd", "(I)J"⟩, 19), (⟨"TileHouse", "takeSet", "(III)V"⟩, 19), (⟨"TileHouse", "mayMakeFour", "()Z"⟩, 19), (⟨"TileHouse", "isWin", "(I)Z"⟩, 19), (⟨"java/lang/Throwable", "fillInStackTrace", "(I)Ljava/lang/Throwable;"⟩, 6), (⟨"TileHouseModel", "gives", "(III)V"⟩, 68), (⟨"TileHouseModel", "draws", "(IZ)V"⟩, 68), (⟨"TileHouseModel", "has", "(II)I"⟩, 68), (⟨"TileHouseModel", "isOpen", "(I)Z"⟩, 68)]
theorem lw_r3 : ∀ q ∈ lw_privs_3, lw_okq q := List.forall_mem_cons.mpr ⟨lw_p32, List.forall_mem_cons.mpr ⟨lw_p33, List.forall_mem_cons.mpr ⟨lw_p34, List.forall_mem_cons.mpr ⟨lw_p35, List.forall_mem_cons.mpr ⟨lw_p36, List.forall_mem_cons.mpr ⟨lw_p37, List.forall_mem_cons.mpr ⟨lw_p38, List.forall_mem_cons.mpr ⟨lw_p39, List.forall_mem_cons.mpr ⟨lw_p40, List.forall_mem_cons.mpr ⟨lw_p41, List.forall_mem_cons.mpr ⟨lw_p42, List.forall_mem_cons.mpr ⟨lw_p43, List.forall_mem_cons.mpr ⟨lw_p44, List.forall_mem_cons.mpr ⟨lw_p45, List.forall_mem_cons.mpr ⟨lw_p46, List.forall_mem_cons.mpr ⟨lw_p47, fun _ h => absurd h List.not_mem_nil⟩⟩⟩⟩⟩⟩⟩⟩⟩⟩⟩⟩⟩⟩⟩⟩
theorem lw_p48 : lw_okq (⟨"TileHouseModel", "left", "()I"⟩, 68) := ⟨⟨by decide +kernel, by decide +kernel⟩, List.mem_of_getElem? (i := 850) (by decide +kernel), List.mem_of_getElem? (i := 1096) (by decide +kernel), List.mem_of_getElem? (i := 1097) (by decide +kernel)⟩
theorem lw_p49 : lw_okq (⟨"TileHouseModel", "waitsAt", "(I)J"⟩, 68) := ⟨⟨by decide +kernel, by decide +kernel⟩, List.mem_of_getElem? (i := 850) (by decide +kernel), List.mem_of_getElem? (i := 1100) (by decide +kernel), List.mem_of_getElem? (i := 1101) (by decide +kernel)⟩
theorem lw_p50 : lw_okq (⟨"TileHouseModel", "take", "(I)V"⟩, 68) := ⟨⟨by decide +kernel, by decide +kernel⟩, List.mem_of_getElem? (i := 850) (by decide +kernel), List.mem_of_getElem? (i := 1104) (by decide +kernel), List.mem_of_getElem? (i := 1105) (by decide +kernel)⟩
theorem lw_p51 : lw_okq (⟨"TileHouseModel", "waitsOf", "()J"⟩, 68) := ⟨⟨by decide +kernel, by decide +kernel⟩, List.mem_of_getElem? (i := 850) (by decide +kernel), List.mem_of_getElem? (i := 1108) (by decide +kernel), List.mem_of_getElem? (i := 1109) (by decide +kernel)⟩
theorem lw_p52 : lw_okq (⟨"TileHouseModel", "inHand", "()I"⟩, 68) := ⟨⟨by decide +kernel, by decide +kernel⟩, List.mem_of_getElem? (i := 850) (by decide +kernel), List.mem_of_getElem? (i := 1112) (by decide +kernel), List.mem_of_getElem? (i := 1113) (by decide +kernel)⟩
theorem lw_p53 : lw_okq (⟨"TileHouseModel", "of", "(I)I"⟩, 68) := ⟨⟨by decide +kernel, by decide +kernel⟩, List.mem_of_getElem? (i := 850) (by decide +kernel), List.mem_of_getElem? (i := 1116) (by decide +kernel), List.mem_of_getElem? (i := 1117) (by decide +kernel)⟩
theorem lw_p54 : lw_okq (⟨"TileHouseModel", "apart", "(Z)V"⟩, 68) := ⟨⟨by decide +kernel, by decide +kernel⟩, List.mem_of_getElem? (i := 850) (by decide +kernel), List.mem_of_getElem? (i := 1123) (by decide +kernel), List.mem_of_getElem? (i := 1124) (by decide +kernel)⟩
theorem lw_p55 : lw_okq (⟨"TileHouseModel", "sets", "(IIIZ)V"⟩, 68) := ⟨⟨by decide +kernel, by decide +kernel⟩, List.mem_of_getElem? (i := 850) (by decide +kernel), List.mem_of_getElem? (i := 1127) (by decide +kernel), List.mem_of_getElem? (i := 1128) (by decide +kernel)⟩
theorem lw_p56 : lw_okq (⟨"TileHouseModel", "way", "(I)V"⟩, 68) := ⟨⟨by decide +kernel, by decide +kernel⟩, List.mem_of_getElem? (i := 850) (by decide +kernel), List.mem_of_getElem? (i := 1131) (by decide +kernel), List.mem_of_getElem? (i := 1132) (by decide +kernel)⟩
theorem lw_p57 : lw_okq (⟨"TileHouseModel", "firstSort", "()V"⟩, 68) := ⟨⟨by decide +kernel, by decide +kernel⟩, List.mem_of_getElem? (i := 850) (by decide +kernel), List.mem_of_getElem? (i := 1135) (by decide +kernel), List.mem_of_getElem? (i := 1136) (by decide +kernel)⟩
theorem lw_p58 : lw_okq (⟨"TileHouseModel", "isOpen", "()Z"⟩, 68) := ⟨⟨by decide +kernel, by decide +kernel⟩, List.mem_of_getElem? (i := 850) (by decide +kernel), List.mem_of_getElem? (i := 1139) (by decide +kernel), List.mem_of_getElem? (i := 1140) (by decide +kernel)⟩
theorem lw_p59 : lw_okq (⟨"TileHouseModel", "isHidden", "(I)Z"⟩, 68) := ⟨⟨by decide +kernel, by decide +kernel⟩, List.mem_of_getElem? (i := 850) (by decide +kernel), List.mem_of_getElem? (i := 1143) (by decide +kernel), List.mem_of_getElem? (i := 1144) (by decide +kernel)⟩
theorem lw_p60 : lw_okq (⟨"TileHouseModel", "twins", "()V"⟩, 68) := ⟨⟨by decide +kernel, by decide +kernel⟩, List.mem_of_getElem? (i := 850) (by decide +kernel), List.mem_of_getElem? (i := 1153) (by decide +kernel), List.mem_of_getElem? (i := 1154) (by decide +kernel)⟩
theorem lw_p61 : lw_okq (⟨"TileHouseModel", "hasThree", "(I)Z"⟩, 68) := ⟨⟨by decide +kernel, by decide +kernel⟩, List.mem_of_getElem? (i := 850) (by decide +kernel), List.mem_of_getElem? (i := 1157) (by decide +kernel), List.mem_of_getElem? (i := 1158) (by decide +kernel)⟩
theorem lw_p62 : lw_okq (⟨"TileHouseModel", "hasRun", "(I)Z"⟩, 68) := ⟨⟨by decide +kernel, by decide +kernel⟩, List.mem_of_getElem? (i := 850) (by decide +kernel), List.mem_of_getElem? (i := 1161) (by decide +kernel), List.mem_of_getElem? (i := 1162) (by decide +kernel)⟩
theorem lw_p63 : lw_okq (⟨"TileHouseModel", "edges", "(I)V"⟩, 68) := ⟨⟨by decide +kernel, by decide +kernel⟩, List.mem_of_getElem? (i := 850) (by decide +kernel), List.mem_of_getElem? (i := 1165) (by decide +kernel), List.mem_of_getElem? (i := 1166) (by decide +kernel)⟩
def lw_privs_4 : List (MethodName × Nat) := [(⟨"TileHouseModel", "left", "()I"⟩, 68), (⟨"TileHouseModel", "waitsAt", "(I)J"⟩, 68), (⟨"TileHouseModel", "take", "(I)V"⟩, 68), (⟨"TileHouseModel", "waitsOf", "()J"⟩, 68), (⟨"TileHouseModel", "inHand", "()I"⟩, 68), (⟨"TileHouseModel", "of", "(I)I"⟩, 68), (⟨"TileHouseModel", "apart", "(Z)V"⟩, 68), (⟨"TileHouseModel", "sets", "(IIIZ)V"⟩, 68), (⟨"TileHouseModel", "way", "(I)V"⟩, 68), (⟨"TileHouseModel", "firstSort", "()V"⟩, 68), (⟨"TileHouseModel", "isOpen", "()Z"⟩, 68), (⟨"TileHouseModel", "isHidden", "(I)Z"⟩, 68), (⟨"TileHouseModel", "twins", "()V"⟩, 68), (⟨"TileHouseModel", "hasThree", "(I)Z"⟩, 68), (⟨"TileHouseModel", "hasRun", "(I)Z"⟩, 68), (⟨"TileHouseModel", "edges", "(I)V"⟩, 68)]
theorem lw_r4 : ∀ q ∈ lw_privs_4, lw_okq q := List.forall_mem_cons.mpr ⟨lw_p48, List.forall_mem_cons.mpr ⟨lw_p49, List.forall_mem_cons.mpr ⟨lw_p50, List.forall_mem_cons.mpr ⟨lw_p51, List.forall_mem_cons.mpr ⟨lw_p52, List.forall_mem_cons.mpr ⟨lw_p53, List.forall_mem_cons.mpr ⟨lw_p54, List.forall_mem_cons.mpr ⟨lw_p55, List.forall_mem_cons.mpr ⟨lw_p56, List.forall_mem_cons.mpr ⟨lw_p57, List.forall_mem_cons.mpr ⟨lw_p58, List.forall_mem_cons.mpr ⟨lw_p59, List.forall_mem_cons.mpr ⟨lw_p60, List.forall_mem_cons.mpr ⟨lw_p61, List.forall_mem_cons.mpr ⟨lw_p62, List.forall_mem_cons.mpr ⟨lw_p63, fun _ h => absurd h List.not_mem_nil⟩⟩⟩⟩⟩⟩⟩⟩⟩⟩⟩⟩⟩⟩⟩⟩
theorem lw_p64 : lw_okq (⟨"TileHouseModel", "tiles", "()V"⟩, 68) := ⟨⟨by decide +kernel, by decide +kernel⟩, List.mem_of_getElem? (i := 850) (by decide +kernel), List.mem_of_getElem? (i := 1178) (by decide +kernel), List.mem_of_getElem? (i := 1179) (by decide +kernel)⟩
theorem lw_p65 : lw_okq (⟨"TileHouseModel", "compare", "(Z)V"⟩, 68) := ⟨⟨by decide +kernel, by decide +kernel⟩, List.mem_of_getElem? (i := 850) (by decide +kernel), List.mem_of_getElem? (i := 1182) (by decide +kernel), List.mem_of_getElem? (i := 1183) (by decide +kernel)⟩
theorem lw_p66 : lw_okq (⟨"TileHouseModel", "pairsWay", "()V"⟩, 68) := ⟨⟨by decide +kernel, by decide +kernel⟩, List.mem_of_getElem? (i := 850) (by decide +kernel), List.mem_of_getElem? (i := 1195) (by decide +kernel), List.mem_of_getElem? (i := 1196) (by decide +kernel)⟩
theorem lw_p67 : lw_okq (⟨"TileHouseModel", "thirteen", "()V"⟩, 68) := ⟨⟨by decide +kernel, by decide +kernel⟩, List.mem_of_getElem? (i := 850) (by decide +kernel), List.mem_of_getElem? (i := 1199) (by decide +kernel), List.mem_of_getElem? (i := 1200) (by decide +kernel)⟩
theorem lw_p68 : lw_okq (⟨"TileHouseModel", "anySays", "()Z"⟩, 68) := ⟨⟨by decide +kernel, by decide +kernel⟩, List.mem_of_getElem? (i := 850) (by decide +kernel), List.mem_of_getElem? (i := 1207) (by decide +kernel), List.mem_of_getElem? (i := 1208) (by decide +kernel)⟩
theorem lw_p69 : lw_okq (⟨"TileHouseModel", "allWin", "()V"⟩, 68) := ⟨⟨by decide +kernel, by decide +kernel⟩, List.mem_of_getElem? (i := 850) (by decide +kernel), List.mem_of_getElem? (i := 1211) (by decide +kernel), List.mem_of_getElem? (i := 1212) (by decide +kernel)⟩
theorem lw_p70 : lw_okq (⟨"TileHouseModel", "value", "(IIZ)V"⟩, 68) := ⟨⟨by decide +kernel, by decide +kernel⟩, List.mem_of_getElem? (i := 850) (by decide +kernel), List.mem_of_getElem? (i := 1215) (by decide +kernel), List.mem_of_getElem? (i := 1216) (by decide +kernel)⟩
theorem lw_p71 : lw_okq (⟨"TileHouseModel", "windOf", "(I)I"⟩, 68) := ⟨⟨by decide +kernel, by decide +kernel⟩, List.mem_of_getElem? (i := 850) (by decide +kernel), List.mem_of_getElem? (i := 1219) (by decide +kernel), List.mem_of_getElem? (i := 1220) (by decide +kernel)⟩
theorem lw_p72 : lw_okq (⟨"TileHouseModel", "dearTiles", "(Z)I"⟩, 68) := ⟨⟨by decide +kernel, by decide +kernel⟩, List.mem_of_getElem? (i := 850) (by decide +kernel), List.mem_of_getElem? (i := 1223) (by decide +kernel), List.mem_of_getElem? (i := 1224) (by decide +kernel)⟩
theorem lw_p73 : lw_okq (⟨"TileHouseModel", "reckon", "(IZJIII)V"⟩, 68) := ⟨⟨by decide +kernel, by decide +kernel⟩, List.mem_of_getElem? (i := 850) (by decide +kernel), List.mem_of_getElem? (i := 1230) (by decide +kernel), List.mem_of_getElem? (i := 1231) (by decide +kernel)⟩
theorem lw_p74 : lw_okq (⟨"TileHouseModel", "writes", "(IIII)V"⟩, 68) := ⟨⟨by decide +kernel, by decide +kernel⟩, List.mem_of_getElem? (i := 850) (by decide +kernel), List.mem_of_getElem? (i := 1234) (by decide +kernel), List.mem_of_getElem? (i := 1235) (by decide +kernel)⟩
theorem lw_p75 : lw_okq (⟨"TileHouseModel", "pays", "(III)V"⟩, 68) := ⟨⟨by decide +kernel, by decide +kernel⟩, List.mem_of_getElem? (i := 850) (by decide +kernel), List.mem_of_getElem? (i := 1241) (by decide +kernel), List.mem_of_getElem? (i := 1242) (by decide +kernel)⟩
theorem lw_p76 : lw_okq (⟨"TileHouseModel", "takesBets", "()V"⟩, 68) := ⟨⟨by decide +kernel, by decide +kernel⟩, List.mem_of_getElem? (i := 850) (by decide +kernel), List.mem_of_getElem? (i := 1245) (by decide +kernel), List.mem_of_getElem? (i := 1246) (by decide +kernel)⟩
theorem lw_p77 : lw_okq (⟨"TileHouseModel", "ends", "(ZZ)V"⟩, 68) := ⟨⟨by decide +kernel, by decide +kernel⟩, List.mem_of_getElem? (i := 850) (by decide +kernel), List.mem_of_getElem? (i := 1249) (by decide +kernel), List.mem_of_getElem? (i := 1250) (by decide +kernel)⟩
theorem lw_p78 : lw_okq (⟨"TileHouseModel", "over", "()V"⟩, 68) := ⟨⟨by decide +kernel, by decide +kernel⟩, List.mem_of_getElem? (i := 850) (by decide +kernel), List.mem_of_getElem? (i := 1253) (by decide +kernel), List.mem_of_getElem? (i := 1254) (by decide +kernel)⟩
theorem lw_p79 : lw_okq (⟨"TileHouseModel", "touched", "()V"⟩, 68) := ⟨⟨by decide +kernel, by decide +kernel⟩, List.mem_of_getElem? (i := 850) (by decide +kernel), List.mem_of_getElem? (i := 1257) (by decide +kernel), List.mem_of_getElem? (i := 1258) (by decide +kernel)⟩
def lw_privs_5 : List (MethodName × Nat) := [(⟨"TileHouseModel", "tiles", "()V"⟩, 68), (⟨"TileHouseModel", "compare", "(Z)V"⟩, 68), (⟨"TileHouseModel", "pairsWay", "()V"⟩, 68), (⟨"TileHouseModel", "thirteen", "()V"⟩, 68), (⟨"TileHouseModel", "anySays", "()Z"⟩, 68), (⟨"TileHouseModel", "allWin", "()V"⟩, 68), (⟨"TileHouseModel", "value", "(IIZ)V"⟩, 68), (⟨"TileHouseModel", "windOf", "(I)I"⟩, 68), (⟨"TileHouseModel", "dearTiles", "(Z)I"⟩, 68), (⟨"TileHouseModel", "reckon", "(IZJIII)V"⟩, 68), (⟨"TileHouseModel", "writes", "(IIII)V"⟩, 68), (⟨"TileHouseModel", "pays", "(III)V"⟩, 68), (⟨"TileHouseModel", "takesBets", "()V"⟩, 68), (⟨"TileHouseModel", "ends", "(ZZ)V"⟩, 68), (⟨"TileHouseModel", "over", "()V"⟩, 68), (⟨"TileHouseModel", "touched", "()V"⟩, 68)]
theorem lw_r5 : ∀ q ∈ lw_privs_5, lw_okq q := List.forall_mem_cons.mpr ⟨lw_p64, List.forall_mem_cons.mpr ⟨lw_p65, List.forall_mem_cons.mpr ⟨lw_p66, List.forall_mem_cons.mpr ⟨lw_p67, List.forall_mem_cons.mpr ⟨lw_p68, List.forall_mem_cons.mpr ⟨lw_p69, List.forall_mem_cons.mpr ⟨lw_p70, List.forall_mem_cons.mpr ⟨lw_p71, List.forall_mem_cons.mpr ⟨lw_p72, List.forall_mem_cons.mpr ⟨lw_p73, List.forall_mem_cons.mpr ⟨lw_p74, List.forall_mem_cons.mpr ⟨lw_p75, List.forall_mem_cons.mpr ⟨lw_p76, List.forall_mem_cons.mpr ⟨lw_p77, List.forall_mem_cons.mpr ⟨lw_p78, List.forall_mem_cons.mpr ⟨lw_p79, fun _ h => absurd h List.not_mem_nil⟩⟩⟩⟩⟩⟩⟩⟩⟩⟩⟩⟩⟩⟩⟩⟩
theorem lw_p80 : lw_okq (⟨"TileHouseModel", "nobodyWins", "()V"⟩, 68) := ⟨⟨by decide +kernel, by decide +kernel⟩, List.mem_of_getElem? (i := 850) (by decide +kernel), List.mem_of_getElem? (i := 1261) (by decide +kernel), List.mem_of_getElem? (i := 1262) (by decide +kernel)⟩
theorem lw_p81 : lw_okq (⟨"TileHouseModel", "mayClaim", "(I)Z"⟩, 68) := ⟨⟨by decide +kernel, by decide +kernel⟩, List.mem_of_getElem? (i := 850) (by decide +kernel), List.mem_of_getElem? (i := 1269) (by decide +kernel), List.mem_of_getElem? (i := 1270) (by decide +kernel)⟩
theorem lw_p82 : lw_okq (⟨"TileHouseModel", "canDiscard", "(I)Z"⟩, 68) := ⟨⟨by decide +kernel, by decide +kernel⟩, List.mem_of_getElem? (i := 850) (by decide +kernel), List.mem_of_getElem? (i := 1276) (by decide +kernel), List.mem_of_getElem? (i := 1277) (by decide +kernel)⟩
theorem lw_p83 : lw_okq (⟨"TileHouseModel", "claims", "(III)V"⟩, 68) := ⟨⟨by decide +kernel, by decide +kernel⟩, List.mem_of_getElem? (i := 850) (by decide +kernel), List.mem_of_getElem? (i := 1280) (by decide +kernel), List.mem_of_getElem? (i := 1281) (by decide +kernel)⟩
theorem lw_p84 : lw_okq (⟨"TileHouseModel", "lays", "(III)V"⟩, 68) := ⟨⟨by decide +kernel, by decide +kernel⟩, List.mem_of_getElem? (i := 850) (by decide +kernel), List.mem_of_getElem? (i := 1284) (by decide +kernel), List.mem_of_getElem? (i := 1285) (by decide +kernel)⟩
theorem lw_p85 : lw_okq (⟨"TileHouseModel", "mayMake", "()Z"⟩, 68) := ⟨⟨by decide +kernel, by decide +kernel⟩, List.mem_of_getElem? (i := 850) (by decide +kernel), List.mem_of_getElem? (i := 1300) (by decide +kernel), List.mem_of_getElem? (i := 1301) (by decide +kernel)⟩
theorem lw_p86 : lw_okq (⟨"TileHouseModel", "takeDesk", "()V"⟩, 68) := ⟨⟨by decide +kernel, by decide +kernel⟩, List.mem_of_getElem? (i := 850) (by decide +kernel), List.mem_of_getElem? (i := 1364) (by decide +kernel), List.mem_of_getElem? (i := 1365) (by decide +kernel)⟩
theorem lw_p87 : lw_okq (⟨"TileHouseModel", "nothing", "()V"⟩, 68) := ⟨⟨by decide +kernel, by decide +kernel⟩, List.mem_of_getElem? (i := 850) (by decide +kernel), List.mem_of_getElem? (i := 1377) (by decide +kernel), List.mem_of_getElem? (i := 1378) (by decide +kernel)⟩
def lw_privs_6 : List (MethodName × Nat) := [(⟨"TileHouseModel", "nobodyWins", "()V"⟩, 68), (⟨"TileHouseModel", "mayClaim", "(I)Z"⟩, 68), (⟨"TileHouseModel", "canDiscard", "(I)Z"⟩, 68), (⟨"TileHouseModel", "claims", "(III)V"⟩, 68), (⟨"TileHouseModel", "lays", "(III)V"⟩, 68), (⟨"TileHouseModel", "mayMake", "()Z"⟩, 68), (⟨"TileHouseModel", "takeDesk", "()V"⟩, 68), (⟨"TileHouseModel", "nothing", "()V"⟩, 68)]
theorem lw_r6 : ∀ q ∈ lw_privs_6, lw_okq q := List.forall_mem_cons.mpr ⟨lw_p80, List.forall_mem_cons.mpr ⟨lw_p81, List.forall_mem_cons.mpr ⟨lw_p82, List.forall_mem_cons.mpr ⟨lw_p83, List.forall_mem_cons.mpr ⟨lw_p84, List.forall_mem_cons.mpr ⟨lw_p85, List.forall_mem_cons.mpr ⟨lw_p86, List.forall_mem_cons.mpr ⟨lw_p87, fun _ h => absurd h List.not_mem_nil⟩⟩⟩⟩⟩⟩⟩⟩
def lw_privs : List (MethodName × Nat) := lw_privs_1 ++ (lw_privs_2 ++ (lw_privs_3 ++ (lw_privs_4 ++ (lw_privs_5 ++ (lw_privs_6)))))
def lw_tbl : List Cond := k2_sels lw_privs ++ tables_1
theorem lw_privs_ok : ∀ q ∈ lw_privs, lw_okq q := by
  show ∀ q ∈ lw_privs_1 ++ (lw_privs_2 ++ (lw_privs_3 ++ (lw_privs_4 ++ (lw_privs_5 ++ (lw_privs_6))))), lw_okq q
  exact List.forall_mem_append.mpr ⟨lw_r1, List.forall_mem_append.mpr ⟨lw_r2, List.forall_mem_append.mpr ⟨lw_r3, List.forall_mem_append.mpr ⟨lw_r4, List.forall_mem_append.mpr ⟨lw_r5, lw_r6⟩⟩⟩⟩⟩
end
section
/-! ===== BEGIN words of one list among another's, by their places ===== -/
theorem goodIn_r {big : List Cond} (ws : List Cond) (ps : List Nat) (hp : ws = ps.filterMap (fun i => big[i]?)) (h : ws.all goodWord = true) : GoodIn big ws := by
  intro w hw
  have h1 := List.all_eq_true.mp h w hw
  rw [hp] at hw
  obtain ⟨i, -, hi⟩ := List.mem_filterMap.mp hw
  have hm : w ∈ big := by first | exact List.mem_of_getElem? hi | exact List.getElem?_mem hi
  exact ⟨hm, good_of_word h1⟩
theorem goodIn_app {big a b : List Cond} (ha : GoodIn big a) (hb : GoodIn big b) : GoodIn big (a ++ b) := fun w h => (List.mem_append.mp h).elim (ha w) (hb w)
theorem goodIn_ca {big a b : List Cond} {c : Cond} (ha : GoodIn big (c :: a)) (hb : GoodIn big b) : GoodIn big (c :: (a ++ b)) := fun w h => (List.mem_cons.mp h).elim (fun e => ha w (List.mem_cons.mpr (Or.inl e))) (fun h => (List.mem_append.mp h).elim (fun h => ha w (List.mem_cons.mpr (Or.inr h))) (hb w))
theorem goodIn_sub {big ws : List Cond} (hm : ∀ w ∈ ws, w ∈ big) (h : ws.all goodWord = true) : GoodIn big ws := fun w hw => ⟨hm w hw, good_of_word (List.all_eq_true.mp h w hw)⟩
/-! ===== END ===== -/

/-! ===== BEGIN exceptions that leave a method, and their catching by the caller (launches without stack traces) ===== -/
section VXA
/-! The laws vx_back, vx_callV, vx_callS, vx_callSW, vx_throw0, vx_throwS follow proofs of the library, with one case more: JvmDerived/Free/Laws.lean (Back.of_free), Shelf42/LK1.lean (callV, callS), Shelf/KitTraced.lean (throwNew0V, throwNewS). -/
/-- where a method has thrown q: the class by its name, the cell, what was written, the world -/
def vx_T (XC : String → State → State → Prop) (st : State) (q : Addr) (t : State) (mc ms : Nat) (free : Addr → Prop) : Prop :=
  ∃ (E : String) (ce : Cell) (L : List Loc), XC E st t ∧ t.heap[q]? = some ce ∧ ce.vm = .none ∧ st.vm.findClass E = some ce.cls ∧ st.WarmedH t.vm ∧ st.sameButNew ({ t with vm := st.vm } : State) L mc ms ∧ ∀ z ∈ L, free z.base
def vx_Q (Qc : Array Value → State → Outcome → State → Prop) (XC : String → State → State → Prop) (mc ms : Nat) (free : Addr → Prop) : Array Value → State → Outcome → State → Prop := fun a st o t =>
  (Qc a st o t ∧ ∃ L, FrameEnd st o t L mc ms ∧ ∀ q ∈ L, free q.base) ∨ ∃ q, o = .threw q ∧ vx_T XC st q t mc ms free
/-- a callee that returns or throws -/
def vx_Met (l : Launch) (y : MethodName) (ws : List Cond) (rm : Room) (Pc : Array Value → State → Prop) (Qc : Array Value → State → Outcome → State → Prop) (XC : String → State → State → Prop) (mc ms : Nat) (free : Addr → Prop) : Prop :=
  MetFree l y (headSpec ws rm) Pc (fun _ _ _ _ _ => True) (vx_Q Qc XC mc ms free)
def vx_Post (XC : String → State → State → Prop) (mc ms : Nat) (free : Addr → Prop) : Pt → Array Value → Addr → Pt → Prop := fun A a q B =>
  ∃ (g : JFrame) (mk : MethodId) (t : State) (L : List Loc) (E : String) (ce : Cell), B.U.heap = t.heap ∧ B.U.vm = t.vm ∧ XC E (A.U.calling g mk a) t ∧ t.heap[q]? = some ce ∧ ce.vm = .none ∧ A.U.vm.findClass E = some ce.cls ∧ B.locs = A.locs ++ L ∧ (∀ z ∈ L, free z.base) ∧ B.cells = A.cells + mc ∧ B.slots = A.slots + ms
def vx_Back (l : Launch) (R : Room) (p : Program) (e : Env) (below : List Frame) (s : State) (sargs : Array Value) (y : MethodName) (len W9 : Nat)
    (Pre : Pt → Array Value → Prop) (Post : Pt → Array Value → Option Value → Pt → Prop) (PostX : Pt → Array Value → Addr → Pt → Prop) : Prop :=
  ∀ (m : MethodId) (meth : Method) (c : Code) (A : Pt) (g : JFrame) (ig : Instr) (mk : MethodId) (a : Array Value),
    Stand p l e R s m sargs below meth c A.U A.locs A.cells A.slots → g.method = m → g.locals.size = c.maxLocals → decode c.code g.pc = .ok (ig, len) →
    2 * g.monitorRoom + (g.stack.map fun v => v.category).sum ≤ W9 → A.U.methodNamed? y = some mk → Pre A a →
    (∃ (v : Option Value) (B : Pt), Stand p l e R s m sargs below meth c B.U B.locs B.cells B.slots ∧ Post A a v B ∧
      Steps p.tables e below (doInvoke e (A.U.setTop g) [] mk a).1 (B.U.setTop { g with pc := g.pc + len, stack := v.toList ++ g.stack })) ∨
    (∃ (q : Addr) (B : Pt), Stand p l e R s m sargs below meth c B.U B.locs B.cells B.slots ∧ PostX A a q B ∧
      Steps p.tables e below (doInvoke e (A.U.setTop g) [] mk a).1 ((B.U.setTop g).pushFrame (.throwing q)))
section Payer
variable {l : Launch} {R : Room} {p : Program} {e : Env} {below : List Frame} {s : State} {sargs : Array Value} {y : MethodName} {len W9 : Nat}
theorem vx_back {ws : List Cond} {rm : Room} {Pc : Array Value → State → Prop} {Qc : Array Value → State → Outcome → State → Prop} {XC : String → State → State → Prop} {mc ms : Nat} {free : Addr → Prop} {bytes : ByteArray} {maxL : Nat} {ret : Option FieldType}
    (hM : vx_Met l y ws rm Pc Qc XC mc ms free) (hblind : FrameBlind Pc) (hrc : rm.cells = mc) (hrs : rm.slots = ms)
    (hframes : rm.frames + 1 ≤ R.frames) (hlocals : W9 + (maxL + 11) + rm.locals ≤ R.locals)
    (hws : ∀ w ∈ ws, ∀ a' U, s.WarmedH U.vm → w.before a' U = true) (hcode : Cond.code y bytes maxL ret ∈ ws) (hinit : ∀ a' U, s.WarmedH U.vm → (Cond.initialized y.cls).before a' U = true) :
    vx_Back l R p e below s sargs y len W9 (PreOf R mc ms Pc) (PostOf Qc mc ms free) (vx_Post XC mc ms free) := by
  intro m meth c A g ig mk a X hg hsize hdg hW hn hp
  have h1 : (headSpec ws rm).pre.before a A.U = true := atoms_intro fun w hw => hws w hw _ _ X.warmed
  have h2 : (Cond.code y bytes maxL ret).before a A.U = true := hws _ hcode _ _ X.warmed
  have h3 : (Cond.initialized y.cls).before a A.U = true := hinit _ _ X.warmed
  have h4 : A.cells + (headSpec ws rm).room.cells ≤ R.cells := by rw [show (headSpec ws rm).room.cells = mc from hrc]; exact hp.1
  have h5 : A.slots + (headSpec ws rm).room.slots ≤ R.slots := by rw [show (headSpec ws rm).room.slots = ms from hrs]; exact hp.2.1
  have hPc : Pc a (A.U.calling g mk a) := hblind _ _ _ _ hp.2.2
  obtain ⟨U, Ls, c0, s0⟩ := A
  dsimp only [Pt.U, Pt.locs, Pt.cells, Pt.slots] at h1 h2 h3 h4 h5 X hn hPc ⊢
  obtain ⟨methY, cY, hmY, hcY, -, hlY, -, -, -, -⟩ := Cond.code_spec hn h2
  obtain ⟨kY, hkY, -⟩ := className_of_methodNamed hn
  have hinitY : kY.init = .initialized := Cond.initialized_spec (findClass_of_methodNamed hn) hkY h3
  have h : At U g.method c below := by rw [hg]; exact X.here
  have hlocals9 : W9 + (maxL + 11) + (headSpec ws rm).room.locals ≤ R.locals := hlocals
  have happ : (headSpec ws rm).appliesLoose y e.platform (U.calling g mk a) = true :=
    Spec.appliesLoose_calling (g := g) h hdg hn hkY hinitY
      (X.room_calling (g := g) (R' := (headSpec ws rm).room) hsize hmY hcY hframes (by rw [hlY]; omega) h4 h5) h1
  obtain ⟨mid, hmid⟩ := h.above
  have hfr : (U.setTop g).frames = (.java g :: mid) ++ below := by rw [State.frames_setTop' g h.top, hmid]; rfl
  obtain ⟨o, s₂, hsteps, -, hend, hq⟩ := Steps.callFree hM p X.admits X.cas X.clock (acts := []) hfr happ hPc trivial
  have hq' : vx_Q Qc XC mc ms free a (U.calling g mk a) o s₂ := hq
  rw [State.frames_setTop' g h.top] at hend
  obtain ⟨g₀, hg0⟩ := Option.isSome_iff_exists.mp h.top
  obtain ⟨r, hr⟩ := State.topJava?_eq_some.mp hg0
  have hr' : (({ U with heap := s₂.heap, slotsUsed := s₂.slotsUsed } : State).setVm s₂.vm).frames = .java g₀ :: r := hr
  rcases hq' with ⟨hqc, L, hfe, hL⟩ | ⟨q, rfl, E, ce, L, hx, hce, hcv, hcl, hW₂, hsm, hL⟩
  · obtain ⟨⟨v, rfl⟩, hW₂, e2, q2, q3, q4, q5, q6⟩ := id hfe
    have e3 : s₂ = ({ (U.calling g mk a).setFrames s₂.frames with heap := s₂.heap, slotsUsed := s₂.slotsUsed } : State).setVm s₂.vm := by
      have : s₂ = ({ s₂ with vm := (U.calling g mk a).vm } : State).setVm s₂.vm := rfl
      rw [e2] at this
      exact this
    obtain ⟨c₂, i₂, len₂, hc₂, hd₂, hf₂⟩ := hend
    have hW' : U.WarmedH s₂.vm := hW₂
    have hcc : c₂ = c := by
      have h1 : s₂.code? g.method = U.code? g.method := by
        rw [State.code?_eq, State.code?_eq, hW'.alike.method?]
      exact Option.some.inj (hc₂.symm.trans (h1.trans h.code))
    subst hcc
    have hlen : len₂ = len := by rw [hdg] at hd₂; cases hd₂; rfl
    subst hlen
    have hs₂ : s₂ = (({ U with heap := s₂.heap, slotsUsed := s₂.slotsUsed } : State).setVm s₂.vm).setTop { g with pc := g.pc + len₂, stack := v.toList ++ g.stack } := by
      refine e3.trans ?_
      rw [hf₂, State.calling_eq h.top, State.setFrames_setFrames, State.setTop_of_frames _ hr', hr]
      rfl
    have hsame : U.sameButNew ({ U with heap := s₂.heap, slotsUsed := s₂.slotsUsed } : State) L mc ms := by
      refine ⟨?_, q2, q3, q4, q5, q6⟩
      obtain ⟨t, ht, -⟩ := State.frames_cons hr
      show ({ U with heap := s₂.heap, slotsUsed := s₂.slotsUsed } : State) = { U.setFrames U.frames with heap := s₂.heap, slotsUsed := s₂.slotsUsed }
      rw [State.setFrames_self ht]
    subst hg
    refine Or.inl ⟨v, ⟨(({ U with heap := s₂.heap, slotsUsed := s₂.slotsUsed } : State).setVm s₂.vm), Ls ++ L, c0 + mc, s0 + ms⟩,
      ⟨X.admits, X.cas, X.clock, X.frames, X.room, X.hears, X.method, X.code, (X.here.setHeapUsed s₂.heap s₂.slotsUsed).setVm hW'.alike, X.tail, State.WarmedH.trans X.warmed hW', X.limits, X.bytes, X.same.trans (hsame.setVm s.vm)⟩,
      ⟨g, mk, s₂, L, rfl, rfl, hqc, rfl, hL, rfl, rfl⟩, ?_⟩
    show Steps p.tables e below _ ((({ U with heap := s₂.heap, slotsUsed := s₂.slotsUsed } : State).setVm s₂.vm).setTop { g with pc := g.pc + len₂, stack := v.toList ++ g.stack })
    rw [← hs₂]
    exact hsteps
  · obtain ⟨e2, q2, q3, q4, q5, q6⟩ := id hsm
    have e3 : s₂ = ({ (U.calling g mk a).setFrames s₂.frames with heap := s₂.heap, slotsUsed := s₂.slotsUsed } : State).setVm s₂.vm := by
      have : s₂ = ({ s₂ with vm := (U.calling g mk a).vm } : State).setVm s₂.vm := rfl
      rw [e2] at this
      exact this
    have hf₂ : s₂.frames = .throwing q :: .java g :: U.frames.tail := hend
    have hW' : U.WarmedH s₂.vm := hW₂
    have hs₂ : s₂ = ((({ U with heap := s₂.heap, slotsUsed := s₂.slotsUsed } : State).setVm s₂.vm).setTop g).pushFrame (.throwing q) := by
      refine e3.trans ?_
      rw [hf₂, State.calling_eq h.top, State.setFrames_setFrames, State.pushFrame, State.frames_setTop _ hr', State.setTop_of_frames _ hr', State.setFrames_setFrames, hr]
      rfl
    have hsame : U.sameButNew ({ U with heap := s₂.heap, slotsUsed := s₂.slotsUsed } : State) L mc ms := by
      refine ⟨?_, q2, q3, q4, q5, q6⟩
      obtain ⟨t, ht, -⟩ := State.frames_cons hr
      show ({ U with heap := s₂.heap, slotsUsed := s₂.slotsUsed } : State) = { U.setFrames U.frames with heap := s₂.heap, slotsUsed := s₂.slotsUsed }
      rw [State.setFrames_self ht]
    subst hg
    refine Or.inr ⟨q, ⟨(({ U with heap := s₂.heap, slotsUsed := s₂.slotsUsed } : State).setVm s₂.vm), Ls ++ L, c0 + mc, s0 + ms⟩,
      ⟨X.admits, X.cas, X.clock, X.frames, X.room, X.hears, X.method, X.code, (X.here.setHeapUsed s₂.heap s₂.slotsUsed).setVm hW'.alike, X.tail, State.WarmedH.trans X.warmed hW', X.limits, X.bytes, X.same.trans (hsame.setVm s.vm)⟩,
      ⟨g, mk, s₂, L, E, ce, rfl, rfl, hx, hce, hcv, hcl, rfl, hL, rfl, rfl⟩, ?_⟩
    show Steps p.tables e below _ (((({ U with heap := s₂.heap, slotsUsed := s₂.slotsUsed } : State).setVm s₂.vm).setTop g).pushFrame (.throwing q))
    rw [← hs₂]
    exact hsteps
end Payer
section Calls
variable {p : Program} {l : Launch} {e : Env} {R : Room} {s : State} {m : MethodId} {args : Array Value} {below : List Frame} {meth : Method} {c : Code} {T : State} {locs : List Loc} {cells slots : Nat}
theorem vx_callV (X : Stand p l e R s m args below meth c T locs cells slots) (hexec : p.tables.exec = Jvm.exec) {own C : String} {index : Nat} {y : MethodName} {bytes : ByteArray} {maxL : Nat} {ret : Option FieldType}
    (hown : s.vm.findClass own = some m.cls) (hlink : (Cond.methodLink own index y).before args s = true) (hinst : (Cond.instanceMethod y).before args s = true) (hsel : (Cond.selects C y y).before args s = true)
    (hcode : (Cond.code y bytes maxL ret).before args s = true) (hy : y.cls ≠ "java/lang/invoke/MethodHandle" ∧ y.cls ≠ "java/lang/invoke/VarHandle")
    {W9 : Nat} {Pre : Pt → Array Value → Prop} {Post : Pt → Array Value → Option Value → Pt → Prop} {PostX : Pt → Array Value → Addr → Pt → Prop} (hK : vx_Back l R p e below s args y 3 W9 Pre Post PostX)
    {b : Addr} {cellB : Cell} (hcell : T.heap[b]? = some cellB) (hobj : cellB.vm.isStatics = false) (hcls : s.vm.findClass C = some cellB.cls)
    {g : JFrame} (hg : g.method = m) (hsize : g.locals.size = c.maxLocals) {argsL rest : List Value} (hlen : ∀ sig, parseMethodDescriptor y.desc = some sig → argsL.length = sig.parameters.length)
    (hstack : g.stack = argsL.reverse ++ .ref b :: rest) (hW : 2 * g.monitorRoom + (rest.map fun v => v.category).sum ≤ W9) (hdg : decode c.code g.pc = .ok (.invokevirtual index, 3))
    (hpre : ∀ vm₁, s.WarmedH vm₁ → Pre ⟨T.setVm vm₁, locs, cells, slots⟩ (Value.ref b :: argsL).toArray) :
    (∃ (v : Option Value) (vm₁ : Vm) (B : Pt), s.WarmedH vm₁ ∧ Stand p l e R s m args below meth c B.U B.locs B.cells B.slots ∧ Post ⟨T.setVm vm₁, locs, cells, slots⟩ (Value.ref b :: argsL).toArray v B ∧
      ∀ target, Steps p.tables e below (B.U.setTop { g with pc := g.pc + 3, stack := v.toList ++ rest }) target → Steps p.tables e below (T.setTop g) target) ∨
    (∃ (q : Addr) (vm₁ : Vm) (B : Pt), s.WarmedH vm₁ ∧ Stand p l e R s m args below meth c B.U B.locs B.cells B.slots ∧ PostX ⟨T.setVm vm₁, locs, cells, slots⟩ (Value.ref b :: argsL).toArray q B ∧
      Steps p.tables e below (T.setTop g) ((B.U.setTop { g with stack := rest }).pushFrame (.throwing q))) := by
  obtain ⟨mk, methM, hnamed, hmethM, hstM, habM⟩ := Cond.instanceMethod_spec hinst
  obtain ⟨methM', cM, hmethM', -, -, -, -, -, -, hsigM⟩ := Cond.code_spec hnamed hcode
  cases hmethM.symm.trans hmethM'
  obtain ⟨c2, r2, m2, q1, q2, q3, q4, kP, hkP, hkPi⟩ := Cond.selects_spec hsel
  cases hcls.symm.trans q1
  cases (State.methodFound?_of_named hnamed hy).symm.trans q2
  cases hnamed.symm.trans q3
  have hselP : selectMethod e.platform s.vm cellB.cls mk = .method mk := by rw [Launch.admits_selectMethod X.admits]; exact q4
  obtain ⟨vm₁, X₁, hstep₁⟩ := X.invokevirtual hexec hown hlink hnamed hmethM hstM hkP hkPi hy (a := b) (cell := cellB) hcell
    (fun z h => by rw [h] at hobj; cases hobj) hselP hmethM habM hkP hkPi (g := g) hg (argsL := argsL) (rest := rest) (hlen _ hsigM) hstack hdg
  rcases hK m meth c ⟨T.setVm vm₁, locs, cells, slots⟩ { g with stack := rest } (.invokevirtual index) mk (Value.ref b :: argsL).toArray X₁ hg hsize hdg hW (X₁.named hnamed) (hpre vm₁ X₁.warmed) with ⟨v, B, X', hpost, hsteps⟩ | ⟨q, B, X', hpost, hsteps⟩
  · exact Or.inl ⟨v, vm₁, B, X₁.warmed, X', hpost, fun target h => hstep₁ _ fun acts => by rw [doInvoke_state]; exact hsteps.trans h⟩
  · exact Or.inr ⟨q, vm₁, B, X₁.warmed, X', hpost, hstep₁ _ fun acts => by rw [doInvoke_state]; exact hsteps⟩
theorem vx_callS (X : Stand p l e R s m args below meth c T locs cells slots) (hexec : p.tables.exec = Jvm.exec) {own : String} {index : Nat} {y : MethodName} {bytes : ByteArray} {maxL : Nat} {ret : Option FieldType}
    (hown : s.vm.findClass own = some m.cls) (hlink : (Cond.methodLink own index y).before args s = true) (hstat : (Cond.static y).before args s = true) (hinit : (Cond.initialized y.cls).before args s = true)
    (hcode : (Cond.code y bytes maxL ret).before args s = true) (hy : y.cls ≠ "java/lang/invoke/MethodHandle" ∧ y.cls ≠ "java/lang/invoke/VarHandle")
    {W9 : Nat} {Pre : Pt → Array Value → Prop} {Post : Pt → Array Value → Option Value → Pt → Prop} {PostX : Pt → Array Value → Addr → Pt → Prop} (hK : vx_Back l R p e below s args y 3 W9 Pre Post PostX)
    {g : JFrame} (hg : g.method = m) (hsize : g.locals.size = c.maxLocals) {argsL rest : List Value} (hlen : ∀ sig, parseMethodDescriptor y.desc = some sig → argsL.length = sig.parameters.length)
    (hstack : g.stack = argsL.reverse ++ rest) (hW : 2 * g.monitorRoom + (rest.map fun v => v.category).sum ≤ W9) (hdg : decode c.code g.pc = .ok (.invokestatic index, 3))
    (hpre : ∀ vm₁, s.WarmedH vm₁ → Pre ⟨T.setVm vm₁, locs, cells, slots⟩ argsL.toArray) :
    (∃ (v : Option Value) (vm₁ : Vm) (B : Pt), s.WarmedH vm₁ ∧ Stand p l e R s m args below meth c B.U B.locs B.cells B.slots ∧ Post ⟨T.setVm vm₁, locs, cells, slots⟩ argsL.toArray v B ∧
      ∀ target, Steps p.tables e below (B.U.setTop { g with pc := g.pc + 3, stack := v.toList ++ rest }) target → Steps p.tables e below (T.setTop g) target) ∨
    (∃ (q : Addr) (vm₁ : Vm) (B : Pt), s.WarmedH vm₁ ∧ Stand p l e R s m args below meth c B.U B.locs B.cells B.slots ∧ PostX ⟨T.setVm vm₁, locs, cells, slots⟩ argsL.toArray q B ∧
      Steps p.tables e below (T.setTop g) ((B.U.setTop { g with stack := rest }).pushFrame (.throwing q))) := by
  obtain ⟨mk, hnamed⟩ := Cond.code_named hcode
  obtain ⟨methM, cM, hmethM, -, -, -, -, -, -, hsigM⟩ := Cond.code_spec hnamed hcode
  have hstatic : methM.isStatic = true := Cond.static_spec hnamed hmethM hstat
  obtain ⟨kP, hkP, -⟩ := className_of_methodNamed hnamed
  have hinitP : kP.init = .initialized := Cond.initialized_spec (findClass_of_methodNamed hnamed) hkP hinit
  obtain ⟨vm₁, X₁, hstep₁⟩ := X.invokestatic hexec hown hlink hnamed hmethM hstatic hkP hinitP hy (g := g) hg (argsL := argsL) (rest := rest) (hlen _ hsigM) hstack hdg
  rcases hK m meth c ⟨T.setVm vm₁, locs, cells, slots⟩ { g with stack := rest } (.invokestatic index) mk argsL.toArray X₁ hg hsize hdg hW (X₁.named hnamed) (hpre vm₁ X₁.warmed) with ⟨v, B, X', hpost, hsteps⟩ | ⟨q, B, X', hpost, hsteps⟩
  · exact Or.inl ⟨v, vm₁, B, X₁.warmed, X', hpost, fun target h => hstep₁ _ fun acts => by rw [doInvoke_state]; exact hsteps.trans h⟩
  · exact Or.inr ⟨q, vm₁, B, X₁.warmed, X', hpost, hstep₁ _ fun acts => by rw [doInvoke_state]; exact hsteps⟩
end Calls
theorem vx_cls {s : State} {T : State} {vm₁ : Vm} {E : String} {k : ClassId} (hW : s.WarmedH vm₁) (h : (T.setVm vm₁).vm.findClass E = some k) : s.vm.findClass E = some k := by
  have h1 : vm₁.findClass E = some k := h
  rw [hW.alike.findClass] at h1
  exact h1
/-- the method's frame g, with q thrown over it -/
def vx_W (p : Program) (l : Launch) (e : Env) (R : Room) (s : State) (m : MethodId) (args : Array Value) (below : List Frame) (meth : Method) (c : Code) (H : Heap) (locs : List Loc) (cells slots : Nat) (Q : State → Prop) (g : JFrame) (q : Addr) : Prop :=
  ∀ T : State, T.heap = H → Stand p l e R s m args below meth c T locs cells slots → ∃ t, Steps p.tables e below ((T.setTop g).pushFrame (.throwing q)) t ∧ Q t
def vx_Run (p : Program) (l : Launch) (e : Env) (R : Room) (s : State) (m : MethodId) (args : Array Value) (below : List Frame) (meth : Method) (c : Code) (H : Heap) (locs : List Loc) (cells slots mc ms : Nat) (g : JFrame) (rest : List Value) (Qa : State → Outcome → State → Prop) (XC : String → State → State → Prop) (free : Addr → Prop) : Prop :=
  ∀ T : State, T.heap = H → Stand p l e R s m args below meth c T locs cells slots →
    (∃ (v : Option Value) (st₀ t T' : State) (L : List Loc), st₀.heap = H ∧ Stand p l e R s m args below meth c T' (locs ++ L) (cells + mc) (slots + ms) ∧ (∀ q ∈ L, free q.base) ∧ T'.heap = t.heap ∧ T'.vm = t.vm ∧ Qa st₀ (.returned v) t ∧
      Goes p e below T g T' { g with pc := g.pc + 3, stack := v.toList ++ rest }) ∨
    (∃ (q : Addr) (st₀ t T' : State) (L : List Loc) (E : String) (ce : Cell), st₀.heap = H ∧ Stand p l e R s m args below meth c T' (locs ++ L) (cells + mc) (slots + ms) ∧ (∀ z ∈ L, free z.base) ∧ T'.heap = t.heap ∧ T'.vm = t.vm ∧ XC E st₀ t ∧ t.heap[q]? = some ce ∧ ce.vm = .none ∧ s.vm.findClass E = some ce.cls ∧
      Steps p.tables e below (T.setTop g) ((T'.setTop { g with stack := rest }).pushFrame (.throwing q)))
def vx_X {S : Type} (px : S → Prop) (B : String → S → State → Prop) (A : Nat → Prop) : String → State → State → Prop := fun E st t => ∃ u : S, px u ∧ B E u t ∧ va_F A st t
section Runs
variable {p : Program} {l : Launch} {e : Env} {R : Room} {s : State} {m : MethodId} {args : Array Value} {below : List Frame} {meth : Method} {c : Code} {H : Heap} {locs : List Loc} {cells slots : Nat}
variable {y : MethodName} {bytes cc : ByteArray} {maxL nL mc ms n index : Nat} {ret : Option FieldType} {ws : List Cond} {rm : Room} {Pc : Array Value → State → Prop} {Qc : Array Value → State → Outcome → State → Prop} {XC : String → State → State → Prop} {free : Addr → Prop} {Ts : List Cond} {own C : String} {b : Addr} {As rest : List Value} {g : JFrame}
theorem vx_callBack (cb : CallB R s args own index y bytes maxL ret ws rm mc ms n) (hM : vx_Met l y ws rm Pc Qc XC mc ms free) (hbl : FrameBlind Pc) : vx_Back l R p e below s args y 3 8 (PreOf R mc ms Pc) (PostOf Qc mc ms free) (vx_Post XC mc ms free) := by
  obtain ⟨hrc, hrs, hfr, hlo, hws, hcw, -, hini, -⟩ := cb
  exact vx_back (bytes := bytes) (maxL := maxL) (ret := ret) hM hbl hrc hrs hfr hlo hws hcw (fun a' U hW => word_at hW (Or.inl (by first | rfl | simp [Cond.onTables, Cond.keeps, Cond.steady])) hini)
theorem vx_runV (S : CallFix p m c cc nL s args Ts own) (hM : vx_Met l y ws rm Pc Qc XC mc ms free) (cw : CallW R s args own C index y bytes maxL ret ws rm mc ms n) (hp : PreV s H C b Pc As)
    (hg : g.method = m) (hn : As.length = n) (hsize : g.locals.size = nL) (hstack : g.stack = As.reverse ++ .ref b :: rest) (hW : 2 * g.monitorRoom + (rest.map fun v => v.category).sum ≤ 8) (hdg : decode cc g.pc = .ok (.invokevirtual index, 3)) (hf : cells + mc ≤ R.cells ∧ slots + ms ≤ R.slots) :
    vx_Run p l e R s m args below meth c H locs cells slots mc ms g rest (Qc (Value.ref b :: As).toArray) XC free := by
  have hK : vx_Back l R p e below s args y 3 8 (PreOf R mc ms Pc) (PostOf Qc mc ms free) (vx_Post XC mc ms free) := vx_callBack cw.1 hM hp.1
  obtain ⟨⟨-, -, -, -, -, -, hcode, -, hy, hlen, hl⟩, hin, hse⟩ := cw
  obtain ⟨hx, hb, hml, ho, -⟩ := S
  obtain ⟨-, ⟨cellB, hcB, hoB, hclB⟩, hPc⟩ := hp
  intro T hT X
  rcases vx_callV X hx (C := C) (bytes := bytes) (maxL := maxL) (ret := ret) ho hl hin hse hcode hy hK (by rw [hT]; exact hcB) hoB hclB hg (hsize.trans hml.symm) (argsL := As) (rest := rest) (fun sig h => hn.trans (hlen sig h)) hstack hW (by rw [hb]; exact hdg)
    (fun vm₁ hW₁ => ⟨hf.1, hf.2, hPc (T.setVm vm₁) hT hW₁⟩) with ⟨v, vm₁, ⟨U', l2, c2, s2⟩, hW₁, X', ⟨g', mk, t, L, e1, e2, hq, h1, hL, h2, h3⟩, st⟩ | ⟨q, vm₁, ⟨U', l2, c2, s2⟩, hW₁, X', ⟨g', mk, t, L, E, ce, e1, e2, hq, hce, hcv, hcl, h1, hL, h2, h3⟩, st⟩
  · dsimp only [Pt.U, Pt.locs, Pt.cells, Pt.slots] at X' e1 e2 h1 h2 h3 st
    subst h1; subst h2; subst h3
    exact Or.inl ⟨v, (T.setVm vm₁).calling g' mk (Value.ref b :: As).toArray, t, U', L, hT, X', hL, e1, e2, hq, st⟩
  · dsimp only [Pt.U, Pt.locs, Pt.cells, Pt.slots] at X' e1 e2 h1 h2 h3 st hcl
    subst h1; subst h2; subst h3
    exact Or.inr ⟨q, (T.setVm vm₁).calling g' mk (Value.ref b :: As).toArray, t, U', L, E, ce, hT, X', hL, e1, e2, hq, hce, hcv, vx_cls hW₁ hcl, st⟩
theorem vx_runS (S : CallFix p m c cc nL s args Ts own) (hM : vx_Met l y ws rm Pc Qc XC mc ms free) (cw : CallB R s args own index y bytes maxL ret ws rm mc ms n ∧ (Cond.static y).before args s = true) (hp : PreS s H Pc As)
    (hg : g.method = m) (hn : As.length = n) (hsize : g.locals.size = nL) (hstack : g.stack = As.reverse ++ rest) (hW : 2 * g.monitorRoom + (rest.map fun v => v.category).sum ≤ 8) (hdg : decode cc g.pc = .ok (.invokestatic index, 3)) (hf : cells + mc ≤ R.cells ∧ slots + ms ≤ R.slots) :
    vx_Run p l e R s m args below meth c H locs cells slots mc ms g rest (Qc As.toArray) XC free := by
  have hK : vx_Back l R p e below s args y 3 8 (PreOf R mc ms Pc) (PostOf Qc mc ms free) (vx_Post XC mc ms free) := vx_callBack cw.1 hM hp.1
  obtain ⟨⟨-, -, -, -, -, -, hcode, hini, hy, hlen, hl⟩, hstt⟩ := cw
  obtain ⟨hx, hb, hml, ho, -⟩ := S
  intro T hT X
  rcases vx_callS X hx (bytes := bytes) (maxL := maxL) (ret := ret) ho hl hstt hini hcode hy hK hg (hsize.trans hml.symm) (argsL := As) (rest := rest) (fun sig h => hn.trans (hlen sig h)) hstack hW (by rw [hb]; exact hdg)
    (fun vm₁ hW₁ => ⟨hf.1, hf.2, hp.2 (T.setVm vm₁) hT hW₁⟩) with ⟨v, vm₁, ⟨U', l2, c2, s2⟩, hW₁, X', ⟨g', mk, t, L, e1, e2, hq, h1, hL, h2, h3⟩, st⟩ | ⟨q, vm₁, ⟨U', l2, c2, s2⟩, hW₁, X', ⟨g', mk, t, L, E, ce, e1, e2, hq, hce, hcv, hcl, h1, hL, h2, h3⟩, st⟩
  · dsimp only [Pt.U, Pt.locs, Pt.cells, Pt.slots] at X' e1 e2 h1 h2 h3 st
    subst h1; subst h2; subst h3
    exact Or.inl ⟨v, (T.setVm vm₁).calling g' mk As.toArray, t, U', L, hT, X', hL, e1, e2, hq, st⟩
  · dsimp only [Pt.U, Pt.locs, Pt.cells, Pt.slots] at X' e1 e2 h1 h2 h3 st hcl
    subst h1; subst h2; subst h3
    exact Or.inr ⟨q, (T.setVm vm₁).calling g' mk As.toArray, t, U', L, E, ce, hT, X', hL, e1, e2, hq, hce, hcv, vx_cls hW₁ hcl, st⟩
end Runs
section Rows
variable {p : Program} {l : Launch} {e : Env} {R : Room} {s : State} {m : MethodId} {args : Array Value} {below : List Frame} {meth : Method} {c : Code} {H : Heap} {locs : List Loc} {cells slots : Nat} {Q : State → Prop}
variable {mc ms : Nat} {free : Addr → Prop} {A0 A1 : Nat → Prop} {H0 : Heap} {a : Array Value} {pc : Nat} {ls : Array Slot} {st0 rest : List Value}
theorem vx_keep {st₀ t T' : State} {L : List Loc} (h0 : st₀.heap = H) (e1 : T'.heap = t.heap) (hS : va_S A0 H0 H locs) (hA : ∀ q, q < H.size → A1 q → A0 q) (hf : ∀ q, free q → A0 q) (hL : ∀ q ∈ L, free q.base) (hF : va_F A1 st₀ t) :
    H.size ≤ T'.heap.size ∧ (∀ q : Nat, q < H.size → ¬ A1 q → T'.heap[q]? = H[q]?) ∧ va_S A0 H0 T'.heap (locs ++ L) := by
  obtain ⟨hz, hk⟩ := hF
  rw [h0] at hz hk
  exact ⟨by rw [e1]; exact hz, fun q h1 h2 => by rw [e1]; exact hk q h1 h2,
    ⟨Nat.le_trans hS.1 (by rw [e1]; exact hz), fun q h1 h2 => by rw [e1, hk q (Nat.lt_of_lt_of_le h1 hS.1) (fun z => h2 (hA q (Nat.lt_of_lt_of_le h1 hS.1) z))]; exact hS.2.1 q h1 h2, fun q hq => by
      rcases List.mem_append.mp hq with h | h
      · exact hS.2.2 q h
      · exact hf _ (hL q h)⟩⟩
theorem vx_calli {S SX : Type} {post : Int32 → S → Prop} {px : SX → Prop} {B : S → State → Prop} {BX : String → SX → State → Prop} {AX : Nat → Prop} (hr : vx_Run p l e R s m args below meth c H locs cells slots mc ms (F0 m pc ls st0) rest (va_Qi post B A1 a) (vx_X px BX AX) free) (hS : va_S A0 H0 H locs) (hA : ∀ q, q < H.size → A1 q → A0 q) (hf : ∀ q, free q → A0 q) (hAX : ∀ q, q < H.size → AX q → A0 q)
    (kx : ∀ (E : String) (ce : Cell) (q9 : Addr) (u : SX) (t : State) (H1 : Heap) (locs1 : List Loc), t.heap = H1 → s.vm.Alike t.vm → px u → BX E u t → H.size ≤ H1.size → (∀ q : Nat, q < H.size → ¬ AX q → H1[q]? = H[q]?) → va_S A0 H0 H1 locs1 → H1[q9]? = some ce → ce.vm = .none → s.vm.findClass E = some ce.cls → vx_W p l e R s m args below meth c H1 locs1 (cells + mc) (slots + ms) Q (F0 m pc ls rest) q9)
    (kk : ∀ (r : Int32) (u : S) (t : State) (H1 : Heap) (locs1 : List Loc), t.heap = H1 → s.vm.Alike t.vm → post r u → B u t → H.size ≤ H1.size → (∀ q : Nat, q < H.size → ¬ A1 q → H1[q]? = H[q]?) → va_S A0 H0 H1 locs1 → W p l e R s m args below meth c H1 locs1 (cells + mc) (slots + ms) Q (F0 m (pc + 3) ls (.int r :: rest))) : W p l e R s m args below meth c H locs cells slots Q (F0 m pc ls st0) := by
  intro T hT X
  rcases hr T hT X with ⟨v, st₀, t, T', L, h0, X', hL, e1, e2, ⟨⟨r, u, hv, hp, hb⟩, hF⟩, st⟩ | ⟨q, st₀, t, T', L, E, ce, h0, X', hL, e1, e2, ⟨u, hp, hb, hF⟩, hce, hcv, hcl, st⟩
  · cases hv
    obtain ⟨k1, k2, k3⟩ := vx_keep h0 e1 hS hA hf hL hF
    obtain ⟨t2, a1, b1⟩ := kk r u t T'.heap (locs ++ L) e1.symm (by rw [← e2]; exact X'.warmed.alike) hp hb k1 k2 k3 T' rfl X'
    exact ⟨t2, st t2 a1, b1⟩
  · obtain ⟨k1, k2, k3⟩ := vx_keep h0 e1 hS hAX hf hL hF
    obtain ⟨t2, a1, b1⟩ := kx E ce q u t T'.heap (locs ++ L) e1.symm (by rw [← e2]; exact X'.warmed.alike) hp hb k1 k2 k3 (by rw [e1]; exact hce) hcv hcl T' rfl X'
    exact ⟨t2, st.trans a1, b1⟩
theorem vx_calll {S SX : Type} {post : Int64 → S → Prop} {px : SX → Prop} {B : S → State → Prop} {BX : String → SX → State → Prop} {AX : Nat → Prop} (hr : vx_Run p l e R s m args below meth c H locs cells slots mc ms (F0 m pc ls st0) rest (va_Ql post B A1 a) (vx_X px BX AX) free) (hS : va_S A0 H0 H locs) (hA : ∀ q, q < H.size → A1 q → A0 q) (hf : ∀ q, free q → A0 q) (hAX : ∀ q, q < H.size → AX q → A0 q)
    (kx : ∀ (E : String) (ce : Cell) (q9 : Addr) (u : SX) (t : State) (H1 : Heap) (locs1 : List Loc), t.heap = H1 → s.vm.Alike t.vm → px u → BX E u t → H.size ≤ H1.size → (∀ q : Nat, q < H.size → ¬ AX q → H1[q]? = H[q]?) → va_S A0 H0 H1 locs1 → H1[q9]? = some ce → ce.vm = .none → s.vm.findClass E = some ce.cls → vx_W p l e R s m args below meth c H1 locs1 (cells + mc) (slots + ms) Q (F0 m pc ls rest) q9)
    (kk : ∀ (r : Int64) (u : S) (t : State) (H1 : Heap) (locs1 : List Loc), t.heap = H1 → s.vm.Alike t.vm → post r u → B u t → H.size ≤ H1.size → (∀ q : Nat, q < H.size → ¬ A1 q → H1[q]? = H[q]?) → va_S A0 H0 H1 locs1 → W p l e R s m args below meth c H1 locs1 (cells + mc) (slots + ms) Q (F0 m (pc + 3) ls (.long r :: rest))) : W p l e R s m args below meth c H locs cells slots Q (F0 m pc ls st0) := by
  intro T hT X
  rcases hr T hT X with ⟨v, st₀, t, T', L, h0, X', hL, e1, e2, ⟨⟨r, u, hv, hp, hb⟩, hF⟩, st⟩ | ⟨q, st₀, t, T', L, E, ce, h0, X', hL, e1, e2, ⟨u, hp, hb, hF⟩, hce, hcv, hcl, st⟩
  · cases hv
    obtain ⟨k1, k2, k3⟩ := vx_keep h0 e1 hS hA hf hL hF
    obtain ⟨t2, a1, b1⟩ := kk r u t T'.heap (locs ++ L) e1.symm (by rw [← e2]; exact X'.warmed.alike) hp hb k1 k2 k3 T' rfl X'
    exact ⟨t2, st t2 a1, b1⟩
  · obtain ⟨k1, k2, k3⟩ := vx_keep h0 e1 hS hAX hf hL hF
    obtain ⟨t2, a1, b1⟩ := kx E ce q u t T'.heap (locs ++ L) e1.symm (by rw [← e2]; exact X'.warmed.alike) hp hb k1 k2 k3 (by rw [e1]; exact hce) hcv hcl T' rfl X'
    exact ⟨t2, st.trans a1, b1⟩
theorem vx_callf {S SX : Type} {post : UInt32 → S → Prop} {px : SX → Prop} {B : S → State → Prop} {BX : String → SX → State → Prop} {AX : Nat → Prop} (hr : vx_Run p l e R s m args below meth c H locs cells slots mc ms (F0 m pc ls st0) rest (va_Qf post B A1 a) (vx_X px BX AX) free) (hS : va_S A0 H0 H locs) (hA : ∀ q, q < H.size → A1 q → A0 q) (hf : ∀ q, free q → A0 q) (hAX : ∀ q, q < H.size → AX q → A0 q)
    (kx : ∀ (E : String) (ce : Cell) (q9 : Addr) (u : SX) (t : State) (H1 : Heap) (locs1 : List Loc), t.heap = H1 → s.vm.Alike t.vm → px u → BX E u t → H.size ≤ H1.size → (∀ q : Nat, q < H.size → ¬ AX q → H1[q]? = H[q]?) → va_S A0 H0 H1 locs1 → H1[q9]? = some ce → ce.vm = .none → s.vm.findClass E = some ce.cls → vx_W p l e R s m args below meth c H1 locs1 (cells + mc) (slots + ms) Q (F0 m pc ls rest) q9)
    (kk : ∀ (r : UInt32) (u : S) (t : State) (H1 : Heap) (locs1 : List Loc), t.heap = H1 → s.vm.Alike t.vm → post r u → B u t → H.size ≤ H1.size → (∀ q : Nat, q < H.size → ¬ A1 q → H1[q]? = H[q]?) → va_S A0 H0 H1 locs1 → W p l e R s m args below meth c H1 locs1 (cells + mc) (slots + ms) Q (F0 m (pc + 3) ls (.float r :: rest))) : W p l e R s m args below meth c H locs cells slots Q (F0 m pc ls st0) := by
  intro T hT X
  rcases hr T hT X with ⟨v, st₀, t, T', L, h0, X', hL, e1, e2, ⟨⟨r, u, hv, hp, hb⟩, hF⟩, st⟩ | ⟨q, st₀, t, T', L, E, ce, h0, X', hL, e1, e2, ⟨u, hp, hb, hF⟩, hce, hcv, hcl, st⟩
  · cases hv
    obtain ⟨k1, k2, k3⟩ := vx_keep h0 e1 hS hA hf hL hF
    obtain ⟨t2, a1, b1⟩ := kk r u t T'.heap (locs ++ L) e1.symm (by rw [← e2]; exact X'.warmed.alike) hp hb k1 k2 k3 T' rfl X'
    exact ⟨t2, st t2 a1, b1⟩
  · obtain ⟨k1, k2, k3⟩ := vx_keep h0 e1 hS hAX hf hL hF
    obtain ⟨t2, a1, b1⟩ := kx E ce q u t T'.heap (locs ++ L) e1.symm (by rw [← e2]; exact X'.warmed.alike) hp hb k1 k2 k3 (by rw [e1]; exact hce) hcv hcl T' rfl X'
    exact ⟨t2, st.trans a1, b1⟩
theorem vx_calld {S SX : Type} {post : UInt64 → S → Prop} {px : SX → Prop} {B : S → State → Prop} {BX : String → SX → State → Prop} {AX : Nat → Prop} (hr : vx_Run p l e R s m args below meth c H locs cells slots mc ms (F0 m pc ls st0) rest (va_Qd post B A1 a) (vx_X px BX AX) free) (hS : va_S A0 H0 H locs) (hA : ∀ q, q < H.size → A1 q → A0 q) (hf : ∀ q, free q → A0 q) (hAX : ∀ q, q < H.size → AX q → A0 q)
    (kx : ∀ (E : String) (ce : Cell) (q9 : Addr) (u : SX) (t : State) (H1 : Heap) (locs1 : List Loc), t.heap = H1 → s.vm.Alike t.vm → px u → BX E u t → H.size ≤ H1.size → (∀ q : Nat, q < H.size → ¬ AX q → H1[q]? = H[q]?) → va_S A0 H0 H1 locs1 → H1[q9]? = some ce → ce.vm = .none → s.vm.findClass E = some ce.cls → vx_W p l e R s m args below meth c H1 locs1 (cells + mc) (slots + ms) Q (F0 m pc ls rest) q9)
    (kk : ∀ (r : UInt64) (u : S) (t : State) (H1 : Heap) (locs1 : List Loc), t.heap = H1 → s.vm.Alike t.vm → post r u → B u t → H.size ≤ H1.size → (∀ q : Nat, q < H.size → ¬ A1 q → H1[q]? = H[q]?) → va_S A0 H0 H1 locs1 → W p l e R s m args below meth c H1 locs1 (cells + mc) (slots + ms) Q (F0 m (pc + 3) ls (.double r :: rest))) : W p l e R s m args below meth c H locs cells slots Q (F0 m pc ls st0) := by
  intro T hT X
  rcases hr T hT X with ⟨v, st₀, t, T', L, h0, X', hL, e1, e2, ⟨⟨r, u, hv, hp, hb⟩, hF⟩, st⟩ | ⟨q, st₀, t, T', L, E, ce, h0, X', hL, e1, e2, ⟨u, hp, hb, hF⟩, hce, hcv, hcl, st⟩
  · cases hv
    obtain ⟨k1, k2, k3⟩ := vx_keep h0 e1 hS hA hf hL hF
    obtain ⟨t2, a1, b1⟩ := kk r u t T'.heap (locs ++ L) e1.symm (by rw [← e2]; exact X'.warmed.alike) hp hb k1 k2 k3 T' rfl X'
    exact ⟨t2, st t2 a1, b1⟩
  · obtain ⟨k1, k2, k3⟩ := vx_keep h0 e1 hS hAX hf hL hF
    obtain ⟨t2, a1, b1⟩ := kx E ce q u t T'.heap (locs ++ L) e1.symm (by rw [← e2]; exact X'.warmed.alike) hp hb k1 k2 k3 (by rw [e1]; exact hce) hcv hcl T' rfl X'
    exact ⟨t2, st.trans a1, b1⟩
theorem vx_callv {S SX : Type} {post : S → Prop} {px : SX → Prop} {B : S → State → Prop} {BX : String → SX → State → Prop} {AX : Nat → Prop} (hr : vx_Run p l e R s m args below meth c H locs cells slots mc ms (F0 m pc ls st0) rest (va_Qv post B A1 a) (vx_X px BX AX) free) (hS : va_S A0 H0 H locs) (hA : ∀ q, q < H.size → A1 q → A0 q) (hf : ∀ q, free q → A0 q) (hAX : ∀ q, q < H.size → AX q → A0 q)
    (kx : ∀ (E : String) (ce : Cell) (q9 : Addr) (u : SX) (t : State) (H1 : Heap) (locs1 : List Loc), t.heap = H1 → s.vm.Alike t.vm → px u → BX E u t → H.size ≤ H1.size → (∀ q : Nat, q < H.size → ¬ AX q → H1[q]? = H[q]?) → va_S A0 H0 H1 locs1 → H1[q9]? = some ce → ce.vm = .none → s.vm.findClass E = some ce.cls → vx_W p l e R s m args below meth c H1 locs1 (cells + mc) (slots + ms) Q (F0 m pc ls rest) q9)
    (kk : ∀ (u : S) (t : State) (H1 : Heap) (locs1 : List Loc), t.heap = H1 → s.vm.Alike t.vm → post u → B u t → H.size ≤ H1.size → (∀ q : Nat, q < H.size → ¬ A1 q → H1[q]? = H[q]?) → va_S A0 H0 H1 locs1 → W p l e R s m args below meth c H1 locs1 (cells + mc) (slots + ms) Q (F0 m (pc + 3) ls (rest))) : W p l e R s m args below meth c H locs cells slots Q (F0 m pc ls st0) := by
  intro T hT X
  rcases hr T hT X with ⟨v, st₀, t, T', L, h0, X', hL, e1, e2, ⟨⟨u, hv, hp, hb⟩, hF⟩, st⟩ | ⟨q, st₀, t, T', L, E, ce, h0, X', hL, e1, e2, ⟨u, hp, hb, hF⟩, hce, hcv, hcl, st⟩
  · cases hv
    obtain ⟨k1, k2, k3⟩ := vx_keep h0 e1 hS hA hf hL hF
    obtain ⟨t2, a1, b1⟩ := kk u t T'.heap (locs ++ L) e1.symm (by rw [← e2]; exact X'.warmed.alike) hp hb k1 k2 k3 T' rfl X'
    exact ⟨t2, st t2 a1, b1⟩
  · obtain ⟨k1, k2, k3⟩ := vx_keep h0 e1 hS hAX hf hL hF
    obtain ⟨t2, a1, b1⟩ := kx E ce q u t T'.heap (locs ++ L) e1.symm (by rw [← e2]; exact X'.warmed.alike) hp hb k1 k2 k3 (by rw [e1]; exact hce) hcv hcl T' rfl X'
    exact ⟨t2, st.trans a1, b1⟩
end Rows
section Ends
variable {p : Program} {l : Launch} {e : Env} {R : Room} {s : State} {m : MethodId} {args : Array Value} {below : List Frame} {meth : Method} {c : Code} {H : Heap} {locs : List Loc} {cells slots : Nat} {Q : State → Prop}
variable {mc ms : Nat} {free : Addr → Prop} {A0 A1 : Nat → Prop} {H0 : Heap} {a : Array Value} {ls : Array Slot} {st0 rest : List Value}
variable {Qc : Array Value → State → Outcome → State → Prop} {XC : String → State → State → Prop}
/-- what a body that may throw owes at its end -/
def vx_MQ (below : List Frame) (Qc : Array Value → State → Outcome → State → Prop) (XC : String → State → State → Prop) (a : Array Value) (s : State) (mc ms : Nat) (free : Addr → Prop) : State → Prop := fun t =>
  ∃ o, t.status = .running ∧ Ended t below o ∧ vx_Q Qc XC mc ms free a s o t
theorem vx_ret {g : JFrame} {mc ms : Nat} (k : W p l e R s m args below meth c H locs cells slots (MQ below Qc args s mc ms free) g) : W p l e R s m args below meth c H locs cells slots (vx_MQ below Qc XC args s mc ms free) g := by
  intro T hT X
  obtain ⟨t, a1, o, b1, b2, b3, b4⟩ := k T hT X
  exact ⟨t, a1, o, b1, b2, Or.inl ⟨b3, b4⟩⟩
/-- not caught here: it goes on to the caller -/
theorem vx_widen {g : JFrame} {q : Addr} {k n : Nat} (h1 : cells ≤ k) (h2 : slots ≤ n) (kk : vx_W p l e R s m args below meth c H locs k n Q g q) : vx_W p l e R s m args below meth c H locs cells slots Q g q := fun T hT X => kk T hT (stand_widen X h1 h2)
theorem vx_out {pc : Nat} {E : String} {ce : Cell} {q : Addr} {mc ms : Nat} (hout : ∀ x ∈ c.exceptionTable.toList, covers x pc = false) (hlocks : meth.locks = false) (hcell : H[q]? = some ce) (hv : ce.vm = .none) (hcl : s.vm.findClass E = some ce.cls)
    (hx : ∀ t : State, t.heap = H → s.vm.Alike t.vm → XC E s t) (hf : ∀ z ∈ locs, free z.base) (hc : cells ≤ mc) (hs : slots ≤ ms) :
    vx_W p l e R s m args below meth c H locs cells slots (vx_MQ below Qc XC args s mc ms free) (F0 m pc ls rest) q := by
  intro T hT X
  obtain ⟨st1, hrun, hend, hW, hsm⟩ := X.leaveThrown q (g := F0 m pc ls rest) rfl rfl rfl hout hlocks
  have hcell9 : (T.setFrames (.throwing q :: below)).heap[q]? = some ce := by
    show T.heap[q]? = some ce
    rw [hT]; exact hcell
  exact ⟨_, st1, .threw q, hrun, hend, Or.inr ⟨q, rfl, E, ce, locs, hx _ hT hW.alike, hcell9, hv, hcl, hW, hsm.mono hc hs, hf⟩⟩
theorem vx_frame {U : State} {k n : Nat} (h : s.sameButNew ({ U with vm := s.vm } : State) locs k n) : s.heap.size ≤ U.heap.size ∧ ∀ q : Nat, q < s.heap.size → (∀ z ∈ locs, z.base ≠ q) → U.heap[q]? = s.heap[q]? := by
  obtain ⟨-, h2, -, -, -, h6⟩ := h
  refine ⟨h2, fun q hq hz => ?_⟩
  obtain ⟨c9, e1, e2, e3, e4⟩ := h6 q _ (Array.getElem?_eq_getElem hq)
  have hs : c9.slots = (s.heap[q]).slots := Array.ext_getElem? fun i => e4 i fun hm => hz _ hm rfl
  have h9 : c9 = s.heap[q] := by
    rw [hs] at e2
    exact e2
  have e5 : U.heap[q]? = some c9 := e1
  rw [e5, h9, Array.getElem?_eq_getElem hq]
/-- the words of a throw but the four that speak of the heap -/
def vx_no (w : Cond) : Bool := decide (w ≠ .isRef (.static Bundle.tN "UNASSIGNED_STACK" Bundle.steD)) && decide (w ≠ .isRef (.static Bundle.tN "SUPPRESSED_SENTINEL" Bundle.listD)) && decide (w ≠ .laysStatic Bundle.tN "UNASSIGNED_STACK" Bundle.steD) && decide (w ≠ .laysStatic Bundle.tN "SUPPRESSED_SENTINEL" Bundle.listD)
def vx_at0 (own : String) (ic : Nat) (X : String) (names : List String) : List Cond := (Bundle.ownAtoms0 own ic X names).filter vx_no
def vx_atS (own : String) (ic : Nat) (X : String) (names : List String) : List Cond := (Bundle.ownAtoms own ic X names).filter vx_no
/-- a word that the tables alone decide, or a good one -/
def vx_ot (w : Cond) : Bool := w.onTables || goodWord w
theorem vx_ot_at {args a' : Array Value} {s U : State} {w : Cond} (hW : s.WarmedH U.vm) (hvm : s.vm = U.vm) (hg : vx_ot w = true) (h : w.before args s = true) : w.before a' U = true := by
  simp only [vx_ot, Bool.or_eq_true] at hg
  rcases hg with hg | hg
  · exact va_tabs hg hvm h
  · exact word_at hW (good_of_word hg) h
/-- a list's words: the good ones out of the method's own list, the others by premises of their own -/
theorem vx_hat {args : Array Value} {s : State} {L B : List Cond} (h1 : ∀ w ∈ L.filter goodWord, w.before args s = true) (h2 : ∀ w ∈ L.filter (fun w => !goodWord w), w ∈ B) (h3 : ∀ w ∈ B, w.before args s = true) : ∀ w ∈ L, w.before args s = true := by
  intro w hw
  by_cases g : goodWord w = true
  · exact h1 w (List.mem_filter.mpr ⟨hw, g⟩)
  · refine h3 w (h2 w (List.mem_filter.mpr ⟨hw, ?_⟩))
    show (!goodWord w) = true
    cases hgw : goodWord w
    · rfl
    · exact absurd hgw g
theorem vx_c {args : Array Value} {s : State} {w : Cond} {B : List Cond} (h : w.before args s = true) (t : ∀ w ∈ B, w.before args s = true) : ∀ w' ∈ w :: B, w'.before args s = true := fun w' h' => (List.mem_cons.mp h').elim (fun e => by rw [e]; exact h) (t w')
theorem vx_n {args : Array Value} {s : State} : ∀ w ∈ ([] : List Cond), w.before args s = true := fun _ h => nomatch h
theorem vx_own {args : Array Value} {s : State} {L : List Cond} (h1 : ∀ w ∈ L.filter vx_no, w.before args s = true)
    (hU : (Cond.isRef (.static Bundle.tN "UNASSIGNED_STACK" Bundle.steD)).before args s = true) (hN : (Cond.isRef (.static Bundle.tN "SUPPRESSED_SENTINEL" Bundle.listD)).before args s = true)
    (lU : (Cond.laysStatic Bundle.tN "UNASSIGNED_STACK" Bundle.steD).before args s = true) (lN : (Cond.laysStatic Bundle.tN "SUPPRESSED_SENTINEL" Bundle.listD).before args s = true) : ∀ w ∈ L, w.before args s = true := by
  intro w hw
  by_cases e1 : w = .isRef (.static Bundle.tN "UNASSIGNED_STACK" Bundle.steD)
  · rw [e1]; exact hU
  · by_cases e2 : w = .isRef (.static Bundle.tN "SUPPRESSED_SENTINEL" Bundle.listD)
    · rw [e2]; exact hN
    · by_cases e3 : w = .laysStatic Bundle.tN "UNASSIGNED_STACK" Bundle.steD
      · rw [e3]; exact lU
      · by_cases e4 : w = .laysStatic Bundle.tN "SUPPRESSED_SENTINEL" Bundle.listD
        · rw [e4]; exact lN
        · exact h1 w (List.mem_filter.mpr ⟨hw, by unfold vx_no; rw [decide_eq_true e1, decide_eq_true e2, decide_eq_true e3, decide_eq_true e4]; rfl⟩)
/-- where a static field lies, its class's statics cell in H -/
def vx_L (C n d : String) (A : Nat → Prop) (U : State) (H : Heap) : Prop := ∃ (c : ClassId) (k : Class) (i : Nat) (f : Field) (a : Nat) (cell : Cell), U.vm.findClass C = some c ∧ U.fieldFound? C n d = some (c, k, i, f) ∧ f.isStatic = true ∧ k.statics = some a ∧ H[a]? = some cell ∧ cell.vm.isStatics = true ∧ cell.cls = c ∧ f.slot < cell.slots.size ∧ k.staticTypes[f.slot]? = some f.type ∧ ¬ A a
theorem vx_L.moved {C n d : String} {A : Nat → Prop} {u U : State} {H : Heap} (hvm : u.vm.Alike U.vm) (h : vx_L C n d A u H) : vx_L C n d A U H := by
  obtain ⟨c, k, i, f, a, cell, h1, h2, h3, h4, h5, h6, h7, h8, h9, h10⟩ := h
  obtain ⟨k', hi', he⟩ := State.fieldFound?_setVm hvm h2
  exact ⟨c, k', i, f, a, cell, by rw [hvm.findClass]; exact h1, hi', h3, by rw [he]; exact h4, h5, h6, h7, h8, by rw [he]; exact h9, h10⟩
theorem vx_L.kept {C n d : String} {A : Nat → Prop} {U : State} {H H1 : Heap} (h : vx_L C n d A U H) (hq : ∀ a : Nat, a < H.size → ¬ A a → H1[a]? = H[a]?) : vx_L C n d A U H1 := by
  obtain ⟨c, k, i, f, a, cell, h1, h2, h3, h4, h5, h6, h7, h8, h9, h10⟩ := h
  exact ⟨c, k, i, f, a, cell, h1, h2, h3, h4, by rw [hq a (Array.getElem?_eq_some_iff.mp h5).1 h10]; exact h5, h6, h7, h8, h9, h10⟩
theorem vx_L.narrow {C n d : String} {A B : Nat → Prop} {U : State} {H : Heap} (h : vx_L C n d A U H) (hAB : ∀ q, B q → A q) : vx_L C n d B U H := by
  obtain ⟨c, k, i, f, a, cell, h1, h2, h3, h4, h5, h6, h7, h8, h9, h10⟩ := h
  exact ⟨c, k, i, f, a, cell, h1, h2, h3, h4, h5, h6, h7, h8, h9, fun z => h10 (hAB _ z)⟩
theorem vx_L.word {C n d : String} {A : Nat → Prop} {s : State} {args : Array Value} (h : vx_L C n d A s s.heap) : (Cond.laysStatic C n d).before args s = true := by
  obtain ⟨c, k, i, f, a, cell, h1, h2, h3, h4, h5, h6, h7, h8, h9, -⟩ := h
  show (Cond.laysStatic C n d).holds args s none s [] = true
  exact Cond.laysStatic_of h1 h2 h3 h4 h5 h6 h7 h8 h9
/-- .. and what it holds: null or some reference -/
def vx_Zq (C n d : String) (A : Nat → Prop) (U : State) (H : Heap) : Prop := va_Zq C n d A U H ∧ vx_L C n d A U H
theorem vx_Zq.moved {C n d : String} {A : Nat → Prop} {u U : State} {H : Heap} (hvm : u.vm.Alike U.vm) (h : vx_Zq C n d A u H) : vx_Zq C n d A U H := ⟨va_Zq.moved hvm h.1, vx_L.moved hvm h.2⟩
theorem vx_Zq.kept {C n d : String} {A : Nat → Prop} {U : State} {H H1 : Heap} (h : vx_Zq C n d A U H) (hq : ∀ a : Nat, a < H.size → ¬ A a → H1[a]? = H[a]?) : vx_Zq C n d A U H1 := ⟨va_Zq.kept h.1 hq, vx_L.kept h.2 hq⟩
theorem vx_Zq.narrow {C n d : String} {A B : Nat → Prop} {U : State} {H : Heap} (h : vx_Zq C n d A U H) (hAB : ∀ q, B q → A q) : vx_Zq C n d B U H := ⟨va_Zq.narrow h.1 hAB, vx_L.narrow h.2 hAB⟩
theorem vx_Zqof {args : Array Value} {s : State} {C n d : String} {A : Nat → Prop} (hl : (Cond.laysStatic C n d).before args s = true) (hini : (Cond.initialized C).before args s = true) (h : (Cond.isRef (.static C n d)).before args s = true) (hA : ∀ a : Nat, a < s.heap.size → ¬ A a) : vx_Zq C n d A s s.heap := by
  refine ⟨va_Zqof hl hini h hA, ?_⟩
  obtain ⟨c, k, i, f, a, cell, h1, h2, h3, h4, h5, h6, h7, h8, h9⟩ := Cond.laysStatic_spec hl
  exact ⟨c, k, i, f, a, cell, h1, h2, h3, h4, h5, h6, h7, h8, h9, hA a (Array.getElem?_eq_some_iff.mp h5).1⟩
theorem vx_isRef {C n d : String} {v : Value} {A : Nat → Prop} {s : State} {args : Array Value} (h : va_Z C n d v A s s.heap) (hv : v.isRef = true) : (Cond.isRef (.static C n d)).before args s = true := by
  obtain ⟨cf, kf, fi, f, a, cell, h1, h2, h3, h4, h5, h6, h7, -⟩ := h
  have he : (Term.static C n d).eval args s none [] s = some v := by
    simp [Term.eval, State.fieldNamed?, h1, h2, h4, h5, h6, h7]
  simp only [Cond.before, Cond.holds, Cond.value, he]
  cases v <;> simp_all [Value.isRef]
theorem vx_isRefq {C n d : String} {A : Nat → Prop} {s : State} {args : Array Value} (h : va_Zq C n d A s s.heap) : (Cond.isRef (.static C n d)).before args s = true := by
  rcases h with h | ⟨t, h⟩
  · exact vx_isRef h rfl
  · exact vx_isRef h rfl
/-- the same frame, seen from here: as if the method were called anew in this heap -/
theorem vx_rebase {T : State} (X : Stand p l e R s m args below meth c T locs cells slots) {R' : Room} (hf : R'.frames ≤ R.frames) (hl : R'.locals ≤ R.locals) (hc : cells + R'.cells ≤ R.cells) (hs : slots + R'.slots ≤ R.slots) :
    Stand p l e R' ((T.setVm s.vm).setFrames (.invoking m args :: below)) m args below meth c T [] 0 0 := by
  have htop : (T.setVm s.vm).topJava?.isSome := X.here.top
  have hF : ((T.setVm s.vm).setFrames (.invoking m args :: below)).frames = .invoking m args :: below := State.frames_setFrames _ (State.cur_lt_of_top htop)
  obtain ⟨g₀, hg0⟩ := Option.isSome_iff_exists.mp htop
  obtain ⟨r, hr⟩ := State.topJava?_eq_some.mp hg0
  have hl9 : e.platform.stackLimits (T.setVm s.vm).me = e.platform.stackLimits s.me := X.limits
  have hb9 : (T.setVm s.vm).me.stackBytes = s.me.stackBytes := X.bytes
  refine ⟨X.admits, X.cas, X.clock, hF, ?_, X.hears, X.method, X.code, X.here, X.tail, X.warmed, ?_, ?_, ?_⟩
  · have h := X.room
    have hU : ((T.setVm s.vm).setFrames (.invoking m args :: below)).localsInUse = s.localsInUse := by
      rw [State.localsInUse_invoking hF (meth := meth) (c := c) X.method X.code, State.localsInUse_invoking X.frames X.method X.code]
    simp only [State.hasRoom, Bool.and_eq_true, decide_eq_true_eq] at h ⊢
    obtain ⟨⟨⟨⟨h1, h2, h3, h4, h5, h6⟩, h7⟩, h8⟩, h9⟩ := h
    rw [X.frames, List.length_cons] at h2 h3
    have q1 := X.heapSize
    have q2 := X.used
    simp only [hF, hU, List.length_cons, State.stackLimits_setFrames, State.stackBytes_setFrames, hl9, hb9]
    refine ⟨⟨⟨⟨by omega, by omega, by omega, by omega, by omega, h6⟩, ?_⟩, ?_⟩, X.book⟩
    · show T.heap.size + R'.cells ≤ e.platform.maxCells
      omega
    · show T.slotsUsed + R'.slots ≤ e.platform.maxSlots
      omega
  · rw [State.stackLimits_setFrames]; rfl
  · rw [State.stackBytes_setFrames]; rfl
  · refine ⟨?_, Nat.le_refl _, Nat.le_refl _, ?_, ?_, fun a c9 h9 => ⟨c9, h9, rfl, rfl, fun _ _ => rfl⟩⟩
    · obtain ⟨t, ht, -⟩ := State.frames_cons hr
      show T.setVm s.vm = { ((T.setVm s.vm).setFrames (.invoking m args :: below)).setFrames (T.setVm s.vm).frames with heap := T.heap, slotsUsed := T.slotsUsed }
      rw [State.setFrames_setFrames, State.setFrames_self ht]
      rfl
    · show T.slotsUsed = T.slotsUsed + ((T.heap.toList.drop T.heap.size).map (·.slots.size)).sum
      rw [List.drop_eq_nil_of_le (Nat.le_of_eq Array.length_toList)]
      rfl
    · show ((T.heap.toList.drop T.heap.size).map (·.slots.size)).sum ≤ 0
      rw [List.drop_eq_nil_of_le (Nat.le_of_eq Array.length_toList)]
      exact Nat.le_refl _
/-- 'throw new E()': new; dup; invokespecial; athrow -/
theorem vx_throw0 {cc : ByteArray} {pc : Nat} (hexec : p.tables.exec = Jvm.exec) (hb : c.code = cc) (hl : l.stackTraces = false) {own cls : String} {names : List String} {ik ic mc ms : Nat} {A : Nat → Prop}
    (hown : s.vm.findClass own = some m.cls) (hcls : Bundle.fit cls = true) (hnames : ∀ n ∈ names, Bundle.fit n = true)
    (hk : (Cond.classLink own ik cls).before args s = true) (hini : (Cond.initialized cls).before args s = true) (hat : ∀ w ∈ vx_at0 own ic cls names, w.before args s = true)
    (hgood : ∀ w ∈ Cond.classLink own ik cls :: Cond.initialized cls :: vx_at0 own ic cls names, vx_ot w = true)
    (hU : vx_Zq Bundle.tN "UNASSIGNED_STACK" Bundle.steD A s s.heap) (hN : vx_Zq Bundle.tN "SUPPRESSED_SENTINEL" Bundle.listD A s s.heap) (hS : va_S A s.heap H locs) (hsize : ls.size = c.maxLocals)
    (d0 : decode cc pc = .ok (.new ik, 3)) (d3 : decode cc (pc + 3) = .ok (.dup, 1)) (d4 : decode cc (pc + 4) = .ok (.invokespecial ic, 3)) (d7 : decode cc (pc + 7) = .ok (.athrow, 1))
    (hout : ∀ x ∈ c.exceptionTable.toList, covers x (pc + 7) = false)
    (hRframes : names.length + 3 < R.frames) (hRlocals : (rest.map fun v => v.category).sum + (13 * (names.length + 1) + 42) ≤ R.locals) (hRcells : cells + 1 ≤ R.cells) (hRslots : slots + 6 ≤ R.slots) (hlocks : meth.locks = false)
    (hx : ∀ t : State, s.vm.Alike t.vm → H.size ≤ t.heap.size → (∀ q : Nat, q < H.size → t.heap[q]? = H[q]?) → XC cls s t)
    (hf : ∀ z ∈ locs, free z.base) (hc : cells + 1 ≤ mc) (hs : slots + 6 ≤ ms) :
    W p l e R s m args below meth c H locs cells slots (vx_MQ below Qc XC args s mc ms free) (F0 m pc ls rest) := by
  intro T hT X
  have htr : e.platform.stackTraces = false := (show e.platform.stackTraces = l.stackTraces by rw [X.admits.platform]).trans hl
  have Y := vx_rebase X (R' := { frames := R.frames, locals := R.locals, cells := 1, slots := 6 }) (Nat.le_refl _) (Nat.le_refl _) hRcells hRslots
  obtain ⟨s', hA⟩ : ∃ z, z = (T.setVm s.vm).setFrames (.invoking m args :: below) := ⟨_, rfl⟩
  rw [← hA] at Y
  have hvm : s'.vm = s.vm := by rw [hA]; rfl
  have hhp : s'.heap = H := by rw [hA]; exact hT
  have hW0 : s.WarmedH s'.vm := by rw [hvm]; exact State.WarmedH.refl s
  have hat' : ∀ w ∈ vx_at0 own ic cls names, w.before args s' = true := fun w hw => vx_ot_at hW0 hvm.symm (hgood w (List.mem_cons_of_mem _ (List.mem_cons_of_mem _ hw))) (hat w hw)
  have hk' : (Cond.classLink own ik cls).before args s' = true := vx_ot_at hW0 hvm.symm (hgood _ List.mem_cons_self) hk
  have hini' : (Cond.initialized cls).before args s' = true := vx_ot_at hW0 hvm.symm (hgood _ (List.mem_cons_of_mem _ List.mem_cons_self)) hini
  have hU' : vx_Zq Bundle.tN "UNASSIGNED_STACK" Bundle.steD A s' s'.heap := by rw [hhp]; exact vx_Zq.moved hW0.alike (hU.kept hS.2.1)
  have hN' : vx_Zq Bundle.tN "SUPPRESSED_SENTINEL" Bundle.listD A s' s'.heap := by rw [hhp]; exact vx_Zq.moved hW0.alike (hN.kept hS.2.1)
  have h : ∀ w ∈ Bundle.ownAtoms0 own ic cls names, w.before args s' = true := vx_own hat' (vx_isRefq hU'.1) (vx_isRefq hN'.1) hU'.2.word hN'.2.word
  have hown' : s'.vm.findClass own = some m.cls := by rw [hvm]; exact hown
  have hins : (Cond.instantiable cls 6).before args s' = true := h _ (by simp [Bundle.ownAtoms0])
  obtain ⟨vm₁, cX, kX, hfX, hkX, -, -, X₁, st1⟩ := Y.newCold hexec (own := own) (C := cls) (index := ik) (n := 6) hown' hk' hins hini'
    (g := F0 m pc ls rest) rfl (by rw [hb]; exact d0) (Nat.le_refl _) (Nat.le_refl _)
  generalize hT1 : (T.setVm vm₁).pushCell { cls := cX, slots := kX.instanceTypes.map defaultValue, vm := .none } = T1 at X₁ st1
  have hcat : (Value.ref T.heap.size).category = 1 := rfl
  have hcellA : T1.heap[T.heap.size]? = some (freshCell cX kX) := by rw [← hT1]; exact State.heap_pushCell_size _ _
  have d3' : decode c.code (pc + 3) = .ok (.dup, 1) := by rw [hb]; exact d3
  obtain ⟨U, hsteps, hrun, hend, hW, hsame, ce, hce, hO⟩ := X₁.ctorThrow0 hexec htr (own := own) (cls := cls) (names := names) (ic := ic) hown' hcls hnames h (fun x hx => nomatch hx) hfX hkX hcellA (by rw [hhp, hT]; exact Nat.le_refl _)
    (g := { method := m, pc := pc + 4, locals := ls, stack := .ref T.heap.size :: .ref T.heap.size :: rest, locked := none }) rfl hsize rfl rfl (rest := rest) rfl
    (by rw [hb]; exact d4) (by rw [hb]; exact d7) hout hRframes (by simp only [List.map_cons, List.sum_cons, hcat]; omega) hlocks
  obtain ⟨f1, f2⟩ := vx_frame hsame
  rw [hhp] at f1 f2
  have hWs : s.WarmedH U.vm := State.WarmedH.trans hW0 hW
  have hcl : s.vm.findClass cls = some ce.cls := by
    have h9 := hO.cls
    rw [hvm] at h9
    exact h9
  have hall : s.sameButNew ({ U with vm := s.vm } : State) locs mc ms := by
    subst hA
    obtain ⟨e1, e2⟩ := hsame
    rw [State.setFrames_setFrames] at e1
    have h2 : (T.setVm s.vm).sameButNew ({ U with vm := s.vm } : State) [] (0 + 1) (0 + 6) := ⟨e1, e2⟩
    have h3 := X.same.trans h2
    rw [List.append_nil] at h3
    exact h3.mono hc hs
  refine ⟨U, ?_, .threw T.heap.size, hrun, hend, Or.inr ⟨T.heap.size, rfl, cls, ce, locs, hx U hWs.alike f1 (fun q hq => f2 q hq (fun z hz => nomatch hz)), hce, hO.vm, hcl, hWs, hall, hf⟩⟩
  refine st1 _ ?_
  show Steps p.tables e below (T1.setTop { method := m, pc := pc + 3, locals := ls, stack := .ref T.heap.size :: rest, locked := none }) _
  jvm_step X₁.here [X₁.here.top, hexec, d3', Value.category]
  exact hsteps
/-- 'throw new E("text")': new; dup; ldc; invokespecial; athrow -/
theorem vx_throwS {cc : ByteArray} {pc : Nat} (hexec : p.tables.exec = Jvm.exec) (hb : c.code = cc) (hl : l.stackTraces = false) {own cls text : String} {names : List String} {ik is ic mc ms sa : Nat} {A : Nat → Prop}
    (hown : s.vm.findClass own = some m.cls) (hcls : Bundle.fit cls = true) (hnames : ∀ n ∈ names, Bundle.fit n = true)
    (hk : (Cond.classLink own ik cls).before args s = true) (hini : (Cond.initialized cls).before args s = true) (hstr : vk_R own is text sa s) (hat : ∀ w ∈ vx_atS own ic cls names, w.before args s = true)
    (hgood : ∀ w ∈ Cond.classLink own ik cls :: Cond.initialized cls :: vx_atS own ic cls names, vx_ot w = true)
    (hU : vx_Zq Bundle.tN "UNASSIGNED_STACK" Bundle.steD A s s.heap) (hN : vx_Zq Bundle.tN "SUPPRESSED_SENTINEL" Bundle.listD A s s.heap) (hS : va_S A s.heap H locs) (hsize : ls.size = c.maxLocals)
    (d0 : decode cc pc = .ok (.new ik, 3)) (d3 : decode cc (pc + 3) = .ok (.dup, 1)) (d4 : decode cc (pc + 4) = .ok (.ldc is, 2)) (d6 : decode cc (pc + 6) = .ok (.invokespecial ic, 3)) (d9 : decode cc (pc + 9) = .ok (.athrow, 1))
    (hout : ∀ x ∈ c.exceptionTable.toList, covers x (pc + 9) = false)
    (hRframes : names.length + 3 < R.frames) (hRlocals : (rest.map fun v => v.category).sum + (13 * (names.length + 1) + 43) ≤ R.locals) (hRcells : cells + 1 ≤ R.cells) (hRslots : slots + 6 ≤ R.slots) (hlocks : meth.locks = false)
    (hx : ∀ t : State, s.vm.Alike t.vm → H.size ≤ t.heap.size → (∀ q : Nat, q < H.size → t.heap[q]? = H[q]?) → XC cls s t)
    (hf : ∀ z ∈ locs, free z.base) (hc : cells + 1 ≤ mc) (hs : slots + 6 ≤ ms) :
    W p l e R s m args below meth c H locs cells slots (vx_MQ below Qc XC args s mc ms free) (F0 m pc ls rest) := by
  intro T hT X
  have htr : e.platform.stackTraces = false := (show e.platform.stackTraces = l.stackTraces by rw [X.admits.platform]).trans hl
  have Y := vx_rebase X (R' := { frames := R.frames, locals := R.locals, cells := 1, slots := 6 }) (Nat.le_refl _) (Nat.le_refl _) hRcells hRslots
  obtain ⟨s', hA⟩ : ∃ z, z = (T.setVm s.vm).setFrames (.invoking m args :: below) := ⟨_, rfl⟩
  rw [← hA] at Y
  have hvm : s'.vm = s.vm := by rw [hA]; rfl
  have hhp : s'.heap = H := by rw [hA]; exact hT
  have hW0 : s.WarmedH s'.vm := by rw [hvm]; exact State.WarmedH.refl s
  have hat' : ∀ w ∈ vx_atS own ic cls names, w.before args s' = true := fun w hw => vx_ot_at hW0 hvm.symm (hgood w (List.mem_cons_of_mem _ (List.mem_cons_of_mem _ hw))) (hat w hw)
  have hk' : (Cond.classLink own ik cls).before args s' = true := vx_ot_at hW0 hvm.symm (hgood _ List.mem_cons_self) hk
  have hini' : (Cond.initialized cls).before args s' = true := vx_ot_at hW0 hvm.symm (hgood _ (List.mem_cons_of_mem _ List.mem_cons_self)) hini
  have hU' : vx_Zq Bundle.tN "UNASSIGNED_STACK" Bundle.steD A s' s'.heap := by rw [hhp]; exact vx_Zq.moved hW0.alike (hU.kept hS.2.1)
  have hN' : vx_Zq Bundle.tN "SUPPRESSED_SENTINEL" Bundle.listD A s' s'.heap := by rw [hhp]; exact vx_Zq.moved hW0.alike (hN.kept hS.2.1)
  have h : ∀ w ∈ Bundle.ownAtoms own ic cls names, w.before args s' = true := vx_own hat' (vx_isRefq hU'.1) (vx_isRefq hN'.1) hU'.2.word hN'.2.word
  have hown' : s'.vm.findClass own = some m.cls := by rw [hvm]; exact hown
  have hins : (Cond.instantiable cls 6).before args s' = true := h _ (by simp [Bundle.ownAtoms])
  obtain ⟨vm₁, cX, kX, hfX, hkX, -, -, X₁, st1⟩ := Y.newCold hexec (own := own) (C := cls) (index := ik) (n := 6) hown' hk' hins hini'
    (g := F0 m pc ls rest) rfl (by rw [hb]; exact d0) (Nat.le_refl _) (Nat.le_refl _)
  generalize hT1 : (T.setVm vm₁).pushCell { cls := cX, slots := kX.instanceTypes.map defaultValue, vm := .none } = T1 at X₁ st1
  have hcat : (Value.ref T.heap.size).category = 1 := rfl
  have hcellA : T1.heap[T.heap.size]? = some (freshCell cX kX) := by rw [← hT1]; exact State.heap_pushCell_size _ _
  have d3' : decode c.code (pc + 3) = .ok (.dup, 1) := by rw [hb]; exact d3
  have d4' : decode c.code (pc + 4) = .ok (.ldc is, 2) := by rw [hb]; exact d4
  have hstr' : vk_R own is text sa s' := vk_R.warm hW0 hstr
  obtain ⟨U, hsteps, hrun, hend, hW, hsame, ce, hce, hO⟩ := X₁.ctorThrowS hexec htr (own := own) (cls := cls) (names := names) (ic := ic) hown' hcls hnames h (fun x hx => nomatch hx) hfX hkX hcellA (by rw [hhp, hT]; exact Nat.le_refl _) (msg := .ref sa) rfl
    (g := { method := m, pc := pc + 6, locals := ls, stack := .ref sa :: .ref T.heap.size :: .ref T.heap.size :: rest, locked := none }) rfl hsize rfl rfl (rest := rest) rfl
    (by rw [hb]; exact d6) (by rw [hb]; exact d9) hout hRframes (by simp only [List.map_cons, List.sum_cons, hcat]; omega) hlocks
  obtain ⟨f1, f2⟩ := vx_frame hsame
  rw [hhp] at f1 f2
  have hWs : s.WarmedH U.vm := State.WarmedH.trans hW0 hW
  have hcl : s.vm.findClass cls = some ce.cls := by
    have h9 := hO.cls
    rw [hvm] at h9
    exact h9
  have hall : s.sameButNew ({ U with vm := s.vm } : State) locs mc ms := by
    subst hA
    obtain ⟨e1, e2⟩ := hsame
    rw [State.setFrames_setFrames] at e1
    have h2 : (T.setVm s.vm).sameButNew ({ U with vm := s.vm } : State) [] (0 + 1) (0 + 6) := ⟨e1, e2⟩
    have h3 := X.same.trans h2
    rw [List.append_nil] at h3
    exact h3.mono hc hs
  refine ⟨U, ?_, .threw T.heap.size, hrun, hend, Or.inr ⟨T.heap.size, rfl, cls, ce, locs, hx U hWs.alike f1 (fun q hq => f2 q hq (fun z hz => nomatch hz)), hce, hO.vm, hcl, hWs, hall, hf⟩⟩
  refine st1 _ ?_
  show Steps p.tables e below (T1.setTop { method := m, pc := pc + 3, locals := ls, stack := .ref T.heap.size :: rest, locked := none }) _
  jvm_step X₁.here [X₁.here.top, hexec, d3', Value.category]
  exact X₁.ldcString hexec (own := own) (text := text) (index := is) (a := sa) hown' hstr'.1 hstr'.2
    (g := { method := m, pc := pc + 4, locals := ls, stack := .ref T.heap.size :: .ref T.heap.size :: rest, locked := none }) rfl d4' _ hsteps
/-- 'throw new E("text")', the text by a wide index -/
theorem vx_throwSW {cc : ByteArray} {pc : Nat} (hexec : p.tables.exec = Jvm.exec) (hb : c.code = cc) (hl : l.stackTraces = false) {own cls text : String} {names : List String} {ik is ic mc ms sa : Nat} {A : Nat → Prop}
    (hown : s.vm.findClass own = some m.cls) (hcls : Bundle.fit cls = true) (hnames : ∀ n ∈ names, Bundle.fit n = true)
    (hk : (Cond.classLink own ik cls).before args s = true) (hini : (Cond.initialized cls).before args s = true) (hstr : vk_R own is text sa s) (hat : ∀ w ∈ vx_atS own ic cls names, w.before args s = true)
    (hgood : ∀ w ∈ Cond.classLink own ik cls :: Cond.initialized cls :: vx_atS own ic cls names, vx_ot w = true)
    (hU : vx_Zq Bundle.tN "UNASSIGNED_STACK" Bundle.steD A s s.heap) (hN : vx_Zq Bundle.tN "SUPPRESSED_SENTINEL" Bundle.listD A s s.heap) (hS : va_S A s.heap H locs) (hsize : ls.size = c.maxLocals)
    (d0 : decode cc pc = .ok (.new ik, 3)) (d3 : decode cc (pc + 3) = .ok (.dup, 1)) (d4 : decode cc (pc + 4) = .ok (.ldc_w is, 3)) (d7 : decode cc (pc + 7) = .ok (.invokespecial ic, 3)) (d10 : decode cc (pc + 10) = .ok (.athrow, 1))
    (hout : ∀ x ∈ c.exceptionTable.toList, covers x (pc + 10) = false)
    (hRframes : names.length + 3 < R.frames) (hRlocals : (rest.map fun v => v.category).sum + (13 * (names.length + 1) + 43) ≤ R.locals) (hRcells : cells + 1 ≤ R.cells) (hRslots : slots + 6 ≤ R.slots) (hlocks : meth.locks = false)
    (hx : ∀ t : State, s.vm.Alike t.vm → H.size ≤ t.heap.size → (∀ q : Nat, q < H.size → t.heap[q]? = H[q]?) → XC cls s t)
    (hf : ∀ z ∈ locs, free z.base) (hc : cells + 1 ≤ mc) (hs : slots + 6 ≤ ms) :
    W p l e R s m args below meth c H locs cells slots (vx_MQ below Qc XC args s mc ms free) (F0 m pc ls rest) := by
  intro T hT X
  have htr : e.platform.stackTraces = false := (show e.platform.stackTraces = l.stackTraces by rw [X.admits.platform]).trans hl
  have Y := vx_rebase X (R' := { frames := R.frames, locals := R.locals, cells := 1, slots := 6 }) (Nat.le_refl _) (Nat.le_refl _) hRcells hRslots
  obtain ⟨s', hA⟩ : ∃ z, z = (T.setVm s.vm).setFrames (.invoking m args :: below) := ⟨_, rfl⟩
  rw [← hA] at Y
  have hvm : s'.vm = s.vm := by rw [hA]; rfl
  have hhp : s'.heap = H := by rw [hA]; exact hT
  have hW0 : s.WarmedH s'.vm := by rw [hvm]; exact State.WarmedH.refl s
  have hat' : ∀ w ∈ vx_atS own ic cls names, w.before args s' = true := fun w hw => vx_ot_at hW0 hvm.symm (hgood w (List.mem_cons_of_mem _ (List.mem_cons_of_mem _ hw))) (hat w hw)
  have hk' : (Cond.classLink own ik cls).before args s' = true := vx_ot_at hW0 hvm.symm (hgood _ List.mem_cons_self) hk
  have hini' : (Cond.initialized cls).before args s' = true := vx_ot_at hW0 hvm.symm (hgood _ (List.mem_cons_of_mem _ List.mem_cons_self)) hini
  have hU' : vx_Zq Bundle.tN "UNASSIGNED_STACK" Bundle.steD A s' s'.heap := by rw [hhp]; exact vx_Zq.moved hW0.alike (hU.kept hS.2.1)
  have hN' : vx_Zq Bundle.tN "SUPPRESSED_SENTINEL" Bundle.listD A s' s'.heap := by rw [hhp]; exact vx_Zq.moved hW0.alike (hN.kept hS.2.1)
  have h : ∀ w ∈ Bundle.ownAtoms own ic cls names, w.before args s' = true := vx_own hat' (vx_isRefq hU'.1) (vx_isRefq hN'.1) hU'.2.word hN'.2.word
  have hown' : s'.vm.findClass own = some m.cls := by rw [hvm]; exact hown
  have hins : (Cond.instantiable cls 6).before args s' = true := h _ (by simp [Bundle.ownAtoms])
  obtain ⟨vm₁, cX, kX, hfX, hkX, -, -, X₁, st1⟩ := Y.newCold hexec (own := own) (C := cls) (index := ik) (n := 6) hown' hk' hins hini'
    (g := F0 m pc ls rest) rfl (by rw [hb]; exact d0) (Nat.le_refl _) (Nat.le_refl _)
  generalize hT1 : (T.setVm vm₁).pushCell { cls := cX, slots := kX.instanceTypes.map defaultValue, vm := .none } = T1 at X₁ st1
  have hcat : (Value.ref T.heap.size).category = 1 := rfl
  have hcellA : T1.heap[T.heap.size]? = some (freshCell cX kX) := by rw [← hT1]; exact State.heap_pushCell_size _ _
  have d3' : decode c.code (pc + 3) = .ok (.dup, 1) := by rw [hb]; exact d3
  have d4' : decode c.code (pc + 4) = .ok (.ldc_w is, 3) := by rw [hb]; exact d4
  have hstr' : vk_R own is text sa s' := vk_R.warm hW0 hstr
  obtain ⟨U, hsteps, hrun, hend, hW, hsame, ce, hce, hO⟩ := X₁.ctorThrowS hexec htr (own := own) (cls := cls) (names := names) (ic := ic) hown' hcls hnames h (fun x hx => nomatch hx) hfX hkX hcellA (by rw [hhp, hT]; exact Nat.le_refl _) (msg := .ref sa) rfl
    (g := { method := m, pc := pc + 7, locals := ls, stack := .ref sa :: .ref T.heap.size :: .ref T.heap.size :: rest, locked := none }) rfl hsize rfl rfl (rest := rest) rfl
    (by rw [hb]; exact d7) (by rw [hb]; exact d10) hout hRframes (by simp only [List.map_cons, List.sum_cons, hcat]; omega) hlocks
  obtain ⟨f1, f2⟩ := vx_frame hsame
  rw [hhp] at f1 f2
  have hWs : s.WarmedH U.vm := State.WarmedH.trans hW0 hW
  have hcl : s.vm.findClass cls = some ce.cls := by
    have h9 := hO.cls
    rw [hvm] at h9
    exact h9
  have hall : s.sameButNew ({ U with vm := s.vm } : State) locs mc ms := by
    subst hA
    obtain ⟨e1, e2⟩ := hsame
    rw [State.setFrames_setFrames] at e1
    have h2 : (T.setVm s.vm).sameButNew ({ U with vm := s.vm } : State) [] (0 + 1) (0 + 6) := ⟨e1, e2⟩
    have h3 := X.same.trans h2
    rw [List.append_nil] at h3
    exact h3.mono hc hs
  refine ⟨U, ?_, .threw T.heap.size, hrun, hend, Or.inr ⟨T.heap.size, rfl, cls, ce, locs, hx U hWs.alike f1 (fun q hq => f2 q hq (fun z hz => nomatch hz)), hce, hO.vm, hcl, hWs, hall, hf⟩⟩
  refine st1 _ ?_
  show Steps p.tables e below (T1.setTop { method := m, pc := pc + 3, locals := ls, stack := .ref T.heap.size :: rest, locked := none }) _
  jvm_step X₁.here [X₁.here.top, hexec, d3', Value.category]
  exact X₁.ldcStringW hexec (own := own) (text := text) (index := is) (a := sa) hown' hstr'.1 hstr'.2
    (g := { method := m, pc := pc + 4, locals := ls, stack := .ref T.heap.size :: .ref T.heap.size :: rest, locked := none }) rfl d4' _ hsteps
end Ends
section Bodies
variable {l : Launch}
theorem vx_ofW {y : MethodName} {ws ws' : List Cond} {rm : Room} {Pc : Array Value → State → Prop} {Qc : Array Value → State → Outcome → State → Prop} {XC : String → State → State → Prop} {mc ms : Nat} {free : Addr → Prop} {cc : ByteArray} {maxL : Nat} {ret : Option FieldType}
    (hy : plainName y.cls = true) (hw : ws = Cond.code y cc maxL ret :: ws')
    (body : ∀ p e s m args below meth c s₁, BodyLoose p l y (headSpec ws rm) cc maxL ret e s m args below meth c s₁ → c.maxLocals = maxL → (∀ x ∈ c.exceptionTable.toList, False) → Pc args s →
      W p l e (headSpec ws rm).room s m args below meth c s.heap [] 0 0 (vx_MQ below Qc XC args s mc ms free) (entryFrame m args maxL)) : vx_Met l y ws rm Pc Qc XC mc ms free := by
  refine MetFree.of_bodyS (code := cc) (maxLocals := maxL) (ret := ret) hy ?_ ?_
  · intro args s m h hn
    obtain ⟨meth, c, h1, h2, h3, h4, h5, h6, -, -⟩ := Cond.code_spec hn (atoms_spec (ws := ws) h _ (by rw [hw]; exact List.mem_cons_self))
    exact ⟨meth, c, h1, h2, h3, h4, h5, h6⟩
  · intro p e s m args below meth c s₁ B hml hP _
    have hh0 : s₁.heap = s.heap := by rw [B.state]; rfl
    have ht : ∀ x ∈ c.exceptionTable.toList, False := by
      obtain ⟨meth9, c9, h1, h2, -, -, -, -, h7, -⟩ := Cond.code_spec B.named (atoms_spec (ws := ws) B.pre _ (by rw [hw]; exact List.mem_cons_self))
      cases Option.some.inj (h1.symm.trans B.method)
      cases Option.some.inj (h2.symm.trans (Stand.of_body B).code)
      intro x hx
      rw [Array.isEmpty_iff.mp h7] at hx
      cases hx
    obtain ⟨t, a1, o, b1, b2, b3⟩ := body p e s m args below meth c s₁ B hml ht hP s₁ hh0 (Stand.of_body B)
    exact ⟨t, o, a1, b1, b2, b3⟩
/-- the table of a body with handlers -/
theorem vx_table {p : Program} {x y : MethodName} {S : Spec} {cc bytes : ByteArray} {maxL maxL' : Nat} {ret ret' : Option FieldType} {e : Env} {s s₁ : State} {m : MethodId} {args : Array Value} {below : List Frame} {meth : Method} {c : Code} {hh : List (Nat × Nat × Nat × Nat)}
    (B : BodyLoose p l y S cc maxL ret e s m args below meth c s₁) (h : (Cond.codeWith y bytes maxL' ret' hh).before args s = true) : c.exceptionTable.toList = tableOf hh := by
  obtain ⟨m9, meth9, c9, hn9, h1, h2, -, -, h6, -⟩ := Cond.codeWith_spec h
  cases Option.some.inj (hn9.symm.trans B.named)
  cases Option.some.inj (h1.symm.trans B.method)
  cases Option.some.inj (h2.symm.trans (Stand.of_body B).code)
  rw [← h6, table_eq]
end Bodies
end VXA
/-! ===== END ===== -/
/-! ===== BEGIN a static call of a method with an exception table ===== -/
section VXS
variable {p : Program} {l : Launch} {e : Env} {R : Room} {s : State} {m : MethodId} {args : Array Value} {below : List Frame} {meth : Method} {c : Code} {T : State} {H : Heap} {locs : List Loc} {cells slots : Nat}
abbrev vx_CSW (R : Room) (s : State) (args : Array Value) (own : String) (index : Nat) (y : MethodName) (bytes : ByteArray) (maxL : Nat) (ret : Option FieldType) (hh : List (Nat × Nat × Nat × Nat)) (ws : List Cond) (rm : Room) (mc ms n : Nat) : Prop :=
  (rm.cells = mc ∧ rm.slots = ms ∧ rm.frames + 1 ≤ R.frames ∧ 8 + (maxL + 11) + rm.locals ≤ R.locals ∧ (∀ w ∈ ws, ∀ (a' : Array Value) (U : State), s.WarmedH U.vm → w.before a' U = true) ∧ Cond.codeWith y bytes maxL ret hh ∈ ws) ∧
  (Cond.codeWith y bytes maxL ret hh).before args s = true ∧ (Cond.initialized y.cls).before args s = true ∧ (y.cls ≠ "java/lang/invoke/MethodHandle" ∧ y.cls ≠ "java/lang/invoke/VarHandle") ∧
  (∀ sig, parseMethodDescriptor y.desc = some sig → n = sig.parameters.length) ∧ (Cond.methodLink own index y).before args s = true ∧ (Cond.static y).before args s = true
theorem vx_cwSW {own : String} {index maxL mc ms : Nat} {y : MethodName} {bytes : ByteArray} {ret : Option FieldType} {hh : List (Nat × Nat × Nat × Nat)} {Ts ws ws' : List Cond} {rm : Room} (n : Nat) (ht : ∀ w ∈ Ts, w.before args s = true) (hT : GoodIn Ts (va_wsS own index y ws)) (hw : ws = Cond.codeWith y bytes maxL ret hh :: ws') (hrc : rm.cells = mc) (hrs : rm.slots = ms)
    (hd : y.cls ≠ "java/lang/invoke/MethodHandle" ∧ y.cls ≠ "java/lang/invoke/VarHandle" ∧ (parseMethodDescriptor y.desc).map (fun d => d.parameters.length) = some n) (hR : rm.frames + 1 ≤ R.frames ∧ 8 + (maxL + 11) + rm.locals ≤ R.locals) :
    vx_CSW R s args own index y bytes maxL ret hh ws rm mc ms n := by
  have ok : ∀ w ∈ va_wsS own index y ws, w.before args s = true := fun w h => ht w (hT w h).1
  have hG : GoodIn Ts ws := fun w h => hT w (by unfold va_wsS; exact List.mem_append_right _ h)
  have hc : Cond.codeWith y bytes maxL ret hh ∈ ws := by rw [hw]; exact List.mem_cons_self
  refine ⟨⟨hrc, hrs, hR.1, hR.2, pay_in ht hG, hc⟩, ht _ (hG _ hc).1, ok _ (by simp [va_wsS]), ⟨hd.1, hd.2.1⟩, fun sig h => ?_, ok _ (by simp [va_wsS]), ok _ (by simp [va_wsS])⟩
  have h2 := hd.2.2
  rw [h] at h2
  exact (Option.some.inj h2).symm
theorem vx_callSW (X : Stand p l e R s m args below meth c T locs cells slots) (hexec : p.tables.exec = Jvm.exec) {own : String} {index : Nat} {y : MethodName} {bytes : ByteArray} {maxL : Nat} {ret : Option FieldType} {hh : List (Nat × Nat × Nat × Nat)}
    (hown : s.vm.findClass own = some m.cls) (hlink : (Cond.methodLink own index y).before args s = true) (hstat : (Cond.static y).before args s = true) (hinit : (Cond.initialized y.cls).before args s = true)
    (hcode : (Cond.codeWith y bytes maxL ret hh).before args s = true) (hy : y.cls ≠ "java/lang/invoke/MethodHandle" ∧ y.cls ≠ "java/lang/invoke/VarHandle")
    {W9 : Nat} {Pre : Pt → Array Value → Prop} {Post : Pt → Array Value → Option Value → Pt → Prop} (hK : Back l R p e below s args y 3 W9 Pre Post)
    {g : JFrame} (hg : g.method = m) (hsize : g.locals.size = c.maxLocals) {argsL rest : List Value} (hlen : ∀ sig, parseMethodDescriptor y.desc = some sig → argsL.length = sig.parameters.length)
    (hstack : g.stack = argsL.reverse ++ rest) (hW : 2 * g.monitorRoom + (rest.map fun v => v.category).sum ≤ W9) (hdg : decode c.code g.pc = .ok (.invokestatic index, 3))
    (hpre : ∀ vm₁, s.WarmedH vm₁ → Pre ⟨T.setVm vm₁, locs, cells, slots⟩ argsL.toArray) :
    ∃ (v : Option Value) (vm₁ : Vm) (B : Pt), s.WarmedH vm₁ ∧ Stand p l e R s m args below meth c B.U B.locs B.cells B.slots ∧ Post ⟨T.setVm vm₁, locs, cells, slots⟩ argsL.toArray v B ∧
      ∀ target, Steps p.tables e below (B.U.setTop { g with pc := g.pc + 3, stack := v.toList ++ rest }) target → Steps p.tables e below (T.setTop g) target := by
  obtain ⟨mk, methM, cM, hnamed, hmethM, -, -, -, -, -, -, hsigM⟩ := Cond.codeWith_spec hcode
  have hstatic : methM.isStatic = true := Cond.static_spec hnamed hmethM hstat
  obtain ⟨kP, hkP, -⟩ := className_of_methodNamed hnamed
  have hinitP : kP.init = .initialized := Cond.initialized_spec (findClass_of_methodNamed hnamed) hkP hinit
  obtain ⟨vm₁, X₁, hstep₁⟩ := X.invokestatic hexec hown hlink hnamed hmethM hstatic hkP hinitP hy (g := g) hg (argsL := argsL) (rest := rest) (hlen _ hsigM) hstack hdg
  obtain ⟨v, B, X', hpost, hsteps⟩ := hK m meth c ⟨T.setVm vm₁, locs, cells, slots⟩ { g with stack := rest } (.invokestatic index) mk argsL.toArray X₁ hg hsize hdg hW (X₁.named hnamed) (hpre vm₁ X₁.warmed)
  exact ⟨v, vm₁, B, X₁.warmed, X', hpost, fun target h => hstep₁ _ fun acts => by rw [doInvoke_state]; exact hsteps.trans h⟩
theorem vx_runSW {y : MethodName} {bytes cc : ByteArray} {maxL nL mc ms n index : Nat} {ret : Option FieldType} {hh : List (Nat × Nat × Nat × Nat)} {ws : List Cond} {rm : Room} {Pc : Array Value → State → Prop} {Qc : Array Value → State → Outcome → State → Prop} {free : Addr → Prop} {Ts : List Cond} {own : String} {As rest : List Value} {g : JFrame}
    (S : CallFix p m c cc nL s args Ts own) (hM : Met l y ws rm Pc Qc mc ms free) (cw : vx_CSW R s args own index y bytes maxL ret hh ws rm mc ms n) (hp : PreS s H Pc As)
    (hg : g.method = m) (hn : As.length = n) (hsize : g.locals.size = nL) (hstack : g.stack = As.reverse ++ rest) (hW : 2 * g.monitorRoom + (rest.map fun v => v.category).sum ≤ 8) (hdg : decode cc g.pc = .ok (.invokestatic index, 3)) (hf : cells + mc ≤ R.cells ∧ slots + ms ≤ R.slots) :
    va_Run p l e R s m args below meth c H locs cells slots mc ms g rest (Qc As.toArray) (free) := by
  obtain ⟨⟨hrc, hrs, hfr, hlo, hws, hcw⟩, hcode, hini, hy, hlen, hl, hstt⟩ := cw
  have hK : Back l R p e below s args y 3 8 (PreOf R mc ms Pc) (PostOf Qc mc ms free) := va_backW (hh := hh) (bytes := bytes) (maxL := maxL) (ret := ret) hM hp.1 hrc hrs hfr hlo hws hcw (fun a' U hW => word_at hW (Or.inl (by first | rfl | simp [Cond.onTables, Cond.keeps, Cond.steady])) hini)
  obtain ⟨hx, hb, hml, ho, -⟩ := S
  intro T hT X
  obtain ⟨v, vm₁, ⟨U', l2, c2, s2⟩, hW₁, X', ⟨g', mk, t, L, e1, e2, hq, h1, hL, h2, h3⟩, st⟩ := vx_callSW X hx (hh := hh) (bytes := bytes) (maxL := maxL) (ret := ret) ho hl hstt hini hcode hy hK hg (hsize.trans hml.symm) (argsL := As) (rest := rest) (fun sig h => hn.trans (hlen sig h)) hstack hW (by rw [hb]; exact hdg)
    (fun vm₁ hW₁ => ⟨hf.1, hf.2, hp.2 (T.setVm vm₁) hT hW₁⟩)
  dsimp only [Pt.U, Pt.locs, Pt.cells, Pt.slots] at X' e1 e2 h1 h2 h3 st
  subst h1; subst h2; subst h3
  exact ⟨v, (T.setVm vm₁).calling g' mk As.toArray, t, U', L, hT, X', hL, e1, e2, hq, st⟩
/-- a thing of a world lies in the heap -/
theorem vx_lt {D : va_G} {cl : List vw_C} {ws : va_W} {H1 : Heap} (h : va_P D cl ws H1) {k : Nat} {q : Nat × va_E} (hk : ws[k]? = some q) : q.1 < H1.size := (h k q hk).lt
end VXS
/-! ===== END ===== -/
/-! ===== BEGIN methods with a table of their own: called by a name, returning or throwing ===== -/
section VXH
/-! vx_backW, vx_callVX, vx_callSX, vx_callVW, vx_runVW, vx_runVX, vx_runSX, vx_ofWH follow the same proofs as their sisters above (Free/Laws.lean, Shelf42/LK1.lean); vx_outP calls Shelf42/NT130.lean (outThrough). -/
section
variable {l : Launch} {R : Room} {p : Program} {e : Env} {below : List Frame} {s : State} {sargs : Array Value} {y : MethodName} {len W9 : Nat}
theorem vx_backW {ws : List Cond} {rm : Room} {Pc : Array Value → State → Prop} {Qc : Array Value → State → Outcome → State → Prop} {XC : String → State → State → Prop} {mc ms : Nat} {free : Addr → Prop} {bytes : ByteArray} {maxL : Nat} {ret : Option FieldType} {hh : List (Nat × Nat × Nat × Nat)}
    (hM : vx_Met l y ws rm Pc Qc XC mc ms free) (hblind : FrameBlind Pc) (hrc : rm.cells = mc) (hrs : rm.slots = ms)
    (hframes : rm.frames + 1 ≤ R.frames) (hlocals : W9 + (maxL + 11) + rm.locals ≤ R.locals)
    (hws : ∀ w ∈ ws, ∀ a' U, s.WarmedH U.vm → w.before a' U = true) (hcode : Cond.codeWith y bytes maxL ret hh ∈ ws) (hinit : ∀ a' U, s.WarmedH U.vm → (Cond.initialized y.cls).before a' U = true) :
    vx_Back l R p e below s sargs y len W9 (PreOf R mc ms Pc) (PostOf Qc mc ms free) (vx_Post XC mc ms free) := by
  intro m meth c A g ig mk a X hg hsize hdg hW hn hp
  have h1 : (headSpec ws rm).pre.before a A.U = true := atoms_intro fun w hw => hws w hw _ _ X.warmed
  have h2 : (Cond.codeWith y bytes maxL ret hh).before a A.U = true := hws _ hcode _ _ X.warmed
  have h3 : (Cond.initialized y.cls).before a A.U = true := hinit _ _ X.warmed
  have h4 : A.cells + (headSpec ws rm).room.cells ≤ R.cells := by rw [show (headSpec ws rm).room.cells = mc from hrc]; exact hp.1
  have h5 : A.slots + (headSpec ws rm).room.slots ≤ R.slots := by rw [show (headSpec ws rm).room.slots = ms from hrs]; exact hp.2.1
  have hPc : Pc a (A.U.calling g mk a) := hblind _ _ _ _ hp.2.2
  obtain ⟨U, Ls, c0, s0⟩ := A
  dsimp only [Pt.U, Pt.locs, Pt.cells, Pt.slots] at h1 h2 h3 h4 h5 X hn hPc ⊢
  obtain ⟨m9, methY, cY, hn9, hmY, hcY, -, hlY, -⟩ := Cond.codeWith_spec h2
  cases Option.some.inj (hn9.symm.trans hn)
  obtain ⟨kY, hkY, -⟩ := className_of_methodNamed hn
  have hinitY : kY.init = .initialized := Cond.initialized_spec (findClass_of_methodNamed hn) hkY h3
  have h : At U g.method c below := by rw [hg]; exact X.here
  have hlocals9 : W9 + (maxL + 11) + (headSpec ws rm).room.locals ≤ R.locals := hlocals
  have happ : (headSpec ws rm).appliesLoose y e.platform (U.calling g mk a) = true :=
    Spec.appliesLoose_calling (g := g) h hdg hn hkY hinitY
      (X.room_calling (g := g) (R' := (headSpec ws rm).room) hsize hmY hcY hframes (by rw [hlY]; omega) h4 h5) h1
  obtain ⟨mid, hmid⟩ := h.above
  have hfr : (U.setTop g).frames = (.java g :: mid) ++ below := by rw [State.frames_setTop' g h.top, hmid]; rfl
  obtain ⟨o, s₂, hsteps, -, hend, hq⟩ := Steps.callFree hM p X.admits X.cas X.clock (acts := []) hfr happ hPc trivial
  have hq' : vx_Q Qc XC mc ms free a (U.calling g mk a) o s₂ := hq
  rw [State.frames_setTop' g h.top] at hend
  obtain ⟨g₀, hg0⟩ := Option.isSome_iff_exists.mp h.top
  obtain ⟨r, hr⟩ := State.topJava?_eq_some.mp hg0
  have hr' : (({ U with heap := s₂.heap, slotsUsed := s₂.slotsUsed } : State).setVm s₂.vm).frames = .java g₀ :: r := hr
  rcases hq' with ⟨hqc, L, hfe, hL⟩ | ⟨q, rfl, E, ce, L, hx, hce, hcv, hcl, hW₂, hsm, hL⟩
  · obtain ⟨⟨v, rfl⟩, hW₂, e2, q2, q3, q4, q5, q6⟩ := id hfe
    have e3 : s₂ = ({ (U.calling g mk a).setFrames s₂.frames with heap := s₂.heap, slotsUsed := s₂.slotsUsed } : State).setVm s₂.vm := by
      have : s₂ = ({ s₂ with vm := (U.calling g mk a).vm } : State).setVm s₂.vm := rfl
      rw [e2] at this
      exact this
    obtain ⟨c₂, i₂, len₂, hc₂, hd₂, hf₂⟩ := hend
    have hW' : U.WarmedH s₂.vm := hW₂
    have hcc : c₂ = c := by
      have h1 : s₂.code? g.method = U.code? g.method := by
        rw [State.code?_eq, State.code?_eq, hW'.alike.method?]
      exact Option.some.inj (hc₂.symm.trans (h1.trans h.code))
    subst hcc
    have hlen : len₂ = len := by rw [hdg] at hd₂; cases hd₂; rfl
    subst hlen
    have hs₂ : s₂ = (({ U with heap := s₂.heap, slotsUsed := s₂.slotsUsed } : State).setVm s₂.vm).setTop { g with pc := g.pc + len₂, stack := v.toList ++ g.stack } := by
      refine e3.trans ?_
      rw [hf₂, State.calling_eq h.top, State.setFrames_setFrames, State.setTop_of_frames _ hr', hr]
      rfl
    have hsame : U.sameButNew ({ U with heap := s₂.heap, slotsUsed := s₂.slotsUsed } : State) L mc ms := by
      refine ⟨?_, q2, q3, q4, q5, q6⟩
      obtain ⟨t, ht, -⟩ := State.frames_cons hr
      show ({ U with heap := s₂.heap, slotsUsed := s₂.slotsUsed } : State) = { U.setFrames U.frames with heap := s₂.heap, slotsUsed := s₂.slotsUsed }
      rw [State.setFrames_self ht]
    subst hg
    refine Or.inl ⟨v, ⟨(({ U with heap := s₂.heap, slotsUsed := s₂.slotsUsed } : State).setVm s₂.vm), Ls ++ L, c0 + mc, s0 + ms⟩,
      ⟨X.admits, X.cas, X.clock, X.frames, X.room, X.hears, X.method, X.code, (X.here.setHeapUsed s₂.heap s₂.slotsUsed).setVm hW'.alike, X.tail, State.WarmedH.trans X.warmed hW', X.limits, X.bytes, X.same.trans (hsame.setVm s.vm)⟩,
      ⟨g, mk, s₂, L, rfl, rfl, hqc, rfl, hL, rfl, rfl⟩, ?_⟩
    show Steps p.tables e below _ ((({ U with heap := s₂.heap, slotsUsed := s₂.slotsUsed } : State).setVm s₂.vm).setTop { g with pc := g.pc + len₂, stack := v.toList ++ g.stack })
    rw [← hs₂]
    exact hsteps
  · obtain ⟨e2, q2, q3, q4, q5, q6⟩ := id hsm
    have e3 : s₂ = ({ (U.calling g mk a).setFrames s₂.frames with heap := s₂.heap, slotsUsed := s₂.slotsUsed } : State).setVm s₂.vm := by
      have : s₂ = ({ s₂ with vm := (U.calling g mk a).vm } : State).setVm s₂.vm := rfl
      rw [e2] at this
      exact this
    have hf₂ : s₂.frames = .throwing q :: .java g :: U.frames.tail := hend
    have hW' : U.WarmedH s₂.vm := hW₂
    have hs₂ : s₂ = ((({ U with heap := s₂.heap, slotsUsed := s₂.slotsUsed } : State).setVm s₂.vm).setTop g).pushFrame (.throwing q) := by
      refine e3.trans ?_
      rw [hf₂, State.calling_eq h.top, State.setFrames_setFrames, State.pushFrame, State.frames_setTop _ hr', State.setTop_of_frames _ hr', State.setFrames_setFrames, hr]
      rfl
    have hsame : U.sameButNew ({ U with heap := s₂.heap, slotsUsed := s₂.slotsUsed } : State) L mc ms := by
      refine ⟨?_, q2, q3, q4, q5, q6⟩
      obtain ⟨t, ht, -⟩ := State.frames_cons hr
      show ({ U with heap := s₂.heap, slotsUsed := s₂.slotsUsed } : State) = { U.setFrames U.frames with heap := s₂.heap, slotsUsed := s₂.slotsUsed }
      rw [State.setFrames_self ht]
    subst hg
    refine Or.inr ⟨q, ⟨(({ U with heap := s₂.heap, slotsUsed := s₂.slotsUsed } : State).setVm s₂.vm), Ls ++ L, c0 + mc, s0 + ms⟩,
      ⟨X.admits, X.cas, X.clock, X.frames, X.room, X.hears, X.method, X.code, (X.here.setHeapUsed s₂.heap s₂.slotsUsed).setVm hW'.alike, X.tail, State.WarmedH.trans X.warmed hW', X.limits, X.bytes, X.same.trans (hsame.setVm s.vm)⟩,
      ⟨g, mk, s₂, L, E, ce, rfl, rfl, hx, hce, hcv, hcl, rfl, hL, rfl, rfl⟩, ?_⟩
    show Steps p.tables e below _ (((({ U with heap := s₂.heap, slotsUsed := s₂.slotsUsed } : State).setVm s₂.vm).setTop g).pushFrame (.throwing q))
    rw [← hs₂]
    exact hsteps
end
variable {p : Program} {l : Launch} {e : Env} {R : Room} {s : State} {m : MethodId} {args : Array Value} {below : List Frame} {meth : Method} {c : Code} {T : State} {H : Heap} {locs : List Loc} {cells slots : Nat}
theorem vx_callVX (X : Stand p l e R s m args below meth c T locs cells slots) (hexec : p.tables.exec = Jvm.exec) {own C : String} {index : Nat} {y : MethodName} {bytes : ByteArray} {maxL : Nat} {ret : Option FieldType} {hh : List (Nat × Nat × Nat × Nat)}
    (hown : s.vm.findClass own = some m.cls) (hlink : (Cond.methodLink own index y).before args s = true) (hinst : (Cond.instanceMethod y).before args s = true) (hsel : (Cond.selects C y y).before args s = true)
    (hcode : (Cond.codeWith y bytes maxL ret hh).before args s = true) (hy : y.cls ≠ "java/lang/invoke/MethodHandle" ∧ y.cls ≠ "java/lang/invoke/VarHandle")
    {W9 : Nat} {Pre : Pt → Array Value → Prop} {Post : Pt → Array Value → Option Value → Pt → Prop} {PostX : Pt → Array Value → Addr → Pt → Prop} (hK : vx_Back l R p e below s args y 3 W9 Pre Post PostX)
    {b : Addr} {cellB : Cell} (hcell : T.heap[b]? = some cellB) (hobj : cellB.vm.isStatics = false) (hcls : s.vm.findClass C = some cellB.cls)
    {g : JFrame} (hg : g.method = m) (hsize : g.locals.size = c.maxLocals) {argsL rest : List Value} (hlen : ∀ sig, parseMethodDescriptor y.desc = some sig → argsL.length = sig.parameters.length)
    (hstack : g.stack = argsL.reverse ++ .ref b :: rest) (hW : 2 * g.monitorRoom + (rest.map fun v => v.category).sum ≤ W9) (hdg : decode c.code g.pc = .ok (.invokevirtual index, 3))
    (hpre : ∀ vm₁, s.WarmedH vm₁ → Pre ⟨T.setVm vm₁, locs, cells, slots⟩ (Value.ref b :: argsL).toArray) :
    (∃ (v : Option Value) (vm₁ : Vm) (B : Pt), s.WarmedH vm₁ ∧ Stand p l e R s m args below meth c B.U B.locs B.cells B.slots ∧ Post ⟨T.setVm vm₁, locs, cells, slots⟩ (Value.ref b :: argsL).toArray v B ∧
      ∀ target, Steps p.tables e below (B.U.setTop { g with pc := g.pc + 3, stack := v.toList ++ rest }) target → Steps p.tables e below (T.setTop g) target) ∨
    (∃ (q : Addr) (vm₁ : Vm) (B : Pt), s.WarmedH vm₁ ∧ Stand p l e R s m args below meth c B.U B.locs B.cells B.slots ∧ PostX ⟨T.setVm vm₁, locs, cells, slots⟩ (Value.ref b :: argsL).toArray q B ∧
      Steps p.tables e below (T.setTop g) ((B.U.setTop { g with stack := rest }).pushFrame (.throwing q))) := by
  obtain ⟨mk, methM, hnamed, hmethM, hstM, habM⟩ := Cond.instanceMethod_spec hinst
  obtain ⟨m8, methM', cM, hn8, hmethM', -, -, -, -, -, -, hsigM⟩ := Cond.codeWith_spec hcode
  cases Option.some.inj (hn8.symm.trans hnamed)
  cases hmethM.symm.trans hmethM'
  obtain ⟨c2, r2, m2, q1, q2, q3, q4, kP, hkP, hkPi⟩ := Cond.selects_spec hsel
  cases hcls.symm.trans q1
  cases (State.methodFound?_of_named hnamed hy).symm.trans q2
  cases hnamed.symm.trans q3
  have hselP : selectMethod e.platform s.vm cellB.cls mk = .method mk := by rw [Launch.admits_selectMethod X.admits]; exact q4
  obtain ⟨vm₁, X₁, hstep₁⟩ := X.invokevirtual hexec hown hlink hnamed hmethM hstM hkP hkPi hy (a := b) (cell := cellB) hcell
    (fun z h => by rw [h] at hobj; cases hobj) hselP hmethM habM hkP hkPi (g := g) hg (argsL := argsL) (rest := rest) (hlen _ hsigM) hstack hdg
  rcases hK m meth c ⟨T.setVm vm₁, locs, cells, slots⟩ { g with stack := rest } (.invokevirtual index) mk (Value.ref b :: argsL).toArray X₁ hg hsize hdg hW (X₁.named hnamed) (hpre vm₁ X₁.warmed) with ⟨v, B, X', hpost, hsteps⟩ | ⟨q, B, X', hpost, hsteps⟩
  · exact Or.inl ⟨v, vm₁, B, X₁.warmed, X', hpost, fun target h => hstep₁ _ fun acts => by rw [doInvoke_state]; exact hsteps.trans h⟩
  · exact Or.inr ⟨q, vm₁, B, X₁.warmed, X', hpost, hstep₁ _ fun acts => by rw [doInvoke_state]; exact hsteps⟩
theorem vx_callSX (X : Stand p l e R s m args below meth c T locs cells slots) (hexec : p.tables.exec = Jvm.exec) {own : String} {index : Nat} {y : MethodName} {bytes : ByteArray} {maxL : Nat} {ret : Option FieldType} {hh : List (Nat × Nat × Nat × Nat)}
    (hown : s.vm.findClass own = some m.cls) (hlink : (Cond.methodLink own index y).before args s = true) (hstat : (Cond.static y).before args s = true) (hinit : (Cond.initialized y.cls).before args s = true)
    (hcode : (Cond.codeWith y bytes maxL ret hh).before args s = true) (hy : y.cls ≠ "java/lang/invoke/MethodHandle" ∧ y.cls ≠ "java/lang/invoke/VarHandle")
    {W9 : Nat} {Pre : Pt → Array Value → Prop} {Post : Pt → Array Value → Option Value → Pt → Prop} {PostX : Pt → Array Value → Addr → Pt → Prop} (hK : vx_Back l R p e below s args y 3 W9 Pre Post PostX)
    {g : JFrame} (hg : g.method = m) (hsize : g.locals.size = c.maxLocals) {argsL rest : List Value} (hlen : ∀ sig, parseMethodDescriptor y.desc = some sig → argsL.length = sig.parameters.length)
    (hstack : g.stack = argsL.reverse ++ rest) (hW : 2 * g.monitorRoom + (rest.map fun v => v.category).sum ≤ W9) (hdg : decode c.code g.pc = .ok (.invokestatic index, 3))
    (hpre : ∀ vm₁, s.WarmedH vm₁ → Pre ⟨T.setVm vm₁, locs, cells, slots⟩ argsL.toArray) :
    (∃ (v : Option Value) (vm₁ : Vm) (B : Pt), s.WarmedH vm₁ ∧ Stand p l e R s m args below meth c B.U B.locs B.cells B.slots ∧ Post ⟨T.setVm vm₁, locs, cells, slots⟩ argsL.toArray v B ∧
      ∀ target, Steps p.tables e below (B.U.setTop { g with pc := g.pc + 3, stack := v.toList ++ rest }) target → Steps p.tables e below (T.setTop g) target) ∨
    (∃ (q : Addr) (vm₁ : Vm) (B : Pt), s.WarmedH vm₁ ∧ Stand p l e R s m args below meth c B.U B.locs B.cells B.slots ∧ PostX ⟨T.setVm vm₁, locs, cells, slots⟩ argsL.toArray q B ∧
      Steps p.tables e below (T.setTop g) ((B.U.setTop { g with stack := rest }).pushFrame (.throwing q))) := by
  obtain ⟨mk, methM, cM, hnamed, hmethM, -, -, -, -, -, -, hsigM⟩ := Cond.codeWith_spec hcode
  have hstatic : methM.isStatic = true := Cond.static_spec hnamed hmethM hstat
  obtain ⟨kP, hkP, -⟩ := className_of_methodNamed hnamed
  have hinitP : kP.init = .initialized := Cond.initialized_spec (findClass_of_methodNamed hnamed) hkP hinit
  obtain ⟨vm₁, X₁, hstep₁⟩ := X.invokestatic hexec hown hlink hnamed hmethM hstatic hkP hinitP hy (g := g) hg (argsL := argsL) (rest := rest) (hlen _ hsigM) hstack hdg
  rcases hK m meth c ⟨T.setVm vm₁, locs, cells, slots⟩ { g with stack := rest } (.invokestatic index) mk argsL.toArray X₁ hg hsize hdg hW (X₁.named hnamed) (hpre vm₁ X₁.warmed) with ⟨v, B, X', hpost, hsteps⟩ | ⟨q, B, X', hpost, hsteps⟩
  · exact Or.inl ⟨v, vm₁, B, X₁.warmed, X', hpost, fun target h => hstep₁ _ fun acts => by rw [doInvoke_state]; exact hsteps.trans h⟩
  · exact Or.inr ⟨q, vm₁, B, X₁.warmed, X', hpost, hstep₁ _ fun acts => by rw [doInvoke_state]; exact hsteps⟩
theorem vx_callVW (X : Stand p l e R s m args below meth c T locs cells slots) (hexec : p.tables.exec = Jvm.exec) {own C : String} {index : Nat} {y : MethodName} {bytes : ByteArray} {maxL : Nat} {ret : Option FieldType} {hh : List (Nat × Nat × Nat × Nat)}
    (hown : s.vm.findClass own = some m.cls) (hlink : (Cond.methodLink own index y).before args s = true) (hinst : (Cond.instanceMethod y).before args s = true) (hsel : (Cond.selects C y y).before args s = true)
    (hcode : (Cond.codeWith y bytes maxL ret hh).before args s = true) (hy : y.cls ≠ "java/lang/invoke/MethodHandle" ∧ y.cls ≠ "java/lang/invoke/VarHandle")
    {W9 : Nat} {Pre : Pt → Array Value → Prop} {Post : Pt → Array Value → Option Value → Pt → Prop} (hK : Back l R p e below s args y 3 W9 Pre Post)
    {b : Addr} {cellB : Cell} (hcell : T.heap[b]? = some cellB) (hobj : cellB.vm.isStatics = false) (hcls : s.vm.findClass C = some cellB.cls)
    {g : JFrame} (hg : g.method = m) (hsize : g.locals.size = c.maxLocals) {argsL rest : List Value} (hlen : ∀ sig, parseMethodDescriptor y.desc = some sig → argsL.length = sig.parameters.length)
    (hstack : g.stack = argsL.reverse ++ .ref b :: rest) (hW : 2 * g.monitorRoom + (rest.map fun v => v.category).sum ≤ W9) (hdg : decode c.code g.pc = .ok (.invokevirtual index, 3))
    (hpre : ∀ vm₁, s.WarmedH vm₁ → Pre ⟨T.setVm vm₁, locs, cells, slots⟩ (Value.ref b :: argsL).toArray) :
    ∃ (v : Option Value) (vm₁ : Vm) (B : Pt), s.WarmedH vm₁ ∧ Stand p l e R s m args below meth c B.U B.locs B.cells B.slots ∧ Post ⟨T.setVm vm₁, locs, cells, slots⟩ (Value.ref b :: argsL).toArray v B ∧
      ∀ target, Steps p.tables e below (B.U.setTop { g with pc := g.pc + 3, stack := v.toList ++ rest }) target → Steps p.tables e below (T.setTop g) target := by
  obtain ⟨mk, methM, hnamed, hmethM, hstM, habM⟩ := Cond.instanceMethod_spec hinst
  obtain ⟨m8, methM', cM, hn8, hmethM', -, -, -, -, -, -, hsigM⟩ := Cond.codeWith_spec hcode
  cases Option.some.inj (hn8.symm.trans hnamed)
  cases hmethM.symm.trans hmethM'
  obtain ⟨c2, r2, m2, q1, q2, q3, q4, kP, hkP, hkPi⟩ := Cond.selects_spec hsel
  cases hcls.symm.trans q1
  cases (State.methodFound?_of_named hnamed hy).symm.trans q2
  cases hnamed.symm.trans q3
  have hselP : selectMethod e.platform s.vm cellB.cls mk = .method mk := by rw [Launch.admits_selectMethod X.admits]; exact q4
  obtain ⟨vm₁, X₁, hstep₁⟩ := X.invokevirtual hexec hown hlink hnamed hmethM hstM hkP hkPi hy (a := b) (cell := cellB) hcell
    (fun z h => by rw [h] at hobj; cases hobj) hselP hmethM habM hkP hkPi (g := g) hg (argsL := argsL) (rest := rest) (hlen _ hsigM) hstack hdg
  obtain ⟨v, B, X', hpost, hsteps⟩ := hK m meth c ⟨T.setVm vm₁, locs, cells, slots⟩ { g with stack := rest } (.invokevirtual index) mk (Value.ref b :: argsL).toArray X₁ hg hsize hdg hW (X₁.named hnamed) (hpre vm₁ X₁.warmed)
  exact ⟨v, vm₁, B, X₁.warmed, X', hpost, fun target h => hstep₁ _ fun acts => by rw [doInvoke_state]; exact hsteps.trans h⟩
abbrev vx_CVW (R : Room) (s : State) (args : Array Value) (own C : String) (index : Nat) (y : MethodName) (bytes : ByteArray) (maxL : Nat) (ret : Option FieldType) (hh : List (Nat × Nat × Nat × Nat)) (ws : List Cond) (rm : Room) (mc ms n : Nat) : Prop :=
  (rm.cells = mc ∧ rm.slots = ms ∧ rm.frames + 1 ≤ R.frames ∧ 8 + (maxL + 11) + rm.locals ≤ R.locals ∧ (∀ w ∈ ws, ∀ (a' : Array Value) (U : State), s.WarmedH U.vm → w.before a' U = true) ∧ Cond.codeWith y bytes maxL ret hh ∈ ws) ∧
  (Cond.codeWith y bytes maxL ret hh).before args s = true ∧ (Cond.initialized y.cls).before args s = true ∧ (y.cls ≠ "java/lang/invoke/MethodHandle" ∧ y.cls ≠ "java/lang/invoke/VarHandle") ∧
  (∀ sig, parseMethodDescriptor y.desc = some sig → n = sig.parameters.length) ∧ (Cond.methodLink own index y).before args s = true ∧ (Cond.instanceMethod y).before args s = true ∧ (Cond.selects C y y).before args s = true
theorem vx_cwVW {own C : String} {index maxL mc ms : Nat} {y : MethodName} {bytes : ByteArray} {ret : Option FieldType} {hh : List (Nat × Nat × Nat × Nat)} {Ts ws ws' : List Cond} {rm : Room} (n : Nat) (ht : ∀ w ∈ Ts, w.before args s = true) (hT : GoodIn Ts (wsV own index C y ws)) (hw : ws = Cond.codeWith y bytes maxL ret hh :: ws') (hrc : rm.cells = mc) (hrs : rm.slots = ms)
    (hd : y.cls = C ∧ y.cls ≠ "java/lang/invoke/MethodHandle" ∧ y.cls ≠ "java/lang/invoke/VarHandle" ∧ (parseMethodDescriptor y.desc).map (fun d => d.parameters.length) = some n) (hR : rm.frames + 1 ≤ R.frames ∧ 8 + (maxL + 11) + rm.locals ≤ R.locals) :
    vx_CVW R s args own C index y bytes maxL ret hh ws rm mc ms n := by
  obtain ⟨hC, hd⟩ := hd
  subst hC
  have ok : ∀ w ∈ wsV own index y.cls y ws, w.before args s = true := fun w h => ht w (hT w h).1
  have hG : GoodIn Ts ws := fun w h => hT w (by unfold wsV; exact List.mem_append_right _ h)
  have hc : Cond.codeWith y bytes maxL ret hh ∈ ws := by rw [hw]; exact List.mem_cons_self
  refine ⟨⟨hrc, hrs, hR.1, hR.2, pay_in ht hG, hc⟩, ht _ (hG _ hc).1, ok _ (by simp [wsV]), ⟨hd.1, hd.2.1⟩, fun sig h => ?_, ok _ (by simp [wsV]), ok _ (by simp [wsV]), ok _ (by simp [wsV])⟩
  have h2 := hd.2.2
  rw [h] at h2
  exact (Option.some.inj h2).symm
theorem vx_runVW {y : MethodName} {bytes cc : ByteArray} {maxL nL mc ms n index : Nat} {ret : Option FieldType} {hh : List (Nat × Nat × Nat × Nat)} {ws : List Cond} {rm : Room} {Pc : Array Value → State → Prop} {Qc : Array Value → State → Outcome → State → Prop} {free : Addr → Prop} {Ts : List Cond} {own C : String} {b : Addr} {As rest : List Value} {g : JFrame}
    (S : CallFix p m c cc nL s args Ts own) (hM : Met l y ws rm Pc Qc mc ms free) (cw : vx_CVW R s args own C index y bytes maxL ret hh ws rm mc ms n) (hp : PreV s H C b Pc As)
    (hg : g.method = m) (hn : As.length = n) (hsize : g.locals.size = nL) (hstack : g.stack = As.reverse ++ .ref b :: rest) (hW : 2 * g.monitorRoom + (rest.map fun v => v.category).sum ≤ 8) (hdg : decode cc g.pc = .ok (.invokevirtual index, 3)) (hf : cells + mc ≤ R.cells ∧ slots + ms ≤ R.slots) :
    va_Run p l e R s m args below meth c H locs cells slots mc ms g rest (Qc (Value.ref b :: As).toArray) free := by
  obtain ⟨⟨hrc, hrs, hfr, hlo, hws, hcw⟩, hcode, hini, hy, hlen, hl, hin, hse⟩ := cw
  have hK : Back l R p e below s args y 3 8 (PreOf R mc ms Pc) (PostOf Qc mc ms free) := va_backW (hh := hh) (bytes := bytes) (maxL := maxL) (ret := ret) hM hp.1 hrc hrs hfr hlo hws hcw (fun a' U hW => word_at hW (Or.inl (by first | rfl | simp [Cond.onTables, Cond.keeps, Cond.steady])) hini)
  obtain ⟨hx, hb, hml, ho, -⟩ := S
  obtain ⟨-, ⟨cellB, hcB, hoB, hclB⟩, hPc⟩ := hp
  intro T hT X
  obtain ⟨v, vm₁, ⟨U', l2, c2, s2⟩, hW₁, X', ⟨g', mk, t, L, e1, e2, hq, h1, hL, h2, h3⟩, st⟩ := vx_callVW X hx (C := C) (hh := hh) (bytes := bytes) (maxL := maxL) (ret := ret) ho hl hin hse hcode hy hK (by rw [hT]; exact hcB) hoB hclB hg (hsize.trans hml.symm) (argsL := As) (rest := rest) (fun sig h => hn.trans (hlen sig h)) hstack hW (by rw [hb]; exact hdg)
    (fun vm₁ hW₁ => ⟨hf.1, hf.2, hPc (T.setVm vm₁) hT hW₁⟩)
  dsimp only [Pt.U, Pt.locs, Pt.cells, Pt.slots] at X' e1 e2 h1 h2 h3 st
  subst h1; subst h2; subst h3
  exact ⟨v, (T.setVm vm₁).calling g' mk (Value.ref b :: As).toArray, t, U', L, hT, X', hL, e1, e2, hq, st⟩
section
variable {y : MethodName} {bytes cc : ByteArray} {maxL nL mc ms n index : Nat} {ret : Option FieldType} {ws : List Cond} {rm : Room} {Pc : Array Value → State → Prop} {Qc : Array Value → State → Outcome → State → Prop} {XC : String → State → State → Prop} {free : Addr → Prop} {Ts : List Cond} {own C : String} {b : Addr} {As rest : List Value} {g : JFrame}
theorem vx_runVX {hh : List (Nat × Nat × Nat × Nat)} (S : CallFix p m c cc nL s args Ts own) (hM : vx_Met l y ws rm Pc Qc XC mc ms free) (cw : vx_CVW R s args own C index y bytes maxL ret hh ws rm mc ms n) (hp : PreV s H C b Pc As)
    (hg : g.method = m) (hn : As.length = n) (hsize : g.locals.size = nL) (hstack : g.stack = As.reverse ++ .ref b :: rest) (hW : 2 * g.monitorRoom + (rest.map fun v => v.category).sum ≤ 8) (hdg : decode cc g.pc = .ok (.invokevirtual index, 3)) (hf : cells + mc ≤ R.cells ∧ slots + ms ≤ R.slots) :
    vx_Run p l e R s m args below meth c H locs cells slots mc ms g rest (Qc (Value.ref b :: As).toArray) XC free := by
  obtain ⟨⟨hrc, hrs, hfr, hlo, hws, hcw⟩, hcode, hini, hy, hlen, hl, hin, hse⟩ := cw
  have hK : vx_Back l R p e below s args y 3 8 (PreOf R mc ms Pc) (PostOf Qc mc ms free) (vx_Post XC mc ms free) := vx_backW (hh := hh) (bytes := bytes) (maxL := maxL) (ret := ret) hM hp.1 hrc hrs hfr hlo hws hcw (fun a' U hW => word_at hW (Or.inl (by first | rfl | simp [Cond.onTables, Cond.keeps, Cond.steady])) hini)
  obtain ⟨hx, hb, hml, ho, -⟩ := S
  obtain ⟨-, ⟨cellB, hcB, hoB, hclB⟩, hPc⟩ := hp
  intro T hT X
  rcases vx_callVX X hx (C := C) (hh := hh) (bytes := bytes) (maxL := maxL) (ret := ret) ho hl hin hse hcode hy hK (by rw [hT]; exact hcB) hoB hclB hg (hsize.trans hml.symm) (argsL := As) (rest := rest) (fun sig h => hn.trans (hlen sig h)) hstack hW (by rw [hb]; exact hdg)
    (fun vm₁ hW₁ => ⟨hf.1, hf.2, hPc (T.setVm vm₁) hT hW₁⟩) with ⟨v, vm₁, ⟨U', l2, c2, s2⟩, hW₁, X', ⟨g', mk, t, L, e1, e2, hq, h1, hL, h2, h3⟩, st⟩ | ⟨q, vm₁, ⟨U', l2, c2, s2⟩, hW₁, X', ⟨g', mk, t, L, E, ce, e1, e2, hq, hce, hcv, hcl, h1, hL, h2, h3⟩, st⟩
  · dsimp only [Pt.U, Pt.locs, Pt.cells, Pt.slots] at X' e1 e2 h1 h2 h3 st
    subst h1; subst h2; subst h3
    exact Or.inl ⟨v, (T.setVm vm₁).calling g' mk (Value.ref b :: As).toArray, t, U', L, hT, X', hL, e1, e2, hq, st⟩
  · dsimp only [Pt.U, Pt.locs, Pt.cells, Pt.slots] at X' e1 e2 h1 h2 h3 st hcl
    subst h1; subst h2; subst h3
    exact Or.inr ⟨q, (T.setVm vm₁).calling g' mk (Value.ref b :: As).toArray, t, U', L, E, ce, hT, X', hL, e1, e2, hq, hce, hcv, vx_cls hW₁ hcl, st⟩
theorem vx_runSX {hh : List (Nat × Nat × Nat × Nat)} (S : CallFix p m c cc nL s args Ts own) (hM : vx_Met l y ws rm Pc Qc XC mc ms free) (cw : vx_CSW R s args own index y bytes maxL ret hh ws rm mc ms n) (hp : PreS s H Pc As)
    (hg : g.method = m) (hn : As.length = n) (hsize : g.locals.size = nL) (hstack : g.stack = As.reverse ++ rest) (hW : 2 * g.monitorRoom + (rest.map fun v => v.category).sum ≤ 8) (hdg : decode cc g.pc = .ok (.invokestatic index, 3)) (hf : cells + mc ≤ R.cells ∧ slots + ms ≤ R.slots) :
    vx_Run p l e R s m args below meth c H locs cells slots mc ms g rest (Qc As.toArray) XC free := by
  obtain ⟨⟨hrc, hrs, hfr, hlo, hws, hcw⟩, hcode, hini, hy, hlen, hl, hstt⟩ := cw
  have hK : vx_Back l R p e below s args y 3 8 (PreOf R mc ms Pc) (PostOf Qc mc ms free) (vx_Post XC mc ms free) := vx_backW (hh := hh) (bytes := bytes) (maxL := maxL) (ret := ret) hM hp.1 hrc hrs hfr hlo hws hcw (fun a' U hW => word_at hW (Or.inl (by first | rfl | simp [Cond.onTables, Cond.keeps, Cond.steady])) hini)
  obtain ⟨hx, hb, hml, ho, -⟩ := S
  intro T hT X
  rcases vx_callSX X hx (hh := hh) (bytes := bytes) (maxL := maxL) (ret := ret) ho hl hstt hini hcode hy hK hg (hsize.trans hml.symm) (argsL := As) (rest := rest) (fun sig h => hn.trans (hlen sig h)) hstack hW (by rw [hb]; exact hdg)
    (fun vm₁ hW₁ => ⟨hf.1, hf.2, hp.2 (T.setVm vm₁) hT hW₁⟩) with ⟨v, vm₁, ⟨U', l2, c2, s2⟩, hW₁, X', ⟨g', mk, t, L, e1, e2, hq, h1, hL, h2, h3⟩, st⟩ | ⟨q, vm₁, ⟨U', l2, c2, s2⟩, hW₁, X', ⟨g', mk, t, L, E, ce, e1, e2, hq, hce, hcv, hcl, h1, hL, h2, h3⟩, st⟩
  · dsimp only [Pt.U, Pt.locs, Pt.cells, Pt.slots] at X' e1 e2 h1 h2 h3 st
    subst h1; subst h2; subst h3
    exact Or.inl ⟨v, (T.setVm vm₁).calling g' mk As.toArray, t, U', L, hT, X', hL, e1, e2, hq, st⟩
  · dsimp only [Pt.U, Pt.locs, Pt.cells, Pt.slots] at X' e1 e2 h1 h2 h3 st hcl
    subst h1; subst h2; subst h3
    exact Or.inr ⟨q, (T.setVm vm₁).calling g' mk As.toArray, t, U', L, E, ce, hT, X', hL, e1, e2, hq, hce, hcv, vx_cls hW₁ hcl, st⟩
end
end VXH
theorem vx_ofWH {l : Launch} {y : MethodName} {ws ws' : List Cond} {rm : Room} {Pc : Array Value → State → Prop} {Qc : Array Value → State → Outcome → State → Prop} {XC : String → State → State → Prop} {mc ms : Nat} {free : Addr → Prop} {cc : ByteArray} {maxL : Nat} {ret : Option FieldType} {hh : List (Nat × Nat × Nat × Nat)}
    (hy : plainName y.cls = true) (hw : ws = Cond.codeWith y cc maxL ret hh :: ws')
    (body : ∀ p e s m args below meth c s₁, BodyLoose p l y (headSpec ws rm) cc maxL ret e s m args below meth c s₁ → c.maxLocals = maxL → Pc args s →
      W p l e (headSpec ws rm).room s m args below meth c s.heap [] 0 0 (vx_MQ below Qc XC args s mc ms free) (entryFrame m args maxL)) : vx_Met l y ws rm Pc Qc XC mc ms free := by
  refine MetFree.of_bodyS (code := cc) (maxLocals := maxL) (ret := ret) hy ?_ ?_
  · intro args s m h hn
    obtain ⟨m9, meth, c, hn9, h1, h2, h3, h4, -, h5, h6, -⟩ := Cond.codeWith_spec (atoms_spec (ws := ws) h _ (by rw [hw]; exact List.mem_cons_self))
    cases hn.symm.trans hn9
    exact ⟨meth, c, h1, h2, h3, h4, h5, h6⟩
  · intro p e s m args below meth c s₁ B hml hP _
    have hh0 : s₁.heap = s.heap := by rw [B.state]; rfl
    obtain ⟨t, a1, o, b1, b2, b3⟩ := body p e s m args below meth c s₁ B hml hP s₁ hh0 (Stand.of_body B)
    exact ⟨t, o, a1, b1, b2, b3⟩
/-! ===== END ===== -/

/-! a callee's throw, caught by the first row of the caller's own table (the row's class may be linked here for the first time) -/
def cx_F (e : Env) (s : State) (f : JFrame) (a : Addr) (pc : Nat) (vm' : Vm) : Prop :=
  ∀ (Q : Handler → Pre) (E : CtlPost) (d : Bool) (acts : List Action), wp (findHandler f a) Q E e d acts s ↔ Q (.found pc) d acts (s.setVm vm')
theorem cx_sf (u : State) (vm' : Vm) (F G : List Frame) : ((u.setFrames F).setVm vm').setFrames G = (u.setVm vm').setFrames G := by
  show ((u.setVm vm').setFrames F).setFrames G = (u.setVm vm').setFrames G
  rw [State.setFrames_setFrames]
theorem cx_find {e : Env} {s : State} {f : JFrame} {a : Addr} {meth : Method} {code : Code} (hm : s.vm.method? f.method = some meth) (hc : meth.code = some code) {x : ExceptionTableEntry} {t : List ExceptionTableEntry} (hsplit : code.exceptionTable.toList = x :: t)
    {c : ClassId} {cell : Cell} (hx : covers x f.pc = true) (h0 : x.catchType ≠ 0) (hl : s.vm.ClassLinks e.platform f.method.cls x.catchType c) (hcell : s.heap[a]? = some cell) (hobj : ∀ k, cell.vm ≠ .statics k)
    (hk : ∃ k, s.vm.classes[cell.cls]? = some k) (hcl : ∃ k, s.vm.classes[c]? = some k) (hfit : s.vm.assignable cell.cls c = true) :
    cx_F e s f a x.handlerPc (s.vm.noted f.method.cls x.catchType (.cls c)) := by
  intro Q E d acts
  rw [W.findHandler_eq hm hc, hsplit]
  simp only [covers] at hx
  obtain ⟨ha, ht⟩ := (resolveClass_links e.toSetting hl).op (op := VmOp.resolveClass f.method.cls x.catchType) rfl
  have hal : s.vm.Alike (s.vm.noted f.method.cls x.catchType (.cls c)) := (Vm.Alike.refl s.vm).noted _ _ _
  obtain ⟨k1, hk1⟩ := hk
  obtain ⟨k2, hk2⟩ := hcl
  obtain ⟨k3, hk3, -⟩ := hal.2.2 _ _ hk1
  obtain ⟨k4, hk4, -⟩ := hal.2.2 _ _ hk2
  have hf2 : (s.vm.noted f.method.cls x.catchType (.cls c)).assignable cell.cls c = true := by rw [hal.assignable]; exact hfit
  simp [findHandler.go, hx, h0, ha, ht, hcell, hobj, hk3, hk4, hf2, VmOp.dirties, VmOp.acts]
theorem cx_step {e : Env} {s : State} {a : Addr} {f : JFrame} {r : List Frame} {pc : Nat} {vm' : Vm} (hfind : cx_F e s f a pc vm') :
    (stepThrowing e s a (.java f :: r)).Is ((s.setVm vm').setFrames (.java { f with pc := pc, stack := [.ref a] } :: r)) [] := by
  simp only [stepThrowing, searchFrame, vmDo]
  generalize hr : Sem.go _ e false [] s = res
  obtain ⟨as, rfl, ha⟩ := Sem.eq_ok_of hr (a := Handler.found pc) (s' := s.setVm vm') (acts' := []) (by simp [hfind _ _ _ _])
  exact ⟨rfl, ha⟩
theorem cx_steps {tb : Tables} {e : Env} {s target : State} {g : JFrame} {c : Code} {below : List Frame} {a : Addr} (h : At s g.method c below) {pc : Nat} {vm' : Vm}
    (hfind : cx_F e ((s.setTop g).pushFrame (.throwing a)) g a pc vm') (hrest : Steps tb e below ((s.setVm vm').setTop { g with pc := pc, stack := [.ref a] }) target) :
    Steps tb e below ((s.setTop g).pushFrame (.throwing a)) target := by
  obtain ⟨hgo, hw⟩ := h.throwing a
  refine Steps.head hgo hw ?_
  rw [stepThread_throwing (frames_entered h.top _), (cx_step (s := (s.setTop g).pushFrame (.throwing a)) hfind).1]
  obtain ⟨g₀, hg⟩ := Option.isSome_iff_exists.mp h.top
  obtain ⟨r, hr⟩ := State.topJava?_eq_some.mp hg
  have hr2 : (s.setVm vm').frames = .java g₀ :: r := hr
  rw [State.setTop_of_frames _ hr2] at hrest
  rw [hr, List.tail_cons, State.pushFrame, cx_sf, State.setTop_of_frames _ hr, cx_sf]
  exact hrest
section CX
variable {p : Program} {l : Launch} {e : Env} {R : Room} {s : State} {m : MethodId} {args : Array Value} {below : List Frame} {meth : Method} {c : Code} {H : Heap} {locs : List Loc} {cells slots : Nat} {Q : State → Prop} {pc : Nat} {ls : Array Slot} {rest : List Value}
/-- caught by the first row of this method's table -/
theorem cx_catch {own name : String} {E : String} {ce : Cell} {q : Addr} (hown : s.vm.findClass own = some m.cls) (x : ExceptionTableEntry) (suf : List ExceptionTableEntry) (hsplit : c.exceptionTable.toList = x :: suf)
    (hx : covers x pc = true) (h0 : x.catchType ≠ 0)
    (hlink : (Cond.classLink own x.catchType name).before args s = true) (hcast : (Cond.castable E name).before args s = true) (hcell : H[q]? = some ce) (hv : ce.vm = .none) (hcl : s.vm.findClass E = some ce.cls)
    (kk : W p l e R s m args below meth c H locs cells slots Q (F0 m x.handlerPc ls [.ref q])) : vx_W p l e R s m args below meth c H locs cells slots Q (F0 m pc ls rest) q := by
  intro T hT X
  have hpl : e.platform.magicAccessors = ({} : Platform).magicAccessors := by rw [X.admits.platform]
  obtain ⟨c3, c4, hc3, hc4, hasg⟩ := Cond.castable_spec hcast
  cases Option.some.inj (hc3.symm.trans hcl)
  obtain ⟨c5, hc5, hcl5⟩ := Cond.classLink_spec hown hlink e.platform hpl
  cases Option.some.inj (hc4.symm.trans hc5)
  obtain ⟨dk, _, _, kt, hd, _, _, _, _, hkt, _, hopen⟩ := hcl5.here
  obtain ⟨k9, hk9, -⟩ := Vm.findClass_spec hcl
  obtain ⟨k8, hk8, -⟩ := X.warmed.alike.2.2 _ _ hk9
  obtain ⟨kt2, hkt2, -⟩ := X.warmed.alike.2.2 _ _ hkt
  have X2 := X.noted (X.warmed.noted hd hopen (State.rightAt_cls hcl5))
  obtain ⟨t, a1, b1⟩ := kk _ (by exact hT) X2
  refine ⟨t, ?_, b1⟩
  refine cx_steps (g := F0 m pc ls rest) (pc := x.handlerPc) X.here (cx_find (s := (T.setTop (F0 m pc ls rest)).pushFrame (.throwing q)) (f := F0 m pc ls rest) (meth := meth) (code := c) (cell := ce) (c := c4) ?_ X.code hsplit hx h0 ?_ ?_ (VmData.ne_statics_of (by rw [hv]; rfl)) ⟨k8, hk8⟩ ⟨kt2, hkt2⟩ ?_) a1
  · exact X.method'
  · exact X.warmed.classLinks hcl5
  · show T.heap[q]? = some ce
    rw [hT]; exact hcell
  · show T.vm.assignable ce.cls c4 = true
    rw [X.warmed.alike.assignable]; exact hasg
end CX
/-! the words of a throw of NoSuchElementException("text"): its constructor links its parent's by entry 13 -/
def cx_six : ByteArray := ⟨#[0x2a, 0x2b, 0xb7, 0x00, 0x0d, 0xb1]⟩
def cx_E : String := "java/util/NoSuchElementException"
def cx_all : List Cond := Bundle.throwableAtoms ++ Bundle.throwableSAtoms ++ (Bundle.passSAtoms cx_E "java/lang/RuntimeException" 13 cx_six ++ Bundle.chainSAtoms "java/lang/RuntimeException" ["java/lang/Exception"]) ++
  [.methodLink "TileHouse" 257 (Bundle.initS cx_E), .instantiable cx_E 6, .castable cx_E cx_E, .selects cx_E Bundle.tFill0 Bundle.tFill0, .selects cx_E Bundle.tFill Bundle.tFill,
   .lays cx_E Bundle.tN "cause" "Ljava/lang/Throwable;", .lays cx_E Bundle.tN "stackTrace" Bundle.steD, .lays cx_E Bundle.tN "suppressedExceptions" Bundle.listD, .lays cx_E Bundle.tN "detailMessage" "Ljava/lang/String;",
   .isRef (.static Bundle.tN "UNASSIGNED_STACK" Bundle.steD), .isRef (.static Bundle.tN "SUPPRESSED_SENTINEL" Bundle.listD),
   .fieldLink Bundle.tN 198 Bundle.tN "backtrace" "Ljava/lang/Object;", .lays Bundle.tN Bundle.tN "backtrace" "Ljava/lang/Object;", .lays cx_E Bundle.tN "backtrace" "Ljava/lang/Object;"]
def cx_at : List Cond := cx_all.filter vx_no
end
section
/-! ===== BEGIN printed: names, fields, word lists, decode rows ===== -/
def RX0 : String := "TileHouse$Forms"
def TX0 : u_T := fun k => match k with
  | _ => ("", "", "", false)
def tyX0 : Nat → FieldType := fun k => match k with
  | _ => .int
abbrev wsX00 : List Cond := u_ws RX0 TX0 0
theorem nmX0 : ∀ a, a < 0 → ∀ b, b < 0 → a ≠ b → (TX0 a).2.1 ≠ (TX0 b).2.1 := by decide +kernel
theorem tyX0_ok : ∀ k, k < 0 → parseFieldDescriptor (TX0 k).2.2.1 = some (tyX0 k) := by decide +kernel
abbrev cX0_hanOf : ByteArray := prog_2_method_2_code
def yX0_hanOf : MethodName := ⟨RX0, "hanOf", "(JZ)I"⟩
abbrev cX0_baseOf : ByteArray := prog_2_method_3_code
def yX0_baseOf : MethodName := ⟨RX0, "baseOf", "(II)I"⟩
def RX1 : String := "TileHouse$Judge"
def TX1 : u_T := fun k => match k with
  | 0 => ("TileHouse$Judge", "base", "I", false)
  | 1 => ("TileHouse$Judge", "han", "I", false)
  | 2 => ("TileHouse$Judge", "fu", "I", false)
  | 3 => ("TileHouse$Judge", "best", "J", false)
  | 4 => ("TileHouse$Judge", "ways", "I", false)
  | 5 => ("TileHouse$Judge", "tiles", "LTileHouse$Tiles;", false)
  | 6 => ("TileHouse$Judge", "winner", "I", false)
  | 7 => ("TileHouse$Judge", "drawn", "Z", false)
  | 8 => ("TileHouse$Judge", "open", "Z", false)
  | 9 => ("TileHouse$Judge", "seatWind", "I", false)
  | 10 => ("TileHouse$Judge", "roundWind", "I", false)
  | 11 => ("TileHouse$Judge", "dear", "I", false)
  | 12 => ("TileHouse$Judge", "shared", "J", false)
  | 13 => ("TileHouse$Judge", "sort", "[I", true)
  | 14 => ("TileHouse$Judge", "low", "[I", true)
  | 15 => ("TileHouse$Judge", "pair", "I", false)
  | 16 => ("TileHouse$Judge", "runs", "J", false)
  | 17 => ("TileHouse$Judge", "threes", "J", false)
  | _ => ("TileHouse$Judge", "mayBeThrees", "[I", true)
def tyX1 : Nat → FieldType := fun k => match k with
  | 0 => .int
  | 1 => .int
  | 2 => .int
  | 3 => .long
  | 4 => .int
  | 5 => .object "TileHouse$Tiles"
  | 6 => .int
  | 7 => .boolean
  | 8 => .boolean
  | 9 => .int
  | 10 => .int
  | 11 => .int
  | 12 => .long
  | 13 => .array .int
  | 14 => .array .int
  | 15 => .int
  | 16 => .long
  | 17 => .long
  | _ => .array .int
abbrev wsX10 : List Cond := u_ws RX1 TX1 19
theorem nmX1 : ∀ a, a < 19 → ∀ b, b < 19 → a ≠ b → (TX1 a).2.1 ≠ (TX1 b).2.1 := by decide +kernel
theorem tyX1_ok : ∀ k, k < 19 → parseFieldDescriptor (TX1 k).2.2.1 = some (tyX1 k) := by decide +kernel
abbrev cX1_init : ByteArray := prog_3_method_1_code
def yX1_init : MethodName := ⟨RX1, "<init>", "()V"⟩
abbrev cX1_judge : ByteArray := prog_3_method_2_code
def yX1_judge : MethodName := ⟨RX1, "judge", "(LTileHouse$Tiles;IZJII)V"⟩
abbrev cX1_toldOnes : ByteArray := prog_3_method_3_code
def yX1_toldOnes : MethodName := ⟨RX1, "toldOnes", "(J)J"⟩
abbrev cX1_bit : ByteArray := prog_3_method_4_code
def yX1_bit : MethodName := ⟨RX1, "bit", "(ZI)J"⟩
abbrev cX1_tileForms : ByteArray := prog_3_method_5_code
def yX1_tileForms : MethodName := ⟨RX1, "tileForms", "(J)J"⟩
abbrev cX1_isNineGates : ByteArray := prog_3_method_6_code
def yX1_isNineGates : MethodName := ⟨RX1, "isNineGates", "(J)Z"⟩
abbrev cX1_findThrees : ByteArray := prog_3_method_7_code
def yX1_findThrees : MethodName := ⟨RX1, "findThrees", "()I"⟩
abbrev cX1_chosenThrees : ByteArray := prog_3_method_8_code
def yX1_chosenThrees : MethodName := ⟨RX1, "chosenThrees", "(I)J"⟩
abbrev cX1_fillWay : ByteArray := prog_3_method_9_code
def yX1_fillWay : MethodName := ⟨RX1, "fillWay", "(J)Z"⟩
abbrev cX1_weighWay : ByteArray := prog_3_method_10_code
def yX1_weighWay : MethodName := ⟨RX1, "weighWay", "()V"⟩
abbrev cX1_mayHaveCompleted : ByteArray := prog_3_method_11_code
def yX1_mayHaveCompleted : MethodName := ⟨RX1, "mayHaveCompleted", "(I)Z"⟩
abbrev cX1_likeRuns : ByteArray := prog_3_method_12_code
def yX1_likeRuns : MethodName := ⟨RX1, "likeRuns", "()J"⟩
abbrev cX1_setForms : ByteArray := prog_3_method_13_code
def yX1_setForms : MethodName := ⟨RX1, "setForms", "()J"⟩
abbrev cX1_endForms : ByteArray := prog_3_method_14_code
def yX1_endForms : MethodName := ⟨RX1, "endForms", "()J"⟩
abbrev cX1_weighCompleted : ByteArray := prog_3_method_15_code
def yX1_weighCompleted : MethodName := ⟨RX1, "weighCompleted", "(JI)V"⟩
abbrev cX1_isHidden : ByteArray := prog_3_method_16_code
def yX1_isHidden : MethodName := ⟨RX1, "isHidden", "(II)Z"⟩
abbrev cX1_fuOf : ByteArray := prog_3_method_17_code
def yX1_fuOf : MethodName := ⟨RX1, "fuOf", "(IZ)I"⟩
abbrev cX1_pairFu : ByteArray := prog_3_method_18_code
def yX1_pairFu : MethodName := ⟨RX1, "pairFu", "()I"⟩
abbrev cX1_waitFu : ByteArray := prog_3_method_19_code
def yX1_waitFu : MethodName := ⟨RX1, "waitFu", "(I)I"⟩
abbrev cX1_offer : ByteArray := prog_3_method_20_code
def yX1_offer : MethodName := ⟨RX1, "offer", "(JI)V"⟩
abbrev cX1_isBetter : ByteArray := prog_3_method_21_code
def yX1_isBetter : MethodName := ⟨RX1, "isBetter", "(IIIJ)Z"⟩
def RX2 : String := "TileHouse$Seat"
def TX2 : u_T := fun k => match k with
  | 0 => ("TileHouse$Seat", "tiles", "LTileHouse$Tiles;", true)
  | 1 => ("TileHouse$Seat", "thrown", "[I", true)
  | 2 => ("TileHouse$Seat", "discards", "I", false)
  | 3 => ("TileHouse$Seat", "thrownKinds", "J", false)
  | 4 => ("TileHouse$Seat", "points", "I", false)
  | 5 => ("TileHouse$Seat", "bet", "I", false)
  | 6 => ("TileHouse$Seat", "owes", "Z", false)
  | 7 => ("TileHouse$Seat", "atOnce", "Z", false)
  | 8 => ("TileHouse$Seat", "letGo", "Z", false)
  | _ => ("TileHouse$Seat", "says", "Z", false)
def tyX2 : Nat → FieldType := fun k => match k with
  | 0 => .object "TileHouse$Tiles"
  | 1 => .array .int
  | 2 => .int
  | 3 => .long
  | 4 => .int
  | 5 => .int
  | 6 => .boolean
  | 7 => .boolean
  | 8 => .boolean
  | _ => .boolean
abbrev wsX20 : List Cond := u_ws RX2 TX2 10
theorem nmX2 : ∀ a, a < 10 → ∀ b, b < 10 → a ≠ b → (TX2 a).2.1 ≠ (TX2 b).2.1 := by decide +kernel
theorem tyX2_ok : ∀ k, k < 10 → parseFieldDescriptor (TX2 k).2.2.1 = some (tyX2 k) := by decide +kernel
abbrev cX2_init : ByteArray := prog_4_method_1_code
def yX2_init : MethodName := ⟨RX2, "<init>", "()V"⟩
abbrev cX2_startHand : ByteArray := prog_4_method_2_code
def yX2_startHand : MethodName := ⟨RX2, "startHand", "()V"⟩
abbrev cX2_throwTile : ByteArray := prog_4_method_3_code
def yX2_throwTile : MethodName := ⟨RX2, "throwTile", "(I)V"⟩
abbrev cX2_thrown : ByteArray := prog_4_method_4_code
def yX2_thrown : MethodName := ⟨RX2, "thrown", "(I)I"⟩
def RX3 : String := "TileHouse$Tiles"
def TX3 : u_T := fun k => match k with
  | 0 => ("TileHouse$Tiles", "free", "[I", true)
  | 1 => ("TileHouse$Tiles", "all", "[I", true)
  | 2 => ("TileHouse$Tiles", "sort", "[I", true)
  | 3 => ("TileHouse$Tiles", "low", "[I", true)
  | 4 => ("TileHouse$Tiles", "laidDown", "I", false)
  | _ => ("TileHouse$Tiles", "loose", "I", false)
def tyX3 : Nat → FieldType := fun k => match k with
  | 0 => .array .int
  | 1 => .array .int
  | 2 => .array .int
  | 3 => .array .int
  | 4 => .int
  | _ => .int
abbrev wsX30 : List Cond := u_ws RX3 TX3 6
theorem nmX3 : ∀ a, a < 6 → ∀ b, b < 6 → a ≠ b → (TX3 a).2.1 ≠ (TX3 b).2.1 := by decide +kernel
theorem tyX3_ok : ∀ k, k < 6 → parseFieldDescriptor (TX3 k).2.2.1 = some (tyX3 k) := by decide +kernel
abbrev cX3_init : ByteArray := prog_5_method_1_code
def yX3_init : MethodName := ⟨RX3, "<init>", "()V"⟩
abbrev cX3_empty : ByteArray := prog_5_method_2_code
def yX3_empty : MethodName := ⟨RX3, "empty", "()V"⟩
abbrev cX3_free : ByteArray := prog_5_method_3_code
def yX3_free : MethodName := ⟨RX3, "free", "(I)I"⟩
abbrev cX3_all : ByteArray := prog_5_method_4_code
def yX3_all : MethodName := ⟨RX3, "all", "(I)I"⟩
abbrev cX3_size : ByteArray := prog_5_method_5_code
def yX3_size : MethodName := ⟨RX3, "size", "()I"⟩
abbrev cX3_kinds : ByteArray := prog_5_method_6_code
def yX3_kinds : MethodName := ⟨RX3, "kinds", "()J"⟩
abbrev cX3_isOpen : ByteArray := prog_5_method_7_code
def yX3_isOpen : MethodName := ⟨RX3, "isOpen", "()Z"⟩
abbrev cX3_put : ByteArray := prog_5_method_8_code
def yX3_put : MethodName := ⟨RX3, "put", "(II)V"⟩
abbrev cX3_take : ByteArray := prog_5_method_9_code
def yX3_take : MethodName := ⟨RX3, "take", "(II)V"⟩
abbrev cX3_layDown : ByteArray := prog_5_method_10_code
def yX3_layDown : MethodName := ⟨RX3, "layDown", "(II)V"⟩
abbrev cX3_addToThree : ByteArray := prog_5_method_11_code
def yX3_addToThree : MethodName := ⟨RX3, "addToThree", "(I)Z"⟩
abbrev cX3_waiting : ByteArray := prog_5_method_12_code
def yX3_waiting : MethodName := ⟨RX3, "waiting", "()J"⟩
abbrev cX3_waitsFor : ByteArray := prog_5_method_13_code
def yX3_waitsFor : MethodName := ⟨RX3, "waitsFor", "(I)Z"⟩
abbrev cX3_isSevenPairs : ByteArray := prog_5_method_14_code
def yX3_isSevenPairs : MethodName := ⟨RX3, "isSevenPairs", "()Z"⟩
abbrev cX3_isThirteen : ByteArray := prog_5_method_15_code
def yX3_isThirteen : MethodName := ⟨RX3, "isThirteen", "()Z"⟩
abbrev cX3_isSetsAndPair : ByteArray := prog_5_method_16_code
def yX3_isSetsAndPair : MethodName := ⟨RX3, "isSetsAndPair", "()Z"⟩
abbrev cX3_splitsBeside : ByteArray := prog_5_method_17_code
def yX3_splitsBeside : MethodName := ⟨RX3, "splitsBeside", "(I)Z"⟩
def RX4 : String := "TileHouse$Wall"
def TX4 : u_T := fun k => match k with
  | 0 => ("TileHouse$Wall", "kinds", "[I", true)
  | 1 => ("TileHouse$Wall", "stands", "Z", false)
  | 2 => ("TileHouse$Wall", "next", "I", false)
  | _ => ("TileHouse$Wall", "fours", "I", false)
def tyX4 : Nat → FieldType := fun k => match k with
  | 0 => .array .int
  | 1 => .boolean
  | 2 => .int
  | _ => .int
abbrev wsX40 : List Cond := u_ws RX4 TX4 4
theorem nmX4 : ∀ a, a < 4 → ∀ b, b < 4 → a ≠ b → (TX4 a).2.1 ≠ (TX4 b).2.1 := by decide +kernel
theorem tyX4_ok : ∀ k, k < 4 → parseFieldDescriptor (TX4 k).2.2.1 = some (tyX4 k) := by decide +kernel
abbrev cX4_init : ByteArray := prog_6_method_1_code
def yX4_init : MethodName := ⟨RX4, "<init>", "()V"⟩
abbrev cX4_build : ByteArray := prog_6_method_2_code
def yX4_build : MethodName := ⟨RX4, "build", "(J)V"⟩
abbrev cX4_kindAt : ByteArray := prog_6_method_3_code
def yX4_kindAt : MethodName := ⟨RX4, "kindAt", "(I)I"⟩
abbrev cX4_left : ByteArray := prog_6_method_4_code
def yX4_left : MethodName := ⟨RX4, "left", "()I"⟩
abbrev cX4_signs : ByteArray := prog_6_method_5_code
def yX4_signs : MethodName := ⟨RX4, "signs", "()I"⟩
abbrev cX4_draw : ByteArray := prog_6_method_6_code
def yX4_draw : MethodName := ⟨RX4, "draw", "()I"⟩
abbrev cX4_drawBehindFour : ByteArray := prog_6_method_7_code
def yX4_drawBehindFour : MethodName := ⟨RX4, "drawBehindFour", "()I"⟩
abbrev cX4_dearTiles : ByteArray := prog_6_method_8_code
def yX4_dearTiles : MethodName := ⟨RX4, "dearTiles", "(LTileHouse$Tiles;Z)I"⟩
abbrev cX4_behind : ByteArray := prog_6_method_9_code
def yX4_behind : MethodName := ⟨RX4, "behind", "(I)I"⟩
def RX5 : String := "TileHouse$Win"
def TX5 : u_T := fun k => match k with
  | 0 => ("TileHouse$Win", "seat", "I", false)
  | 1 => ("TileHouse$Win", "payer", "I", false)
  | 2 => ("TileHouse$Win", "base", "I", false)
  | 3 => ("TileHouse$Win", "han", "I", false)
  | 4 => ("TileHouse$Win", "fu", "I", false)
  | 5 => ("TileHouse$Win", "got", "I", false)
  | 6 => ("TileHouse$Win", "kind", "I", false)
  | _ => ("TileHouse$Win", "made", "J", false)
def tyX5 : Nat → FieldType := fun k => match k with
  | 0 => .int
  | 1 => .int
  | 2 => .int
  | 3 => .int
  | 4 => .int
  | 5 => .int
  | 6 => .int
  | _ => .long
abbrev wsX50 : List Cond := u_ws RX5 TX5 8
theorem nmX5 : ∀ a, a < 8 → ∀ b, b < 8 → a ≠ b → (TX5 a).2.1 ≠ (TX5 b).2.1 := by decide +kernel
theorem tyX5_ok : ∀ k, k < 8 → parseFieldDescriptor (TX5 k).2.2.1 = some (tyX5 k) := by decide +kernel
abbrev cX5_init : ByteArray := prog_7_method_1_code
def yX5_init : MethodName := ⟨RX5, "<init>", "()V"⟩
abbrev cX5_part : ByteArray := prog_7_method_2_code
def yX5_part : MethodName := ⟨RX5, "part", "(I)I"⟩
def RX6 : String := "TileHouse"
def TX6 : u_T := fun k => match k with
  | 0 => ("TileHouse", "players", "[LTileHouse$Seat;", true)
  | 1 => ("TileHouse", "bricks", "LTileHouse$Wall;", true)
  | 2 => ("TileHouse", "judge", "LTileHouse$Judge;", true)
  | 3 => ("TileHouse", "wins", "[LTileHouse$Win;", true)
  | 4 => ("TileHouse", "deskTiles", "LTileHouse$Tiles;", true)
  | 5 => ("TileHouse", "deskJudge", "LTileHouse$Judge;", true)
  | 6 => ("TileHouse", "winCount", "I", false)
  | 7 => ("TileHouse", "phase", "I", false)
  | 8 => ("TileHouse", "turn", "I", false)
  | 9 => ("TileHouse", "dealer", "I", false)
  | 10 => ("TileHouse", "round", "I", false)
  | 11 => ("TileHouse", "stays", "I", false)
  | 12 => ("TileHouse", "bets", "I", false)
  | 13 => ("TileHouse", "ended", "Z", false)
  | 14 => ("TileHouse", "handsEnded", "I", false)
  | 15 => ("TileHouse", "tile", "I", false)
  | 16 => ("TileHouse", "behindFour", "Z", false)
  | 17 => ("TileHouse", "broken", "Z", false)
  | _ => ("TileHouse", "barred", "J", false)
def tyX6 : Nat → FieldType := fun k => match k with
  | 0 => .array (.object "TileHouse$Seat")
  | 1 => .object "TileHouse$Wall"
  | 2 => .object "TileHouse$Judge"
  | 3 => .array (.object "TileHouse$Win")
  | 4 => .object "TileHouse$Tiles"
  | 5 => .object "TileHouse$Judge"
  | 6 => .int
  | 7 => .int
  | 8 => .int
  | 9 => .int
  | 10 => .int
  | 11 => .int
  | 12 => .int
  | 13 => .boolean
  | 14 => .int
  | 15 => .int
  | 16 => .boolean
  | 17 => .boolean
  | _ => .long
abbrev wsX60 : List Cond := u_ws RX6 TX6 19
theorem nmX6 : ∀ a, a < 19 → ∀ b, b < 19 → a ≠ b → (TX6 a).2.1 ≠ (TX6 b).2.1 := by decide +kernel
theorem tyX6_ok : ∀ k, k < 19 → parseFieldDescriptor (TX6 k).2.2.1 = some (tyX6 k) := by decide +kernel
abbrev cX6_init : ByteArray := prog_1_method_1_code
def yX6_init : MethodName := ⟨RX6, "<init>", "()V"⟩
abbrev cX6_deal : ByteArray := prog_1_method_2_code
def yX6_deal : MethodName := ⟨RX6, "deal", "(J)Z"⟩
abbrev cX6_discard : ByteArray := prog_1_method_3_code
def yX6_discard : MethodName := ⟨RX6, "discard", "(IZ)Z"⟩
abbrev cX6_pass : ByteArray := prog_1_method_4_code
def yX6_pass : MethodName := ⟨RX6, "pass", "()Z"⟩
abbrev cX6_run : ByteArray := prog_1_method_5_code
def yX6_run : MethodName := ⟨RX6, "run", "(II)Z"⟩
abbrev cX6_three : ByteArray := prog_1_method_6_code
def yX6_three : MethodName := ⟨RX6, "three", "(I)Z"⟩
abbrev cX6_four : ByteArray := prog_1_method_7_code
def yX6_four : MethodName := ⟨RX6, "four", "(I)Z"⟩
abbrev cX6_hide : ByteArray := prog_1_method_8_code
def yX6_hide : MethodName := ⟨RX6, "hide", "(I)Z"⟩
abbrev cX6_add : ByteArray := prog_1_method_9_code
def yX6_add : MethodName := ⟨RX6, "add", "(I)Z"⟩
abbrev cX6_win : ByteArray := prog_1_method_10_code
def yX6_win : MethodName := ⟨RX6, "win", "()Z"⟩
abbrev cX6_claim : ByteArray := prog_1_method_11_code
def yX6_claim : MethodName := ⟨RX6, "claim", "(I)Z"⟩
abbrev cX6_nine : ByteArray := prog_1_method_12_code
def yX6_nine : MethodName := ⟨RX6, "nine", "()Z"⟩
abbrev cX6_hand : ByteArray := prog_1_method_13_code
def yX6_hand : MethodName := ⟨RX6, "hand", "(II)I"⟩
abbrev cX6_laid : ByteArray := prog_1_method_14_code
def yX6_laid : MethodName := ⟨RX6, "laid", "(III)I"⟩
abbrev cX6_river : ByteArray := prog_1_method_15_code
def yX6_river : MethodName := ⟨RX6, "river", "(II)I"⟩
abbrev cX6_waits : ByteArray := prog_1_method_16_code
def yX6_waits : MethodName := ⟨RX6, "waits", "(I)J"⟩
abbrev cX6_seat : ByteArray := prog_1_method_17_code
def yX6_seat : MethodName := ⟨RX6, "seat", "(II)I"⟩
abbrev cX6_won : ByteArray := prog_1_method_18_code
def yX6_won : MethodName := ⟨RX6, "won", "(II)I"⟩
abbrev cX6_forms : ByteArray := prog_1_method_19_code
def yX6_forms : MethodName := ⟨RX6, "forms", "(I)J"⟩
abbrev cX6_count : ByteArray := prog_1_method_20_code
def yX6_count : MethodName := ⟨RX6, "count", "(I)I"⟩
abbrev cX6_wall : ByteArray := prog_1_method_21_code
def yX6_wall : MethodName := ⟨RX6, "wall", "(I)I"⟩
abbrev cX6_clear : ByteArray := prog_1_method_22_code
def yX6_clear : MethodName := ⟨RX6, "clear", "()V"⟩
abbrev cX6_lay : ByteArray := prog_1_method_23_code
def yX6_lay : MethodName := ⟨RX6, "lay", "(II)Z"⟩
abbrev cX6_set : ByteArray := prog_1_method_24_code
def yX6_set : MethodName := ⟨RX6, "set", "(II)Z"⟩
abbrev cX6_worth : ByteArray := prog_1_method_25_code
def yX6_worth : MethodName := ⟨RX6, "worth", "(IZJII)I"⟩
abbrev cX6_desk : ByteArray := prog_1_method_26_code
def yX6_desk : MethodName := ⟨RX6, "desk", "(I)I"⟩
abbrev cX6_deskForms : ByteArray := prog_1_method_27_code
def yX6_deskForms : MethodName := ⟨RX6, "deskForms", "()J"⟩
abbrev cX6_deskWaits : ByteArray := prog_1_method_28_code
def yX6_deskWaits : MethodName := ⟨RX6, "deskWaits", "()J"⟩
abbrev cX6_isSeat : ByteArray := prog_1_method_29_code
def yX6_isSeat : MethodName := ⟨RX6, "isSeat", "(I)Z"⟩
abbrev cX6_isKind : ByteArray := prog_1_method_30_code
def yX6_isKind : MethodName := ⟨RX6, "isKind", "(I)Z"⟩
abbrev cX6_startsRun : ByteArray := prog_1_method_31_code
def yX6_startsRun : MethodName := ⟨RX6, "startsRun", "(I)Z"⟩
abbrev cX6_holds : ByteArray := prog_1_method_32_code
def yX6_holds : MethodName := ⟨RX6, "holds", "(JI)Z"⟩
abbrev cX6_tilesOfEach : ByteArray := prog_1_method_33_code
def yX6_tilesOfEach : MethodName := ⟨RX6, "tilesOfEach", "(I)I"⟩
abbrev cX6_hundreds : ByteArray := prog_1_method_34_code
def yX6_hundreds : MethodName := ⟨RX6, "hundreds", "(I)I"⟩
abbrev cX6_isWin : ByteArray := prog_1_method_35_code
def yX6_isWin : MethodName := ⟨RX6, "isWin", "(I)Z"⟩
abbrev cX6_at : ByteArray := prog_1_method_36_code
def yX6_at : MethodName := ⟨RX6, "at", "(I)LTileHouse$Seat;"⟩
abbrev cX6_windOf : ByteArray := prog_1_method_37_code
def yX6_windOf : MethodName := ⟨RX6, "windOf", "(I)I"⟩
abbrev cX6_drawTile : ByteArray := prog_1_method_38_code
def yX6_drawTile : MethodName := ⟨RX6, "drawTile", "(IZ)V"⟩
abbrev cX6_mayThrow : ByteArray := prog_1_method_39_code
def yX6_mayThrow : MethodName := ⟨RX6, "mayThrow", "(I)Z"⟩
abbrev cX6_mayBet : ByteArray := prog_1_method_40_code
def yX6_mayBet : MethodName := ⟨RX6, "mayBet", "(LTileHouse$Seat;)Z"⟩
abbrev cX6_someoneSays : ByteArray := prog_1_method_41_code
def yX6_someoneSays : MethodName := ⟨RX6, "someoneSays", "()Z"⟩
abbrev cX6_mayClaimSet : ByteArray := prog_1_method_42_code
def yX6_mayClaimSet : MethodName := ⟨RX6, "mayClaimSet", "(I)Z"⟩
abbrev cX6_otherEnd : ByteArray := prog_1_method_43_code
def yX6_otherEnd : MethodName := ⟨RX6, "otherEnd", "(I)J"⟩
abbrev cX6_keepsOther : ByteArray := prog_1_method_44_code
def yX6_keepsOther : MethodName := ⟨RX6, "keepsOther", "(LTileHouse$Tiles;JJ)Z"⟩
abbrev cX6_takeSet : ByteArray := prog_1_method_45_code
def yX6_takeSet : MethodName := ⟨RX6, "takeSet", "(III)V"⟩
abbrev cX6_letTileGo : ByteArray := prog_1_method_46_code
def yX6_letTileGo : MethodName := ⟨RX6, "letTileGo", "()V"⟩
abbrev cX6_breakHand : ByteArray := prog_1_method_47_code
def yX6_breakHand : MethodName := ⟨RX6, "breakHand", "()V"⟩
abbrev cX6_mayMakeFour : ByteArray := prog_1_method_48_code
def yX6_mayMakeFour : MethodName := ⟨RX6, "mayMakeFour", "()Z"⟩
abbrev cX6_makeFour : ByteArray := prog_1_method_49_code
def yX6_makeFour : MethodName := ⟨RX6, "makeFour", "(I)V"⟩
abbrev cX6_weighHand : ByteArray := prog_1_method_50_code
def yX6_weighHand : MethodName := ⟨RX6, "weighHand", "(IZ)I"⟩
abbrev cX6_toldForms : ByteArray := prog_1_method_51_code
def yX6_toldForms : MethodName := ⟨RX6, "toldForms", "(LTileHouse$Seat;Z)J"⟩
abbrev cX6_firstDraw : ByteArray := prog_1_method_52_code
def yX6_firstDraw : MethodName := ⟨RX6, "firstDraw", "(IZ)J"⟩
abbrev cX6_winByTile : ByteArray := prog_1_method_53_code
def yX6_winByTile : MethodName := ⟨RX6, "winByTile", "()V"⟩
abbrev cX6_recordWin : ByteArray := prog_1_method_54_code
def yX6_recordWin : MethodName := ⟨RX6, "recordWin", "(III)V"⟩
abbrev cX6_endUnwon : ByteArray := prog_1_method_55_code
def yX6_endUnwon : MethodName := ⟨RX6, "endUnwon", "()V"⟩
abbrev cX6_endHand : ByteArray := prog_1_method_56_code
def yX6_endHand : MethodName := ⟨RX6, "endHand", "(ZZ)V"⟩
abbrev cX6_someoneIsBroke : ByteArray := prog_1_method_57_code
def yX6_someoneIsBroke : MethodName := ⟨RX6, "someoneIsBroke", "()Z"⟩
abbrev cX6_richest : ByteArray := prog_1_method_58_code
def yX6_richest : MethodName := ⟨RX6, "richest", "()I"⟩
def RX7 : String := "TileHouseModel"
def TX7 : u_T := fun k => match k with
  | 0 => ("TileHouseModel", "thrown", "I", false)
  | 1 => ("TileHouseModel", "in", "[I", true)
  | 2 => ("TileHouseModel", "sorts", "[I", true)
  | 3 => ("TileHouseModel", "lows", "[I", true)
  | 4 => ("TileHouseModel", "laidMany", "I", false)
  | 5 => ("TileHouseModel", "waySort", "[I", true)
  | 6 => ("TileHouseModel", "wayLow", "[I", true)
  | 7 => ("TileHouseModel", "winner", "I", false)
  | 8 => ("TileHouseModel", "seatWind", "I", false)
  | 9 => ("TileHouseModel", "roundWind", "I", false)
  | 10 => ("TileHouseModel", "dear", "I", false)
  | 11 => ("TileHouseModel", "drawn", "Z", false)
  | 12 => ("TileHouseModel", "told", "J", false)
  | 13 => ("TileHouseModel", "bestBase", "I", false)
  | 14 => ("TileHouseModel", "bestHan", "I", false)
  | 15 => ("TileHouseModel", "bestFu", "I", false)
  | 16 => ("TileHouseModel", "ways", "I", false)
  | 17 => ("TileHouseModel", "bestForms", "J", false)
  | 18 => ("TileHouseModel", "isFull", "Z", false)
  | 19 => ("TileHouseModel", "allSort", "[I", true)
  | 20 => ("TileHouseModel", "allLow", "[I", true)
  | 21 => ("TileHouseModel", "pairKind", "I", false)
  | 22 => ("TileHouseModel", "completes", "I", false)
  | 23 => ("TileHouseModel", "fu", "I", false)
  | 24 => ("TileHouseModel", "great", "J", false)
  | 25 => ("TileHouseModel", "plain", "J", false)
  | 26 => ("TileHouseModel", "whole", "[I", true)
  | 27 => ("TileHouseModel", "wall", "[I", true)
  | 28 => ("TileHouseModel", "hands", "[I", true)
  | 29 => ("TileHouseModel", "points", "[I", true)
  | 30 => ("TileHouseModel", "setSort", "[I", true)
  | 31 => ("TileHouseModel", "setKind", "[I", true)
  | 32 => ("TileHouseModel", "setMany", "[I", true)
  | 33 => ("TileHouseModel", "rivers", "[I", true)
  | 34 => ("TileHouseModel", "riverMany", "[I", true)
  | 35 => ("TileHouseModel", "bet", "[I", true)
  | 36 => ("TileHouseModel", "draws", "[I", true)
  | 37 => ("TileHouseModel", "atOnce", "[Z", true)
  | 38 => ("TileHouseModel", "letGo", "[Z", true)
  | 39 => ("TileHouseModel", "says", "[Z", true)
  | 40 => ("TileHouseModel", "dealer", "I", false)
  | 41 => ("TileHouseModel", "round", "I", false)
  | 42 => ("TileHouseModel", "stays", "I", false)
  | 43 => ("TileHouseModel", "bets", "I", false)
  | 44 => ("TileHouseModel", "phase", "I", false)
  | 45 => ("TileHouseModel", "turn", "I", false)
  | 46 => ("TileHouseModel", "next", "I", false)
  | 47 => ("TileHouseModel", "fours", "I", false)
  | 48 => ("TileHouseModel", "backs", "I", false)
  | 49 => ("TileHouseModel", "tile", "I", false)
  | 50 => ("TileHouseModel", "banned", "I", false)
  | 51 => ("TileHouseModel", "alsoBanned", "I", false)
  | 52 => ("TileHouseModel", "handsEnded", "I", false)
  | 53 => ("TileHouseModel", "wins", "I", false)
  | 54 => ("TileHouseModel", "ended", "Z", false)
  | 55 => ("TileHouseModel", "isDealt", "Z", false)
  | 56 => ("TileHouseModel", "untouched", "Z", false)
  | 57 => ("TileHouseModel", "justClaimed", "Z", false)
  | 58 => ("TileHouseModel", "behindFour", "Z", false)
  | 59 => ("TileHouseModel", "betWaits", "Z", false)
  | 60 => ("TileHouseModel", "won", "[I", true)
  | 61 => ("TileHouseModel", "wonForms", "[J", true)
  | 62 => ("TileHouseModel", "deskIn", "[I", true)
  | 63 => ("TileHouseModel", "deskSort", "[I", true)
  | 64 => ("TileHouseModel", "deskKind", "[I", true)
  | 65 => ("TileHouseModel", "told4", "[I", true)
  | 66 => ("TileHouseModel", "deskSets", "I", false)
  | _ => ("TileHouseModel", "toldForms", "J", false)
def tyX7 : Nat → FieldType := fun k => match k with
  | 0 => .int
  | 1 => .array .int
  | 2 => .array .int
  | 3 => .array .int
  | 4 => .int
  | 5 => .array .int
  | 6 => .array .int
  | 7 => .int
  | 8 => .int
  | 9 => .int
  | 10 => .int
  | 11 => .boolean
  | 12 => .long
  | 13 => .int
  | 14 => .int
  | 15 => .int
  | 16 => .int
  | 17 => .long
  | 18 => .boolean
  | 19 => .array .int
  | 20 => .array .int
  | 21 => .int
  | 22 => .int
  | 23 => .int
  | 24 => .long
  | 25 => .long
  | 26 => .array .int
  | 27 => .array .int
  | 28 => .array .int
  | 29 => .array .int
  | 30 => .array .int
  | 31 => .array .int
  | 32 => .array .int
  | 33 => .array .int
  | 34 => .array .int
  | 35 => .array .int
  | 36 => .array .int
  | 37 => .array .boolean
  | 38 => .array .boolean
  | 39 => .array .boolean
  | 40 => .int
  | 41 => .int
  | 42 => .int
  | 43 => .int
  | 44 => .int
  | 45 => .int
  | 46 => .int
  | 47 => .int
  | 48 => .int
  | 49 => .int
  | 50 => .int
  | 51 => .int
  | 52 => .int
  | 53 => .int
  | 54 => .boolean
  | 55 => .boolean
  | 56 => .boolean
  | 57 => .boolean
  | 58 => .boolean
  | 59 => .boolean
  | 60 => .array .int
  | 61 => .array .long
  | 62 => .array .int
  | 63 => .array .int
  | 64 => .array .int
  | 65 => .array .int
  | 66 => .int
  | _ => .long
abbrev wsX70 : List Cond := u_ws RX7 TX7 68
theorem nmX7 : ∀ a, a < 68 → ∀ b, b < 68 → a ≠ b → (TX7 a).2.1 ≠ (TX7 b).2.1 := by decide +kernel
theorem tyX7_ok : ∀ k, k < 68 → parseFieldDescriptor (TX7 k).2.2.1 = some (tyX7 k) := by decide +kernel
abbrev cX7_init : ByteArray := prog_9_method_1_code
def yX7_init : MethodName := ⟨RX7, "<init>", "()V"⟩
abbrev cX7_thrown : ByteArray := prog_9_method_2_code
def yX7_thrown : MethodName := ⟨RX7, "thrown", "()I"⟩
abbrev cX7_isKind : ByteArray := prog_9_method_3_code
def yX7_isKind : MethodName := ⟨RX7, "isKind", "(I)Z"⟩
abbrev cX7_isHonour : ByteArray := prog_9_method_4_code
def yX7_isHonour : MethodName := ⟨RX7, "isHonour", "(I)Z"⟩
abbrev cX7_isDragon : ByteArray := prog_9_method_5_code
def yX7_isDragon : MethodName := ⟨RX7, "isDragon", "(I)Z"⟩
abbrev cX7_isTerminal : ByteArray := prog_9_method_6_code
def yX7_isTerminal : MethodName := ⟨RX7, "isTerminal", "(I)Z"⟩
abbrev cX7_isEnd : ByteArray := prog_9_method_7_code
def yX7_isEnd : MethodName := ⟨RX7, "isEnd", "(I)Z"⟩
abbrev cX7_isRun : ByteArray := prog_9_method_8_code
def yX7_isRun : MethodName := ⟨RX7, "isRun", "(I)Z"⟩
abbrev cX7_inHand : ByteArray := prog_9_method_9_code
def yX7_inHand : MethodName := ⟨RX7, "inHand", "()I"⟩
abbrev cX7_apart : ByteArray := prog_9_method_10_code
def yX7_apart : MethodName := ⟨RX7, "apart", "(Z)V"⟩
abbrev cX7_sets : ByteArray := prog_9_method_11_code
def yX7_sets : MethodName := ⟨RX7, "sets", "(IIIZ)V"⟩
abbrev cX7_has : ByteArray := prog_9_method_12_code
def yX7_has : MethodName := ⟨RX7, "has", "(III)Z"⟩
abbrev cX7_way : ByteArray := prog_9_method_13_code
def yX7_way : MethodName := ⟨RX7, "way", "(I)V"⟩
abbrev cX7_isOpen : ByteArray := prog_9_method_14_code
def yX7_isOpen : MethodName := ⟨RX7, "isOpen", "()Z"⟩
abbrev cX7_bit : ByteArray := prog_9_method_15_code
def yX7_bit : MethodName := ⟨RX7, "bit", "(I)J"⟩
abbrev cX7_isHidden : ByteArray := prog_9_method_16_code
def yX7_isHidden : MethodName := ⟨RX7, "isHidden", "(I)Z"⟩
abbrev cX7_hasThree : ByteArray := prog_9_method_17_code
def yX7_hasThree : MethodName := ⟨RX7, "hasThree", "(I)Z"⟩
abbrev cX7_hasRun : ByteArray := prog_9_method_18_code
def yX7_hasRun : MethodName := ⟨RX7, "hasRun", "(I)Z"⟩
abbrev cX7_firstSort : ByteArray := prog_9_method_19_code
def yX7_firstSort : MethodName := ⟨RX7, "firstSort", "()V"⟩
abbrev cX7_twins : ByteArray := prog_9_method_20_code
def yX7_twins : MethodName := ⟨RX7, "twins", "()V"⟩
abbrev cX7_edges : ByteArray := prog_9_method_21_code
def yX7_edges : MethodName := ⟨RX7, "edges", "(I)V"⟩
abbrev cX7_of : ByteArray := prog_9_method_22_code
def yX7_of : MethodName := ⟨RX7, "of", "(I)I"⟩
abbrev cX7_tiles : ByteArray := prog_9_method_23_code
def yX7_tiles : MethodName := ⟨RX7, "tiles", "()V"⟩
abbrev cX7_pairsWay : ByteArray := prog_9_method_24_code
def yX7_pairsWay : MethodName := ⟨RX7, "pairsWay", "()V"⟩
abbrev cX7_thirteen : ByteArray := prog_9_method_25_code
def yX7_thirteen : MethodName := ⟨RX7, "thirteen", "()V"⟩
abbrev cX7_han : ByteArray := prog_9_method_26_code
def yX7_han : MethodName := ⟨RX7, "han", "(IZ)I"⟩
abbrev cX7_compare : ByteArray := prog_9_method_27_code
def yX7_compare : MethodName := ⟨RX7, "compare", "(Z)V"⟩
abbrev cX7_reckon : ByteArray := prog_9_method_28_code
def yX7_reckon : MethodName := ⟨RX7, "reckon", "(IZJIII)V"⟩
abbrev cX7_waitsOf : ByteArray := prog_9_method_29_code
def yX7_waitsOf : MethodName := ⟨RX7, "waitsOf", "()J"⟩
abbrev cX7_isSeat : ByteArray := prog_9_method_30_code
def yX7_isSeat : MethodName := ⟨RX7, "isSeat", "(I)Z"⟩
abbrev cX7_has_ : ByteArray := prog_9_method_31_code
def yX7_has_ : MethodName := ⟨RX7, "has", "(II)I"⟩
abbrev cX7_gives : ByteArray := prog_9_method_32_code
def yX7_gives : MethodName := ⟨RX7, "gives", "(III)V"⟩
abbrev cX7_left : ByteArray := prog_9_method_33_code
def yX7_left : MethodName := ⟨RX7, "left", "()I"⟩
abbrev cX7_isOpen_ : ByteArray := prog_9_method_34_code
def yX7_isOpen_ : MethodName := ⟨RX7, "isOpen", "(I)Z"⟩
abbrev cX7_take : ByteArray := prog_9_method_35_code
def yX7_take : MethodName := ⟨RX7, "take", "(I)V"⟩
abbrev cX7_waitsAt : ByteArray := prog_9_method_36_code
def yX7_waitsAt : MethodName := ⟨RX7, "waitsAt", "(I)J"⟩
abbrev cX7_windOf : ByteArray := prog_9_method_37_code
def yX7_windOf : MethodName := ⟨RX7, "windOf", "(I)I"⟩
abbrev cX7_behind : ByteArray := prog_9_method_38_code
def yX7_behind : MethodName := ⟨RX7, "behind", "(I)I"⟩
abbrev cX7_dearTiles : ByteArray := prog_9_method_39_code
def yX7_dearTiles : MethodName := ⟨RX7, "dearTiles", "(Z)I"⟩
abbrev cX7_value : ByteArray := prog_9_method_40_code
def yX7_value : MethodName := ⟨RX7, "value", "(IIZ)V"⟩
abbrev cX7_draws : ByteArray := prog_9_method_41_code
def yX7_draws : MethodName := ⟨RX7, "draws", "(IZ)V"⟩
abbrev cX7_deal : ByteArray := prog_9_method_42_code
def yX7_deal : MethodName := ⟨RX7, "deal", "(J)Z"⟩
abbrev cX7_touched : ByteArray := prog_9_method_43_code
def yX7_touched : MethodName := ⟨RX7, "touched", "()V"⟩
abbrev cX7_discard : ByteArray := prog_9_method_44_code
def yX7_discard : MethodName := ⟨RX7, "discard", "(IZ)Z"⟩
abbrev cX7_anySays : ByteArray := prog_9_method_45_code
def yX7_anySays : MethodName := ⟨RX7, "anySays", "()Z"⟩
abbrev cX7_over : ByteArray := prog_9_method_46_code
def yX7_over : MethodName := ⟨RX7, "over", "()V"⟩
abbrev cX7_pass : ByteArray := prog_9_method_47_code
def yX7_pass : MethodName := ⟨RX7, "pass", "()Z"⟩
abbrev cX7_mayClaim : ByteArray := prog_9_method_48_code
def yX7_mayClaim : MethodName := ⟨RX7, "mayClaim", "(I)Z"⟩
abbrev cX7_canDiscard : ByteArray := prog_9_method_49_code
def yX7_canDiscard : MethodName := ⟨RX7, "canDiscard", "(I)Z"⟩
abbrev cX7_lays : ByteArray := prog_9_method_50_code
def yX7_lays : MethodName := ⟨RX7, "lays", "(III)V"⟩
abbrev cX7_claims : ByteArray := prog_9_method_51_code
def yX7_claims : MethodName := ⟨RX7, "claims", "(III)V"⟩
abbrev cX7_run : ByteArray := prog_9_method_52_code
def yX7_run : MethodName := ⟨RX7, "run", "(II)Z"⟩
abbrev cX7_three : ByteArray := prog_9_method_53_code
def yX7_three : MethodName := ⟨RX7, "three", "(I)Z"⟩
abbrev cX7_four : ByteArray := prog_9_method_54_code
def yX7_four : MethodName := ⟨RX7, "four", "(I)Z"⟩
abbrev cX7_mayMake : ByteArray := prog_9_method_55_code
def yX7_mayMake : MethodName := ⟨RX7, "mayMake", "()Z"⟩
abbrev cX7_hide : ByteArray := prog_9_method_56_code
def yX7_hide : MethodName := ⟨RX7, "hide", "(I)Z"⟩
abbrev cX7_add : ByteArray := prog_9_method_57_code
def yX7_add : MethodName := ⟨RX7, "add", "(I)Z"⟩
abbrev cX7_up : ByteArray := prog_9_method_58_code
def yX7_up : MethodName := ⟨RX7, "up", "(I)I"⟩
abbrev cX7_writes : ByteArray := prog_9_method_59_code
def yX7_writes : MethodName := ⟨RX7, "writes", "(IIII)V"⟩
abbrev cX7_pays : ByteArray := prog_9_method_60_code
def yX7_pays : MethodName := ⟨RX7, "pays", "(III)V"⟩
abbrev cX7_takesBets : ByteArray := prog_9_method_61_code
def yX7_takesBets : MethodName := ⟨RX7, "takesBets", "()V"⟩
abbrev cX7_win : ByteArray := prog_9_method_62_code
def yX7_win : MethodName := ⟨RX7, "win", "()Z"⟩
abbrev cX7_claim : ByteArray := prog_9_method_63_code
def yX7_claim : MethodName := ⟨RX7, "claim", "(I)Z"⟩
abbrev cX7_allWin : ByteArray := prog_9_method_64_code
def yX7_allWin : MethodName := ⟨RX7, "allWin", "()V"⟩
abbrev cX7_nobodyWins : ByteArray := prog_9_method_65_code
def yX7_nobodyWins : MethodName := ⟨RX7, "nobodyWins", "()V"⟩
abbrev cX7_nine : ByteArray := prog_9_method_66_code
def yX7_nine : MethodName := ⟨RX7, "nine", "()Z"⟩
abbrev cX7_ends : ByteArray := prog_9_method_67_code
def yX7_ends : MethodName := ⟨RX7, "ends", "(ZZ)V"⟩
abbrev cX7_hand : ByteArray := prog_9_method_68_code
def yX7_hand : MethodName := ⟨RX7, "hand", "(II)I"⟩
abbrev cX7_laid : ByteArray := prog_9_method_69_code
def yX7_laid : MethodName := ⟨RX7, "laid", "(III)I"⟩
abbrev cX7_river : ByteArray := prog_9_method_70_code
def yX7_river : MethodName := ⟨RX7, "river", "(II)I"⟩
abbrev cX7_waits : ByteArray := prog_9_method_71_code
def yX7_waits : MethodName := ⟨RX7, "waits", "(I)J"⟩
abbrev cX7_seat : ByteArray := prog_9_method_72_code
def yX7_seat : MethodName := ⟨RX7, "seat", "(II)I"⟩
abbrev cX7_won : ByteArray := prog_9_method_73_code
def yX7_won : MethodName := ⟨RX7, "won", "(II)I"⟩
abbrev cX7_forms : ByteArray := prog_9_method_74_code
def yX7_forms : MethodName := ⟨RX7, "forms", "(I)J"⟩
abbrev cX7_count : ByteArray := prog_9_method_75_code
def yX7_count : MethodName := ⟨RX7, "count", "(I)I"⟩
abbrev cX7_wall : ByteArray := prog_9_method_76_code
def yX7_wall : MethodName := ⟨RX7, "wall", "(I)I"⟩
abbrev cX7_clear : ByteArray := prog_9_method_77_code
def yX7_clear : MethodName := ⟨RX7, "clear", "()V"⟩
abbrev cX7_takeDesk : ByteArray := prog_9_method_78_code
def yX7_takeDesk : MethodName := ⟨RX7, "takeDesk", "()V"⟩
abbrev cX7_lay : ByteArray := prog_9_method_79_code
def yX7_lay : MethodName := ⟨RX7, "lay", "(II)Z"⟩
abbrev cX7_set : ByteArray := prog_9_method_80_code
def yX7_set : MethodName := ⟨RX7, "set", "(II)Z"⟩
abbrev cX7_worth : ByteArray := prog_9_method_81_code
def yX7_worth : MethodName := ⟨RX7, "worth", "(IZJII)I"⟩
abbrev cX7_nothing : ByteArray := prog_9_method_82_code
def yX7_nothing : MethodName := ⟨RX7, "nothing", "()V"⟩
abbrev cX7_desk : ByteArray := prog_9_method_83_code
def yX7_desk : MethodName := ⟨RX7, "desk", "(I)I"⟩
abbrev cX7_deskForms : ByteArray := prog_9_method_84_code
def yX7_deskForms : MethodName := ⟨RX7, "deskForms", "()J"⟩
abbrev cX7_deskWaits : ByteArray := prog_9_method_85_code
def yX7_deskWaits : MethodName := ⟨RX7, "deskWaits", "()J"⟩
def RJ13 : String := "java/lang/Long"
def TJ13 : u_T := fun k => match k with
  | _ => ("", "", "", false)
def tyJ13 : Nat → FieldType := fun k => match k with
  | _ => .int
abbrev wsJ130 : List Cond := u_ws RJ13 TJ13 0
theorem nmJ13 : ∀ a, a < 0 → ∀ b, b < 0 → a ≠ b → (TJ13 a).2.1 ≠ (TJ13 b).2.1 := by decide +kernel
theorem tyJ13_ok : ∀ k, k < 0 → parseFieldDescriptor (TJ13 k).2.2.1 = some (tyJ13 k) := by decide +kernel
abbrev cJ13_bitCount_95d88 : ByteArray := prog_11_method_50_code
def yJ13_bitCount_95d88 : MethodName := ⟨RJ13, "bitCount", "(J)I"⟩
def RJ9 : String := "java/lang/Math"
def TJ9 : u_T := fun k => match k with
  | _ => ("", "", "", false)
def tyJ9 : Nat → FieldType := fun k => match k with
  | _ => .int
abbrev wsJ90 : List Cond := u_ws RJ9 TJ9 0
theorem nmJ9 : ∀ a, a < 0 → ∀ b, b < 0 → a ≠ b → (TJ9 a).2.1 ≠ (TJ9 b).2.1 := by decide +kernel
theorem tyJ9_ok : ∀ k, k < 0 → parseFieldDescriptor (TJ9 k).2.2.1 = some (tyJ9 k) := by decide +kernel
abbrev cJ9_max_7cf53 : ByteArray := prog_12_method_65_code
def yJ9_max_7cf53 : MethodName := ⟨RJ9, "max", "(II)I"⟩
abbrev cJ9_min_7cf53 : ByteArray := prog_12_method_69_code
def yJ9_min_7cf53 : MethodName := ⟨RJ9, "min", "(II)I"⟩
def RJ0 : String := "java/lang/String"
def TJ0 : u_T := fun k => match k with
  | _ => ("", "", "", false)
def tyJ0 : Nat → FieldType := fun k => match k with
  | _ => .int
abbrev wsJ00 : List Cond := u_ws RJ0 TJ0 0
theorem nmJ0 : ∀ a, a < 0 → ∀ b, b < 0 → a ≠ b → (TJ0 a).2.1 ≠ (TJ0 b).2.1 := by decide +kernel
theorem tyJ0_ok : ∀ k, k < 0 → parseFieldDescriptor (TJ0 k).2.2.1 = some (tyJ0 k) := by decide +kernel
def RL : String := "TileHouseLaw"
abbrev cL_river : ByteArray := method_3_code
def yL_river : MethodName := ⟨RL, "river", "(LTileHouse;II[J)I"⟩
abbrev cL_wall : ByteArray := method_4_code
def yL_wall : MethodName := ⟨RL, "wall", "(LTileHouse;I[J)I"⟩
abbrev cL_law : ByteArray := code
def yL_law : MethodName := ⟨RL, "law", "([I)Z"⟩
def wsX0_hanOf : List Cond := .code yX0_hanOf cX0_hanOf 5 (some .int) :: ([.fieldLink RX0 9 "TileHouse$Forms" "HAN" "[I", .fieldLink RX0 13 "TileHouse$Forms" "OPEN_HAN" "[I"])
def wsX0_baseOf : List Cond := .code yX0_baseOf cX0_baseOf 3 (some .int) :: ([])
def wsX1_init : List Cond := .code yX1_init cX1_init 1 none :: ([.methodLink RX1 3 objectInit, .instanceMethod objectInit, .code objectInit ⟨#[0xb1]⟩ 1 none, .arrayClass .int, .fieldLink RX1 9 "TileHouse$Judge" "sort" "[I", .fieldLink RX1 15 "TileHouse$Judge" "low" "[I", .fieldLink RX1 18 "TileHouse$Judge" "mayBeThrees" "[I"] ++ wsX10)
def wsX3_size : List Cond := .code yX3_size cX3_size 1 (some .int) :: ([.fieldLink RX3 28 "TileHouse$Tiles" "loose" "I", .fieldLink RX3 24 "TileHouse$Tiles" "laidDown" "I"] ++ wsX30)
def wsX6_isKind : List Cond := .code yX6_isKind cX6_isKind 1 (some .boolean) :: ([])
def wsX3_free : List Cond := .code yX3_free cX3_free 2 (some .int) :: ([.fieldLink RX3 9 "TileHouse$Tiles" "free" "[I", .static yX6_isKind, .initialized RX6, .code yX6_isKind cX6_isKind 1 (some .boolean)] ++ wsX30)
def wsX3_isOpen : List Cond := .code yX3_isOpen cX3_isOpen 2 (some .boolean) :: ([.fieldLink RX3 24 "TileHouse$Tiles" "laidDown" "I", .fieldLink RX3 18 "TileHouse$Tiles" "sort" "[I"] ++ wsX30)
def wsX1_toldOnes : List Cond := .code yX1_toldOnes cX1_toldOnes 5 (some .long) :: ([.constantLong RX1 124 (13194139533559), .constantLong RX1 126 (-2), .fieldLink RX1 55 "TileHouse$Judge" "drawn" "Z", .constantLong RX1 128 (8)] ++ wsX10)
def wsX3_kinds : List Cond := .code yX3_kinds cX3_kinds 4 (some .long) :: ([.fieldLink RX3 15 "TileHouse$Tiles" "all" "[I"] ++ wsX30)
def wsX1_bit : List Cond := .code yX1_bit cX1_bit 2 (some .long) :: ([])
def wsX1_isNineGates : List Cond := .code yX1_isNineGates cX1_isNineGates 4 (some .boolean) :: ([.fieldLink RX1 48 "TileHouse$Judge" "tiles" "LTileHouse$Tiles;", .fieldLink RX1 151 "TileHouse$Tiles" "laidDown" "I", .constantLong RX1 132 (511), .methodLink RX1 44 yX3_free, .instanceMethod yX3_free, .selects RX3 yX3_free yX3_free, .initialized RX3, .code yX3_free cX3_free 2 (some .int), .fieldLink RX3 9 "TileHouse$Tiles" "free" "[I", .static yX6_isKind, .initialized RX6, .code yX6_isKind cX6_isKind 1 (some .boolean)] ++ wsX10 ++ wsX30)
def wsX1_tileForms_r1 : List Cond := [Cond.constantLong RX1 130 (17045651456), Cond.constantLong RX1 132 (511), Cond.constantLong RX1 134 (17113154305), Cond.constantLong RX1 140 (-17113154306), Cond.constantLong RX1 142 (-17045651457), Cond.constantLong RX1 144 (-67502850), Cond.constantLong RX1 146 (-4340580353), Cond.methodLink RX1 136 yX1_bit, Cond.static yX1_bit, Cond.initialized RX1, Cond.code yX1_bit cX1_bit 2 (some .long), Cond.methodLink RX1 148 yX1_isNineGates, Cond.instanceMethod yX1_isNineGates, Cond.selects RX1 yX1_isNineGates yX1_isNineGates, Cond.code yX1_isNineGates cX1_isNineGates 4 (some .boolean), Cond.fieldLink RX1 48 "TileHouse$Judge" "tiles" "LTileHouse$Tiles;", Cond.fieldLink RX1 151 "TileHouse$Tiles" "laidDown" "I", Cond.methodLink RX1 44 yX3_free, Cond.instanceMethod yX3_free, Cond.selects RX3 yX3_free yX3_free, Cond.initialized RX3, Cond.code yX3_free cX3_free 2 (some .int), Cond.fieldLink RX3 9 "TileHouse$Tiles" "free" "[I", Cond.static yX6_isKind]
def wsX1_tileForms_r2 : List Cond := [Cond.initialized RX6, Cond.code yX6_isKind cX6_isKind 1 (some .boolean)]
def wsX1_tileForms : List Cond := .code yX1_tileForms cX1_tileForms 6 (some .long) :: ((wsX1_tileForms_r1 ++ wsX1_tileForms_r2) ++ wsX10 ++ wsX30)
def wsX3_isSevenPairs : List Cond := .code yX3_isSevenPairs cX3_isSevenPairs 2 (some .boolean) :: ([.fieldLink RX3 9 "TileHouse$Tiles" "free" "[I", .fieldLink RX3 24 "TileHouse$Tiles" "laidDown" "I", .fieldLink RX3 28 "TileHouse$Tiles" "loose" "I"] ++ wsX30)
def wsJ13_bitCount_95d88 : List Cond := .code yJ13_bitCount_95d88 cJ13_bitCount_95d88 2 (some .int) :: ([.constantLong RJ13 314 (6148914691236517205), .constantLong RJ13 316 (3689348814741910323), .constantLong RJ13 318 (1085102592571150095)])
def wsX1_isBetter : List Cond := .code yX1_isBetter cX1_isBetter 6 (some .boolean) :: ([.fieldLink RX1 21 "TileHouse$Judge" "base" "I", .fieldLink RX1 25 "TileHouse$Judge" "han" "I", .fieldLink RX1 28 "TileHouse$Judge" "fu" "I", .fieldLink RX1 31 "TileHouse$Judge" "best" "J"] ++ wsX10)
def wsX1_offer_r1 : List Cond := [Cond.fieldLink RX1 35 "TileHouse$Judge" "ways" "I", Cond.fieldLink RX1 63 "TileHouse$Judge" "open" "Z", Cond.constantLong RX1 221 (-268437008), Cond.constantLong RX1 223 (17587891077120), Cond.fieldLink RX1 72 "TileHouse$Judge" "dear" "I", Cond.fieldLink RX1 21 "TileHouse$Judge" "base" "I", Cond.fieldLink RX1 25 "TileHouse$Judge" "han" "I", Cond.fieldLink RX1 28 "TileHouse$Judge" "fu" "I", Cond.fieldLink RX1 31 "TileHouse$Judge" "best" "J", Cond.methodLink RX1 189 yJ13_bitCount_95d88, Cond.static yJ13_bitCount_95d88, Cond.initialized RJ13, Cond.code yJ13_bitCount_95d88 cJ13_bitCount_95d88 2 (some .int), Cond.constantLong RJ13 314 (6148914691236517205), Cond.constantLong RJ13 316 (3689348814741910323), Cond.constantLong RJ13 318 (1085102592571150095), Cond.methodLink RX1 225 yX0_hanOf, Cond.static yX0_hanOf, Cond.initialized RX0, Cond.code yX0_hanOf cX0_hanOf 5 (some .int), Cond.fieldLink RX0 9 "TileHouse$Forms" "HAN" "[I", Cond.fieldLink RX0 13 "TileHouse$Forms" "OPEN_HAN" "[I", Cond.methodLink RX1 229 yX0_baseOf, Cond.static yX0_baseOf]
def wsX1_offer_r2 : List Cond := [Cond.code yX0_baseOf cX0_baseOf 3 (some .int), Cond.methodLink RX1 232 yX1_isBetter, Cond.instanceMethod yX1_isBetter, Cond.selects RX1 yX1_isBetter yX1_isBetter, Cond.initialized RX1, Cond.code yX1_isBetter cX1_isBetter 6 (some .boolean)]
def wsX1_offer : List Cond := .code yX1_offer cX1_offer 10 none :: ((wsX1_offer_r1 ++ wsX1_offer_r2) ++ wsX10)
def wsX3_isThirteen : List Cond := .code yX3_isThirteen cX3_isThirteen 1 (some .boolean) :: ([.fieldLink RX3 24 "TileHouse$Tiles" "laidDown" "I", .fieldLink RX3 28 "TileHouse$Tiles" "loose" "I", .constantLong RX3 69 (17113154305), .methodLink RX3 65 yX3_kinds, .instanceMethod yX3_kinds, .selects RX3 yX3_kinds yX3_kinds, .initialized RX3, .code yX3_kinds cX3_kinds 4 (some .long), .fieldLink RX3 15 "TileHouse$Tiles" "all" "[I"] ++ wsX30)
def wsX1_findThrees : List Cond := .code yX1_findThrees cX1_findThrees 3 (some .int) :: ([.fieldLink RX1 48 "TileHouse$Judge" "tiles" "LTileHouse$Tiles;", .fieldLink RX1 108 "TileHouse$Tiles" "free" "[I", .fieldLink RX1 105 "TileHouse$Judge" "pair" "I", .fieldLink RX1 18 "TileHouse$Judge" "mayBeThrees" "[I"] ++ wsX10 ++ wsX30)
def wsX1_chosenThrees : List Cond := .code yX1_chosenThrees cX1_chosenThrees 5 (some .long) :: ([.fieldLink RX1 18 "TileHouse$Judge" "mayBeThrees" "[I"] ++ wsX10)
def wsX6_holds : List Cond := .code yX6_holds cX6_holds 3 (some .boolean) :: ([])
def wsX6_startsRun : List Cond := .code yX6_startsRun cX6_startsRun 1 (some .boolean) :: ([])
def wsX1_fillWay : List Cond := .code yX1_fillWay cX1_fillWay 10 (some .boolean) :: ([.fieldLink RX1 48 "TileHouse$Judge" "tiles" "LTileHouse$Tiles;", .fieldLink RX1 151 "TileHouse$Tiles" "laidDown" "I", .fieldLink RX1 9 "TileHouse$Judge" "sort" "[I", .fieldLink RX1 154 "TileHouse$Tiles" "sort" "[I", .fieldLink RX1 15 "TileHouse$Judge" "low" "[I", .fieldLink RX1 155 "TileHouse$Tiles" "low" "[I", .fieldLink RX1 108 "TileHouse$Tiles" "free" "[I", .fieldLink RX1 105 "TileHouse$Judge" "pair" "I", .static yX6_holds, .initialized RX6, .code yX6_holds cX6_holds 3 (some .boolean), .static yX6_startsRun, .code yX6_startsRun cX6_startsRun 1 (some .boolean)] ++ wsX10 ++ wsX30)
def wsX1_likeRuns : List Cond := .code yX1_likeRuns cX1_likeRuns 5 (some .long) :: ([.fieldLink RX1 9 "TileHouse$Judge" "sort" "[I", .fieldLink RX1 15 "TileHouse$Judge" "low" "[I", .methodLink RX1 136 yX1_bit, .static yX1_bit, .initialized RX1, .code yX1_bit cX1_bit 2 (some .long)] ++ wsX10)
def wsX1_setForms : List Cond := .code yX1_setForms cX1_setForms 5 (some .long) :: ([.fieldLink RX1 9 "TileHouse$Judge" "sort" "[I", .fieldLink RX1 164 "TileHouse$Judge" "runs" "J", .constantLong RX1 185 (73), .fieldLink RX1 167 "TileHouse$Judge" "threes" "J", .constantLong RX1 187 (15032385536), .constantLong RX1 195 (2013265920), .fieldLink RX1 66 "TileHouse$Judge" "seatWind" "I", .fieldLink RX1 69 "TileHouse$Judge" "roundWind" "I", .constantLong RX1 132 (511), .fieldLink RX1 105 "TileHouse$Judge" "pair" "I", .methodLink RX1 189 yJ13_bitCount_95d88, .static yJ13_bitCount_95d88, .initialized RJ13, .code yJ13_bitCount_95d88 cJ13_bitCount_95d88 2 (some .int), .constantLong RJ13 314 (6148914691236517205), .constantLong RJ13 316 (3689348814741910323), .constantLong RJ13 318 (1085102592571150095), .static yX6_holds, .initialized RX6, .code yX6_holds cX6_holds 3 (some .boolean), .methodLink RX1 136 yX1_bit, .static yX1_bit, .initialized RX1, .code yX1_bit cX1_bit 2 (some .long)] ++ wsX10)
def wsX1_endForms : List Cond := .code yX1_endForms cX1_endForms 7 (some .long) :: ([.constantLong RX1 134 (17113154305), .fieldLink RX1 105 "TileHouse$Judge" "pair" "I", .constantLong RX1 197 (67502849), .constantLong RX1 130 (17045651456), .fieldLink RX1 167 "TileHouse$Judge" "threes" "J", .fieldLink RX1 9 "TileHouse$Judge" "sort" "[I", .constantLong RX1 199 (7), .fieldLink RX1 15 "TileHouse$Judge" "low" "[I", .fieldLink RX1 164 "TileHouse$Judge" "runs" "J", .static yX6_holds, .initialized RX6, .code yX6_holds cX6_holds 3 (some .boolean), .methodLink RX1 136 yX1_bit, .static yX1_bit, .initialized RX1, .code yX1_bit cX1_bit 2 (some .long)] ++ wsX10)
def wsX1_mayHaveCompleted : List Cond := .code yX1_mayHaveCompleted cX1_mayHaveCompleted 4 (some .boolean) :: ([.fieldLink RX1 9 "TileHouse$Judge" "sort" "[I", .fieldLink RX1 15 "TileHouse$Judge" "low" "[I", .fieldLink RX1 52 "TileHouse$Judge" "winner" "I", .fieldLink RX1 48 "TileHouse$Judge" "tiles" "LTileHouse$Tiles;", .fieldLink RX1 151 "TileHouse$Tiles" "laidDown" "I"] ++ wsX10 ++ wsX30)
def wsX1_isHidden : List Cond := .code yX1_isHidden cX1_isHidden 3 (some .boolean) :: ([.fieldLink RX1 48 "TileHouse$Judge" "tiles" "LTileHouse$Tiles;", .fieldLink RX1 151 "TileHouse$Tiles" "laidDown" "I", .fieldLink RX1 9 "TileHouse$Judge" "sort" "[I", .fieldLink RX1 55 "TileHouse$Judge" "drawn" "Z"] ++ wsX10 ++ wsX30)
def wsX1_pairFu : List Cond := .code yX1_pairFu cX1_pairFu 1 (some .int) :: ([.fieldLink RX1 105 "TileHouse$Judge" "pair" "I", .fieldLink RX1 66 "TileHouse$Judge" "seatWind" "I", .fieldLink RX1 69 "TileHouse$Judge" "roundWind" "I"] ++ wsX10)
def wsX1_waitFu : List Cond := .code yX1_waitFu cX1_waitFu 4 (some .int) :: ([.fieldLink RX1 9 "TileHouse$Judge" "sort" "[I", .fieldLink RX1 15 "TileHouse$Judge" "low" "[I", .fieldLink RX1 52 "TileHouse$Judge" "winner" "I"] ++ wsX10)
def wsX1_fuOf_r1 : List Cond := [Cond.fieldLink RX1 55 "TileHouse$Judge" "drawn" "Z", Cond.fieldLink RX1 63 "TileHouse$Judge" "open" "Z", Cond.fieldLink RX1 9 "TileHouse$Judge" "sort" "[I", Cond.constantLong RX1 134 (17113154305), Cond.fieldLink RX1 15 "TileHouse$Judge" "low" "[I", Cond.methodLink RX1 215 Lib.Math.max.name, Cond.static Lib.Math.max.name, Cond.initialized "java/lang/Math", Cond.code Lib.Math.max.name Lib.Math.max.code 2 (some .int), Cond.methodLink RX1 205 yX1_pairFu, Cond.instanceMethod yX1_pairFu, Cond.selects RX1 yX1_pairFu yX1_pairFu, Cond.initialized RX1, Cond.code yX1_pairFu cX1_pairFu 1 (some .int), Cond.fieldLink RX1 105 "TileHouse$Judge" "pair" "I", Cond.fieldLink RX1 66 "TileHouse$Judge" "seatWind" "I", Cond.fieldLink RX1 69 "TileHouse$Judge" "roundWind" "I", Cond.methodLink RX1 208 yX1_waitFu, Cond.instanceMethod yX1_waitFu, Cond.selects RX1 yX1_waitFu yX1_waitFu, Cond.code yX1_waitFu cX1_waitFu 4 (some .int), Cond.fieldLink RX1 52 "TileHouse$Judge" "winner" "I", Cond.methodLink RX1 201 yX1_isHidden, Cond.instanceMethod yX1_isHidden]
def wsX1_fuOf_r2 : List Cond := [Cond.selects RX1 yX1_isHidden yX1_isHidden, Cond.code yX1_isHidden cX1_isHidden 3 (some .boolean), Cond.fieldLink RX1 48 "TileHouse$Judge" "tiles" "LTileHouse$Tiles;", Cond.fieldLink RX1 151 "TileHouse$Tiles" "laidDown" "I", Cond.static yX6_holds, Cond.initialized RX6, Cond.code yX6_holds cX6_holds 3 (some .boolean)]
def wsX1_fuOf : List Cond := .code yX1_fuOf cX1_fuOf 6 (some .int) :: ((wsX1_fuOf_r1 ++ wsX1_fuOf_r2) ++ wsX10 ++ wsX30)
def wsX1_weighCompleted_r1 : List Cond := [Cond.fieldLink RX1 9 "TileHouse$Judge" "sort" "[I", Cond.fieldLink RX1 167 "TileHouse$Judge" "threes" "J", Cond.fieldLink RX1 63 "TileHouse$Judge" "open" "Z", Cond.methodLink RX1 201 yX1_isHidden, Cond.instanceMethod yX1_isHidden, Cond.selects RX1 yX1_isHidden yX1_isHidden, Cond.initialized RX1, Cond.code yX1_isHidden cX1_isHidden 3 (some .boolean), Cond.fieldLink RX1 48 "TileHouse$Judge" "tiles" "LTileHouse$Tiles;", Cond.fieldLink RX1 151 "TileHouse$Tiles" "laidDown" "I", Cond.fieldLink RX1 55 "TileHouse$Judge" "drawn" "Z", Cond.methodLink RX1 205 yX1_pairFu, Cond.instanceMethod yX1_pairFu, Cond.selects RX1 yX1_pairFu yX1_pairFu, Cond.code yX1_pairFu cX1_pairFu 1 (some .int), Cond.fieldLink RX1 105 "TileHouse$Judge" "pair" "I", Cond.fieldLink RX1 66 "TileHouse$Judge" "seatWind" "I", Cond.fieldLink RX1 69 "TileHouse$Judge" "roundWind" "I", Cond.methodLink RX1 208 yX1_waitFu, Cond.instanceMethod yX1_waitFu, Cond.selects RX1 yX1_waitFu yX1_waitFu, Cond.code yX1_waitFu cX1_waitFu 4 (some .int), Cond.fieldLink RX1 15 "TileHouse$Judge" "low" "[I", Cond.fieldLink RX1 52 "TileHouse$Judge" "winner" "I"]
def wsX1_weighCompleted_r2 : List Cond := [Cond.methodLink RX1 136 yX1_bit, Cond.static yX1_bit, Cond.code yX1_bit cX1_bit 2 (some .long), Cond.methodLink RX1 211 yX1_fuOf, Cond.instanceMethod yX1_fuOf, Cond.selects RX1 yX1_fuOf yX1_fuOf, Cond.code yX1_fuOf cX1_fuOf 6 (some .int), Cond.constantLong RX1 134 (17113154305), Cond.methodLink RX1 215 Lib.Math.max.name, Cond.static Lib.Math.max.name, Cond.initialized "java/lang/Math", Cond.code Lib.Math.max.name Lib.Math.max.code 2 (some .int), Cond.static yX6_holds, Cond.initialized RX6, Cond.code yX6_holds cX6_holds 3 (some .boolean), Cond.methodLink RX1 96 yX1_offer, Cond.instanceMethod yX1_offer, Cond.selects RX1 yX1_offer yX1_offer, Cond.code yX1_offer cX1_offer 10 none, Cond.fieldLink RX1 35 "TileHouse$Judge" "ways" "I", Cond.constantLong RX1 221 (-268437008), Cond.constantLong RX1 223 (17587891077120), Cond.fieldLink RX1 72 "TileHouse$Judge" "dear" "I", Cond.fieldLink RX1 21 "TileHouse$Judge" "base" "I"]
def wsX1_weighCompleted_r3 : List Cond := [Cond.fieldLink RX1 25 "TileHouse$Judge" "han" "I", Cond.fieldLink RX1 28 "TileHouse$Judge" "fu" "I", Cond.fieldLink RX1 31 "TileHouse$Judge" "best" "J", Cond.methodLink RX1 189 yJ13_bitCount_95d88, Cond.static yJ13_bitCount_95d88, Cond.initialized RJ13, Cond.code yJ13_bitCount_95d88 cJ13_bitCount_95d88 2 (some .int), Cond.constantLong RJ13 314 (6148914691236517205), Cond.constantLong RJ13 316 (3689348814741910323), Cond.constantLong RJ13 318 (1085102592571150095), Cond.methodLink RX1 225 yX0_hanOf, Cond.static yX0_hanOf, Cond.initialized RX0, Cond.code yX0_hanOf cX0_hanOf 5 (some .int), Cond.fieldLink RX0 9 "TileHouse$Forms" "HAN" "[I", Cond.fieldLink RX0 13 "TileHouse$Forms" "OPEN_HAN" "[I", Cond.methodLink RX1 229 yX0_baseOf, Cond.static yX0_baseOf, Cond.code yX0_baseOf cX0_baseOf 3 (some .int), Cond.methodLink RX1 232 yX1_isBetter, Cond.instanceMethod yX1_isBetter, Cond.selects RX1 yX1_isBetter yX1_isBetter, Cond.code yX1_isBetter cX1_isBetter 6 (some .boolean)]
def wsX1_weighCompleted : List Cond := .code yX1_weighCompleted cX1_weighCompleted 8 none :: ((wsX1_weighCompleted_r1 ++ (wsX1_weighCompleted_r2 ++ wsX1_weighCompleted_r3)) ++ wsX10 ++ wsX30)
def wsX1_weighWay_r1 : List Cond := [Cond.fieldLink RX1 164 "TileHouse$Judge" "runs" "J", Cond.fieldLink RX1 167 "TileHouse$Judge" "threes" "J", Cond.fieldLink RX1 9 "TileHouse$Judge" "sort" "[I", Cond.fieldLink RX1 15 "TileHouse$Judge" "low" "[I", Cond.fieldLink RX1 86 "TileHouse$Judge" "shared" "J", Cond.fieldLink RX1 48 "TileHouse$Judge" "tiles" "LTileHouse$Tiles;", Cond.fieldLink RX1 151 "TileHouse$Tiles" "laidDown" "I", Cond.fieldLink RX1 105 "TileHouse$Judge" "pair" "I", Cond.fieldLink RX1 52 "TileHouse$Judge" "winner" "I", Cond.methodLink RX1 170 yX1_likeRuns, Cond.instanceMethod yX1_likeRuns, Cond.selects RX1 yX1_likeRuns yX1_likeRuns, Cond.initialized RX1, Cond.code yX1_likeRuns cX1_likeRuns 5 (some .long), Cond.methodLink RX1 136 yX1_bit, Cond.static yX1_bit, Cond.code yX1_bit cX1_bit 2 (some .long), Cond.methodLink RX1 173 yX1_setForms, Cond.instanceMethod yX1_setForms, Cond.selects RX1 yX1_setForms yX1_setForms, Cond.code yX1_setForms cX1_setForms 5 (some .long), Cond.constantLong RX1 185 (73), Cond.constantLong RX1 187 (15032385536), Cond.constantLong RX1 195 (2013265920)]
def wsX1_weighWay_r2 : List Cond := [Cond.fieldLink RX1 66 "TileHouse$Judge" "seatWind" "I", Cond.fieldLink RX1 69 "TileHouse$Judge" "roundWind" "I", Cond.constantLong RX1 132 (511), Cond.methodLink RX1 189 yJ13_bitCount_95d88, Cond.static yJ13_bitCount_95d88, Cond.initialized RJ13, Cond.code yJ13_bitCount_95d88 cJ13_bitCount_95d88 2 (some .int), Cond.constantLong RJ13 314 (6148914691236517205), Cond.constantLong RJ13 316 (3689348814741910323), Cond.constantLong RJ13 318 (1085102592571150095), Cond.static yX6_holds, Cond.initialized RX6, Cond.code yX6_holds cX6_holds 3 (some .boolean), Cond.methodLink RX1 176 yX1_endForms, Cond.instanceMethod yX1_endForms, Cond.selects RX1 yX1_endForms yX1_endForms, Cond.code yX1_endForms cX1_endForms 7 (some .long), Cond.constantLong RX1 134 (17113154305), Cond.constantLong RX1 197 (67502849), Cond.constantLong RX1 130 (17045651456), Cond.constantLong RX1 199 (7), Cond.methodLink RX1 179 yX1_mayHaveCompleted, Cond.instanceMethod yX1_mayHaveCompleted, Cond.selects RX1 yX1_mayHaveCompleted yX1_mayHaveCompleted]
def wsX1_weighWay_r3 : List Cond := [Cond.code yX1_mayHaveCompleted cX1_mayHaveCompleted 4 (some .boolean), Cond.methodLink RX1 182 yX1_weighCompleted, Cond.instanceMethod yX1_weighCompleted, Cond.selects RX1 yX1_weighCompleted yX1_weighCompleted, Cond.code yX1_weighCompleted cX1_weighCompleted 8 none, Cond.fieldLink RX1 63 "TileHouse$Judge" "open" "Z", Cond.methodLink RX1 201 yX1_isHidden, Cond.instanceMethod yX1_isHidden, Cond.selects RX1 yX1_isHidden yX1_isHidden, Cond.code yX1_isHidden cX1_isHidden 3 (some .boolean), Cond.fieldLink RX1 55 "TileHouse$Judge" "drawn" "Z", Cond.methodLink RX1 205 yX1_pairFu, Cond.instanceMethod yX1_pairFu, Cond.selects RX1 yX1_pairFu yX1_pairFu, Cond.code yX1_pairFu cX1_pairFu 1 (some .int), Cond.methodLink RX1 208 yX1_waitFu, Cond.instanceMethod yX1_waitFu, Cond.selects RX1 yX1_waitFu yX1_waitFu, Cond.code yX1_waitFu cX1_waitFu 4 (some .int), Cond.methodLink RX1 211 yX1_fuOf, Cond.instanceMethod yX1_fuOf, Cond.selects RX1 yX1_fuOf yX1_fuOf, Cond.code yX1_fuOf cX1_fuOf 6 (some .int), Cond.methodLink RX1 215 Lib.Math.max.name]
def wsX1_weighWay_r4 : List Cond := [Cond.static Lib.Math.max.name, Cond.initialized "java/lang/Math", Cond.code Lib.Math.max.name Lib.Math.max.code 2 (some .int), Cond.methodLink RX1 96 yX1_offer, Cond.instanceMethod yX1_offer, Cond.selects RX1 yX1_offer yX1_offer, Cond.code yX1_offer cX1_offer 10 none, Cond.fieldLink RX1 35 "TileHouse$Judge" "ways" "I", Cond.constantLong RX1 221 (-268437008), Cond.constantLong RX1 223 (17587891077120), Cond.fieldLink RX1 72 "TileHouse$Judge" "dear" "I", Cond.fieldLink RX1 21 "TileHouse$Judge" "base" "I", Cond.fieldLink RX1 25 "TileHouse$Judge" "han" "I", Cond.fieldLink RX1 28 "TileHouse$Judge" "fu" "I", Cond.fieldLink RX1 31 "TileHouse$Judge" "best" "J", Cond.methodLink RX1 225 yX0_hanOf, Cond.static yX0_hanOf, Cond.initialized RX0, Cond.code yX0_hanOf cX0_hanOf 5 (some .int), Cond.fieldLink RX0 9 "TileHouse$Forms" "HAN" "[I", Cond.fieldLink RX0 13 "TileHouse$Forms" "OPEN_HAN" "[I", Cond.methodLink RX1 229 yX0_baseOf, Cond.static yX0_baseOf, Cond.code yX0_baseOf cX0_baseOf 3 (some .int)]
def wsX1_weighWay_r5 : List Cond := [Cond.methodLink RX1 232 yX1_isBetter, Cond.instanceMethod yX1_isBetter, Cond.selects RX1 yX1_isBetter yX1_isBetter, Cond.code yX1_isBetter cX1_isBetter 6 (some .boolean)]
def wsX1_weighWay : List Cond := .code yX1_weighWay cX1_weighWay 4 none :: ((wsX1_weighWay_r1 ++ (wsX1_weighWay_r2 ++ (wsX1_weighWay_r3 ++ (wsX1_weighWay_r4 ++ wsX1_weighWay_r5)))) ++ wsX10 ++ wsX30)
def wsX1_judge_r1 : List Cond := [Cond.fieldLink RX1 21 "TileHouse$Judge" "base" "I", Cond.fieldLink RX1 25 "TileHouse$Judge" "han" "I", Cond.fieldLink RX1 28 "TileHouse$Judge" "fu" "I", Cond.fieldLink RX1 31 "TileHouse$Judge" "best" "J", Cond.fieldLink RX1 35 "TileHouse$Judge" "ways" "I", Cond.fieldLink RX1 48 "TileHouse$Judge" "tiles" "LTileHouse$Tiles;", Cond.fieldLink RX1 52 "TileHouse$Judge" "winner" "I", Cond.fieldLink RX1 55 "TileHouse$Judge" "drawn" "Z", Cond.fieldLink RX1 63 "TileHouse$Judge" "open" "Z", Cond.fieldLink RX1 66 "TileHouse$Judge" "seatWind" "I", Cond.fieldLink RX1 69 "TileHouse$Judge" "roundWind" "I", Cond.fieldLink RX1 72 "TileHouse$Judge" "dear" "I", Cond.fieldLink RX1 86 "TileHouse$Judge" "shared" "J", Cond.constantLong RX1 94 (65536), Cond.constantLong RX1 103 (4294967296), Cond.fieldLink RX1 105 "TileHouse$Judge" "pair" "I", Cond.fieldLink RX1 108 "TileHouse$Tiles" "free" "[I", Cond.methodLink RX1 38 yX3_size, Cond.instanceMethod yX3_size, Cond.selects RX3 yX3_size yX3_size, Cond.initialized RX3, Cond.code yX3_size cX3_size 1 (some .int), Cond.fieldLink RX3 28 "TileHouse$Tiles" "loose" "I", Cond.fieldLink RX3 24 "TileHouse$Tiles" "laidDown" "I"]
def wsX1_judge_r2 : List Cond := [Cond.methodLink RX1 44 yX3_free, Cond.instanceMethod yX3_free, Cond.selects RX3 yX3_free yX3_free, Cond.code yX3_free cX3_free 2 (some .int), Cond.fieldLink RX3 9 "TileHouse$Tiles" "free" "[I", Cond.static yX6_isKind, Cond.initialized RX6, Cond.code yX6_isKind cX6_isKind 1 (some .boolean), Cond.methodLink RX1 59 yX3_isOpen, Cond.instanceMethod yX3_isOpen, Cond.selects RX3 yX3_isOpen yX3_isOpen, Cond.code yX3_isOpen cX3_isOpen 2 (some .boolean), Cond.fieldLink RX3 18 "TileHouse$Tiles" "sort" "[I", Cond.methodLink RX1 75 yX1_toldOnes, Cond.instanceMethod yX1_toldOnes, Cond.selects RX1 yX1_toldOnes yX1_toldOnes, Cond.initialized RX1, Cond.code yX1_toldOnes cX1_toldOnes 5 (some .long), Cond.constantLong RX1 124 (13194139533559), Cond.constantLong RX1 126 (-2), Cond.constantLong RX1 128 (8), Cond.methodLink RX1 79 yX3_kinds, Cond.instanceMethod yX3_kinds, Cond.selects RX3 yX3_kinds yX3_kinds]
def wsX1_judge_r3 : List Cond := [Cond.code yX3_kinds cX3_kinds 4 (some .long), Cond.fieldLink RX3 15 "TileHouse$Tiles" "all" "[I", Cond.methodLink RX1 83 yX1_tileForms, Cond.instanceMethod yX1_tileForms, Cond.selects RX1 yX1_tileForms yX1_tileForms, Cond.code yX1_tileForms cX1_tileForms 6 (some .long), Cond.constantLong RX1 130 (17045651456), Cond.constantLong RX1 132 (511), Cond.constantLong RX1 134 (17113154305), Cond.constantLong RX1 140 (-17113154306), Cond.constantLong RX1 142 (-17045651457), Cond.constantLong RX1 144 (-67502850), Cond.constantLong RX1 146 (-4340580353), Cond.methodLink RX1 136 yX1_bit, Cond.static yX1_bit, Cond.code yX1_bit cX1_bit 2 (some .long), Cond.methodLink RX1 148 yX1_isNineGates, Cond.instanceMethod yX1_isNineGates, Cond.selects RX1 yX1_isNineGates yX1_isNineGates, Cond.code yX1_isNineGates cX1_isNineGates 4 (some .boolean), Cond.fieldLink RX1 151 "TileHouse$Tiles" "laidDown" "I", Cond.methodLink RX1 89 yX3_isSevenPairs, Cond.instanceMethod yX3_isSevenPairs, Cond.selects RX3 yX3_isSevenPairs yX3_isSevenPairs]
def wsX1_judge_r4 : List Cond := [Cond.code yX3_isSevenPairs cX3_isSevenPairs 2 (some .boolean), Cond.methodLink RX1 96 yX1_offer, Cond.instanceMethod yX1_offer, Cond.selects RX1 yX1_offer yX1_offer, Cond.code yX1_offer cX1_offer 10 none, Cond.constantLong RX1 221 (-268437008), Cond.constantLong RX1 223 (17587891077120), Cond.methodLink RX1 189 yJ13_bitCount_95d88, Cond.static yJ13_bitCount_95d88, Cond.initialized RJ13, Cond.code yJ13_bitCount_95d88 cJ13_bitCount_95d88 2 (some .int), Cond.constantLong RJ13 314 (6148914691236517205), Cond.constantLong RJ13 316 (3689348814741910323), Cond.constantLong RJ13 318 (1085102592571150095), Cond.methodLink RX1 225 yX0_hanOf, Cond.static yX0_hanOf, Cond.initialized RX0, Cond.code yX0_hanOf cX0_hanOf 5 (some .int), Cond.fieldLink RX0 9 "TileHouse$Forms" "HAN" "[I", Cond.fieldLink RX0 13 "TileHouse$Forms" "OPEN_HAN" "[I", Cond.methodLink RX1 229 yX0_baseOf, Cond.static yX0_baseOf, Cond.code yX0_baseOf cX0_baseOf 3 (some .int), Cond.methodLink RX1 232 yX1_isBetter]
def wsX1_judge_r5 : List Cond := [Cond.instanceMethod yX1_isBetter, Cond.selects RX1 yX1_isBetter yX1_isBetter, Cond.code yX1_isBetter cX1_isBetter 6 (some .boolean), Cond.methodLink RX1 100 yX3_isThirteen, Cond.instanceMethod yX3_isThirteen, Cond.selects RX3 yX3_isThirteen yX3_isThirteen, Cond.code yX3_isThirteen cX3_isThirteen 1 (some .boolean), Cond.constantLong RX3 69 (17113154305), Cond.methodLink RX3 65 yX3_kinds, Cond.methodLink RX1 110 yX1_findThrees, Cond.instanceMethod yX1_findThrees, Cond.selects RX1 yX1_findThrees yX1_findThrees, Cond.code yX1_findThrees cX1_findThrees 3 (some .int), Cond.fieldLink RX1 18 "TileHouse$Judge" "mayBeThrees" "[I", Cond.methodLink RX1 113 yX1_chosenThrees, Cond.instanceMethod yX1_chosenThrees, Cond.selects RX1 yX1_chosenThrees yX1_chosenThrees, Cond.code yX1_chosenThrees cX1_chosenThrees 5 (some .long), Cond.methodLink RX1 117 yX1_fillWay, Cond.instanceMethod yX1_fillWay, Cond.selects RX1 yX1_fillWay yX1_fillWay, Cond.code yX1_fillWay cX1_fillWay 10 (some .boolean), Cond.fieldLink RX1 9 "TileHouse$Judge" "sort" "[I", Cond.fieldLink RX1 154 "TileHouse$Tiles" "sort" "[I"]
def wsX1_judge_r6 : List Cond := [Cond.fieldLink RX1 15 "TileHouse$Judge" "low" "[I", Cond.fieldLink RX1 155 "TileHouse$Tiles" "low" "[I", Cond.static yX6_holds, Cond.code yX6_holds cX6_holds 3 (some .boolean), Cond.static yX6_startsRun, Cond.code yX6_startsRun cX6_startsRun 1 (some .boolean), Cond.methodLink RX1 121 yX1_weighWay, Cond.instanceMethod yX1_weighWay, Cond.selects RX1 yX1_weighWay yX1_weighWay, Cond.code yX1_weighWay cX1_weighWay 4 none, Cond.fieldLink RX1 164 "TileHouse$Judge" "runs" "J", Cond.fieldLink RX1 167 "TileHouse$Judge" "threes" "J", Cond.methodLink RX1 170 yX1_likeRuns, Cond.instanceMethod yX1_likeRuns, Cond.selects RX1 yX1_likeRuns yX1_likeRuns, Cond.code yX1_likeRuns cX1_likeRuns 5 (some .long), Cond.methodLink RX1 173 yX1_setForms, Cond.instanceMethod yX1_setForms, Cond.selects RX1 yX1_setForms yX1_setForms, Cond.code yX1_setForms cX1_setForms 5 (some .long), Cond.constantLong RX1 185 (73), Cond.constantLong RX1 187 (15032385536), Cond.constantLong RX1 195 (2013265920), Cond.methodLink RX1 176 yX1_endForms]
def wsX1_judge_r7 : List Cond := [Cond.instanceMethod yX1_endForms, Cond.selects RX1 yX1_endForms yX1_endForms, Cond.code yX1_endForms cX1_endForms 7 (some .long), Cond.constantLong RX1 197 (67502849), Cond.constantLong RX1 199 (7), Cond.methodLink RX1 179 yX1_mayHaveCompleted, Cond.instanceMethod yX1_mayHaveCompleted, Cond.selects RX1 yX1_mayHaveCompleted yX1_mayHaveCompleted, Cond.code yX1_mayHaveCompleted cX1_mayHaveCompleted 4 (some .boolean), Cond.methodLink RX1 182 yX1_weighCompleted, Cond.instanceMethod yX1_weighCompleted, Cond.selects RX1 yX1_weighCompleted yX1_weighCompleted, Cond.code yX1_weighCompleted cX1_weighCompleted 8 none, Cond.methodLink RX1 201 yX1_isHidden, Cond.instanceMethod yX1_isHidden, Cond.selects RX1 yX1_isHidden yX1_isHidden, Cond.code yX1_isHidden cX1_isHidden 3 (some .boolean), Cond.methodLink RX1 205 yX1_pairFu, Cond.instanceMethod yX1_pairFu, Cond.selects RX1 yX1_pairFu yX1_pairFu, Cond.code yX1_pairFu cX1_pairFu 1 (some .int), Cond.methodLink RX1 208 yX1_waitFu, Cond.instanceMethod yX1_waitFu, Cond.selects RX1 yX1_waitFu yX1_waitFu]
def wsX1_judge_r8 : List Cond := [Cond.code yX1_waitFu cX1_waitFu 4 (some .int), Cond.methodLink RX1 211 yX1_fuOf, Cond.instanceMethod yX1_fuOf, Cond.selects RX1 yX1_fuOf yX1_fuOf, Cond.code yX1_fuOf cX1_fuOf 6 (some .int), Cond.methodLink RX1 215 Lib.Math.max.name, Cond.static Lib.Math.max.name, Cond.initialized "java/lang/Math", Cond.code Lib.Math.max.name Lib.Math.max.code 2 (some .int)]
def wsX1_judge : List Cond := .code yX1_judge cX1_judge 11 none :: ((wsX1_judge_r1 ++ (wsX1_judge_r2 ++ (wsX1_judge_r3 ++ (wsX1_judge_r4 ++ (wsX1_judge_r5 ++ (wsX1_judge_r6 ++ (wsX1_judge_r7 ++ wsX1_judge_r8))))))) ++ wsX10 ++ wsX30)
def wsX3_init : List Cond := .code yX3_init cX3_init 1 none :: ([.methodLink RX3 3 objectInit, .instanceMethod objectInit, .code objectInit ⟨#[0xb1]⟩ 1 none, .arrayClass .int, .fieldLink RX3 9 "TileHouse$Tiles" "free" "[I", .fieldLink RX3 15 "TileHouse$Tiles" "all" "[I", .fieldLink RX3 18 "TileHouse$Tiles" "sort" "[I", .fieldLink RX3 21 "TileHouse$Tiles" "low" "[I"] ++ wsX30)
def wsX2_init : List Cond := .code yX2_init cX2_init 1 none :: ([.methodLink RX2 3 objectInit, .instanceMethod objectInit, .code objectInit ⟨#[0xb1]⟩ 1 none, .classLink RX2 9 RX3, .instantiable RX3 6, .initialized RX3, .fieldLink RX2 12 "TileHouse$Seat" "tiles" "LTileHouse$Tiles;", .arrayClass .int, .fieldLink RX2 18 "TileHouse$Seat" "thrown" "[I", .fieldLink RX2 22 "TileHouse$Seat" "points" "I", .instanceMethod yX3_init, .code yX3_init cX3_init 1 none, .methodLink RX3 3 objectInit, .fieldLink RX3 9 "TileHouse$Tiles" "free" "[I", .fieldLink RX3 15 "TileHouse$Tiles" "all" "[I", .fieldLink RX3 18 "TileHouse$Tiles" "sort" "[I", .fieldLink RX3 21 "TileHouse$Tiles" "low" "[I"] ++ wsX30 ++ wsX20)
def wsX3_empty : List Cond := .code yX3_empty cX3_empty 2 none :: ([.fieldLink RX3 9 "TileHouse$Tiles" "free" "[I", .fieldLink RX3 15 "TileHouse$Tiles" "all" "[I", .fieldLink RX3 24 "TileHouse$Tiles" "laidDown" "I", .fieldLink RX3 28 "TileHouse$Tiles" "loose" "I"] ++ wsX30)
def wsX2_startHand : List Cond := .code yX2_startHand cX2_startHand 1 none :: ([.fieldLink RX2 12 "TileHouse$Seat" "tiles" "LTileHouse$Tiles;", .fieldLink RX2 29 "TileHouse$Seat" "discards" "I", .fieldLink RX2 32 "TileHouse$Seat" "thrownKinds" "J", .fieldLink RX2 36 "TileHouse$Seat" "bet" "I", .fieldLink RX2 39 "TileHouse$Seat" "owes" "Z", .fieldLink RX2 43 "TileHouse$Seat" "atOnce" "Z", .fieldLink RX2 46 "TileHouse$Seat" "letGo" "Z", .fieldLink RX2 49 "TileHouse$Seat" "says" "Z", .methodLink RX2 26 yX3_empty, .instanceMethod yX3_empty, .selects RX3 yX3_empty yX3_empty, .initialized RX3, .code yX3_empty cX3_empty 2 none, .fieldLink RX3 9 "TileHouse$Tiles" "free" "[I", .fieldLink RX3 15 "TileHouse$Tiles" "all" "[I", .fieldLink RX3 24 "TileHouse$Tiles" "laidDown" "I", .fieldLink RX3 28 "TileHouse$Tiles" "loose" "I"] ++ wsX20 ++ wsX30)
def wsX2_throwTile : List Cond := .code yX2_throwTile cX2_throwTile 2 none :: ([.fieldLink RX2 29 "TileHouse$Seat" "discards" "I", .fieldLink RX2 18 "TileHouse$Seat" "thrown" "[I", .fieldLink RX2 32 "TileHouse$Seat" "thrownKinds" "J"] ++ wsX20)
def wsX2_thrown : List Cond := .code yX2_thrown cX2_thrown 2 (some .int) :: ([.fieldLink RX2 18 "TileHouse$Seat" "thrown" "[I"] ++ wsX20)
def wsX3_all : List Cond := .code yX3_all cX3_all 2 (some .int) :: ([.fieldLink RX3 15 "TileHouse$Tiles" "all" "[I", .static yX6_isKind, .initialized RX6, .code yX6_isKind cX6_isKind 1 (some .boolean)] ++ wsX30)
def wsX3_put : List Cond := .code yX3_put cX3_put 3 none :: ([.fieldLink RX3 9 "TileHouse$Tiles" "free" "[I", .fieldLink RX3 15 "TileHouse$Tiles" "all" "[I", .fieldLink RX3 28 "TileHouse$Tiles" "loose" "I", .static yX6_isKind, .initialized RX6, .code yX6_isKind cX6_isKind 1 (some .boolean)] ++ wsX30)
def wsX3_take : List Cond := .code yX3_take cX3_take 3 none :: ([.methodLink RX3 35 yX3_put, .instanceMethod yX3_put, .selects RX3 yX3_put yX3_put, .initialized RX3, .code yX3_put cX3_put 3 none, .fieldLink RX3 9 "TileHouse$Tiles" "free" "[I", .fieldLink RX3 15 "TileHouse$Tiles" "all" "[I", .fieldLink RX3 28 "TileHouse$Tiles" "loose" "I", .static yX6_isKind, .initialized RX6, .code yX6_isKind cX6_isKind 1 (some .boolean)] ++ wsX30)
def wsX6_tilesOfEach : List Cond := .code yX6_tilesOfEach cX6_tilesOfEach 1 (some .int) :: ([])
def wsX3_layDown : List Cond := .code yX3_layDown cX3_layDown 6 none :: ([.fieldLink RX3 24 "TileHouse$Tiles" "laidDown" "I", .fieldLink RX3 9 "TileHouse$Tiles" "free" "[I", .fieldLink RX3 28 "TileHouse$Tiles" "loose" "I", .fieldLink RX3 18 "TileHouse$Tiles" "sort" "[I", .fieldLink RX3 21 "TileHouse$Tiles" "low" "[I", .static yX6_isKind, .initialized RX6, .code yX6_isKind cX6_isKind 1 (some .boolean), .static yX6_tilesOfEach, .code yX6_tilesOfEach cX6_tilesOfEach 1 (some .int)] ++ wsX30)
def wsX3_addToThree : List Cond := .code yX3_addToThree cX3_addToThree 3 (some .boolean) :: ([.fieldLink RX3 24 "TileHouse$Tiles" "laidDown" "I", .fieldLink RX3 18 "TileHouse$Tiles" "sort" "[I", .fieldLink RX3 21 "TileHouse$Tiles" "low" "[I", .fieldLink RX3 9 "TileHouse$Tiles" "free" "[I", .fieldLink RX3 28 "TileHouse$Tiles" "loose" "I", .methodLink RX3 43 yX3_free, .instanceMethod yX3_free, .selects RX3 yX3_free yX3_free, .initialized RX3, .code yX3_free cX3_free 2 (some .int), .static yX6_isKind, .initialized RX6, .code yX6_isKind cX6_isKind 1 (some .boolean)] ++ wsX30)
def wsX3_splitsBeside : List Cond := .code yX3_splitsBeside cX3_splitsBeside 7 (some .boolean) :: ([.fieldLink RX3 9 "TileHouse$Tiles" "free" "[I", .static yX6_startsRun, .initialized RX6, .code yX6_startsRun cX6_startsRun 1 (some .boolean)] ++ wsX30)
def wsX3_isSetsAndPair : List Cond := .code yX3_isSetsAndPair cX3_isSetsAndPair 2 (some .boolean) :: ([.fieldLink RX3 9 "TileHouse$Tiles" "free" "[I", .methodLink RX3 71 yX3_splitsBeside, .instanceMethod yX3_splitsBeside, .selects RX3 yX3_splitsBeside yX3_splitsBeside, .initialized RX3, .code yX3_splitsBeside cX3_splitsBeside 7 (some .boolean), .static yX6_startsRun, .initialized RX6, .code yX6_startsRun cX6_startsRun 1 (some .boolean)] ++ wsX30)
def wsX3_waitsFor_r1 : List Cond := [Cond.fieldLink RX3 15 "TileHouse$Tiles" "all" "[I", Cond.methodLink RX3 48 yX3_size, Cond.instanceMethod yX3_size, Cond.selects RX3 yX3_size yX3_size, Cond.initialized RX3, Cond.code yX3_size cX3_size 1 (some .int), Cond.fieldLink RX3 28 "TileHouse$Tiles" "loose" "I", Cond.fieldLink RX3 24 "TileHouse$Tiles" "laidDown" "I", Cond.static yX6_isKind, Cond.initialized RX6, Cond.code yX6_isKind cX6_isKind 1 (some .boolean), Cond.methodLink RX3 35 yX3_put, Cond.instanceMethod yX3_put, Cond.selects RX3 yX3_put yX3_put, Cond.code yX3_put cX3_put 3 none, Cond.fieldLink RX3 9 "TileHouse$Tiles" "free" "[I", Cond.methodLink RX3 52 yX3_isSevenPairs, Cond.instanceMethod yX3_isSevenPairs, Cond.selects RX3 yX3_isSevenPairs yX3_isSevenPairs, Cond.code yX3_isSevenPairs cX3_isSevenPairs 2 (some .boolean), Cond.methodLink RX3 56 yX3_isThirteen, Cond.instanceMethod yX3_isThirteen, Cond.selects RX3 yX3_isThirteen yX3_isThirteen, Cond.code yX3_isThirteen cX3_isThirteen 1 (some .boolean)]
def wsX3_waitsFor_r2 : List Cond := [Cond.constantLong RX3 69 (17113154305), Cond.methodLink RX3 65 yX3_kinds, Cond.instanceMethod yX3_kinds, Cond.selects RX3 yX3_kinds yX3_kinds, Cond.code yX3_kinds cX3_kinds 4 (some .long), Cond.methodLink RX3 59 yX3_isSetsAndPair, Cond.instanceMethod yX3_isSetsAndPair, Cond.selects RX3 yX3_isSetsAndPair yX3_isSetsAndPair, Cond.code yX3_isSetsAndPair cX3_isSetsAndPair 2 (some .boolean), Cond.methodLink RX3 71 yX3_splitsBeside, Cond.instanceMethod yX3_splitsBeside, Cond.selects RX3 yX3_splitsBeside yX3_splitsBeside, Cond.code yX3_splitsBeside cX3_splitsBeside 7 (some .boolean), Cond.static yX6_startsRun, Cond.code yX6_startsRun cX6_startsRun 1 (some .boolean), Cond.methodLink RX3 62 yX3_take, Cond.instanceMethod yX3_take, Cond.selects RX3 yX3_take yX3_take, Cond.code yX3_take cX3_take 3 none]
def wsX3_waitsFor : List Cond := .code yX3_waitsFor cX3_waitsFor 3 (some .boolean) :: ((wsX3_waitsFor_r1 ++ wsX3_waitsFor_r2) ++ wsX30)
def wsX3_waiting_r1 : List Cond := [Cond.methodLink RX3 45 yX3_waitsFor, Cond.instanceMethod yX3_waitsFor, Cond.selects RX3 yX3_waitsFor yX3_waitsFor, Cond.initialized RX3, Cond.code yX3_waitsFor cX3_waitsFor 3 (some .boolean), Cond.fieldLink RX3 15 "TileHouse$Tiles" "all" "[I", Cond.methodLink RX3 48 yX3_size, Cond.instanceMethod yX3_size, Cond.selects RX3 yX3_size yX3_size, Cond.code yX3_size cX3_size 1 (some .int), Cond.fieldLink RX3 28 "TileHouse$Tiles" "loose" "I", Cond.fieldLink RX3 24 "TileHouse$Tiles" "laidDown" "I", Cond.static yX6_isKind, Cond.initialized RX6, Cond.code yX6_isKind cX6_isKind 1 (some .boolean), Cond.methodLink RX3 35 yX3_put, Cond.instanceMethod yX3_put, Cond.selects RX3 yX3_put yX3_put, Cond.code yX3_put cX3_put 3 none, Cond.fieldLink RX3 9 "TileHouse$Tiles" "free" "[I", Cond.methodLink RX3 52 yX3_isSevenPairs, Cond.instanceMethod yX3_isSevenPairs, Cond.selects RX3 yX3_isSevenPairs yX3_isSevenPairs, Cond.code yX3_isSevenPairs cX3_isSevenPairs 2 (some .boolean)]
def wsX3_waiting_r2 : List Cond := [Cond.methodLink RX3 56 yX3_isThirteen, Cond.instanceMethod yX3_isThirteen, Cond.selects RX3 yX3_isThirteen yX3_isThirteen, Cond.code yX3_isThirteen cX3_isThirteen 1 (some .boolean), Cond.constantLong RX3 69 (17113154305), Cond.methodLink RX3 65 yX3_kinds, Cond.instanceMethod yX3_kinds, Cond.selects RX3 yX3_kinds yX3_kinds, Cond.code yX3_kinds cX3_kinds 4 (some .long), Cond.methodLink RX3 59 yX3_isSetsAndPair, Cond.instanceMethod yX3_isSetsAndPair, Cond.selects RX3 yX3_isSetsAndPair yX3_isSetsAndPair, Cond.code yX3_isSetsAndPair cX3_isSetsAndPair 2 (some .boolean), Cond.methodLink RX3 71 yX3_splitsBeside, Cond.instanceMethod yX3_splitsBeside, Cond.selects RX3 yX3_splitsBeside yX3_splitsBeside, Cond.code yX3_splitsBeside cX3_splitsBeside 7 (some .boolean), Cond.static yX6_startsRun, Cond.code yX6_startsRun cX6_startsRun 1 (some .boolean), Cond.methodLink RX3 62 yX3_take, Cond.instanceMethod yX3_take, Cond.selects RX3 yX3_take yX3_take, Cond.code yX3_take cX3_take 3 none]
def wsX3_waiting : List Cond := .code yX3_waiting cX3_waiting 4 (some .long) :: ((wsX3_waiting_r1 ++ wsX3_waiting_r2) ++ wsX30)
def wsX4_init : List Cond := .code yX4_init cX4_init 1 none :: ([.methodLink RX4 3 objectInit, .instanceMethod objectInit, .code objectInit ⟨#[0xb1]⟩ 1 none, .arrayClass .int, .fieldLink RX4 11 "TileHouse$Wall" "kinds" "[I"] ++ wsX40)
def wsX4_build : List Cond := .code yX4_build cX4_build 8 none :: ([.fieldLink RX4 11 "TileHouse$Wall" "kinds" "[I", .constantLong RX4 15 (6364136223846793005), .constantLong RX4 17 (1442695040888963407), .fieldLink RX4 19 "TileHouse$Wall" "stands" "Z", .fieldLink RX4 23 "TileHouse$Wall" "next" "I", .fieldLink RX4 27 "TileHouse$Wall" "fours" "I"] ++ wsX40)
def wsX4_kindAt : List Cond := .code yX4_kindAt cX4_kindAt 2 (some .int) :: ([.fieldLink RX4 19 "TileHouse$Wall" "stands" "Z", .fieldLink RX4 11 "TileHouse$Wall" "kinds" "[I"] ++ wsX40)
def wsX4_left : List Cond := .code yX4_left cX4_left 1 (some .int) :: ([.fieldLink RX4 19 "TileHouse$Wall" "stands" "Z", .fieldLink RX4 27 "TileHouse$Wall" "fours" "I", .fieldLink RX4 23 "TileHouse$Wall" "next" "I"] ++ wsX40)
def wsX4_signs : List Cond := .code yX4_signs cX4_signs 1 (some .int) :: ([.fieldLink RX4 19 "TileHouse$Wall" "stands" "Z", .fieldLink RX4 27 "TileHouse$Wall" "fours" "I"] ++ wsX40)
def wsX4_draw : List Cond := .code yX4_draw cX4_draw 1 (some .int) :: ([.fieldLink RX4 23 "TileHouse$Wall" "next" "I", .methodLink RX4 30 yX4_kindAt, .instanceMethod yX4_kindAt, .selects RX4 yX4_kindAt yX4_kindAt, .initialized RX4, .code yX4_kindAt cX4_kindAt 2 (some .int), .fieldLink RX4 19 "TileHouse$Wall" "stands" "Z", .fieldLink RX4 11 "TileHouse$Wall" "kinds" "[I"] ++ wsX40)
def wsX4_drawBehindFour : List Cond := .code yX4_drawBehindFour cX4_drawBehindFour 1 (some .int) :: ([.fieldLink RX4 27 "TileHouse$Wall" "fours" "I", .methodLink RX4 30 yX4_kindAt, .instanceMethod yX4_kindAt, .selects RX4 yX4_kindAt yX4_kindAt, .initialized RX4, .code yX4_kindAt cX4_kindAt 2 (some .int), .fieldLink RX4 19 "TileHouse$Wall" "stands" "Z", .fieldLink RX4 11 "TileHouse$Wall" "kinds" "[I"] ++ wsX40)
def wsX4_behind : List Cond := .code yX4_behind cX4_behind 1 (some .int) :: ([])
def wsX4_dearTiles : List Cond := .code yX4_dearTiles cX4_dearTiles 6 (some .int) :: ([.methodLink RX4 34 yX4_signs, .instanceMethod yX4_signs, .selects RX4 yX4_signs yX4_signs, .initialized RX4, .code yX4_signs cX4_signs 1 (some .int), .fieldLink RX4 19 "TileHouse$Wall" "stands" "Z", .fieldLink RX4 27 "TileHouse$Wall" "fours" "I", .methodLink RX4 30 yX4_kindAt, .instanceMethod yX4_kindAt, .selects RX4 yX4_kindAt yX4_kindAt, .code yX4_kindAt cX4_kindAt 2 (some .int), .fieldLink RX4 11 "TileHouse$Wall" "kinds" "[I", .methodLink RX4 38 yX4_behind, .static yX4_behind, .code yX4_behind cX4_behind 1 (some .int), .methodLink RX4 41 yX3_all, .instanceMethod yX3_all, .selects RX3 yX3_all yX3_all, .initialized RX3, .code yX3_all cX3_all 2 (some .int), .fieldLink RX3 15 "TileHouse$Tiles" "all" "[I", .static yX6_isKind, .initialized RX6, .code yX6_isKind cX6_isKind 1 (some .boolean)] ++ wsX40 ++ wsX30)
def wsX5_init : List Cond := .code yX5_init cX5_init 1 none :: ([.methodLink RX5 3 objectInit, .instanceMethod objectInit, .code objectInit ⟨#[0xb1]⟩ 1 none])
def wsX5_part : List Cond := .code yX5_part cX5_part 2 (some .int) :: ([.fieldLink RX5 9 "TileHouse$Win" "seat" "I", .fieldLink RX5 15 "TileHouse$Win" "payer" "I", .fieldLink RX5 18 "TileHouse$Win" "base" "I", .fieldLink RX5 21 "TileHouse$Win" "han" "I", .fieldLink RX5 24 "TileHouse$Win" "fu" "I", .fieldLink RX5 27 "TileHouse$Win" "got" "I", .fieldLink RX5 30 "TileHouse$Win" "kind" "I"] ++ wsX50)
def wsX6_init_r1 : List Cond := [Cond.methodLink RX6 3 objectInit, Cond.instanceMethod objectInit, Cond.code objectInit ⟨#[0xb1]⟩ 1 none, Cond.classLink RX6 9 RX2, Cond.fieldLink RX6 11 "TileHouse" "players" "[LTileHouse$Seat;", Cond.classLink RX6 15 RX4, Cond.instantiable RX4 4, Cond.initialized RX4, Cond.fieldLink RX6 18 "TileHouse" "bricks" "LTileHouse$Wall;", Cond.classLink RX6 22 RX1, Cond.instantiable RX1 19, Cond.initialized RX1, Cond.fieldLink RX6 25 "TileHouse" "judge" "LTileHouse$Judge;", Cond.classLink RX6 29 RX5, Cond.fieldLink RX6 31 "TileHouse" "wins" "[LTileHouse$Win;", Cond.classLink RX6 35 RX3, Cond.instantiable RX3 6, Cond.initialized RX3, Cond.fieldLink RX6 38 "TileHouse" "deskTiles" "LTileHouse$Tiles;", Cond.fieldLink RX6 42 "TileHouse" "deskJudge" "LTileHouse$Judge;", Cond.fieldLink RX6 45 "TileHouse" "phase" "I", Cond.fieldLink RX6 49 "TileHouse" "tile" "I", Cond.instantiable RX2 10, Cond.initialized RX2]
def wsX6_init_r2 : List Cond := [Cond.instantiable RX5 8, Cond.initialized RX5, Cond.instanceMethod yX4_init, Cond.code yX4_init cX4_init 1 none, Cond.methodLink RX4 3 objectInit, Cond.arrayClass .int, Cond.fieldLink RX4 11 "TileHouse$Wall" "kinds" "[I", Cond.instanceMethod yX1_init, Cond.code yX1_init cX1_init 1 none, Cond.methodLink RX1 3 objectInit, Cond.fieldLink RX1 9 "TileHouse$Judge" "sort" "[I", Cond.fieldLink RX1 15 "TileHouse$Judge" "low" "[I", Cond.fieldLink RX1 18 "TileHouse$Judge" "mayBeThrees" "[I", Cond.instanceMethod yX3_init, Cond.code yX3_init cX3_init 1 none, Cond.methodLink RX3 3 objectInit, Cond.fieldLink RX3 9 "TileHouse$Tiles" "free" "[I", Cond.fieldLink RX3 15 "TileHouse$Tiles" "all" "[I", Cond.fieldLink RX3 18 "TileHouse$Tiles" "sort" "[I", Cond.fieldLink RX3 21 "TileHouse$Tiles" "low" "[I", Cond.instanceMethod yX2_init, Cond.code yX2_init cX2_init 1 none, Cond.methodLink RX2 3 objectInit, Cond.classLink RX2 9 RX3]
def wsX6_init_r3 : List Cond := [Cond.fieldLink RX2 12 "TileHouse$Seat" "tiles" "LTileHouse$Tiles;", Cond.fieldLink RX2 18 "TileHouse$Seat" "thrown" "[I", Cond.fieldLink RX2 22 "TileHouse$Seat" "points" "I", Cond.instanceMethod yX5_init, Cond.code yX5_init cX5_init 1 none, Cond.methodLink RX5 3 objectInit]
def wsX6_init : List Cond := .code yX6_init cX6_init 2 none :: ((wsX6_init_r1 ++ (wsX6_init_r2 ++ wsX6_init_r3)) ++ wsX60 ++ wsX40 ++ wsX10 ++ wsX30 ++ wsX20 ++ wsX50)
def wsX6_at : List Cond := .code yX6_at cX6_at 2 (some (.object "TileHouse$Seat")) :: ([.fieldLink RX6 11 "TileHouse" "players" "[LTileHouse$Seat;"] ++ wsX60)
def wsX6_drawTile_r1 : List Cond := [Cond.fieldLink RX6 97 "TileHouse" "turn" "I", Cond.fieldLink RX6 45 "TileHouse" "phase" "I", Cond.fieldLink RX6 319 "TileHouse" "behindFour" "Z", Cond.fieldLink RX6 123 "TileHouse" "barred" "J", Cond.fieldLink RX6 18 "TileHouse" "bricks" "LTileHouse$Wall;", Cond.fieldLink RX6 49 "TileHouse" "tile" "I", Cond.fieldLink RX6 72 "TileHouse$Seat" "tiles" "LTileHouse$Tiles;", Cond.fieldLink RX6 110 "TileHouse$Seat" "bet" "I", Cond.fieldLink RX6 219 "TileHouse$Seat" "letGo" "Z", Cond.methodLink RX6 322 yX4_drawBehindFour, Cond.instanceMethod yX4_drawBehindFour, Cond.selects RX4 yX4_drawBehindFour yX4_drawBehindFour, Cond.initialized RX4, Cond.code yX4_drawBehindFour cX4_drawBehindFour 1 (some .int), Cond.fieldLink RX4 27 "TileHouse$Wall" "fours" "I", Cond.methodLink RX4 30 yX4_kindAt, Cond.instanceMethod yX4_kindAt, Cond.selects RX4 yX4_kindAt yX4_kindAt, Cond.code yX4_kindAt cX4_kindAt 2 (some .int), Cond.fieldLink RX4 19 "TileHouse$Wall" "stands" "Z", Cond.fieldLink RX4 11 "TileHouse$Wall" "kinds" "[I", Cond.methodLink RX6 325 yX4_draw, Cond.instanceMethod yX4_draw, Cond.selects RX4 yX4_draw yX4_draw]
def wsX6_drawTile_r2 : List Cond := [Cond.code yX4_draw cX4_draw 1 (some .int), Cond.fieldLink RX4 23 "TileHouse$Wall" "next" "I", Cond.methodLink RX6 65 yX6_at, Cond.instanceMethod yX6_at, Cond.selects RX6 yX6_at yX6_at, Cond.initialized RX6, Cond.code yX6_at cX6_at 2 (some (.object "TileHouse$Seat")), Cond.fieldLink RX6 11 "TileHouse" "players" "[LTileHouse$Seat;", Cond.methodLink RX6 79 yX3_put, Cond.instanceMethod yX3_put, Cond.selects RX3 yX3_put yX3_put, Cond.initialized RX3, Cond.code yX3_put cX3_put 3 none, Cond.fieldLink RX3 9 "TileHouse$Tiles" "free" "[I", Cond.fieldLink RX3 15 "TileHouse$Tiles" "all" "[I", Cond.fieldLink RX3 28 "TileHouse$Tiles" "loose" "I", Cond.static yX6_isKind, Cond.code yX6_isKind cX6_isKind 1 (some .boolean)]
def wsX6_drawTile : List Cond := .code yX6_drawTile cX6_drawTile 4 none :: ((wsX6_drawTile_r1 ++ wsX6_drawTile_r2) ++ wsX60 ++ wsX20 ++ wsX40 ++ wsX30)
def wsX6_deal_r1 : List Cond := [Cond.fieldLink RX6 45 "TileHouse" "phase" "I", Cond.fieldLink RX6 54 "TileHouse" "ended" "Z", Cond.fieldLink RX6 18 "TileHouse" "bricks" "LTileHouse$Wall;", Cond.fieldLink RX6 62 "TileHouse" "dealer" "I", Cond.fieldLink RX6 72 "TileHouse$Seat" "tiles" "LTileHouse$Tiles;", Cond.fieldLink RX6 83 "TileHouse" "winCount" "I", Cond.fieldLink RX6 86 "TileHouse" "broken" "Z", Cond.methodLink RX6 58 yX4_build, Cond.instanceMethod yX4_build, Cond.selects RX4 yX4_build yX4_build, Cond.initialized RX4, Cond.code yX4_build cX4_build 8 none, Cond.fieldLink RX4 11 "TileHouse$Wall" "kinds" "[I", Cond.constantLong RX4 15 (6364136223846793005), Cond.constantLong RX4 17 (1442695040888963407), Cond.fieldLink RX4 19 "TileHouse$Wall" "stands" "Z", Cond.fieldLink RX4 23 "TileHouse$Wall" "next" "I", Cond.fieldLink RX4 27 "TileHouse$Wall" "fours" "I", Cond.methodLink RX6 65 yX6_at, Cond.instanceMethod yX6_at, Cond.selects RX6 yX6_at yX6_at, Cond.initialized RX6, Cond.code yX6_at cX6_at 2 (some (.object "TileHouse$Seat")), Cond.fieldLink RX6 11 "TileHouse" "players" "[LTileHouse$Seat;"]
def wsX6_deal_r2 : List Cond := [Cond.methodLink RX6 69 yX2_startHand, Cond.instanceMethod yX2_startHand, Cond.selects RX2 yX2_startHand yX2_startHand, Cond.initialized RX2, Cond.code yX2_startHand cX2_startHand 1 none, Cond.fieldLink RX2 12 "TileHouse$Seat" "tiles" "LTileHouse$Tiles;", Cond.fieldLink RX2 29 "TileHouse$Seat" "discards" "I", Cond.fieldLink RX2 32 "TileHouse$Seat" "thrownKinds" "J", Cond.fieldLink RX2 36 "TileHouse$Seat" "bet" "I", Cond.fieldLink RX2 39 "TileHouse$Seat" "owes" "Z", Cond.fieldLink RX2 43 "TileHouse$Seat" "atOnce" "Z", Cond.fieldLink RX2 46 "TileHouse$Seat" "letGo" "Z", Cond.fieldLink RX2 49 "TileHouse$Seat" "says" "Z", Cond.methodLink RX2 26 yX3_empty, Cond.instanceMethod yX3_empty, Cond.selects RX3 yX3_empty yX3_empty, Cond.initialized RX3, Cond.code yX3_empty cX3_empty 2 none, Cond.fieldLink RX3 9 "TileHouse$Tiles" "free" "[I", Cond.fieldLink RX3 15 "TileHouse$Tiles" "all" "[I", Cond.fieldLink RX3 24 "TileHouse$Tiles" "laidDown" "I", Cond.fieldLink RX3 28 "TileHouse$Tiles" "loose" "I", Cond.methodLink RX6 75 yX4_kindAt, Cond.instanceMethod yX4_kindAt]
def wsX6_deal_r3 : List Cond := [Cond.selects RX4 yX4_kindAt yX4_kindAt, Cond.code yX4_kindAt cX4_kindAt 2 (some .int), Cond.methodLink RX6 79 yX3_put, Cond.instanceMethod yX3_put, Cond.selects RX3 yX3_put yX3_put, Cond.code yX3_put cX3_put 3 none, Cond.static yX6_isKind, Cond.code yX6_isKind cX6_isKind 1 (some .boolean), Cond.methodLink RX6 89 yX6_drawTile, Cond.instanceMethod yX6_drawTile, Cond.selects RX6 yX6_drawTile yX6_drawTile, Cond.code yX6_drawTile cX6_drawTile 4 none, Cond.fieldLink RX6 97 "TileHouse" "turn" "I", Cond.fieldLink RX6 319 "TileHouse" "behindFour" "Z", Cond.fieldLink RX6 123 "TileHouse" "barred" "J", Cond.fieldLink RX6 49 "TileHouse" "tile" "I", Cond.fieldLink RX6 110 "TileHouse$Seat" "bet" "I", Cond.fieldLink RX6 219 "TileHouse$Seat" "letGo" "Z", Cond.methodLink RX6 322 yX4_drawBehindFour, Cond.instanceMethod yX4_drawBehindFour, Cond.selects RX4 yX4_drawBehindFour yX4_drawBehindFour, Cond.code yX4_drawBehindFour cX4_drawBehindFour 1 (some .int), Cond.methodLink RX4 30 yX4_kindAt, Cond.methodLink RX6 325 yX4_draw]
def wsX6_deal_r4 : List Cond := [Cond.instanceMethod yX4_draw, Cond.selects RX4 yX4_draw yX4_draw, Cond.code yX4_draw cX4_draw 1 (some .int)]
def wsX6_deal : List Cond := .code yX6_deal cX6_deal 6 (some .boolean) :: ((wsX6_deal_r1 ++ (wsX6_deal_r2 ++ (wsX6_deal_r3 ++ wsX6_deal_r4))) ++ wsX60 ++ wsX20 ++ wsX40 ++ wsX30)
def wsX6_mayThrow : List Cond := .code yX6_mayThrow cX6_mayThrow 3 (some .boolean) :: ([.fieldLink RX6 97 "TileHouse" "turn" "I", .fieldLink RX6 72 "TileHouse$Seat" "tiles" "LTileHouse$Tiles;", .fieldLink RX6 123 "TileHouse" "barred" "J", .fieldLink RX6 110 "TileHouse$Seat" "bet" "I", .fieldLink RX6 49 "TileHouse" "tile" "I", .methodLink RX6 65 yX6_at, .instanceMethod yX6_at, .selects RX6 yX6_at yX6_at, .initialized RX6, .code yX6_at cX6_at 2 (some (.object "TileHouse$Seat")), .fieldLink RX6 11 "TileHouse" "players" "[LTileHouse$Seat;", .methodLink RX6 173 yX3_free, .instanceMethod yX3_free, .selects RX3 yX3_free yX3_free, .initialized RX3, .code yX3_free cX3_free 2 (some .int), .fieldLink RX3 9 "TileHouse$Tiles" "free" "[I", .static yX6_isKind, .code yX6_isKind cX6_isKind 1 (some .boolean), .methodLink RX6 226 yX6_holds, .static yX6_holds, .code yX6_holds cX6_holds 3 (some .boolean)] ++ wsX60 ++ wsX20 ++ wsX30)
def wsX6_mayBet_r1 : List Cond := [Cond.fieldLink RX6 110 "TileHouse$Seat" "bet" "I", Cond.fieldLink RX6 72 "TileHouse$Seat" "tiles" "LTileHouse$Tiles;", Cond.fieldLink RX6 203 "TileHouse$Seat" "points" "I", Cond.fieldLink RX6 18 "TileHouse" "bricks" "LTileHouse$Wall;", Cond.methodLink RX6 266 yX3_isOpen, Cond.instanceMethod yX3_isOpen, Cond.selects RX3 yX3_isOpen yX3_isOpen, Cond.initialized RX3, Cond.code yX3_isOpen cX3_isOpen 2 (some .boolean), Cond.fieldLink RX3 24 "TileHouse$Tiles" "laidDown" "I", Cond.fieldLink RX3 18 "TileHouse$Tiles" "sort" "[I", Cond.methodLink RX6 140 yX4_left, Cond.instanceMethod yX4_left, Cond.selects RX4 yX4_left yX4_left, Cond.initialized RX4, Cond.code yX4_left cX4_left 1 (some .int), Cond.fieldLink RX4 19 "TileHouse$Wall" "stands" "Z", Cond.fieldLink RX4 27 "TileHouse$Wall" "fours" "I", Cond.fieldLink RX4 23 "TileHouse$Wall" "next" "I", Cond.methodLink RX6 222 yX3_waiting, Cond.instanceMethod yX3_waiting, Cond.selects RX3 yX3_waiting yX3_waiting, Cond.code yX3_waiting cX3_waiting 4 (some .long), Cond.methodLink RX3 45 yX3_waitsFor]
def wsX6_mayBet_r2 : List Cond := [Cond.instanceMethod yX3_waitsFor, Cond.selects RX3 yX3_waitsFor yX3_waitsFor, Cond.code yX3_waitsFor cX3_waitsFor 3 (some .boolean), Cond.fieldLink RX3 15 "TileHouse$Tiles" "all" "[I", Cond.methodLink RX3 48 yX3_size, Cond.instanceMethod yX3_size, Cond.selects RX3 yX3_size yX3_size, Cond.code yX3_size cX3_size 1 (some .int), Cond.fieldLink RX3 28 "TileHouse$Tiles" "loose" "I", Cond.static yX6_isKind, Cond.initialized RX6, Cond.code yX6_isKind cX6_isKind 1 (some .boolean), Cond.methodLink RX3 35 yX3_put, Cond.instanceMethod yX3_put, Cond.selects RX3 yX3_put yX3_put, Cond.code yX3_put cX3_put 3 none, Cond.fieldLink RX3 9 "TileHouse$Tiles" "free" "[I", Cond.methodLink RX3 52 yX3_isSevenPairs, Cond.instanceMethod yX3_isSevenPairs, Cond.selects RX3 yX3_isSevenPairs yX3_isSevenPairs, Cond.code yX3_isSevenPairs cX3_isSevenPairs 2 (some .boolean), Cond.methodLink RX3 56 yX3_isThirteen, Cond.instanceMethod yX3_isThirteen, Cond.selects RX3 yX3_isThirteen yX3_isThirteen]
def wsX6_mayBet_r3 : List Cond := [Cond.code yX3_isThirteen cX3_isThirteen 1 (some .boolean), Cond.constantLong RX3 69 (17113154305), Cond.methodLink RX3 65 yX3_kinds, Cond.instanceMethod yX3_kinds, Cond.selects RX3 yX3_kinds yX3_kinds, Cond.code yX3_kinds cX3_kinds 4 (some .long), Cond.methodLink RX3 59 yX3_isSetsAndPair, Cond.instanceMethod yX3_isSetsAndPair, Cond.selects RX3 yX3_isSetsAndPair yX3_isSetsAndPair, Cond.code yX3_isSetsAndPair cX3_isSetsAndPair 2 (some .boolean), Cond.methodLink RX3 71 yX3_splitsBeside, Cond.instanceMethod yX3_splitsBeside, Cond.selects RX3 yX3_splitsBeside yX3_splitsBeside, Cond.code yX3_splitsBeside cX3_splitsBeside 7 (some .boolean), Cond.static yX6_startsRun, Cond.code yX6_startsRun cX6_startsRun 1 (some .boolean), Cond.methodLink RX3 62 yX3_take, Cond.instanceMethod yX3_take, Cond.selects RX3 yX3_take yX3_take, Cond.code yX3_take cX3_take 3 none]
def wsX6_mayBet : List Cond := .code yX6_mayBet cX6_mayBet 2 (some .boolean) :: ((wsX6_mayBet_r1 ++ (wsX6_mayBet_r2 ++ wsX6_mayBet_r3)) ++ wsX20 ++ wsX60 ++ wsX30 ++ wsX40)
def wsX6_discard_r1 : List Cond := [Cond.fieldLink RX6 45 "TileHouse" "phase" "I", Cond.fieldLink RX6 97 "TileHouse" "turn" "I", Cond.fieldLink RX6 72 "TileHouse$Seat" "tiles" "LTileHouse$Tiles;", Cond.fieldLink RX6 107 "TileHouse$Seat" "discards" "I", Cond.fieldLink RX6 86 "TileHouse" "broken" "Z", Cond.fieldLink RX6 110 "TileHouse$Seat" "bet" "I", Cond.fieldLink RX6 113 "TileHouse$Seat" "owes" "Z", Cond.fieldLink RX6 116 "TileHouse$Seat" "atOnce" "Z", Cond.fieldLink RX6 49 "TileHouse" "tile" "I", Cond.fieldLink RX6 123 "TileHouse" "barred" "J", Cond.methodLink RX6 93 yX6_mayThrow, Cond.instanceMethod yX6_mayThrow, Cond.selects RX6 yX6_mayThrow yX6_mayThrow, Cond.initialized RX6, Cond.code yX6_mayThrow cX6_mayThrow 3 (some .boolean), Cond.methodLink RX6 65 yX6_at, Cond.instanceMethod yX6_at, Cond.selects RX6 yX6_at yX6_at, Cond.code yX6_at cX6_at 2 (some (.object "TileHouse$Seat")), Cond.fieldLink RX6 11 "TileHouse" "players" "[LTileHouse$Seat;", Cond.methodLink RX6 173 yX3_free, Cond.instanceMethod yX3_free, Cond.selects RX3 yX3_free yX3_free, Cond.initialized RX3]
def wsX6_discard_r2 : List Cond := [Cond.code yX3_free cX3_free 2 (some .int), Cond.fieldLink RX3 9 "TileHouse$Tiles" "free" "[I", Cond.static yX6_isKind, Cond.code yX6_isKind cX6_isKind 1 (some .boolean), Cond.methodLink RX6 226 yX6_holds, Cond.static yX6_holds, Cond.code yX6_holds cX6_holds 3 (some .boolean), Cond.methodLink RX6 100 yX3_take, Cond.instanceMethod yX3_take, Cond.selects RX3 yX3_take yX3_take, Cond.code yX3_take cX3_take 3 none, Cond.methodLink RX3 35 yX3_put, Cond.instanceMethod yX3_put, Cond.selects RX3 yX3_put yX3_put, Cond.code yX3_put cX3_put 3 none, Cond.fieldLink RX3 15 "TileHouse$Tiles" "all" "[I", Cond.fieldLink RX3 28 "TileHouse$Tiles" "loose" "I", Cond.methodLink RX6 103 yX6_mayBet, Cond.instanceMethod yX6_mayBet, Cond.selects RX6 yX6_mayBet yX6_mayBet, Cond.code yX6_mayBet cX6_mayBet 2 (some .boolean), Cond.fieldLink RX6 203 "TileHouse$Seat" "points" "I", Cond.fieldLink RX6 18 "TileHouse" "bricks" "LTileHouse$Wall;", Cond.methodLink RX6 266 yX3_isOpen]
def wsX6_discard_r3 : List Cond := [Cond.instanceMethod yX3_isOpen, Cond.selects RX3 yX3_isOpen yX3_isOpen, Cond.code yX3_isOpen cX3_isOpen 2 (some .boolean), Cond.fieldLink RX3 24 "TileHouse$Tiles" "laidDown" "I", Cond.fieldLink RX3 18 "TileHouse$Tiles" "sort" "[I", Cond.methodLink RX6 140 yX4_left, Cond.instanceMethod yX4_left, Cond.selects RX4 yX4_left yX4_left, Cond.initialized RX4, Cond.code yX4_left cX4_left 1 (some .int), Cond.fieldLink RX4 19 "TileHouse$Wall" "stands" "Z", Cond.fieldLink RX4 27 "TileHouse$Wall" "fours" "I", Cond.fieldLink RX4 23 "TileHouse$Wall" "next" "I", Cond.methodLink RX6 222 yX3_waiting, Cond.instanceMethod yX3_waiting, Cond.selects RX3 yX3_waiting yX3_waiting, Cond.code yX3_waiting cX3_waiting 4 (some .long), Cond.methodLink RX3 45 yX3_waitsFor, Cond.instanceMethod yX3_waitsFor, Cond.selects RX3 yX3_waitsFor yX3_waitsFor, Cond.code yX3_waitsFor cX3_waitsFor 3 (some .boolean), Cond.methodLink RX3 48 yX3_size, Cond.instanceMethod yX3_size, Cond.selects RX3 yX3_size yX3_size]
def wsX6_discard_r4 : List Cond := [Cond.code yX3_size cX3_size 1 (some .int), Cond.methodLink RX3 52 yX3_isSevenPairs, Cond.instanceMethod yX3_isSevenPairs, Cond.selects RX3 yX3_isSevenPairs yX3_isSevenPairs, Cond.code yX3_isSevenPairs cX3_isSevenPairs 2 (some .boolean), Cond.methodLink RX3 56 yX3_isThirteen, Cond.instanceMethod yX3_isThirteen, Cond.selects RX3 yX3_isThirteen yX3_isThirteen, Cond.code yX3_isThirteen cX3_isThirteen 1 (some .boolean), Cond.constantLong RX3 69 (17113154305), Cond.methodLink RX3 65 yX3_kinds, Cond.instanceMethod yX3_kinds, Cond.selects RX3 yX3_kinds yX3_kinds, Cond.code yX3_kinds cX3_kinds 4 (some .long), Cond.methodLink RX3 59 yX3_isSetsAndPair, Cond.instanceMethod yX3_isSetsAndPair, Cond.selects RX3 yX3_isSetsAndPair yX3_isSetsAndPair, Cond.code yX3_isSetsAndPair cX3_isSetsAndPair 2 (some .boolean), Cond.methodLink RX3 71 yX3_splitsBeside, Cond.instanceMethod yX3_splitsBeside, Cond.selects RX3 yX3_splitsBeside yX3_splitsBeside, Cond.code yX3_splitsBeside cX3_splitsBeside 7 (some .boolean), Cond.static yX6_startsRun, Cond.code yX6_startsRun cX6_startsRun 1 (some .boolean)]
def wsX6_discard_r5 : List Cond := [Cond.methodLink RX3 62 yX3_take, Cond.methodLink RX6 79 yX3_put, Cond.methodLink RX6 119 yX2_throwTile, Cond.instanceMethod yX2_throwTile, Cond.selects RX2 yX2_throwTile yX2_throwTile, Cond.initialized RX2, Cond.code yX2_throwTile cX2_throwTile 2 none, Cond.fieldLink RX2 29 "TileHouse$Seat" "discards" "I", Cond.fieldLink RX2 18 "TileHouse$Seat" "thrown" "[I", Cond.fieldLink RX2 32 "TileHouse$Seat" "thrownKinds" "J"]
def wsX6_discard : List Cond := .code yX6_discard cX6_discard 4 (some .boolean) :: ((wsX6_discard_r1 ++ (wsX6_discard_r2 ++ (wsX6_discard_r3 ++ (wsX6_discard_r4 ++ wsX6_discard_r5)))) ++ wsX60 ++ wsX20 ++ wsX30 ++ wsX40)
def wsX6_someoneSays : List Cond := .code yX6_someoneSays cX6_someoneSays 2 (some .boolean) :: ([.fieldLink RX6 216 "TileHouse$Seat" "says" "Z", .methodLink RX6 65 yX6_at, .instanceMethod yX6_at, .selects RX6 yX6_at yX6_at, .initialized RX6, .code yX6_at cX6_at 2 (some (.object "TileHouse$Seat")), .fieldLink RX6 11 "TileHouse" "players" "[LTileHouse$Seat;"] ++ wsX20 ++ wsX60)
def wsX6_toldForms : List Cond := .code yX6_toldForms cX6_toldForms 5 (some .long) :: ([.fieldLink RX6 110 "TileHouse$Seat" "bet" "I", .constantLong RX6 348 (2), .fieldLink RX6 116 "TileHouse$Seat" "atOnce" "Z", .constantLong RX6 350 (4), .fieldLink RX6 319 "TileHouse" "behindFour" "Z", .constantLong RX6 352 (64), .fieldLink RX6 45 "TileHouse" "phase" "I", .constantLong RX6 354 (128), .fieldLink RX6 18 "TileHouse" "bricks" "LTileHouse$Wall;", .constantLong RX6 356 (32), .constantLong RX6 358 (16), .methodLink RX6 140 yX4_left, .instanceMethod yX4_left, .selects RX4 yX4_left yX4_left, .initialized RX4, .code yX4_left cX4_left 1 (some .int), .fieldLink RX4 19 "TileHouse$Wall" "stands" "Z", .fieldLink RX4 27 "TileHouse$Wall" "fours" "I", .fieldLink RX4 23 "TileHouse$Wall" "next" "I"] ++ wsX20 ++ wsX60 ++ wsX40)
def wsX6_firstDraw : List Cond := .code yX6_firstDraw cX6_firstDraw 3 (some .long) :: ([.fieldLink RX6 86 "TileHouse" "broken" "Z", .fieldLink RX6 107 "TileHouse$Seat" "discards" "I", .fieldLink RX6 62 "TileHouse" "dealer" "I", .methodLink RX6 65 yX6_at, .instanceMethod yX6_at, .selects RX6 yX6_at yX6_at, .initialized RX6, .code yX6_at cX6_at 2 (some (.object "TileHouse$Seat")), .fieldLink RX6 11 "TileHouse" "players" "[LTileHouse$Seat;"] ++ wsX60 ++ wsX20)
def wsX6_windOf : List Cond := .code yX6_windOf cX6_windOf 2 (some .int) :: ([.fieldLink RX6 62 "TileHouse" "dealer" "I"] ++ wsX60)
def wsX6_weighHand_r1 : List Cond := [Cond.fieldLink RX6 72 "TileHouse$Seat" "tiles" "LTileHouse$Tiles;", Cond.fieldLink RX6 49 "TileHouse" "tile" "I", Cond.fieldLink RX6 18 "TileHouse" "bricks" "LTileHouse$Wall;", Cond.fieldLink RX6 110 "TileHouse$Seat" "bet" "I", Cond.fieldLink RX6 25 "TileHouse" "judge" "LTileHouse$Judge;", Cond.fieldLink RX6 278 "TileHouse" "round" "I", Cond.fieldLink RX6 194 "TileHouse$Judge" "base" "I", Cond.methodLink RX6 65 yX6_at, Cond.instanceMethod yX6_at, Cond.selects RX6 yX6_at yX6_at, Cond.initialized RX6, Cond.code yX6_at cX6_at 2 (some (.object "TileHouse$Seat")), Cond.fieldLink RX6 11 "TileHouse" "players" "[LTileHouse$Seat;", Cond.methodLink RX6 79 yX3_put, Cond.instanceMethod yX3_put, Cond.selects RX3 yX3_put yX3_put, Cond.initialized RX3, Cond.code yX3_put cX3_put 3 none, Cond.fieldLink RX3 9 "TileHouse$Tiles" "free" "[I", Cond.fieldLink RX3 15 "TileHouse$Tiles" "all" "[I", Cond.fieldLink RX3 28 "TileHouse$Tiles" "loose" "I", Cond.static yX6_isKind, Cond.code yX6_isKind cX6_isKind 1 (some .boolean), Cond.methodLink RX6 334 yX6_toldForms]
def wsX6_weighHand_r2 : List Cond := [Cond.instanceMethod yX6_toldForms, Cond.selects RX6 yX6_toldForms yX6_toldForms, Cond.code yX6_toldForms cX6_toldForms 5 (some .long), Cond.constantLong RX6 348 (2), Cond.fieldLink RX6 116 "TileHouse$Seat" "atOnce" "Z", Cond.constantLong RX6 350 (4), Cond.fieldLink RX6 319 "TileHouse" "behindFour" "Z", Cond.constantLong RX6 352 (64), Cond.fieldLink RX6 45 "TileHouse" "phase" "I", Cond.constantLong RX6 354 (128), Cond.constantLong RX6 356 (32), Cond.constantLong RX6 358 (16), Cond.methodLink RX6 140 yX4_left, Cond.instanceMethod yX4_left, Cond.selects RX4 yX4_left yX4_left, Cond.initialized RX4, Cond.code yX4_left cX4_left 1 (some .int), Cond.fieldLink RX4 19 "TileHouse$Wall" "stands" "Z", Cond.fieldLink RX4 27 "TileHouse$Wall" "fours" "I", Cond.fieldLink RX4 23 "TileHouse$Wall" "next" "I", Cond.methodLink RX6 338 yX6_firstDraw, Cond.instanceMethod yX6_firstDraw, Cond.selects RX6 yX6_firstDraw yX6_firstDraw, Cond.code yX6_firstDraw cX6_firstDraw 3 (some .long)]
def wsX6_weighHand_r3 : List Cond := [Cond.fieldLink RX6 86 "TileHouse" "broken" "Z", Cond.fieldLink RX6 107 "TileHouse$Seat" "discards" "I", Cond.fieldLink RX6 62 "TileHouse" "dealer" "I", Cond.methodLink RX6 342 yX4_dearTiles, Cond.instanceMethod yX4_dearTiles, Cond.selects RX4 yX4_dearTiles yX4_dearTiles, Cond.code yX4_dearTiles cX4_dearTiles 6 (some .int), Cond.methodLink RX4 34 yX4_signs, Cond.instanceMethod yX4_signs, Cond.selects RX4 yX4_signs yX4_signs, Cond.code yX4_signs cX4_signs 1 (some .int), Cond.methodLink RX4 30 yX4_kindAt, Cond.instanceMethod yX4_kindAt, Cond.selects RX4 yX4_kindAt yX4_kindAt, Cond.code yX4_kindAt cX4_kindAt 2 (some .int), Cond.fieldLink RX4 11 "TileHouse$Wall" "kinds" "[I", Cond.methodLink RX4 38 yX4_behind, Cond.static yX4_behind, Cond.code yX4_behind cX4_behind 1 (some .int), Cond.methodLink RX4 41 yX3_all, Cond.instanceMethod yX3_all, Cond.selects RX3 yX3_all yX3_all, Cond.code yX3_all cX3_all 2 (some .int), Cond.methodLink RX6 263 yX6_windOf]
def wsX6_weighHand_r4 : List Cond := [Cond.instanceMethod yX6_windOf, Cond.selects RX6 yX6_windOf yX6_windOf, Cond.code yX6_windOf cX6_windOf 2 (some .int), Cond.methodLink RX6 304 yX1_judge, Cond.instanceMethod yX1_judge, Cond.selects RX1 yX1_judge yX1_judge, Cond.initialized RX1, Cond.code yX1_judge cX1_judge 11 none, Cond.fieldLink RX1 21 "TileHouse$Judge" "base" "I", Cond.fieldLink RX1 25 "TileHouse$Judge" "han" "I", Cond.fieldLink RX1 28 "TileHouse$Judge" "fu" "I", Cond.fieldLink RX1 31 "TileHouse$Judge" "best" "J", Cond.fieldLink RX1 35 "TileHouse$Judge" "ways" "I", Cond.fieldLink RX1 48 "TileHouse$Judge" "tiles" "LTileHouse$Tiles;", Cond.fieldLink RX1 52 "TileHouse$Judge" "winner" "I", Cond.fieldLink RX1 55 "TileHouse$Judge" "drawn" "Z", Cond.fieldLink RX1 63 "TileHouse$Judge" "open" "Z", Cond.fieldLink RX1 66 "TileHouse$Judge" "seatWind" "I", Cond.fieldLink RX1 69 "TileHouse$Judge" "roundWind" "I", Cond.fieldLink RX1 72 "TileHouse$Judge" "dear" "I", Cond.fieldLink RX1 86 "TileHouse$Judge" "shared" "J", Cond.constantLong RX1 94 (65536), Cond.constantLong RX1 103 (4294967296), Cond.fieldLink RX1 105 "TileHouse$Judge" "pair" "I"]
def wsX6_weighHand_r5 : List Cond := [Cond.fieldLink RX1 108 "TileHouse$Tiles" "free" "[I", Cond.methodLink RX1 38 yX3_size, Cond.instanceMethod yX3_size, Cond.selects RX3 yX3_size yX3_size, Cond.code yX3_size cX3_size 1 (some .int), Cond.fieldLink RX3 24 "TileHouse$Tiles" "laidDown" "I", Cond.methodLink RX1 44 yX3_free, Cond.instanceMethod yX3_free, Cond.selects RX3 yX3_free yX3_free, Cond.code yX3_free cX3_free 2 (some .int), Cond.methodLink RX1 59 yX3_isOpen, Cond.instanceMethod yX3_isOpen, Cond.selects RX3 yX3_isOpen yX3_isOpen, Cond.code yX3_isOpen cX3_isOpen 2 (some .boolean), Cond.fieldLink RX3 18 "TileHouse$Tiles" "sort" "[I", Cond.methodLink RX1 75 yX1_toldOnes, Cond.instanceMethod yX1_toldOnes, Cond.selects RX1 yX1_toldOnes yX1_toldOnes, Cond.code yX1_toldOnes cX1_toldOnes 5 (some .long), Cond.constantLong RX1 124 (13194139533559), Cond.constantLong RX1 126 (-2), Cond.constantLong RX1 128 (8), Cond.methodLink RX1 79 yX3_kinds, Cond.instanceMethod yX3_kinds]
def wsX6_weighHand_r6 : List Cond := [Cond.selects RX3 yX3_kinds yX3_kinds, Cond.code yX3_kinds cX3_kinds 4 (some .long), Cond.methodLink RX1 83 yX1_tileForms, Cond.instanceMethod yX1_tileForms, Cond.selects RX1 yX1_tileForms yX1_tileForms, Cond.code yX1_tileForms cX1_tileForms 6 (some .long), Cond.constantLong RX1 130 (17045651456), Cond.constantLong RX1 132 (511), Cond.constantLong RX1 134 (17113154305), Cond.constantLong RX1 140 (-17113154306), Cond.constantLong RX1 142 (-17045651457), Cond.constantLong RX1 144 (-67502850), Cond.constantLong RX1 146 (-4340580353), Cond.methodLink RX1 136 yX1_bit, Cond.static yX1_bit, Cond.code yX1_bit cX1_bit 2 (some .long), Cond.methodLink RX1 148 yX1_isNineGates, Cond.instanceMethod yX1_isNineGates, Cond.selects RX1 yX1_isNineGates yX1_isNineGates, Cond.code yX1_isNineGates cX1_isNineGates 4 (some .boolean), Cond.fieldLink RX1 151 "TileHouse$Tiles" "laidDown" "I", Cond.methodLink RX1 89 yX3_isSevenPairs, Cond.instanceMethod yX3_isSevenPairs, Cond.selects RX3 yX3_isSevenPairs yX3_isSevenPairs]
def wsX6_weighHand_r7 : List Cond := [Cond.code yX3_isSevenPairs cX3_isSevenPairs 2 (some .boolean), Cond.methodLink RX1 96 yX1_offer, Cond.instanceMethod yX1_offer, Cond.selects RX1 yX1_offer yX1_offer, Cond.code yX1_offer cX1_offer 10 none, Cond.constantLong RX1 221 (-268437008), Cond.constantLong RX1 223 (17587891077120), Cond.methodLink RX1 189 yJ13_bitCount_95d88, Cond.static yJ13_bitCount_95d88, Cond.initialized RJ13, Cond.code yJ13_bitCount_95d88 cJ13_bitCount_95d88 2 (some .int), Cond.constantLong RJ13 314 (6148914691236517205), Cond.constantLong RJ13 316 (3689348814741910323), Cond.constantLong RJ13 318 (1085102592571150095), Cond.methodLink RX1 225 yX0_hanOf, Cond.static yX0_hanOf, Cond.initialized RX0, Cond.code yX0_hanOf cX0_hanOf 5 (some .int), Cond.fieldLink RX0 9 "TileHouse$Forms" "HAN" "[I", Cond.fieldLink RX0 13 "TileHouse$Forms" "OPEN_HAN" "[I", Cond.methodLink RX1 229 yX0_baseOf, Cond.static yX0_baseOf, Cond.code yX0_baseOf cX0_baseOf 3 (some .int), Cond.methodLink RX1 232 yX1_isBetter]
def wsX6_weighHand_r8 : List Cond := [Cond.instanceMethod yX1_isBetter, Cond.selects RX1 yX1_isBetter yX1_isBetter, Cond.code yX1_isBetter cX1_isBetter 6 (some .boolean), Cond.methodLink RX1 100 yX3_isThirteen, Cond.instanceMethod yX3_isThirteen, Cond.selects RX3 yX3_isThirteen yX3_isThirteen, Cond.code yX3_isThirteen cX3_isThirteen 1 (some .boolean), Cond.constantLong RX3 69 (17113154305), Cond.methodLink RX3 65 yX3_kinds, Cond.methodLink RX1 110 yX1_findThrees, Cond.instanceMethod yX1_findThrees, Cond.selects RX1 yX1_findThrees yX1_findThrees, Cond.code yX1_findThrees cX1_findThrees 3 (some .int), Cond.fieldLink RX1 18 "TileHouse$Judge" "mayBeThrees" "[I", Cond.methodLink RX1 113 yX1_chosenThrees, Cond.instanceMethod yX1_chosenThrees, Cond.selects RX1 yX1_chosenThrees yX1_chosenThrees, Cond.code yX1_chosenThrees cX1_chosenThrees 5 (some .long), Cond.methodLink RX1 117 yX1_fillWay, Cond.instanceMethod yX1_fillWay, Cond.selects RX1 yX1_fillWay yX1_fillWay, Cond.code yX1_fillWay cX1_fillWay 10 (some .boolean), Cond.fieldLink RX1 9 "TileHouse$Judge" "sort" "[I", Cond.fieldLink RX1 154 "TileHouse$Tiles" "sort" "[I"]
def wsX6_weighHand_r9 : List Cond := [Cond.fieldLink RX1 15 "TileHouse$Judge" "low" "[I", Cond.fieldLink RX1 155 "TileHouse$Tiles" "low" "[I", Cond.static yX6_holds, Cond.code yX6_holds cX6_holds 3 (some .boolean), Cond.static yX6_startsRun, Cond.code yX6_startsRun cX6_startsRun 1 (some .boolean), Cond.methodLink RX1 121 yX1_weighWay, Cond.instanceMethod yX1_weighWay, Cond.selects RX1 yX1_weighWay yX1_weighWay, Cond.code yX1_weighWay cX1_weighWay 4 none, Cond.fieldLink RX1 164 "TileHouse$Judge" "runs" "J", Cond.fieldLink RX1 167 "TileHouse$Judge" "threes" "J", Cond.methodLink RX1 170 yX1_likeRuns, Cond.instanceMethod yX1_likeRuns, Cond.selects RX1 yX1_likeRuns yX1_likeRuns, Cond.code yX1_likeRuns cX1_likeRuns 5 (some .long), Cond.methodLink RX1 173 yX1_setForms, Cond.instanceMethod yX1_setForms, Cond.selects RX1 yX1_setForms yX1_setForms, Cond.code yX1_setForms cX1_setForms 5 (some .long), Cond.constantLong RX1 185 (73), Cond.constantLong RX1 187 (15032385536), Cond.constantLong RX1 195 (2013265920), Cond.methodLink RX1 176 yX1_endForms]
def wsX6_weighHand_r10 : List Cond := [Cond.instanceMethod yX1_endForms, Cond.selects RX1 yX1_endForms yX1_endForms, Cond.code yX1_endForms cX1_endForms 7 (some .long), Cond.constantLong RX1 197 (67502849), Cond.constantLong RX1 199 (7), Cond.methodLink RX1 179 yX1_mayHaveCompleted, Cond.instanceMethod yX1_mayHaveCompleted, Cond.selects RX1 yX1_mayHaveCompleted yX1_mayHaveCompleted, Cond.code yX1_mayHaveCompleted cX1_mayHaveCompleted 4 (some .boolean), Cond.methodLink RX1 182 yX1_weighCompleted, Cond.instanceMethod yX1_weighCompleted, Cond.selects RX1 yX1_weighCompleted yX1_weighCompleted, Cond.code yX1_weighCompleted cX1_weighCompleted 8 none, Cond.methodLink RX1 201 yX1_isHidden, Cond.instanceMethod yX1_isHidden, Cond.selects RX1 yX1_isHidden yX1_isHidden, Cond.code yX1_isHidden cX1_isHidden 3 (some .boolean), Cond.methodLink RX1 205 yX1_pairFu, Cond.instanceMethod yX1_pairFu, Cond.selects RX1 yX1_pairFu yX1_pairFu, Cond.code yX1_pairFu cX1_pairFu 1 (some .int), Cond.methodLink RX1 208 yX1_waitFu, Cond.instanceMethod yX1_waitFu, Cond.selects RX1 yX1_waitFu yX1_waitFu]
def wsX6_weighHand_r11 : List Cond := [Cond.code yX1_waitFu cX1_waitFu 4 (some .int), Cond.methodLink RX1 211 yX1_fuOf, Cond.instanceMethod yX1_fuOf, Cond.selects RX1 yX1_fuOf yX1_fuOf, Cond.code yX1_fuOf cX1_fuOf 6 (some .int), Cond.methodLink RX1 215 Lib.Math.max.name, Cond.static Lib.Math.max.name, Cond.initialized "java/lang/Math", Cond.code Lib.Math.max.name Lib.Math.max.code 2 (some .int), Cond.methodLink RX6 100 yX3_take, Cond.instanceMethod yX3_take, Cond.selects RX3 yX3_take yX3_take, Cond.code yX3_take cX3_take 3 none, Cond.methodLink RX3 35 yX3_put]
def wsX6_weighHand : List Cond := .code yX6_weighHand cX6_weighHand 7 (some .int) :: ((wsX6_weighHand_r1 ++ (wsX6_weighHand_r2 ++ (wsX6_weighHand_r3 ++ (wsX6_weighHand_r4 ++ (wsX6_weighHand_r5 ++ (wsX6_weighHand_r6 ++ (wsX6_weighHand_r7 ++ (wsX6_weighHand_r8 ++ (wsX6_weighHand_r9 ++ (wsX6_weighHand_r10 ++ wsX6_weighHand_r11)))))))))) ++ wsX20 ++ wsX60 ++ wsX10 ++ wsX30 ++ wsX40)
def wsX6_hundreds : List Cond := .code yX6_hundreds cX6_hundreds 1 (some .int) :: ([])
def wsX6_recordWin : List Cond := .code yX6_recordWin cX6_recordWin 5 none :: ([.fieldLink RX6 83 "TileHouse" "winCount" "I", .fieldLink RX6 31 "TileHouse" "wins" "[LTileHouse$Win;", .fieldLink RX6 360 "TileHouse$Win" "seat" "I", .fieldLink RX6 363 "TileHouse$Win" "payer" "I", .fieldLink RX6 25 "TileHouse" "judge" "LTileHouse$Judge;", .fieldLink RX6 194 "TileHouse$Judge" "base" "I", .fieldLink RX6 366 "TileHouse$Win" "base" "I", .fieldLink RX6 307 "TileHouse$Judge" "han" "I", .fieldLink RX6 367 "TileHouse$Win" "han" "I", .fieldLink RX6 310 "TileHouse$Judge" "fu" "I", .fieldLink RX6 368 "TileHouse$Win" "fu" "I", .fieldLink RX6 316 "TileHouse$Judge" "best" "J", .fieldLink RX6 275 "TileHouse$Win" "made" "J", .fieldLink RX6 369 "TileHouse$Win" "got" "I", .fieldLink RX6 49 "TileHouse" "tile" "I", .fieldLink RX6 372 "TileHouse$Win" "kind" "I"] ++ wsX60 ++ wsX50 ++ wsX10)
def wsX6_someoneIsBroke : List Cond := .code yX6_someoneIsBroke cX6_someoneIsBroke 2 (some .boolean) :: ([.fieldLink RX6 203 "TileHouse$Seat" "points" "I", .methodLink RX6 65 yX6_at, .instanceMethod yX6_at, .selects RX6 yX6_at yX6_at, .initialized RX6, .code yX6_at cX6_at 2 (some (.object "TileHouse$Seat")), .fieldLink RX6 11 "TileHouse" "players" "[LTileHouse$Seat;"] ++ wsX20 ++ wsX60)
def wsX6_richest : List Cond := .code yX6_richest cX6_richest 3 (some .int) :: ([.fieldLink RX6 203 "TileHouse$Seat" "points" "I", .methodLink RX6 65 yX6_at, .instanceMethod yX6_at, .selects RX6 yX6_at yX6_at, .initialized RX6, .code yX6_at cX6_at 2 (some (.object "TileHouse$Seat")), .fieldLink RX6 11 "TileHouse" "players" "[LTileHouse$Seat;"] ++ wsX20 ++ wsX60)
def wsX6_endHand : List Cond := .code yX6_endHand cX6_endHand 5 none :: ([.fieldLink RX6 45 "TileHouse" "phase" "I", .fieldLink RX6 284 "TileHouse" "handsEnded" "I", .fieldLink RX6 62 "TileHouse" "dealer" "I", .fieldLink RX6 278 "TileHouse" "round" "I", .fieldLink RX6 54 "TileHouse" "ended" "Z", .fieldLink RX6 203 "TileHouse$Seat" "points" "I", .fieldLink RX6 191 "TileHouse" "bets" "I", .fieldLink RX6 200 "TileHouse" "stays" "I", .methodLink RX6 375 yX6_someoneIsBroke, .instanceMethod yX6_someoneIsBroke, .selects RX6 yX6_someoneIsBroke yX6_someoneIsBroke, .initialized RX6, .code yX6_someoneIsBroke cX6_someoneIsBroke 2 (some .boolean), .methodLink RX6 65 yX6_at, .instanceMethod yX6_at, .selects RX6 yX6_at yX6_at, .code yX6_at cX6_at 2 (some (.object "TileHouse$Seat")), .fieldLink RX6 11 "TileHouse" "players" "[LTileHouse$Seat;", .methodLink RX6 378 yX6_richest, .instanceMethod yX6_richest, .selects RX6 yX6_richest yX6_richest, .code yX6_richest cX6_richest 3 (some .int)] ++ wsX60 ++ wsX20)
def wsX6_winByTile_r1 : List Cond := [Cond.fieldLink RX6 200 "TileHouse" "stays" "I", Cond.fieldLink RX6 97 "TileHouse" "turn" "I", Cond.fieldLink RX6 216 "TileHouse$Seat" "says" "Z", Cond.fieldLink RX6 62 "TileHouse" "dealer" "I", Cond.fieldLink RX6 191 "TileHouse" "bets" "I", Cond.fieldLink RX6 203 "TileHouse$Seat" "points" "I", Cond.methodLink RX6 65 yX6_at, Cond.instanceMethod yX6_at, Cond.selects RX6 yX6_at yX6_at, Cond.initialized RX6, Cond.code yX6_at cX6_at 2 (some (.object "TileHouse$Seat")), Cond.fieldLink RX6 11 "TileHouse" "players" "[LTileHouse$Seat;", Cond.methodLink RX6 187 yX6_weighHand, Cond.instanceMethod yX6_weighHand, Cond.selects RX6 yX6_weighHand yX6_weighHand, Cond.code yX6_weighHand cX6_weighHand 7 (some .int), Cond.fieldLink RX6 72 "TileHouse$Seat" "tiles" "LTileHouse$Tiles;", Cond.fieldLink RX6 49 "TileHouse" "tile" "I", Cond.fieldLink RX6 18 "TileHouse" "bricks" "LTileHouse$Wall;", Cond.fieldLink RX6 110 "TileHouse$Seat" "bet" "I", Cond.fieldLink RX6 25 "TileHouse" "judge" "LTileHouse$Judge;", Cond.fieldLink RX6 278 "TileHouse" "round" "I", Cond.fieldLink RX6 194 "TileHouse$Judge" "base" "I", Cond.methodLink RX6 79 yX3_put]
def wsX6_winByTile_r2 : List Cond := [Cond.instanceMethod yX3_put, Cond.selects RX3 yX3_put yX3_put, Cond.initialized RX3, Cond.code yX3_put cX3_put 3 none, Cond.fieldLink RX3 9 "TileHouse$Tiles" "free" "[I", Cond.fieldLink RX3 15 "TileHouse$Tiles" "all" "[I", Cond.fieldLink RX3 28 "TileHouse$Tiles" "loose" "I", Cond.static yX6_isKind, Cond.code yX6_isKind cX6_isKind 1 (some .boolean), Cond.methodLink RX6 334 yX6_toldForms, Cond.instanceMethod yX6_toldForms, Cond.selects RX6 yX6_toldForms yX6_toldForms, Cond.code yX6_toldForms cX6_toldForms 5 (some .long), Cond.constantLong RX6 348 (2), Cond.fieldLink RX6 116 "TileHouse$Seat" "atOnce" "Z", Cond.constantLong RX6 350 (4), Cond.fieldLink RX6 319 "TileHouse" "behindFour" "Z", Cond.constantLong RX6 352 (64), Cond.fieldLink RX6 45 "TileHouse" "phase" "I", Cond.constantLong RX6 354 (128), Cond.constantLong RX6 356 (32), Cond.constantLong RX6 358 (16), Cond.methodLink RX6 140 yX4_left, Cond.instanceMethod yX4_left]
def wsX6_winByTile_r3 : List Cond := [Cond.selects RX4 yX4_left yX4_left, Cond.initialized RX4, Cond.code yX4_left cX4_left 1 (some .int), Cond.fieldLink RX4 19 "TileHouse$Wall" "stands" "Z", Cond.fieldLink RX4 27 "TileHouse$Wall" "fours" "I", Cond.fieldLink RX4 23 "TileHouse$Wall" "next" "I", Cond.methodLink RX6 338 yX6_firstDraw, Cond.instanceMethod yX6_firstDraw, Cond.selects RX6 yX6_firstDraw yX6_firstDraw, Cond.code yX6_firstDraw cX6_firstDraw 3 (some .long), Cond.fieldLink RX6 86 "TileHouse" "broken" "Z", Cond.fieldLink RX6 107 "TileHouse$Seat" "discards" "I", Cond.methodLink RX6 342 yX4_dearTiles, Cond.instanceMethod yX4_dearTiles, Cond.selects RX4 yX4_dearTiles yX4_dearTiles, Cond.code yX4_dearTiles cX4_dearTiles 6 (some .int), Cond.methodLink RX4 34 yX4_signs, Cond.instanceMethod yX4_signs, Cond.selects RX4 yX4_signs yX4_signs, Cond.code yX4_signs cX4_signs 1 (some .int), Cond.methodLink RX4 30 yX4_kindAt, Cond.instanceMethod yX4_kindAt, Cond.selects RX4 yX4_kindAt yX4_kindAt, Cond.code yX4_kindAt cX4_kindAt 2 (some .int)]
def wsX6_winByTile_r4 : List Cond := [Cond.fieldLink RX4 11 "TileHouse$Wall" "kinds" "[I", Cond.methodLink RX4 38 yX4_behind, Cond.static yX4_behind, Cond.code yX4_behind cX4_behind 1 (some .int), Cond.methodLink RX4 41 yX3_all, Cond.instanceMethod yX3_all, Cond.selects RX3 yX3_all yX3_all, Cond.code yX3_all cX3_all 2 (some .int), Cond.methodLink RX6 263 yX6_windOf, Cond.instanceMethod yX6_windOf, Cond.selects RX6 yX6_windOf yX6_windOf, Cond.code yX6_windOf cX6_windOf 2 (some .int), Cond.methodLink RX6 304 yX1_judge, Cond.instanceMethod yX1_judge, Cond.selects RX1 yX1_judge yX1_judge, Cond.initialized RX1, Cond.code yX1_judge cX1_judge 11 none, Cond.fieldLink RX1 21 "TileHouse$Judge" "base" "I", Cond.fieldLink RX1 25 "TileHouse$Judge" "han" "I", Cond.fieldLink RX1 28 "TileHouse$Judge" "fu" "I", Cond.fieldLink RX1 31 "TileHouse$Judge" "best" "J", Cond.fieldLink RX1 35 "TileHouse$Judge" "ways" "I", Cond.fieldLink RX1 48 "TileHouse$Judge" "tiles" "LTileHouse$Tiles;", Cond.fieldLink RX1 52 "TileHouse$Judge" "winner" "I"]
def wsX6_winByTile_r5 : List Cond := [Cond.fieldLink RX1 55 "TileHouse$Judge" "drawn" "Z", Cond.fieldLink RX1 63 "TileHouse$Judge" "open" "Z", Cond.fieldLink RX1 66 "TileHouse$Judge" "seatWind" "I", Cond.fieldLink RX1 69 "TileHouse$Judge" "roundWind" "I", Cond.fieldLink RX1 72 "TileHouse$Judge" "dear" "I", Cond.fieldLink RX1 86 "TileHouse$Judge" "shared" "J", Cond.constantLong RX1 94 (65536), Cond.constantLong RX1 103 (4294967296), Cond.fieldLink RX1 105 "TileHouse$Judge" "pair" "I", Cond.fieldLink RX1 108 "TileHouse$Tiles" "free" "[I", Cond.methodLink RX1 38 yX3_size, Cond.instanceMethod yX3_size, Cond.selects RX3 yX3_size yX3_size, Cond.code yX3_size cX3_size 1 (some .int), Cond.fieldLink RX3 24 "TileHouse$Tiles" "laidDown" "I", Cond.methodLink RX1 44 yX3_free, Cond.instanceMethod yX3_free, Cond.selects RX3 yX3_free yX3_free, Cond.code yX3_free cX3_free 2 (some .int), Cond.methodLink RX1 59 yX3_isOpen, Cond.instanceMethod yX3_isOpen, Cond.selects RX3 yX3_isOpen yX3_isOpen, Cond.code yX3_isOpen cX3_isOpen 2 (some .boolean), Cond.fieldLink RX3 18 "TileHouse$Tiles" "sort" "[I"]
def wsX6_winByTile_r6 : List Cond := [Cond.methodLink RX1 75 yX1_toldOnes, Cond.instanceMethod yX1_toldOnes, Cond.selects RX1 yX1_toldOnes yX1_toldOnes, Cond.code yX1_toldOnes cX1_toldOnes 5 (some .long), Cond.constantLong RX1 124 (13194139533559), Cond.constantLong RX1 126 (-2), Cond.constantLong RX1 128 (8), Cond.methodLink RX1 79 yX3_kinds, Cond.instanceMethod yX3_kinds, Cond.selects RX3 yX3_kinds yX3_kinds, Cond.code yX3_kinds cX3_kinds 4 (some .long), Cond.methodLink RX1 83 yX1_tileForms, Cond.instanceMethod yX1_tileForms, Cond.selects RX1 yX1_tileForms yX1_tileForms, Cond.code yX1_tileForms cX1_tileForms 6 (some .long), Cond.constantLong RX1 130 (17045651456), Cond.constantLong RX1 132 (511), Cond.constantLong RX1 134 (17113154305), Cond.constantLong RX1 140 (-17113154306), Cond.constantLong RX1 142 (-17045651457), Cond.constantLong RX1 144 (-67502850), Cond.constantLong RX1 146 (-4340580353), Cond.methodLink RX1 136 yX1_bit, Cond.static yX1_bit]
def wsX6_winByTile_r7 : List Cond := [Cond.code yX1_bit cX1_bit 2 (some .long), Cond.methodLink RX1 148 yX1_isNineGates, Cond.instanceMethod yX1_isNineGates, Cond.selects RX1 yX1_isNineGates yX1_isNineGates, Cond.code yX1_isNineGates cX1_isNineGates 4 (some .boolean), Cond.fieldLink RX1 151 "TileHouse$Tiles" "laidDown" "I", Cond.methodLink RX1 89 yX3_isSevenPairs, Cond.instanceMethod yX3_isSevenPairs, Cond.selects RX3 yX3_isSevenPairs yX3_isSevenPairs, Cond.code yX3_isSevenPairs cX3_isSevenPairs 2 (some .boolean), Cond.methodLink RX1 96 yX1_offer, Cond.instanceMethod yX1_offer, Cond.selects RX1 yX1_offer yX1_offer, Cond.code yX1_offer cX1_offer 10 none, Cond.constantLong RX1 221 (-268437008), Cond.constantLong RX1 223 (17587891077120), Cond.methodLink RX1 189 yJ13_bitCount_95d88, Cond.static yJ13_bitCount_95d88, Cond.initialized RJ13, Cond.code yJ13_bitCount_95d88 cJ13_bitCount_95d88 2 (some .int), Cond.constantLong RJ13 314 (6148914691236517205), Cond.constantLong RJ13 316 (3689348814741910323), Cond.constantLong RJ13 318 (1085102592571150095), Cond.methodLink RX1 225 yX0_hanOf]
def wsX6_winByTile_r8 : List Cond := [Cond.static yX0_hanOf, Cond.initialized RX0, Cond.code yX0_hanOf cX0_hanOf 5 (some .int), Cond.fieldLink RX0 9 "TileHouse$Forms" "HAN" "[I", Cond.fieldLink RX0 13 "TileHouse$Forms" "OPEN_HAN" "[I", Cond.methodLink RX1 229 yX0_baseOf, Cond.static yX0_baseOf, Cond.code yX0_baseOf cX0_baseOf 3 (some .int), Cond.methodLink RX1 232 yX1_isBetter, Cond.instanceMethod yX1_isBetter, Cond.selects RX1 yX1_isBetter yX1_isBetter, Cond.code yX1_isBetter cX1_isBetter 6 (some .boolean), Cond.methodLink RX1 100 yX3_isThirteen, Cond.instanceMethod yX3_isThirteen, Cond.selects RX3 yX3_isThirteen yX3_isThirteen, Cond.code yX3_isThirteen cX3_isThirteen 1 (some .boolean), Cond.constantLong RX3 69 (17113154305), Cond.methodLink RX3 65 yX3_kinds, Cond.methodLink RX1 110 yX1_findThrees, Cond.instanceMethod yX1_findThrees, Cond.selects RX1 yX1_findThrees yX1_findThrees, Cond.code yX1_findThrees cX1_findThrees 3 (some .int), Cond.fieldLink RX1 18 "TileHouse$Judge" "mayBeThrees" "[I", Cond.methodLink RX1 113 yX1_chosenThrees]
def wsX6_winByTile_r9 : List Cond := [Cond.instanceMethod yX1_chosenThrees, Cond.selects RX1 yX1_chosenThrees yX1_chosenThrees, Cond.code yX1_chosenThrees cX1_chosenThrees 5 (some .long), Cond.methodLink RX1 117 yX1_fillWay, Cond.instanceMethod yX1_fillWay, Cond.selects RX1 yX1_fillWay yX1_fillWay, Cond.code yX1_fillWay cX1_fillWay 10 (some .boolean), Cond.fieldLink RX1 9 "TileHouse$Judge" "sort" "[I", Cond.fieldLink RX1 154 "TileHouse$Tiles" "sort" "[I", Cond.fieldLink RX1 15 "TileHouse$Judge" "low" "[I", Cond.fieldLink RX1 155 "TileHouse$Tiles" "low" "[I", Cond.static yX6_holds, Cond.code yX6_holds cX6_holds 3 (some .boolean), Cond.static yX6_startsRun, Cond.code yX6_startsRun cX6_startsRun 1 (some .boolean), Cond.methodLink RX1 121 yX1_weighWay, Cond.instanceMethod yX1_weighWay, Cond.selects RX1 yX1_weighWay yX1_weighWay, Cond.code yX1_weighWay cX1_weighWay 4 none, Cond.fieldLink RX1 164 "TileHouse$Judge" "runs" "J", Cond.fieldLink RX1 167 "TileHouse$Judge" "threes" "J", Cond.methodLink RX1 170 yX1_likeRuns, Cond.instanceMethod yX1_likeRuns, Cond.selects RX1 yX1_likeRuns yX1_likeRuns]
def wsX6_winByTile_r10 : List Cond := [Cond.code yX1_likeRuns cX1_likeRuns 5 (some .long), Cond.methodLink RX1 173 yX1_setForms, Cond.instanceMethod yX1_setForms, Cond.selects RX1 yX1_setForms yX1_setForms, Cond.code yX1_setForms cX1_setForms 5 (some .long), Cond.constantLong RX1 185 (73), Cond.constantLong RX1 187 (15032385536), Cond.constantLong RX1 195 (2013265920), Cond.methodLink RX1 176 yX1_endForms, Cond.instanceMethod yX1_endForms, Cond.selects RX1 yX1_endForms yX1_endForms, Cond.code yX1_endForms cX1_endForms 7 (some .long), Cond.constantLong RX1 197 (67502849), Cond.constantLong RX1 199 (7), Cond.methodLink RX1 179 yX1_mayHaveCompleted, Cond.instanceMethod yX1_mayHaveCompleted, Cond.selects RX1 yX1_mayHaveCompleted yX1_mayHaveCompleted, Cond.code yX1_mayHaveCompleted cX1_mayHaveCompleted 4 (some .boolean), Cond.methodLink RX1 182 yX1_weighCompleted, Cond.instanceMethod yX1_weighCompleted, Cond.selects RX1 yX1_weighCompleted yX1_weighCompleted, Cond.code yX1_weighCompleted cX1_weighCompleted 8 none, Cond.methodLink RX1 201 yX1_isHidden, Cond.instanceMethod yX1_isHidden]
def wsX6_winByTile_r11 : List Cond := [Cond.selects RX1 yX1_isHidden yX1_isHidden, Cond.code yX1_isHidden cX1_isHidden 3 (some .boolean), Cond.methodLink RX1 205 yX1_pairFu, Cond.instanceMethod yX1_pairFu, Cond.selects RX1 yX1_pairFu yX1_pairFu, Cond.code yX1_pairFu cX1_pairFu 1 (some .int), Cond.methodLink RX1 208 yX1_waitFu, Cond.instanceMethod yX1_waitFu, Cond.selects RX1 yX1_waitFu yX1_waitFu, Cond.code yX1_waitFu cX1_waitFu 4 (some .int), Cond.methodLink RX1 211 yX1_fuOf, Cond.instanceMethod yX1_fuOf, Cond.selects RX1 yX1_fuOf yX1_fuOf, Cond.code yX1_fuOf cX1_fuOf 6 (some .int), Cond.methodLink RX1 215 Lib.Math.max.name, Cond.static Lib.Math.max.name, Cond.initialized "java/lang/Math", Cond.code Lib.Math.max.name Lib.Math.max.code 2 (some .int), Cond.methodLink RX6 100 yX3_take, Cond.instanceMethod yX3_take, Cond.selects RX3 yX3_take yX3_take, Cond.code yX3_take cX3_take 3 none, Cond.methodLink RX3 35 yX3_put, Cond.methodLink RX6 197 yX6_hundreds]
def wsX6_winByTile_r12 : List Cond := [Cond.static yX6_hundreds, Cond.code yX6_hundreds cX6_hundreds 1 (some .int), Cond.methodLink RX6 206 yX6_recordWin, Cond.instanceMethod yX6_recordWin, Cond.selects RX6 yX6_recordWin yX6_recordWin, Cond.code yX6_recordWin cX6_recordWin 5 none, Cond.fieldLink RX6 83 "TileHouse" "winCount" "I", Cond.fieldLink RX6 31 "TileHouse" "wins" "[LTileHouse$Win;", Cond.fieldLink RX6 360 "TileHouse$Win" "seat" "I", Cond.fieldLink RX6 363 "TileHouse$Win" "payer" "I", Cond.fieldLink RX6 366 "TileHouse$Win" "base" "I", Cond.fieldLink RX6 307 "TileHouse$Judge" "han" "I", Cond.fieldLink RX6 367 "TileHouse$Win" "han" "I", Cond.fieldLink RX6 310 "TileHouse$Judge" "fu" "I", Cond.fieldLink RX6 368 "TileHouse$Win" "fu" "I", Cond.fieldLink RX6 316 "TileHouse$Judge" "best" "J", Cond.fieldLink RX6 275 "TileHouse$Win" "made" "J", Cond.fieldLink RX6 369 "TileHouse$Win" "got" "I", Cond.fieldLink RX6 372 "TileHouse$Win" "kind" "I", Cond.methodLink RX6 209 yX6_endHand, Cond.instanceMethod yX6_endHand, Cond.selects RX6 yX6_endHand yX6_endHand, Cond.code yX6_endHand cX6_endHand 5 none, Cond.fieldLink RX6 284 "TileHouse" "handsEnded" "I"]
def wsX6_winByTile_r13 : List Cond := [Cond.fieldLink RX6 54 "TileHouse" "ended" "Z", Cond.methodLink RX6 375 yX6_someoneIsBroke, Cond.instanceMethod yX6_someoneIsBroke, Cond.selects RX6 yX6_someoneIsBroke yX6_someoneIsBroke, Cond.code yX6_someoneIsBroke cX6_someoneIsBroke 2 (some .boolean), Cond.methodLink RX6 378 yX6_richest, Cond.instanceMethod yX6_richest, Cond.selects RX6 yX6_richest yX6_richest, Cond.code yX6_richest cX6_richest 3 (some .int)]
def wsX6_winByTile : List Cond := .code yX6_winByTile cX6_winByTile 7 none :: ((wsX6_winByTile_r1 ++ (wsX6_winByTile_r2 ++ (wsX6_winByTile_r3 ++ (wsX6_winByTile_r4 ++ (wsX6_winByTile_r5 ++ (wsX6_winByTile_r6 ++ (wsX6_winByTile_r7 ++ (wsX6_winByTile_r8 ++ (wsX6_winByTile_r9 ++ (wsX6_winByTile_r10 ++ (wsX6_winByTile_r11 ++ (wsX6_winByTile_r12 ++ wsX6_winByTile_r13)))))))))))) ++ wsX60 ++ wsX20 ++ wsX10 ++ wsX30 ++ wsX40 ++ wsX50)
def wsX6_letTileGo_r1 : List Cond := [Cond.fieldLink RX6 97 "TileHouse" "turn" "I", Cond.fieldLink RX6 72 "TileHouse$Seat" "tiles" "LTileHouse$Tiles;", Cond.fieldLink RX6 49 "TileHouse" "tile" "I", Cond.fieldLink RX6 219 "TileHouse$Seat" "letGo" "Z", Cond.fieldLink RX6 113 "TileHouse$Seat" "owes" "Z", Cond.fieldLink RX6 203 "TileHouse$Seat" "points" "I", Cond.fieldLink RX6 191 "TileHouse" "bets" "I", Cond.methodLink RX6 65 yX6_at, Cond.instanceMethod yX6_at, Cond.selects RX6 yX6_at yX6_at, Cond.initialized RX6, Cond.code yX6_at cX6_at 2 (some (.object "TileHouse$Seat")), Cond.fieldLink RX6 11 "TileHouse" "players" "[LTileHouse$Seat;", Cond.methodLink RX6 331 yX3_waitsFor, Cond.instanceMethod yX3_waitsFor, Cond.selects RX3 yX3_waitsFor yX3_waitsFor, Cond.initialized RX3, Cond.code yX3_waitsFor cX3_waitsFor 3 (some .boolean), Cond.fieldLink RX3 15 "TileHouse$Tiles" "all" "[I", Cond.methodLink RX3 48 yX3_size, Cond.instanceMethod yX3_size, Cond.selects RX3 yX3_size yX3_size, Cond.code yX3_size cX3_size 1 (some .int), Cond.fieldLink RX3 28 "TileHouse$Tiles" "loose" "I"]
def wsX6_letTileGo_r2 : List Cond := [Cond.fieldLink RX3 24 "TileHouse$Tiles" "laidDown" "I", Cond.static yX6_isKind, Cond.code yX6_isKind cX6_isKind 1 (some .boolean), Cond.methodLink RX3 35 yX3_put, Cond.instanceMethod yX3_put, Cond.selects RX3 yX3_put yX3_put, Cond.code yX3_put cX3_put 3 none, Cond.fieldLink RX3 9 "TileHouse$Tiles" "free" "[I", Cond.methodLink RX3 52 yX3_isSevenPairs, Cond.instanceMethod yX3_isSevenPairs, Cond.selects RX3 yX3_isSevenPairs yX3_isSevenPairs, Cond.code yX3_isSevenPairs cX3_isSevenPairs 2 (some .boolean), Cond.methodLink RX3 56 yX3_isThirteen, Cond.instanceMethod yX3_isThirteen, Cond.selects RX3 yX3_isThirteen yX3_isThirteen, Cond.code yX3_isThirteen cX3_isThirteen 1 (some .boolean), Cond.constantLong RX3 69 (17113154305), Cond.methodLink RX3 65 yX3_kinds, Cond.instanceMethod yX3_kinds, Cond.selects RX3 yX3_kinds yX3_kinds, Cond.code yX3_kinds cX3_kinds 4 (some .long), Cond.methodLink RX3 59 yX3_isSetsAndPair, Cond.instanceMethod yX3_isSetsAndPair, Cond.selects RX3 yX3_isSetsAndPair yX3_isSetsAndPair]
def wsX6_letTileGo_r3 : List Cond := [Cond.code yX3_isSetsAndPair cX3_isSetsAndPair 2 (some .boolean), Cond.methodLink RX3 71 yX3_splitsBeside, Cond.instanceMethod yX3_splitsBeside, Cond.selects RX3 yX3_splitsBeside yX3_splitsBeside, Cond.code yX3_splitsBeside cX3_splitsBeside 7 (some .boolean), Cond.static yX6_startsRun, Cond.code yX6_startsRun cX6_startsRun 1 (some .boolean), Cond.methodLink RX3 62 yX3_take, Cond.instanceMethod yX3_take, Cond.selects RX3 yX3_take yX3_take, Cond.code yX3_take cX3_take 3 none]
def wsX6_letTileGo : List Cond := .code yX6_letTileGo cX6_letTileGo 3 none :: ((wsX6_letTileGo_r1 ++ (wsX6_letTileGo_r2 ++ wsX6_letTileGo_r3)) ++ wsX60 ++ wsX20 ++ wsX30)
def wsX6_breakHand : List Cond := .code yX6_breakHand cX6_breakHand 2 none :: ([.fieldLink RX6 86 "TileHouse" "broken" "Z", .fieldLink RX6 116 "TileHouse$Seat" "atOnce" "Z", .methodLink RX6 65 yX6_at, .instanceMethod yX6_at, .selects RX6 yX6_at yX6_at, .initialized RX6, .code yX6_at cX6_at 2 (some (.object "TileHouse$Seat")), .fieldLink RX6 11 "TileHouse" "players" "[LTileHouse$Seat;"] ++ wsX60 ++ wsX20)
def wsX6_makeFour_r1 : List Cond := [Cond.methodLink RX6 328 yX6_breakHand, Cond.instanceMethod yX6_breakHand, Cond.selects RX6 yX6_breakHand yX6_breakHand, Cond.initialized RX6, Cond.code yX6_breakHand cX6_breakHand 2 none, Cond.fieldLink RX6 86 "TileHouse" "broken" "Z", Cond.fieldLink RX6 116 "TileHouse$Seat" "atOnce" "Z", Cond.methodLink RX6 65 yX6_at, Cond.instanceMethod yX6_at, Cond.selects RX6 yX6_at yX6_at, Cond.code yX6_at cX6_at 2 (some (.object "TileHouse$Seat")), Cond.fieldLink RX6 11 "TileHouse" "players" "[LTileHouse$Seat;", Cond.methodLink RX6 89 yX6_drawTile, Cond.instanceMethod yX6_drawTile, Cond.selects RX6 yX6_drawTile yX6_drawTile, Cond.code yX6_drawTile cX6_drawTile 4 none, Cond.fieldLink RX6 97 "TileHouse" "turn" "I", Cond.fieldLink RX6 45 "TileHouse" "phase" "I", Cond.fieldLink RX6 319 "TileHouse" "behindFour" "Z", Cond.fieldLink RX6 123 "TileHouse" "barred" "J", Cond.fieldLink RX6 18 "TileHouse" "bricks" "LTileHouse$Wall;", Cond.fieldLink RX6 49 "TileHouse" "tile" "I", Cond.fieldLink RX6 72 "TileHouse$Seat" "tiles" "LTileHouse$Tiles;", Cond.fieldLink RX6 110 "TileHouse$Seat" "bet" "I"]
def wsX6_makeFour_r2 : List Cond := [Cond.fieldLink RX6 219 "TileHouse$Seat" "letGo" "Z", Cond.methodLink RX6 322 yX4_drawBehindFour, Cond.instanceMethod yX4_drawBehindFour, Cond.selects RX4 yX4_drawBehindFour yX4_drawBehindFour, Cond.initialized RX4, Cond.code yX4_drawBehindFour cX4_drawBehindFour 1 (some .int), Cond.fieldLink RX4 27 "TileHouse$Wall" "fours" "I", Cond.methodLink RX4 30 yX4_kindAt, Cond.instanceMethod yX4_kindAt, Cond.selects RX4 yX4_kindAt yX4_kindAt, Cond.code yX4_kindAt cX4_kindAt 2 (some .int), Cond.fieldLink RX4 19 "TileHouse$Wall" "stands" "Z", Cond.fieldLink RX4 11 "TileHouse$Wall" "kinds" "[I", Cond.methodLink RX6 325 yX4_draw, Cond.instanceMethod yX4_draw, Cond.selects RX4 yX4_draw yX4_draw, Cond.code yX4_draw cX4_draw 1 (some .int), Cond.fieldLink RX4 23 "TileHouse$Wall" "next" "I", Cond.methodLink RX6 79 yX3_put, Cond.instanceMethod yX3_put, Cond.selects RX3 yX3_put yX3_put, Cond.initialized RX3, Cond.code yX3_put cX3_put 3 none, Cond.fieldLink RX3 9 "TileHouse$Tiles" "free" "[I"]
def wsX6_makeFour_r3 : List Cond := [Cond.fieldLink RX3 15 "TileHouse$Tiles" "all" "[I", Cond.fieldLink RX3 28 "TileHouse$Tiles" "loose" "I", Cond.static yX6_isKind, Cond.code yX6_isKind cX6_isKind 1 (some .boolean)]
def wsX6_makeFour : List Cond := .code yX6_makeFour cX6_makeFour 2 none :: ((wsX6_makeFour_r1 ++ (wsX6_makeFour_r2 ++ wsX6_makeFour_r3)) ++ wsX60 ++ wsX20 ++ wsX40 ++ wsX30)
def wsX6_endUnwon_r1 : List Cond := [Cond.fieldLink RX6 72 "TileHouse$Seat" "tiles" "LTileHouse$Tiles;", Cond.fieldLink RX6 62 "TileHouse" "dealer" "I", Cond.fieldLink RX6 203 "TileHouse$Seat" "points" "I", Cond.methodLink RX6 65 yX6_at, Cond.instanceMethod yX6_at, Cond.selects RX6 yX6_at yX6_at, Cond.initialized RX6, Cond.code yX6_at cX6_at 2 (some (.object "TileHouse$Seat")), Cond.fieldLink RX6 11 "TileHouse" "players" "[LTileHouse$Seat;", Cond.methodLink RX6 222 yX3_waiting, Cond.instanceMethod yX3_waiting, Cond.selects RX3 yX3_waiting yX3_waiting, Cond.initialized RX3, Cond.code yX3_waiting cX3_waiting 4 (some .long), Cond.methodLink RX3 45 yX3_waitsFor, Cond.instanceMethod yX3_waitsFor, Cond.selects RX3 yX3_waitsFor yX3_waitsFor, Cond.code yX3_waitsFor cX3_waitsFor 3 (some .boolean), Cond.fieldLink RX3 15 "TileHouse$Tiles" "all" "[I", Cond.methodLink RX3 48 yX3_size, Cond.instanceMethod yX3_size, Cond.selects RX3 yX3_size yX3_size, Cond.code yX3_size cX3_size 1 (some .int), Cond.fieldLink RX3 28 "TileHouse$Tiles" "loose" "I"]
def wsX6_endUnwon_r2 : List Cond := [Cond.fieldLink RX3 24 "TileHouse$Tiles" "laidDown" "I", Cond.static yX6_isKind, Cond.code yX6_isKind cX6_isKind 1 (some .boolean), Cond.methodLink RX3 35 yX3_put, Cond.instanceMethod yX3_put, Cond.selects RX3 yX3_put yX3_put, Cond.code yX3_put cX3_put 3 none, Cond.fieldLink RX3 9 "TileHouse$Tiles" "free" "[I", Cond.methodLink RX3 52 yX3_isSevenPairs, Cond.instanceMethod yX3_isSevenPairs, Cond.selects RX3 yX3_isSevenPairs yX3_isSevenPairs, Cond.code yX3_isSevenPairs cX3_isSevenPairs 2 (some .boolean), Cond.methodLink RX3 56 yX3_isThirteen, Cond.instanceMethod yX3_isThirteen, Cond.selects RX3 yX3_isThirteen yX3_isThirteen, Cond.code yX3_isThirteen cX3_isThirteen 1 (some .boolean), Cond.constantLong RX3 69 (17113154305), Cond.methodLink RX3 65 yX3_kinds, Cond.instanceMethod yX3_kinds, Cond.selects RX3 yX3_kinds yX3_kinds, Cond.code yX3_kinds cX3_kinds 4 (some .long), Cond.methodLink RX3 59 yX3_isSetsAndPair, Cond.instanceMethod yX3_isSetsAndPair, Cond.selects RX3 yX3_isSetsAndPair yX3_isSetsAndPair]
def wsX6_endUnwon_r3 : List Cond := [Cond.code yX3_isSetsAndPair cX3_isSetsAndPair 2 (some .boolean), Cond.methodLink RX3 71 yX3_splitsBeside, Cond.instanceMethod yX3_splitsBeside, Cond.selects RX3 yX3_splitsBeside yX3_splitsBeside, Cond.code yX3_splitsBeside cX3_splitsBeside 7 (some .boolean), Cond.static yX6_startsRun, Cond.code yX6_startsRun cX6_startsRun 1 (some .boolean), Cond.methodLink RX3 62 yX3_take, Cond.instanceMethod yX3_take, Cond.selects RX3 yX3_take yX3_take, Cond.code yX3_take cX3_take 3 none, Cond.methodLink RX6 209 yX6_endHand, Cond.instanceMethod yX6_endHand, Cond.selects RX6 yX6_endHand yX6_endHand, Cond.code yX6_endHand cX6_endHand 5 none, Cond.fieldLink RX6 45 "TileHouse" "phase" "I", Cond.fieldLink RX6 284 "TileHouse" "handsEnded" "I", Cond.fieldLink RX6 278 "TileHouse" "round" "I", Cond.fieldLink RX6 54 "TileHouse" "ended" "Z", Cond.fieldLink RX6 191 "TileHouse" "bets" "I", Cond.fieldLink RX6 200 "TileHouse" "stays" "I", Cond.methodLink RX6 375 yX6_someoneIsBroke, Cond.instanceMethod yX6_someoneIsBroke, Cond.selects RX6 yX6_someoneIsBroke yX6_someoneIsBroke]
def wsX6_endUnwon_r4 : List Cond := [Cond.code yX6_someoneIsBroke cX6_someoneIsBroke 2 (some .boolean), Cond.methodLink RX6 378 yX6_richest, Cond.instanceMethod yX6_richest, Cond.selects RX6 yX6_richest yX6_richest, Cond.code yX6_richest cX6_richest 3 (some .int)]
def wsX6_endUnwon : List Cond := .code yX6_endUnwon cX6_endUnwon 6 none :: ((wsX6_endUnwon_r1 ++ (wsX6_endUnwon_r2 ++ (wsX6_endUnwon_r3 ++ wsX6_endUnwon_r4))) ++ wsX20 ++ wsX60 ++ wsX30)
def wsX6_pass_r1 : List Cond := [Cond.fieldLink RX6 45 "TileHouse" "phase" "I", Cond.fieldLink RX6 97 "TileHouse" "turn" "I", Cond.fieldLink RX6 18 "TileHouse" "bricks" "LTileHouse$Wall;", Cond.methodLink RX6 127 yX6_someoneSays, Cond.instanceMethod yX6_someoneSays, Cond.selects RX6 yX6_someoneSays yX6_someoneSays, Cond.initialized RX6, Cond.code yX6_someoneSays cX6_someoneSays 2 (some .boolean), Cond.fieldLink RX6 216 "TileHouse$Seat" "says" "Z", Cond.methodLink RX6 65 yX6_at, Cond.instanceMethod yX6_at, Cond.selects RX6 yX6_at yX6_at, Cond.code yX6_at cX6_at 2 (some (.object "TileHouse$Seat")), Cond.fieldLink RX6 11 "TileHouse" "players" "[LTileHouse$Seat;", Cond.methodLink RX6 131 yX6_winByTile, Cond.instanceMethod yX6_winByTile, Cond.selects RX6 yX6_winByTile yX6_winByTile, Cond.code yX6_winByTile cX6_winByTile 7 none, Cond.fieldLink RX6 200 "TileHouse" "stays" "I", Cond.fieldLink RX6 62 "TileHouse" "dealer" "I", Cond.fieldLink RX6 191 "TileHouse" "bets" "I", Cond.fieldLink RX6 203 "TileHouse$Seat" "points" "I", Cond.methodLink RX6 187 yX6_weighHand, Cond.instanceMethod yX6_weighHand]
def wsX6_pass_r2 : List Cond := [Cond.selects RX6 yX6_weighHand yX6_weighHand, Cond.code yX6_weighHand cX6_weighHand 7 (some .int), Cond.fieldLink RX6 72 "TileHouse$Seat" "tiles" "LTileHouse$Tiles;", Cond.fieldLink RX6 49 "TileHouse" "tile" "I", Cond.fieldLink RX6 110 "TileHouse$Seat" "bet" "I", Cond.fieldLink RX6 25 "TileHouse" "judge" "LTileHouse$Judge;", Cond.fieldLink RX6 278 "TileHouse" "round" "I", Cond.fieldLink RX6 194 "TileHouse$Judge" "base" "I", Cond.methodLink RX6 79 yX3_put, Cond.instanceMethod yX3_put, Cond.selects RX3 yX3_put yX3_put, Cond.initialized RX3, Cond.code yX3_put cX3_put 3 none, Cond.fieldLink RX3 9 "TileHouse$Tiles" "free" "[I", Cond.fieldLink RX3 15 "TileHouse$Tiles" "all" "[I", Cond.fieldLink RX3 28 "TileHouse$Tiles" "loose" "I", Cond.static yX6_isKind, Cond.code yX6_isKind cX6_isKind 1 (some .boolean), Cond.methodLink RX6 334 yX6_toldForms, Cond.instanceMethod yX6_toldForms, Cond.selects RX6 yX6_toldForms yX6_toldForms, Cond.code yX6_toldForms cX6_toldForms 5 (some .long), Cond.constantLong RX6 348 (2), Cond.fieldLink RX6 116 "TileHouse$Seat" "atOnce" "Z"]
def wsX6_pass_r3 : List Cond := [Cond.constantLong RX6 350 (4), Cond.fieldLink RX6 319 "TileHouse" "behindFour" "Z", Cond.constantLong RX6 352 (64), Cond.constantLong RX6 354 (128), Cond.constantLong RX6 356 (32), Cond.constantLong RX6 358 (16), Cond.methodLink RX6 140 yX4_left, Cond.instanceMethod yX4_left, Cond.selects RX4 yX4_left yX4_left, Cond.initialized RX4, Cond.code yX4_left cX4_left 1 (some .int), Cond.fieldLink RX4 19 "TileHouse$Wall" "stands" "Z", Cond.fieldLink RX4 27 "TileHouse$Wall" "fours" "I", Cond.fieldLink RX4 23 "TileHouse$Wall" "next" "I", Cond.methodLink RX6 338 yX6_firstDraw, Cond.instanceMethod yX6_firstDraw, Cond.selects RX6 yX6_firstDraw yX6_firstDraw, Cond.code yX6_firstDraw cX6_firstDraw 3 (some .long), Cond.fieldLink RX6 86 "TileHouse" "broken" "Z", Cond.fieldLink RX6 107 "TileHouse$Seat" "discards" "I", Cond.methodLink RX6 342 yX4_dearTiles, Cond.instanceMethod yX4_dearTiles, Cond.selects RX4 yX4_dearTiles yX4_dearTiles, Cond.code yX4_dearTiles cX4_dearTiles 6 (some .int)]
def wsX6_pass_r4 : List Cond := [Cond.methodLink RX4 34 yX4_signs, Cond.instanceMethod yX4_signs, Cond.selects RX4 yX4_signs yX4_signs, Cond.code yX4_signs cX4_signs 1 (some .int), Cond.methodLink RX4 30 yX4_kindAt, Cond.instanceMethod yX4_kindAt, Cond.selects RX4 yX4_kindAt yX4_kindAt, Cond.code yX4_kindAt cX4_kindAt 2 (some .int), Cond.fieldLink RX4 11 "TileHouse$Wall" "kinds" "[I", Cond.methodLink RX4 38 yX4_behind, Cond.static yX4_behind, Cond.code yX4_behind cX4_behind 1 (some .int), Cond.methodLink RX4 41 yX3_all, Cond.instanceMethod yX3_all, Cond.selects RX3 yX3_all yX3_all, Cond.code yX3_all cX3_all 2 (some .int), Cond.methodLink RX6 263 yX6_windOf, Cond.instanceMethod yX6_windOf, Cond.selects RX6 yX6_windOf yX6_windOf, Cond.code yX6_windOf cX6_windOf 2 (some .int), Cond.methodLink RX6 304 yX1_judge, Cond.instanceMethod yX1_judge, Cond.selects RX1 yX1_judge yX1_judge, Cond.initialized RX1]
def wsX6_pass_r5 : List Cond := [Cond.code yX1_judge cX1_judge 11 none, Cond.fieldLink RX1 21 "TileHouse$Judge" "base" "I", Cond.fieldLink RX1 25 "TileHouse$Judge" "han" "I", Cond.fieldLink RX1 28 "TileHouse$Judge" "fu" "I", Cond.fieldLink RX1 31 "TileHouse$Judge" "best" "J", Cond.fieldLink RX1 35 "TileHouse$Judge" "ways" "I", Cond.fieldLink RX1 48 "TileHouse$Judge" "tiles" "LTileHouse$Tiles;", Cond.fieldLink RX1 52 "TileHouse$Judge" "winner" "I", Cond.fieldLink RX1 55 "TileHouse$Judge" "drawn" "Z", Cond.fieldLink RX1 63 "TileHouse$Judge" "open" "Z", Cond.fieldLink RX1 66 "TileHouse$Judge" "seatWind" "I", Cond.fieldLink RX1 69 "TileHouse$Judge" "roundWind" "I", Cond.fieldLink RX1 72 "TileHouse$Judge" "dear" "I", Cond.fieldLink RX1 86 "TileHouse$Judge" "shared" "J", Cond.constantLong RX1 94 (65536), Cond.constantLong RX1 103 (4294967296), Cond.fieldLink RX1 105 "TileHouse$Judge" "pair" "I", Cond.fieldLink RX1 108 "TileHouse$Tiles" "free" "[I", Cond.methodLink RX1 38 yX3_size, Cond.instanceMethod yX3_size, Cond.selects RX3 yX3_size yX3_size, Cond.code yX3_size cX3_size 1 (some .int), Cond.fieldLink RX3 24 "TileHouse$Tiles" "laidDown" "I", Cond.methodLink RX1 44 yX3_free]
def wsX6_pass_r6 : List Cond := [Cond.instanceMethod yX3_free, Cond.selects RX3 yX3_free yX3_free, Cond.code yX3_free cX3_free 2 (some .int), Cond.methodLink RX1 59 yX3_isOpen, Cond.instanceMethod yX3_isOpen, Cond.selects RX3 yX3_isOpen yX3_isOpen, Cond.code yX3_isOpen cX3_isOpen 2 (some .boolean), Cond.fieldLink RX3 18 "TileHouse$Tiles" "sort" "[I", Cond.methodLink RX1 75 yX1_toldOnes, Cond.instanceMethod yX1_toldOnes, Cond.selects RX1 yX1_toldOnes yX1_toldOnes, Cond.code yX1_toldOnes cX1_toldOnes 5 (some .long), Cond.constantLong RX1 124 (13194139533559), Cond.constantLong RX1 126 (-2), Cond.constantLong RX1 128 (8), Cond.methodLink RX1 79 yX3_kinds, Cond.instanceMethod yX3_kinds, Cond.selects RX3 yX3_kinds yX3_kinds, Cond.code yX3_kinds cX3_kinds 4 (some .long), Cond.methodLink RX1 83 yX1_tileForms, Cond.instanceMethod yX1_tileForms, Cond.selects RX1 yX1_tileForms yX1_tileForms, Cond.code yX1_tileForms cX1_tileForms 6 (some .long), Cond.constantLong RX1 130 (17045651456)]
def wsX6_pass_r7 : List Cond := [Cond.constantLong RX1 132 (511), Cond.constantLong RX1 134 (17113154305), Cond.constantLong RX1 140 (-17113154306), Cond.constantLong RX1 142 (-17045651457), Cond.constantLong RX1 144 (-67502850), Cond.constantLong RX1 146 (-4340580353), Cond.methodLink RX1 136 yX1_bit, Cond.static yX1_bit, Cond.code yX1_bit cX1_bit 2 (some .long), Cond.methodLink RX1 148 yX1_isNineGates, Cond.instanceMethod yX1_isNineGates, Cond.selects RX1 yX1_isNineGates yX1_isNineGates, Cond.code yX1_isNineGates cX1_isNineGates 4 (some .boolean), Cond.fieldLink RX1 151 "TileHouse$Tiles" "laidDown" "I", Cond.methodLink RX1 89 yX3_isSevenPairs, Cond.instanceMethod yX3_isSevenPairs, Cond.selects RX3 yX3_isSevenPairs yX3_isSevenPairs, Cond.code yX3_isSevenPairs cX3_isSevenPairs 2 (some .boolean), Cond.methodLink RX1 96 yX1_offer, Cond.instanceMethod yX1_offer, Cond.selects RX1 yX1_offer yX1_offer, Cond.code yX1_offer cX1_offer 10 none, Cond.constantLong RX1 221 (-268437008), Cond.constantLong RX1 223 (17587891077120)]
def wsX6_pass_r8 : List Cond := [Cond.methodLink RX1 189 yJ13_bitCount_95d88, Cond.static yJ13_bitCount_95d88, Cond.initialized RJ13, Cond.code yJ13_bitCount_95d88 cJ13_bitCount_95d88 2 (some .int), Cond.constantLong RJ13 314 (6148914691236517205), Cond.constantLong RJ13 316 (3689348814741910323), Cond.constantLong RJ13 318 (1085102592571150095), Cond.methodLink RX1 225 yX0_hanOf, Cond.static yX0_hanOf, Cond.initialized RX0, Cond.code yX0_hanOf cX0_hanOf 5 (some .int), Cond.fieldLink RX0 9 "TileHouse$Forms" "HAN" "[I", Cond.fieldLink RX0 13 "TileHouse$Forms" "OPEN_HAN" "[I", Cond.methodLink RX1 229 yX0_baseOf, Cond.static yX0_baseOf, Cond.code yX0_baseOf cX0_baseOf 3 (some .int), Cond.methodLink RX1 232 yX1_isBetter, Cond.instanceMethod yX1_isBetter, Cond.selects RX1 yX1_isBetter yX1_isBetter, Cond.code yX1_isBetter cX1_isBetter 6 (some .boolean), Cond.methodLink RX1 100 yX3_isThirteen, Cond.instanceMethod yX3_isThirteen, Cond.selects RX3 yX3_isThirteen yX3_isThirteen, Cond.code yX3_isThirteen cX3_isThirteen 1 (some .boolean)]
def wsX6_pass_r9 : List Cond := [Cond.constantLong RX3 69 (17113154305), Cond.methodLink RX3 65 yX3_kinds, Cond.methodLink RX1 110 yX1_findThrees, Cond.instanceMethod yX1_findThrees, Cond.selects RX1 yX1_findThrees yX1_findThrees, Cond.code yX1_findThrees cX1_findThrees 3 (some .int), Cond.fieldLink RX1 18 "TileHouse$Judge" "mayBeThrees" "[I", Cond.methodLink RX1 113 yX1_chosenThrees, Cond.instanceMethod yX1_chosenThrees, Cond.selects RX1 yX1_chosenThrees yX1_chosenThrees, Cond.code yX1_chosenThrees cX1_chosenThrees 5 (some .long), Cond.methodLink RX1 117 yX1_fillWay, Cond.instanceMethod yX1_fillWay, Cond.selects RX1 yX1_fillWay yX1_fillWay, Cond.code yX1_fillWay cX1_fillWay 10 (some .boolean), Cond.fieldLink RX1 9 "TileHouse$Judge" "sort" "[I", Cond.fieldLink RX1 154 "TileHouse$Tiles" "sort" "[I", Cond.fieldLink RX1 15 "TileHouse$Judge" "low" "[I", Cond.fieldLink RX1 155 "TileHouse$Tiles" "low" "[I", Cond.static yX6_holds, Cond.code yX6_holds cX6_holds 3 (some .boolean), Cond.static yX6_startsRun, Cond.code yX6_startsRun cX6_startsRun 1 (some .boolean), Cond.methodLink RX1 121 yX1_weighWay]
def wsX6_pass_r10 : List Cond := [Cond.instanceMethod yX1_weighWay, Cond.selects RX1 yX1_weighWay yX1_weighWay, Cond.code yX1_weighWay cX1_weighWay 4 none, Cond.fieldLink RX1 164 "TileHouse$Judge" "runs" "J", Cond.fieldLink RX1 167 "TileHouse$Judge" "threes" "J", Cond.methodLink RX1 170 yX1_likeRuns, Cond.instanceMethod yX1_likeRuns, Cond.selects RX1 yX1_likeRuns yX1_likeRuns, Cond.code yX1_likeRuns cX1_likeRuns 5 (some .long), Cond.methodLink RX1 173 yX1_setForms, Cond.instanceMethod yX1_setForms, Cond.selects RX1 yX1_setForms yX1_setForms, Cond.code yX1_setForms cX1_setForms 5 (some .long), Cond.constantLong RX1 185 (73), Cond.constantLong RX1 187 (15032385536), Cond.constantLong RX1 195 (2013265920), Cond.methodLink RX1 176 yX1_endForms, Cond.instanceMethod yX1_endForms, Cond.selects RX1 yX1_endForms yX1_endForms, Cond.code yX1_endForms cX1_endForms 7 (some .long), Cond.constantLong RX1 197 (67502849), Cond.constantLong RX1 199 (7), Cond.methodLink RX1 179 yX1_mayHaveCompleted, Cond.instanceMethod yX1_mayHaveCompleted]
def wsX6_pass_r11 : List Cond := [Cond.selects RX1 yX1_mayHaveCompleted yX1_mayHaveCompleted, Cond.code yX1_mayHaveCompleted cX1_mayHaveCompleted 4 (some .boolean), Cond.methodLink RX1 182 yX1_weighCompleted, Cond.instanceMethod yX1_weighCompleted, Cond.selects RX1 yX1_weighCompleted yX1_weighCompleted, Cond.code yX1_weighCompleted cX1_weighCompleted 8 none, Cond.methodLink RX1 201 yX1_isHidden, Cond.instanceMethod yX1_isHidden, Cond.selects RX1 yX1_isHidden yX1_isHidden, Cond.code yX1_isHidden cX1_isHidden 3 (some .boolean), Cond.methodLink RX1 205 yX1_pairFu, Cond.instanceMethod yX1_pairFu, Cond.selects RX1 yX1_pairFu yX1_pairFu, Cond.code yX1_pairFu cX1_pairFu 1 (some .int), Cond.methodLink RX1 208 yX1_waitFu, Cond.instanceMethod yX1_waitFu, Cond.selects RX1 yX1_waitFu yX1_waitFu, Cond.code yX1_waitFu cX1_waitFu 4 (some .int), Cond.methodLink RX1 211 yX1_fuOf, Cond.instanceMethod yX1_fuOf, Cond.selects RX1 yX1_fuOf yX1_fuOf, Cond.code yX1_fuOf cX1_fuOf 6 (some .int), Cond.methodLink RX1 215 Lib.Math.max.name, Cond.static Lib.Math.max.name]
def wsX6_pass_r12 : List Cond := [Cond.initialized "java/lang/Math", Cond.code Lib.Math.max.name Lib.Math.max.code 2 (some .int), Cond.methodLink RX6 100 yX3_take, Cond.instanceMethod yX3_take, Cond.selects RX3 yX3_take yX3_take, Cond.code yX3_take cX3_take 3 none, Cond.methodLink RX3 35 yX3_put, Cond.methodLink RX6 197 yX6_hundreds, Cond.static yX6_hundreds, Cond.code yX6_hundreds cX6_hundreds 1 (some .int), Cond.methodLink RX6 206 yX6_recordWin, Cond.instanceMethod yX6_recordWin, Cond.selects RX6 yX6_recordWin yX6_recordWin, Cond.code yX6_recordWin cX6_recordWin 5 none, Cond.fieldLink RX6 83 "TileHouse" "winCount" "I", Cond.fieldLink RX6 31 "TileHouse" "wins" "[LTileHouse$Win;", Cond.fieldLink RX6 360 "TileHouse$Win" "seat" "I", Cond.fieldLink RX6 363 "TileHouse$Win" "payer" "I", Cond.fieldLink RX6 366 "TileHouse$Win" "base" "I", Cond.fieldLink RX6 307 "TileHouse$Judge" "han" "I", Cond.fieldLink RX6 367 "TileHouse$Win" "han" "I", Cond.fieldLink RX6 310 "TileHouse$Judge" "fu" "I", Cond.fieldLink RX6 368 "TileHouse$Win" "fu" "I", Cond.fieldLink RX6 316 "TileHouse$Judge" "best" "J"]
def wsX6_pass_r13 : List Cond := [Cond.fieldLink RX6 275 "TileHouse$Win" "made" "J", Cond.fieldLink RX6 369 "TileHouse$Win" "got" "I", Cond.fieldLink RX6 372 "TileHouse$Win" "kind" "I", Cond.methodLink RX6 209 yX6_endHand, Cond.instanceMethod yX6_endHand, Cond.selects RX6 yX6_endHand yX6_endHand, Cond.code yX6_endHand cX6_endHand 5 none, Cond.fieldLink RX6 284 "TileHouse" "handsEnded" "I", Cond.fieldLink RX6 54 "TileHouse" "ended" "Z", Cond.methodLink RX6 375 yX6_someoneIsBroke, Cond.instanceMethod yX6_someoneIsBroke, Cond.selects RX6 yX6_someoneIsBroke yX6_someoneIsBroke, Cond.code yX6_someoneIsBroke cX6_someoneIsBroke 2 (some .boolean), Cond.methodLink RX6 378 yX6_richest, Cond.instanceMethod yX6_richest, Cond.selects RX6 yX6_richest yX6_richest, Cond.code yX6_richest cX6_richest 3 (some .int), Cond.methodLink RX6 134 yX6_letTileGo, Cond.instanceMethod yX6_letTileGo, Cond.selects RX6 yX6_letTileGo yX6_letTileGo, Cond.code yX6_letTileGo cX6_letTileGo 3 none, Cond.fieldLink RX6 219 "TileHouse$Seat" "letGo" "Z", Cond.fieldLink RX6 113 "TileHouse$Seat" "owes" "Z", Cond.methodLink RX6 331 yX3_waitsFor]
def wsX6_pass_r14 : List Cond := [Cond.instanceMethod yX3_waitsFor, Cond.selects RX3 yX3_waitsFor yX3_waitsFor, Cond.code yX3_waitsFor cX3_waitsFor 3 (some .boolean), Cond.methodLink RX3 48 yX3_size, Cond.methodLink RX3 52 yX3_isSevenPairs, Cond.methodLink RX3 56 yX3_isThirteen, Cond.methodLink RX3 59 yX3_isSetsAndPair, Cond.instanceMethod yX3_isSetsAndPair, Cond.selects RX3 yX3_isSetsAndPair yX3_isSetsAndPair, Cond.code yX3_isSetsAndPair cX3_isSetsAndPair 2 (some .boolean), Cond.methodLink RX3 71 yX3_splitsBeside, Cond.instanceMethod yX3_splitsBeside, Cond.selects RX3 yX3_splitsBeside yX3_splitsBeside, Cond.code yX3_splitsBeside cX3_splitsBeside 7 (some .boolean), Cond.methodLink RX3 62 yX3_take, Cond.methodLink RX6 137 yX6_makeFour, Cond.instanceMethod yX6_makeFour, Cond.selects RX6 yX6_makeFour yX6_makeFour, Cond.code yX6_makeFour cX6_makeFour 2 none, Cond.methodLink RX6 328 yX6_breakHand, Cond.instanceMethod yX6_breakHand, Cond.selects RX6 yX6_breakHand yX6_breakHand, Cond.code yX6_breakHand cX6_breakHand 2 none, Cond.methodLink RX6 89 yX6_drawTile]
def wsX6_pass_r15 : List Cond := [Cond.instanceMethod yX6_drawTile, Cond.selects RX6 yX6_drawTile yX6_drawTile, Cond.code yX6_drawTile cX6_drawTile 4 none, Cond.fieldLink RX6 123 "TileHouse" "barred" "J", Cond.methodLink RX6 322 yX4_drawBehindFour, Cond.instanceMethod yX4_drawBehindFour, Cond.selects RX4 yX4_drawBehindFour yX4_drawBehindFour, Cond.code yX4_drawBehindFour cX4_drawBehindFour 1 (some .int), Cond.methodLink RX6 325 yX4_draw, Cond.instanceMethod yX4_draw, Cond.selects RX4 yX4_draw yX4_draw, Cond.code yX4_draw cX4_draw 1 (some .int), Cond.methodLink RX6 144 yX6_endUnwon, Cond.instanceMethod yX6_endUnwon, Cond.selects RX6 yX6_endUnwon yX6_endUnwon, Cond.code yX6_endUnwon cX6_endUnwon 6 none, Cond.methodLink RX6 222 yX3_waiting, Cond.instanceMethod yX3_waiting, Cond.selects RX3 yX3_waiting yX3_waiting, Cond.code yX3_waiting cX3_waiting 4 (some .long), Cond.methodLink RX3 45 yX3_waitsFor]
def wsX6_pass : List Cond := .code yX6_pass cX6_pass 1 (some .boolean) :: ((wsX6_pass_r1 ++ (wsX6_pass_r2 ++ (wsX6_pass_r3 ++ (wsX6_pass_r4 ++ (wsX6_pass_r5 ++ (wsX6_pass_r6 ++ (wsX6_pass_r7 ++ (wsX6_pass_r8 ++ (wsX6_pass_r9 ++ (wsX6_pass_r10 ++ (wsX6_pass_r11 ++ (wsX6_pass_r12 ++ (wsX6_pass_r13 ++ (wsX6_pass_r14 ++ wsX6_pass_r15)))))))))))))) ++ wsX60 ++ wsX20 ++ wsX10 ++ wsX30 ++ wsX40 ++ wsX50)
def wsX6_isSeat : List Cond := .code yX6_isSeat cX6_isSeat 1 (some .boolean) :: ([])
def wsX6_mayClaimSet_r1 : List Cond := [Cond.fieldLink RX6 45 "TileHouse" "phase" "I", Cond.fieldLink RX6 97 "TileHouse" "turn" "I", Cond.fieldLink RX6 110 "TileHouse$Seat" "bet" "I", Cond.fieldLink RX6 18 "TileHouse" "bricks" "LTileHouse$Wall;", Cond.methodLink RX6 213 yX6_isSeat, Cond.static yX6_isSeat, Cond.initialized RX6, Cond.code yX6_isSeat cX6_isSeat 1 (some .boolean), Cond.methodLink RX6 65 yX6_at, Cond.instanceMethod yX6_at, Cond.selects RX6 yX6_at yX6_at, Cond.code yX6_at cX6_at 2 (some (.object "TileHouse$Seat")), Cond.fieldLink RX6 11 "TileHouse" "players" "[LTileHouse$Seat;", Cond.methodLink RX6 140 yX4_left, Cond.instanceMethod yX4_left, Cond.selects RX4 yX4_left yX4_left, Cond.initialized RX4, Cond.code yX4_left cX4_left 1 (some .int), Cond.fieldLink RX4 19 "TileHouse$Wall" "stands" "Z", Cond.fieldLink RX4 27 "TileHouse$Wall" "fours" "I", Cond.fieldLink RX4 23 "TileHouse$Wall" "next" "I", Cond.methodLink RX6 127 yX6_someoneSays, Cond.instanceMethod yX6_someoneSays, Cond.selects RX6 yX6_someoneSays yX6_someoneSays]
def wsX6_mayClaimSet_r2 : List Cond := [Cond.code yX6_someoneSays cX6_someoneSays 2 (some .boolean), Cond.fieldLink RX6 216 "TileHouse$Seat" "says" "Z"]
def wsX6_mayClaimSet : List Cond := .code yX6_mayClaimSet cX6_mayClaimSet 2 (some .boolean) :: ((wsX6_mayClaimSet_r1 ++ wsX6_mayClaimSet_r2) ++ wsX60 ++ wsX20 ++ wsX40)
def wsX6_otherEnd : List Cond := .code yX6_otherEnd cX6_otherEnd 2 (some .long) :: ([.fieldLink RX6 49 "TileHouse" "tile" "I", .methodLink RX6 150 yX6_startsRun, .static yX6_startsRun, .initialized RX6, .code yX6_startsRun cX6_startsRun 1 (some .boolean)] ++ wsX60)
def wsX6_keepsOther : List Cond := .code yX6_keepsOther cX6_keepsOther 7 (some .boolean) :: ([.fieldLink RX6 153 "TileHouse$Tiles" "free" "[I", .methodLink RX6 226 yX6_holds, .static yX6_holds, .initialized RX6, .code yX6_holds cX6_holds 3 (some .boolean)] ++ wsX30)
def wsX6_takeSet_r1 : List Cond := [Cond.fieldLink RX6 72 "TileHouse$Seat" "tiles" "LTileHouse$Tiles;", Cond.fieldLink RX6 49 "TileHouse" "tile" "I", Cond.fieldLink RX6 97 "TileHouse" "turn" "I", Cond.fieldLink RX6 45 "TileHouse" "phase" "I", Cond.methodLink RX6 134 yX6_letTileGo, Cond.instanceMethod yX6_letTileGo, Cond.selects RX6 yX6_letTileGo yX6_letTileGo, Cond.initialized RX6, Cond.code yX6_letTileGo cX6_letTileGo 3 none, Cond.fieldLink RX6 219 "TileHouse$Seat" "letGo" "Z", Cond.fieldLink RX6 113 "TileHouse$Seat" "owes" "Z", Cond.fieldLink RX6 203 "TileHouse$Seat" "points" "I", Cond.fieldLink RX6 191 "TileHouse" "bets" "I", Cond.methodLink RX6 65 yX6_at, Cond.instanceMethod yX6_at, Cond.selects RX6 yX6_at yX6_at, Cond.code yX6_at cX6_at 2 (some (.object "TileHouse$Seat")), Cond.fieldLink RX6 11 "TileHouse" "players" "[LTileHouse$Seat;", Cond.methodLink RX6 331 yX3_waitsFor, Cond.instanceMethod yX3_waitsFor, Cond.selects RX3 yX3_waitsFor yX3_waitsFor, Cond.initialized RX3, Cond.code yX3_waitsFor cX3_waitsFor 3 (some .boolean), Cond.fieldLink RX3 15 "TileHouse$Tiles" "all" "[I"]
def wsX6_takeSet_r2 : List Cond := [Cond.methodLink RX3 48 yX3_size, Cond.instanceMethod yX3_size, Cond.selects RX3 yX3_size yX3_size, Cond.code yX3_size cX3_size 1 (some .int), Cond.fieldLink RX3 28 "TileHouse$Tiles" "loose" "I", Cond.fieldLink RX3 24 "TileHouse$Tiles" "laidDown" "I", Cond.static yX6_isKind, Cond.code yX6_isKind cX6_isKind 1 (some .boolean), Cond.methodLink RX3 35 yX3_put, Cond.instanceMethod yX3_put, Cond.selects RX3 yX3_put yX3_put, Cond.code yX3_put cX3_put 3 none, Cond.fieldLink RX3 9 "TileHouse$Tiles" "free" "[I", Cond.methodLink RX3 52 yX3_isSevenPairs, Cond.instanceMethod yX3_isSevenPairs, Cond.selects RX3 yX3_isSevenPairs yX3_isSevenPairs, Cond.code yX3_isSevenPairs cX3_isSevenPairs 2 (some .boolean), Cond.methodLink RX3 56 yX3_isThirteen, Cond.instanceMethod yX3_isThirteen, Cond.selects RX3 yX3_isThirteen yX3_isThirteen, Cond.code yX3_isThirteen cX3_isThirteen 1 (some .boolean), Cond.constantLong RX3 69 (17113154305), Cond.methodLink RX3 65 yX3_kinds, Cond.instanceMethod yX3_kinds]
def wsX6_takeSet_r3 : List Cond := [Cond.selects RX3 yX3_kinds yX3_kinds, Cond.code yX3_kinds cX3_kinds 4 (some .long), Cond.methodLink RX3 59 yX3_isSetsAndPair, Cond.instanceMethod yX3_isSetsAndPair, Cond.selects RX3 yX3_isSetsAndPair yX3_isSetsAndPair, Cond.code yX3_isSetsAndPair cX3_isSetsAndPair 2 (some .boolean), Cond.methodLink RX3 71 yX3_splitsBeside, Cond.instanceMethod yX3_splitsBeside, Cond.selects RX3 yX3_splitsBeside yX3_splitsBeside, Cond.code yX3_splitsBeside cX3_splitsBeside 7 (some .boolean), Cond.static yX6_startsRun, Cond.code yX6_startsRun cX6_startsRun 1 (some .boolean), Cond.methodLink RX3 62 yX3_take, Cond.instanceMethod yX3_take, Cond.selects RX3 yX3_take yX3_take, Cond.code yX3_take cX3_take 3 none, Cond.methodLink RX6 328 yX6_breakHand, Cond.instanceMethod yX6_breakHand, Cond.selects RX6 yX6_breakHand yX6_breakHand, Cond.code yX6_breakHand cX6_breakHand 2 none, Cond.fieldLink RX6 86 "TileHouse" "broken" "Z", Cond.fieldLink RX6 116 "TileHouse$Seat" "atOnce" "Z", Cond.methodLink RX6 79 yX3_put, Cond.methodLink RX6 181 yX3_layDown]
def wsX6_takeSet_r4 : List Cond := [Cond.instanceMethod yX3_layDown, Cond.selects RX3 yX3_layDown yX3_layDown, Cond.code yX3_layDown cX3_layDown 6 none, Cond.fieldLink RX3 18 "TileHouse$Tiles" "sort" "[I", Cond.fieldLink RX3 21 "TileHouse$Tiles" "low" "[I", Cond.static yX6_tilesOfEach, Cond.code yX6_tilesOfEach cX6_tilesOfEach 1 (some .int)]
def wsX6_takeSet : List Cond := .code yX6_takeSet cX6_takeSet 5 none :: ((wsX6_takeSet_r1 ++ (wsX6_takeSet_r2 ++ (wsX6_takeSet_r3 ++ wsX6_takeSet_r4))) ++ wsX20 ++ wsX60 ++ wsX30)
def wsX6_run_r1 : List Cond := [Cond.fieldLink RX6 97 "TileHouse" "turn" "I", Cond.fieldLink RX6 49 "TileHouse" "tile" "I", Cond.fieldLink RX6 72 "TileHouse$Seat" "tiles" "LTileHouse$Tiles;", Cond.fieldLink RX6 153 "TileHouse$Tiles" "free" "[I", Cond.constantLong RX6 161 (7), Cond.constantLong RX6 163 (-1), Cond.fieldLink RX6 123 "TileHouse" "barred" "J", Cond.methodLink RX6 147 yX6_mayClaimSet, Cond.instanceMethod yX6_mayClaimSet, Cond.selects RX6 yX6_mayClaimSet yX6_mayClaimSet, Cond.initialized RX6, Cond.code yX6_mayClaimSet cX6_mayClaimSet 2 (some .boolean), Cond.fieldLink RX6 45 "TileHouse" "phase" "I", Cond.fieldLink RX6 110 "TileHouse$Seat" "bet" "I", Cond.fieldLink RX6 18 "TileHouse" "bricks" "LTileHouse$Wall;", Cond.methodLink RX6 213 yX6_isSeat, Cond.static yX6_isSeat, Cond.code yX6_isSeat cX6_isSeat 1 (some .boolean), Cond.methodLink RX6 65 yX6_at, Cond.instanceMethod yX6_at, Cond.selects RX6 yX6_at yX6_at, Cond.code yX6_at cX6_at 2 (some (.object "TileHouse$Seat")), Cond.fieldLink RX6 11 "TileHouse" "players" "[LTileHouse$Seat;", Cond.methodLink RX6 140 yX4_left]
def wsX6_run_r2 : List Cond := [Cond.instanceMethod yX4_left, Cond.selects RX4 yX4_left yX4_left, Cond.initialized RX4, Cond.code yX4_left cX4_left 1 (some .int), Cond.fieldLink RX4 19 "TileHouse$Wall" "stands" "Z", Cond.fieldLink RX4 27 "TileHouse$Wall" "fours" "I", Cond.fieldLink RX4 23 "TileHouse$Wall" "next" "I", Cond.methodLink RX6 127 yX6_someoneSays, Cond.instanceMethod yX6_someoneSays, Cond.selects RX6 yX6_someoneSays yX6_someoneSays, Cond.code yX6_someoneSays cX6_someoneSays 2 (some .boolean), Cond.fieldLink RX6 216 "TileHouse$Seat" "says" "Z", Cond.methodLink RX6 150 yX6_startsRun, Cond.static yX6_startsRun, Cond.code yX6_startsRun cX6_startsRun 1 (some .boolean), Cond.methodLink RX6 157 yX6_otherEnd, Cond.instanceMethod yX6_otherEnd, Cond.selects RX6 yX6_otherEnd yX6_otherEnd, Cond.code yX6_otherEnd cX6_otherEnd 2 (some .long), Cond.methodLink RX6 165 yX6_keepsOther, Cond.static yX6_keepsOther, Cond.code yX6_keepsOther cX6_keepsOther 7 (some .boolean), Cond.methodLink RX6 226 yX6_holds, Cond.static yX6_holds]
def wsX6_run_r3 : List Cond := [Cond.code yX6_holds cX6_holds 3 (some .boolean), Cond.methodLink RX6 169 yX6_takeSet, Cond.instanceMethod yX6_takeSet, Cond.selects RX6 yX6_takeSet yX6_takeSet, Cond.code yX6_takeSet cX6_takeSet 5 none, Cond.methodLink RX6 134 yX6_letTileGo, Cond.instanceMethod yX6_letTileGo, Cond.selects RX6 yX6_letTileGo yX6_letTileGo, Cond.code yX6_letTileGo cX6_letTileGo 3 none, Cond.fieldLink RX6 219 "TileHouse$Seat" "letGo" "Z", Cond.fieldLink RX6 113 "TileHouse$Seat" "owes" "Z", Cond.fieldLink RX6 203 "TileHouse$Seat" "points" "I", Cond.fieldLink RX6 191 "TileHouse" "bets" "I", Cond.methodLink RX6 331 yX3_waitsFor, Cond.instanceMethod yX3_waitsFor, Cond.selects RX3 yX3_waitsFor yX3_waitsFor, Cond.initialized RX3, Cond.code yX3_waitsFor cX3_waitsFor 3 (some .boolean), Cond.fieldLink RX3 15 "TileHouse$Tiles" "all" "[I", Cond.methodLink RX3 48 yX3_size, Cond.instanceMethod yX3_size, Cond.selects RX3 yX3_size yX3_size, Cond.code yX3_size cX3_size 1 (some .int), Cond.fieldLink RX3 28 "TileHouse$Tiles" "loose" "I"]
def wsX6_run_r4 : List Cond := [Cond.fieldLink RX3 24 "TileHouse$Tiles" "laidDown" "I", Cond.static yX6_isKind, Cond.code yX6_isKind cX6_isKind 1 (some .boolean), Cond.methodLink RX3 35 yX3_put, Cond.instanceMethod yX3_put, Cond.selects RX3 yX3_put yX3_put, Cond.code yX3_put cX3_put 3 none, Cond.fieldLink RX3 9 "TileHouse$Tiles" "free" "[I", Cond.methodLink RX3 52 yX3_isSevenPairs, Cond.instanceMethod yX3_isSevenPairs, Cond.selects RX3 yX3_isSevenPairs yX3_isSevenPairs, Cond.code yX3_isSevenPairs cX3_isSevenPairs 2 (some .boolean), Cond.methodLink RX3 56 yX3_isThirteen, Cond.instanceMethod yX3_isThirteen, Cond.selects RX3 yX3_isThirteen yX3_isThirteen, Cond.code yX3_isThirteen cX3_isThirteen 1 (some .boolean), Cond.constantLong RX3 69 (17113154305), Cond.methodLink RX3 65 yX3_kinds, Cond.instanceMethod yX3_kinds, Cond.selects RX3 yX3_kinds yX3_kinds, Cond.code yX3_kinds cX3_kinds 4 (some .long), Cond.methodLink RX3 59 yX3_isSetsAndPair, Cond.instanceMethod yX3_isSetsAndPair, Cond.selects RX3 yX3_isSetsAndPair yX3_isSetsAndPair]
def wsX6_run_r5 : List Cond := [Cond.code yX3_isSetsAndPair cX3_isSetsAndPair 2 (some .boolean), Cond.methodLink RX3 71 yX3_splitsBeside, Cond.instanceMethod yX3_splitsBeside, Cond.selects RX3 yX3_splitsBeside yX3_splitsBeside, Cond.code yX3_splitsBeside cX3_splitsBeside 7 (some .boolean), Cond.methodLink RX3 62 yX3_take, Cond.instanceMethod yX3_take, Cond.selects RX3 yX3_take yX3_take, Cond.code yX3_take cX3_take 3 none, Cond.methodLink RX6 328 yX6_breakHand, Cond.instanceMethod yX6_breakHand, Cond.selects RX6 yX6_breakHand yX6_breakHand, Cond.code yX6_breakHand cX6_breakHand 2 none, Cond.fieldLink RX6 86 "TileHouse" "broken" "Z", Cond.fieldLink RX6 116 "TileHouse$Seat" "atOnce" "Z", Cond.methodLink RX6 79 yX3_put, Cond.methodLink RX6 181 yX3_layDown, Cond.instanceMethod yX3_layDown, Cond.selects RX3 yX3_layDown yX3_layDown, Cond.code yX3_layDown cX3_layDown 6 none, Cond.fieldLink RX3 18 "TileHouse$Tiles" "sort" "[I", Cond.fieldLink RX3 21 "TileHouse$Tiles" "low" "[I", Cond.static yX6_tilesOfEach, Cond.code yX6_tilesOfEach cX6_tilesOfEach 1 (some .int)]
def wsX6_run : List Cond := .code yX6_run cX6_run 6 (some .boolean) :: ((wsX6_run_r1 ++ (wsX6_run_r2 ++ (wsX6_run_r3 ++ (wsX6_run_r4 ++ wsX6_run_r5)))) ++ wsX60 ++ wsX20 ++ wsX30 ++ wsX40)
def wsX6_three_r1 : List Cond := [Cond.fieldLink RX6 72 "TileHouse$Seat" "tiles" "LTileHouse$Tiles;", Cond.fieldLink RX6 49 "TileHouse" "tile" "I", Cond.fieldLink RX6 123 "TileHouse" "barred" "J", Cond.methodLink RX6 147 yX6_mayClaimSet, Cond.instanceMethod yX6_mayClaimSet, Cond.selects RX6 yX6_mayClaimSet yX6_mayClaimSet, Cond.initialized RX6, Cond.code yX6_mayClaimSet cX6_mayClaimSet 2 (some .boolean), Cond.fieldLink RX6 45 "TileHouse" "phase" "I", Cond.fieldLink RX6 97 "TileHouse" "turn" "I", Cond.fieldLink RX6 110 "TileHouse$Seat" "bet" "I", Cond.fieldLink RX6 18 "TileHouse" "bricks" "LTileHouse$Wall;", Cond.methodLink RX6 213 yX6_isSeat, Cond.static yX6_isSeat, Cond.code yX6_isSeat cX6_isSeat 1 (some .boolean), Cond.methodLink RX6 65 yX6_at, Cond.instanceMethod yX6_at, Cond.selects RX6 yX6_at yX6_at, Cond.code yX6_at cX6_at 2 (some (.object "TileHouse$Seat")), Cond.fieldLink RX6 11 "TileHouse" "players" "[LTileHouse$Seat;", Cond.methodLink RX6 140 yX4_left, Cond.instanceMethod yX4_left, Cond.selects RX4 yX4_left yX4_left, Cond.initialized RX4]
def wsX6_three_r2 : List Cond := [Cond.code yX4_left cX4_left 1 (some .int), Cond.fieldLink RX4 19 "TileHouse$Wall" "stands" "Z", Cond.fieldLink RX4 27 "TileHouse$Wall" "fours" "I", Cond.fieldLink RX4 23 "TileHouse$Wall" "next" "I", Cond.methodLink RX6 127 yX6_someoneSays, Cond.instanceMethod yX6_someoneSays, Cond.selects RX6 yX6_someoneSays yX6_someoneSays, Cond.code yX6_someoneSays cX6_someoneSays 2 (some .boolean), Cond.fieldLink RX6 216 "TileHouse$Seat" "says" "Z", Cond.methodLink RX6 173 yX3_free, Cond.instanceMethod yX3_free, Cond.selects RX3 yX3_free yX3_free, Cond.initialized RX3, Cond.code yX3_free cX3_free 2 (some .int), Cond.fieldLink RX3 9 "TileHouse$Tiles" "free" "[I", Cond.static yX6_isKind, Cond.code yX6_isKind cX6_isKind 1 (some .boolean), Cond.methodLink RX6 165 yX6_keepsOther, Cond.static yX6_keepsOther, Cond.code yX6_keepsOther cX6_keepsOther 7 (some .boolean), Cond.fieldLink RX6 153 "TileHouse$Tiles" "free" "[I", Cond.methodLink RX6 226 yX6_holds, Cond.static yX6_holds, Cond.code yX6_holds cX6_holds 3 (some .boolean)]
def wsX6_three_r3 : List Cond := [Cond.methodLink RX6 169 yX6_takeSet, Cond.instanceMethod yX6_takeSet, Cond.selects RX6 yX6_takeSet yX6_takeSet, Cond.code yX6_takeSet cX6_takeSet 5 none, Cond.methodLink RX6 134 yX6_letTileGo, Cond.instanceMethod yX6_letTileGo, Cond.selects RX6 yX6_letTileGo yX6_letTileGo, Cond.code yX6_letTileGo cX6_letTileGo 3 none, Cond.fieldLink RX6 219 "TileHouse$Seat" "letGo" "Z", Cond.fieldLink RX6 113 "TileHouse$Seat" "owes" "Z", Cond.fieldLink RX6 203 "TileHouse$Seat" "points" "I", Cond.fieldLink RX6 191 "TileHouse" "bets" "I", Cond.methodLink RX6 331 yX3_waitsFor, Cond.instanceMethod yX3_waitsFor, Cond.selects RX3 yX3_waitsFor yX3_waitsFor, Cond.code yX3_waitsFor cX3_waitsFor 3 (some .boolean), Cond.fieldLink RX3 15 "TileHouse$Tiles" "all" "[I", Cond.methodLink RX3 48 yX3_size, Cond.instanceMethod yX3_size, Cond.selects RX3 yX3_size yX3_size, Cond.code yX3_size cX3_size 1 (some .int), Cond.fieldLink RX3 28 "TileHouse$Tiles" "loose" "I", Cond.fieldLink RX3 24 "TileHouse$Tiles" "laidDown" "I", Cond.methodLink RX3 35 yX3_put]
def wsX6_three_r4 : List Cond := [Cond.instanceMethod yX3_put, Cond.selects RX3 yX3_put yX3_put, Cond.code yX3_put cX3_put 3 none, Cond.methodLink RX3 52 yX3_isSevenPairs, Cond.instanceMethod yX3_isSevenPairs, Cond.selects RX3 yX3_isSevenPairs yX3_isSevenPairs, Cond.code yX3_isSevenPairs cX3_isSevenPairs 2 (some .boolean), Cond.methodLink RX3 56 yX3_isThirteen, Cond.instanceMethod yX3_isThirteen, Cond.selects RX3 yX3_isThirteen yX3_isThirteen, Cond.code yX3_isThirteen cX3_isThirteen 1 (some .boolean), Cond.constantLong RX3 69 (17113154305), Cond.methodLink RX3 65 yX3_kinds, Cond.instanceMethod yX3_kinds, Cond.selects RX3 yX3_kinds yX3_kinds, Cond.code yX3_kinds cX3_kinds 4 (some .long), Cond.methodLink RX3 59 yX3_isSetsAndPair, Cond.instanceMethod yX3_isSetsAndPair, Cond.selects RX3 yX3_isSetsAndPair yX3_isSetsAndPair, Cond.code yX3_isSetsAndPair cX3_isSetsAndPair 2 (some .boolean), Cond.methodLink RX3 71 yX3_splitsBeside, Cond.instanceMethod yX3_splitsBeside, Cond.selects RX3 yX3_splitsBeside yX3_splitsBeside, Cond.code yX3_splitsBeside cX3_splitsBeside 7 (some .boolean)]
def wsX6_three_r5 : List Cond := [Cond.static yX6_startsRun, Cond.code yX6_startsRun cX6_startsRun 1 (some .boolean), Cond.methodLink RX3 62 yX3_take, Cond.instanceMethod yX3_take, Cond.selects RX3 yX3_take yX3_take, Cond.code yX3_take cX3_take 3 none, Cond.methodLink RX6 328 yX6_breakHand, Cond.instanceMethod yX6_breakHand, Cond.selects RX6 yX6_breakHand yX6_breakHand, Cond.code yX6_breakHand cX6_breakHand 2 none, Cond.fieldLink RX6 86 "TileHouse" "broken" "Z", Cond.fieldLink RX6 116 "TileHouse$Seat" "atOnce" "Z", Cond.methodLink RX6 79 yX3_put, Cond.methodLink RX6 181 yX3_layDown, Cond.instanceMethod yX3_layDown, Cond.selects RX3 yX3_layDown yX3_layDown, Cond.code yX3_layDown cX3_layDown 6 none, Cond.fieldLink RX3 18 "TileHouse$Tiles" "sort" "[I", Cond.fieldLink RX3 21 "TileHouse$Tiles" "low" "[I", Cond.static yX6_tilesOfEach, Cond.code yX6_tilesOfEach cX6_tilesOfEach 1 (some .int)]
def wsX6_three : List Cond := .code yX6_three cX6_three 4 (some .boolean) :: ((wsX6_three_r1 ++ (wsX6_three_r2 ++ (wsX6_three_r3 ++ (wsX6_three_r4 ++ wsX6_three_r5)))) ++ wsX20 ++ wsX60 ++ wsX40 ++ wsX30)
def wsX6_four_r1 : List Cond := [Cond.fieldLink RX6 72 "TileHouse$Seat" "tiles" "LTileHouse$Tiles;", Cond.fieldLink RX6 49 "TileHouse" "tile" "I", Cond.fieldLink RX6 18 "TileHouse" "bricks" "LTileHouse$Wall;", Cond.fieldLink RX6 175 "TileHouse$Wall" "fours" "I", Cond.methodLink RX6 147 yX6_mayClaimSet, Cond.instanceMethod yX6_mayClaimSet, Cond.selects RX6 yX6_mayClaimSet yX6_mayClaimSet, Cond.initialized RX6, Cond.code yX6_mayClaimSet cX6_mayClaimSet 2 (some .boolean), Cond.fieldLink RX6 45 "TileHouse" "phase" "I", Cond.fieldLink RX6 97 "TileHouse" "turn" "I", Cond.fieldLink RX6 110 "TileHouse$Seat" "bet" "I", Cond.methodLink RX6 213 yX6_isSeat, Cond.static yX6_isSeat, Cond.code yX6_isSeat cX6_isSeat 1 (some .boolean), Cond.methodLink RX6 65 yX6_at, Cond.instanceMethod yX6_at, Cond.selects RX6 yX6_at yX6_at, Cond.code yX6_at cX6_at 2 (some (.object "TileHouse$Seat")), Cond.fieldLink RX6 11 "TileHouse" "players" "[LTileHouse$Seat;", Cond.methodLink RX6 140 yX4_left, Cond.instanceMethod yX4_left, Cond.selects RX4 yX4_left yX4_left, Cond.initialized RX4]
def wsX6_four_r2 : List Cond := [Cond.code yX4_left cX4_left 1 (some .int), Cond.fieldLink RX4 19 "TileHouse$Wall" "stands" "Z", Cond.fieldLink RX4 27 "TileHouse$Wall" "fours" "I", Cond.fieldLink RX4 23 "TileHouse$Wall" "next" "I", Cond.methodLink RX6 127 yX6_someoneSays, Cond.instanceMethod yX6_someoneSays, Cond.selects RX6 yX6_someoneSays yX6_someoneSays, Cond.code yX6_someoneSays cX6_someoneSays 2 (some .boolean), Cond.fieldLink RX6 216 "TileHouse$Seat" "says" "Z", Cond.methodLink RX6 173 yX3_free, Cond.instanceMethod yX3_free, Cond.selects RX3 yX3_free yX3_free, Cond.initialized RX3, Cond.code yX3_free cX3_free 2 (some .int), Cond.fieldLink RX3 9 "TileHouse$Tiles" "free" "[I", Cond.static yX6_isKind, Cond.code yX6_isKind cX6_isKind 1 (some .boolean), Cond.methodLink RX6 169 yX6_takeSet, Cond.instanceMethod yX6_takeSet, Cond.selects RX6 yX6_takeSet yX6_takeSet, Cond.code yX6_takeSet cX6_takeSet 5 none, Cond.methodLink RX6 134 yX6_letTileGo, Cond.instanceMethod yX6_letTileGo, Cond.selects RX6 yX6_letTileGo yX6_letTileGo]
def wsX6_four_r3 : List Cond := [Cond.code yX6_letTileGo cX6_letTileGo 3 none, Cond.fieldLink RX6 219 "TileHouse$Seat" "letGo" "Z", Cond.fieldLink RX6 113 "TileHouse$Seat" "owes" "Z", Cond.fieldLink RX6 203 "TileHouse$Seat" "points" "I", Cond.fieldLink RX6 191 "TileHouse" "bets" "I", Cond.methodLink RX6 331 yX3_waitsFor, Cond.instanceMethod yX3_waitsFor, Cond.selects RX3 yX3_waitsFor yX3_waitsFor, Cond.code yX3_waitsFor cX3_waitsFor 3 (some .boolean), Cond.fieldLink RX3 15 "TileHouse$Tiles" "all" "[I", Cond.methodLink RX3 48 yX3_size, Cond.instanceMethod yX3_size, Cond.selects RX3 yX3_size yX3_size, Cond.code yX3_size cX3_size 1 (some .int), Cond.fieldLink RX3 28 "TileHouse$Tiles" "loose" "I", Cond.fieldLink RX3 24 "TileHouse$Tiles" "laidDown" "I", Cond.methodLink RX3 35 yX3_put, Cond.instanceMethod yX3_put, Cond.selects RX3 yX3_put yX3_put, Cond.code yX3_put cX3_put 3 none, Cond.methodLink RX3 52 yX3_isSevenPairs, Cond.instanceMethod yX3_isSevenPairs, Cond.selects RX3 yX3_isSevenPairs yX3_isSevenPairs, Cond.code yX3_isSevenPairs cX3_isSevenPairs 2 (some .boolean)]
def wsX6_four_r4 : List Cond := [Cond.methodLink RX3 56 yX3_isThirteen, Cond.instanceMethod yX3_isThirteen, Cond.selects RX3 yX3_isThirteen yX3_isThirteen, Cond.code yX3_isThirteen cX3_isThirteen 1 (some .boolean), Cond.constantLong RX3 69 (17113154305), Cond.methodLink RX3 65 yX3_kinds, Cond.instanceMethod yX3_kinds, Cond.selects RX3 yX3_kinds yX3_kinds, Cond.code yX3_kinds cX3_kinds 4 (some .long), Cond.methodLink RX3 59 yX3_isSetsAndPair, Cond.instanceMethod yX3_isSetsAndPair, Cond.selects RX3 yX3_isSetsAndPair yX3_isSetsAndPair, Cond.code yX3_isSetsAndPair cX3_isSetsAndPair 2 (some .boolean), Cond.methodLink RX3 71 yX3_splitsBeside, Cond.instanceMethod yX3_splitsBeside, Cond.selects RX3 yX3_splitsBeside yX3_splitsBeside, Cond.code yX3_splitsBeside cX3_splitsBeside 7 (some .boolean), Cond.static yX6_startsRun, Cond.code yX6_startsRun cX6_startsRun 1 (some .boolean), Cond.methodLink RX3 62 yX3_take, Cond.instanceMethod yX3_take, Cond.selects RX3 yX3_take yX3_take, Cond.code yX3_take cX3_take 3 none, Cond.methodLink RX6 328 yX6_breakHand]
def wsX6_four_r5 : List Cond := [Cond.instanceMethod yX6_breakHand, Cond.selects RX6 yX6_breakHand yX6_breakHand, Cond.code yX6_breakHand cX6_breakHand 2 none, Cond.fieldLink RX6 86 "TileHouse" "broken" "Z", Cond.fieldLink RX6 116 "TileHouse$Seat" "atOnce" "Z", Cond.methodLink RX6 79 yX3_put, Cond.methodLink RX6 181 yX3_layDown, Cond.instanceMethod yX3_layDown, Cond.selects RX3 yX3_layDown yX3_layDown, Cond.code yX3_layDown cX3_layDown 6 none, Cond.fieldLink RX3 18 "TileHouse$Tiles" "sort" "[I", Cond.fieldLink RX3 21 "TileHouse$Tiles" "low" "[I", Cond.static yX6_tilesOfEach, Cond.code yX6_tilesOfEach cX6_tilesOfEach 1 (some .int), Cond.methodLink RX6 137 yX6_makeFour, Cond.instanceMethod yX6_makeFour, Cond.selects RX6 yX6_makeFour yX6_makeFour, Cond.code yX6_makeFour cX6_makeFour 2 none, Cond.methodLink RX6 89 yX6_drawTile, Cond.instanceMethod yX6_drawTile, Cond.selects RX6 yX6_drawTile yX6_drawTile, Cond.code yX6_drawTile cX6_drawTile 4 none, Cond.fieldLink RX6 319 "TileHouse" "behindFour" "Z", Cond.fieldLink RX6 123 "TileHouse" "barred" "J"]
def wsX6_four_r6 : List Cond := [Cond.methodLink RX6 322 yX4_drawBehindFour, Cond.instanceMethod yX4_drawBehindFour, Cond.selects RX4 yX4_drawBehindFour yX4_drawBehindFour, Cond.code yX4_drawBehindFour cX4_drawBehindFour 1 (some .int), Cond.methodLink RX4 30 yX4_kindAt, Cond.instanceMethod yX4_kindAt, Cond.selects RX4 yX4_kindAt yX4_kindAt, Cond.code yX4_kindAt cX4_kindAt 2 (some .int), Cond.fieldLink RX4 11 "TileHouse$Wall" "kinds" "[I", Cond.methodLink RX6 325 yX4_draw, Cond.instanceMethod yX4_draw, Cond.selects RX4 yX4_draw yX4_draw, Cond.code yX4_draw cX4_draw 1 (some .int)]
def wsX6_four : List Cond := .code yX6_four cX6_four 2 (some .boolean) :: ((wsX6_four_r1 ++ (wsX6_four_r2 ++ (wsX6_four_r3 ++ (wsX6_four_r4 ++ (wsX6_four_r5 ++ wsX6_four_r6))))) ++ wsX20 ++ wsX60 ++ wsX40 ++ wsX30)
def wsX6_mayMakeFour : List Cond := .code yX6_mayMakeFour cX6_mayMakeFour 1 (some .boolean) :: ([.fieldLink RX6 45 "TileHouse" "phase" "I", .fieldLink RX6 49 "TileHouse" "tile" "I", .fieldLink RX6 97 "TileHouse" "turn" "I", .fieldLink RX6 110 "TileHouse$Seat" "bet" "I", .fieldLink RX6 18 "TileHouse" "bricks" "LTileHouse$Wall;", .fieldLink RX6 175 "TileHouse$Wall" "fours" "I", .methodLink RX6 65 yX6_at, .instanceMethod yX6_at, .selects RX6 yX6_at yX6_at, .initialized RX6, .code yX6_at cX6_at 2 (some (.object "TileHouse$Seat")), .fieldLink RX6 11 "TileHouse" "players" "[LTileHouse$Seat;", .methodLink RX6 140 yX4_left, .instanceMethod yX4_left, .selects RX4 yX4_left yX4_left, .initialized RX4, .code yX4_left cX4_left 1 (some .int), .fieldLink RX4 19 "TileHouse$Wall" "stands" "Z", .fieldLink RX4 27 "TileHouse$Wall" "fours" "I", .fieldLink RX4 23 "TileHouse$Wall" "next" "I"] ++ wsX60 ++ wsX20 ++ wsX40)
def wsX6_hide_r1 : List Cond := [Cond.fieldLink RX6 97 "TileHouse" "turn" "I", Cond.fieldLink RX6 72 "TileHouse$Seat" "tiles" "LTileHouse$Tiles;", Cond.methodLink RX6 178 yX6_mayMakeFour, Cond.instanceMethod yX6_mayMakeFour, Cond.selects RX6 yX6_mayMakeFour yX6_mayMakeFour, Cond.initialized RX6, Cond.code yX6_mayMakeFour cX6_mayMakeFour 1 (some .boolean), Cond.fieldLink RX6 45 "TileHouse" "phase" "I", Cond.fieldLink RX6 49 "TileHouse" "tile" "I", Cond.fieldLink RX6 110 "TileHouse$Seat" "bet" "I", Cond.fieldLink RX6 18 "TileHouse" "bricks" "LTileHouse$Wall;", Cond.fieldLink RX6 175 "TileHouse$Wall" "fours" "I", Cond.methodLink RX6 65 yX6_at, Cond.instanceMethod yX6_at, Cond.selects RX6 yX6_at yX6_at, Cond.code yX6_at cX6_at 2 (some (.object "TileHouse$Seat")), Cond.fieldLink RX6 11 "TileHouse" "players" "[LTileHouse$Seat;", Cond.methodLink RX6 140 yX4_left, Cond.instanceMethod yX4_left, Cond.selects RX4 yX4_left yX4_left, Cond.initialized RX4, Cond.code yX4_left cX4_left 1 (some .int), Cond.fieldLink RX4 19 "TileHouse$Wall" "stands" "Z", Cond.fieldLink RX4 27 "TileHouse$Wall" "fours" "I"]
def wsX6_hide_r2 : List Cond := [Cond.fieldLink RX4 23 "TileHouse$Wall" "next" "I", Cond.methodLink RX6 173 yX3_free, Cond.instanceMethod yX3_free, Cond.selects RX3 yX3_free yX3_free, Cond.initialized RX3, Cond.code yX3_free cX3_free 2 (some .int), Cond.fieldLink RX3 9 "TileHouse$Tiles" "free" "[I", Cond.static yX6_isKind, Cond.code yX6_isKind cX6_isKind 1 (some .boolean), Cond.methodLink RX6 181 yX3_layDown, Cond.instanceMethod yX3_layDown, Cond.selects RX3 yX3_layDown yX3_layDown, Cond.code yX3_layDown cX3_layDown 6 none, Cond.fieldLink RX3 24 "TileHouse$Tiles" "laidDown" "I", Cond.fieldLink RX3 28 "TileHouse$Tiles" "loose" "I", Cond.fieldLink RX3 18 "TileHouse$Tiles" "sort" "[I", Cond.fieldLink RX3 21 "TileHouse$Tiles" "low" "[I", Cond.static yX6_tilesOfEach, Cond.code yX6_tilesOfEach cX6_tilesOfEach 1 (some .int), Cond.methodLink RX6 137 yX6_makeFour, Cond.instanceMethod yX6_makeFour, Cond.selects RX6 yX6_makeFour yX6_makeFour, Cond.code yX6_makeFour cX6_makeFour 2 none, Cond.methodLink RX6 328 yX6_breakHand]
def wsX6_hide_r3 : List Cond := [Cond.instanceMethod yX6_breakHand, Cond.selects RX6 yX6_breakHand yX6_breakHand, Cond.code yX6_breakHand cX6_breakHand 2 none, Cond.fieldLink RX6 86 "TileHouse" "broken" "Z", Cond.fieldLink RX6 116 "TileHouse$Seat" "atOnce" "Z", Cond.methodLink RX6 89 yX6_drawTile, Cond.instanceMethod yX6_drawTile, Cond.selects RX6 yX6_drawTile yX6_drawTile, Cond.code yX6_drawTile cX6_drawTile 4 none, Cond.fieldLink RX6 319 "TileHouse" "behindFour" "Z", Cond.fieldLink RX6 123 "TileHouse" "barred" "J", Cond.fieldLink RX6 219 "TileHouse$Seat" "letGo" "Z", Cond.methodLink RX6 322 yX4_drawBehindFour, Cond.instanceMethod yX4_drawBehindFour, Cond.selects RX4 yX4_drawBehindFour yX4_drawBehindFour, Cond.code yX4_drawBehindFour cX4_drawBehindFour 1 (some .int), Cond.methodLink RX4 30 yX4_kindAt, Cond.instanceMethod yX4_kindAt, Cond.selects RX4 yX4_kindAt yX4_kindAt, Cond.code yX4_kindAt cX4_kindAt 2 (some .int), Cond.fieldLink RX4 11 "TileHouse$Wall" "kinds" "[I", Cond.methodLink RX6 325 yX4_draw, Cond.instanceMethod yX4_draw, Cond.selects RX4 yX4_draw yX4_draw]
def wsX6_hide_r4 : List Cond := [Cond.code yX4_draw cX4_draw 1 (some .int), Cond.methodLink RX6 79 yX3_put, Cond.instanceMethod yX3_put, Cond.selects RX3 yX3_put yX3_put, Cond.code yX3_put cX3_put 3 none, Cond.fieldLink RX3 15 "TileHouse$Tiles" "all" "[I"]
def wsX6_hide : List Cond := .code yX6_hide cX6_hide 2 (some .boolean) :: ((wsX6_hide_r1 ++ (wsX6_hide_r2 ++ (wsX6_hide_r3 ++ wsX6_hide_r4))) ++ wsX60 ++ wsX20 ++ wsX40 ++ wsX30)
def wsX6_add_r1 : List Cond := [Cond.fieldLink RX6 97 "TileHouse" "turn" "I", Cond.fieldLink RX6 72 "TileHouse$Seat" "tiles" "LTileHouse$Tiles;", Cond.fieldLink RX6 49 "TileHouse" "tile" "I", Cond.fieldLink RX6 45 "TileHouse" "phase" "I", Cond.methodLink RX6 178 yX6_mayMakeFour, Cond.instanceMethod yX6_mayMakeFour, Cond.selects RX6 yX6_mayMakeFour yX6_mayMakeFour, Cond.initialized RX6, Cond.code yX6_mayMakeFour cX6_mayMakeFour 1 (some .boolean), Cond.fieldLink RX6 110 "TileHouse$Seat" "bet" "I", Cond.fieldLink RX6 18 "TileHouse" "bricks" "LTileHouse$Wall;", Cond.fieldLink RX6 175 "TileHouse$Wall" "fours" "I", Cond.methodLink RX6 65 yX6_at, Cond.instanceMethod yX6_at, Cond.selects RX6 yX6_at yX6_at, Cond.code yX6_at cX6_at 2 (some (.object "TileHouse$Seat")), Cond.fieldLink RX6 11 "TileHouse" "players" "[LTileHouse$Seat;", Cond.methodLink RX6 140 yX4_left, Cond.instanceMethod yX4_left, Cond.selects RX4 yX4_left yX4_left, Cond.initialized RX4, Cond.code yX4_left cX4_left 1 (some .int), Cond.fieldLink RX4 19 "TileHouse$Wall" "stands" "Z", Cond.fieldLink RX4 27 "TileHouse$Wall" "fours" "I"]
def wsX6_add_r2 : List Cond := [Cond.fieldLink RX4 23 "TileHouse$Wall" "next" "I", Cond.methodLink RX6 184 yX3_addToThree, Cond.instanceMethod yX3_addToThree, Cond.selects RX3 yX3_addToThree yX3_addToThree, Cond.initialized RX3, Cond.code yX3_addToThree cX3_addToThree 3 (some .boolean), Cond.fieldLink RX3 24 "TileHouse$Tiles" "laidDown" "I", Cond.fieldLink RX3 18 "TileHouse$Tiles" "sort" "[I", Cond.fieldLink RX3 21 "TileHouse$Tiles" "low" "[I", Cond.fieldLink RX3 9 "TileHouse$Tiles" "free" "[I", Cond.fieldLink RX3 28 "TileHouse$Tiles" "loose" "I", Cond.methodLink RX3 43 yX3_free, Cond.instanceMethod yX3_free, Cond.selects RX3 yX3_free yX3_free, Cond.code yX3_free cX3_free 2 (some .int), Cond.static yX6_isKind, Cond.code yX6_isKind cX6_isKind 1 (some .boolean)]
def wsX6_add : List Cond := .code yX6_add cX6_add 2 (some .boolean) :: ((wsX6_add_r1 ++ wsX6_add_r2) ++ wsX60 ++ wsX20 ++ wsX40 ++ wsX30)
def wsX6_win_r1 : List Cond := [Cond.fieldLink RX6 45 "TileHouse" "phase" "I", Cond.fieldLink RX6 49 "TileHouse" "tile" "I", Cond.fieldLink RX6 97 "TileHouse" "turn" "I", Cond.fieldLink RX6 191 "TileHouse" "bets" "I", Cond.fieldLink RX6 62 "TileHouse" "dealer" "I", Cond.fieldLink RX6 25 "TileHouse" "judge" "LTileHouse$Judge;", Cond.fieldLink RX6 194 "TileHouse$Judge" "base" "I", Cond.fieldLink RX6 200 "TileHouse" "stays" "I", Cond.fieldLink RX6 203 "TileHouse$Seat" "points" "I", Cond.methodLink RX6 187 yX6_weighHand, Cond.instanceMethod yX6_weighHand, Cond.selects RX6 yX6_weighHand yX6_weighHand, Cond.initialized RX6, Cond.code yX6_weighHand cX6_weighHand 7 (some .int), Cond.fieldLink RX6 72 "TileHouse$Seat" "tiles" "LTileHouse$Tiles;", Cond.fieldLink RX6 18 "TileHouse" "bricks" "LTileHouse$Wall;", Cond.fieldLink RX6 110 "TileHouse$Seat" "bet" "I", Cond.fieldLink RX6 278 "TileHouse" "round" "I", Cond.methodLink RX6 65 yX6_at, Cond.instanceMethod yX6_at, Cond.selects RX6 yX6_at yX6_at, Cond.code yX6_at cX6_at 2 (some (.object "TileHouse$Seat")), Cond.fieldLink RX6 11 "TileHouse" "players" "[LTileHouse$Seat;", Cond.methodLink RX6 79 yX3_put]
def wsX6_win_r2 : List Cond := [Cond.instanceMethod yX3_put, Cond.selects RX3 yX3_put yX3_put, Cond.initialized RX3, Cond.code yX3_put cX3_put 3 none, Cond.fieldLink RX3 9 "TileHouse$Tiles" "free" "[I", Cond.fieldLink RX3 15 "TileHouse$Tiles" "all" "[I", Cond.fieldLink RX3 28 "TileHouse$Tiles" "loose" "I", Cond.static yX6_isKind, Cond.code yX6_isKind cX6_isKind 1 (some .boolean), Cond.methodLink RX6 334 yX6_toldForms, Cond.instanceMethod yX6_toldForms, Cond.selects RX6 yX6_toldForms yX6_toldForms, Cond.code yX6_toldForms cX6_toldForms 5 (some .long), Cond.constantLong RX6 348 (2), Cond.fieldLink RX6 116 "TileHouse$Seat" "atOnce" "Z", Cond.constantLong RX6 350 (4), Cond.fieldLink RX6 319 "TileHouse" "behindFour" "Z", Cond.constantLong RX6 352 (64), Cond.constantLong RX6 354 (128), Cond.constantLong RX6 356 (32), Cond.constantLong RX6 358 (16), Cond.methodLink RX6 140 yX4_left, Cond.instanceMethod yX4_left, Cond.selects RX4 yX4_left yX4_left]
def wsX6_win_r3 : List Cond := [Cond.initialized RX4, Cond.code yX4_left cX4_left 1 (some .int), Cond.fieldLink RX4 19 "TileHouse$Wall" "stands" "Z", Cond.fieldLink RX4 27 "TileHouse$Wall" "fours" "I", Cond.fieldLink RX4 23 "TileHouse$Wall" "next" "I", Cond.methodLink RX6 338 yX6_firstDraw, Cond.instanceMethod yX6_firstDraw, Cond.selects RX6 yX6_firstDraw yX6_firstDraw, Cond.code yX6_firstDraw cX6_firstDraw 3 (some .long), Cond.fieldLink RX6 86 "TileHouse" "broken" "Z", Cond.fieldLink RX6 107 "TileHouse$Seat" "discards" "I", Cond.methodLink RX6 342 yX4_dearTiles, Cond.instanceMethod yX4_dearTiles, Cond.selects RX4 yX4_dearTiles yX4_dearTiles, Cond.code yX4_dearTiles cX4_dearTiles 6 (some .int), Cond.methodLink RX4 34 yX4_signs, Cond.instanceMethod yX4_signs, Cond.selects RX4 yX4_signs yX4_signs, Cond.code yX4_signs cX4_signs 1 (some .int), Cond.methodLink RX4 30 yX4_kindAt, Cond.instanceMethod yX4_kindAt, Cond.selects RX4 yX4_kindAt yX4_kindAt, Cond.code yX4_kindAt cX4_kindAt 2 (some .int), Cond.fieldLink RX4 11 "TileHouse$Wall" "kinds" "[I"]
def wsX6_win_r4 : List Cond := [Cond.methodLink RX4 38 yX4_behind, Cond.static yX4_behind, Cond.code yX4_behind cX4_behind 1 (some .int), Cond.methodLink RX4 41 yX3_all, Cond.instanceMethod yX3_all, Cond.selects RX3 yX3_all yX3_all, Cond.code yX3_all cX3_all 2 (some .int), Cond.methodLink RX6 263 yX6_windOf, Cond.instanceMethod yX6_windOf, Cond.selects RX6 yX6_windOf yX6_windOf, Cond.code yX6_windOf cX6_windOf 2 (some .int), Cond.methodLink RX6 304 yX1_judge, Cond.instanceMethod yX1_judge, Cond.selects RX1 yX1_judge yX1_judge, Cond.initialized RX1, Cond.code yX1_judge cX1_judge 11 none, Cond.fieldLink RX1 21 "TileHouse$Judge" "base" "I", Cond.fieldLink RX1 25 "TileHouse$Judge" "han" "I", Cond.fieldLink RX1 28 "TileHouse$Judge" "fu" "I", Cond.fieldLink RX1 31 "TileHouse$Judge" "best" "J", Cond.fieldLink RX1 35 "TileHouse$Judge" "ways" "I", Cond.fieldLink RX1 48 "TileHouse$Judge" "tiles" "LTileHouse$Tiles;", Cond.fieldLink RX1 52 "TileHouse$Judge" "winner" "I", Cond.fieldLink RX1 55 "TileHouse$Judge" "drawn" "Z"]
def wsX6_win_r5 : List Cond := [Cond.fieldLink RX1 63 "TileHouse$Judge" "open" "Z", Cond.fieldLink RX1 66 "TileHouse$Judge" "seatWind" "I", Cond.fieldLink RX1 69 "TileHouse$Judge" "roundWind" "I", Cond.fieldLink RX1 72 "TileHouse$Judge" "dear" "I", Cond.fieldLink RX1 86 "TileHouse$Judge" "shared" "J", Cond.constantLong RX1 94 (65536), Cond.constantLong RX1 103 (4294967296), Cond.fieldLink RX1 105 "TileHouse$Judge" "pair" "I", Cond.fieldLink RX1 108 "TileHouse$Tiles" "free" "[I", Cond.methodLink RX1 38 yX3_size, Cond.instanceMethod yX3_size, Cond.selects RX3 yX3_size yX3_size, Cond.code yX3_size cX3_size 1 (some .int), Cond.fieldLink RX3 24 "TileHouse$Tiles" "laidDown" "I", Cond.methodLink RX1 44 yX3_free, Cond.instanceMethod yX3_free, Cond.selects RX3 yX3_free yX3_free, Cond.code yX3_free cX3_free 2 (some .int), Cond.methodLink RX1 59 yX3_isOpen, Cond.instanceMethod yX3_isOpen, Cond.selects RX3 yX3_isOpen yX3_isOpen, Cond.code yX3_isOpen cX3_isOpen 2 (some .boolean), Cond.fieldLink RX3 18 "TileHouse$Tiles" "sort" "[I", Cond.methodLink RX1 75 yX1_toldOnes]
def wsX6_win_r6 : List Cond := [Cond.instanceMethod yX1_toldOnes, Cond.selects RX1 yX1_toldOnes yX1_toldOnes, Cond.code yX1_toldOnes cX1_toldOnes 5 (some .long), Cond.constantLong RX1 124 (13194139533559), Cond.constantLong RX1 126 (-2), Cond.constantLong RX1 128 (8), Cond.methodLink RX1 79 yX3_kinds, Cond.instanceMethod yX3_kinds, Cond.selects RX3 yX3_kinds yX3_kinds, Cond.code yX3_kinds cX3_kinds 4 (some .long), Cond.methodLink RX1 83 yX1_tileForms, Cond.instanceMethod yX1_tileForms, Cond.selects RX1 yX1_tileForms yX1_tileForms, Cond.code yX1_tileForms cX1_tileForms 6 (some .long), Cond.constantLong RX1 130 (17045651456), Cond.constantLong RX1 132 (511), Cond.constantLong RX1 134 (17113154305), Cond.constantLong RX1 140 (-17113154306), Cond.constantLong RX1 142 (-17045651457), Cond.constantLong RX1 144 (-67502850), Cond.constantLong RX1 146 (-4340580353), Cond.methodLink RX1 136 yX1_bit, Cond.static yX1_bit, Cond.code yX1_bit cX1_bit 2 (some .long)]
def wsX6_win_r7 : List Cond := [Cond.methodLink RX1 148 yX1_isNineGates, Cond.instanceMethod yX1_isNineGates, Cond.selects RX1 yX1_isNineGates yX1_isNineGates, Cond.code yX1_isNineGates cX1_isNineGates 4 (some .boolean), Cond.fieldLink RX1 151 "TileHouse$Tiles" "laidDown" "I", Cond.methodLink RX1 89 yX3_isSevenPairs, Cond.instanceMethod yX3_isSevenPairs, Cond.selects RX3 yX3_isSevenPairs yX3_isSevenPairs, Cond.code yX3_isSevenPairs cX3_isSevenPairs 2 (some .boolean), Cond.methodLink RX1 96 yX1_offer, Cond.instanceMethod yX1_offer, Cond.selects RX1 yX1_offer yX1_offer, Cond.code yX1_offer cX1_offer 10 none, Cond.constantLong RX1 221 (-268437008), Cond.constantLong RX1 223 (17587891077120), Cond.methodLink RX1 189 yJ13_bitCount_95d88, Cond.static yJ13_bitCount_95d88, Cond.initialized RJ13, Cond.code yJ13_bitCount_95d88 cJ13_bitCount_95d88 2 (some .int), Cond.constantLong RJ13 314 (6148914691236517205), Cond.constantLong RJ13 316 (3689348814741910323), Cond.constantLong RJ13 318 (1085102592571150095), Cond.methodLink RX1 225 yX0_hanOf, Cond.static yX0_hanOf]
def wsX6_win_r8 : List Cond := [Cond.initialized RX0, Cond.code yX0_hanOf cX0_hanOf 5 (some .int), Cond.fieldLink RX0 9 "TileHouse$Forms" "HAN" "[I", Cond.fieldLink RX0 13 "TileHouse$Forms" "OPEN_HAN" "[I", Cond.methodLink RX1 229 yX0_baseOf, Cond.static yX0_baseOf, Cond.code yX0_baseOf cX0_baseOf 3 (some .int), Cond.methodLink RX1 232 yX1_isBetter, Cond.instanceMethod yX1_isBetter, Cond.selects RX1 yX1_isBetter yX1_isBetter, Cond.code yX1_isBetter cX1_isBetter 6 (some .boolean), Cond.methodLink RX1 100 yX3_isThirteen, Cond.instanceMethod yX3_isThirteen, Cond.selects RX3 yX3_isThirteen yX3_isThirteen, Cond.code yX3_isThirteen cX3_isThirteen 1 (some .boolean), Cond.constantLong RX3 69 (17113154305), Cond.methodLink RX3 65 yX3_kinds, Cond.methodLink RX1 110 yX1_findThrees, Cond.instanceMethod yX1_findThrees, Cond.selects RX1 yX1_findThrees yX1_findThrees, Cond.code yX1_findThrees cX1_findThrees 3 (some .int), Cond.fieldLink RX1 18 "TileHouse$Judge" "mayBeThrees" "[I", Cond.methodLink RX1 113 yX1_chosenThrees, Cond.instanceMethod yX1_chosenThrees]
def wsX6_win_r9 : List Cond := [Cond.selects RX1 yX1_chosenThrees yX1_chosenThrees, Cond.code yX1_chosenThrees cX1_chosenThrees 5 (some .long), Cond.methodLink RX1 117 yX1_fillWay, Cond.instanceMethod yX1_fillWay, Cond.selects RX1 yX1_fillWay yX1_fillWay, Cond.code yX1_fillWay cX1_fillWay 10 (some .boolean), Cond.fieldLink RX1 9 "TileHouse$Judge" "sort" "[I", Cond.fieldLink RX1 154 "TileHouse$Tiles" "sort" "[I", Cond.fieldLink RX1 15 "TileHouse$Judge" "low" "[I", Cond.fieldLink RX1 155 "TileHouse$Tiles" "low" "[I", Cond.static yX6_holds, Cond.code yX6_holds cX6_holds 3 (some .boolean), Cond.static yX6_startsRun, Cond.code yX6_startsRun cX6_startsRun 1 (some .boolean), Cond.methodLink RX1 121 yX1_weighWay, Cond.instanceMethod yX1_weighWay, Cond.selects RX1 yX1_weighWay yX1_weighWay, Cond.code yX1_weighWay cX1_weighWay 4 none, Cond.fieldLink RX1 164 "TileHouse$Judge" "runs" "J", Cond.fieldLink RX1 167 "TileHouse$Judge" "threes" "J", Cond.methodLink RX1 170 yX1_likeRuns, Cond.instanceMethod yX1_likeRuns, Cond.selects RX1 yX1_likeRuns yX1_likeRuns, Cond.code yX1_likeRuns cX1_likeRuns 5 (some .long)]
def wsX6_win_r10 : List Cond := [Cond.methodLink RX1 173 yX1_setForms, Cond.instanceMethod yX1_setForms, Cond.selects RX1 yX1_setForms yX1_setForms, Cond.code yX1_setForms cX1_setForms 5 (some .long), Cond.constantLong RX1 185 (73), Cond.constantLong RX1 187 (15032385536), Cond.constantLong RX1 195 (2013265920), Cond.methodLink RX1 176 yX1_endForms, Cond.instanceMethod yX1_endForms, Cond.selects RX1 yX1_endForms yX1_endForms, Cond.code yX1_endForms cX1_endForms 7 (some .long), Cond.constantLong RX1 197 (67502849), Cond.constantLong RX1 199 (7), Cond.methodLink RX1 179 yX1_mayHaveCompleted, Cond.instanceMethod yX1_mayHaveCompleted, Cond.selects RX1 yX1_mayHaveCompleted yX1_mayHaveCompleted, Cond.code yX1_mayHaveCompleted cX1_mayHaveCompleted 4 (some .boolean), Cond.methodLink RX1 182 yX1_weighCompleted, Cond.instanceMethod yX1_weighCompleted, Cond.selects RX1 yX1_weighCompleted yX1_weighCompleted, Cond.code yX1_weighCompleted cX1_weighCompleted 8 none, Cond.methodLink RX1 201 yX1_isHidden, Cond.instanceMethod yX1_isHidden, Cond.selects RX1 yX1_isHidden yX1_isHidden]
def wsX6_win_r11 : List Cond := [Cond.code yX1_isHidden cX1_isHidden 3 (some .boolean), Cond.methodLink RX1 205 yX1_pairFu, Cond.instanceMethod yX1_pairFu, Cond.selects RX1 yX1_pairFu yX1_pairFu, Cond.code yX1_pairFu cX1_pairFu 1 (some .int), Cond.methodLink RX1 208 yX1_waitFu, Cond.instanceMethod yX1_waitFu, Cond.selects RX1 yX1_waitFu yX1_waitFu, Cond.code yX1_waitFu cX1_waitFu 4 (some .int), Cond.methodLink RX1 211 yX1_fuOf, Cond.instanceMethod yX1_fuOf, Cond.selects RX1 yX1_fuOf yX1_fuOf, Cond.code yX1_fuOf cX1_fuOf 6 (some .int), Cond.methodLink RX1 215 Lib.Math.max.name, Cond.static Lib.Math.max.name, Cond.initialized "java/lang/Math", Cond.code Lib.Math.max.name Lib.Math.max.code 2 (some .int), Cond.methodLink RX6 100 yX3_take, Cond.instanceMethod yX3_take, Cond.selects RX3 yX3_take yX3_take, Cond.code yX3_take cX3_take 3 none, Cond.methodLink RX3 35 yX3_put, Cond.methodLink RX6 197 yX6_hundreds, Cond.static yX6_hundreds]
def wsX6_win_r12 : List Cond := [Cond.code yX6_hundreds cX6_hundreds 1 (some .int), Cond.methodLink RX6 206 yX6_recordWin, Cond.instanceMethod yX6_recordWin, Cond.selects RX6 yX6_recordWin yX6_recordWin, Cond.code yX6_recordWin cX6_recordWin 5 none, Cond.fieldLink RX6 83 "TileHouse" "winCount" "I", Cond.fieldLink RX6 31 "TileHouse" "wins" "[LTileHouse$Win;", Cond.fieldLink RX6 360 "TileHouse$Win" "seat" "I", Cond.fieldLink RX6 363 "TileHouse$Win" "payer" "I", Cond.fieldLink RX6 366 "TileHouse$Win" "base" "I", Cond.fieldLink RX6 307 "TileHouse$Judge" "han" "I", Cond.fieldLink RX6 367 "TileHouse$Win" "han" "I", Cond.fieldLink RX6 310 "TileHouse$Judge" "fu" "I", Cond.fieldLink RX6 368 "TileHouse$Win" "fu" "I", Cond.fieldLink RX6 316 "TileHouse$Judge" "best" "J", Cond.fieldLink RX6 275 "TileHouse$Win" "made" "J", Cond.fieldLink RX6 369 "TileHouse$Win" "got" "I", Cond.fieldLink RX6 372 "TileHouse$Win" "kind" "I", Cond.methodLink RX6 209 yX6_endHand, Cond.instanceMethod yX6_endHand, Cond.selects RX6 yX6_endHand yX6_endHand, Cond.code yX6_endHand cX6_endHand 5 none, Cond.fieldLink RX6 284 "TileHouse" "handsEnded" "I", Cond.fieldLink RX6 54 "TileHouse" "ended" "Z"]
def wsX6_win_r13 : List Cond := [Cond.methodLink RX6 375 yX6_someoneIsBroke, Cond.instanceMethod yX6_someoneIsBroke, Cond.selects RX6 yX6_someoneIsBroke yX6_someoneIsBroke, Cond.code yX6_someoneIsBroke cX6_someoneIsBroke 2 (some .boolean), Cond.methodLink RX6 378 yX6_richest, Cond.instanceMethod yX6_richest, Cond.selects RX6 yX6_richest yX6_richest, Cond.code yX6_richest cX6_richest 3 (some .int)]
def wsX6_win : List Cond := .code yX6_win cX6_win 6 (some .boolean) :: ((wsX6_win_r1 ++ (wsX6_win_r2 ++ (wsX6_win_r3 ++ (wsX6_win_r4 ++ (wsX6_win_r5 ++ (wsX6_win_r6 ++ (wsX6_win_r7 ++ (wsX6_win_r8 ++ (wsX6_win_r9 ++ (wsX6_win_r10 ++ (wsX6_win_r11 ++ (wsX6_win_r12 ++ wsX6_win_r13)))))))))))) ++ wsX60 ++ wsX10 ++ wsX20 ++ wsX30 ++ wsX40 ++ wsX50)
def wsX6_claim_r1 : List Cond := [Cond.fieldLink RX6 45 "TileHouse" "phase" "I", Cond.fieldLink RX6 97 "TileHouse" "turn" "I", Cond.fieldLink RX6 216 "TileHouse$Seat" "says" "Z", Cond.fieldLink RX6 219 "TileHouse$Seat" "letGo" "Z", Cond.fieldLink RX6 72 "TileHouse$Seat" "tiles" "LTileHouse$Tiles;", Cond.fieldLink RX6 49 "TileHouse" "tile" "I", Cond.fieldLink RX6 230 "TileHouse$Seat" "thrownKinds" "J", Cond.methodLink RX6 213 yX6_isSeat, Cond.static yX6_isSeat, Cond.initialized RX6, Cond.code yX6_isSeat cX6_isSeat 1 (some .boolean), Cond.methodLink RX6 65 yX6_at, Cond.instanceMethod yX6_at, Cond.selects RX6 yX6_at yX6_at, Cond.code yX6_at cX6_at 2 (some (.object "TileHouse$Seat")), Cond.fieldLink RX6 11 "TileHouse" "players" "[LTileHouse$Seat;", Cond.methodLink RX6 222 yX3_waiting, Cond.instanceMethod yX3_waiting, Cond.selects RX3 yX3_waiting yX3_waiting, Cond.initialized RX3, Cond.code yX3_waiting cX3_waiting 4 (some .long), Cond.methodLink RX3 45 yX3_waitsFor, Cond.instanceMethod yX3_waitsFor, Cond.selects RX3 yX3_waitsFor yX3_waitsFor]
def wsX6_claim_r2 : List Cond := [Cond.code yX3_waitsFor cX3_waitsFor 3 (some .boolean), Cond.fieldLink RX3 15 "TileHouse$Tiles" "all" "[I", Cond.methodLink RX3 48 yX3_size, Cond.instanceMethod yX3_size, Cond.selects RX3 yX3_size yX3_size, Cond.code yX3_size cX3_size 1 (some .int), Cond.fieldLink RX3 28 "TileHouse$Tiles" "loose" "I", Cond.fieldLink RX3 24 "TileHouse$Tiles" "laidDown" "I", Cond.static yX6_isKind, Cond.code yX6_isKind cX6_isKind 1 (some .boolean), Cond.methodLink RX3 35 yX3_put, Cond.instanceMethod yX3_put, Cond.selects RX3 yX3_put yX3_put, Cond.code yX3_put cX3_put 3 none, Cond.fieldLink RX3 9 "TileHouse$Tiles" "free" "[I", Cond.methodLink RX3 52 yX3_isSevenPairs, Cond.instanceMethod yX3_isSevenPairs, Cond.selects RX3 yX3_isSevenPairs yX3_isSevenPairs, Cond.code yX3_isSevenPairs cX3_isSevenPairs 2 (some .boolean), Cond.methodLink RX3 56 yX3_isThirteen, Cond.instanceMethod yX3_isThirteen, Cond.selects RX3 yX3_isThirteen yX3_isThirteen, Cond.code yX3_isThirteen cX3_isThirteen 1 (some .boolean), Cond.constantLong RX3 69 (17113154305)]
def wsX6_claim_r3 : List Cond := [Cond.methodLink RX3 65 yX3_kinds, Cond.instanceMethod yX3_kinds, Cond.selects RX3 yX3_kinds yX3_kinds, Cond.code yX3_kinds cX3_kinds 4 (some .long), Cond.methodLink RX3 59 yX3_isSetsAndPair, Cond.instanceMethod yX3_isSetsAndPair, Cond.selects RX3 yX3_isSetsAndPair yX3_isSetsAndPair, Cond.code yX3_isSetsAndPair cX3_isSetsAndPair 2 (some .boolean), Cond.methodLink RX3 71 yX3_splitsBeside, Cond.instanceMethod yX3_splitsBeside, Cond.selects RX3 yX3_splitsBeside yX3_splitsBeside, Cond.code yX3_splitsBeside cX3_splitsBeside 7 (some .boolean), Cond.static yX6_startsRun, Cond.code yX6_startsRun cX6_startsRun 1 (some .boolean), Cond.methodLink RX3 62 yX3_take, Cond.instanceMethod yX3_take, Cond.selects RX3 yX3_take yX3_take, Cond.code yX3_take cX3_take 3 none, Cond.methodLink RX6 226 yX6_holds, Cond.static yX6_holds, Cond.code yX6_holds cX6_holds 3 (some .boolean), Cond.methodLink RX6 187 yX6_weighHand, Cond.instanceMethod yX6_weighHand, Cond.selects RX6 yX6_weighHand yX6_weighHand]
def wsX6_claim_r4 : List Cond := [Cond.code yX6_weighHand cX6_weighHand 7 (some .int), Cond.fieldLink RX6 18 "TileHouse" "bricks" "LTileHouse$Wall;", Cond.fieldLink RX6 110 "TileHouse$Seat" "bet" "I", Cond.fieldLink RX6 25 "TileHouse" "judge" "LTileHouse$Judge;", Cond.fieldLink RX6 278 "TileHouse" "round" "I", Cond.fieldLink RX6 194 "TileHouse$Judge" "base" "I", Cond.methodLink RX6 79 yX3_put, Cond.methodLink RX6 334 yX6_toldForms, Cond.instanceMethod yX6_toldForms, Cond.selects RX6 yX6_toldForms yX6_toldForms, Cond.code yX6_toldForms cX6_toldForms 5 (some .long), Cond.constantLong RX6 348 (2), Cond.fieldLink RX6 116 "TileHouse$Seat" "atOnce" "Z", Cond.constantLong RX6 350 (4), Cond.fieldLink RX6 319 "TileHouse" "behindFour" "Z", Cond.constantLong RX6 352 (64), Cond.constantLong RX6 354 (128), Cond.constantLong RX6 356 (32), Cond.constantLong RX6 358 (16), Cond.methodLink RX6 140 yX4_left, Cond.instanceMethod yX4_left, Cond.selects RX4 yX4_left yX4_left, Cond.initialized RX4, Cond.code yX4_left cX4_left 1 (some .int)]
def wsX6_claim_r5 : List Cond := [Cond.fieldLink RX4 19 "TileHouse$Wall" "stands" "Z", Cond.fieldLink RX4 27 "TileHouse$Wall" "fours" "I", Cond.fieldLink RX4 23 "TileHouse$Wall" "next" "I", Cond.methodLink RX6 338 yX6_firstDraw, Cond.instanceMethod yX6_firstDraw, Cond.selects RX6 yX6_firstDraw yX6_firstDraw, Cond.code yX6_firstDraw cX6_firstDraw 3 (some .long), Cond.fieldLink RX6 86 "TileHouse" "broken" "Z", Cond.fieldLink RX6 107 "TileHouse$Seat" "discards" "I", Cond.fieldLink RX6 62 "TileHouse" "dealer" "I", Cond.methodLink RX6 342 yX4_dearTiles, Cond.instanceMethod yX4_dearTiles, Cond.selects RX4 yX4_dearTiles yX4_dearTiles, Cond.code yX4_dearTiles cX4_dearTiles 6 (some .int), Cond.methodLink RX4 34 yX4_signs, Cond.instanceMethod yX4_signs, Cond.selects RX4 yX4_signs yX4_signs, Cond.code yX4_signs cX4_signs 1 (some .int), Cond.methodLink RX4 30 yX4_kindAt, Cond.instanceMethod yX4_kindAt, Cond.selects RX4 yX4_kindAt yX4_kindAt, Cond.code yX4_kindAt cX4_kindAt 2 (some .int), Cond.fieldLink RX4 11 "TileHouse$Wall" "kinds" "[I", Cond.methodLink RX4 38 yX4_behind]
def wsX6_claim_r6 : List Cond := [Cond.static yX4_behind, Cond.code yX4_behind cX4_behind 1 (some .int), Cond.methodLink RX4 41 yX3_all, Cond.instanceMethod yX3_all, Cond.selects RX3 yX3_all yX3_all, Cond.code yX3_all cX3_all 2 (some .int), Cond.methodLink RX6 263 yX6_windOf, Cond.instanceMethod yX6_windOf, Cond.selects RX6 yX6_windOf yX6_windOf, Cond.code yX6_windOf cX6_windOf 2 (some .int), Cond.methodLink RX6 304 yX1_judge, Cond.instanceMethod yX1_judge, Cond.selects RX1 yX1_judge yX1_judge, Cond.initialized RX1, Cond.code yX1_judge cX1_judge 11 none, Cond.fieldLink RX1 21 "TileHouse$Judge" "base" "I", Cond.fieldLink RX1 25 "TileHouse$Judge" "han" "I", Cond.fieldLink RX1 28 "TileHouse$Judge" "fu" "I", Cond.fieldLink RX1 31 "TileHouse$Judge" "best" "J", Cond.fieldLink RX1 35 "TileHouse$Judge" "ways" "I", Cond.fieldLink RX1 48 "TileHouse$Judge" "tiles" "LTileHouse$Tiles;", Cond.fieldLink RX1 52 "TileHouse$Judge" "winner" "I", Cond.fieldLink RX1 55 "TileHouse$Judge" "drawn" "Z", Cond.fieldLink RX1 63 "TileHouse$Judge" "open" "Z"]
def wsX6_claim_r7 : List Cond := [Cond.fieldLink RX1 66 "TileHouse$Judge" "seatWind" "I", Cond.fieldLink RX1 69 "TileHouse$Judge" "roundWind" "I", Cond.fieldLink RX1 72 "TileHouse$Judge" "dear" "I", Cond.fieldLink RX1 86 "TileHouse$Judge" "shared" "J", Cond.constantLong RX1 94 (65536), Cond.constantLong RX1 103 (4294967296), Cond.fieldLink RX1 105 "TileHouse$Judge" "pair" "I", Cond.fieldLink RX1 108 "TileHouse$Tiles" "free" "[I", Cond.methodLink RX1 38 yX3_size, Cond.methodLink RX1 44 yX3_free, Cond.instanceMethod yX3_free, Cond.selects RX3 yX3_free yX3_free, Cond.code yX3_free cX3_free 2 (some .int), Cond.methodLink RX1 59 yX3_isOpen, Cond.instanceMethod yX3_isOpen, Cond.selects RX3 yX3_isOpen yX3_isOpen, Cond.code yX3_isOpen cX3_isOpen 2 (some .boolean), Cond.fieldLink RX3 18 "TileHouse$Tiles" "sort" "[I", Cond.methodLink RX1 75 yX1_toldOnes, Cond.instanceMethod yX1_toldOnes, Cond.selects RX1 yX1_toldOnes yX1_toldOnes, Cond.code yX1_toldOnes cX1_toldOnes 5 (some .long), Cond.constantLong RX1 124 (13194139533559), Cond.constantLong RX1 126 (-2)]
def wsX6_claim_r8 : List Cond := [Cond.constantLong RX1 128 (8), Cond.methodLink RX1 79 yX3_kinds, Cond.methodLink RX1 83 yX1_tileForms, Cond.instanceMethod yX1_tileForms, Cond.selects RX1 yX1_tileForms yX1_tileForms, Cond.code yX1_tileForms cX1_tileForms 6 (some .long), Cond.constantLong RX1 130 (17045651456), Cond.constantLong RX1 132 (511), Cond.constantLong RX1 134 (17113154305), Cond.constantLong RX1 140 (-17113154306), Cond.constantLong RX1 142 (-17045651457), Cond.constantLong RX1 144 (-67502850), Cond.constantLong RX1 146 (-4340580353), Cond.methodLink RX1 136 yX1_bit, Cond.static yX1_bit, Cond.code yX1_bit cX1_bit 2 (some .long), Cond.methodLink RX1 148 yX1_isNineGates, Cond.instanceMethod yX1_isNineGates, Cond.selects RX1 yX1_isNineGates yX1_isNineGates, Cond.code yX1_isNineGates cX1_isNineGates 4 (some .boolean), Cond.fieldLink RX1 151 "TileHouse$Tiles" "laidDown" "I", Cond.methodLink RX1 89 yX3_isSevenPairs, Cond.methodLink RX1 96 yX1_offer, Cond.instanceMethod yX1_offer]
def wsX6_claim_r9 : List Cond := [Cond.selects RX1 yX1_offer yX1_offer, Cond.code yX1_offer cX1_offer 10 none, Cond.constantLong RX1 221 (-268437008), Cond.constantLong RX1 223 (17587891077120), Cond.methodLink RX1 189 yJ13_bitCount_95d88, Cond.static yJ13_bitCount_95d88, Cond.initialized RJ13, Cond.code yJ13_bitCount_95d88 cJ13_bitCount_95d88 2 (some .int), Cond.constantLong RJ13 314 (6148914691236517205), Cond.constantLong RJ13 316 (3689348814741910323), Cond.constantLong RJ13 318 (1085102592571150095), Cond.methodLink RX1 225 yX0_hanOf, Cond.static yX0_hanOf, Cond.initialized RX0, Cond.code yX0_hanOf cX0_hanOf 5 (some .int), Cond.fieldLink RX0 9 "TileHouse$Forms" "HAN" "[I", Cond.fieldLink RX0 13 "TileHouse$Forms" "OPEN_HAN" "[I", Cond.methodLink RX1 229 yX0_baseOf, Cond.static yX0_baseOf, Cond.code yX0_baseOf cX0_baseOf 3 (some .int), Cond.methodLink RX1 232 yX1_isBetter, Cond.instanceMethod yX1_isBetter, Cond.selects RX1 yX1_isBetter yX1_isBetter, Cond.code yX1_isBetter cX1_isBetter 6 (some .boolean)]
def wsX6_claim_r10 : List Cond := [Cond.methodLink RX1 100 yX3_isThirteen, Cond.methodLink RX1 110 yX1_findThrees, Cond.instanceMethod yX1_findThrees, Cond.selects RX1 yX1_findThrees yX1_findThrees, Cond.code yX1_findThrees cX1_findThrees 3 (some .int), Cond.fieldLink RX1 18 "TileHouse$Judge" "mayBeThrees" "[I", Cond.methodLink RX1 113 yX1_chosenThrees, Cond.instanceMethod yX1_chosenThrees, Cond.selects RX1 yX1_chosenThrees yX1_chosenThrees, Cond.code yX1_chosenThrees cX1_chosenThrees 5 (some .long), Cond.methodLink RX1 117 yX1_fillWay, Cond.instanceMethod yX1_fillWay, Cond.selects RX1 yX1_fillWay yX1_fillWay, Cond.code yX1_fillWay cX1_fillWay 10 (some .boolean), Cond.fieldLink RX1 9 "TileHouse$Judge" "sort" "[I", Cond.fieldLink RX1 154 "TileHouse$Tiles" "sort" "[I", Cond.fieldLink RX1 15 "TileHouse$Judge" "low" "[I", Cond.fieldLink RX1 155 "TileHouse$Tiles" "low" "[I", Cond.methodLink RX1 121 yX1_weighWay, Cond.instanceMethod yX1_weighWay, Cond.selects RX1 yX1_weighWay yX1_weighWay, Cond.code yX1_weighWay cX1_weighWay 4 none, Cond.fieldLink RX1 164 "TileHouse$Judge" "runs" "J", Cond.fieldLink RX1 167 "TileHouse$Judge" "threes" "J"]
def wsX6_claim_r11 : List Cond := [Cond.methodLink RX1 170 yX1_likeRuns, Cond.instanceMethod yX1_likeRuns, Cond.selects RX1 yX1_likeRuns yX1_likeRuns, Cond.code yX1_likeRuns cX1_likeRuns 5 (some .long), Cond.methodLink RX1 173 yX1_setForms, Cond.instanceMethod yX1_setForms, Cond.selects RX1 yX1_setForms yX1_setForms, Cond.code yX1_setForms cX1_setForms 5 (some .long), Cond.constantLong RX1 185 (73), Cond.constantLong RX1 187 (15032385536), Cond.constantLong RX1 195 (2013265920), Cond.methodLink RX1 176 yX1_endForms, Cond.instanceMethod yX1_endForms, Cond.selects RX1 yX1_endForms yX1_endForms, Cond.code yX1_endForms cX1_endForms 7 (some .long), Cond.constantLong RX1 197 (67502849), Cond.constantLong RX1 199 (7), Cond.methodLink RX1 179 yX1_mayHaveCompleted, Cond.instanceMethod yX1_mayHaveCompleted, Cond.selects RX1 yX1_mayHaveCompleted yX1_mayHaveCompleted, Cond.code yX1_mayHaveCompleted cX1_mayHaveCompleted 4 (some .boolean), Cond.methodLink RX1 182 yX1_weighCompleted, Cond.instanceMethod yX1_weighCompleted, Cond.selects RX1 yX1_weighCompleted yX1_weighCompleted]
def wsX6_claim_r12 : List Cond := [Cond.code yX1_weighCompleted cX1_weighCompleted 8 none, Cond.methodLink RX1 201 yX1_isHidden, Cond.instanceMethod yX1_isHidden, Cond.selects RX1 yX1_isHidden yX1_isHidden, Cond.code yX1_isHidden cX1_isHidden 3 (some .boolean), Cond.methodLink RX1 205 yX1_pairFu, Cond.instanceMethod yX1_pairFu, Cond.selects RX1 yX1_pairFu yX1_pairFu, Cond.code yX1_pairFu cX1_pairFu 1 (some .int), Cond.methodLink RX1 208 yX1_waitFu, Cond.instanceMethod yX1_waitFu, Cond.selects RX1 yX1_waitFu yX1_waitFu, Cond.code yX1_waitFu cX1_waitFu 4 (some .int), Cond.methodLink RX1 211 yX1_fuOf, Cond.instanceMethod yX1_fuOf, Cond.selects RX1 yX1_fuOf yX1_fuOf, Cond.code yX1_fuOf cX1_fuOf 6 (some .int), Cond.methodLink RX1 215 Lib.Math.max.name, Cond.static Lib.Math.max.name, Cond.initialized "java/lang/Math", Cond.code Lib.Math.max.name Lib.Math.max.code 2 (some .int), Cond.methodLink RX6 100 yX3_take]
def wsX6_claim : List Cond := .code yX6_claim cX6_claim 5 (some .boolean) :: ((wsX6_claim_r1 ++ (wsX6_claim_r2 ++ (wsX6_claim_r3 ++ (wsX6_claim_r4 ++ (wsX6_claim_r5 ++ (wsX6_claim_r6 ++ (wsX6_claim_r7 ++ (wsX6_claim_r8 ++ (wsX6_claim_r9 ++ (wsX6_claim_r10 ++ (wsX6_claim_r11 ++ wsX6_claim_r12))))))))))) ++ wsX60 ++ wsX20 ++ wsX30 ++ wsX10 ++ wsX40)
def wsX6_nine_r1 : List Cond := [Cond.fieldLink RX6 45 "TileHouse" "phase" "I", Cond.fieldLink RX6 86 "TileHouse" "broken" "Z", Cond.fieldLink RX6 97 "TileHouse" "turn" "I", Cond.fieldLink RX6 107 "TileHouse$Seat" "discards" "I", Cond.fieldLink RX6 72 "TileHouse$Seat" "tiles" "LTileHouse$Tiles;", Cond.constantLong RX6 236 (17113154305), Cond.methodLink RX6 65 yX6_at, Cond.instanceMethod yX6_at, Cond.selects RX6 yX6_at yX6_at, Cond.initialized RX6, Cond.code yX6_at cX6_at 2 (some (.object "TileHouse$Seat")), Cond.fieldLink RX6 11 "TileHouse" "players" "[LTileHouse$Seat;", Cond.methodLink RX6 233 yX3_kinds, Cond.instanceMethod yX3_kinds, Cond.selects RX3 yX3_kinds yX3_kinds, Cond.initialized RX3, Cond.code yX3_kinds cX3_kinds 4 (some .long), Cond.fieldLink RX3 15 "TileHouse$Tiles" "all" "[I", Cond.methodLink RX6 238 yJ13_bitCount_95d88, Cond.static yJ13_bitCount_95d88, Cond.initialized RJ13, Cond.code yJ13_bitCount_95d88 cJ13_bitCount_95d88 2 (some .int), Cond.constantLong RJ13 314 (6148914691236517205), Cond.constantLong RJ13 316 (3689348814741910323)]
def wsX6_nine_r2 : List Cond := [Cond.constantLong RJ13 318 (1085102592571150095), Cond.methodLink RX6 209 yX6_endHand, Cond.instanceMethod yX6_endHand, Cond.selects RX6 yX6_endHand yX6_endHand, Cond.code yX6_endHand cX6_endHand 5 none, Cond.fieldLink RX6 284 "TileHouse" "handsEnded" "I", Cond.fieldLink RX6 62 "TileHouse" "dealer" "I", Cond.fieldLink RX6 278 "TileHouse" "round" "I", Cond.fieldLink RX6 54 "TileHouse" "ended" "Z", Cond.fieldLink RX6 203 "TileHouse$Seat" "points" "I", Cond.fieldLink RX6 191 "TileHouse" "bets" "I", Cond.fieldLink RX6 200 "TileHouse" "stays" "I", Cond.methodLink RX6 375 yX6_someoneIsBroke, Cond.instanceMethod yX6_someoneIsBroke, Cond.selects RX6 yX6_someoneIsBroke yX6_someoneIsBroke, Cond.code yX6_someoneIsBroke cX6_someoneIsBroke 2 (some .boolean), Cond.methodLink RX6 378 yX6_richest, Cond.instanceMethod yX6_richest, Cond.selects RX6 yX6_richest yX6_richest, Cond.code yX6_richest cX6_richest 3 (some .int)]
def wsX6_nine : List Cond := .code yX6_nine cX6_nine 1 (some .boolean) :: ((wsX6_nine_r1 ++ wsX6_nine_r2) ++ wsX60 ++ wsX20 ++ wsX30)
def wsX6_hand : List Cond := .code yX6_hand cX6_hand 3 (some .int) :: ([.fieldLink RX6 72 "TileHouse$Seat" "tiles" "LTileHouse$Tiles;", .methodLink RX6 213 yX6_isSeat, .static yX6_isSeat, .initialized RX6, .code yX6_isSeat cX6_isSeat 1 (some .boolean), .methodLink RX6 65 yX6_at, .instanceMethod yX6_at, .selects RX6 yX6_at yX6_at, .code yX6_at cX6_at 2 (some (.object "TileHouse$Seat")), .fieldLink RX6 11 "TileHouse" "players" "[LTileHouse$Seat;", .methodLink RX6 173 yX3_free, .instanceMethod yX3_free, .selects RX3 yX3_free yX3_free, .initialized RX3, .code yX3_free cX3_free 2 (some .int), .fieldLink RX3 9 "TileHouse$Tiles" "free" "[I", .static yX6_isKind, .code yX6_isKind cX6_isKind 1 (some .boolean)] ++ wsX20 ++ wsX60 ++ wsX30)
def wsX6_laid : List Cond := .code yX6_laid cX6_laid 5 (some .int) :: ([.fieldLink RX6 72 "TileHouse$Seat" "tiles" "LTileHouse$Tiles;", .fieldLink RX6 244 "TileHouse$Tiles" "laidDown" "I", .fieldLink RX6 247 "TileHouse$Tiles" "sort" "[I", .fieldLink RX6 250 "TileHouse$Tiles" "low" "[I", .methodLink RX6 213 yX6_isSeat, .static yX6_isSeat, .initialized RX6, .code yX6_isSeat cX6_isSeat 1 (some .boolean), .methodLink RX6 65 yX6_at, .instanceMethod yX6_at, .selects RX6 yX6_at yX6_at, .code yX6_at cX6_at 2 (some (.object "TileHouse$Seat")), .fieldLink RX6 11 "TileHouse" "players" "[LTileHouse$Seat;"] ++ wsX20 ++ wsX30 ++ wsX60)
def wsX6_river : List Cond := .code yX6_river cX6_river 3 (some .int) :: ([.classLink RX6 253 "java/util/NoSuchElementException", .initialized "java/util/NoSuchElementException", .fieldLink RX6 107 "TileHouse$Seat" "discards" "I", .methodLink RX6 213 yX6_isSeat, .static yX6_isSeat, .initialized RX6, .code yX6_isSeat cX6_isSeat 1 (some .boolean), .methodLink RX6 65 yX6_at, .instanceMethod yX6_at, .selects RX6 yX6_at yX6_at, .code yX6_at cX6_at 2 (some (.object "TileHouse$Seat")), .fieldLink RX6 11 "TileHouse" "players" "[LTileHouse$Seat;", .methodLink RX6 260 yX2_thrown, .instanceMethod yX2_thrown, .selects RX2 yX2_thrown yX2_thrown, .initialized RX2, .code yX2_thrown cX2_thrown 2 (some .int), .fieldLink RX2 18 "TileHouse$Seat" "thrown" "[I"] ++ wsX20 ++ wsX60 ++ cx_at.filter goodWord)
def wsX6_waits_r1 : List Cond := [Cond.fieldLink RX6 72 "TileHouse$Seat" "tiles" "LTileHouse$Tiles;", Cond.methodLink RX6 213 yX6_isSeat, Cond.static yX6_isSeat, Cond.initialized RX6, Cond.code yX6_isSeat cX6_isSeat 1 (some .boolean), Cond.methodLink RX6 65 yX6_at, Cond.instanceMethod yX6_at, Cond.selects RX6 yX6_at yX6_at, Cond.code yX6_at cX6_at 2 (some (.object "TileHouse$Seat")), Cond.fieldLink RX6 11 "TileHouse" "players" "[LTileHouse$Seat;", Cond.methodLink RX6 222 yX3_waiting, Cond.instanceMethod yX3_waiting, Cond.selects RX3 yX3_waiting yX3_waiting, Cond.initialized RX3, Cond.code yX3_waiting cX3_waiting 4 (some .long), Cond.methodLink RX3 45 yX3_waitsFor, Cond.instanceMethod yX3_waitsFor, Cond.selects RX3 yX3_waitsFor yX3_waitsFor, Cond.code yX3_waitsFor cX3_waitsFor 3 (some .boolean), Cond.fieldLink RX3 15 "TileHouse$Tiles" "all" "[I", Cond.methodLink RX3 48 yX3_size, Cond.instanceMethod yX3_size, Cond.selects RX3 yX3_size yX3_size, Cond.code yX3_size cX3_size 1 (some .int)]
def wsX6_waits_r2 : List Cond := [Cond.fieldLink RX3 28 "TileHouse$Tiles" "loose" "I", Cond.fieldLink RX3 24 "TileHouse$Tiles" "laidDown" "I", Cond.static yX6_isKind, Cond.code yX6_isKind cX6_isKind 1 (some .boolean), Cond.methodLink RX3 35 yX3_put, Cond.instanceMethod yX3_put, Cond.selects RX3 yX3_put yX3_put, Cond.code yX3_put cX3_put 3 none, Cond.fieldLink RX3 9 "TileHouse$Tiles" "free" "[I", Cond.methodLink RX3 52 yX3_isSevenPairs, Cond.instanceMethod yX3_isSevenPairs, Cond.selects RX3 yX3_isSevenPairs yX3_isSevenPairs, Cond.code yX3_isSevenPairs cX3_isSevenPairs 2 (some .boolean), Cond.methodLink RX3 56 yX3_isThirteen, Cond.instanceMethod yX3_isThirteen, Cond.selects RX3 yX3_isThirteen yX3_isThirteen, Cond.code yX3_isThirteen cX3_isThirteen 1 (some .boolean), Cond.constantLong RX3 69 (17113154305), Cond.methodLink RX3 65 yX3_kinds, Cond.instanceMethod yX3_kinds, Cond.selects RX3 yX3_kinds yX3_kinds, Cond.code yX3_kinds cX3_kinds 4 (some .long), Cond.methodLink RX3 59 yX3_isSetsAndPair, Cond.instanceMethod yX3_isSetsAndPair]
def wsX6_waits_r3 : List Cond := [Cond.selects RX3 yX3_isSetsAndPair yX3_isSetsAndPair, Cond.code yX3_isSetsAndPair cX3_isSetsAndPair 2 (some .boolean), Cond.methodLink RX3 71 yX3_splitsBeside, Cond.instanceMethod yX3_splitsBeside, Cond.selects RX3 yX3_splitsBeside yX3_splitsBeside, Cond.code yX3_splitsBeside cX3_splitsBeside 7 (some .boolean), Cond.static yX6_startsRun, Cond.code yX6_startsRun cX6_startsRun 1 (some .boolean), Cond.methodLink RX3 62 yX3_take, Cond.instanceMethod yX3_take, Cond.selects RX3 yX3_take yX3_take, Cond.code yX3_take cX3_take 3 none]
def wsX6_waits : List Cond := .code yX6_waits cX6_waits 2 (some .long) :: ((wsX6_waits_r1 ++ (wsX6_waits_r2 ++ wsX6_waits_r3)) ++ wsX20 ++ wsX60 ++ wsX30)
def wsX6_seat_r1 : List Cond := [Cond.fieldLink RX6 203 "TileHouse$Seat" "points" "I", Cond.fieldLink RX6 110 "TileHouse$Seat" "bet" "I", Cond.fieldLink RX6 219 "TileHouse$Seat" "letGo" "Z", Cond.fieldLink RX6 107 "TileHouse$Seat" "discards" "I", Cond.fieldLink RX6 72 "TileHouse$Seat" "tiles" "LTileHouse$Tiles;", Cond.fieldLink RX6 244 "TileHouse$Tiles" "laidDown" "I", Cond.fieldLink RX6 216 "TileHouse$Seat" "says" "Z", Cond.methodLink RX6 213 yX6_isSeat, Cond.static yX6_isSeat, Cond.initialized RX6, Cond.code yX6_isSeat cX6_isSeat 1 (some .boolean), Cond.methodLink RX6 65 yX6_at, Cond.instanceMethod yX6_at, Cond.selects RX6 yX6_at yX6_at, Cond.code yX6_at cX6_at 2 (some (.object "TileHouse$Seat")), Cond.fieldLink RX6 11 "TileHouse" "players" "[LTileHouse$Seat;", Cond.methodLink RX6 263 yX6_windOf, Cond.instanceMethod yX6_windOf, Cond.selects RX6 yX6_windOf yX6_windOf, Cond.code yX6_windOf cX6_windOf 2 (some .int), Cond.fieldLink RX6 62 "TileHouse" "dealer" "I", Cond.methodLink RX6 266 yX3_isOpen, Cond.instanceMethod yX3_isOpen, Cond.selects RX3 yX3_isOpen yX3_isOpen]
def wsX6_seat_r2 : List Cond := [Cond.initialized RX3, Cond.code yX3_isOpen cX3_isOpen 2 (some .boolean), Cond.fieldLink RX3 24 "TileHouse$Tiles" "laidDown" "I", Cond.fieldLink RX3 18 "TileHouse$Tiles" "sort" "[I"]
def wsX6_seat : List Cond := .code yX6_seat cX6_seat 4 (some .int) :: ((wsX6_seat_r1 ++ wsX6_seat_r2) ++ wsX20 ++ wsX30 ++ wsX60)
def wsX6_isWin : List Cond := .code yX6_isWin cX6_isWin 2 (some .boolean) :: ([.fieldLink RX6 83 "TileHouse" "winCount" "I"] ++ wsX60)
def wsX6_won : List Cond := .code yX6_won cX6_won 3 (some .int) :: ([.fieldLink RX6 31 "TileHouse" "wins" "[LTileHouse$Win;", .methodLink RX6 269 yX6_isWin, .instanceMethod yX6_isWin, .selects RX6 yX6_isWin yX6_isWin, .initialized RX6, .code yX6_isWin cX6_isWin 2 (some .boolean), .fieldLink RX6 83 "TileHouse" "winCount" "I", .methodLink RX6 272 yX5_part, .instanceMethod yX5_part, .selects RX5 yX5_part yX5_part, .initialized RX5, .code yX5_part cX5_part 2 (some .int), .fieldLink RX5 9 "TileHouse$Win" "seat" "I", .fieldLink RX5 15 "TileHouse$Win" "payer" "I", .fieldLink RX5 18 "TileHouse$Win" "base" "I", .fieldLink RX5 21 "TileHouse$Win" "han" "I", .fieldLink RX5 24 "TileHouse$Win" "fu" "I", .fieldLink RX5 27 "TileHouse$Win" "got" "I", .fieldLink RX5 30 "TileHouse$Win" "kind" "I"] ++ wsX60 ++ wsX50)
def wsX6_forms : List Cond := .code yX6_forms cX6_forms 2 (some .long) :: ([.fieldLink RX6 31 "TileHouse" "wins" "[LTileHouse$Win;", .fieldLink RX6 275 "TileHouse$Win" "made" "J", .methodLink RX6 269 yX6_isWin, .instanceMethod yX6_isWin, .selects RX6 yX6_isWin yX6_isWin, .initialized RX6, .code yX6_isWin cX6_isWin 2 (some .boolean), .fieldLink RX6 83 "TileHouse" "winCount" "I"] ++ wsX60 ++ wsX50)
def wsX6_count : List Cond := .code yX6_count cX6_count 2 (some .int) :: ([.fieldLink RX6 45 "TileHouse" "phase" "I", .fieldLink RX6 97 "TileHouse" "turn" "I", .fieldLink RX6 62 "TileHouse" "dealer" "I", .fieldLink RX6 278 "TileHouse" "round" "I", .fieldLink RX6 200 "TileHouse" "stays" "I", .fieldLink RX6 191 "TileHouse" "bets" "I", .fieldLink RX6 18 "TileHouse" "bricks" "LTileHouse$Wall;", .fieldLink RX6 175 "TileHouse$Wall" "fours" "I", .fieldLink RX6 54 "TileHouse" "ended" "Z", .fieldLink RX6 284 "TileHouse" "handsEnded" "I", .fieldLink RX6 83 "TileHouse" "winCount" "I", .fieldLink RX6 49 "TileHouse" "tile" "I", .methodLink RX6 140 yX4_left, .instanceMethod yX4_left, .selects RX4 yX4_left yX4_left, .initialized RX4, .code yX4_left cX4_left 1 (some .int), .fieldLink RX4 19 "TileHouse$Wall" "stands" "Z", .fieldLink RX4 27 "TileHouse$Wall" "fours" "I", .fieldLink RX4 23 "TileHouse$Wall" "next" "I", .methodLink RX6 281 yX4_signs, .instanceMethod yX4_signs, .selects RX4 yX4_signs yX4_signs, .code yX4_signs cX4_signs 1 (some .int)] ++ wsX60 ++ wsX40)
def wsX6_wall : List Cond := .code yX6_wall cX6_wall 3 (some .int) :: ([.classLink RX6 253 "java/util/NoSuchElementException", .initialized "java/util/NoSuchElementException", .fieldLink RX6 18 "TileHouse" "bricks" "LTileHouse$Wall;", .methodLink RX6 75 yX4_kindAt, .instanceMethod yX4_kindAt, .selects RX4 yX4_kindAt yX4_kindAt, .initialized RX4, .code yX4_kindAt cX4_kindAt 2 (some .int), .fieldLink RX4 19 "TileHouse$Wall" "stands" "Z", .fieldLink RX4 11 "TileHouse$Wall" "kinds" "[I"] ++ wsX60 ++ wsX40 ++ cx_at.filter goodWord)
def wsX6_clear : List Cond := .code yX6_clear cX6_clear 1 none :: ([.fieldLink RX6 38 "TileHouse" "deskTiles" "LTileHouse$Tiles;", .methodLink RX6 289 yX3_empty, .instanceMethod yX3_empty, .selects RX3 yX3_empty yX3_empty, .initialized RX3, .code yX3_empty cX3_empty 2 none, .fieldLink RX3 9 "TileHouse$Tiles" "free" "[I", .fieldLink RX3 15 "TileHouse$Tiles" "all" "[I", .fieldLink RX3 24 "TileHouse$Tiles" "laidDown" "I", .fieldLink RX3 28 "TileHouse$Tiles" "loose" "I"] ++ wsX60 ++ wsX30)
def wsX6_lay : List Cond := .code yX6_lay cX6_lay 3 (some .boolean) :: ([.fieldLink RX6 38 "TileHouse" "deskTiles" "LTileHouse$Tiles;", .methodLink RX6 292 yX6_isKind, .static yX6_isKind, .initialized RX6, .code yX6_isKind cX6_isKind 1 (some .boolean), .methodLink RX6 295 yX3_all, .instanceMethod yX3_all, .selects RX3 yX3_all yX3_all, .initialized RX3, .code yX3_all cX3_all 2 (some .int), .fieldLink RX3 15 "TileHouse$Tiles" "all" "[I", .methodLink RX6 298 yX3_size, .instanceMethod yX3_size, .selects RX3 yX3_size yX3_size, .code yX3_size cX3_size 1 (some .int), .fieldLink RX3 28 "TileHouse$Tiles" "loose" "I", .fieldLink RX3 24 "TileHouse$Tiles" "laidDown" "I", .methodLink RX6 79 yX3_put, .instanceMethod yX3_put, .selects RX3 yX3_put yX3_put, .code yX3_put cX3_put 3 none, .fieldLink RX3 9 "TileHouse$Tiles" "free" "[I"] ++ wsX60 ++ wsX30)
def wsX6_set_r1 : List Cond := [Cond.fieldLink RX6 38 "TileHouse" "deskTiles" "LTileHouse$Tiles;", Cond.methodLink RX6 292 yX6_isKind, Cond.static yX6_isKind, Cond.initialized RX6, Cond.code yX6_isKind cX6_isKind 1 (some .boolean), Cond.methodLink RX6 150 yX6_startsRun, Cond.static yX6_startsRun, Cond.code yX6_startsRun cX6_startsRun 1 (some .boolean), Cond.methodLink RX6 298 yX3_size, Cond.instanceMethod yX3_size, Cond.selects RX3 yX3_size yX3_size, Cond.initialized RX3, Cond.code yX3_size cX3_size 1 (some .int), Cond.fieldLink RX3 28 "TileHouse$Tiles" "loose" "I", Cond.fieldLink RX3 24 "TileHouse$Tiles" "laidDown" "I", Cond.methodLink RX6 301 yX6_tilesOfEach, Cond.static yX6_tilesOfEach, Cond.code yX6_tilesOfEach cX6_tilesOfEach 1 (some .int), Cond.methodLink RX6 295 yX3_all, Cond.instanceMethod yX3_all, Cond.selects RX3 yX3_all yX3_all, Cond.code yX3_all cX3_all 2 (some .int), Cond.fieldLink RX3 15 "TileHouse$Tiles" "all" "[I", Cond.methodLink RX6 79 yX3_put]
def wsX6_set_r2 : List Cond := [Cond.instanceMethod yX3_put, Cond.selects RX3 yX3_put yX3_put, Cond.code yX3_put cX3_put 3 none, Cond.fieldLink RX3 9 "TileHouse$Tiles" "free" "[I", Cond.methodLink RX6 181 yX3_layDown, Cond.instanceMethod yX3_layDown, Cond.selects RX3 yX3_layDown yX3_layDown, Cond.code yX3_layDown cX3_layDown 6 none, Cond.fieldLink RX3 18 "TileHouse$Tiles" "sort" "[I", Cond.fieldLink RX3 21 "TileHouse$Tiles" "low" "[I"]
def wsX6_set : List Cond := .code yX6_set cX6_set 6 (some .boolean) :: ((wsX6_set_r1 ++ wsX6_set_r2) ++ wsX60 ++ wsX30)
def wsX6_worth_r1 : List Cond := [Cond.fieldLink RX6 42 "TileHouse" "deskJudge" "LTileHouse$Judge;", Cond.fieldLink RX6 38 "TileHouse" "deskTiles" "LTileHouse$Tiles;", Cond.fieldLink RX6 194 "TileHouse$Judge" "base" "I", Cond.methodLink RX6 304 yX1_judge, Cond.instanceMethod yX1_judge, Cond.selects RX1 yX1_judge yX1_judge, Cond.initialized RX1, Cond.code yX1_judge cX1_judge 11 none, Cond.fieldLink RX1 21 "TileHouse$Judge" "base" "I", Cond.fieldLink RX1 25 "TileHouse$Judge" "han" "I", Cond.fieldLink RX1 28 "TileHouse$Judge" "fu" "I", Cond.fieldLink RX1 31 "TileHouse$Judge" "best" "J", Cond.fieldLink RX1 35 "TileHouse$Judge" "ways" "I", Cond.fieldLink RX1 48 "TileHouse$Judge" "tiles" "LTileHouse$Tiles;", Cond.fieldLink RX1 52 "TileHouse$Judge" "winner" "I", Cond.fieldLink RX1 55 "TileHouse$Judge" "drawn" "Z", Cond.fieldLink RX1 63 "TileHouse$Judge" "open" "Z", Cond.fieldLink RX1 66 "TileHouse$Judge" "seatWind" "I", Cond.fieldLink RX1 69 "TileHouse$Judge" "roundWind" "I", Cond.fieldLink RX1 72 "TileHouse$Judge" "dear" "I", Cond.fieldLink RX1 86 "TileHouse$Judge" "shared" "J", Cond.constantLong RX1 94 (65536), Cond.constantLong RX1 103 (4294967296), Cond.fieldLink RX1 105 "TileHouse$Judge" "pair" "I"]
def wsX6_worth_r2 : List Cond := [Cond.fieldLink RX1 108 "TileHouse$Tiles" "free" "[I", Cond.methodLink RX1 38 yX3_size, Cond.instanceMethod yX3_size, Cond.selects RX3 yX3_size yX3_size, Cond.initialized RX3, Cond.code yX3_size cX3_size 1 (some .int), Cond.fieldLink RX3 28 "TileHouse$Tiles" "loose" "I", Cond.fieldLink RX3 24 "TileHouse$Tiles" "laidDown" "I", Cond.methodLink RX1 44 yX3_free, Cond.instanceMethod yX3_free, Cond.selects RX3 yX3_free yX3_free, Cond.code yX3_free cX3_free 2 (some .int), Cond.fieldLink RX3 9 "TileHouse$Tiles" "free" "[I", Cond.static yX6_isKind, Cond.initialized RX6, Cond.code yX6_isKind cX6_isKind 1 (some .boolean), Cond.methodLink RX1 59 yX3_isOpen, Cond.instanceMethod yX3_isOpen, Cond.selects RX3 yX3_isOpen yX3_isOpen, Cond.code yX3_isOpen cX3_isOpen 2 (some .boolean), Cond.fieldLink RX3 18 "TileHouse$Tiles" "sort" "[I", Cond.methodLink RX1 75 yX1_toldOnes, Cond.instanceMethod yX1_toldOnes, Cond.selects RX1 yX1_toldOnes yX1_toldOnes]
def wsX6_worth_r3 : List Cond := [Cond.code yX1_toldOnes cX1_toldOnes 5 (some .long), Cond.constantLong RX1 124 (13194139533559), Cond.constantLong RX1 126 (-2), Cond.constantLong RX1 128 (8), Cond.methodLink RX1 79 yX3_kinds, Cond.instanceMethod yX3_kinds, Cond.selects RX3 yX3_kinds yX3_kinds, Cond.code yX3_kinds cX3_kinds 4 (some .long), Cond.fieldLink RX3 15 "TileHouse$Tiles" "all" "[I", Cond.methodLink RX1 83 yX1_tileForms, Cond.instanceMethod yX1_tileForms, Cond.selects RX1 yX1_tileForms yX1_tileForms, Cond.code yX1_tileForms cX1_tileForms 6 (some .long), Cond.constantLong RX1 130 (17045651456), Cond.constantLong RX1 132 (511), Cond.constantLong RX1 134 (17113154305), Cond.constantLong RX1 140 (-17113154306), Cond.constantLong RX1 142 (-17045651457), Cond.constantLong RX1 144 (-67502850), Cond.constantLong RX1 146 (-4340580353), Cond.methodLink RX1 136 yX1_bit, Cond.static yX1_bit, Cond.code yX1_bit cX1_bit 2 (some .long), Cond.methodLink RX1 148 yX1_isNineGates]
def wsX6_worth_r4 : List Cond := [Cond.instanceMethod yX1_isNineGates, Cond.selects RX1 yX1_isNineGates yX1_isNineGates, Cond.code yX1_isNineGates cX1_isNineGates 4 (some .boolean), Cond.fieldLink RX1 151 "TileHouse$Tiles" "laidDown" "I", Cond.methodLink RX1 89 yX3_isSevenPairs, Cond.instanceMethod yX3_isSevenPairs, Cond.selects RX3 yX3_isSevenPairs yX3_isSevenPairs, Cond.code yX3_isSevenPairs cX3_isSevenPairs 2 (some .boolean), Cond.methodLink RX1 96 yX1_offer, Cond.instanceMethod yX1_offer, Cond.selects RX1 yX1_offer yX1_offer, Cond.code yX1_offer cX1_offer 10 none, Cond.constantLong RX1 221 (-268437008), Cond.constantLong RX1 223 (17587891077120), Cond.methodLink RX1 189 yJ13_bitCount_95d88, Cond.static yJ13_bitCount_95d88, Cond.initialized RJ13, Cond.code yJ13_bitCount_95d88 cJ13_bitCount_95d88 2 (some .int), Cond.constantLong RJ13 314 (6148914691236517205), Cond.constantLong RJ13 316 (3689348814741910323), Cond.constantLong RJ13 318 (1085102592571150095), Cond.methodLink RX1 225 yX0_hanOf, Cond.static yX0_hanOf, Cond.initialized RX0]
def wsX6_worth_r5 : List Cond := [Cond.code yX0_hanOf cX0_hanOf 5 (some .int), Cond.fieldLink RX0 9 "TileHouse$Forms" "HAN" "[I", Cond.fieldLink RX0 13 "TileHouse$Forms" "OPEN_HAN" "[I", Cond.methodLink RX1 229 yX0_baseOf, Cond.static yX0_baseOf, Cond.code yX0_baseOf cX0_baseOf 3 (some .int), Cond.methodLink RX1 232 yX1_isBetter, Cond.instanceMethod yX1_isBetter, Cond.selects RX1 yX1_isBetter yX1_isBetter, Cond.code yX1_isBetter cX1_isBetter 6 (some .boolean), Cond.methodLink RX1 100 yX3_isThirteen, Cond.instanceMethod yX3_isThirteen, Cond.selects RX3 yX3_isThirteen yX3_isThirteen, Cond.code yX3_isThirteen cX3_isThirteen 1 (some .boolean), Cond.constantLong RX3 69 (17113154305), Cond.methodLink RX3 65 yX3_kinds, Cond.methodLink RX1 110 yX1_findThrees, Cond.instanceMethod yX1_findThrees, Cond.selects RX1 yX1_findThrees yX1_findThrees, Cond.code yX1_findThrees cX1_findThrees 3 (some .int), Cond.fieldLink RX1 18 "TileHouse$Judge" "mayBeThrees" "[I", Cond.methodLink RX1 113 yX1_chosenThrees, Cond.instanceMethod yX1_chosenThrees, Cond.selects RX1 yX1_chosenThrees yX1_chosenThrees]
def wsX6_worth_r6 : List Cond := [Cond.code yX1_chosenThrees cX1_chosenThrees 5 (some .long), Cond.methodLink RX1 117 yX1_fillWay, Cond.instanceMethod yX1_fillWay, Cond.selects RX1 yX1_fillWay yX1_fillWay, Cond.code yX1_fillWay cX1_fillWay 10 (some .boolean), Cond.fieldLink RX1 9 "TileHouse$Judge" "sort" "[I", Cond.fieldLink RX1 154 "TileHouse$Tiles" "sort" "[I", Cond.fieldLink RX1 15 "TileHouse$Judge" "low" "[I", Cond.fieldLink RX1 155 "TileHouse$Tiles" "low" "[I", Cond.static yX6_holds, Cond.code yX6_holds cX6_holds 3 (some .boolean), Cond.static yX6_startsRun, Cond.code yX6_startsRun cX6_startsRun 1 (some .boolean), Cond.methodLink RX1 121 yX1_weighWay, Cond.instanceMethod yX1_weighWay, Cond.selects RX1 yX1_weighWay yX1_weighWay, Cond.code yX1_weighWay cX1_weighWay 4 none, Cond.fieldLink RX1 164 "TileHouse$Judge" "runs" "J", Cond.fieldLink RX1 167 "TileHouse$Judge" "threes" "J", Cond.methodLink RX1 170 yX1_likeRuns, Cond.instanceMethod yX1_likeRuns, Cond.selects RX1 yX1_likeRuns yX1_likeRuns, Cond.code yX1_likeRuns cX1_likeRuns 5 (some .long), Cond.methodLink RX1 173 yX1_setForms]
def wsX6_worth_r7 : List Cond := [Cond.instanceMethod yX1_setForms, Cond.selects RX1 yX1_setForms yX1_setForms, Cond.code yX1_setForms cX1_setForms 5 (some .long), Cond.constantLong RX1 185 (73), Cond.constantLong RX1 187 (15032385536), Cond.constantLong RX1 195 (2013265920), Cond.methodLink RX1 176 yX1_endForms, Cond.instanceMethod yX1_endForms, Cond.selects RX1 yX1_endForms yX1_endForms, Cond.code yX1_endForms cX1_endForms 7 (some .long), Cond.constantLong RX1 197 (67502849), Cond.constantLong RX1 199 (7), Cond.methodLink RX1 179 yX1_mayHaveCompleted, Cond.instanceMethod yX1_mayHaveCompleted, Cond.selects RX1 yX1_mayHaveCompleted yX1_mayHaveCompleted, Cond.code yX1_mayHaveCompleted cX1_mayHaveCompleted 4 (some .boolean), Cond.methodLink RX1 182 yX1_weighCompleted, Cond.instanceMethod yX1_weighCompleted, Cond.selects RX1 yX1_weighCompleted yX1_weighCompleted, Cond.code yX1_weighCompleted cX1_weighCompleted 8 none, Cond.methodLink RX1 201 yX1_isHidden, Cond.instanceMethod yX1_isHidden, Cond.selects RX1 yX1_isHidden yX1_isHidden, Cond.code yX1_isHidden cX1_isHidden 3 (some .boolean)]
def wsX6_worth_r8 : List Cond := [Cond.methodLink RX1 205 yX1_pairFu, Cond.instanceMethod yX1_pairFu, Cond.selects RX1 yX1_pairFu yX1_pairFu, Cond.code yX1_pairFu cX1_pairFu 1 (some .int), Cond.methodLink RX1 208 yX1_waitFu, Cond.instanceMethod yX1_waitFu, Cond.selects RX1 yX1_waitFu yX1_waitFu, Cond.code yX1_waitFu cX1_waitFu 4 (some .int), Cond.methodLink RX1 211 yX1_fuOf, Cond.instanceMethod yX1_fuOf, Cond.selects RX1 yX1_fuOf yX1_fuOf, Cond.code yX1_fuOf cX1_fuOf 6 (some .int), Cond.methodLink RX1 215 Lib.Math.max.name, Cond.static Lib.Math.max.name, Cond.initialized "java/lang/Math", Cond.code Lib.Math.max.name Lib.Math.max.code 2 (some .int)]
def wsX6_worth : List Cond := .code yX6_worth cX6_worth 7 (some .int) :: ((wsX6_worth_r1 ++ (wsX6_worth_r2 ++ (wsX6_worth_r3 ++ (wsX6_worth_r4 ++ (wsX6_worth_r5 ++ (wsX6_worth_r6 ++ (wsX6_worth_r7 ++ wsX6_worth_r8))))))) ++ wsX60 ++ wsX10 ++ wsX30)
def wsX6_desk : List Cond := .code yX6_desk cX6_desk 2 (some .int) :: ([.fieldLink RX6 42 "TileHouse" "deskJudge" "LTileHouse$Judge;", .fieldLink RX6 194 "TileHouse$Judge" "base" "I", .fieldLink RX6 307 "TileHouse$Judge" "han" "I", .fieldLink RX6 310 "TileHouse$Judge" "fu" "I", .fieldLink RX6 313 "TileHouse$Judge" "ways" "I"] ++ wsX60 ++ wsX10)
def wsX6_deskForms : List Cond := .code yX6_deskForms cX6_deskForms 1 (some .long) :: ([.fieldLink RX6 42 "TileHouse" "deskJudge" "LTileHouse$Judge;", .fieldLink RX6 316 "TileHouse$Judge" "best" "J"] ++ wsX60 ++ wsX10)
def wsX6_deskWaits_r1 : List Cond := [Cond.fieldLink RX6 38 "TileHouse" "deskTiles" "LTileHouse$Tiles;", Cond.methodLink RX6 222 yX3_waiting, Cond.instanceMethod yX3_waiting, Cond.selects RX3 yX3_waiting yX3_waiting, Cond.initialized RX3, Cond.code yX3_waiting cX3_waiting 4 (some .long), Cond.methodLink RX3 45 yX3_waitsFor, Cond.instanceMethod yX3_waitsFor, Cond.selects RX3 yX3_waitsFor yX3_waitsFor, Cond.code yX3_waitsFor cX3_waitsFor 3 (some .boolean), Cond.fieldLink RX3 15 "TileHouse$Tiles" "all" "[I", Cond.methodLink RX3 48 yX3_size, Cond.instanceMethod yX3_size, Cond.selects RX3 yX3_size yX3_size, Cond.code yX3_size cX3_size 1 (some .int), Cond.fieldLink RX3 28 "TileHouse$Tiles" "loose" "I", Cond.fieldLink RX3 24 "TileHouse$Tiles" "laidDown" "I", Cond.static yX6_isKind, Cond.initialized RX6, Cond.code yX6_isKind cX6_isKind 1 (some .boolean), Cond.methodLink RX3 35 yX3_put, Cond.instanceMethod yX3_put, Cond.selects RX3 yX3_put yX3_put, Cond.code yX3_put cX3_put 3 none]
def wsX6_deskWaits_r2 : List Cond := [Cond.fieldLink RX3 9 "TileHouse$Tiles" "free" "[I", Cond.methodLink RX3 52 yX3_isSevenPairs, Cond.instanceMethod yX3_isSevenPairs, Cond.selects RX3 yX3_isSevenPairs yX3_isSevenPairs, Cond.code yX3_isSevenPairs cX3_isSevenPairs 2 (some .boolean), Cond.methodLink RX3 56 yX3_isThirteen, Cond.instanceMethod yX3_isThirteen, Cond.selects RX3 yX3_isThirteen yX3_isThirteen, Cond.code yX3_isThirteen cX3_isThirteen 1 (some .boolean), Cond.constantLong RX3 69 (17113154305), Cond.methodLink RX3 65 yX3_kinds, Cond.instanceMethod yX3_kinds, Cond.selects RX3 yX3_kinds yX3_kinds, Cond.code yX3_kinds cX3_kinds 4 (some .long), Cond.methodLink RX3 59 yX3_isSetsAndPair, Cond.instanceMethod yX3_isSetsAndPair, Cond.selects RX3 yX3_isSetsAndPair yX3_isSetsAndPair, Cond.code yX3_isSetsAndPair cX3_isSetsAndPair 2 (some .boolean), Cond.methodLink RX3 71 yX3_splitsBeside, Cond.instanceMethod yX3_splitsBeside, Cond.selects RX3 yX3_splitsBeside yX3_splitsBeside, Cond.code yX3_splitsBeside cX3_splitsBeside 7 (some .boolean), Cond.static yX6_startsRun, Cond.code yX6_startsRun cX6_startsRun 1 (some .boolean)]
def wsX6_deskWaits_r3 : List Cond := [Cond.methodLink RX3 62 yX3_take, Cond.instanceMethod yX3_take, Cond.selects RX3 yX3_take yX3_take, Cond.code yX3_take cX3_take 3 none]
def wsX6_deskWaits : List Cond := .code yX6_deskWaits cX6_deskWaits 1 (some .long) :: ((wsX6_deskWaits_r1 ++ (wsX6_deskWaits_r2 ++ wsX6_deskWaits_r3)) ++ wsX60 ++ wsX30)
def wsX7_init_r1 : List Cond := [Cond.methodLink RX7 1 objectInit, Cond.instanceMethod objectInit, Cond.code objectInit ⟨#[0xb1]⟩ 1 none, Cond.arrayClass .int, Cond.fieldLink RX7 9 "TileHouseModel" "in" "[I", Cond.fieldLink RX7 13 "TileHouseModel" "sorts" "[I", Cond.fieldLink RX7 16 "TileHouseModel" "lows" "[I", Cond.fieldLink RX7 19 "TileHouseModel" "waySort" "[I", Cond.fieldLink RX7 22 "TileHouseModel" "wayLow" "[I", Cond.fieldLink RX7 25 "TileHouseModel" "allSort" "[I", Cond.fieldLink RX7 28 "TileHouseModel" "allLow" "[I", Cond.fieldLink RX7 31 "TileHouseModel" "whole" "[I", Cond.fieldLink RX7 34 "TileHouseModel" "wall" "[I", Cond.fieldLink RX7 37 "TileHouseModel" "hands" "[I", Cond.fieldLink RX7 40 "TileHouseModel" "points" "[I", Cond.fieldLink RX7 43 "TileHouseModel" "setSort" "[I", Cond.fieldLink RX7 46 "TileHouseModel" "setKind" "[I", Cond.fieldLink RX7 49 "TileHouseModel" "setMany" "[I", Cond.fieldLink RX7 52 "TileHouseModel" "rivers" "[I", Cond.fieldLink RX7 55 "TileHouseModel" "riverMany" "[I", Cond.fieldLink RX7 58 "TileHouseModel" "bet" "[I", Cond.fieldLink RX7 61 "TileHouseModel" "draws" "[I", Cond.arrayClass .boolean, Cond.fieldLink RX7 64 "TileHouseModel" "atOnce" "[Z"]
def wsX7_init_r2 : List Cond := [Cond.fieldLink RX7 68 "TileHouseModel" "letGo" "[Z", Cond.fieldLink RX7 71 "TileHouseModel" "says" "[Z", Cond.fieldLink RX7 74 "TileHouseModel" "tile" "I", Cond.fieldLink RX7 78 "TileHouseModel" "banned" "I", Cond.fieldLink RX7 81 "TileHouseModel" "alsoBanned" "I", Cond.fieldLink RX7 84 "TileHouseModel" "won" "[I", Cond.arrayClass .long, Cond.fieldLink RX7 87 "TileHouseModel" "wonForms" "[J", Cond.fieldLink RX7 91 "TileHouseModel" "deskIn" "[I", Cond.fieldLink RX7 94 "TileHouseModel" "deskSort" "[I", Cond.fieldLink RX7 97 "TileHouseModel" "deskKind" "[I", Cond.fieldLink RX7 100 "TileHouseModel" "told4" "[I"]
def wsX7_init : List Cond := .code yX7_init cX7_init 1 none :: ((wsX7_init_r1 ++ wsX7_init_r2) ++ wsX70)
def wsX7_thrown : List Cond := .code yX7_thrown cX7_thrown 1 (some .int) :: ([.fieldLink RX7 103 "TileHouseModel" "thrown" "I"] ++ wsX70)
def wsX7_isKind : List Cond := .code yX7_isKind cX7_isKind 1 (some .boolean) :: ([])
def wsX7_isHonour : List Cond := .code yX7_isHonour cX7_isHonour 1 (some .boolean) :: ([])
def wsX7_isDragon : List Cond := .code yX7_isDragon cX7_isDragon 1 (some .boolean) :: ([])
def wsX7_isTerminal : List Cond := .code yX7_isTerminal cX7_isTerminal 1 (some .boolean) :: ([])
def wsX7_isEnd : List Cond := .code yX7_isEnd cX7_isEnd 1 (some .boolean) :: ([.methodLink RX7 106 yX7_isHonour, .static yX7_isHonour, .initialized RX7, .code yX7_isHonour cX7_isHonour 1 (some .boolean), .methodLink RX7 110 yX7_isTerminal, .static yX7_isTerminal, .code yX7_isTerminal cX7_isTerminal 1 (some .boolean)])
def wsX7_isRun : List Cond := .code yX7_isRun cX7_isRun 1 (some .boolean) :: ([])
def wsX7_inHand : List Cond := .code yX7_inHand cX7_inHand 3 (some .int) :: ([.fieldLink RX7 9 "TileHouseModel" "in" "[I"] ++ wsX70)
def wsX7_has : List Cond := .code yX7_has cX7_has 3 (some .boolean) :: ([])
def wsX7_isOpen : List Cond := .code yX7_isOpen cX7_isOpen 3 (some .boolean) :: ([.fieldLink RX7 137 "TileHouseModel" "laidMany" "I", .fieldLink RX7 13 "TileHouseModel" "sorts" "[I"] ++ wsX70)
def wsX7_isHidden : List Cond := .code yX7_isHidden cX7_isHidden 2 (some .boolean) :: ([.fieldLink RX7 25 "TileHouseModel" "allSort" "[I", .fieldLink RX7 137 "TileHouseModel" "laidMany" "I", .fieldLink RX7 176 "TileHouseModel" "drawn" "Z", .fieldLink RX7 170 "TileHouseModel" "completes" "I"] ++ wsX70)
def wsX7_bit : List Cond := .code yX7_bit cX7_bit 1 (some .long) :: ([])
def wsX7_twins : List Cond := .code yX7_twins cX7_twins 5 none :: ([.fieldLink RX7 25 "TileHouseModel" "allSort" "[I", .fieldLink RX7 28 "TileHouseModel" "allLow" "[I", .fieldLink RX7 198 "TileHouseModel" "plain" "J", .methodLink RX7 201 yX7_bit, .static yX7_bit, .initialized RX7, .code yX7_bit cX7_bit 1 (some .long)] ++ wsX70)
def wsX7_hasThree : List Cond := .code yX7_hasThree cX7_hasThree 4 (some .boolean) :: ([.fieldLink RX7 25 "TileHouseModel" "allSort" "[I", .fieldLink RX7 28 "TileHouseModel" "allLow" "[I"] ++ wsX70)
def wsX7_hasRun : List Cond := .code yX7_hasRun cX7_hasRun 4 (some .boolean) :: ([.fieldLink RX7 25 "TileHouseModel" "allSort" "[I", .fieldLink RX7 28 "TileHouseModel" "allLow" "[I"] ++ wsX70)
def wsX7_edges : List Cond := .code yX7_edges cX7_edges 9 none :: ([.fieldLink RX7 160 "TileHouseModel" "pairKind" "I", .fieldLink RX7 28 "TileHouseModel" "allLow" "[I", .fieldLink RX7 25 "TileHouseModel" "allSort" "[I", .fieldLink RX7 198 "TileHouseModel" "plain" "J", .methodLink RX7 144 yX7_isEnd, .static yX7_isEnd, .initialized RX7, .code yX7_isEnd cX7_isEnd 1 (some .boolean), .methodLink RX7 106 yX7_isHonour, .static yX7_isHonour, .code yX7_isHonour cX7_isHonour 1 (some .boolean), .methodLink RX7 110 yX7_isTerminal, .static yX7_isTerminal, .code yX7_isTerminal cX7_isTerminal 1 (some .boolean), .methodLink RX7 201 yX7_bit, .static yX7_bit, .code yX7_bit cX7_bit 1 (some .long)] ++ wsX70)
def wsX7_of : List Cond := .code yX7_of cX7_of 4 (some .int) :: ([.fieldLink RX7 31 "TileHouseModel" "whole" "[I", .fieldLink RX7 137 "TileHouseModel" "laidMany" "I", .fieldLink RX7 13 "TileHouseModel" "sorts" "[I", .fieldLink RX7 16 "TileHouseModel" "lows" "[I", .methodLink RX7 166 yX7_has, .static yX7_has, .initialized RX7, .code yX7_has cX7_has 3 (some .boolean)] ++ wsX70)
def wsX7_tiles_r1 : List Cond := [Cond.fieldLink RX7 198 "TileHouseModel" "plain" "J", Cond.fieldLink RX7 195 "TileHouseModel" "great" "J", Cond.fieldLink RX7 137 "TileHouseModel" "laidMany" "I", Cond.fieldLink RX7 31 "TileHouseModel" "whole" "[I", Cond.methodLink RX7 227 yX7_of, Cond.instanceMethod yX7_of, Cond.selects RX7 yX7_of yX7_of, Cond.initialized RX7, Cond.code yX7_of cX7_of 4 (some .int), Cond.fieldLink RX7 13 "TileHouseModel" "sorts" "[I", Cond.fieldLink RX7 16 "TileHouseModel" "lows" "[I", Cond.methodLink RX7 166 yX7_has, Cond.static yX7_has, Cond.code yX7_has cX7_has 3 (some .boolean), Cond.methodLink RX7 144 yX7_isEnd, Cond.static yX7_isEnd, Cond.code yX7_isEnd cX7_isEnd 1 (some .boolean), Cond.methodLink RX7 106 yX7_isHonour, Cond.static yX7_isHonour, Cond.code yX7_isHonour cX7_isHonour 1 (some .boolean), Cond.methodLink RX7 110 yX7_isTerminal, Cond.static yX7_isTerminal, Cond.code yX7_isTerminal cX7_isTerminal 1 (some .boolean), Cond.methodLink RX7 201 yX7_bit]
def wsX7_tiles_r2 : List Cond := [Cond.static yX7_bit, Cond.code yX7_bit cX7_bit 1 (some .long)]
def wsX7_tiles : List Cond := .code yX7_tiles cX7_tiles 12 none :: ((wsX7_tiles_r1 ++ wsX7_tiles_r2) ++ wsX70)
def wsX7_han : List Cond := .code yX7_han cX7_han 2 (some .int) :: ([])
def wsX7_compare : List Cond := .code yX7_compare cX7_compare 7 none :: ([.fieldLink RX7 195 "TileHouseModel" "great" "J", .fieldLink RX7 231 "TileHouseModel" "told" "J", .fieldLink RX7 198 "TileHouseModel" "plain" "J", .fieldLink RX7 176 "TileHouseModel" "drawn" "Z", .fieldLink RX7 238 "TileHouseModel" "dear" "I", .fieldLink RX7 220 "TileHouseModel" "fu" "I", .methodLink RX7 241 Lib.Math.min.name, .static Lib.Math.min.name, .initialized "java/lang/Math", .code Lib.Math.min.name Lib.Math.min.code 2 (some .int), .fieldLink RX7 120 "TileHouseModel" "bestBase" "I", .fieldLink RX7 123 "TileHouseModel" "bestHan" "I", .fieldLink RX7 126 "TileHouseModel" "bestFu" "I", .fieldLink RX7 129 "TileHouseModel" "bestForms" "J", .methodLink RX7 201 yX7_bit, .static yX7_bit, .initialized RX7, .code yX7_bit cX7_bit 1 (some .long), .methodLink RX7 234 yX7_han, .static yX7_han, .code yX7_han cX7_han 2 (some .int)] ++ wsX70)
def wsX7_firstSort_r1 : List Cond := [Cond.fieldLink RX7 25 "TileHouseModel" "allSort" "[I", Cond.fieldLink RX7 160 "TileHouseModel" "pairKind" "I", Cond.fieldLink RX7 189 "TileHouseModel" "seatWind" "I", Cond.fieldLink RX7 192 "TileHouseModel" "roundWind" "I", Cond.fieldLink RX7 170 "TileHouseModel" "completes" "I", Cond.fieldLink RX7 28 "TileHouseModel" "allLow" "[I", Cond.fieldLink RX7 163 "TileHouseModel" "winner" "I", Cond.fieldLink RX7 195 "TileHouseModel" "great" "J", Cond.fieldLink RX7 198 "TileHouseModel" "plain" "J", Cond.fieldLink RX7 176 "TileHouseModel" "drawn" "Z", Cond.fieldLink RX7 220 "TileHouseModel" "fu" "I", Cond.methodLink RX7 179 yX7_isOpen, Cond.instanceMethod yX7_isOpen, Cond.selects RX7 yX7_isOpen yX7_isOpen, Cond.initialized RX7, Cond.code yX7_isOpen cX7_isOpen 3 (some .boolean), Cond.fieldLink RX7 137 "TileHouseModel" "laidMany" "I", Cond.fieldLink RX7 13 "TileHouseModel" "sorts" "[I", Cond.methodLink RX7 183 yX7_isHidden, Cond.instanceMethod yX7_isHidden, Cond.selects RX7 yX7_isHidden yX7_isHidden, Cond.code yX7_isHidden cX7_isHidden 2 (some .boolean), Cond.methodLink RX7 186 yX7_isDragon, Cond.static yX7_isDragon]
def wsX7_firstSort_r2 : List Cond := [Cond.code yX7_isDragon cX7_isDragon 1 (some .boolean), Cond.methodLink RX7 201 yX7_bit, Cond.static yX7_bit, Cond.code yX7_bit cX7_bit 1 (some .long), Cond.methodLink RX7 205 yX7_twins, Cond.instanceMethod yX7_twins, Cond.selects RX7 yX7_twins yX7_twins, Cond.code yX7_twins cX7_twins 5 none, Cond.methodLink RX7 208 yX7_hasThree, Cond.instanceMethod yX7_hasThree, Cond.selects RX7 yX7_hasThree yX7_hasThree, Cond.code yX7_hasThree cX7_hasThree 4 (some .boolean), Cond.methodLink RX7 211 yX7_hasRun, Cond.instanceMethod yX7_hasRun, Cond.selects RX7 yX7_hasRun yX7_hasRun, Cond.code yX7_hasRun cX7_hasRun 4 (some .boolean), Cond.methodLink RX7 214 yX7_edges, Cond.instanceMethod yX7_edges, Cond.selects RX7 yX7_edges yX7_edges, Cond.code yX7_edges cX7_edges 9 none, Cond.methodLink RX7 144 yX7_isEnd, Cond.static yX7_isEnd, Cond.code yX7_isEnd cX7_isEnd 1 (some .boolean), Cond.methodLink RX7 106 yX7_isHonour]
def wsX7_firstSort_r3 : List Cond := [Cond.static yX7_isHonour, Cond.code yX7_isHonour cX7_isHonour 1 (some .boolean), Cond.methodLink RX7 110 yX7_isTerminal, Cond.static yX7_isTerminal, Cond.code yX7_isTerminal cX7_isTerminal 1 (some .boolean), Cond.methodLink RX7 217 yX7_tiles, Cond.instanceMethod yX7_tiles, Cond.selects RX7 yX7_tiles yX7_tiles, Cond.code yX7_tiles cX7_tiles 12 none, Cond.fieldLink RX7 31 "TileHouseModel" "whole" "[I", Cond.methodLink RX7 227 yX7_of, Cond.instanceMethod yX7_of, Cond.selects RX7 yX7_of yX7_of, Cond.code yX7_of cX7_of 4 (some .int), Cond.fieldLink RX7 16 "TileHouseModel" "lows" "[I", Cond.methodLink RX7 166 yX7_has, Cond.static yX7_has, Cond.code yX7_has cX7_has 3 (some .boolean), Cond.methodLink RX7 223 yX7_compare, Cond.instanceMethod yX7_compare, Cond.selects RX7 yX7_compare yX7_compare, Cond.code yX7_compare cX7_compare 7 none, Cond.fieldLink RX7 231 "TileHouseModel" "told" "J", Cond.fieldLink RX7 238 "TileHouseModel" "dear" "I"]
def wsX7_firstSort_r4 : List Cond := [Cond.methodLink RX7 241 Lib.Math.min.name, Cond.static Lib.Math.min.name, Cond.initialized "java/lang/Math", Cond.code Lib.Math.min.name Lib.Math.min.code 2 (some .int), Cond.fieldLink RX7 120 "TileHouseModel" "bestBase" "I", Cond.fieldLink RX7 123 "TileHouseModel" "bestHan" "I", Cond.fieldLink RX7 126 "TileHouseModel" "bestFu" "I", Cond.fieldLink RX7 129 "TileHouseModel" "bestForms" "J", Cond.methodLink RX7 234 yX7_han, Cond.static yX7_han, Cond.code yX7_han cX7_han 2 (some .int)]
def wsX7_firstSort : List Cond := .code yX7_firstSort cX7_firstSort 14 none :: ((wsX7_firstSort_r1 ++ (wsX7_firstSort_r2 ++ (wsX7_firstSort_r3 ++ wsX7_firstSort_r4))) ++ wsX70)
def wsX7_way_r1 : List Cond := [Cond.fieldLink RX7 160 "TileHouseModel" "pairKind" "I", Cond.fieldLink RX7 137 "TileHouseModel" "laidMany" "I", Cond.fieldLink RX7 25 "TileHouseModel" "allSort" "[I", Cond.fieldLink RX7 13 "TileHouseModel" "sorts" "[I", Cond.fieldLink RX7 28 "TileHouseModel" "allLow" "[I", Cond.fieldLink RX7 16 "TileHouseModel" "lows" "[I", Cond.fieldLink RX7 19 "TileHouseModel" "waySort" "[I", Cond.fieldLink RX7 22 "TileHouseModel" "wayLow" "[I", Cond.fieldLink RX7 163 "TileHouseModel" "winner" "I", Cond.fieldLink RX7 170 "TileHouseModel" "completes" "I", Cond.fieldLink RX7 117 "TileHouseModel" "ways" "I", Cond.methodLink RX7 166 yX7_has, Cond.static yX7_has, Cond.initialized RX7, Cond.code yX7_has cX7_has 3 (some .boolean), Cond.methodLink RX7 173 yX7_firstSort, Cond.instanceMethod yX7_firstSort, Cond.selects RX7 yX7_firstSort yX7_firstSort, Cond.code yX7_firstSort cX7_firstSort 14 none, Cond.fieldLink RX7 189 "TileHouseModel" "seatWind" "I", Cond.fieldLink RX7 192 "TileHouseModel" "roundWind" "I", Cond.fieldLink RX7 195 "TileHouseModel" "great" "J", Cond.fieldLink RX7 198 "TileHouseModel" "plain" "J", Cond.fieldLink RX7 176 "TileHouseModel" "drawn" "Z"]
def wsX7_way_r2 : List Cond := [Cond.fieldLink RX7 220 "TileHouseModel" "fu" "I", Cond.methodLink RX7 179 yX7_isOpen, Cond.instanceMethod yX7_isOpen, Cond.selects RX7 yX7_isOpen yX7_isOpen, Cond.code yX7_isOpen cX7_isOpen 3 (some .boolean), Cond.methodLink RX7 183 yX7_isHidden, Cond.instanceMethod yX7_isHidden, Cond.selects RX7 yX7_isHidden yX7_isHidden, Cond.code yX7_isHidden cX7_isHidden 2 (some .boolean), Cond.methodLink RX7 186 yX7_isDragon, Cond.static yX7_isDragon, Cond.code yX7_isDragon cX7_isDragon 1 (some .boolean), Cond.methodLink RX7 201 yX7_bit, Cond.static yX7_bit, Cond.code yX7_bit cX7_bit 1 (some .long), Cond.methodLink RX7 205 yX7_twins, Cond.instanceMethod yX7_twins, Cond.selects RX7 yX7_twins yX7_twins, Cond.code yX7_twins cX7_twins 5 none, Cond.methodLink RX7 208 yX7_hasThree, Cond.instanceMethod yX7_hasThree, Cond.selects RX7 yX7_hasThree yX7_hasThree, Cond.code yX7_hasThree cX7_hasThree 4 (some .boolean), Cond.methodLink RX7 211 yX7_hasRun]
def wsX7_way_r3 : List Cond := [Cond.instanceMethod yX7_hasRun, Cond.selects RX7 yX7_hasRun yX7_hasRun, Cond.code yX7_hasRun cX7_hasRun 4 (some .boolean), Cond.methodLink RX7 214 yX7_edges, Cond.instanceMethod yX7_edges, Cond.selects RX7 yX7_edges yX7_edges, Cond.code yX7_edges cX7_edges 9 none, Cond.methodLink RX7 144 yX7_isEnd, Cond.static yX7_isEnd, Cond.code yX7_isEnd cX7_isEnd 1 (some .boolean), Cond.methodLink RX7 106 yX7_isHonour, Cond.static yX7_isHonour, Cond.code yX7_isHonour cX7_isHonour 1 (some .boolean), Cond.methodLink RX7 110 yX7_isTerminal, Cond.static yX7_isTerminal, Cond.code yX7_isTerminal cX7_isTerminal 1 (some .boolean), Cond.methodLink RX7 217 yX7_tiles, Cond.instanceMethod yX7_tiles, Cond.selects RX7 yX7_tiles yX7_tiles, Cond.code yX7_tiles cX7_tiles 12 none, Cond.fieldLink RX7 31 "TileHouseModel" "whole" "[I", Cond.methodLink RX7 227 yX7_of, Cond.instanceMethod yX7_of, Cond.selects RX7 yX7_of yX7_of]
def wsX7_way_r4 : List Cond := [Cond.code yX7_of cX7_of 4 (some .int), Cond.methodLink RX7 223 yX7_compare, Cond.instanceMethod yX7_compare, Cond.selects RX7 yX7_compare yX7_compare, Cond.code yX7_compare cX7_compare 7 none, Cond.fieldLink RX7 231 "TileHouseModel" "told" "J", Cond.fieldLink RX7 238 "TileHouseModel" "dear" "I", Cond.methodLink RX7 241 Lib.Math.min.name, Cond.static Lib.Math.min.name, Cond.initialized "java/lang/Math", Cond.code Lib.Math.min.name Lib.Math.min.code 2 (some .int), Cond.fieldLink RX7 120 "TileHouseModel" "bestBase" "I", Cond.fieldLink RX7 123 "TileHouseModel" "bestHan" "I", Cond.fieldLink RX7 126 "TileHouseModel" "bestFu" "I", Cond.fieldLink RX7 129 "TileHouseModel" "bestForms" "J", Cond.methodLink RX7 234 yX7_han, Cond.static yX7_han, Cond.code yX7_han cX7_han 2 (some .int)]
def wsX7_way : List Cond := .code yX7_way cX7_way 5 none :: ((wsX7_way_r1 ++ (wsX7_way_r2 ++ (wsX7_way_r3 ++ wsX7_way_r4))) ++ wsX70)
def wsX7_sets_r1 : List Cond := [Cond.fieldLink RX7 137 "TileHouseModel" "laidMany" "I", Cond.fieldLink RX7 9 "TileHouseModel" "in" "[I", Cond.fieldLink RX7 113 "TileHouseModel" "isFull" "Z", Cond.fieldLink RX7 19 "TileHouseModel" "waySort" "[I", Cond.fieldLink RX7 22 "TileHouseModel" "wayLow" "[I", Cond.methodLink RX7 153 yX7_way, Cond.instanceMethod yX7_way, Cond.selects RX7 yX7_way yX7_way, Cond.initialized RX7, Cond.code yX7_way cX7_way 5 none, Cond.fieldLink RX7 160 "TileHouseModel" "pairKind" "I", Cond.fieldLink RX7 25 "TileHouseModel" "allSort" "[I", Cond.fieldLink RX7 13 "TileHouseModel" "sorts" "[I", Cond.fieldLink RX7 28 "TileHouseModel" "allLow" "[I", Cond.fieldLink RX7 16 "TileHouseModel" "lows" "[I", Cond.fieldLink RX7 163 "TileHouseModel" "winner" "I", Cond.fieldLink RX7 170 "TileHouseModel" "completes" "I", Cond.fieldLink RX7 117 "TileHouseModel" "ways" "I", Cond.methodLink RX7 166 yX7_has, Cond.static yX7_has, Cond.code yX7_has cX7_has 3 (some .boolean), Cond.methodLink RX7 173 yX7_firstSort, Cond.instanceMethod yX7_firstSort, Cond.selects RX7 yX7_firstSort yX7_firstSort]
def wsX7_sets_r2 : List Cond := [Cond.code yX7_firstSort cX7_firstSort 14 none, Cond.fieldLink RX7 189 "TileHouseModel" "seatWind" "I", Cond.fieldLink RX7 192 "TileHouseModel" "roundWind" "I", Cond.fieldLink RX7 195 "TileHouseModel" "great" "J", Cond.fieldLink RX7 198 "TileHouseModel" "plain" "J", Cond.fieldLink RX7 176 "TileHouseModel" "drawn" "Z", Cond.fieldLink RX7 220 "TileHouseModel" "fu" "I", Cond.methodLink RX7 179 yX7_isOpen, Cond.instanceMethod yX7_isOpen, Cond.selects RX7 yX7_isOpen yX7_isOpen, Cond.code yX7_isOpen cX7_isOpen 3 (some .boolean), Cond.methodLink RX7 183 yX7_isHidden, Cond.instanceMethod yX7_isHidden, Cond.selects RX7 yX7_isHidden yX7_isHidden, Cond.code yX7_isHidden cX7_isHidden 2 (some .boolean), Cond.methodLink RX7 186 yX7_isDragon, Cond.static yX7_isDragon, Cond.code yX7_isDragon cX7_isDragon 1 (some .boolean), Cond.methodLink RX7 201 yX7_bit, Cond.static yX7_bit, Cond.code yX7_bit cX7_bit 1 (some .long), Cond.methodLink RX7 205 yX7_twins, Cond.instanceMethod yX7_twins, Cond.selects RX7 yX7_twins yX7_twins]
def wsX7_sets_r3 : List Cond := [Cond.code yX7_twins cX7_twins 5 none, Cond.methodLink RX7 208 yX7_hasThree, Cond.instanceMethod yX7_hasThree, Cond.selects RX7 yX7_hasThree yX7_hasThree, Cond.code yX7_hasThree cX7_hasThree 4 (some .boolean), Cond.methodLink RX7 211 yX7_hasRun, Cond.instanceMethod yX7_hasRun, Cond.selects RX7 yX7_hasRun yX7_hasRun, Cond.code yX7_hasRun cX7_hasRun 4 (some .boolean), Cond.methodLink RX7 214 yX7_edges, Cond.instanceMethod yX7_edges, Cond.selects RX7 yX7_edges yX7_edges, Cond.code yX7_edges cX7_edges 9 none, Cond.methodLink RX7 144 yX7_isEnd, Cond.static yX7_isEnd, Cond.code yX7_isEnd cX7_isEnd 1 (some .boolean), Cond.methodLink RX7 106 yX7_isHonour, Cond.static yX7_isHonour, Cond.code yX7_isHonour cX7_isHonour 1 (some .boolean), Cond.methodLink RX7 110 yX7_isTerminal, Cond.static yX7_isTerminal, Cond.code yX7_isTerminal cX7_isTerminal 1 (some .boolean), Cond.methodLink RX7 217 yX7_tiles, Cond.instanceMethod yX7_tiles]
def wsX7_sets_r4 : List Cond := [Cond.selects RX7 yX7_tiles yX7_tiles, Cond.code yX7_tiles cX7_tiles 12 none, Cond.fieldLink RX7 31 "TileHouseModel" "whole" "[I", Cond.methodLink RX7 227 yX7_of, Cond.instanceMethod yX7_of, Cond.selects RX7 yX7_of yX7_of, Cond.code yX7_of cX7_of 4 (some .int), Cond.methodLink RX7 223 yX7_compare, Cond.instanceMethod yX7_compare, Cond.selects RX7 yX7_compare yX7_compare, Cond.code yX7_compare cX7_compare 7 none, Cond.fieldLink RX7 231 "TileHouseModel" "told" "J", Cond.fieldLink RX7 238 "TileHouseModel" "dear" "I", Cond.methodLink RX7 241 Lib.Math.min.name, Cond.static Lib.Math.min.name, Cond.initialized "java/lang/Math", Cond.code Lib.Math.min.name Lib.Math.min.code 2 (some .int), Cond.fieldLink RX7 120 "TileHouseModel" "bestBase" "I", Cond.fieldLink RX7 123 "TileHouseModel" "bestHan" "I", Cond.fieldLink RX7 126 "TileHouseModel" "bestFu" "I", Cond.fieldLink RX7 129 "TileHouseModel" "bestForms" "J", Cond.methodLink RX7 234 yX7_han, Cond.static yX7_han, Cond.code yX7_han cX7_han 2 (some .int)]
def wsX7_sets_r5 : List Cond := [Cond.methodLink RX7 140 yX7_sets, Cond.instanceMethod yX7_sets, Cond.selects RX7 yX7_sets yX7_sets, Cond.methodLink RX7 157 yX7_isRun, Cond.static yX7_isRun, Cond.code yX7_isRun cX7_isRun 1 (some .boolean)]
def wsX7_sets : List Cond := .code yX7_sets cX7_sets 7 none :: ((wsX7_sets_r1 ++ (wsX7_sets_r2 ++ (wsX7_sets_r3 ++ (wsX7_sets_r4 ++ wsX7_sets_r5)))) ++ wsX70)
def wsX7_pairsWay_r1 : List Cond := [Cond.fieldLink RX7 117 "TileHouseModel" "ways" "I", Cond.fieldLink RX7 195 "TileHouseModel" "great" "J", Cond.fieldLink RX7 198 "TileHouseModel" "plain" "J", Cond.fieldLink RX7 220 "TileHouseModel" "fu" "I", Cond.methodLink RX7 201 yX7_bit, Cond.static yX7_bit, Cond.initialized RX7, Cond.code yX7_bit cX7_bit 1 (some .long), Cond.methodLink RX7 217 yX7_tiles, Cond.instanceMethod yX7_tiles, Cond.selects RX7 yX7_tiles yX7_tiles, Cond.code yX7_tiles cX7_tiles 12 none, Cond.fieldLink RX7 137 "TileHouseModel" "laidMany" "I", Cond.fieldLink RX7 31 "TileHouseModel" "whole" "[I", Cond.methodLink RX7 227 yX7_of, Cond.instanceMethod yX7_of, Cond.selects RX7 yX7_of yX7_of, Cond.code yX7_of cX7_of 4 (some .int), Cond.fieldLink RX7 13 "TileHouseModel" "sorts" "[I", Cond.fieldLink RX7 16 "TileHouseModel" "lows" "[I", Cond.methodLink RX7 166 yX7_has, Cond.static yX7_has, Cond.code yX7_has cX7_has 3 (some .boolean), Cond.methodLink RX7 144 yX7_isEnd]
def wsX7_pairsWay_r2 : List Cond := [Cond.static yX7_isEnd, Cond.code yX7_isEnd cX7_isEnd 1 (some .boolean), Cond.methodLink RX7 106 yX7_isHonour, Cond.static yX7_isHonour, Cond.code yX7_isHonour cX7_isHonour 1 (some .boolean), Cond.methodLink RX7 110 yX7_isTerminal, Cond.static yX7_isTerminal, Cond.code yX7_isTerminal cX7_isTerminal 1 (some .boolean), Cond.methodLink RX7 223 yX7_compare, Cond.instanceMethod yX7_compare, Cond.selects RX7 yX7_compare yX7_compare, Cond.code yX7_compare cX7_compare 7 none, Cond.fieldLink RX7 231 "TileHouseModel" "told" "J", Cond.fieldLink RX7 176 "TileHouseModel" "drawn" "Z", Cond.fieldLink RX7 238 "TileHouseModel" "dear" "I", Cond.methodLink RX7 241 Lib.Math.min.name, Cond.static Lib.Math.min.name, Cond.initialized "java/lang/Math", Cond.code Lib.Math.min.name Lib.Math.min.code 2 (some .int), Cond.fieldLink RX7 120 "TileHouseModel" "bestBase" "I", Cond.fieldLink RX7 123 "TileHouseModel" "bestHan" "I", Cond.fieldLink RX7 126 "TileHouseModel" "bestFu" "I", Cond.fieldLink RX7 129 "TileHouseModel" "bestForms" "J", Cond.methodLink RX7 234 yX7_han]
def wsX7_pairsWay_r3 : List Cond := [Cond.static yX7_han, Cond.code yX7_han cX7_han 2 (some .int)]
def wsX7_pairsWay : List Cond := .code yX7_pairsWay cX7_pairsWay 1 none :: ((wsX7_pairsWay_r1 ++ (wsX7_pairsWay_r2 ++ wsX7_pairsWay_r3)) ++ wsX70)
def wsX7_thirteen_r1 : List Cond := [Cond.fieldLink RX7 117 "TileHouseModel" "ways" "I", Cond.fieldLink RX7 195 "TileHouseModel" "great" "J", Cond.fieldLink RX7 198 "TileHouseModel" "plain" "J", Cond.fieldLink RX7 220 "TileHouseModel" "fu" "I", Cond.methodLink RX7 201 yX7_bit, Cond.static yX7_bit, Cond.initialized RX7, Cond.code yX7_bit cX7_bit 1 (some .long), Cond.methodLink RX7 223 yX7_compare, Cond.instanceMethod yX7_compare, Cond.selects RX7 yX7_compare yX7_compare, Cond.code yX7_compare cX7_compare 7 none, Cond.fieldLink RX7 231 "TileHouseModel" "told" "J", Cond.fieldLink RX7 176 "TileHouseModel" "drawn" "Z", Cond.fieldLink RX7 238 "TileHouseModel" "dear" "I", Cond.methodLink RX7 241 Lib.Math.min.name, Cond.static Lib.Math.min.name, Cond.initialized "java/lang/Math", Cond.code Lib.Math.min.name Lib.Math.min.code 2 (some .int), Cond.fieldLink RX7 120 "TileHouseModel" "bestBase" "I", Cond.fieldLink RX7 123 "TileHouseModel" "bestHan" "I", Cond.fieldLink RX7 126 "TileHouseModel" "bestFu" "I", Cond.fieldLink RX7 129 "TileHouseModel" "bestForms" "J", Cond.methodLink RX7 234 yX7_han]
def wsX7_thirteen_r2 : List Cond := [Cond.static yX7_han, Cond.code yX7_han cX7_han 2 (some .int)]
def wsX7_thirteen : List Cond := .code yX7_thirteen cX7_thirteen 1 none :: ((wsX7_thirteen_r1 ++ wsX7_thirteen_r2) ++ wsX70)
def wsX7_apart_r1 : List Cond := [Cond.fieldLink RX7 113 "TileHouseModel" "isFull" "Z", Cond.fieldLink RX7 117 "TileHouseModel" "ways" "I", Cond.fieldLink RX7 120 "TileHouseModel" "bestBase" "I", Cond.fieldLink RX7 123 "TileHouseModel" "bestHan" "I", Cond.fieldLink RX7 126 "TileHouseModel" "bestFu" "I", Cond.fieldLink RX7 129 "TileHouseModel" "bestForms" "J", Cond.fieldLink RX7 137 "TileHouseModel" "laidMany" "I", Cond.fieldLink RX7 9 "TileHouseModel" "in" "[I", Cond.methodLink RX7 133 yX7_inHand, Cond.instanceMethod yX7_inHand, Cond.selects RX7 yX7_inHand yX7_inHand, Cond.initialized RX7, Cond.code yX7_inHand cX7_inHand 3 (some .int), Cond.methodLink RX7 140 yX7_sets, Cond.instanceMethod yX7_sets, Cond.selects RX7 yX7_sets yX7_sets, Cond.code yX7_sets cX7_sets 7 none, Cond.fieldLink RX7 19 "TileHouseModel" "waySort" "[I", Cond.fieldLink RX7 22 "TileHouseModel" "wayLow" "[I", Cond.methodLink RX7 153 yX7_way, Cond.instanceMethod yX7_way, Cond.selects RX7 yX7_way yX7_way, Cond.code yX7_way cX7_way 5 none, Cond.fieldLink RX7 160 "TileHouseModel" "pairKind" "I"]
def wsX7_apart_r2 : List Cond := [Cond.fieldLink RX7 25 "TileHouseModel" "allSort" "[I", Cond.fieldLink RX7 13 "TileHouseModel" "sorts" "[I", Cond.fieldLink RX7 28 "TileHouseModel" "allLow" "[I", Cond.fieldLink RX7 16 "TileHouseModel" "lows" "[I", Cond.fieldLink RX7 163 "TileHouseModel" "winner" "I", Cond.fieldLink RX7 170 "TileHouseModel" "completes" "I", Cond.methodLink RX7 166 yX7_has, Cond.static yX7_has, Cond.code yX7_has cX7_has 3 (some .boolean), Cond.methodLink RX7 173 yX7_firstSort, Cond.instanceMethod yX7_firstSort, Cond.selects RX7 yX7_firstSort yX7_firstSort, Cond.code yX7_firstSort cX7_firstSort 14 none, Cond.fieldLink RX7 189 "TileHouseModel" "seatWind" "I", Cond.fieldLink RX7 192 "TileHouseModel" "roundWind" "I", Cond.fieldLink RX7 195 "TileHouseModel" "great" "J", Cond.fieldLink RX7 198 "TileHouseModel" "plain" "J", Cond.fieldLink RX7 176 "TileHouseModel" "drawn" "Z", Cond.fieldLink RX7 220 "TileHouseModel" "fu" "I", Cond.methodLink RX7 179 yX7_isOpen, Cond.instanceMethod yX7_isOpen, Cond.selects RX7 yX7_isOpen yX7_isOpen, Cond.code yX7_isOpen cX7_isOpen 3 (some .boolean), Cond.methodLink RX7 183 yX7_isHidden]
def wsX7_apart_r3 : List Cond := [Cond.instanceMethod yX7_isHidden, Cond.selects RX7 yX7_isHidden yX7_isHidden, Cond.code yX7_isHidden cX7_isHidden 2 (some .boolean), Cond.methodLink RX7 186 yX7_isDragon, Cond.static yX7_isDragon, Cond.code yX7_isDragon cX7_isDragon 1 (some .boolean), Cond.methodLink RX7 201 yX7_bit, Cond.static yX7_bit, Cond.code yX7_bit cX7_bit 1 (some .long), Cond.methodLink RX7 205 yX7_twins, Cond.instanceMethod yX7_twins, Cond.selects RX7 yX7_twins yX7_twins, Cond.code yX7_twins cX7_twins 5 none, Cond.methodLink RX7 208 yX7_hasThree, Cond.instanceMethod yX7_hasThree, Cond.selects RX7 yX7_hasThree yX7_hasThree, Cond.code yX7_hasThree cX7_hasThree 4 (some .boolean), Cond.methodLink RX7 211 yX7_hasRun, Cond.instanceMethod yX7_hasRun, Cond.selects RX7 yX7_hasRun yX7_hasRun, Cond.code yX7_hasRun cX7_hasRun 4 (some .boolean), Cond.methodLink RX7 214 yX7_edges, Cond.instanceMethod yX7_edges, Cond.selects RX7 yX7_edges yX7_edges]
def wsX7_apart_r4 : List Cond := [Cond.code yX7_edges cX7_edges 9 none, Cond.methodLink RX7 144 yX7_isEnd, Cond.static yX7_isEnd, Cond.code yX7_isEnd cX7_isEnd 1 (some .boolean), Cond.methodLink RX7 106 yX7_isHonour, Cond.static yX7_isHonour, Cond.code yX7_isHonour cX7_isHonour 1 (some .boolean), Cond.methodLink RX7 110 yX7_isTerminal, Cond.static yX7_isTerminal, Cond.code yX7_isTerminal cX7_isTerminal 1 (some .boolean), Cond.methodLink RX7 217 yX7_tiles, Cond.instanceMethod yX7_tiles, Cond.selects RX7 yX7_tiles yX7_tiles, Cond.code yX7_tiles cX7_tiles 12 none, Cond.fieldLink RX7 31 "TileHouseModel" "whole" "[I", Cond.methodLink RX7 227 yX7_of, Cond.instanceMethod yX7_of, Cond.selects RX7 yX7_of yX7_of, Cond.code yX7_of cX7_of 4 (some .int), Cond.methodLink RX7 223 yX7_compare, Cond.instanceMethod yX7_compare, Cond.selects RX7 yX7_compare yX7_compare, Cond.code yX7_compare cX7_compare 7 none, Cond.fieldLink RX7 231 "TileHouseModel" "told" "J"]
def wsX7_apart_r5 : List Cond := [Cond.fieldLink RX7 238 "TileHouseModel" "dear" "I", Cond.methodLink RX7 241 Lib.Math.min.name, Cond.static Lib.Math.min.name, Cond.initialized "java/lang/Math", Cond.code Lib.Math.min.name Lib.Math.min.code 2 (some .int), Cond.methodLink RX7 234 yX7_han, Cond.static yX7_han, Cond.code yX7_han cX7_han 2 (some .int), Cond.methodLink RX7 157 yX7_isRun, Cond.static yX7_isRun, Cond.code yX7_isRun cX7_isRun 1 (some .boolean), Cond.methodLink RX7 147 yX7_pairsWay, Cond.instanceMethod yX7_pairsWay, Cond.selects RX7 yX7_pairsWay yX7_pairsWay, Cond.code yX7_pairsWay cX7_pairsWay 1 none, Cond.methodLink RX7 150 yX7_thirteen, Cond.instanceMethod yX7_thirteen, Cond.selects RX7 yX7_thirteen yX7_thirteen, Cond.code yX7_thirteen cX7_thirteen 1 none]
def wsX7_apart : List Cond := .code yX7_apart cX7_apart 6 none :: ((wsX7_apart_r1 ++ (wsX7_apart_r2 ++ (wsX7_apart_r3 ++ (wsX7_apart_r4 ++ wsX7_apart_r5)))) ++ wsX70)
def wsX7_reckon_r1 : List Cond := [Cond.fieldLink RX7 163 "TileHouseModel" "winner" "I", Cond.fieldLink RX7 176 "TileHouseModel" "drawn" "Z", Cond.fieldLink RX7 231 "TileHouseModel" "told" "J", Cond.fieldLink RX7 189 "TileHouseModel" "seatWind" "I", Cond.fieldLink RX7 192 "TileHouseModel" "roundWind" "I", Cond.fieldLink RX7 238 "TileHouseModel" "dear" "I", Cond.fieldLink RX7 31 "TileHouseModel" "whole" "[I", Cond.fieldLink RX7 9 "TileHouseModel" "in" "[I", Cond.methodLink RX7 247 yX7_apart, Cond.instanceMethod yX7_apart, Cond.selects RX7 yX7_apart yX7_apart, Cond.initialized RX7, Cond.code yX7_apart cX7_apart 6 none, Cond.fieldLink RX7 113 "TileHouseModel" "isFull" "Z", Cond.fieldLink RX7 117 "TileHouseModel" "ways" "I", Cond.fieldLink RX7 120 "TileHouseModel" "bestBase" "I", Cond.fieldLink RX7 123 "TileHouseModel" "bestHan" "I", Cond.fieldLink RX7 126 "TileHouseModel" "bestFu" "I", Cond.fieldLink RX7 129 "TileHouseModel" "bestForms" "J", Cond.fieldLink RX7 137 "TileHouseModel" "laidMany" "I", Cond.methodLink RX7 133 yX7_inHand, Cond.instanceMethod yX7_inHand, Cond.selects RX7 yX7_inHand yX7_inHand, Cond.code yX7_inHand cX7_inHand 3 (some .int)]
def wsX7_reckon_r2 : List Cond := [Cond.methodLink RX7 140 yX7_sets, Cond.instanceMethod yX7_sets, Cond.selects RX7 yX7_sets yX7_sets, Cond.code yX7_sets cX7_sets 7 none, Cond.fieldLink RX7 19 "TileHouseModel" "waySort" "[I", Cond.fieldLink RX7 22 "TileHouseModel" "wayLow" "[I", Cond.methodLink RX7 153 yX7_way, Cond.instanceMethod yX7_way, Cond.selects RX7 yX7_way yX7_way, Cond.code yX7_way cX7_way 5 none, Cond.fieldLink RX7 160 "TileHouseModel" "pairKind" "I", Cond.fieldLink RX7 25 "TileHouseModel" "allSort" "[I", Cond.fieldLink RX7 13 "TileHouseModel" "sorts" "[I", Cond.fieldLink RX7 28 "TileHouseModel" "allLow" "[I", Cond.fieldLink RX7 16 "TileHouseModel" "lows" "[I", Cond.fieldLink RX7 170 "TileHouseModel" "completes" "I", Cond.methodLink RX7 166 yX7_has, Cond.static yX7_has, Cond.code yX7_has cX7_has 3 (some .boolean), Cond.methodLink RX7 173 yX7_firstSort, Cond.instanceMethod yX7_firstSort, Cond.selects RX7 yX7_firstSort yX7_firstSort, Cond.code yX7_firstSort cX7_firstSort 14 none, Cond.fieldLink RX7 195 "TileHouseModel" "great" "J"]
def wsX7_reckon_r3 : List Cond := [Cond.fieldLink RX7 198 "TileHouseModel" "plain" "J", Cond.fieldLink RX7 220 "TileHouseModel" "fu" "I", Cond.methodLink RX7 179 yX7_isOpen, Cond.instanceMethod yX7_isOpen, Cond.selects RX7 yX7_isOpen yX7_isOpen, Cond.code yX7_isOpen cX7_isOpen 3 (some .boolean), Cond.methodLink RX7 183 yX7_isHidden, Cond.instanceMethod yX7_isHidden, Cond.selects RX7 yX7_isHidden yX7_isHidden, Cond.code yX7_isHidden cX7_isHidden 2 (some .boolean), Cond.methodLink RX7 186 yX7_isDragon, Cond.static yX7_isDragon, Cond.code yX7_isDragon cX7_isDragon 1 (some .boolean), Cond.methodLink RX7 201 yX7_bit, Cond.static yX7_bit, Cond.code yX7_bit cX7_bit 1 (some .long), Cond.methodLink RX7 205 yX7_twins, Cond.instanceMethod yX7_twins, Cond.selects RX7 yX7_twins yX7_twins, Cond.code yX7_twins cX7_twins 5 none, Cond.methodLink RX7 208 yX7_hasThree, Cond.instanceMethod yX7_hasThree, Cond.selects RX7 yX7_hasThree yX7_hasThree, Cond.code yX7_hasThree cX7_hasThree 4 (some .boolean)]
def wsX7_reckon_r4 : List Cond := [Cond.methodLink RX7 211 yX7_hasRun, Cond.instanceMethod yX7_hasRun, Cond.selects RX7 yX7_hasRun yX7_hasRun, Cond.code yX7_hasRun cX7_hasRun 4 (some .boolean), Cond.methodLink RX7 214 yX7_edges, Cond.instanceMethod yX7_edges, Cond.selects RX7 yX7_edges yX7_edges, Cond.code yX7_edges cX7_edges 9 none, Cond.methodLink RX7 144 yX7_isEnd, Cond.static yX7_isEnd, Cond.code yX7_isEnd cX7_isEnd 1 (some .boolean), Cond.methodLink RX7 106 yX7_isHonour, Cond.static yX7_isHonour, Cond.code yX7_isHonour cX7_isHonour 1 (some .boolean), Cond.methodLink RX7 110 yX7_isTerminal, Cond.static yX7_isTerminal, Cond.code yX7_isTerminal cX7_isTerminal 1 (some .boolean), Cond.methodLink RX7 217 yX7_tiles, Cond.instanceMethod yX7_tiles, Cond.selects RX7 yX7_tiles yX7_tiles, Cond.code yX7_tiles cX7_tiles 12 none, Cond.methodLink RX7 227 yX7_of, Cond.instanceMethod yX7_of, Cond.selects RX7 yX7_of yX7_of]
def wsX7_reckon_r5 : List Cond := [Cond.code yX7_of cX7_of 4 (some .int), Cond.methodLink RX7 223 yX7_compare, Cond.instanceMethod yX7_compare, Cond.selects RX7 yX7_compare yX7_compare, Cond.code yX7_compare cX7_compare 7 none, Cond.methodLink RX7 241 Lib.Math.min.name, Cond.static Lib.Math.min.name, Cond.initialized "java/lang/Math", Cond.code Lib.Math.min.name Lib.Math.min.code 2 (some .int), Cond.methodLink RX7 234 yX7_han, Cond.static yX7_han, Cond.code yX7_han cX7_han 2 (some .int), Cond.methodLink RX7 157 yX7_isRun, Cond.static yX7_isRun, Cond.code yX7_isRun cX7_isRun 1 (some .boolean), Cond.methodLink RX7 147 yX7_pairsWay, Cond.instanceMethod yX7_pairsWay, Cond.selects RX7 yX7_pairsWay yX7_pairsWay, Cond.code yX7_pairsWay cX7_pairsWay 1 none, Cond.methodLink RX7 150 yX7_thirteen, Cond.instanceMethod yX7_thirteen, Cond.selects RX7 yX7_thirteen yX7_thirteen, Cond.code yX7_thirteen cX7_thirteen 1 none]
def wsX7_reckon : List Cond := .code yX7_reckon cX7_reckon 9 none :: ((wsX7_reckon_r1 ++ (wsX7_reckon_r2 ++ (wsX7_reckon_r3 ++ (wsX7_reckon_r4 ++ wsX7_reckon_r5)))) ++ wsX70)
def wsX7_waitsOf_r1 : List Cond := [Cond.fieldLink RX7 137 "TileHouseModel" "laidMany" "I", Cond.fieldLink RX7 31 "TileHouseModel" "whole" "[I", Cond.fieldLink RX7 9 "TileHouseModel" "in" "[I", Cond.fieldLink RX7 113 "TileHouseModel" "isFull" "Z", Cond.methodLink RX7 133 yX7_inHand, Cond.instanceMethod yX7_inHand, Cond.selects RX7 yX7_inHand yX7_inHand, Cond.initialized RX7, Cond.code yX7_inHand cX7_inHand 3 (some .int), Cond.methodLink RX7 227 yX7_of, Cond.instanceMethod yX7_of, Cond.selects RX7 yX7_of yX7_of, Cond.code yX7_of cX7_of 4 (some .int), Cond.fieldLink RX7 13 "TileHouseModel" "sorts" "[I", Cond.fieldLink RX7 16 "TileHouseModel" "lows" "[I", Cond.methodLink RX7 166 yX7_has, Cond.static yX7_has, Cond.code yX7_has cX7_has 3 (some .boolean), Cond.methodLink RX7 247 yX7_apart, Cond.instanceMethod yX7_apart, Cond.selects RX7 yX7_apart yX7_apart, Cond.code yX7_apart cX7_apart 6 none, Cond.fieldLink RX7 117 "TileHouseModel" "ways" "I", Cond.fieldLink RX7 120 "TileHouseModel" "bestBase" "I"]
def wsX7_waitsOf_r2 : List Cond := [Cond.fieldLink RX7 123 "TileHouseModel" "bestHan" "I", Cond.fieldLink RX7 126 "TileHouseModel" "bestFu" "I", Cond.fieldLink RX7 129 "TileHouseModel" "bestForms" "J", Cond.methodLink RX7 140 yX7_sets, Cond.instanceMethod yX7_sets, Cond.selects RX7 yX7_sets yX7_sets, Cond.code yX7_sets cX7_sets 7 none, Cond.fieldLink RX7 19 "TileHouseModel" "waySort" "[I", Cond.fieldLink RX7 22 "TileHouseModel" "wayLow" "[I", Cond.methodLink RX7 153 yX7_way, Cond.instanceMethod yX7_way, Cond.selects RX7 yX7_way yX7_way, Cond.code yX7_way cX7_way 5 none, Cond.fieldLink RX7 160 "TileHouseModel" "pairKind" "I", Cond.fieldLink RX7 25 "TileHouseModel" "allSort" "[I", Cond.fieldLink RX7 28 "TileHouseModel" "allLow" "[I", Cond.fieldLink RX7 163 "TileHouseModel" "winner" "I", Cond.fieldLink RX7 170 "TileHouseModel" "completes" "I", Cond.methodLink RX7 173 yX7_firstSort, Cond.instanceMethod yX7_firstSort, Cond.selects RX7 yX7_firstSort yX7_firstSort, Cond.code yX7_firstSort cX7_firstSort 14 none, Cond.fieldLink RX7 189 "TileHouseModel" "seatWind" "I", Cond.fieldLink RX7 192 "TileHouseModel" "roundWind" "I"]
def wsX7_waitsOf_r3 : List Cond := [Cond.fieldLink RX7 195 "TileHouseModel" "great" "J", Cond.fieldLink RX7 198 "TileHouseModel" "plain" "J", Cond.fieldLink RX7 176 "TileHouseModel" "drawn" "Z", Cond.fieldLink RX7 220 "TileHouseModel" "fu" "I", Cond.methodLink RX7 179 yX7_isOpen, Cond.instanceMethod yX7_isOpen, Cond.selects RX7 yX7_isOpen yX7_isOpen, Cond.code yX7_isOpen cX7_isOpen 3 (some .boolean), Cond.methodLink RX7 183 yX7_isHidden, Cond.instanceMethod yX7_isHidden, Cond.selects RX7 yX7_isHidden yX7_isHidden, Cond.code yX7_isHidden cX7_isHidden 2 (some .boolean), Cond.methodLink RX7 186 yX7_isDragon, Cond.static yX7_isDragon, Cond.code yX7_isDragon cX7_isDragon 1 (some .boolean), Cond.methodLink RX7 201 yX7_bit, Cond.static yX7_bit, Cond.code yX7_bit cX7_bit 1 (some .long), Cond.methodLink RX7 205 yX7_twins, Cond.instanceMethod yX7_twins, Cond.selects RX7 yX7_twins yX7_twins, Cond.code yX7_twins cX7_twins 5 none, Cond.methodLink RX7 208 yX7_hasThree, Cond.instanceMethod yX7_hasThree]
def wsX7_waitsOf_r4 : List Cond := [Cond.selects RX7 yX7_hasThree yX7_hasThree, Cond.code yX7_hasThree cX7_hasThree 4 (some .boolean), Cond.methodLink RX7 211 yX7_hasRun, Cond.instanceMethod yX7_hasRun, Cond.selects RX7 yX7_hasRun yX7_hasRun, Cond.code yX7_hasRun cX7_hasRun 4 (some .boolean), Cond.methodLink RX7 214 yX7_edges, Cond.instanceMethod yX7_edges, Cond.selects RX7 yX7_edges yX7_edges, Cond.code yX7_edges cX7_edges 9 none, Cond.methodLink RX7 144 yX7_isEnd, Cond.static yX7_isEnd, Cond.code yX7_isEnd cX7_isEnd 1 (some .boolean), Cond.methodLink RX7 106 yX7_isHonour, Cond.static yX7_isHonour, Cond.code yX7_isHonour cX7_isHonour 1 (some .boolean), Cond.methodLink RX7 110 yX7_isTerminal, Cond.static yX7_isTerminal, Cond.code yX7_isTerminal cX7_isTerminal 1 (some .boolean), Cond.methodLink RX7 217 yX7_tiles, Cond.instanceMethod yX7_tiles, Cond.selects RX7 yX7_tiles yX7_tiles, Cond.code yX7_tiles cX7_tiles 12 none, Cond.methodLink RX7 223 yX7_compare]
def wsX7_waitsOf_r5 : List Cond := [Cond.instanceMethod yX7_compare, Cond.selects RX7 yX7_compare yX7_compare, Cond.code yX7_compare cX7_compare 7 none, Cond.fieldLink RX7 231 "TileHouseModel" "told" "J", Cond.fieldLink RX7 238 "TileHouseModel" "dear" "I", Cond.methodLink RX7 241 Lib.Math.min.name, Cond.static Lib.Math.min.name, Cond.initialized "java/lang/Math", Cond.code Lib.Math.min.name Lib.Math.min.code 2 (some .int), Cond.methodLink RX7 234 yX7_han, Cond.static yX7_han, Cond.code yX7_han cX7_han 2 (some .int), Cond.methodLink RX7 157 yX7_isRun, Cond.static yX7_isRun, Cond.code yX7_isRun cX7_isRun 1 (some .boolean), Cond.methodLink RX7 147 yX7_pairsWay, Cond.instanceMethod yX7_pairsWay, Cond.selects RX7 yX7_pairsWay yX7_pairsWay, Cond.code yX7_pairsWay cX7_pairsWay 1 none, Cond.methodLink RX7 150 yX7_thirteen, Cond.instanceMethod yX7_thirteen, Cond.selects RX7 yX7_thirteen yX7_thirteen, Cond.code yX7_thirteen cX7_thirteen 1 none]
def wsX7_waitsOf : List Cond := .code yX7_waitsOf cX7_waitsOf 5 (some .long) :: ((wsX7_waitsOf_r1 ++ (wsX7_waitsOf_r2 ++ (wsX7_waitsOf_r3 ++ (wsX7_waitsOf_r4 ++ wsX7_waitsOf_r5)))) ++ wsX70)
def wsX7_isSeat : List Cond := .code yX7_isSeat cX7_isSeat 1 (some .boolean) :: ([])
def wsX7_has_ : List Cond := .code yX7_has_ cX7_has_ 3 (some .int) :: ([.fieldLink RX7 37 "TileHouseModel" "hands" "[I"] ++ wsX70)
def wsX7_gives : List Cond := .code yX7_gives cX7_gives 4 none :: ([.fieldLink RX7 37 "TileHouseModel" "hands" "[I"] ++ wsX70)
def wsX7_left : List Cond := .code yX7_left cX7_left 1 (some .int) :: ([.fieldLink RX7 250 "TileHouseModel" "fours" "I", .fieldLink RX7 253 "TileHouseModel" "next" "I"] ++ wsX70)
def wsX7_isOpen_ : List Cond := .code yX7_isOpen_ cX7_isOpen_ 4 (some .boolean) :: ([.fieldLink RX7 49 "TileHouseModel" "setMany" "[I", .fieldLink RX7 43 "TileHouseModel" "setSort" "[I"] ++ wsX70)
def wsX7_take : List Cond := .code yX7_take cX7_take 3 none :: ([.fieldLink RX7 9 "TileHouseModel" "in" "[I", .fieldLink RX7 49 "TileHouseModel" "setMany" "[I", .fieldLink RX7 137 "TileHouseModel" "laidMany" "I", .fieldLink RX7 13 "TileHouseModel" "sorts" "[I", .fieldLink RX7 43 "TileHouseModel" "setSort" "[I", .fieldLink RX7 16 "TileHouseModel" "lows" "[I", .fieldLink RX7 46 "TileHouseModel" "setKind" "[I", .methodLink RX7 256 yX7_has_, .instanceMethod yX7_has_, .selects RX7 yX7_has_ yX7_has_, .initialized RX7, .code yX7_has_ cX7_has_ 3 (some .int), .fieldLink RX7 37 "TileHouseModel" "hands" "[I"] ++ wsX70)
def wsX7_waitsAt_r1 : List Cond := [Cond.methodLink RX7 258 yX7_take, Cond.instanceMethod yX7_take, Cond.selects RX7 yX7_take yX7_take, Cond.initialized RX7, Cond.code yX7_take cX7_take 3 none, Cond.fieldLink RX7 9 "TileHouseModel" "in" "[I", Cond.fieldLink RX7 49 "TileHouseModel" "setMany" "[I", Cond.fieldLink RX7 137 "TileHouseModel" "laidMany" "I", Cond.fieldLink RX7 13 "TileHouseModel" "sorts" "[I", Cond.fieldLink RX7 43 "TileHouseModel" "setSort" "[I", Cond.fieldLink RX7 16 "TileHouseModel" "lows" "[I", Cond.fieldLink RX7 46 "TileHouseModel" "setKind" "[I", Cond.methodLink RX7 256 yX7_has_, Cond.instanceMethod yX7_has_, Cond.selects RX7 yX7_has_ yX7_has_, Cond.code yX7_has_ cX7_has_ 3 (some .int), Cond.fieldLink RX7 37 "TileHouseModel" "hands" "[I", Cond.methodLink RX7 261 yX7_waitsOf, Cond.instanceMethod yX7_waitsOf, Cond.selects RX7 yX7_waitsOf yX7_waitsOf, Cond.code yX7_waitsOf cX7_waitsOf 5 (some .long), Cond.fieldLink RX7 31 "TileHouseModel" "whole" "[I", Cond.fieldLink RX7 113 "TileHouseModel" "isFull" "Z", Cond.methodLink RX7 133 yX7_inHand]
def wsX7_waitsAt_r2 : List Cond := [Cond.instanceMethod yX7_inHand, Cond.selects RX7 yX7_inHand yX7_inHand, Cond.code yX7_inHand cX7_inHand 3 (some .int), Cond.methodLink RX7 227 yX7_of, Cond.instanceMethod yX7_of, Cond.selects RX7 yX7_of yX7_of, Cond.code yX7_of cX7_of 4 (some .int), Cond.methodLink RX7 166 yX7_has, Cond.static yX7_has, Cond.code yX7_has cX7_has 3 (some .boolean), Cond.methodLink RX7 247 yX7_apart, Cond.instanceMethod yX7_apart, Cond.selects RX7 yX7_apart yX7_apart, Cond.code yX7_apart cX7_apart 6 none, Cond.fieldLink RX7 117 "TileHouseModel" "ways" "I", Cond.fieldLink RX7 120 "TileHouseModel" "bestBase" "I", Cond.fieldLink RX7 123 "TileHouseModel" "bestHan" "I", Cond.fieldLink RX7 126 "TileHouseModel" "bestFu" "I", Cond.fieldLink RX7 129 "TileHouseModel" "bestForms" "J", Cond.methodLink RX7 140 yX7_sets, Cond.instanceMethod yX7_sets, Cond.selects RX7 yX7_sets yX7_sets, Cond.code yX7_sets cX7_sets 7 none, Cond.fieldLink RX7 19 "TileHouseModel" "waySort" "[I"]
def wsX7_waitsAt_r3 : List Cond := [Cond.fieldLink RX7 22 "TileHouseModel" "wayLow" "[I", Cond.methodLink RX7 153 yX7_way, Cond.instanceMethod yX7_way, Cond.selects RX7 yX7_way yX7_way, Cond.code yX7_way cX7_way 5 none, Cond.fieldLink RX7 160 "TileHouseModel" "pairKind" "I", Cond.fieldLink RX7 25 "TileHouseModel" "allSort" "[I", Cond.fieldLink RX7 28 "TileHouseModel" "allLow" "[I", Cond.fieldLink RX7 163 "TileHouseModel" "winner" "I", Cond.fieldLink RX7 170 "TileHouseModel" "completes" "I", Cond.methodLink RX7 173 yX7_firstSort, Cond.instanceMethod yX7_firstSort, Cond.selects RX7 yX7_firstSort yX7_firstSort, Cond.code yX7_firstSort cX7_firstSort 14 none, Cond.fieldLink RX7 189 "TileHouseModel" "seatWind" "I", Cond.fieldLink RX7 192 "TileHouseModel" "roundWind" "I", Cond.fieldLink RX7 195 "TileHouseModel" "great" "J", Cond.fieldLink RX7 198 "TileHouseModel" "plain" "J", Cond.fieldLink RX7 176 "TileHouseModel" "drawn" "Z", Cond.fieldLink RX7 220 "TileHouseModel" "fu" "I", Cond.methodLink RX7 179 yX7_isOpen, Cond.instanceMethod yX7_isOpen, Cond.selects RX7 yX7_isOpen yX7_isOpen, Cond.code yX7_isOpen cX7_isOpen 3 (some .boolean)]
def wsX7_waitsAt_r4 : List Cond := [Cond.methodLink RX7 183 yX7_isHidden, Cond.instanceMethod yX7_isHidden, Cond.selects RX7 yX7_isHidden yX7_isHidden, Cond.code yX7_isHidden cX7_isHidden 2 (some .boolean), Cond.methodLink RX7 186 yX7_isDragon, Cond.static yX7_isDragon, Cond.code yX7_isDragon cX7_isDragon 1 (some .boolean), Cond.methodLink RX7 201 yX7_bit, Cond.static yX7_bit, Cond.code yX7_bit cX7_bit 1 (some .long), Cond.methodLink RX7 205 yX7_twins, Cond.instanceMethod yX7_twins, Cond.selects RX7 yX7_twins yX7_twins, Cond.code yX7_twins cX7_twins 5 none, Cond.methodLink RX7 208 yX7_hasThree, Cond.instanceMethod yX7_hasThree, Cond.selects RX7 yX7_hasThree yX7_hasThree, Cond.code yX7_hasThree cX7_hasThree 4 (some .boolean), Cond.methodLink RX7 211 yX7_hasRun, Cond.instanceMethod yX7_hasRun, Cond.selects RX7 yX7_hasRun yX7_hasRun, Cond.code yX7_hasRun cX7_hasRun 4 (some .boolean), Cond.methodLink RX7 214 yX7_edges, Cond.instanceMethod yX7_edges]
def wsX7_waitsAt_r5 : List Cond := [Cond.selects RX7 yX7_edges yX7_edges, Cond.code yX7_edges cX7_edges 9 none, Cond.methodLink RX7 144 yX7_isEnd, Cond.static yX7_isEnd, Cond.code yX7_isEnd cX7_isEnd 1 (some .boolean), Cond.methodLink RX7 106 yX7_isHonour, Cond.static yX7_isHonour, Cond.code yX7_isHonour cX7_isHonour 1 (some .boolean), Cond.methodLink RX7 110 yX7_isTerminal, Cond.static yX7_isTerminal, Cond.code yX7_isTerminal cX7_isTerminal 1 (some .boolean), Cond.methodLink RX7 217 yX7_tiles, Cond.instanceMethod yX7_tiles, Cond.selects RX7 yX7_tiles yX7_tiles, Cond.code yX7_tiles cX7_tiles 12 none, Cond.methodLink RX7 223 yX7_compare, Cond.instanceMethod yX7_compare, Cond.selects RX7 yX7_compare yX7_compare, Cond.code yX7_compare cX7_compare 7 none, Cond.fieldLink RX7 231 "TileHouseModel" "told" "J", Cond.fieldLink RX7 238 "TileHouseModel" "dear" "I", Cond.methodLink RX7 241 Lib.Math.min.name, Cond.static Lib.Math.min.name, Cond.initialized "java/lang/Math"]
def wsX7_waitsAt_r6 : List Cond := [Cond.code Lib.Math.min.name Lib.Math.min.code 2 (some .int), Cond.methodLink RX7 234 yX7_han, Cond.static yX7_han, Cond.code yX7_han cX7_han 2 (some .int), Cond.methodLink RX7 157 yX7_isRun, Cond.static yX7_isRun, Cond.code yX7_isRun cX7_isRun 1 (some .boolean), Cond.methodLink RX7 147 yX7_pairsWay, Cond.instanceMethod yX7_pairsWay, Cond.selects RX7 yX7_pairsWay yX7_pairsWay, Cond.code yX7_pairsWay cX7_pairsWay 1 none, Cond.methodLink RX7 150 yX7_thirteen, Cond.instanceMethod yX7_thirteen, Cond.selects RX7 yX7_thirteen yX7_thirteen, Cond.code yX7_thirteen cX7_thirteen 1 none]
def wsX7_waitsAt : List Cond := .code yX7_waitsAt cX7_waitsAt 2 (some .long) :: ((wsX7_waitsAt_r1 ++ (wsX7_waitsAt_r2 ++ (wsX7_waitsAt_r3 ++ (wsX7_waitsAt_r4 ++ (wsX7_waitsAt_r5 ++ wsX7_waitsAt_r6))))) ++ wsX70)
def wsX7_windOf : List Cond := .code yX7_windOf cX7_windOf 2 (some .int) :: ([.fieldLink RX7 265 "TileHouseModel" "dealer" "I"] ++ wsX70)
def wsX7_behind : List Cond := .code yX7_behind cX7_behind 1 (some .int) :: ([])
def wsX7_dearTiles : List Cond := .code yX7_dearTiles cX7_dearTiles 4 (some .int) :: ([.fieldLink RX7 31 "TileHouseModel" "whole" "[I", .fieldLink RX7 9 "TileHouseModel" "in" "[I", .fieldLink RX7 250 "TileHouseModel" "fours" "I", .fieldLink RX7 34 "TileHouseModel" "wall" "[I", .methodLink RX7 268 yX7_behind, .static yX7_behind, .initialized RX7, .code yX7_behind cX7_behind 1 (some .int), .methodLink RX7 227 yX7_of, .instanceMethod yX7_of, .selects RX7 yX7_of yX7_of, .code yX7_of cX7_of 4 (some .int), .fieldLink RX7 137 "TileHouseModel" "laidMany" "I", .fieldLink RX7 13 "TileHouseModel" "sorts" "[I", .fieldLink RX7 16 "TileHouseModel" "lows" "[I", .methodLink RX7 166 yX7_has, .static yX7_has, .code yX7_has cX7_has 3 (some .boolean)] ++ wsX70)
def wsX7_value_r1 : List Cond := [Cond.fieldLink RX7 9 "TileHouseModel" "in" "[I", Cond.fieldLink RX7 58 "TileHouseModel" "bet" "[I", Cond.fieldLink RX7 64 "TileHouseModel" "atOnce" "[Z", Cond.fieldLink RX7 274 "TileHouseModel" "behindFour" "Z", Cond.fieldLink RX7 277 "TileHouseModel" "phase" "I", Cond.fieldLink RX7 61 "TileHouseModel" "draws" "[I", Cond.fieldLink RX7 265 "TileHouseModel" "dealer" "I", Cond.fieldLink RX7 280 "TileHouseModel" "untouched" "Z", Cond.fieldLink RX7 286 "TileHouseModel" "round" "I", Cond.methodLink RX7 258 yX7_take, Cond.instanceMethod yX7_take, Cond.selects RX7 yX7_take yX7_take, Cond.initialized RX7, Cond.code yX7_take cX7_take 3 none, Cond.fieldLink RX7 49 "TileHouseModel" "setMany" "[I", Cond.fieldLink RX7 137 "TileHouseModel" "laidMany" "I", Cond.fieldLink RX7 13 "TileHouseModel" "sorts" "[I", Cond.fieldLink RX7 43 "TileHouseModel" "setSort" "[I", Cond.fieldLink RX7 16 "TileHouseModel" "lows" "[I", Cond.fieldLink RX7 46 "TileHouseModel" "setKind" "[I", Cond.methodLink RX7 256 yX7_has_, Cond.instanceMethod yX7_has_, Cond.selects RX7 yX7_has_ yX7_has_, Cond.code yX7_has_ cX7_has_ 3 (some .int)]
def wsX7_value_r2 : List Cond := [Cond.fieldLink RX7 37 "TileHouseModel" "hands" "[I", Cond.methodLink RX7 201 yX7_bit, Cond.static yX7_bit, Cond.code yX7_bit cX7_bit 1 (some .long), Cond.methodLink RX7 271 yX7_left, Cond.instanceMethod yX7_left, Cond.selects RX7 yX7_left yX7_left, Cond.code yX7_left cX7_left 1 (some .int), Cond.fieldLink RX7 250 "TileHouseModel" "fours" "I", Cond.fieldLink RX7 253 "TileHouseModel" "next" "I", Cond.methodLink RX7 283 yX7_windOf, Cond.instanceMethod yX7_windOf, Cond.selects RX7 yX7_windOf yX7_windOf, Cond.code yX7_windOf cX7_windOf 2 (some .int), Cond.methodLink RX7 289 yX7_dearTiles, Cond.instanceMethod yX7_dearTiles, Cond.selects RX7 yX7_dearTiles yX7_dearTiles, Cond.code yX7_dearTiles cX7_dearTiles 4 (some .int), Cond.fieldLink RX7 31 "TileHouseModel" "whole" "[I", Cond.fieldLink RX7 34 "TileHouseModel" "wall" "[I", Cond.methodLink RX7 268 yX7_behind, Cond.static yX7_behind, Cond.code yX7_behind cX7_behind 1 (some .int), Cond.methodLink RX7 227 yX7_of]
def wsX7_value_r3 : List Cond := [Cond.instanceMethod yX7_of, Cond.selects RX7 yX7_of yX7_of, Cond.code yX7_of cX7_of 4 (some .int), Cond.methodLink RX7 166 yX7_has, Cond.static yX7_has, Cond.code yX7_has cX7_has 3 (some .boolean), Cond.methodLink RX7 293 yX7_reckon, Cond.instanceMethod yX7_reckon, Cond.selects RX7 yX7_reckon yX7_reckon, Cond.code yX7_reckon cX7_reckon 9 none, Cond.fieldLink RX7 163 "TileHouseModel" "winner" "I", Cond.fieldLink RX7 176 "TileHouseModel" "drawn" "Z", Cond.fieldLink RX7 231 "TileHouseModel" "told" "J", Cond.fieldLink RX7 189 "TileHouseModel" "seatWind" "I", Cond.fieldLink RX7 192 "TileHouseModel" "roundWind" "I", Cond.fieldLink RX7 238 "TileHouseModel" "dear" "I", Cond.methodLink RX7 247 yX7_apart, Cond.instanceMethod yX7_apart, Cond.selects RX7 yX7_apart yX7_apart, Cond.code yX7_apart cX7_apart 6 none, Cond.fieldLink RX7 113 "TileHouseModel" "isFull" "Z", Cond.fieldLink RX7 117 "TileHouseModel" "ways" "I", Cond.fieldLink RX7 120 "TileHouseModel" "bestBase" "I", Cond.fieldLink RX7 123 "TileHouseModel" "bestHan" "I"]
def wsX7_value_r4 : List Cond := [Cond.fieldLink RX7 126 "TileHouseModel" "bestFu" "I", Cond.fieldLink RX7 129 "TileHouseModel" "bestForms" "J", Cond.methodLink RX7 133 yX7_inHand, Cond.instanceMethod yX7_inHand, Cond.selects RX7 yX7_inHand yX7_inHand, Cond.code yX7_inHand cX7_inHand 3 (some .int), Cond.methodLink RX7 140 yX7_sets, Cond.instanceMethod yX7_sets, Cond.selects RX7 yX7_sets yX7_sets, Cond.code yX7_sets cX7_sets 7 none, Cond.fieldLink RX7 19 "TileHouseModel" "waySort" "[I", Cond.fieldLink RX7 22 "TileHouseModel" "wayLow" "[I", Cond.methodLink RX7 153 yX7_way, Cond.instanceMethod yX7_way, Cond.selects RX7 yX7_way yX7_way, Cond.code yX7_way cX7_way 5 none, Cond.fieldLink RX7 160 "TileHouseModel" "pairKind" "I", Cond.fieldLink RX7 25 "TileHouseModel" "allSort" "[I", Cond.fieldLink RX7 28 "TileHouseModel" "allLow" "[I", Cond.fieldLink RX7 170 "TileHouseModel" "completes" "I", Cond.methodLink RX7 173 yX7_firstSort, Cond.instanceMethod yX7_firstSort, Cond.selects RX7 yX7_firstSort yX7_firstSort, Cond.code yX7_firstSort cX7_firstSort 14 none]
def wsX7_value_r5 : List Cond := [Cond.fieldLink RX7 195 "TileHouseModel" "great" "J", Cond.fieldLink RX7 198 "TileHouseModel" "plain" "J", Cond.fieldLink RX7 220 "TileHouseModel" "fu" "I", Cond.methodLink RX7 179 yX7_isOpen, Cond.instanceMethod yX7_isOpen, Cond.selects RX7 yX7_isOpen yX7_isOpen, Cond.code yX7_isOpen cX7_isOpen 3 (some .boolean), Cond.methodLink RX7 183 yX7_isHidden, Cond.instanceMethod yX7_isHidden, Cond.selects RX7 yX7_isHidden yX7_isHidden, Cond.code yX7_isHidden cX7_isHidden 2 (some .boolean), Cond.methodLink RX7 186 yX7_isDragon, Cond.static yX7_isDragon, Cond.code yX7_isDragon cX7_isDragon 1 (some .boolean), Cond.methodLink RX7 205 yX7_twins, Cond.instanceMethod yX7_twins, Cond.selects RX7 yX7_twins yX7_twins, Cond.code yX7_twins cX7_twins 5 none, Cond.methodLink RX7 208 yX7_hasThree, Cond.instanceMethod yX7_hasThree, Cond.selects RX7 yX7_hasThree yX7_hasThree, Cond.code yX7_hasThree cX7_hasThree 4 (some .boolean), Cond.methodLink RX7 211 yX7_hasRun, Cond.instanceMethod yX7_hasRun]
def wsX7_value_r6 : List Cond := [Cond.selects RX7 yX7_hasRun yX7_hasRun, Cond.code yX7_hasRun cX7_hasRun 4 (some .boolean), Cond.methodLink RX7 214 yX7_edges, Cond.instanceMethod yX7_edges, Cond.selects RX7 yX7_edges yX7_edges, Cond.code yX7_edges cX7_edges 9 none, Cond.methodLink RX7 144 yX7_isEnd, Cond.static yX7_isEnd, Cond.code yX7_isEnd cX7_isEnd 1 (some .boolean), Cond.methodLink RX7 106 yX7_isHonour, Cond.static yX7_isHonour, Cond.code yX7_isHonour cX7_isHonour 1 (some .boolean), Cond.methodLink RX7 110 yX7_isTerminal, Cond.static yX7_isTerminal, Cond.code yX7_isTerminal cX7_isTerminal 1 (some .boolean), Cond.methodLink RX7 217 yX7_tiles, Cond.instanceMethod yX7_tiles, Cond.selects RX7 yX7_tiles yX7_tiles, Cond.code yX7_tiles cX7_tiles 12 none, Cond.methodLink RX7 223 yX7_compare, Cond.instanceMethod yX7_compare, Cond.selects RX7 yX7_compare yX7_compare, Cond.code yX7_compare cX7_compare 7 none, Cond.methodLink RX7 241 Lib.Math.min.name]
def wsX7_value_r7 : List Cond := [Cond.static Lib.Math.min.name, Cond.initialized "java/lang/Math", Cond.code Lib.Math.min.name Lib.Math.min.code 2 (some .int), Cond.methodLink RX7 234 yX7_han, Cond.static yX7_han, Cond.code yX7_han cX7_han 2 (some .int), Cond.methodLink RX7 157 yX7_isRun, Cond.static yX7_isRun, Cond.code yX7_isRun cX7_isRun 1 (some .boolean), Cond.methodLink RX7 147 yX7_pairsWay, Cond.instanceMethod yX7_pairsWay, Cond.selects RX7 yX7_pairsWay yX7_pairsWay, Cond.code yX7_pairsWay cX7_pairsWay 1 none, Cond.methodLink RX7 150 yX7_thirteen, Cond.instanceMethod yX7_thirteen, Cond.selects RX7 yX7_thirteen yX7_thirteen, Cond.code yX7_thirteen cX7_thirteen 1 none]
def wsX7_value : List Cond := .code yX7_value cX7_value 6 none :: ((wsX7_value_r1 ++ (wsX7_value_r2 ++ (wsX7_value_r3 ++ (wsX7_value_r4 ++ (wsX7_value_r5 ++ (wsX7_value_r6 ++ wsX7_value_r7)))))) ++ wsX70)
def wsX7_draws : List Cond := .code yX7_draws cX7_draws 4 none :: ([.fieldLink RX7 297 "TileHouseModel" "backs" "I", .fieldLink RX7 253 "TileHouseModel" "next" "I", .fieldLink RX7 34 "TileHouseModel" "wall" "[I", .fieldLink RX7 74 "TileHouseModel" "tile" "I", .fieldLink RX7 61 "TileHouseModel" "draws" "[I", .fieldLink RX7 58 "TileHouseModel" "bet" "[I", .fieldLink RX7 68 "TileHouseModel" "letGo" "[Z", .fieldLink RX7 304 "TileHouseModel" "turn" "I", .fieldLink RX7 277 "TileHouseModel" "phase" "I", .fieldLink RX7 307 "TileHouseModel" "justClaimed" "Z", .fieldLink RX7 274 "TileHouseModel" "behindFour" "Z", .fieldLink RX7 78 "TileHouseModel" "banned" "I", .fieldLink RX7 81 "TileHouseModel" "alsoBanned" "I", .methodLink RX7 300 yX7_gives, .instanceMethod yX7_gives, .selects RX7 yX7_gives yX7_gives, .initialized RX7, .code yX7_gives cX7_gives 4 none, .fieldLink RX7 37 "TileHouseModel" "hands" "[I"] ++ wsX70)
def wsX7_deal_r1 : List Cond := [Cond.fieldLink RX7 103 "TileHouseModel" "thrown" "I", Cond.fieldLink RX7 277 "TileHouseModel" "phase" "I", Cond.fieldLink RX7 310 "TileHouseModel" "ended" "Z", Cond.fieldLink RX7 34 "TileHouseModel" "wall" "[I", Cond.constantLong RX7 313 (6364136223846793005), Cond.constantLong RX7 315 (1442695040888963407), Cond.fieldLink RX7 37 "TileHouseModel" "hands" "[I", Cond.fieldLink RX7 265 "TileHouseModel" "dealer" "I", Cond.fieldLink RX7 49 "TileHouseModel" "setMany" "[I", Cond.fieldLink RX7 55 "TileHouseModel" "riverMany" "[I", Cond.fieldLink RX7 58 "TileHouseModel" "bet" "[I", Cond.fieldLink RX7 61 "TileHouseModel" "draws" "[I", Cond.fieldLink RX7 64 "TileHouseModel" "atOnce" "[Z", Cond.fieldLink RX7 68 "TileHouseModel" "letGo" "[Z", Cond.fieldLink RX7 71 "TileHouseModel" "says" "[Z", Cond.fieldLink RX7 253 "TileHouseModel" "next" "I", Cond.fieldLink RX7 250 "TileHouseModel" "fours" "I", Cond.fieldLink RX7 297 "TileHouseModel" "backs" "I", Cond.fieldLink RX7 317 "TileHouseModel" "wins" "I", Cond.fieldLink RX7 280 "TileHouseModel" "untouched" "Z", Cond.fieldLink RX7 320 "TileHouseModel" "betWaits" "Z", Cond.fieldLink RX7 323 "TileHouseModel" "isDealt" "Z", Cond.methodLink RX7 300 yX7_gives, Cond.instanceMethod yX7_gives]
def wsX7_deal_r2 : List Cond := [Cond.selects RX7 yX7_gives yX7_gives, Cond.initialized RX7, Cond.code yX7_gives cX7_gives 4 none, Cond.methodLink RX7 326 yX7_draws, Cond.instanceMethod yX7_draws, Cond.selects RX7 yX7_draws yX7_draws, Cond.code yX7_draws cX7_draws 4 none, Cond.fieldLink RX7 74 "TileHouseModel" "tile" "I", Cond.fieldLink RX7 304 "TileHouseModel" "turn" "I", Cond.fieldLink RX7 307 "TileHouseModel" "justClaimed" "Z", Cond.fieldLink RX7 274 "TileHouseModel" "behindFour" "Z", Cond.fieldLink RX7 78 "TileHouseModel" "banned" "I", Cond.fieldLink RX7 81 "TileHouseModel" "alsoBanned" "I"]
def wsX7_deal : List Cond := .code yX7_deal cX7_deal 8 (some .boolean) :: ((wsX7_deal_r1 ++ wsX7_deal_r2) ++ wsX70)
def wsX7_touched : List Cond := .code yX7_touched cX7_touched 2 none :: ([.fieldLink RX7 280 "TileHouseModel" "untouched" "Z", .fieldLink RX7 64 "TileHouseModel" "atOnce" "[Z"] ++ wsX70)
def wsX7_discard_r1 : List Cond := [Cond.fieldLink RX7 103 "TileHouseModel" "thrown" "I", Cond.fieldLink RX7 277 "TileHouseModel" "phase" "I", Cond.fieldLink RX7 304 "TileHouseModel" "turn" "I", Cond.fieldLink RX7 307 "TileHouseModel" "justClaimed" "Z", Cond.fieldLink RX7 78 "TileHouseModel" "banned" "I", Cond.fieldLink RX7 81 "TileHouseModel" "alsoBanned" "I", Cond.fieldLink RX7 58 "TileHouseModel" "bet" "[I", Cond.fieldLink RX7 74 "TileHouseModel" "tile" "I", Cond.fieldLink RX7 40 "TileHouseModel" "points" "[I", Cond.fieldLink RX7 55 "TileHouseModel" "riverMany" "[I", Cond.fieldLink RX7 280 "TileHouseModel" "untouched" "Z", Cond.fieldLink RX7 52 "TileHouseModel" "rivers" "[I", Cond.fieldLink RX7 64 "TileHouseModel" "atOnce" "[Z", Cond.fieldLink RX7 320 "TileHouseModel" "betWaits" "Z", Cond.methodLink RX7 329 yX7_isKind, Cond.static yX7_isKind, Cond.initialized RX7, Cond.code yX7_isKind cX7_isKind 1 (some .boolean), Cond.methodLink RX7 256 yX7_has_, Cond.instanceMethod yX7_has_, Cond.selects RX7 yX7_has_ yX7_has_, Cond.code yX7_has_ cX7_has_ 3 (some .int), Cond.fieldLink RX7 37 "TileHouseModel" "hands" "[I", Cond.methodLink RX7 332 yX7_isOpen_]
def wsX7_discard_r2 : List Cond := [Cond.instanceMethod yX7_isOpen_, Cond.selects RX7 yX7_isOpen_ yX7_isOpen_, Cond.code yX7_isOpen_ cX7_isOpen_ 4 (some .boolean), Cond.fieldLink RX7 49 "TileHouseModel" "setMany" "[I", Cond.fieldLink RX7 43 "TileHouseModel" "setSort" "[I", Cond.methodLink RX7 271 yX7_left, Cond.instanceMethod yX7_left, Cond.selects RX7 yX7_left yX7_left, Cond.code yX7_left cX7_left 1 (some .int), Cond.fieldLink RX7 250 "TileHouseModel" "fours" "I", Cond.fieldLink RX7 253 "TileHouseModel" "next" "I", Cond.methodLink RX7 300 yX7_gives, Cond.instanceMethod yX7_gives, Cond.selects RX7 yX7_gives yX7_gives, Cond.code yX7_gives cX7_gives 4 none, Cond.methodLink RX7 334 yX7_waitsAt, Cond.instanceMethod yX7_waitsAt, Cond.selects RX7 yX7_waitsAt yX7_waitsAt, Cond.code yX7_waitsAt cX7_waitsAt 2 (some .long), Cond.methodLink RX7 258 yX7_take, Cond.instanceMethod yX7_take, Cond.selects RX7 yX7_take yX7_take, Cond.code yX7_take cX7_take 3 none, Cond.fieldLink RX7 9 "TileHouseModel" "in" "[I"]
def wsX7_discard_r3 : List Cond := [Cond.fieldLink RX7 137 "TileHouseModel" "laidMany" "I", Cond.fieldLink RX7 13 "TileHouseModel" "sorts" "[I", Cond.fieldLink RX7 16 "TileHouseModel" "lows" "[I", Cond.fieldLink RX7 46 "TileHouseModel" "setKind" "[I", Cond.methodLink RX7 261 yX7_waitsOf, Cond.instanceMethod yX7_waitsOf, Cond.selects RX7 yX7_waitsOf yX7_waitsOf, Cond.code yX7_waitsOf cX7_waitsOf 5 (some .long), Cond.fieldLink RX7 31 "TileHouseModel" "whole" "[I", Cond.fieldLink RX7 113 "TileHouseModel" "isFull" "Z", Cond.methodLink RX7 133 yX7_inHand, Cond.instanceMethod yX7_inHand, Cond.selects RX7 yX7_inHand yX7_inHand, Cond.code yX7_inHand cX7_inHand 3 (some .int), Cond.methodLink RX7 227 yX7_of, Cond.instanceMethod yX7_of, Cond.selects RX7 yX7_of yX7_of, Cond.code yX7_of cX7_of 4 (some .int), Cond.methodLink RX7 166 yX7_has, Cond.static yX7_has, Cond.code yX7_has cX7_has 3 (some .boolean), Cond.methodLink RX7 247 yX7_apart, Cond.instanceMethod yX7_apart, Cond.selects RX7 yX7_apart yX7_apart]
def wsX7_discard_r4 : List Cond := [Cond.code yX7_apart cX7_apart 6 none, Cond.fieldLink RX7 117 "TileHouseModel" "ways" "I", Cond.fieldLink RX7 120 "TileHouseModel" "bestBase" "I", Cond.fieldLink RX7 123 "TileHouseModel" "bestHan" "I", Cond.fieldLink RX7 126 "TileHouseModel" "bestFu" "I", Cond.fieldLink RX7 129 "TileHouseModel" "bestForms" "J", Cond.methodLink RX7 140 yX7_sets, Cond.instanceMethod yX7_sets, Cond.selects RX7 yX7_sets yX7_sets, Cond.code yX7_sets cX7_sets 7 none, Cond.fieldLink RX7 19 "TileHouseModel" "waySort" "[I", Cond.fieldLink RX7 22 "TileHouseModel" "wayLow" "[I", Cond.methodLink RX7 153 yX7_way, Cond.instanceMethod yX7_way, Cond.selects RX7 yX7_way yX7_way, Cond.code yX7_way cX7_way 5 none, Cond.fieldLink RX7 160 "TileHouseModel" "pairKind" "I", Cond.fieldLink RX7 25 "TileHouseModel" "allSort" "[I", Cond.fieldLink RX7 28 "TileHouseModel" "allLow" "[I", Cond.fieldLink RX7 163 "TileHouseModel" "winner" "I", Cond.fieldLink RX7 170 "TileHouseModel" "completes" "I", Cond.methodLink RX7 173 yX7_firstSort, Cond.instanceMethod yX7_firstSort, Cond.selects RX7 yX7_firstSort yX7_firstSort]
def wsX7_discard_r5 : List Cond := [Cond.code yX7_firstSort cX7_firstSort 14 none, Cond.fieldLink RX7 189 "TileHouseModel" "seatWind" "I", Cond.fieldLink RX7 192 "TileHouseModel" "roundWind" "I", Cond.fieldLink RX7 195 "TileHouseModel" "great" "J", Cond.fieldLink RX7 198 "TileHouseModel" "plain" "J", Cond.fieldLink RX7 176 "TileHouseModel" "drawn" "Z", Cond.fieldLink RX7 220 "TileHouseModel" "fu" "I", Cond.methodLink RX7 179 yX7_isOpen, Cond.instanceMethod yX7_isOpen, Cond.selects RX7 yX7_isOpen yX7_isOpen, Cond.code yX7_isOpen cX7_isOpen 3 (some .boolean), Cond.methodLink RX7 183 yX7_isHidden, Cond.instanceMethod yX7_isHidden, Cond.selects RX7 yX7_isHidden yX7_isHidden, Cond.code yX7_isHidden cX7_isHidden 2 (some .boolean), Cond.methodLink RX7 186 yX7_isDragon, Cond.static yX7_isDragon, Cond.code yX7_isDragon cX7_isDragon 1 (some .boolean), Cond.methodLink RX7 201 yX7_bit, Cond.static yX7_bit, Cond.code yX7_bit cX7_bit 1 (some .long), Cond.methodLink RX7 205 yX7_twins, Cond.instanceMethod yX7_twins, Cond.selects RX7 yX7_twins yX7_twins]
def wsX7_discard_r6 : List Cond := [Cond.code yX7_twins cX7_twins 5 none, Cond.methodLink RX7 208 yX7_hasThree, Cond.instanceMethod yX7_hasThree, Cond.selects RX7 yX7_hasThree yX7_hasThree, Cond.code yX7_hasThree cX7_hasThree 4 (some .boolean), Cond.methodLink RX7 211 yX7_hasRun, Cond.instanceMethod yX7_hasRun, Cond.selects RX7 yX7_hasRun yX7_hasRun, Cond.code yX7_hasRun cX7_hasRun 4 (some .boolean), Cond.methodLink RX7 214 yX7_edges, Cond.instanceMethod yX7_edges, Cond.selects RX7 yX7_edges yX7_edges, Cond.code yX7_edges cX7_edges 9 none, Cond.methodLink RX7 144 yX7_isEnd, Cond.static yX7_isEnd, Cond.code yX7_isEnd cX7_isEnd 1 (some .boolean), Cond.methodLink RX7 106 yX7_isHonour, Cond.static yX7_isHonour, Cond.code yX7_isHonour cX7_isHonour 1 (some .boolean), Cond.methodLink RX7 110 yX7_isTerminal, Cond.static yX7_isTerminal, Cond.code yX7_isTerminal cX7_isTerminal 1 (some .boolean), Cond.methodLink RX7 217 yX7_tiles, Cond.instanceMethod yX7_tiles]
def wsX7_discard_r7 : List Cond := [Cond.selects RX7 yX7_tiles yX7_tiles, Cond.code yX7_tiles cX7_tiles 12 none, Cond.methodLink RX7 223 yX7_compare, Cond.instanceMethod yX7_compare, Cond.selects RX7 yX7_compare yX7_compare, Cond.code yX7_compare cX7_compare 7 none, Cond.fieldLink RX7 231 "TileHouseModel" "told" "J", Cond.fieldLink RX7 238 "TileHouseModel" "dear" "I", Cond.methodLink RX7 241 Lib.Math.min.name, Cond.static Lib.Math.min.name, Cond.initialized "java/lang/Math", Cond.code Lib.Math.min.name Lib.Math.min.code 2 (some .int), Cond.methodLink RX7 234 yX7_han, Cond.static yX7_han, Cond.code yX7_han cX7_han 2 (some .int), Cond.methodLink RX7 157 yX7_isRun, Cond.static yX7_isRun, Cond.code yX7_isRun cX7_isRun 1 (some .boolean), Cond.methodLink RX7 147 yX7_pairsWay, Cond.instanceMethod yX7_pairsWay, Cond.selects RX7 yX7_pairsWay yX7_pairsWay, Cond.code yX7_pairsWay cX7_pairsWay 1 none, Cond.methodLink RX7 150 yX7_thirteen, Cond.instanceMethod yX7_thirteen]
def wsX7_discard_r8 : List Cond := [Cond.selects RX7 yX7_thirteen yX7_thirteen, Cond.code yX7_thirteen cX7_thirteen 1 none]
def wsX7_discard : List Cond := .code yX7_discard cX7_discard 5 (some .boolean) :: ((wsX7_discard_r1 ++ (wsX7_discard_r2 ++ (wsX7_discard_r3 ++ (wsX7_discard_r4 ++ (wsX7_discard_r5 ++ (wsX7_discard_r6 ++ (wsX7_discard_r7 ++ wsX7_discard_r8))))))) ++ wsX70)
def wsX7_anySays : List Cond := .code yX7_anySays cX7_anySays 1 (some .boolean) :: ([.fieldLink RX7 71 "TileHouseModel" "says" "[Z"] ++ wsX70)
def wsX7_over_r1 : List Cond := [Cond.fieldLink RX7 320 "TileHouseModel" "betWaits" "Z", Cond.fieldLink RX7 40 "TileHouseModel" "points" "[I", Cond.fieldLink RX7 304 "TileHouseModel" "turn" "I", Cond.fieldLink RX7 337 "TileHouseModel" "bets" "I", Cond.fieldLink RX7 74 "TileHouseModel" "tile" "I", Cond.fieldLink RX7 68 "TileHouseModel" "letGo" "[Z", Cond.methodLink RX7 334 yX7_waitsAt, Cond.instanceMethod yX7_waitsAt, Cond.selects RX7 yX7_waitsAt yX7_waitsAt, Cond.initialized RX7, Cond.code yX7_waitsAt cX7_waitsAt 2 (some .long), Cond.methodLink RX7 258 yX7_take, Cond.instanceMethod yX7_take, Cond.selects RX7 yX7_take yX7_take, Cond.code yX7_take cX7_take 3 none, Cond.fieldLink RX7 9 "TileHouseModel" "in" "[I", Cond.fieldLink RX7 49 "TileHouseModel" "setMany" "[I", Cond.fieldLink RX7 137 "TileHouseModel" "laidMany" "I", Cond.fieldLink RX7 13 "TileHouseModel" "sorts" "[I", Cond.fieldLink RX7 43 "TileHouseModel" "setSort" "[I", Cond.fieldLink RX7 16 "TileHouseModel" "lows" "[I", Cond.fieldLink RX7 46 "TileHouseModel" "setKind" "[I", Cond.methodLink RX7 256 yX7_has_, Cond.instanceMethod yX7_has_]
def wsX7_over_r2 : List Cond := [Cond.selects RX7 yX7_has_ yX7_has_, Cond.code yX7_has_ cX7_has_ 3 (some .int), Cond.fieldLink RX7 37 "TileHouseModel" "hands" "[I", Cond.methodLink RX7 261 yX7_waitsOf, Cond.instanceMethod yX7_waitsOf, Cond.selects RX7 yX7_waitsOf yX7_waitsOf, Cond.code yX7_waitsOf cX7_waitsOf 5 (some .long), Cond.fieldLink RX7 31 "TileHouseModel" "whole" "[I", Cond.fieldLink RX7 113 "TileHouseModel" "isFull" "Z", Cond.methodLink RX7 133 yX7_inHand, Cond.instanceMethod yX7_inHand, Cond.selects RX7 yX7_inHand yX7_inHand, Cond.code yX7_inHand cX7_inHand 3 (some .int), Cond.methodLink RX7 227 yX7_of, Cond.instanceMethod yX7_of, Cond.selects RX7 yX7_of yX7_of, Cond.code yX7_of cX7_of 4 (some .int), Cond.methodLink RX7 166 yX7_has, Cond.static yX7_has, Cond.code yX7_has cX7_has 3 (some .boolean), Cond.methodLink RX7 247 yX7_apart, Cond.instanceMethod yX7_apart, Cond.selects RX7 yX7_apart yX7_apart, Cond.code yX7_apart cX7_apart 6 none]
def wsX7_over_r3 : List Cond := [Cond.fieldLink RX7 117 "TileHouseModel" "ways" "I", Cond.fieldLink RX7 120 "TileHouseModel" "bestBase" "I", Cond.fieldLink RX7 123 "TileHouseModel" "bestHan" "I", Cond.fieldLink RX7 126 "TileHouseModel" "bestFu" "I", Cond.fieldLink RX7 129 "TileHouseModel" "bestForms" "J", Cond.methodLink RX7 140 yX7_sets, Cond.instanceMethod yX7_sets, Cond.selects RX7 yX7_sets yX7_sets, Cond.code yX7_sets cX7_sets 7 none, Cond.fieldLink RX7 19 "TileHouseModel" "waySort" "[I", Cond.fieldLink RX7 22 "TileHouseModel" "wayLow" "[I", Cond.methodLink RX7 153 yX7_way, Cond.instanceMethod yX7_way, Cond.selects RX7 yX7_way yX7_way, Cond.code yX7_way cX7_way 5 none, Cond.fieldLink RX7 160 "TileHouseModel" "pairKind" "I", Cond.fieldLink RX7 25 "TileHouseModel" "allSort" "[I", Cond.fieldLink RX7 28 "TileHouseModel" "allLow" "[I", Cond.fieldLink RX7 163 "TileHouseModel" "winner" "I", Cond.fieldLink RX7 170 "TileHouseModel" "completes" "I", Cond.methodLink RX7 173 yX7_firstSort, Cond.instanceMethod yX7_firstSort, Cond.selects RX7 yX7_firstSort yX7_firstSort, Cond.code yX7_firstSort cX7_firstSort 14 none]
def wsX7_over_r4 : List Cond := [Cond.fieldLink RX7 189 "TileHouseModel" "seatWind" "I", Cond.fieldLink RX7 192 "TileHouseModel" "roundWind" "I", Cond.fieldLink RX7 195 "TileHouseModel" "great" "J", Cond.fieldLink RX7 198 "TileHouseModel" "plain" "J", Cond.fieldLink RX7 176 "TileHouseModel" "drawn" "Z", Cond.fieldLink RX7 220 "TileHouseModel" "fu" "I", Cond.methodLink RX7 179 yX7_isOpen, Cond.instanceMethod yX7_isOpen, Cond.selects RX7 yX7_isOpen yX7_isOpen, Cond.code yX7_isOpen cX7_isOpen 3 (some .boolean), Cond.methodLink RX7 183 yX7_isHidden, Cond.instanceMethod yX7_isHidden, Cond.selects RX7 yX7_isHidden yX7_isHidden, Cond.code yX7_isHidden cX7_isHidden 2 (some .boolean), Cond.methodLink RX7 186 yX7_isDragon, Cond.static yX7_isDragon, Cond.code yX7_isDragon cX7_isDragon 1 (some .boolean), Cond.methodLink RX7 201 yX7_bit, Cond.static yX7_bit, Cond.code yX7_bit cX7_bit 1 (some .long), Cond.methodLink RX7 205 yX7_twins, Cond.instanceMethod yX7_twins, Cond.selects RX7 yX7_twins yX7_twins, Cond.code yX7_twins cX7_twins 5 none]
def wsX7_over_r5 : List Cond := [Cond.methodLink RX7 208 yX7_hasThree, Cond.instanceMethod yX7_hasThree, Cond.selects RX7 yX7_hasThree yX7_hasThree, Cond.code yX7_hasThree cX7_hasThree 4 (some .boolean), Cond.methodLink RX7 211 yX7_hasRun, Cond.instanceMethod yX7_hasRun, Cond.selects RX7 yX7_hasRun yX7_hasRun, Cond.code yX7_hasRun cX7_hasRun 4 (some .boolean), Cond.methodLink RX7 214 yX7_edges, Cond.instanceMethod yX7_edges, Cond.selects RX7 yX7_edges yX7_edges, Cond.code yX7_edges cX7_edges 9 none, Cond.methodLink RX7 144 yX7_isEnd, Cond.static yX7_isEnd, Cond.code yX7_isEnd cX7_isEnd 1 (some .boolean), Cond.methodLink RX7 106 yX7_isHonour, Cond.static yX7_isHonour, Cond.code yX7_isHonour cX7_isHonour 1 (some .boolean), Cond.methodLink RX7 110 yX7_isTerminal, Cond.static yX7_isTerminal, Cond.code yX7_isTerminal cX7_isTerminal 1 (some .boolean), Cond.methodLink RX7 217 yX7_tiles, Cond.instanceMethod yX7_tiles, Cond.selects RX7 yX7_tiles yX7_tiles]
def wsX7_over_r6 : List Cond := [Cond.code yX7_tiles cX7_tiles 12 none, Cond.methodLink RX7 223 yX7_compare, Cond.instanceMethod yX7_compare, Cond.selects RX7 yX7_compare yX7_compare, Cond.code yX7_compare cX7_compare 7 none, Cond.fieldLink RX7 231 "TileHouseModel" "told" "J", Cond.fieldLink RX7 238 "TileHouseModel" "dear" "I", Cond.methodLink RX7 241 Lib.Math.min.name, Cond.static Lib.Math.min.name, Cond.initialized "java/lang/Math", Cond.code Lib.Math.min.name Lib.Math.min.code 2 (some .int), Cond.methodLink RX7 234 yX7_han, Cond.static yX7_han, Cond.code yX7_han cX7_han 2 (some .int), Cond.methodLink RX7 157 yX7_isRun, Cond.static yX7_isRun, Cond.code yX7_isRun cX7_isRun 1 (some .boolean), Cond.methodLink RX7 147 yX7_pairsWay, Cond.instanceMethod yX7_pairsWay, Cond.selects RX7 yX7_pairsWay yX7_pairsWay, Cond.code yX7_pairsWay cX7_pairsWay 1 none, Cond.methodLink RX7 150 yX7_thirteen, Cond.instanceMethod yX7_thirteen, Cond.selects RX7 yX7_thirteen yX7_thirteen]
def wsX7_over_r7 : List Cond := [Cond.code yX7_thirteen cX7_thirteen 1 none]
def wsX7_over : List Cond := .code yX7_over cX7_over 2 none :: ((wsX7_over_r1 ++ (wsX7_over_r2 ++ (wsX7_over_r3 ++ (wsX7_over_r4 ++ (wsX7_over_r5 ++ (wsX7_over_r6 ++ wsX7_over_r7)))))) ++ wsX70)
def wsX7_writes : List Cond := .code yX7_writes cX7_writes 5 none :: ([.fieldLink RX7 84 "TileHouseModel" "won" "[I", .fieldLink RX7 120 "TileHouseModel" "bestBase" "I", .fieldLink RX7 123 "TileHouseModel" "bestHan" "I", .fieldLink RX7 126 "TileHouseModel" "bestFu" "I", .fieldLink RX7 87 "TileHouseModel" "wonForms" "[J", .fieldLink RX7 129 "TileHouseModel" "bestForms" "J"] ++ wsX70)
def wsX7_up : List Cond := .code yX7_up cX7_up 1 (some .int) :: ([])
def wsX7_pays : List Cond := .code yX7_pays cX7_pays 4 none :: ([.fieldLink RX7 40 "TileHouseModel" "points" "[I", .fieldLink RX7 84 "TileHouseModel" "won" "[I"] ++ wsX70)
def wsX7_takesBets : List Cond := .code yX7_takesBets cX7_takesBets 2 none :: ([.fieldLink RX7 84 "TileHouseModel" "won" "[I", .fieldLink RX7 40 "TileHouseModel" "points" "[I", .fieldLink RX7 337 "TileHouseModel" "bets" "I"] ++ wsX70)
def wsX7_ends : List Cond := .code yX7_ends cX7_ends 7 none :: ([.fieldLink RX7 277 "TileHouseModel" "phase" "I", .fieldLink RX7 74 "TileHouseModel" "tile" "I", .fieldLink RX7 397 "TileHouseModel" "handsEnded" "I", .fieldLink RX7 40 "TileHouseModel" "points" "[I", .fieldLink RX7 265 "TileHouseModel" "dealer" "I", .fieldLink RX7 286 "TileHouseModel" "round" "I", .fieldLink RX7 310 "TileHouseModel" "ended" "Z", .fieldLink RX7 337 "TileHouseModel" "bets" "I", .fieldLink RX7 384 "TileHouseModel" "stays" "I"] ++ wsX70)
def wsX7_allWin_r1 : List Cond := [Cond.fieldLink RX7 317 "TileHouseModel" "wins" "I", Cond.fieldLink RX7 304 "TileHouseModel" "turn" "I", Cond.fieldLink RX7 71 "TileHouseModel" "says" "[Z", Cond.fieldLink RX7 74 "TileHouseModel" "tile" "I", Cond.fieldLink RX7 120 "TileHouseModel" "bestBase" "I", Cond.fieldLink RX7 265 "TileHouseModel" "dealer" "I", Cond.fieldLink RX7 384 "TileHouseModel" "stays" "I", Cond.methodLink RX7 373 yX7_value, Cond.instanceMethod yX7_value, Cond.selects RX7 yX7_value yX7_value, Cond.initialized RX7, Cond.code yX7_value cX7_value 6 none, Cond.fieldLink RX7 9 "TileHouseModel" "in" "[I", Cond.fieldLink RX7 58 "TileHouseModel" "bet" "[I", Cond.fieldLink RX7 64 "TileHouseModel" "atOnce" "[Z", Cond.fieldLink RX7 274 "TileHouseModel" "behindFour" "Z", Cond.fieldLink RX7 277 "TileHouseModel" "phase" "I", Cond.fieldLink RX7 61 "TileHouseModel" "draws" "[I", Cond.fieldLink RX7 280 "TileHouseModel" "untouched" "Z", Cond.fieldLink RX7 286 "TileHouseModel" "round" "I", Cond.methodLink RX7 258 yX7_take, Cond.instanceMethod yX7_take, Cond.selects RX7 yX7_take yX7_take, Cond.code yX7_take cX7_take 3 none]
def wsX7_allWin_r2 : List Cond := [Cond.fieldLink RX7 49 "TileHouseModel" "setMany" "[I", Cond.fieldLink RX7 137 "TileHouseModel" "laidMany" "I", Cond.fieldLink RX7 13 "TileHouseModel" "sorts" "[I", Cond.fieldLink RX7 43 "TileHouseModel" "setSort" "[I", Cond.fieldLink RX7 16 "TileHouseModel" "lows" "[I", Cond.fieldLink RX7 46 "TileHouseModel" "setKind" "[I", Cond.methodLink RX7 256 yX7_has_, Cond.instanceMethod yX7_has_, Cond.selects RX7 yX7_has_ yX7_has_, Cond.code yX7_has_ cX7_has_ 3 (some .int), Cond.fieldLink RX7 37 "TileHouseModel" "hands" "[I", Cond.methodLink RX7 201 yX7_bit, Cond.static yX7_bit, Cond.code yX7_bit cX7_bit 1 (some .long), Cond.methodLink RX7 271 yX7_left, Cond.instanceMethod yX7_left, Cond.selects RX7 yX7_left yX7_left, Cond.code yX7_left cX7_left 1 (some .int), Cond.fieldLink RX7 250 "TileHouseModel" "fours" "I", Cond.fieldLink RX7 253 "TileHouseModel" "next" "I", Cond.methodLink RX7 283 yX7_windOf, Cond.instanceMethod yX7_windOf, Cond.selects RX7 yX7_windOf yX7_windOf, Cond.code yX7_windOf cX7_windOf 2 (some .int)]
def wsX7_allWin_r3 : List Cond := [Cond.methodLink RX7 289 yX7_dearTiles, Cond.instanceMethod yX7_dearTiles, Cond.selects RX7 yX7_dearTiles yX7_dearTiles, Cond.code yX7_dearTiles cX7_dearTiles 4 (some .int), Cond.fieldLink RX7 31 "TileHouseModel" "whole" "[I", Cond.fieldLink RX7 34 "TileHouseModel" "wall" "[I", Cond.methodLink RX7 268 yX7_behind, Cond.static yX7_behind, Cond.code yX7_behind cX7_behind 1 (some .int), Cond.methodLink RX7 227 yX7_of, Cond.instanceMethod yX7_of, Cond.selects RX7 yX7_of yX7_of, Cond.code yX7_of cX7_of 4 (some .int), Cond.methodLink RX7 166 yX7_has, Cond.static yX7_has, Cond.code yX7_has cX7_has 3 (some .boolean), Cond.methodLink RX7 293 yX7_reckon, Cond.instanceMethod yX7_reckon, Cond.selects RX7 yX7_reckon yX7_reckon, Cond.code yX7_reckon cX7_reckon 9 none, Cond.fieldLink RX7 163 "TileHouseModel" "winner" "I", Cond.fieldLink RX7 176 "TileHouseModel" "drawn" "Z", Cond.fieldLink RX7 231 "TileHouseModel" "told" "J", Cond.fieldLink RX7 189 "TileHouseModel" "seatWind" "I"]
def wsX7_allWin_r4 : List Cond := [Cond.fieldLink RX7 192 "TileHouseModel" "roundWind" "I", Cond.fieldLink RX7 238 "TileHouseModel" "dear" "I", Cond.methodLink RX7 247 yX7_apart, Cond.instanceMethod yX7_apart, Cond.selects RX7 yX7_apart yX7_apart, Cond.code yX7_apart cX7_apart 6 none, Cond.fieldLink RX7 113 "TileHouseModel" "isFull" "Z", Cond.fieldLink RX7 117 "TileHouseModel" "ways" "I", Cond.fieldLink RX7 123 "TileHouseModel" "bestHan" "I", Cond.fieldLink RX7 126 "TileHouseModel" "bestFu" "I", Cond.fieldLink RX7 129 "TileHouseModel" "bestForms" "J", Cond.methodLink RX7 133 yX7_inHand, Cond.instanceMethod yX7_inHand, Cond.selects RX7 yX7_inHand yX7_inHand, Cond.code yX7_inHand cX7_inHand 3 (some .int), Cond.methodLink RX7 140 yX7_sets, Cond.instanceMethod yX7_sets, Cond.selects RX7 yX7_sets yX7_sets, Cond.code yX7_sets cX7_sets 7 none, Cond.fieldLink RX7 19 "TileHouseModel" "waySort" "[I", Cond.fieldLink RX7 22 "TileHouseModel" "wayLow" "[I", Cond.methodLink RX7 153 yX7_way, Cond.instanceMethod yX7_way, Cond.selects RX7 yX7_way yX7_way]
def wsX7_allWin_r5 : List Cond := [Cond.code yX7_way cX7_way 5 none, Cond.fieldLink RX7 160 "TileHouseModel" "pairKind" "I", Cond.fieldLink RX7 25 "TileHouseModel" "allSort" "[I", Cond.fieldLink RX7 28 "TileHouseModel" "allLow" "[I", Cond.fieldLink RX7 170 "TileHouseModel" "completes" "I", Cond.methodLink RX7 173 yX7_firstSort, Cond.instanceMethod yX7_firstSort, Cond.selects RX7 yX7_firstSort yX7_firstSort, Cond.code yX7_firstSort cX7_firstSort 14 none, Cond.fieldLink RX7 195 "TileHouseModel" "great" "J", Cond.fieldLink RX7 198 "TileHouseModel" "plain" "J", Cond.fieldLink RX7 220 "TileHouseModel" "fu" "I", Cond.methodLink RX7 179 yX7_isOpen, Cond.instanceMethod yX7_isOpen, Cond.selects RX7 yX7_isOpen yX7_isOpen, Cond.code yX7_isOpen cX7_isOpen 3 (some .boolean), Cond.methodLink RX7 183 yX7_isHidden, Cond.instanceMethod yX7_isHidden, Cond.selects RX7 yX7_isHidden yX7_isHidden, Cond.code yX7_isHidden cX7_isHidden 2 (some .boolean), Cond.methodLink RX7 186 yX7_isDragon, Cond.static yX7_isDragon, Cond.code yX7_isDragon cX7_isDragon 1 (some .boolean), Cond.methodLink RX7 205 yX7_twins]
def wsX7_allWin_r6 : List Cond := [Cond.instanceMethod yX7_twins, Cond.selects RX7 yX7_twins yX7_twins, Cond.code yX7_twins cX7_twins 5 none, Cond.methodLink RX7 208 yX7_hasThree, Cond.instanceMethod yX7_hasThree, Cond.selects RX7 yX7_hasThree yX7_hasThree, Cond.code yX7_hasThree cX7_hasThree 4 (some .boolean), Cond.methodLink RX7 211 yX7_hasRun, Cond.instanceMethod yX7_hasRun, Cond.selects RX7 yX7_hasRun yX7_hasRun, Cond.code yX7_hasRun cX7_hasRun 4 (some .boolean), Cond.methodLink RX7 214 yX7_edges, Cond.instanceMethod yX7_edges, Cond.selects RX7 yX7_edges yX7_edges, Cond.code yX7_edges cX7_edges 9 none, Cond.methodLink RX7 144 yX7_isEnd, Cond.static yX7_isEnd, Cond.code yX7_isEnd cX7_isEnd 1 (some .boolean), Cond.methodLink RX7 106 yX7_isHonour, Cond.static yX7_isHonour, Cond.code yX7_isHonour cX7_isHonour 1 (some .boolean), Cond.methodLink RX7 110 yX7_isTerminal, Cond.static yX7_isTerminal, Cond.code yX7_isTerminal cX7_isTerminal 1 (some .boolean)]
def wsX7_allWin_r7 : List Cond := [Cond.methodLink RX7 217 yX7_tiles, Cond.instanceMethod yX7_tiles, Cond.selects RX7 yX7_tiles yX7_tiles, Cond.code yX7_tiles cX7_tiles 12 none, Cond.methodLink RX7 223 yX7_compare, Cond.instanceMethod yX7_compare, Cond.selects RX7 yX7_compare yX7_compare, Cond.code yX7_compare cX7_compare 7 none, Cond.methodLink RX7 241 Lib.Math.min.name, Cond.static Lib.Math.min.name, Cond.initialized "java/lang/Math", Cond.code Lib.Math.min.name Lib.Math.min.code 2 (some .int), Cond.methodLink RX7 234 yX7_han, Cond.static yX7_han, Cond.code yX7_han cX7_han 2 (some .int), Cond.methodLink RX7 157 yX7_isRun, Cond.static yX7_isRun, Cond.code yX7_isRun cX7_isRun 1 (some .boolean), Cond.methodLink RX7 147 yX7_pairsWay, Cond.instanceMethod yX7_pairsWay, Cond.selects RX7 yX7_pairsWay yX7_pairsWay, Cond.code yX7_pairsWay cX7_pairsWay 1 none, Cond.methodLink RX7 150 yX7_thirteen, Cond.instanceMethod yX7_thirteen]
def wsX7_allWin_r8 : List Cond := [Cond.selects RX7 yX7_thirteen yX7_thirteen, Cond.code yX7_thirteen cX7_thirteen 1 none, Cond.methodLink RX7 377 yX7_writes, Cond.instanceMethod yX7_writes, Cond.selects RX7 yX7_writes yX7_writes, Cond.code yX7_writes cX7_writes 5 none, Cond.fieldLink RX7 84 "TileHouseModel" "won" "[I", Cond.fieldLink RX7 87 "TileHouseModel" "wonForms" "[J", Cond.methodLink RX7 381 yX7_up, Cond.static yX7_up, Cond.code yX7_up cX7_up 1 (some .int), Cond.methodLink RX7 387 yX7_pays, Cond.instanceMethod yX7_pays, Cond.selects RX7 yX7_pays yX7_pays, Cond.code yX7_pays cX7_pays 4 none, Cond.fieldLink RX7 40 "TileHouseModel" "points" "[I", Cond.methodLink RX7 390 yX7_takesBets, Cond.instanceMethod yX7_takesBets, Cond.selects RX7 yX7_takesBets yX7_takesBets, Cond.code yX7_takesBets cX7_takesBets 2 none, Cond.fieldLink RX7 337 "TileHouseModel" "bets" "I", Cond.methodLink RX7 393 yX7_ends, Cond.instanceMethod yX7_ends, Cond.selects RX7 yX7_ends yX7_ends]
def wsX7_allWin_r9 : List Cond := [Cond.code yX7_ends cX7_ends 7 none, Cond.fieldLink RX7 397 "TileHouseModel" "handsEnded" "I", Cond.fieldLink RX7 310 "TileHouseModel" "ended" "Z"]
def wsX7_allWin : List Cond := .code yX7_allWin cX7_allWin 5 none :: ((wsX7_allWin_r1 ++ (wsX7_allWin_r2 ++ (wsX7_allWin_r3 ++ (wsX7_allWin_r4 ++ (wsX7_allWin_r5 ++ (wsX7_allWin_r6 ++ (wsX7_allWin_r7 ++ (wsX7_allWin_r8 ++ wsX7_allWin_r9)))))))) ++ wsX70)
def wsX7_nobodyWins_r1 : List Cond := [Cond.arrayClass .boolean, Cond.fieldLink RX7 40 "TileHouseModel" "points" "[I", Cond.fieldLink RX7 265 "TileHouseModel" "dealer" "I", Cond.methodLink RX7 334 yX7_waitsAt, Cond.instanceMethod yX7_waitsAt, Cond.selects RX7 yX7_waitsAt yX7_waitsAt, Cond.initialized RX7, Cond.code yX7_waitsAt cX7_waitsAt 2 (some .long), Cond.methodLink RX7 258 yX7_take, Cond.instanceMethod yX7_take, Cond.selects RX7 yX7_take yX7_take, Cond.code yX7_take cX7_take 3 none, Cond.fieldLink RX7 9 "TileHouseModel" "in" "[I", Cond.fieldLink RX7 49 "TileHouseModel" "setMany" "[I", Cond.fieldLink RX7 137 "TileHouseModel" "laidMany" "I", Cond.fieldLink RX7 13 "TileHouseModel" "sorts" "[I", Cond.fieldLink RX7 43 "TileHouseModel" "setSort" "[I", Cond.fieldLink RX7 16 "TileHouseModel" "lows" "[I", Cond.fieldLink RX7 46 "TileHouseModel" "setKind" "[I", Cond.methodLink RX7 256 yX7_has_, Cond.instanceMethod yX7_has_, Cond.selects RX7 yX7_has_ yX7_has_, Cond.code yX7_has_ cX7_has_ 3 (some .int), Cond.fieldLink RX7 37 "TileHouseModel" "hands" "[I"]
def wsX7_nobodyWins_r2 : List Cond := [Cond.methodLink RX7 261 yX7_waitsOf, Cond.instanceMethod yX7_waitsOf, Cond.selects RX7 yX7_waitsOf yX7_waitsOf, Cond.code yX7_waitsOf cX7_waitsOf 5 (some .long), Cond.fieldLink RX7 31 "TileHouseModel" "whole" "[I", Cond.fieldLink RX7 113 "TileHouseModel" "isFull" "Z", Cond.methodLink RX7 133 yX7_inHand, Cond.instanceMethod yX7_inHand, Cond.selects RX7 yX7_inHand yX7_inHand, Cond.code yX7_inHand cX7_inHand 3 (some .int), Cond.methodLink RX7 227 yX7_of, Cond.instanceMethod yX7_of, Cond.selects RX7 yX7_of yX7_of, Cond.code yX7_of cX7_of 4 (some .int), Cond.methodLink RX7 166 yX7_has, Cond.static yX7_has, Cond.code yX7_has cX7_has 3 (some .boolean), Cond.methodLink RX7 247 yX7_apart, Cond.instanceMethod yX7_apart, Cond.selects RX7 yX7_apart yX7_apart, Cond.code yX7_apart cX7_apart 6 none, Cond.fieldLink RX7 117 "TileHouseModel" "ways" "I", Cond.fieldLink RX7 120 "TileHouseModel" "bestBase" "I", Cond.fieldLink RX7 123 "TileHouseModel" "bestHan" "I"]
def wsX7_nobodyWins_r3 : List Cond := [Cond.fieldLink RX7 126 "TileHouseModel" "bestFu" "I", Cond.fieldLink RX7 129 "TileHouseModel" "bestForms" "J", Cond.methodLink RX7 140 yX7_sets, Cond.instanceMethod yX7_sets, Cond.selects RX7 yX7_sets yX7_sets, Cond.code yX7_sets cX7_sets 7 none, Cond.fieldLink RX7 19 "TileHouseModel" "waySort" "[I", Cond.fieldLink RX7 22 "TileHouseModel" "wayLow" "[I", Cond.methodLink RX7 153 yX7_way, Cond.instanceMethod yX7_way, Cond.selects RX7 yX7_way yX7_way, Cond.code yX7_way cX7_way 5 none, Cond.fieldLink RX7 160 "TileHouseModel" "pairKind" "I", Cond.fieldLink RX7 25 "TileHouseModel" "allSort" "[I", Cond.fieldLink RX7 28 "TileHouseModel" "allLow" "[I", Cond.fieldLink RX7 163 "TileHouseModel" "winner" "I", Cond.fieldLink RX7 170 "TileHouseModel" "completes" "I", Cond.methodLink RX7 173 yX7_firstSort, Cond.instanceMethod yX7_firstSort, Cond.selects RX7 yX7_firstSort yX7_firstSort, Cond.code yX7_firstSort cX7_firstSort 14 none, Cond.fieldLink RX7 189 "TileHouseModel" "seatWind" "I", Cond.fieldLink RX7 192 "TileHouseModel" "roundWind" "I", Cond.fieldLink RX7 195 "TileHouseModel" "great" "J"]
def wsX7_nobodyWins_r4 : List Cond := [Cond.fieldLink RX7 198 "TileHouseModel" "plain" "J", Cond.fieldLink RX7 176 "TileHouseModel" "drawn" "Z", Cond.fieldLink RX7 220 "TileHouseModel" "fu" "I", Cond.methodLink RX7 179 yX7_isOpen, Cond.instanceMethod yX7_isOpen, Cond.selects RX7 yX7_isOpen yX7_isOpen, Cond.code yX7_isOpen cX7_isOpen 3 (some .boolean), Cond.methodLink RX7 183 yX7_isHidden, Cond.instanceMethod yX7_isHidden, Cond.selects RX7 yX7_isHidden yX7_isHidden, Cond.code yX7_isHidden cX7_isHidden 2 (some .boolean), Cond.methodLink RX7 186 yX7_isDragon, Cond.static yX7_isDragon, Cond.code yX7_isDragon cX7_isDragon 1 (some .boolean), Cond.methodLink RX7 201 yX7_bit, Cond.static yX7_bit, Cond.code yX7_bit cX7_bit 1 (some .long), Cond.methodLink RX7 205 yX7_twins, Cond.instanceMethod yX7_twins, Cond.selects RX7 yX7_twins yX7_twins, Cond.code yX7_twins cX7_twins 5 none, Cond.methodLink RX7 208 yX7_hasThree, Cond.instanceMethod yX7_hasThree, Cond.selects RX7 yX7_hasThree yX7_hasThree]
def wsX7_nobodyWins_r5 : List Cond := [Cond.code yX7_hasThree cX7_hasThree 4 (some .boolean), Cond.methodLink RX7 211 yX7_hasRun, Cond.instanceMethod yX7_hasRun, Cond.selects RX7 yX7_hasRun yX7_hasRun, Cond.code yX7_hasRun cX7_hasRun 4 (some .boolean), Cond.methodLink RX7 214 yX7_edges, Cond.instanceMethod yX7_edges, Cond.selects RX7 yX7_edges yX7_edges, Cond.code yX7_edges cX7_edges 9 none, Cond.methodLink RX7 144 yX7_isEnd, Cond.static yX7_isEnd, Cond.code yX7_isEnd cX7_isEnd 1 (some .boolean), Cond.methodLink RX7 106 yX7_isHonour, Cond.static yX7_isHonour, Cond.code yX7_isHonour cX7_isHonour 1 (some .boolean), Cond.methodLink RX7 110 yX7_isTerminal, Cond.static yX7_isTerminal, Cond.code yX7_isTerminal cX7_isTerminal 1 (some .boolean), Cond.methodLink RX7 217 yX7_tiles, Cond.instanceMethod yX7_tiles, Cond.selects RX7 yX7_tiles yX7_tiles, Cond.code yX7_tiles cX7_tiles 12 none, Cond.methodLink RX7 223 yX7_compare, Cond.instanceMethod yX7_compare]
def wsX7_nobodyWins_r6 : List Cond := [Cond.selects RX7 yX7_compare yX7_compare, Cond.code yX7_compare cX7_compare 7 none, Cond.fieldLink RX7 231 "TileHouseModel" "told" "J", Cond.fieldLink RX7 238 "TileHouseModel" "dear" "I", Cond.methodLink RX7 241 Lib.Math.min.name, Cond.static Lib.Math.min.name, Cond.initialized "java/lang/Math", Cond.code Lib.Math.min.name Lib.Math.min.code 2 (some .int), Cond.methodLink RX7 234 yX7_han, Cond.static yX7_han, Cond.code yX7_han cX7_han 2 (some .int), Cond.methodLink RX7 157 yX7_isRun, Cond.static yX7_isRun, Cond.code yX7_isRun cX7_isRun 1 (some .boolean), Cond.methodLink RX7 147 yX7_pairsWay, Cond.instanceMethod yX7_pairsWay, Cond.selects RX7 yX7_pairsWay yX7_pairsWay, Cond.code yX7_pairsWay cX7_pairsWay 1 none, Cond.methodLink RX7 150 yX7_thirteen, Cond.instanceMethod yX7_thirteen, Cond.selects RX7 yX7_thirteen yX7_thirteen, Cond.code yX7_thirteen cX7_thirteen 1 none, Cond.methodLink RX7 393 yX7_ends, Cond.instanceMethod yX7_ends]
def wsX7_nobodyWins_r7 : List Cond := [Cond.selects RX7 yX7_ends yX7_ends, Cond.code yX7_ends cX7_ends 7 none, Cond.fieldLink RX7 277 "TileHouseModel" "phase" "I", Cond.fieldLink RX7 74 "TileHouseModel" "tile" "I", Cond.fieldLink RX7 397 "TileHouseModel" "handsEnded" "I", Cond.fieldLink RX7 286 "TileHouseModel" "round" "I", Cond.fieldLink RX7 310 "TileHouseModel" "ended" "Z", Cond.fieldLink RX7 337 "TileHouseModel" "bets" "I", Cond.fieldLink RX7 384 "TileHouseModel" "stays" "I"]
def wsX7_nobodyWins : List Cond := .code yX7_nobodyWins cX7_nobodyWins 4 none :: ((wsX7_nobodyWins_r1 ++ (wsX7_nobodyWins_r2 ++ (wsX7_nobodyWins_r3 ++ (wsX7_nobodyWins_r4 ++ (wsX7_nobodyWins_r5 ++ (wsX7_nobodyWins_r6 ++ wsX7_nobodyWins_r7)))))) ++ wsX70)
def wsX7_pass_r1 : List Cond := [Cond.fieldLink RX7 103 "TileHouseModel" "thrown" "I", Cond.fieldLink RX7 277 "TileHouseModel" "phase" "I", Cond.fieldLink RX7 250 "TileHouseModel" "fours" "I", Cond.fieldLink RX7 304 "TileHouseModel" "turn" "I", Cond.methodLink RX7 340 yX7_anySays, Cond.instanceMethod yX7_anySays, Cond.selects RX7 yX7_anySays yX7_anySays, Cond.initialized RX7, Cond.code yX7_anySays cX7_anySays 1 (some .boolean), Cond.fieldLink RX7 71 "TileHouseModel" "says" "[Z", Cond.methodLink RX7 343 yX7_allWin, Cond.instanceMethod yX7_allWin, Cond.selects RX7 yX7_allWin yX7_allWin, Cond.code yX7_allWin cX7_allWin 5 none, Cond.fieldLink RX7 317 "TileHouseModel" "wins" "I", Cond.fieldLink RX7 74 "TileHouseModel" "tile" "I", Cond.fieldLink RX7 120 "TileHouseModel" "bestBase" "I", Cond.fieldLink RX7 265 "TileHouseModel" "dealer" "I", Cond.fieldLink RX7 384 "TileHouseModel" "stays" "I", Cond.methodLink RX7 373 yX7_value, Cond.instanceMethod yX7_value, Cond.selects RX7 yX7_value yX7_value, Cond.code yX7_value cX7_value 6 none, Cond.fieldLink RX7 9 "TileHouseModel" "in" "[I"]
def wsX7_pass_r2 : List Cond := [Cond.fieldLink RX7 58 "TileHouseModel" "bet" "[I", Cond.fieldLink RX7 64 "TileHouseModel" "atOnce" "[Z", Cond.fieldLink RX7 274 "TileHouseModel" "behindFour" "Z", Cond.fieldLink RX7 61 "TileHouseModel" "draws" "[I", Cond.fieldLink RX7 280 "TileHouseModel" "untouched" "Z", Cond.fieldLink RX7 286 "TileHouseModel" "round" "I", Cond.methodLink RX7 258 yX7_take, Cond.instanceMethod yX7_take, Cond.selects RX7 yX7_take yX7_take, Cond.code yX7_take cX7_take 3 none, Cond.fieldLink RX7 49 "TileHouseModel" "setMany" "[I", Cond.fieldLink RX7 137 "TileHouseModel" "laidMany" "I", Cond.fieldLink RX7 13 "TileHouseModel" "sorts" "[I", Cond.fieldLink RX7 43 "TileHouseModel" "setSort" "[I", Cond.fieldLink RX7 16 "TileHouseModel" "lows" "[I", Cond.fieldLink RX7 46 "TileHouseModel" "setKind" "[I", Cond.methodLink RX7 256 yX7_has_, Cond.instanceMethod yX7_has_, Cond.selects RX7 yX7_has_ yX7_has_, Cond.code yX7_has_ cX7_has_ 3 (some .int), Cond.fieldLink RX7 37 "TileHouseModel" "hands" "[I", Cond.methodLink RX7 201 yX7_bit, Cond.static yX7_bit, Cond.code yX7_bit cX7_bit 1 (some .long)]
def wsX7_pass_r3 : List Cond := [Cond.methodLink RX7 271 yX7_left, Cond.instanceMethod yX7_left, Cond.selects RX7 yX7_left yX7_left, Cond.code yX7_left cX7_left 1 (some .int), Cond.fieldLink RX7 253 "TileHouseModel" "next" "I", Cond.methodLink RX7 283 yX7_windOf, Cond.instanceMethod yX7_windOf, Cond.selects RX7 yX7_windOf yX7_windOf, Cond.code yX7_windOf cX7_windOf 2 (some .int), Cond.methodLink RX7 289 yX7_dearTiles, Cond.instanceMethod yX7_dearTiles, Cond.selects RX7 yX7_dearTiles yX7_dearTiles, Cond.code yX7_dearTiles cX7_dearTiles 4 (some .int), Cond.fieldLink RX7 31 "TileHouseModel" "whole" "[I", Cond.fieldLink RX7 34 "TileHouseModel" "wall" "[I", Cond.methodLink RX7 268 yX7_behind, Cond.static yX7_behind, Cond.code yX7_behind cX7_behind 1 (some .int), Cond.methodLink RX7 227 yX7_of, Cond.instanceMethod yX7_of, Cond.selects RX7 yX7_of yX7_of, Cond.code yX7_of cX7_of 4 (some .int), Cond.methodLink RX7 166 yX7_has, Cond.static yX7_has]
def wsX7_pass_r4 : List Cond := [Cond.code yX7_has cX7_has 3 (some .boolean), Cond.methodLink RX7 293 yX7_reckon, Cond.instanceMethod yX7_reckon, Cond.selects RX7 yX7_reckon yX7_reckon, Cond.code yX7_reckon cX7_reckon 9 none, Cond.fieldLink RX7 163 "TileHouseModel" "winner" "I", Cond.fieldLink RX7 176 "TileHouseModel" "drawn" "Z", Cond.fieldLink RX7 231 "TileHouseModel" "told" "J", Cond.fieldLink RX7 189 "TileHouseModel" "seatWind" "I", Cond.fieldLink RX7 192 "TileHouseModel" "roundWind" "I", Cond.fieldLink RX7 238 "TileHouseModel" "dear" "I", Cond.methodLink RX7 247 yX7_apart, Cond.instanceMethod yX7_apart, Cond.selects RX7 yX7_apart yX7_apart, Cond.code yX7_apart cX7_apart 6 none, Cond.fieldLink RX7 113 "TileHouseModel" "isFull" "Z", Cond.fieldLink RX7 117 "TileHouseModel" "ways" "I", Cond.fieldLink RX7 123 "TileHouseModel" "bestHan" "I", Cond.fieldLink RX7 126 "TileHouseModel" "bestFu" "I", Cond.fieldLink RX7 129 "TileHouseModel" "bestForms" "J", Cond.methodLink RX7 133 yX7_inHand, Cond.instanceMethod yX7_inHand, Cond.selects RX7 yX7_inHand yX7_inHand, Cond.code yX7_inHand cX7_inHand 3 (some .int)]
def wsX7_pass_r5 : List Cond := [Cond.methodLink RX7 140 yX7_sets, Cond.instanceMethod yX7_sets, Cond.selects RX7 yX7_sets yX7_sets, Cond.code yX7_sets cX7_sets 7 none, Cond.fieldLink RX7 19 "TileHouseModel" "waySort" "[I", Cond.fieldLink RX7 22 "TileHouseModel" "wayLow" "[I", Cond.methodLink RX7 153 yX7_way, Cond.instanceMethod yX7_way, Cond.selects RX7 yX7_way yX7_way, Cond.code yX7_way cX7_way 5 none, Cond.fieldLink RX7 160 "TileHouseModel" "pairKind" "I", Cond.fieldLink RX7 25 "TileHouseModel" "allSort" "[I", Cond.fieldLink RX7 28 "TileHouseModel" "allLow" "[I", Cond.fieldLink RX7 170 "TileHouseModel" "completes" "I", Cond.methodLink RX7 173 yX7_firstSort, Cond.instanceMethod yX7_firstSort, Cond.selects RX7 yX7_firstSort yX7_firstSort, Cond.code yX7_firstSort cX7_firstSort 14 none, Cond.fieldLink RX7 195 "TileHouseModel" "great" "J", Cond.fieldLink RX7 198 "TileHouseModel" "plain" "J", Cond.fieldLink RX7 220 "TileHouseModel" "fu" "I", Cond.methodLink RX7 179 yX7_isOpen, Cond.instanceMethod yX7_isOpen, Cond.selects RX7 yX7_isOpen yX7_isOpen]
def wsX7_pass_r6 : List Cond := [Cond.code yX7_isOpen cX7_isOpen 3 (some .boolean), Cond.methodLink RX7 183 yX7_isHidden, Cond.instanceMethod yX7_isHidden, Cond.selects RX7 yX7_isHidden yX7_isHidden, Cond.code yX7_isHidden cX7_isHidden 2 (some .boolean), Cond.methodLink RX7 186 yX7_isDragon, Cond.static yX7_isDragon, Cond.code yX7_isDragon cX7_isDragon 1 (some .boolean), Cond.methodLink RX7 205 yX7_twins, Cond.instanceMethod yX7_twins, Cond.selects RX7 yX7_twins yX7_twins, Cond.code yX7_twins cX7_twins 5 none, Cond.methodLink RX7 208 yX7_hasThree, Cond.instanceMethod yX7_hasThree, Cond.selects RX7 yX7_hasThree yX7_hasThree, Cond.code yX7_hasThree cX7_hasThree 4 (some .boolean), Cond.methodLink RX7 211 yX7_hasRun, Cond.instanceMethod yX7_hasRun, Cond.selects RX7 yX7_hasRun yX7_hasRun, Cond.code yX7_hasRun cX7_hasRun 4 (some .boolean), Cond.methodLink RX7 214 yX7_edges, Cond.instanceMethod yX7_edges, Cond.selects RX7 yX7_edges yX7_edges, Cond.code yX7_edges cX7_edges 9 none]
def wsX7_pass_r7 : List Cond := [Cond.methodLink RX7 144 yX7_isEnd, Cond.static yX7_isEnd, Cond.code yX7_isEnd cX7_isEnd 1 (some .boolean), Cond.methodLink RX7 106 yX7_isHonour, Cond.static yX7_isHonour, Cond.code yX7_isHonour cX7_isHonour 1 (some .boolean), Cond.methodLink RX7 110 yX7_isTerminal, Cond.static yX7_isTerminal, Cond.code yX7_isTerminal cX7_isTerminal 1 (some .boolean), Cond.methodLink RX7 217 yX7_tiles, Cond.instanceMethod yX7_tiles, Cond.selects RX7 yX7_tiles yX7_tiles, Cond.code yX7_tiles cX7_tiles 12 none, Cond.methodLink RX7 223 yX7_compare, Cond.instanceMethod yX7_compare, Cond.selects RX7 yX7_compare yX7_compare, Cond.code yX7_compare cX7_compare 7 none, Cond.methodLink RX7 241 Lib.Math.min.name, Cond.static Lib.Math.min.name, Cond.initialized "java/lang/Math", Cond.code Lib.Math.min.name Lib.Math.min.code 2 (some .int), Cond.methodLink RX7 234 yX7_han, Cond.static yX7_han, Cond.code yX7_han cX7_han 2 (some .int)]
def wsX7_pass_r8 : List Cond := [Cond.methodLink RX7 157 yX7_isRun, Cond.static yX7_isRun, Cond.code yX7_isRun cX7_isRun 1 (some .boolean), Cond.methodLink RX7 147 yX7_pairsWay, Cond.instanceMethod yX7_pairsWay, Cond.selects RX7 yX7_pairsWay yX7_pairsWay, Cond.code yX7_pairsWay cX7_pairsWay 1 none, Cond.methodLink RX7 150 yX7_thirteen, Cond.instanceMethod yX7_thirteen, Cond.selects RX7 yX7_thirteen yX7_thirteen, Cond.code yX7_thirteen cX7_thirteen 1 none, Cond.methodLink RX7 377 yX7_writes, Cond.instanceMethod yX7_writes, Cond.selects RX7 yX7_writes yX7_writes, Cond.code yX7_writes cX7_writes 5 none, Cond.fieldLink RX7 84 "TileHouseModel" "won" "[I", Cond.fieldLink RX7 87 "TileHouseModel" "wonForms" "[J", Cond.methodLink RX7 381 yX7_up, Cond.static yX7_up, Cond.code yX7_up cX7_up 1 (some .int), Cond.methodLink RX7 387 yX7_pays, Cond.instanceMethod yX7_pays, Cond.selects RX7 yX7_pays yX7_pays, Cond.code yX7_pays cX7_pays 4 none]
def wsX7_pass_r9 : List Cond := [Cond.fieldLink RX7 40 "TileHouseModel" "points" "[I", Cond.methodLink RX7 390 yX7_takesBets, Cond.instanceMethod yX7_takesBets, Cond.selects RX7 yX7_takesBets yX7_takesBets, Cond.code yX7_takesBets cX7_takesBets 2 none, Cond.fieldLink RX7 337 "TileHouseModel" "bets" "I", Cond.methodLink RX7 393 yX7_ends, Cond.instanceMethod yX7_ends, Cond.selects RX7 yX7_ends yX7_ends, Cond.code yX7_ends cX7_ends 7 none, Cond.fieldLink RX7 397 "TileHouseModel" "handsEnded" "I", Cond.fieldLink RX7 310 "TileHouseModel" "ended" "Z", Cond.methodLink RX7 346 yX7_over, Cond.instanceMethod yX7_over, Cond.selects RX7 yX7_over yX7_over, Cond.code yX7_over cX7_over 2 none, Cond.fieldLink RX7 320 "TileHouseModel" "betWaits" "Z", Cond.fieldLink RX7 68 "TileHouseModel" "letGo" "[Z", Cond.methodLink RX7 334 yX7_waitsAt, Cond.instanceMethod yX7_waitsAt, Cond.selects RX7 yX7_waitsAt yX7_waitsAt, Cond.code yX7_waitsAt cX7_waitsAt 2 (some .long), Cond.methodLink RX7 261 yX7_waitsOf, Cond.instanceMethod yX7_waitsOf]
def wsX7_pass_r10 : List Cond := [Cond.selects RX7 yX7_waitsOf yX7_waitsOf, Cond.code yX7_waitsOf cX7_waitsOf 5 (some .long), Cond.methodLink RX7 349 yX7_touched, Cond.instanceMethod yX7_touched, Cond.selects RX7 yX7_touched yX7_touched, Cond.code yX7_touched cX7_touched 2 none, Cond.methodLink RX7 326 yX7_draws, Cond.instanceMethod yX7_draws, Cond.selects RX7 yX7_draws yX7_draws, Cond.code yX7_draws cX7_draws 4 none, Cond.fieldLink RX7 297 "TileHouseModel" "backs" "I", Cond.fieldLink RX7 307 "TileHouseModel" "justClaimed" "Z", Cond.fieldLink RX7 78 "TileHouseModel" "banned" "I", Cond.fieldLink RX7 81 "TileHouseModel" "alsoBanned" "I", Cond.methodLink RX7 300 yX7_gives, Cond.instanceMethod yX7_gives, Cond.selects RX7 yX7_gives yX7_gives, Cond.code yX7_gives cX7_gives 4 none, Cond.methodLink RX7 352 yX7_nobodyWins, Cond.instanceMethod yX7_nobodyWins, Cond.selects RX7 yX7_nobodyWins yX7_nobodyWins, Cond.code yX7_nobodyWins cX7_nobodyWins 4 none, Cond.arrayClass .boolean]
def wsX7_pass : List Cond := .code yX7_pass cX7_pass 2 (some .boolean) :: ((wsX7_pass_r1 ++ (wsX7_pass_r2 ++ (wsX7_pass_r3 ++ (wsX7_pass_r4 ++ (wsX7_pass_r5 ++ (wsX7_pass_r6 ++ (wsX7_pass_r7 ++ (wsX7_pass_r8 ++ (wsX7_pass_r9 ++ wsX7_pass_r10))))))))) ++ wsX70)
def wsX7_mayClaim : List Cond := .code yX7_mayClaim cX7_mayClaim 2 (some .boolean) :: ([.fieldLink RX7 277 "TileHouseModel" "phase" "I", .fieldLink RX7 304 "TileHouseModel" "turn" "I", .fieldLink RX7 58 "TileHouseModel" "bet" "[I", .methodLink RX7 340 yX7_anySays, .instanceMethod yX7_anySays, .selects RX7 yX7_anySays yX7_anySays, .initialized RX7, .code yX7_anySays cX7_anySays 1 (some .boolean), .fieldLink RX7 71 "TileHouseModel" "says" "[Z", .methodLink RX7 271 yX7_left, .instanceMethod yX7_left, .selects RX7 yX7_left yX7_left, .code yX7_left cX7_left 1 (some .int), .fieldLink RX7 250 "TileHouseModel" "fours" "I", .fieldLink RX7 253 "TileHouseModel" "next" "I", .methodLink RX7 355 yX7_isSeat, .static yX7_isSeat, .code yX7_isSeat cX7_isSeat 1 (some .boolean)] ++ wsX70)
def wsX7_canDiscard : List Cond := .code yX7_canDiscard cX7_canDiscard 4 (some .boolean) :: ([.fieldLink RX7 78 "TileHouseModel" "banned" "I", .fieldLink RX7 81 "TileHouseModel" "alsoBanned" "I", .methodLink RX7 256 yX7_has_, .instanceMethod yX7_has_, .selects RX7 yX7_has_ yX7_has_, .initialized RX7, .code yX7_has_ cX7_has_ 3 (some .int), .fieldLink RX7 37 "TileHouseModel" "hands" "[I"] ++ wsX70)
def wsX7_lays : List Cond := .code yX7_lays cX7_lays 4 none :: ([.fieldLink RX7 43 "TileHouseModel" "setSort" "[I", .fieldLink RX7 49 "TileHouseModel" "setMany" "[I", .fieldLink RX7 46 "TileHouseModel" "setKind" "[I"] ++ wsX70)
def wsX7_claims : List Cond := .code yX7_claims cX7_claims 4 none :: ([.fieldLink RX7 304 "TileHouseModel" "turn" "I", .fieldLink RX7 277 "TileHouseModel" "phase" "I", .fieldLink RX7 74 "TileHouseModel" "tile" "I", .fieldLink RX7 307 "TileHouseModel" "justClaimed" "Z", .fieldLink RX7 274 "TileHouseModel" "behindFour" "Z", .methodLink RX7 358 yX7_lays, .instanceMethod yX7_lays, .selects RX7 yX7_lays yX7_lays, .initialized RX7, .code yX7_lays cX7_lays 4 none, .fieldLink RX7 43 "TileHouseModel" "setSort" "[I", .fieldLink RX7 49 "TileHouseModel" "setMany" "[I", .fieldLink RX7 46 "TileHouseModel" "setKind" "[I", .methodLink RX7 349 yX7_touched, .instanceMethod yX7_touched, .selects RX7 yX7_touched yX7_touched, .code yX7_touched cX7_touched 2 none, .fieldLink RX7 280 "TileHouseModel" "untouched" "Z", .fieldLink RX7 64 "TileHouseModel" "atOnce" "[Z"] ++ wsX70)
def wsX7_run_r1 : List Cond := [Cond.fieldLink RX7 103 "TileHouseModel" "thrown" "I", Cond.fieldLink RX7 304 "TileHouseModel" "turn" "I", Cond.fieldLink RX7 74 "TileHouseModel" "tile" "I", Cond.fieldLink RX7 78 "TileHouseModel" "banned" "I", Cond.fieldLink RX7 81 "TileHouseModel" "alsoBanned" "I", Cond.methodLink RX7 361 yX7_mayClaim, Cond.instanceMethod yX7_mayClaim, Cond.selects RX7 yX7_mayClaim yX7_mayClaim, Cond.initialized RX7, Cond.code yX7_mayClaim cX7_mayClaim 2 (some .boolean), Cond.fieldLink RX7 277 "TileHouseModel" "phase" "I", Cond.fieldLink RX7 58 "TileHouseModel" "bet" "[I", Cond.methodLink RX7 340 yX7_anySays, Cond.instanceMethod yX7_anySays, Cond.selects RX7 yX7_anySays yX7_anySays, Cond.code yX7_anySays cX7_anySays 1 (some .boolean), Cond.fieldLink RX7 71 "TileHouseModel" "says" "[Z", Cond.methodLink RX7 271 yX7_left, Cond.instanceMethod yX7_left, Cond.selects RX7 yX7_left yX7_left, Cond.code yX7_left cX7_left 1 (some .int), Cond.fieldLink RX7 250 "TileHouseModel" "fours" "I", Cond.fieldLink RX7 253 "TileHouseModel" "next" "I", Cond.methodLink RX7 355 yX7_isSeat]
def wsX7_run_r2 : List Cond := [Cond.static yX7_isSeat, Cond.code yX7_isSeat cX7_isSeat 1 (some .boolean), Cond.methodLink RX7 157 yX7_isRun, Cond.static yX7_isRun, Cond.code yX7_isRun cX7_isRun 1 (some .boolean), Cond.methodLink RX7 256 yX7_has_, Cond.instanceMethod yX7_has_, Cond.selects RX7 yX7_has_ yX7_has_, Cond.code yX7_has_ cX7_has_ 3 (some .int), Cond.fieldLink RX7 37 "TileHouseModel" "hands" "[I", Cond.methodLink RX7 300 yX7_gives, Cond.instanceMethod yX7_gives, Cond.selects RX7 yX7_gives yX7_gives, Cond.code yX7_gives cX7_gives 4 none, Cond.methodLink RX7 364 yX7_canDiscard, Cond.instanceMethod yX7_canDiscard, Cond.selects RX7 yX7_canDiscard yX7_canDiscard, Cond.code yX7_canDiscard cX7_canDiscard 4 (some .boolean), Cond.methodLink RX7 346 yX7_over, Cond.instanceMethod yX7_over, Cond.selects RX7 yX7_over yX7_over, Cond.code yX7_over cX7_over 2 none, Cond.fieldLink RX7 320 "TileHouseModel" "betWaits" "Z", Cond.fieldLink RX7 40 "TileHouseModel" "points" "[I"]
def wsX7_run_r3 : List Cond := [Cond.fieldLink RX7 337 "TileHouseModel" "bets" "I", Cond.fieldLink RX7 68 "TileHouseModel" "letGo" "[Z", Cond.methodLink RX7 334 yX7_waitsAt, Cond.instanceMethod yX7_waitsAt, Cond.selects RX7 yX7_waitsAt yX7_waitsAt, Cond.code yX7_waitsAt cX7_waitsAt 2 (some .long), Cond.methodLink RX7 258 yX7_take, Cond.instanceMethod yX7_take, Cond.selects RX7 yX7_take yX7_take, Cond.code yX7_take cX7_take 3 none, Cond.fieldLink RX7 9 "TileHouseModel" "in" "[I", Cond.fieldLink RX7 49 "TileHouseModel" "setMany" "[I", Cond.fieldLink RX7 137 "TileHouseModel" "laidMany" "I", Cond.fieldLink RX7 13 "TileHouseModel" "sorts" "[I", Cond.fieldLink RX7 43 "TileHouseModel" "setSort" "[I", Cond.fieldLink RX7 16 "TileHouseModel" "lows" "[I", Cond.fieldLink RX7 46 "TileHouseModel" "setKind" "[I", Cond.methodLink RX7 261 yX7_waitsOf, Cond.instanceMethod yX7_waitsOf, Cond.selects RX7 yX7_waitsOf yX7_waitsOf, Cond.code yX7_waitsOf cX7_waitsOf 5 (some .long), Cond.fieldLink RX7 31 "TileHouseModel" "whole" "[I", Cond.fieldLink RX7 113 "TileHouseModel" "isFull" "Z", Cond.methodLink RX7 133 yX7_inHand]
def wsX7_run_r4 : List Cond := [Cond.instanceMethod yX7_inHand, Cond.selects RX7 yX7_inHand yX7_inHand, Cond.code yX7_inHand cX7_inHand 3 (some .int), Cond.methodLink RX7 227 yX7_of, Cond.instanceMethod yX7_of, Cond.selects RX7 yX7_of yX7_of, Cond.code yX7_of cX7_of 4 (some .int), Cond.methodLink RX7 166 yX7_has, Cond.static yX7_has, Cond.code yX7_has cX7_has 3 (some .boolean), Cond.methodLink RX7 247 yX7_apart, Cond.instanceMethod yX7_apart, Cond.selects RX7 yX7_apart yX7_apart, Cond.code yX7_apart cX7_apart 6 none, Cond.fieldLink RX7 117 "TileHouseModel" "ways" "I", Cond.fieldLink RX7 120 "TileHouseModel" "bestBase" "I", Cond.fieldLink RX7 123 "TileHouseModel" "bestHan" "I", Cond.fieldLink RX7 126 "TileHouseModel" "bestFu" "I", Cond.fieldLink RX7 129 "TileHouseModel" "bestForms" "J", Cond.methodLink RX7 140 yX7_sets, Cond.instanceMethod yX7_sets, Cond.selects RX7 yX7_sets yX7_sets, Cond.code yX7_sets cX7_sets 7 none, Cond.fieldLink RX7 19 "TileHouseModel" "waySort" "[I"]
def wsX7_run_r5 : List Cond := [Cond.fieldLink RX7 22 "TileHouseModel" "wayLow" "[I", Cond.methodLink RX7 153 yX7_way, Cond.instanceMethod yX7_way, Cond.selects RX7 yX7_way yX7_way, Cond.code yX7_way cX7_way 5 none, Cond.fieldLink RX7 160 "TileHouseModel" "pairKind" "I", Cond.fieldLink RX7 25 "TileHouseModel" "allSort" "[I", Cond.fieldLink RX7 28 "TileHouseModel" "allLow" "[I", Cond.fieldLink RX7 163 "TileHouseModel" "winner" "I", Cond.fieldLink RX7 170 "TileHouseModel" "completes" "I", Cond.methodLink RX7 173 yX7_firstSort, Cond.instanceMethod yX7_firstSort, Cond.selects RX7 yX7_firstSort yX7_firstSort, Cond.code yX7_firstSort cX7_firstSort 14 none, Cond.fieldLink RX7 189 "TileHouseModel" "seatWind" "I", Cond.fieldLink RX7 192 "TileHouseModel" "roundWind" "I", Cond.fieldLink RX7 195 "TileHouseModel" "great" "J", Cond.fieldLink RX7 198 "TileHouseModel" "plain" "J", Cond.fieldLink RX7 176 "TileHouseModel" "drawn" "Z", Cond.fieldLink RX7 220 "TileHouseModel" "fu" "I", Cond.methodLink RX7 179 yX7_isOpen, Cond.instanceMethod yX7_isOpen, Cond.selects RX7 yX7_isOpen yX7_isOpen, Cond.code yX7_isOpen cX7_isOpen 3 (some .boolean)]
def wsX7_run_r6 : List Cond := [Cond.methodLink RX7 183 yX7_isHidden, Cond.instanceMethod yX7_isHidden, Cond.selects RX7 yX7_isHidden yX7_isHidden, Cond.code yX7_isHidden cX7_isHidden 2 (some .boolean), Cond.methodLink RX7 186 yX7_isDragon, Cond.static yX7_isDragon, Cond.code yX7_isDragon cX7_isDragon 1 (some .boolean), Cond.methodLink RX7 201 yX7_bit, Cond.static yX7_bit, Cond.code yX7_bit cX7_bit 1 (some .long), Cond.methodLink RX7 205 yX7_twins, Cond.instanceMethod yX7_twins, Cond.selects RX7 yX7_twins yX7_twins, Cond.code yX7_twins cX7_twins 5 none, Cond.methodLink RX7 208 yX7_hasThree, Cond.instanceMethod yX7_hasThree, Cond.selects RX7 yX7_hasThree yX7_hasThree, Cond.code yX7_hasThree cX7_hasThree 4 (some .boolean), Cond.methodLink RX7 211 yX7_hasRun, Cond.instanceMethod yX7_hasRun, Cond.selects RX7 yX7_hasRun yX7_hasRun, Cond.code yX7_hasRun cX7_hasRun 4 (some .boolean), Cond.methodLink RX7 214 yX7_edges, Cond.instanceMethod yX7_edges]
def wsX7_run_r7 : List Cond := [Cond.selects RX7 yX7_edges yX7_edges, Cond.code yX7_edges cX7_edges 9 none, Cond.methodLink RX7 144 yX7_isEnd, Cond.static yX7_isEnd, Cond.code yX7_isEnd cX7_isEnd 1 (some .boolean), Cond.methodLink RX7 106 yX7_isHonour, Cond.static yX7_isHonour, Cond.code yX7_isHonour cX7_isHonour 1 (some .boolean), Cond.methodLink RX7 110 yX7_isTerminal, Cond.static yX7_isTerminal, Cond.code yX7_isTerminal cX7_isTerminal 1 (some .boolean), Cond.methodLink RX7 217 yX7_tiles, Cond.instanceMethod yX7_tiles, Cond.selects RX7 yX7_tiles yX7_tiles, Cond.code yX7_tiles cX7_tiles 12 none, Cond.methodLink RX7 223 yX7_compare, Cond.instanceMethod yX7_compare, Cond.selects RX7 yX7_compare yX7_compare, Cond.code yX7_compare cX7_compare 7 none, Cond.fieldLink RX7 231 "TileHouseModel" "told" "J", Cond.fieldLink RX7 238 "TileHouseModel" "dear" "I", Cond.methodLink RX7 241 Lib.Math.min.name, Cond.static Lib.Math.min.name, Cond.initialized "java/lang/Math"]
def wsX7_run_r8 : List Cond := [Cond.code Lib.Math.min.name Lib.Math.min.code 2 (some .int), Cond.methodLink RX7 234 yX7_han, Cond.static yX7_han, Cond.code yX7_han cX7_han 2 (some .int), Cond.methodLink RX7 147 yX7_pairsWay, Cond.instanceMethod yX7_pairsWay, Cond.selects RX7 yX7_pairsWay yX7_pairsWay, Cond.code yX7_pairsWay cX7_pairsWay 1 none, Cond.methodLink RX7 150 yX7_thirteen, Cond.instanceMethod yX7_thirteen, Cond.selects RX7 yX7_thirteen yX7_thirteen, Cond.code yX7_thirteen cX7_thirteen 1 none, Cond.methodLink RX7 367 yX7_claims, Cond.instanceMethod yX7_claims, Cond.selects RX7 yX7_claims yX7_claims, Cond.code yX7_claims cX7_claims 4 none, Cond.fieldLink RX7 307 "TileHouseModel" "justClaimed" "Z", Cond.fieldLink RX7 274 "TileHouseModel" "behindFour" "Z", Cond.methodLink RX7 358 yX7_lays, Cond.instanceMethod yX7_lays, Cond.selects RX7 yX7_lays yX7_lays, Cond.code yX7_lays cX7_lays 4 none, Cond.methodLink RX7 349 yX7_touched, Cond.instanceMethod yX7_touched]
def wsX7_run_r9 : List Cond := [Cond.selects RX7 yX7_touched yX7_touched, Cond.code yX7_touched cX7_touched 2 none, Cond.fieldLink RX7 280 "TileHouseModel" "untouched" "Z", Cond.fieldLink RX7 64 "TileHouseModel" "atOnce" "[Z"]
def wsX7_run : List Cond := .code yX7_run cX7_run 5 (some .boolean) :: ((wsX7_run_r1 ++ (wsX7_run_r2 ++ (wsX7_run_r3 ++ (wsX7_run_r4 ++ (wsX7_run_r5 ++ (wsX7_run_r6 ++ (wsX7_run_r7 ++ (wsX7_run_r8 ++ wsX7_run_r9)))))))) ++ wsX70)
def wsX7_three_r1 : List Cond := [Cond.fieldLink RX7 103 "TileHouseModel" "thrown" "I", Cond.fieldLink RX7 74 "TileHouseModel" "tile" "I", Cond.fieldLink RX7 78 "TileHouseModel" "banned" "I", Cond.fieldLink RX7 81 "TileHouseModel" "alsoBanned" "I", Cond.methodLink RX7 361 yX7_mayClaim, Cond.instanceMethod yX7_mayClaim, Cond.selects RX7 yX7_mayClaim yX7_mayClaim, Cond.initialized RX7, Cond.code yX7_mayClaim cX7_mayClaim 2 (some .boolean), Cond.fieldLink RX7 277 "TileHouseModel" "phase" "I", Cond.fieldLink RX7 304 "TileHouseModel" "turn" "I", Cond.fieldLink RX7 58 "TileHouseModel" "bet" "[I", Cond.methodLink RX7 340 yX7_anySays, Cond.instanceMethod yX7_anySays, Cond.selects RX7 yX7_anySays yX7_anySays, Cond.code yX7_anySays cX7_anySays 1 (some .boolean), Cond.fieldLink RX7 71 "TileHouseModel" "says" "[Z", Cond.methodLink RX7 271 yX7_left, Cond.instanceMethod yX7_left, Cond.selects RX7 yX7_left yX7_left, Cond.code yX7_left cX7_left 1 (some .int), Cond.fieldLink RX7 250 "TileHouseModel" "fours" "I", Cond.fieldLink RX7 253 "TileHouseModel" "next" "I", Cond.methodLink RX7 355 yX7_isSeat]
def wsX7_three_r2 : List Cond := [Cond.static yX7_isSeat, Cond.code yX7_isSeat cX7_isSeat 1 (some .boolean), Cond.methodLink RX7 256 yX7_has_, Cond.instanceMethod yX7_has_, Cond.selects RX7 yX7_has_ yX7_has_, Cond.code yX7_has_ cX7_has_ 3 (some .int), Cond.fieldLink RX7 37 "TileHouseModel" "hands" "[I", Cond.methodLink RX7 300 yX7_gives, Cond.instanceMethod yX7_gives, Cond.selects RX7 yX7_gives yX7_gives, Cond.code yX7_gives cX7_gives 4 none, Cond.methodLink RX7 364 yX7_canDiscard, Cond.instanceMethod yX7_canDiscard, Cond.selects RX7 yX7_canDiscard yX7_canDiscard, Cond.code yX7_canDiscard cX7_canDiscard 4 (some .boolean), Cond.methodLink RX7 346 yX7_over, Cond.instanceMethod yX7_over, Cond.selects RX7 yX7_over yX7_over, Cond.code yX7_over cX7_over 2 none, Cond.fieldLink RX7 320 "TileHouseModel" "betWaits" "Z", Cond.fieldLink RX7 40 "TileHouseModel" "points" "[I", Cond.fieldLink RX7 337 "TileHouseModel" "bets" "I", Cond.fieldLink RX7 68 "TileHouseModel" "letGo" "[Z", Cond.methodLink RX7 334 yX7_waitsAt]
def wsX7_three_r3 : List Cond := [Cond.instanceMethod yX7_waitsAt, Cond.selects RX7 yX7_waitsAt yX7_waitsAt, Cond.code yX7_waitsAt cX7_waitsAt 2 (some .long), Cond.methodLink RX7 258 yX7_take, Cond.instanceMethod yX7_take, Cond.selects RX7 yX7_take yX7_take, Cond.code yX7_take cX7_take 3 none, Cond.fieldLink RX7 9 "TileHouseModel" "in" "[I", Cond.fieldLink RX7 49 "TileHouseModel" "setMany" "[I", Cond.fieldLink RX7 137 "TileHouseModel" "laidMany" "I", Cond.fieldLink RX7 13 "TileHouseModel" "sorts" "[I", Cond.fieldLink RX7 43 "TileHouseModel" "setSort" "[I", Cond.fieldLink RX7 16 "TileHouseModel" "lows" "[I", Cond.fieldLink RX7 46 "TileHouseModel" "setKind" "[I", Cond.methodLink RX7 261 yX7_waitsOf, Cond.instanceMethod yX7_waitsOf, Cond.selects RX7 yX7_waitsOf yX7_waitsOf, Cond.code yX7_waitsOf cX7_waitsOf 5 (some .long), Cond.fieldLink RX7 31 "TileHouseModel" "whole" "[I", Cond.fieldLink RX7 113 "TileHouseModel" "isFull" "Z", Cond.methodLink RX7 133 yX7_inHand, Cond.instanceMethod yX7_inHand, Cond.selects RX7 yX7_inHand yX7_inHand, Cond.code yX7_inHand cX7_inHand 3 (some .int)]
def wsX7_three_r4 : List Cond := [Cond.methodLink RX7 227 yX7_of, Cond.instanceMethod yX7_of, Cond.selects RX7 yX7_of yX7_of, Cond.code yX7_of cX7_of 4 (some .int), Cond.methodLink RX7 166 yX7_has, Cond.static yX7_has, Cond.code yX7_has cX7_has 3 (some .boolean), Cond.methodLink RX7 247 yX7_apart, Cond.instanceMethod yX7_apart, Cond.selects RX7 yX7_apart yX7_apart, Cond.code yX7_apart cX7_apart 6 none, Cond.fieldLink RX7 117 "TileHouseModel" "ways" "I", Cond.fieldLink RX7 120 "TileHouseModel" "bestBase" "I", Cond.fieldLink RX7 123 "TileHouseModel" "bestHan" "I", Cond.fieldLink RX7 126 "TileHouseModel" "bestFu" "I", Cond.fieldLink RX7 129 "TileHouseModel" "bestForms" "J", Cond.methodLink RX7 140 yX7_sets, Cond.instanceMethod yX7_sets, Cond.selects RX7 yX7_sets yX7_sets, Cond.code yX7_sets cX7_sets 7 none, Cond.fieldLink RX7 19 "TileHouseModel" "waySort" "[I", Cond.fieldLink RX7 22 "TileHouseModel" "wayLow" "[I", Cond.methodLink RX7 153 yX7_way, Cond.instanceMethod yX7_way]
def wsX7_three_r5 : List Cond := [Cond.selects RX7 yX7_way yX7_way, Cond.code yX7_way cX7_way 5 none, Cond.fieldLink RX7 160 "TileHouseModel" "pairKind" "I", Cond.fieldLink RX7 25 "TileHouseModel" "allSort" "[I", Cond.fieldLink RX7 28 "TileHouseModel" "allLow" "[I", Cond.fieldLink RX7 163 "TileHouseModel" "winner" "I", Cond.fieldLink RX7 170 "TileHouseModel" "completes" "I", Cond.methodLink RX7 173 yX7_firstSort, Cond.instanceMethod yX7_firstSort, Cond.selects RX7 yX7_firstSort yX7_firstSort, Cond.code yX7_firstSort cX7_firstSort 14 none, Cond.fieldLink RX7 189 "TileHouseModel" "seatWind" "I", Cond.fieldLink RX7 192 "TileHouseModel" "roundWind" "I", Cond.fieldLink RX7 195 "TileHouseModel" "great" "J", Cond.fieldLink RX7 198 "TileHouseModel" "plain" "J", Cond.fieldLink RX7 176 "TileHouseModel" "drawn" "Z", Cond.fieldLink RX7 220 "TileHouseModel" "fu" "I", Cond.methodLink RX7 179 yX7_isOpen, Cond.instanceMethod yX7_isOpen, Cond.selects RX7 yX7_isOpen yX7_isOpen, Cond.code yX7_isOpen cX7_isOpen 3 (some .boolean), Cond.methodLink RX7 183 yX7_isHidden, Cond.instanceMethod yX7_isHidden, Cond.selects RX7 yX7_isHidden yX7_isHidden]
def wsX7_three_r6 : List Cond := [Cond.code yX7_isHidden cX7_isHidden 2 (some .boolean), Cond.methodLink RX7 186 yX7_isDragon, Cond.static yX7_isDragon, Cond.code yX7_isDragon cX7_isDragon 1 (some .boolean), Cond.methodLink RX7 201 yX7_bit, Cond.static yX7_bit, Cond.code yX7_bit cX7_bit 1 (some .long), Cond.methodLink RX7 205 yX7_twins, Cond.instanceMethod yX7_twins, Cond.selects RX7 yX7_twins yX7_twins, Cond.code yX7_twins cX7_twins 5 none, Cond.methodLink RX7 208 yX7_hasThree, Cond.instanceMethod yX7_hasThree, Cond.selects RX7 yX7_hasThree yX7_hasThree, Cond.code yX7_hasThree cX7_hasThree 4 (some .boolean), Cond.methodLink RX7 211 yX7_hasRun, Cond.instanceMethod yX7_hasRun, Cond.selects RX7 yX7_hasRun yX7_hasRun, Cond.code yX7_hasRun cX7_hasRun 4 (some .boolean), Cond.methodLink RX7 214 yX7_edges, Cond.instanceMethod yX7_edges, Cond.selects RX7 yX7_edges yX7_edges, Cond.code yX7_edges cX7_edges 9 none, Cond.methodLink RX7 144 yX7_isEnd]
def wsX7_three_r7 : List Cond := [Cond.static yX7_isEnd, Cond.code yX7_isEnd cX7_isEnd 1 (some .boolean), Cond.methodLink RX7 106 yX7_isHonour, Cond.static yX7_isHonour, Cond.code yX7_isHonour cX7_isHonour 1 (some .boolean), Cond.methodLink RX7 110 yX7_isTerminal, Cond.static yX7_isTerminal, Cond.code yX7_isTerminal cX7_isTerminal 1 (some .boolean), Cond.methodLink RX7 217 yX7_tiles, Cond.instanceMethod yX7_tiles, Cond.selects RX7 yX7_tiles yX7_tiles, Cond.code yX7_tiles cX7_tiles 12 none, Cond.methodLink RX7 223 yX7_compare, Cond.instanceMethod yX7_compare, Cond.selects RX7 yX7_compare yX7_compare, Cond.code yX7_compare cX7_compare 7 none, Cond.fieldLink RX7 231 "TileHouseModel" "told" "J", Cond.fieldLink RX7 238 "TileHouseModel" "dear" "I", Cond.methodLink RX7 241 Lib.Math.min.name, Cond.static Lib.Math.min.name, Cond.initialized "java/lang/Math", Cond.code Lib.Math.min.name Lib.Math.min.code 2 (some .int), Cond.methodLink RX7 234 yX7_han, Cond.static yX7_han]
def wsX7_three_r8 : List Cond := [Cond.code yX7_han cX7_han 2 (some .int), Cond.methodLink RX7 157 yX7_isRun, Cond.static yX7_isRun, Cond.code yX7_isRun cX7_isRun 1 (some .boolean), Cond.methodLink RX7 147 yX7_pairsWay, Cond.instanceMethod yX7_pairsWay, Cond.selects RX7 yX7_pairsWay yX7_pairsWay, Cond.code yX7_pairsWay cX7_pairsWay 1 none, Cond.methodLink RX7 150 yX7_thirteen, Cond.instanceMethod yX7_thirteen, Cond.selects RX7 yX7_thirteen yX7_thirteen, Cond.code yX7_thirteen cX7_thirteen 1 none, Cond.methodLink RX7 367 yX7_claims, Cond.instanceMethod yX7_claims, Cond.selects RX7 yX7_claims yX7_claims, Cond.code yX7_claims cX7_claims 4 none, Cond.fieldLink RX7 307 "TileHouseModel" "justClaimed" "Z", Cond.fieldLink RX7 274 "TileHouseModel" "behindFour" "Z", Cond.methodLink RX7 358 yX7_lays, Cond.instanceMethod yX7_lays, Cond.selects RX7 yX7_lays yX7_lays, Cond.code yX7_lays cX7_lays 4 none, Cond.methodLink RX7 349 yX7_touched, Cond.instanceMethod yX7_touched]
def wsX7_three_r9 : List Cond := [Cond.selects RX7 yX7_touched yX7_touched, Cond.code yX7_touched cX7_touched 2 none, Cond.fieldLink RX7 280 "TileHouseModel" "untouched" "Z", Cond.fieldLink RX7 64 "TileHouseModel" "atOnce" "[Z"]
def wsX7_three : List Cond := .code yX7_three cX7_three 3 (some .boolean) :: ((wsX7_three_r1 ++ (wsX7_three_r2 ++ (wsX7_three_r3 ++ (wsX7_three_r4 ++ (wsX7_three_r5 ++ (wsX7_three_r6 ++ (wsX7_three_r7 ++ (wsX7_three_r8 ++ wsX7_three_r9)))))))) ++ wsX70)
def wsX7_four_r1 : List Cond := [Cond.fieldLink RX7 103 "TileHouseModel" "thrown" "I", Cond.fieldLink RX7 74 "TileHouseModel" "tile" "I", Cond.fieldLink RX7 250 "TileHouseModel" "fours" "I", Cond.methodLink RX7 361 yX7_mayClaim, Cond.instanceMethod yX7_mayClaim, Cond.selects RX7 yX7_mayClaim yX7_mayClaim, Cond.initialized RX7, Cond.code yX7_mayClaim cX7_mayClaim 2 (some .boolean), Cond.fieldLink RX7 277 "TileHouseModel" "phase" "I", Cond.fieldLink RX7 304 "TileHouseModel" "turn" "I", Cond.fieldLink RX7 58 "TileHouseModel" "bet" "[I", Cond.methodLink RX7 340 yX7_anySays, Cond.instanceMethod yX7_anySays, Cond.selects RX7 yX7_anySays yX7_anySays, Cond.code yX7_anySays cX7_anySays 1 (some .boolean), Cond.fieldLink RX7 71 "TileHouseModel" "says" "[Z", Cond.methodLink RX7 271 yX7_left, Cond.instanceMethod yX7_left, Cond.selects RX7 yX7_left yX7_left, Cond.code yX7_left cX7_left 1 (some .int), Cond.fieldLink RX7 253 "TileHouseModel" "next" "I", Cond.methodLink RX7 355 yX7_isSeat, Cond.static yX7_isSeat, Cond.code yX7_isSeat cX7_isSeat 1 (some .boolean)]
def wsX7_four_r2 : List Cond := [Cond.methodLink RX7 256 yX7_has_, Cond.instanceMethod yX7_has_, Cond.selects RX7 yX7_has_ yX7_has_, Cond.code yX7_has_ cX7_has_ 3 (some .int), Cond.fieldLink RX7 37 "TileHouseModel" "hands" "[I", Cond.methodLink RX7 346 yX7_over, Cond.instanceMethod yX7_over, Cond.selects RX7 yX7_over yX7_over, Cond.code yX7_over cX7_over 2 none, Cond.fieldLink RX7 320 "TileHouseModel" "betWaits" "Z", Cond.fieldLink RX7 40 "TileHouseModel" "points" "[I", Cond.fieldLink RX7 337 "TileHouseModel" "bets" "I", Cond.fieldLink RX7 68 "TileHouseModel" "letGo" "[Z", Cond.methodLink RX7 334 yX7_waitsAt, Cond.instanceMethod yX7_waitsAt, Cond.selects RX7 yX7_waitsAt yX7_waitsAt, Cond.code yX7_waitsAt cX7_waitsAt 2 (some .long), Cond.methodLink RX7 258 yX7_take, Cond.instanceMethod yX7_take, Cond.selects RX7 yX7_take yX7_take, Cond.code yX7_take cX7_take 3 none, Cond.fieldLink RX7 9 "TileHouseModel" "in" "[I", Cond.fieldLink RX7 49 "TileHouseModel" "setMany" "[I", Cond.fieldLink RX7 137 "TileHouseModel" "laidMany" "I"]
def wsX7_four_r3 : List Cond := [Cond.fieldLink RX7 13 "TileHouseModel" "sorts" "[I", Cond.fieldLink RX7 43 "TileHouseModel" "setSort" "[I", Cond.fieldLink RX7 16 "TileHouseModel" "lows" "[I", Cond.fieldLink RX7 46 "TileHouseModel" "setKind" "[I", Cond.methodLink RX7 261 yX7_waitsOf, Cond.instanceMethod yX7_waitsOf, Cond.selects RX7 yX7_waitsOf yX7_waitsOf, Cond.code yX7_waitsOf cX7_waitsOf 5 (some .long), Cond.fieldLink RX7 31 "TileHouseModel" "whole" "[I", Cond.fieldLink RX7 113 "TileHouseModel" "isFull" "Z", Cond.methodLink RX7 133 yX7_inHand, Cond.instanceMethod yX7_inHand, Cond.selects RX7 yX7_inHand yX7_inHand, Cond.code yX7_inHand cX7_inHand 3 (some .int), Cond.methodLink RX7 227 yX7_of, Cond.instanceMethod yX7_of, Cond.selects RX7 yX7_of yX7_of, Cond.code yX7_of cX7_of 4 (some .int), Cond.methodLink RX7 166 yX7_has, Cond.static yX7_has, Cond.code yX7_has cX7_has 3 (some .boolean), Cond.methodLink RX7 247 yX7_apart, Cond.instanceMethod yX7_apart, Cond.selects RX7 yX7_apart yX7_apart]
def wsX7_four_r4 : List Cond := [Cond.code yX7_apart cX7_apart 6 none, Cond.fieldLink RX7 117 "TileHouseModel" "ways" "I", Cond.fieldLink RX7 120 "TileHouseModel" "bestBase" "I", Cond.fieldLink RX7 123 "TileHouseModel" "bestHan" "I", Cond.fieldLink RX7 126 "TileHouseModel" "bestFu" "I", Cond.fieldLink RX7 129 "TileHouseModel" "bestForms" "J", Cond.methodLink RX7 140 yX7_sets, Cond.instanceMethod yX7_sets, Cond.selects RX7 yX7_sets yX7_sets, Cond.code yX7_sets cX7_sets 7 none, Cond.fieldLink RX7 19 "TileHouseModel" "waySort" "[I", Cond.fieldLink RX7 22 "TileHouseModel" "wayLow" "[I", Cond.methodLink RX7 153 yX7_way, Cond.instanceMethod yX7_way, Cond.selects RX7 yX7_way yX7_way, Cond.code yX7_way cX7_way 5 none, Cond.fieldLink RX7 160 "TileHouseModel" "pairKind" "I", Cond.fieldLink RX7 25 "TileHouseModel" "allSort" "[I", Cond.fieldLink RX7 28 "TileHouseModel" "allLow" "[I", Cond.fieldLink RX7 163 "TileHouseModel" "winner" "I", Cond.fieldLink RX7 170 "TileHouseModel" "completes" "I", Cond.methodLink RX7 173 yX7_firstSort, Cond.instanceMethod yX7_firstSort, Cond.selects RX7 yX7_firstSort yX7_firstSort]
def wsX7_four_r5 : List Cond := [Cond.code yX7_firstSort cX7_firstSort 14 none, Cond.fieldLink RX7 189 "TileHouseModel" "seatWind" "I", Cond.fieldLink RX7 192 "TileHouseModel" "roundWind" "I", Cond.fieldLink RX7 195 "TileHouseModel" "great" "J", Cond.fieldLink RX7 198 "TileHouseModel" "plain" "J", Cond.fieldLink RX7 176 "TileHouseModel" "drawn" "Z", Cond.fieldLink RX7 220 "TileHouseModel" "fu" "I", Cond.methodLink RX7 179 yX7_isOpen, Cond.instanceMethod yX7_isOpen, Cond.selects RX7 yX7_isOpen yX7_isOpen, Cond.code yX7_isOpen cX7_isOpen 3 (some .boolean), Cond.methodLink RX7 183 yX7_isHidden, Cond.instanceMethod yX7_isHidden, Cond.selects RX7 yX7_isHidden yX7_isHidden, Cond.code yX7_isHidden cX7_isHidden 2 (some .boolean), Cond.methodLink RX7 186 yX7_isDragon, Cond.static yX7_isDragon, Cond.code yX7_isDragon cX7_isDragon 1 (some .boolean), Cond.methodLink RX7 201 yX7_bit, Cond.static yX7_bit, Cond.code yX7_bit cX7_bit 1 (some .long), Cond.methodLink RX7 205 yX7_twins, Cond.instanceMethod yX7_twins, Cond.selects RX7 yX7_twins yX7_twins]
def wsX7_four_r6 : List Cond := [Cond.code yX7_twins cX7_twins 5 none, Cond.methodLink RX7 208 yX7_hasThree, Cond.instanceMethod yX7_hasThree, Cond.selects RX7 yX7_hasThree yX7_hasThree, Cond.code yX7_hasThree cX7_hasThree 4 (some .boolean), Cond.methodLink RX7 211 yX7_hasRun, Cond.instanceMethod yX7_hasRun, Cond.selects RX7 yX7_hasRun yX7_hasRun, Cond.code yX7_hasRun cX7_hasRun 4 (some .boolean), Cond.methodLink RX7 214 yX7_edges, Cond.instanceMethod yX7_edges, Cond.selects RX7 yX7_edges yX7_edges, Cond.code yX7_edges cX7_edges 9 none, Cond.methodLink RX7 144 yX7_isEnd, Cond.static yX7_isEnd, Cond.code yX7_isEnd cX7_isEnd 1 (some .boolean), Cond.methodLink RX7 106 yX7_isHonour, Cond.static yX7_isHonour, Cond.code yX7_isHonour cX7_isHonour 1 (some .boolean), Cond.methodLink RX7 110 yX7_isTerminal, Cond.static yX7_isTerminal, Cond.code yX7_isTerminal cX7_isTerminal 1 (some .boolean), Cond.methodLink RX7 217 yX7_tiles, Cond.instanceMethod yX7_tiles]
def wsX7_four_r7 : List Cond := [Cond.selects RX7 yX7_tiles yX7_tiles, Cond.code yX7_tiles cX7_tiles 12 none, Cond.methodLink RX7 223 yX7_compare, Cond.instanceMethod yX7_compare, Cond.selects RX7 yX7_compare yX7_compare, Cond.code yX7_compare cX7_compare 7 none, Cond.fieldLink RX7 231 "TileHouseModel" "told" "J", Cond.fieldLink RX7 238 "TileHouseModel" "dear" "I", Cond.methodLink RX7 241 Lib.Math.min.name, Cond.static Lib.Math.min.name, Cond.initialized "java/lang/Math", Cond.code Lib.Math.min.name Lib.Math.min.code 2 (some .int), Cond.methodLink RX7 234 yX7_han, Cond.static yX7_han, Cond.code yX7_han cX7_han 2 (some .int), Cond.methodLink RX7 157 yX7_isRun, Cond.static yX7_isRun, Cond.code yX7_isRun cX7_isRun 1 (some .boolean), Cond.methodLink RX7 147 yX7_pairsWay, Cond.instanceMethod yX7_pairsWay, Cond.selects RX7 yX7_pairsWay yX7_pairsWay, Cond.code yX7_pairsWay cX7_pairsWay 1 none, Cond.methodLink RX7 150 yX7_thirteen, Cond.instanceMethod yX7_thirteen]
def wsX7_four_r8 : List Cond := [Cond.selects RX7 yX7_thirteen yX7_thirteen, Cond.code yX7_thirteen cX7_thirteen 1 none, Cond.methodLink RX7 300 yX7_gives, Cond.instanceMethod yX7_gives, Cond.selects RX7 yX7_gives yX7_gives, Cond.code yX7_gives cX7_gives 4 none, Cond.methodLink RX7 358 yX7_lays, Cond.instanceMethod yX7_lays, Cond.selects RX7 yX7_lays yX7_lays, Cond.code yX7_lays cX7_lays 4 none, Cond.methodLink RX7 349 yX7_touched, Cond.instanceMethod yX7_touched, Cond.selects RX7 yX7_touched yX7_touched, Cond.code yX7_touched cX7_touched 2 none, Cond.fieldLink RX7 280 "TileHouseModel" "untouched" "Z", Cond.fieldLink RX7 64 "TileHouseModel" "atOnce" "[Z", Cond.methodLink RX7 326 yX7_draws, Cond.instanceMethod yX7_draws, Cond.selects RX7 yX7_draws yX7_draws, Cond.code yX7_draws cX7_draws 4 none, Cond.fieldLink RX7 297 "TileHouseModel" "backs" "I", Cond.fieldLink RX7 34 "TileHouseModel" "wall" "[I", Cond.fieldLink RX7 61 "TileHouseModel" "draws" "[I", Cond.fieldLink RX7 307 "TileHouseModel" "justClaimed" "Z"]
def wsX7_four_r9 : List Cond := [Cond.fieldLink RX7 274 "TileHouseModel" "behindFour" "Z", Cond.fieldLink RX7 78 "TileHouseModel" "banned" "I", Cond.fieldLink RX7 81 "TileHouseModel" "alsoBanned" "I"]
def wsX7_four : List Cond := .code yX7_four cX7_four 2 (some .boolean) :: ((wsX7_four_r1 ++ (wsX7_four_r2 ++ (wsX7_four_r3 ++ (wsX7_four_r4 ++ (wsX7_four_r5 ++ (wsX7_four_r6 ++ (wsX7_four_r7 ++ (wsX7_four_r8 ++ wsX7_four_r9)))))))) ++ wsX70)
def wsX7_mayMake : List Cond := .code yX7_mayMake cX7_mayMake 1 (some .boolean) :: ([.fieldLink RX7 277 "TileHouseModel" "phase" "I", .fieldLink RX7 307 "TileHouseModel" "justClaimed" "Z", .fieldLink RX7 58 "TileHouseModel" "bet" "[I", .fieldLink RX7 304 "TileHouseModel" "turn" "I", .fieldLink RX7 250 "TileHouseModel" "fours" "I", .methodLink RX7 271 yX7_left, .instanceMethod yX7_left, .selects RX7 yX7_left yX7_left, .initialized RX7, .code yX7_left cX7_left 1 (some .int), .fieldLink RX7 253 "TileHouseModel" "next" "I"] ++ wsX70)
def wsX7_hide_r1 : List Cond := [Cond.fieldLink RX7 103 "TileHouseModel" "thrown" "I", Cond.fieldLink RX7 304 "TileHouseModel" "turn" "I", Cond.fieldLink RX7 250 "TileHouseModel" "fours" "I", Cond.methodLink RX7 370 yX7_mayMake, Cond.instanceMethod yX7_mayMake, Cond.selects RX7 yX7_mayMake yX7_mayMake, Cond.initialized RX7, Cond.code yX7_mayMake cX7_mayMake 1 (some .boolean), Cond.fieldLink RX7 277 "TileHouseModel" "phase" "I", Cond.fieldLink RX7 307 "TileHouseModel" "justClaimed" "Z", Cond.fieldLink RX7 58 "TileHouseModel" "bet" "[I", Cond.methodLink RX7 271 yX7_left, Cond.instanceMethod yX7_left, Cond.selects RX7 yX7_left yX7_left, Cond.code yX7_left cX7_left 1 (some .int), Cond.fieldLink RX7 253 "TileHouseModel" "next" "I", Cond.methodLink RX7 329 yX7_isKind, Cond.static yX7_isKind, Cond.code yX7_isKind cX7_isKind 1 (some .boolean), Cond.methodLink RX7 256 yX7_has_, Cond.instanceMethod yX7_has_, Cond.selects RX7 yX7_has_ yX7_has_, Cond.code yX7_has_ cX7_has_ 3 (some .int), Cond.fieldLink RX7 37 "TileHouseModel" "hands" "[I"]
def wsX7_hide_r2 : List Cond := [Cond.methodLink RX7 300 yX7_gives, Cond.instanceMethod yX7_gives, Cond.selects RX7 yX7_gives yX7_gives, Cond.code yX7_gives cX7_gives 4 none, Cond.methodLink RX7 358 yX7_lays, Cond.instanceMethod yX7_lays, Cond.selects RX7 yX7_lays yX7_lays, Cond.code yX7_lays cX7_lays 4 none, Cond.fieldLink RX7 43 "TileHouseModel" "setSort" "[I", Cond.fieldLink RX7 49 "TileHouseModel" "setMany" "[I", Cond.fieldLink RX7 46 "TileHouseModel" "setKind" "[I", Cond.methodLink RX7 349 yX7_touched, Cond.instanceMethod yX7_touched, Cond.selects RX7 yX7_touched yX7_touched, Cond.code yX7_touched cX7_touched 2 none, Cond.fieldLink RX7 280 "TileHouseModel" "untouched" "Z", Cond.fieldLink RX7 64 "TileHouseModel" "atOnce" "[Z", Cond.methodLink RX7 326 yX7_draws, Cond.instanceMethod yX7_draws, Cond.selects RX7 yX7_draws yX7_draws, Cond.code yX7_draws cX7_draws 4 none, Cond.fieldLink RX7 297 "TileHouseModel" "backs" "I", Cond.fieldLink RX7 34 "TileHouseModel" "wall" "[I", Cond.fieldLink RX7 74 "TileHouseModel" "tile" "I"]
def wsX7_hide_r3 : List Cond := [Cond.fieldLink RX7 61 "TileHouseModel" "draws" "[I", Cond.fieldLink RX7 68 "TileHouseModel" "letGo" "[Z", Cond.fieldLink RX7 274 "TileHouseModel" "behindFour" "Z", Cond.fieldLink RX7 78 "TileHouseModel" "banned" "I", Cond.fieldLink RX7 81 "TileHouseModel" "alsoBanned" "I"]
def wsX7_hide : List Cond := .code yX7_hide cX7_hide 2 (some .boolean) :: ((wsX7_hide_r1 ++ (wsX7_hide_r2 ++ wsX7_hide_r3)) ++ wsX70)
def wsX7_add_r1 : List Cond := [Cond.fieldLink RX7 103 "TileHouseModel" "thrown" "I", Cond.fieldLink RX7 304 "TileHouseModel" "turn" "I", Cond.fieldLink RX7 49 "TileHouseModel" "setMany" "[I", Cond.fieldLink RX7 43 "TileHouseModel" "setSort" "[I", Cond.fieldLink RX7 46 "TileHouseModel" "setKind" "[I", Cond.fieldLink RX7 74 "TileHouseModel" "tile" "I", Cond.fieldLink RX7 277 "TileHouseModel" "phase" "I", Cond.methodLink RX7 370 yX7_mayMake, Cond.instanceMethod yX7_mayMake, Cond.selects RX7 yX7_mayMake yX7_mayMake, Cond.initialized RX7, Cond.code yX7_mayMake cX7_mayMake 1 (some .boolean), Cond.fieldLink RX7 307 "TileHouseModel" "justClaimed" "Z", Cond.fieldLink RX7 58 "TileHouseModel" "bet" "[I", Cond.fieldLink RX7 250 "TileHouseModel" "fours" "I", Cond.methodLink RX7 271 yX7_left, Cond.instanceMethod yX7_left, Cond.selects RX7 yX7_left yX7_left, Cond.code yX7_left cX7_left 1 (some .int), Cond.fieldLink RX7 253 "TileHouseModel" "next" "I", Cond.methodLink RX7 329 yX7_isKind, Cond.static yX7_isKind, Cond.code yX7_isKind cX7_isKind 1 (some .boolean), Cond.methodLink RX7 256 yX7_has_]
def wsX7_add_r2 : List Cond := [Cond.instanceMethod yX7_has_, Cond.selects RX7 yX7_has_ yX7_has_, Cond.code yX7_has_ cX7_has_ 3 (some .int), Cond.fieldLink RX7 37 "TileHouseModel" "hands" "[I", Cond.methodLink RX7 300 yX7_gives, Cond.instanceMethod yX7_gives, Cond.selects RX7 yX7_gives yX7_gives, Cond.code yX7_gives cX7_gives 4 none]
def wsX7_add : List Cond := .code yX7_add cX7_add 3 (some .boolean) :: ((wsX7_add_r1 ++ wsX7_add_r2) ++ wsX70)
def wsX7_win_r1 : List Cond := [Cond.fieldLink RX7 103 "TileHouseModel" "thrown" "I", Cond.fieldLink RX7 277 "TileHouseModel" "phase" "I", Cond.fieldLink RX7 307 "TileHouseModel" "justClaimed" "Z", Cond.fieldLink RX7 304 "TileHouseModel" "turn" "I", Cond.fieldLink RX7 74 "TileHouseModel" "tile" "I", Cond.fieldLink RX7 113 "TileHouseModel" "isFull" "Z", Cond.fieldLink RX7 120 "TileHouseModel" "bestBase" "I", Cond.fieldLink RX7 317 "TileHouseModel" "wins" "I", Cond.fieldLink RX7 265 "TileHouseModel" "dealer" "I", Cond.fieldLink RX7 384 "TileHouseModel" "stays" "I", Cond.methodLink RX7 373 yX7_value, Cond.instanceMethod yX7_value, Cond.selects RX7 yX7_value yX7_value, Cond.initialized RX7, Cond.code yX7_value cX7_value 6 none, Cond.fieldLink RX7 9 "TileHouseModel" "in" "[I", Cond.fieldLink RX7 58 "TileHouseModel" "bet" "[I", Cond.fieldLink RX7 64 "TileHouseModel" "atOnce" "[Z", Cond.fieldLink RX7 274 "TileHouseModel" "behindFour" "Z", Cond.fieldLink RX7 61 "TileHouseModel" "draws" "[I", Cond.fieldLink RX7 280 "TileHouseModel" "untouched" "Z", Cond.fieldLink RX7 286 "TileHouseModel" "round" "I", Cond.methodLink RX7 258 yX7_take, Cond.instanceMethod yX7_take]
def wsX7_win_r2 : List Cond := [Cond.selects RX7 yX7_take yX7_take, Cond.code yX7_take cX7_take 3 none, Cond.fieldLink RX7 49 "TileHouseModel" "setMany" "[I", Cond.fieldLink RX7 137 "TileHouseModel" "laidMany" "I", Cond.fieldLink RX7 13 "TileHouseModel" "sorts" "[I", Cond.fieldLink RX7 43 "TileHouseModel" "setSort" "[I", Cond.fieldLink RX7 16 "TileHouseModel" "lows" "[I", Cond.fieldLink RX7 46 "TileHouseModel" "setKind" "[I", Cond.methodLink RX7 256 yX7_has_, Cond.instanceMethod yX7_has_, Cond.selects RX7 yX7_has_ yX7_has_, Cond.code yX7_has_ cX7_has_ 3 (some .int), Cond.fieldLink RX7 37 "TileHouseModel" "hands" "[I", Cond.methodLink RX7 201 yX7_bit, Cond.static yX7_bit, Cond.code yX7_bit cX7_bit 1 (some .long), Cond.methodLink RX7 271 yX7_left, Cond.instanceMethod yX7_left, Cond.selects RX7 yX7_left yX7_left, Cond.code yX7_left cX7_left 1 (some .int), Cond.fieldLink RX7 250 "TileHouseModel" "fours" "I", Cond.fieldLink RX7 253 "TileHouseModel" "next" "I", Cond.methodLink RX7 283 yX7_windOf, Cond.instanceMethod yX7_windOf]
def wsX7_win_r3 : List Cond := [Cond.selects RX7 yX7_windOf yX7_windOf, Cond.code yX7_windOf cX7_windOf 2 (some .int), Cond.methodLink RX7 289 yX7_dearTiles, Cond.instanceMethod yX7_dearTiles, Cond.selects RX7 yX7_dearTiles yX7_dearTiles, Cond.code yX7_dearTiles cX7_dearTiles 4 (some .int), Cond.fieldLink RX7 31 "TileHouseModel" "whole" "[I", Cond.fieldLink RX7 34 "TileHouseModel" "wall" "[I", Cond.methodLink RX7 268 yX7_behind, Cond.static yX7_behind, Cond.code yX7_behind cX7_behind 1 (some .int), Cond.methodLink RX7 227 yX7_of, Cond.instanceMethod yX7_of, Cond.selects RX7 yX7_of yX7_of, Cond.code yX7_of cX7_of 4 (some .int), Cond.methodLink RX7 166 yX7_has, Cond.static yX7_has, Cond.code yX7_has cX7_has 3 (some .boolean), Cond.methodLink RX7 293 yX7_reckon, Cond.instanceMethod yX7_reckon, Cond.selects RX7 yX7_reckon yX7_reckon, Cond.code yX7_reckon cX7_reckon 9 none, Cond.fieldLink RX7 163 "TileHouseModel" "winner" "I", Cond.fieldLink RX7 176 "TileHouseModel" "drawn" "Z"]
def wsX7_win_r4 : List Cond := [Cond.fieldLink RX7 231 "TileHouseModel" "told" "J", Cond.fieldLink RX7 189 "TileHouseModel" "seatWind" "I", Cond.fieldLink RX7 192 "TileHouseModel" "roundWind" "I", Cond.fieldLink RX7 238 "TileHouseModel" "dear" "I", Cond.methodLink RX7 247 yX7_apart, Cond.instanceMethod yX7_apart, Cond.selects RX7 yX7_apart yX7_apart, Cond.code yX7_apart cX7_apart 6 none, Cond.fieldLink RX7 117 "TileHouseModel" "ways" "I", Cond.fieldLink RX7 123 "TileHouseModel" "bestHan" "I", Cond.fieldLink RX7 126 "TileHouseModel" "bestFu" "I", Cond.fieldLink RX7 129 "TileHouseModel" "bestForms" "J", Cond.methodLink RX7 133 yX7_inHand, Cond.instanceMethod yX7_inHand, Cond.selects RX7 yX7_inHand yX7_inHand, Cond.code yX7_inHand cX7_inHand 3 (some .int), Cond.methodLink RX7 140 yX7_sets, Cond.instanceMethod yX7_sets, Cond.selects RX7 yX7_sets yX7_sets, Cond.code yX7_sets cX7_sets 7 none, Cond.fieldLink RX7 19 "TileHouseModel" "waySort" "[I", Cond.fieldLink RX7 22 "TileHouseModel" "wayLow" "[I", Cond.methodLink RX7 153 yX7_way, Cond.instanceMethod yX7_way]
def wsX7_win_r5 : List Cond := [Cond.selects RX7 yX7_way yX7_way, Cond.code yX7_way cX7_way 5 none, Cond.fieldLink RX7 160 "TileHouseModel" "pairKind" "I", Cond.fieldLink RX7 25 "TileHouseModel" "allSort" "[I", Cond.fieldLink RX7 28 "TileHouseModel" "allLow" "[I", Cond.fieldLink RX7 170 "TileHouseModel" "completes" "I", Cond.methodLink RX7 173 yX7_firstSort, Cond.instanceMethod yX7_firstSort, Cond.selects RX7 yX7_firstSort yX7_firstSort, Cond.code yX7_firstSort cX7_firstSort 14 none, Cond.fieldLink RX7 195 "TileHouseModel" "great" "J", Cond.fieldLink RX7 198 "TileHouseModel" "plain" "J", Cond.fieldLink RX7 220 "TileHouseModel" "fu" "I", Cond.methodLink RX7 179 yX7_isOpen, Cond.instanceMethod yX7_isOpen, Cond.selects RX7 yX7_isOpen yX7_isOpen, Cond.code yX7_isOpen cX7_isOpen 3 (some .boolean), Cond.methodLink RX7 183 yX7_isHidden, Cond.instanceMethod yX7_isHidden, Cond.selects RX7 yX7_isHidden yX7_isHidden, Cond.code yX7_isHidden cX7_isHidden 2 (some .boolean), Cond.methodLink RX7 186 yX7_isDragon, Cond.static yX7_isDragon, Cond.code yX7_isDragon cX7_isDragon 1 (some .boolean)]
def wsX7_win_r6 : List Cond := [Cond.methodLink RX7 205 yX7_twins, Cond.instanceMethod yX7_twins, Cond.selects RX7 yX7_twins yX7_twins, Cond.code yX7_twins cX7_twins 5 none, Cond.methodLink RX7 208 yX7_hasThree, Cond.instanceMethod yX7_hasThree, Cond.selects RX7 yX7_hasThree yX7_hasThree, Cond.code yX7_hasThree cX7_hasThree 4 (some .boolean), Cond.methodLink RX7 211 yX7_hasRun, Cond.instanceMethod yX7_hasRun, Cond.selects RX7 yX7_hasRun yX7_hasRun, Cond.code yX7_hasRun cX7_hasRun 4 (some .boolean), Cond.methodLink RX7 214 yX7_edges, Cond.instanceMethod yX7_edges, Cond.selects RX7 yX7_edges yX7_edges, Cond.code yX7_edges cX7_edges 9 none, Cond.methodLink RX7 144 yX7_isEnd, Cond.static yX7_isEnd, Cond.code yX7_isEnd cX7_isEnd 1 (some .boolean), Cond.methodLink RX7 106 yX7_isHonour, Cond.static yX7_isHonour, Cond.code yX7_isHonour cX7_isHonour 1 (some .boolean), Cond.methodLink RX7 110 yX7_isTerminal, Cond.static yX7_isTerminal]
def wsX7_win_r7 : List Cond := [Cond.code yX7_isTerminal cX7_isTerminal 1 (some .boolean), Cond.methodLink RX7 217 yX7_tiles, Cond.instanceMethod yX7_tiles, Cond.selects RX7 yX7_tiles yX7_tiles, Cond.code yX7_tiles cX7_tiles 12 none, Cond.methodLink RX7 223 yX7_compare, Cond.instanceMethod yX7_compare, Cond.selects RX7 yX7_compare yX7_compare, Cond.code yX7_compare cX7_compare 7 none, Cond.methodLink RX7 241 Lib.Math.min.name, Cond.static Lib.Math.min.name, Cond.initialized "java/lang/Math", Cond.code Lib.Math.min.name Lib.Math.min.code 2 (some .int), Cond.methodLink RX7 234 yX7_han, Cond.static yX7_han, Cond.code yX7_han cX7_han 2 (some .int), Cond.methodLink RX7 157 yX7_isRun, Cond.static yX7_isRun, Cond.code yX7_isRun cX7_isRun 1 (some .boolean), Cond.methodLink RX7 147 yX7_pairsWay, Cond.instanceMethod yX7_pairsWay, Cond.selects RX7 yX7_pairsWay yX7_pairsWay, Cond.code yX7_pairsWay cX7_pairsWay 1 none, Cond.methodLink RX7 150 yX7_thirteen]
def wsX7_win_r8 : List Cond := [Cond.instanceMethod yX7_thirteen, Cond.selects RX7 yX7_thirteen yX7_thirteen, Cond.code yX7_thirteen cX7_thirteen 1 none, Cond.methodLink RX7 377 yX7_writes, Cond.instanceMethod yX7_writes, Cond.selects RX7 yX7_writes yX7_writes, Cond.code yX7_writes cX7_writes 5 none, Cond.fieldLink RX7 84 "TileHouseModel" "won" "[I", Cond.fieldLink RX7 87 "TileHouseModel" "wonForms" "[J", Cond.methodLink RX7 381 yX7_up, Cond.static yX7_up, Cond.code yX7_up cX7_up 1 (some .int), Cond.methodLink RX7 387 yX7_pays, Cond.instanceMethod yX7_pays, Cond.selects RX7 yX7_pays yX7_pays, Cond.code yX7_pays cX7_pays 4 none, Cond.fieldLink RX7 40 "TileHouseModel" "points" "[I", Cond.methodLink RX7 390 yX7_takesBets, Cond.instanceMethod yX7_takesBets, Cond.selects RX7 yX7_takesBets yX7_takesBets, Cond.code yX7_takesBets cX7_takesBets 2 none, Cond.fieldLink RX7 337 "TileHouseModel" "bets" "I", Cond.methodLink RX7 393 yX7_ends, Cond.instanceMethod yX7_ends]
def wsX7_win_r9 : List Cond := [Cond.selects RX7 yX7_ends yX7_ends, Cond.code yX7_ends cX7_ends 7 none, Cond.fieldLink RX7 397 "TileHouseModel" "handsEnded" "I", Cond.fieldLink RX7 310 "TileHouseModel" "ended" "Z"]
def wsX7_win : List Cond := .code yX7_win cX7_win 4 (some .boolean) :: ((wsX7_win_r1 ++ (wsX7_win_r2 ++ (wsX7_win_r3 ++ (wsX7_win_r4 ++ (wsX7_win_r5 ++ (wsX7_win_r6 ++ (wsX7_win_r7 ++ (wsX7_win_r8 ++ wsX7_win_r9)))))))) ++ wsX70)
def wsX7_claim_r1 : List Cond := [Cond.fieldLink RX7 103 "TileHouseModel" "thrown" "I", Cond.fieldLink RX7 277 "TileHouseModel" "phase" "I", Cond.fieldLink RX7 304 "TileHouseModel" "turn" "I", Cond.fieldLink RX7 71 "TileHouseModel" "says" "[Z", Cond.fieldLink RX7 68 "TileHouseModel" "letGo" "[Z", Cond.fieldLink RX7 74 "TileHouseModel" "tile" "I", Cond.fieldLink RX7 55 "TileHouseModel" "riverMany" "[I", Cond.fieldLink RX7 52 "TileHouseModel" "rivers" "[I", Cond.fieldLink RX7 120 "TileHouseModel" "bestBase" "I", Cond.methodLink RX7 355 yX7_isSeat, Cond.static yX7_isSeat, Cond.initialized RX7, Cond.code yX7_isSeat cX7_isSeat 1 (some .boolean), Cond.methodLink RX7 334 yX7_waitsAt, Cond.instanceMethod yX7_waitsAt, Cond.selects RX7 yX7_waitsAt yX7_waitsAt, Cond.code yX7_waitsAt cX7_waitsAt 2 (some .long), Cond.methodLink RX7 258 yX7_take, Cond.instanceMethod yX7_take, Cond.selects RX7 yX7_take yX7_take, Cond.code yX7_take cX7_take 3 none, Cond.fieldLink RX7 9 "TileHouseModel" "in" "[I", Cond.fieldLink RX7 49 "TileHouseModel" "setMany" "[I", Cond.fieldLink RX7 137 "TileHouseModel" "laidMany" "I"]
def wsX7_claim_r2 : List Cond := [Cond.fieldLink RX7 13 "TileHouseModel" "sorts" "[I", Cond.fieldLink RX7 43 "TileHouseModel" "setSort" "[I", Cond.fieldLink RX7 16 "TileHouseModel" "lows" "[I", Cond.fieldLink RX7 46 "TileHouseModel" "setKind" "[I", Cond.methodLink RX7 256 yX7_has_, Cond.instanceMethod yX7_has_, Cond.selects RX7 yX7_has_ yX7_has_, Cond.code yX7_has_ cX7_has_ 3 (some .int), Cond.fieldLink RX7 37 "TileHouseModel" "hands" "[I", Cond.methodLink RX7 261 yX7_waitsOf, Cond.instanceMethod yX7_waitsOf, Cond.selects RX7 yX7_waitsOf yX7_waitsOf, Cond.code yX7_waitsOf cX7_waitsOf 5 (some .long), Cond.fieldLink RX7 31 "TileHouseModel" "whole" "[I", Cond.fieldLink RX7 113 "TileHouseModel" "isFull" "Z", Cond.methodLink RX7 133 yX7_inHand, Cond.instanceMethod yX7_inHand, Cond.selects RX7 yX7_inHand yX7_inHand, Cond.code yX7_inHand cX7_inHand 3 (some .int), Cond.methodLink RX7 227 yX7_of, Cond.instanceMethod yX7_of, Cond.selects RX7 yX7_of yX7_of, Cond.code yX7_of cX7_of 4 (some .int), Cond.methodLink RX7 166 yX7_has]
def wsX7_claim_r3 : List Cond := [Cond.static yX7_has, Cond.code yX7_has cX7_has 3 (some .boolean), Cond.methodLink RX7 247 yX7_apart, Cond.instanceMethod yX7_apart, Cond.selects RX7 yX7_apart yX7_apart, Cond.code yX7_apart cX7_apart 6 none, Cond.fieldLink RX7 117 "TileHouseModel" "ways" "I", Cond.fieldLink RX7 123 "TileHouseModel" "bestHan" "I", Cond.fieldLink RX7 126 "TileHouseModel" "bestFu" "I", Cond.fieldLink RX7 129 "TileHouseModel" "bestForms" "J", Cond.methodLink RX7 140 yX7_sets, Cond.instanceMethod yX7_sets, Cond.selects RX7 yX7_sets yX7_sets, Cond.code yX7_sets cX7_sets 7 none, Cond.fieldLink RX7 19 "TileHouseModel" "waySort" "[I", Cond.fieldLink RX7 22 "TileHouseModel" "wayLow" "[I", Cond.methodLink RX7 153 yX7_way, Cond.instanceMethod yX7_way, Cond.selects RX7 yX7_way yX7_way, Cond.code yX7_way cX7_way 5 none, Cond.fieldLink RX7 160 "TileHouseModel" "pairKind" "I", Cond.fieldLink RX7 25 "TileHouseModel" "allSort" "[I", Cond.fieldLink RX7 28 "TileHouseModel" "allLow" "[I", Cond.fieldLink RX7 163 "TileHouseModel" "winner" "I"]
def wsX7_claim_r4 : List Cond := [Cond.fieldLink RX7 170 "TileHouseModel" "completes" "I", Cond.methodLink RX7 173 yX7_firstSort, Cond.instanceMethod yX7_firstSort, Cond.selects RX7 yX7_firstSort yX7_firstSort, Cond.code yX7_firstSort cX7_firstSort 14 none, Cond.fieldLink RX7 189 "TileHouseModel" "seatWind" "I", Cond.fieldLink RX7 192 "TileHouseModel" "roundWind" "I", Cond.fieldLink RX7 195 "TileHouseModel" "great" "J", Cond.fieldLink RX7 198 "TileHouseModel" "plain" "J", Cond.fieldLink RX7 176 "TileHouseModel" "drawn" "Z", Cond.fieldLink RX7 220 "TileHouseModel" "fu" "I", Cond.methodLink RX7 179 yX7_isOpen, Cond.instanceMethod yX7_isOpen, Cond.selects RX7 yX7_isOpen yX7_isOpen, Cond.code yX7_isOpen cX7_isOpen 3 (some .boolean), Cond.methodLink RX7 183 yX7_isHidden, Cond.instanceMethod yX7_isHidden, Cond.selects RX7 yX7_isHidden yX7_isHidden, Cond.code yX7_isHidden cX7_isHidden 2 (some .boolean), Cond.methodLink RX7 186 yX7_isDragon, Cond.static yX7_isDragon, Cond.code yX7_isDragon cX7_isDragon 1 (some .boolean), Cond.methodLink RX7 201 yX7_bit, Cond.static yX7_bit]
def wsX7_claim_r5 : List Cond := [Cond.code yX7_bit cX7_bit 1 (some .long), Cond.methodLink RX7 205 yX7_twins, Cond.instanceMethod yX7_twins, Cond.selects RX7 yX7_twins yX7_twins, Cond.code yX7_twins cX7_twins 5 none, Cond.methodLink RX7 208 yX7_hasThree, Cond.instanceMethod yX7_hasThree, Cond.selects RX7 yX7_hasThree yX7_hasThree, Cond.code yX7_hasThree cX7_hasThree 4 (some .boolean), Cond.methodLink RX7 211 yX7_hasRun, Cond.instanceMethod yX7_hasRun, Cond.selects RX7 yX7_hasRun yX7_hasRun, Cond.code yX7_hasRun cX7_hasRun 4 (some .boolean), Cond.methodLink RX7 214 yX7_edges, Cond.instanceMethod yX7_edges, Cond.selects RX7 yX7_edges yX7_edges, Cond.code yX7_edges cX7_edges 9 none, Cond.methodLink RX7 144 yX7_isEnd, Cond.static yX7_isEnd, Cond.code yX7_isEnd cX7_isEnd 1 (some .boolean), Cond.methodLink RX7 106 yX7_isHonour, Cond.static yX7_isHonour, Cond.code yX7_isHonour cX7_isHonour 1 (some .boolean), Cond.methodLink RX7 110 yX7_isTerminal]
def wsX7_claim_r6 : List Cond := [Cond.static yX7_isTerminal, Cond.code yX7_isTerminal cX7_isTerminal 1 (some .boolean), Cond.methodLink RX7 217 yX7_tiles, Cond.instanceMethod yX7_tiles, Cond.selects RX7 yX7_tiles yX7_tiles, Cond.code yX7_tiles cX7_tiles 12 none, Cond.methodLink RX7 223 yX7_compare, Cond.instanceMethod yX7_compare, Cond.selects RX7 yX7_compare yX7_compare, Cond.code yX7_compare cX7_compare 7 none, Cond.fieldLink RX7 231 "TileHouseModel" "told" "J", Cond.fieldLink RX7 238 "TileHouseModel" "dear" "I", Cond.methodLink RX7 241 Lib.Math.min.name, Cond.static Lib.Math.min.name, Cond.initialized "java/lang/Math", Cond.code Lib.Math.min.name Lib.Math.min.code 2 (some .int), Cond.methodLink RX7 234 yX7_han, Cond.static yX7_han, Cond.code yX7_han cX7_han 2 (some .int), Cond.methodLink RX7 157 yX7_isRun, Cond.static yX7_isRun, Cond.code yX7_isRun cX7_isRun 1 (some .boolean), Cond.methodLink RX7 147 yX7_pairsWay, Cond.instanceMethod yX7_pairsWay]
def wsX7_claim_r7 : List Cond := [Cond.selects RX7 yX7_pairsWay yX7_pairsWay, Cond.code yX7_pairsWay cX7_pairsWay 1 none, Cond.methodLink RX7 150 yX7_thirteen, Cond.instanceMethod yX7_thirteen, Cond.selects RX7 yX7_thirteen yX7_thirteen, Cond.code yX7_thirteen cX7_thirteen 1 none, Cond.methodLink RX7 373 yX7_value, Cond.instanceMethod yX7_value, Cond.selects RX7 yX7_value yX7_value, Cond.code yX7_value cX7_value 6 none, Cond.fieldLink RX7 58 "TileHouseModel" "bet" "[I", Cond.fieldLink RX7 64 "TileHouseModel" "atOnce" "[Z", Cond.fieldLink RX7 274 "TileHouseModel" "behindFour" "Z", Cond.fieldLink RX7 61 "TileHouseModel" "draws" "[I", Cond.fieldLink RX7 265 "TileHouseModel" "dealer" "I", Cond.fieldLink RX7 280 "TileHouseModel" "untouched" "Z", Cond.fieldLink RX7 286 "TileHouseModel" "round" "I", Cond.methodLink RX7 271 yX7_left, Cond.instanceMethod yX7_left, Cond.selects RX7 yX7_left yX7_left, Cond.code yX7_left cX7_left 1 (some .int), Cond.fieldLink RX7 250 "TileHouseModel" "fours" "I", Cond.fieldLink RX7 253 "TileHouseModel" "next" "I", Cond.methodLink RX7 283 yX7_windOf]
def wsX7_claim_r8 : List Cond := [Cond.instanceMethod yX7_windOf, Cond.selects RX7 yX7_windOf yX7_windOf, Cond.code yX7_windOf cX7_windOf 2 (some .int), Cond.methodLink RX7 289 yX7_dearTiles, Cond.instanceMethod yX7_dearTiles, Cond.selects RX7 yX7_dearTiles yX7_dearTiles, Cond.code yX7_dearTiles cX7_dearTiles 4 (some .int), Cond.fieldLink RX7 34 "TileHouseModel" "wall" "[I", Cond.methodLink RX7 268 yX7_behind, Cond.static yX7_behind, Cond.code yX7_behind cX7_behind 1 (some .int), Cond.methodLink RX7 293 yX7_reckon, Cond.instanceMethod yX7_reckon, Cond.selects RX7 yX7_reckon yX7_reckon, Cond.code yX7_reckon cX7_reckon 9 none]
def wsX7_claim : List Cond := .code yX7_claim cX7_claim 5 (some .boolean) :: ((wsX7_claim_r1 ++ (wsX7_claim_r2 ++ (wsX7_claim_r3 ++ (wsX7_claim_r4 ++ (wsX7_claim_r5 ++ (wsX7_claim_r6 ++ (wsX7_claim_r7 ++ wsX7_claim_r8))))))) ++ wsX70)
def wsX7_nine_r1 : List Cond := [Cond.fieldLink RX7 103 "TileHouseModel" "thrown" "I", Cond.fieldLink RX7 277 "TileHouseModel" "phase" "I", Cond.fieldLink RX7 307 "TileHouseModel" "justClaimed" "Z", Cond.fieldLink RX7 280 "TileHouseModel" "untouched" "Z", Cond.fieldLink RX7 55 "TileHouseModel" "riverMany" "[I", Cond.fieldLink RX7 304 "TileHouseModel" "turn" "I", Cond.methodLink RX7 144 yX7_isEnd, Cond.static yX7_isEnd, Cond.initialized RX7, Cond.code yX7_isEnd cX7_isEnd 1 (some .boolean), Cond.methodLink RX7 106 yX7_isHonour, Cond.static yX7_isHonour, Cond.code yX7_isHonour cX7_isHonour 1 (some .boolean), Cond.methodLink RX7 110 yX7_isTerminal, Cond.static yX7_isTerminal, Cond.code yX7_isTerminal cX7_isTerminal 1 (some .boolean), Cond.methodLink RX7 256 yX7_has_, Cond.instanceMethod yX7_has_, Cond.selects RX7 yX7_has_ yX7_has_, Cond.code yX7_has_ cX7_has_ 3 (some .int), Cond.fieldLink RX7 37 "TileHouseModel" "hands" "[I", Cond.methodLink RX7 393 yX7_ends, Cond.instanceMethod yX7_ends, Cond.selects RX7 yX7_ends yX7_ends]
def wsX7_nine_r2 : List Cond := [Cond.code yX7_ends cX7_ends 7 none, Cond.fieldLink RX7 74 "TileHouseModel" "tile" "I", Cond.fieldLink RX7 397 "TileHouseModel" "handsEnded" "I", Cond.fieldLink RX7 40 "TileHouseModel" "points" "[I", Cond.fieldLink RX7 265 "TileHouseModel" "dealer" "I", Cond.fieldLink RX7 286 "TileHouseModel" "round" "I", Cond.fieldLink RX7 310 "TileHouseModel" "ended" "Z", Cond.fieldLink RX7 337 "TileHouseModel" "bets" "I", Cond.fieldLink RX7 384 "TileHouseModel" "stays" "I"]
def wsX7_nine : List Cond := .code yX7_nine cX7_nine 3 (some .boolean) :: ((wsX7_nine_r1 ++ wsX7_nine_r2) ++ wsX70)
def wsX7_hand : List Cond := .code yX7_hand cX7_hand 3 (some .int) :: ([.fieldLink RX7 103 "TileHouseModel" "thrown" "I", .methodLink RX7 355 yX7_isSeat, .static yX7_isSeat, .initialized RX7, .code yX7_isSeat cX7_isSeat 1 (some .boolean), .methodLink RX7 329 yX7_isKind, .static yX7_isKind, .code yX7_isKind cX7_isKind 1 (some .boolean), .methodLink RX7 256 yX7_has_, .instanceMethod yX7_has_, .selects RX7 yX7_has_ yX7_has_, .code yX7_has_ cX7_has_ 3 (some .int), .fieldLink RX7 37 "TileHouseModel" "hands" "[I"] ++ wsX70)
def wsX7_laid : List Cond := .code yX7_laid cX7_laid 4 (some .int) :: ([.fieldLink RX7 103 "TileHouseModel" "thrown" "I", .fieldLink RX7 49 "TileHouseModel" "setMany" "[I", .fieldLink RX7 43 "TileHouseModel" "setSort" "[I", .fieldLink RX7 46 "TileHouseModel" "setKind" "[I", .methodLink RX7 355 yX7_isSeat, .static yX7_isSeat, .initialized RX7, .code yX7_isSeat cX7_isSeat 1 (some .boolean)] ++ wsX70)
def wsX7_river : List Cond := .code yX7_river cX7_river 3 (some .int) :: ([.fieldLink RX7 55 "TileHouseModel" "riverMany" "[I", .fieldLink RX7 103 "TileHouseModel" "thrown" "I", .fieldLink RX7 52 "TileHouseModel" "rivers" "[I", .methodLink RX7 355 yX7_isSeat, .static yX7_isSeat, .initialized RX7, .code yX7_isSeat cX7_isSeat 1 (some .boolean)] ++ wsX70)
def wsX7_waits_r1 : List Cond := [Cond.fieldLink RX7 103 "TileHouseModel" "thrown" "I", Cond.fieldLink RX7 277 "TileHouseModel" "phase" "I", Cond.fieldLink RX7 304 "TileHouseModel" "turn" "I", Cond.methodLink RX7 355 yX7_isSeat, Cond.static yX7_isSeat, Cond.initialized RX7, Cond.code yX7_isSeat cX7_isSeat 1 (some .boolean), Cond.methodLink RX7 334 yX7_waitsAt, Cond.instanceMethod yX7_waitsAt, Cond.selects RX7 yX7_waitsAt yX7_waitsAt, Cond.code yX7_waitsAt cX7_waitsAt 2 (some .long), Cond.methodLink RX7 258 yX7_take, Cond.instanceMethod yX7_take, Cond.selects RX7 yX7_take yX7_take, Cond.code yX7_take cX7_take 3 none, Cond.fieldLink RX7 9 "TileHouseModel" "in" "[I", Cond.fieldLink RX7 49 "TileHouseModel" "setMany" "[I", Cond.fieldLink RX7 137 "TileHouseModel" "laidMany" "I", Cond.fieldLink RX7 13 "TileHouseModel" "sorts" "[I", Cond.fieldLink RX7 43 "TileHouseModel" "setSort" "[I", Cond.fieldLink RX7 16 "TileHouseModel" "lows" "[I", Cond.fieldLink RX7 46 "TileHouseModel" "setKind" "[I", Cond.methodLink RX7 256 yX7_has_, Cond.instanceMethod yX7_has_]
def wsX7_waits_r2 : List Cond := [Cond.selects RX7 yX7_has_ yX7_has_, Cond.code yX7_has_ cX7_has_ 3 (some .int), Cond.fieldLink RX7 37 "TileHouseModel" "hands" "[I", Cond.methodLink RX7 261 yX7_waitsOf, Cond.instanceMethod yX7_waitsOf, Cond.selects RX7 yX7_waitsOf yX7_waitsOf, Cond.code yX7_waitsOf cX7_waitsOf 5 (some .long), Cond.fieldLink RX7 31 "TileHouseModel" "whole" "[I", Cond.fieldLink RX7 113 "TileHouseModel" "isFull" "Z", Cond.methodLink RX7 133 yX7_inHand, Cond.instanceMethod yX7_inHand, Cond.selects RX7 yX7_inHand yX7_inHand, Cond.code yX7_inHand cX7_inHand 3 (some .int), Cond.methodLink RX7 227 yX7_of, Cond.instanceMethod yX7_of, Cond.selects RX7 yX7_of yX7_of, Cond.code yX7_of cX7_of 4 (some .int), Cond.methodLink RX7 166 yX7_has, Cond.static yX7_has, Cond.code yX7_has cX7_has 3 (some .boolean), Cond.methodLink RX7 247 yX7_apart, Cond.instanceMethod yX7_apart, Cond.selects RX7 yX7_apart yX7_apart, Cond.code yX7_apart cX7_apart 6 none]
def wsX7_waits_r3 : List Cond := [Cond.fieldLink RX7 117 "TileHouseModel" "ways" "I", Cond.fieldLink RX7 120 "TileHouseModel" "bestBase" "I", Cond.fieldLink RX7 123 "TileHouseModel" "bestHan" "I", Cond.fieldLink RX7 126 "TileHouseModel" "bestFu" "I", Cond.fieldLink RX7 129 "TileHouseModel" "bestForms" "J", Cond.methodLink RX7 140 yX7_sets, Cond.instanceMethod yX7_sets, Cond.selects RX7 yX7_sets yX7_sets, Cond.code yX7_sets cX7_sets 7 none, Cond.fieldLink RX7 19 "TileHouseModel" "waySort" "[I", Cond.fieldLink RX7 22 "TileHouseModel" "wayLow" "[I", Cond.methodLink RX7 153 yX7_way, Cond.instanceMethod yX7_way, Cond.selects RX7 yX7_way yX7_way, Cond.code yX7_way cX7_way 5 none, Cond.fieldLink RX7 160 "TileHouseModel" "pairKind" "I", Cond.fieldLink RX7 25 "TileHouseModel" "allSort" "[I", Cond.fieldLink RX7 28 "TileHouseModel" "allLow" "[I", Cond.fieldLink RX7 163 "TileHouseModel" "winner" "I", Cond.fieldLink RX7 170 "TileHouseModel" "completes" "I", Cond.methodLink RX7 173 yX7_firstSort, Cond.instanceMethod yX7_firstSort, Cond.selects RX7 yX7_firstSort yX7_firstSort, Cond.code yX7_firstSort cX7_firstSort 14 none]
def wsX7_waits_r4 : List Cond := [Cond.fieldLink RX7 189 "TileHouseModel" "seatWind" "I", Cond.fieldLink RX7 192 "TileHouseModel" "roundWind" "I", Cond.fieldLink RX7 195 "TileHouseModel" "great" "J", Cond.fieldLink RX7 198 "TileHouseModel" "plain" "J", Cond.fieldLink RX7 176 "TileHouseModel" "drawn" "Z", Cond.fieldLink RX7 220 "TileHouseModel" "fu" "I", Cond.methodLink RX7 179 yX7_isOpen, Cond.instanceMethod yX7_isOpen, Cond.selects RX7 yX7_isOpen yX7_isOpen, Cond.code yX7_isOpen cX7_isOpen 3 (some .boolean), Cond.methodLink RX7 183 yX7_isHidden, Cond.instanceMethod yX7_isHidden, Cond.selects RX7 yX7_isHidden yX7_isHidden, Cond.code yX7_isHidden cX7_isHidden 2 (some .boolean), Cond.methodLink RX7 186 yX7_isDragon, Cond.static yX7_isDragon, Cond.code yX7_isDragon cX7_isDragon 1 (some .boolean), Cond.methodLink RX7 201 yX7_bit, Cond.static yX7_bit, Cond.code yX7_bit cX7_bit 1 (some .long), Cond.methodLink RX7 205 yX7_twins, Cond.instanceMethod yX7_twins, Cond.selects RX7 yX7_twins yX7_twins, Cond.code yX7_twins cX7_twins 5 none]
def wsX7_waits_r5 : List Cond := [Cond.methodLink RX7 208 yX7_hasThree, Cond.instanceMethod yX7_hasThree, Cond.selects RX7 yX7_hasThree yX7_hasThree, Cond.code yX7_hasThree cX7_hasThree 4 (some .boolean), Cond.methodLink RX7 211 yX7_hasRun, Cond.instanceMethod yX7_hasRun, Cond.selects RX7 yX7_hasRun yX7_hasRun, Cond.code yX7_hasRun cX7_hasRun 4 (some .boolean), Cond.methodLink RX7 214 yX7_edges, Cond.instanceMethod yX7_edges, Cond.selects RX7 yX7_edges yX7_edges, Cond.code yX7_edges cX7_edges 9 none, Cond.methodLink RX7 144 yX7_isEnd, Cond.static yX7_isEnd, Cond.code yX7_isEnd cX7_isEnd 1 (some .boolean), Cond.methodLink RX7 106 yX7_isHonour, Cond.static yX7_isHonour, Cond.code yX7_isHonour cX7_isHonour 1 (some .boolean), Cond.methodLink RX7 110 yX7_isTerminal, Cond.static yX7_isTerminal, Cond.code yX7_isTerminal cX7_isTerminal 1 (some .boolean), Cond.methodLink RX7 217 yX7_tiles, Cond.instanceMethod yX7_tiles, Cond.selects RX7 yX7_tiles yX7_tiles]
def wsX7_waits_r6 : List Cond := [Cond.code yX7_tiles cX7_tiles 12 none, Cond.methodLink RX7 223 yX7_compare, Cond.instanceMethod yX7_compare, Cond.selects RX7 yX7_compare yX7_compare, Cond.code yX7_compare cX7_compare 7 none, Cond.fieldLink RX7 231 "TileHouseModel" "told" "J", Cond.fieldLink RX7 238 "TileHouseModel" "dear" "I", Cond.methodLink RX7 241 Lib.Math.min.name, Cond.static Lib.Math.min.name, Cond.initialized "java/lang/Math", Cond.code Lib.Math.min.name Lib.Math.min.code 2 (some .int), Cond.methodLink RX7 234 yX7_han, Cond.static yX7_han, Cond.code yX7_han cX7_han 2 (some .int), Cond.methodLink RX7 157 yX7_isRun, Cond.static yX7_isRun, Cond.code yX7_isRun cX7_isRun 1 (some .boolean), Cond.methodLink RX7 147 yX7_pairsWay, Cond.instanceMethod yX7_pairsWay, Cond.selects RX7 yX7_pairsWay yX7_pairsWay, Cond.code yX7_pairsWay cX7_pairsWay 1 none, Cond.methodLink RX7 150 yX7_thirteen, Cond.instanceMethod yX7_thirteen, Cond.selects RX7 yX7_thirteen yX7_thirteen]
def wsX7_waits_r7 : List Cond := [Cond.code yX7_thirteen cX7_thirteen 1 none]
def wsX7_waits : List Cond := .code yX7_waits cX7_waits 2 (some .long) :: ((wsX7_waits_r1 ++ (wsX7_waits_r2 ++ (wsX7_waits_r3 ++ (wsX7_waits_r4 ++ (wsX7_waits_r5 ++ (wsX7_waits_r6 ++ wsX7_waits_r7)))))) ++ wsX70)
def wsX7_seat : List Cond := .code yX7_seat cX7_seat 3 (some .int) :: ([.fieldLink RX7 103 "TileHouseModel" "thrown" "I", .fieldLink RX7 40 "TileHouseModel" "points" "[I", .fieldLink RX7 58 "TileHouseModel" "bet" "[I", .fieldLink RX7 68 "TileHouseModel" "letGo" "[Z", .fieldLink RX7 55 "TileHouseModel" "riverMany" "[I", .fieldLink RX7 49 "TileHouseModel" "setMany" "[I", .fieldLink RX7 71 "TileHouseModel" "says" "[Z", .methodLink RX7 355 yX7_isSeat, .static yX7_isSeat, .initialized RX7, .code yX7_isSeat cX7_isSeat 1 (some .boolean), .methodLink RX7 283 yX7_windOf, .instanceMethod yX7_windOf, .selects RX7 yX7_windOf yX7_windOf, .code yX7_windOf cX7_windOf 2 (some .int), .fieldLink RX7 265 "TileHouseModel" "dealer" "I", .methodLink RX7 332 yX7_isOpen_, .instanceMethod yX7_isOpen_, .selects RX7 yX7_isOpen_ yX7_isOpen_, .code yX7_isOpen_ cX7_isOpen_ 4 (some .boolean), .fieldLink RX7 43 "TileHouseModel" "setSort" "[I"] ++ wsX70)
def wsX7_won : List Cond := .code yX7_won cX7_won 3 (some .int) :: ([.fieldLink RX7 103 "TileHouseModel" "thrown" "I", .fieldLink RX7 317 "TileHouseModel" "wins" "I", .fieldLink RX7 84 "TileHouseModel" "won" "[I"] ++ wsX70)
def wsX7_forms : List Cond := .code yX7_forms cX7_forms 2 (some .long) :: ([.fieldLink RX7 103 "TileHouseModel" "thrown" "I", .fieldLink RX7 317 "TileHouseModel" "wins" "I", .fieldLink RX7 87 "TileHouseModel" "wonForms" "[J"] ++ wsX70)
def wsX7_count : List Cond := .code yX7_count cX7_count 2 (some .int) :: ([.fieldLink RX7 103 "TileHouseModel" "thrown" "I", .fieldLink RX7 277 "TileHouseModel" "phase" "I", .fieldLink RX7 304 "TileHouseModel" "turn" "I", .fieldLink RX7 265 "TileHouseModel" "dealer" "I", .fieldLink RX7 286 "TileHouseModel" "round" "I", .fieldLink RX7 384 "TileHouseModel" "stays" "I", .fieldLink RX7 337 "TileHouseModel" "bets" "I", .fieldLink RX7 323 "TileHouseModel" "isDealt" "Z", .fieldLink RX7 250 "TileHouseModel" "fours" "I", .fieldLink RX7 310 "TileHouseModel" "ended" "Z", .fieldLink RX7 397 "TileHouseModel" "handsEnded" "I", .fieldLink RX7 317 "TileHouseModel" "wins" "I", .fieldLink RX7 74 "TileHouseModel" "tile" "I", .methodLink RX7 271 yX7_left, .instanceMethod yX7_left, .selects RX7 yX7_left yX7_left, .initialized RX7, .code yX7_left cX7_left 1 (some .int), .fieldLink RX7 253 "TileHouseModel" "next" "I"] ++ wsX70)
def wsX7_wall : List Cond := .code yX7_wall cX7_wall 2 (some .int) :: ([.fieldLink RX7 323 "TileHouseModel" "isDealt" "Z", .fieldLink RX7 103 "TileHouseModel" "thrown" "I", .fieldLink RX7 34 "TileHouseModel" "wall" "[I"] ++ wsX70)
def wsX7_clear : List Cond := .code yX7_clear cX7_clear 2 none :: ([.fieldLink RX7 103 "TileHouseModel" "thrown" "I", .fieldLink RX7 91 "TileHouseModel" "deskIn" "[I", .fieldLink RX7 400 "TileHouseModel" "deskSets" "I"] ++ wsX70)
def wsX7_takeDesk : List Cond := .code yX7_takeDesk cX7_takeDesk 2 none :: ([.fieldLink RX7 9 "TileHouseModel" "in" "[I", .fieldLink RX7 91 "TileHouseModel" "deskIn" "[I", .fieldLink RX7 31 "TileHouseModel" "whole" "[I", .fieldLink RX7 400 "TileHouseModel" "deskSets" "I", .fieldLink RX7 137 "TileHouseModel" "laidMany" "I", .fieldLink RX7 13 "TileHouseModel" "sorts" "[I", .fieldLink RX7 94 "TileHouseModel" "deskSort" "[I", .fieldLink RX7 16 "TileHouseModel" "lows" "[I", .fieldLink RX7 97 "TileHouseModel" "deskKind" "[I"] ++ wsX70)
def wsX7_lay_r1 : List Cond := [Cond.fieldLink RX7 103 "TileHouseModel" "thrown" "I", Cond.fieldLink RX7 137 "TileHouseModel" "laidMany" "I", Cond.fieldLink RX7 91 "TileHouseModel" "deskIn" "[I", Cond.methodLink RX7 329 yX7_isKind, Cond.static yX7_isKind, Cond.initialized RX7, Cond.code yX7_isKind cX7_isKind 1 (some .boolean), Cond.methodLink RX7 403 yX7_takeDesk, Cond.instanceMethod yX7_takeDesk, Cond.selects RX7 yX7_takeDesk yX7_takeDesk, Cond.code yX7_takeDesk cX7_takeDesk 2 none, Cond.fieldLink RX7 9 "TileHouseModel" "in" "[I", Cond.fieldLink RX7 31 "TileHouseModel" "whole" "[I", Cond.fieldLink RX7 400 "TileHouseModel" "deskSets" "I", Cond.fieldLink RX7 13 "TileHouseModel" "sorts" "[I", Cond.fieldLink RX7 94 "TileHouseModel" "deskSort" "[I", Cond.fieldLink RX7 16 "TileHouseModel" "lows" "[I", Cond.fieldLink RX7 97 "TileHouseModel" "deskKind" "[I", Cond.methodLink RX7 227 yX7_of, Cond.instanceMethod yX7_of, Cond.selects RX7 yX7_of yX7_of, Cond.code yX7_of cX7_of 4 (some .int), Cond.methodLink RX7 166 yX7_has, Cond.static yX7_has]
def wsX7_lay_r2 : List Cond := [Cond.code yX7_has cX7_has 3 (some .boolean), Cond.methodLink RX7 133 yX7_inHand, Cond.instanceMethod yX7_inHand, Cond.selects RX7 yX7_inHand yX7_inHand, Cond.code yX7_inHand cX7_inHand 3 (some .int)]
def wsX7_lay : List Cond := .code yX7_lay cX7_lay 3 (some .boolean) :: ((wsX7_lay_r1 ++ wsX7_lay_r2) ++ wsX70)
def wsX7_set_r1 : List Cond := [Cond.fieldLink RX7 103 "TileHouseModel" "thrown" "I", Cond.fieldLink RX7 137 "TileHouseModel" "laidMany" "I", Cond.fieldLink RX7 94 "TileHouseModel" "deskSort" "[I", Cond.fieldLink RX7 400 "TileHouseModel" "deskSets" "I", Cond.fieldLink RX7 97 "TileHouseModel" "deskKind" "[I", Cond.methodLink RX7 329 yX7_isKind, Cond.static yX7_isKind, Cond.initialized RX7, Cond.code yX7_isKind cX7_isKind 1 (some .boolean), Cond.methodLink RX7 157 yX7_isRun, Cond.static yX7_isRun, Cond.code yX7_isRun cX7_isRun 1 (some .boolean), Cond.methodLink RX7 403 yX7_takeDesk, Cond.instanceMethod yX7_takeDesk, Cond.selects RX7 yX7_takeDesk yX7_takeDesk, Cond.code yX7_takeDesk cX7_takeDesk 2 none, Cond.fieldLink RX7 9 "TileHouseModel" "in" "[I", Cond.fieldLink RX7 91 "TileHouseModel" "deskIn" "[I", Cond.fieldLink RX7 31 "TileHouseModel" "whole" "[I", Cond.fieldLink RX7 13 "TileHouseModel" "sorts" "[I", Cond.fieldLink RX7 16 "TileHouseModel" "lows" "[I", Cond.methodLink RX7 133 yX7_inHand, Cond.instanceMethod yX7_inHand, Cond.selects RX7 yX7_inHand yX7_inHand]
def wsX7_set_r2 : List Cond := [Cond.code yX7_inHand cX7_inHand 3 (some .int), Cond.methodLink RX7 227 yX7_of, Cond.instanceMethod yX7_of, Cond.selects RX7 yX7_of yX7_of, Cond.code yX7_of cX7_of 4 (some .int), Cond.methodLink RX7 166 yX7_has, Cond.static yX7_has, Cond.code yX7_has cX7_has 3 (some .boolean)]
def wsX7_set : List Cond := .code yX7_set cX7_set 5 (some .boolean) :: ((wsX7_set_r1 ++ wsX7_set_r2) ++ wsX70)
def wsX7_nothing : List Cond := .code yX7_nothing cX7_nothing 1 none :: ([.fieldLink RX7 117 "TileHouseModel" "ways" "I", .fieldLink RX7 120 "TileHouseModel" "bestBase" "I", .fieldLink RX7 123 "TileHouseModel" "bestHan" "I", .fieldLink RX7 126 "TileHouseModel" "bestFu" "I", .fieldLink RX7 129 "TileHouseModel" "bestForms" "J"] ++ wsX70)
def wsX7_worth_r1 : List Cond := [Cond.fieldLink RX7 103 "TileHouseModel" "thrown" "I", Cond.constantLong RX7 406 (247), Cond.fieldLink RX7 9 "TileHouseModel" "in" "[I", Cond.fieldLink RX7 100 "TileHouseModel" "told4" "[I", Cond.fieldLink RX7 120 "TileHouseModel" "bestBase" "I", Cond.fieldLink RX7 123 "TileHouseModel" "bestHan" "I", Cond.fieldLink RX7 126 "TileHouseModel" "bestFu" "I", Cond.fieldLink RX7 117 "TileHouseModel" "ways" "I", Cond.fieldLink RX7 129 "TileHouseModel" "bestForms" "J", Cond.fieldLink RX7 411 "TileHouseModel" "toldForms" "J", Cond.methodLink RX7 403 yX7_takeDesk, Cond.instanceMethod yX7_takeDesk, Cond.selects RX7 yX7_takeDesk yX7_takeDesk, Cond.initialized RX7, Cond.code yX7_takeDesk cX7_takeDesk 2 none, Cond.fieldLink RX7 91 "TileHouseModel" "deskIn" "[I", Cond.fieldLink RX7 31 "TileHouseModel" "whole" "[I", Cond.fieldLink RX7 400 "TileHouseModel" "deskSets" "I", Cond.fieldLink RX7 137 "TileHouseModel" "laidMany" "I", Cond.fieldLink RX7 13 "TileHouseModel" "sorts" "[I", Cond.fieldLink RX7 94 "TileHouseModel" "deskSort" "[I", Cond.fieldLink RX7 16 "TileHouseModel" "lows" "[I", Cond.fieldLink RX7 97 "TileHouseModel" "deskKind" "[I", Cond.methodLink RX7 201 yX7_bit]
def wsX7_worth_r2 : List Cond := [Cond.static yX7_bit, Cond.code yX7_bit cX7_bit 1 (some .long), Cond.methodLink RX7 329 yX7_isKind, Cond.static yX7_isKind, Cond.code yX7_isKind cX7_isKind 1 (some .boolean), Cond.methodLink RX7 293 yX7_reckon, Cond.instanceMethod yX7_reckon, Cond.selects RX7 yX7_reckon yX7_reckon, Cond.code yX7_reckon cX7_reckon 9 none, Cond.fieldLink RX7 163 "TileHouseModel" "winner" "I", Cond.fieldLink RX7 176 "TileHouseModel" "drawn" "Z", Cond.fieldLink RX7 231 "TileHouseModel" "told" "J", Cond.fieldLink RX7 189 "TileHouseModel" "seatWind" "I", Cond.fieldLink RX7 192 "TileHouseModel" "roundWind" "I", Cond.fieldLink RX7 238 "TileHouseModel" "dear" "I", Cond.methodLink RX7 247 yX7_apart, Cond.instanceMethod yX7_apart, Cond.selects RX7 yX7_apart yX7_apart, Cond.code yX7_apart cX7_apart 6 none, Cond.fieldLink RX7 113 "TileHouseModel" "isFull" "Z", Cond.methodLink RX7 133 yX7_inHand, Cond.instanceMethod yX7_inHand, Cond.selects RX7 yX7_inHand yX7_inHand, Cond.code yX7_inHand cX7_inHand 3 (some .int)]
def wsX7_worth_r3 : List Cond := [Cond.methodLink RX7 140 yX7_sets, Cond.instanceMethod yX7_sets, Cond.selects RX7 yX7_sets yX7_sets, Cond.code yX7_sets cX7_sets 7 none, Cond.fieldLink RX7 19 "TileHouseModel" "waySort" "[I", Cond.fieldLink RX7 22 "TileHouseModel" "wayLow" "[I", Cond.methodLink RX7 153 yX7_way, Cond.instanceMethod yX7_way, Cond.selects RX7 yX7_way yX7_way, Cond.code yX7_way cX7_way 5 none, Cond.fieldLink RX7 160 "TileHouseModel" "pairKind" "I", Cond.fieldLink RX7 25 "TileHouseModel" "allSort" "[I", Cond.fieldLink RX7 28 "TileHouseModel" "allLow" "[I", Cond.fieldLink RX7 170 "TileHouseModel" "completes" "I", Cond.methodLink RX7 166 yX7_has, Cond.static yX7_has, Cond.code yX7_has cX7_has 3 (some .boolean), Cond.methodLink RX7 173 yX7_firstSort, Cond.instanceMethod yX7_firstSort, Cond.selects RX7 yX7_firstSort yX7_firstSort, Cond.code yX7_firstSort cX7_firstSort 14 none, Cond.fieldLink RX7 195 "TileHouseModel" "great" "J", Cond.fieldLink RX7 198 "TileHouseModel" "plain" "J", Cond.fieldLink RX7 220 "TileHouseModel" "fu" "I"]
def wsX7_worth_r4 : List Cond := [Cond.methodLink RX7 179 yX7_isOpen, Cond.instanceMethod yX7_isOpen, Cond.selects RX7 yX7_isOpen yX7_isOpen, Cond.code yX7_isOpen cX7_isOpen 3 (some .boolean), Cond.methodLink RX7 183 yX7_isHidden, Cond.instanceMethod yX7_isHidden, Cond.selects RX7 yX7_isHidden yX7_isHidden, Cond.code yX7_isHidden cX7_isHidden 2 (some .boolean), Cond.methodLink RX7 186 yX7_isDragon, Cond.static yX7_isDragon, Cond.code yX7_isDragon cX7_isDragon 1 (some .boolean), Cond.methodLink RX7 205 yX7_twins, Cond.instanceMethod yX7_twins, Cond.selects RX7 yX7_twins yX7_twins, Cond.code yX7_twins cX7_twins 5 none, Cond.methodLink RX7 208 yX7_hasThree, Cond.instanceMethod yX7_hasThree, Cond.selects RX7 yX7_hasThree yX7_hasThree, Cond.code yX7_hasThree cX7_hasThree 4 (some .boolean), Cond.methodLink RX7 211 yX7_hasRun, Cond.instanceMethod yX7_hasRun, Cond.selects RX7 yX7_hasRun yX7_hasRun, Cond.code yX7_hasRun cX7_hasRun 4 (some .boolean), Cond.methodLink RX7 214 yX7_edges]
def wsX7_worth_r5 : List Cond := [Cond.instanceMethod yX7_edges, Cond.selects RX7 yX7_edges yX7_edges, Cond.code yX7_edges cX7_edges 9 none, Cond.methodLink RX7 144 yX7_isEnd, Cond.static yX7_isEnd, Cond.code yX7_isEnd cX7_isEnd 1 (some .boolean), Cond.methodLink RX7 106 yX7_isHonour, Cond.static yX7_isHonour, Cond.code yX7_isHonour cX7_isHonour 1 (some .boolean), Cond.methodLink RX7 110 yX7_isTerminal, Cond.static yX7_isTerminal, Cond.code yX7_isTerminal cX7_isTerminal 1 (some .boolean), Cond.methodLink RX7 217 yX7_tiles, Cond.instanceMethod yX7_tiles, Cond.selects RX7 yX7_tiles yX7_tiles, Cond.code yX7_tiles cX7_tiles 12 none, Cond.methodLink RX7 227 yX7_of, Cond.instanceMethod yX7_of, Cond.selects RX7 yX7_of yX7_of, Cond.code yX7_of cX7_of 4 (some .int), Cond.methodLink RX7 223 yX7_compare, Cond.instanceMethod yX7_compare, Cond.selects RX7 yX7_compare yX7_compare, Cond.code yX7_compare cX7_compare 7 none]
def wsX7_worth_r6 : List Cond := [Cond.methodLink RX7 241 Lib.Math.min.name, Cond.static Lib.Math.min.name, Cond.initialized "java/lang/Math", Cond.code Lib.Math.min.name Lib.Math.min.code 2 (some .int), Cond.methodLink RX7 234 yX7_han, Cond.static yX7_han, Cond.code yX7_han cX7_han 2 (some .int), Cond.methodLink RX7 157 yX7_isRun, Cond.static yX7_isRun, Cond.code yX7_isRun cX7_isRun 1 (some .boolean), Cond.methodLink RX7 147 yX7_pairsWay, Cond.instanceMethod yX7_pairsWay, Cond.selects RX7 yX7_pairsWay yX7_pairsWay, Cond.code yX7_pairsWay cX7_pairsWay 1 none, Cond.methodLink RX7 150 yX7_thirteen, Cond.instanceMethod yX7_thirteen, Cond.selects RX7 yX7_thirteen yX7_thirteen, Cond.code yX7_thirteen cX7_thirteen 1 none, Cond.methodLink RX7 408 yX7_nothing, Cond.instanceMethod yX7_nothing, Cond.selects RX7 yX7_nothing yX7_nothing, Cond.code yX7_nothing cX7_nothing 1 none]
def wsX7_worth : List Cond := .code yX7_worth cX7_worth 9 (some .int) :: ((wsX7_worth_r1 ++ (wsX7_worth_r2 ++ (wsX7_worth_r3 ++ (wsX7_worth_r4 ++ (wsX7_worth_r5 ++ wsX7_worth_r6))))) ++ wsX70)
def wsX7_desk : List Cond := .code yX7_desk cX7_desk 2 (some .int) :: ([.fieldLink RX7 103 "TileHouseModel" "thrown" "I", .fieldLink RX7 100 "TileHouseModel" "told4" "[I"] ++ wsX70)
def wsX7_deskForms : List Cond := .code yX7_deskForms cX7_deskForms 1 (some .long) :: ([.fieldLink RX7 103 "TileHouseModel" "thrown" "I", .fieldLink RX7 411 "TileHouseModel" "toldForms" "J"] ++ wsX70)
def wsX7_deskWaits_r1 : List Cond := [Cond.fieldLink RX7 103 "TileHouseModel" "thrown" "I", Cond.methodLink RX7 403 yX7_takeDesk, Cond.instanceMethod yX7_takeDesk, Cond.selects RX7 yX7_takeDesk yX7_takeDesk, Cond.initialized RX7, Cond.code yX7_takeDesk cX7_takeDesk 2 none, Cond.fieldLink RX7 9 "TileHouseModel" "in" "[I", Cond.fieldLink RX7 91 "TileHouseModel" "deskIn" "[I", Cond.fieldLink RX7 31 "TileHouseModel" "whole" "[I", Cond.fieldLink RX7 400 "TileHouseModel" "deskSets" "I", Cond.fieldLink RX7 137 "TileHouseModel" "laidMany" "I", Cond.fieldLink RX7 13 "TileHouseModel" "sorts" "[I", Cond.fieldLink RX7 94 "TileHouseModel" "deskSort" "[I", Cond.fieldLink RX7 16 "TileHouseModel" "lows" "[I", Cond.fieldLink RX7 97 "TileHouseModel" "deskKind" "[I", Cond.methodLink RX7 261 yX7_waitsOf, Cond.instanceMethod yX7_waitsOf, Cond.selects RX7 yX7_waitsOf yX7_waitsOf, Cond.code yX7_waitsOf cX7_waitsOf 5 (some .long), Cond.fieldLink RX7 113 "TileHouseModel" "isFull" "Z", Cond.methodLink RX7 133 yX7_inHand, Cond.instanceMethod yX7_inHand, Cond.selects RX7 yX7_inHand yX7_inHand, Cond.code yX7_inHand cX7_inHand 3 (some .int)]
def wsX7_deskWaits_r2 : List Cond := [Cond.methodLink RX7 227 yX7_of, Cond.instanceMethod yX7_of, Cond.selects RX7 yX7_of yX7_of, Cond.code yX7_of cX7_of 4 (some .int), Cond.methodLink RX7 166 yX7_has, Cond.static yX7_has, Cond.code yX7_has cX7_has 3 (some .boolean), Cond.methodLink RX7 247 yX7_apart, Cond.instanceMethod yX7_apart, Cond.selects RX7 yX7_apart yX7_apart, Cond.code yX7_apart cX7_apart 6 none, Cond.fieldLink RX7 117 "TileHouseModel" "ways" "I", Cond.fieldLink RX7 120 "TileHouseModel" "bestBase" "I", Cond.fieldLink RX7 123 "TileHouseModel" "bestHan" "I", Cond.fieldLink RX7 126 "TileHouseModel" "bestFu" "I", Cond.fieldLink RX7 129 "TileHouseModel" "bestForms" "J", Cond.methodLink RX7 140 yX7_sets, Cond.instanceMethod yX7_sets, Cond.selects RX7 yX7_sets yX7_sets, Cond.code yX7_sets cX7_sets 7 none, Cond.fieldLink RX7 19 "TileHouseModel" "waySort" "[I", Cond.fieldLink RX7 22 "TileHouseModel" "wayLow" "[I", Cond.methodLink RX7 153 yX7_way, Cond.instanceMethod yX7_way]
def wsX7_deskWaits_r3 : List Cond := [Cond.selects RX7 yX7_way yX7_way, Cond.code yX7_way cX7_way 5 none, Cond.fieldLink RX7 160 "TileHouseModel" "pairKind" "I", Cond.fieldLink RX7 25 "TileHouseModel" "allSort" "[I", Cond.fieldLink RX7 28 "TileHouseModel" "allLow" "[I", Cond.fieldLink RX7 163 "TileHouseModel" "winner" "I", Cond.fieldLink RX7 170 "TileHouseModel" "completes" "I", Cond.methodLink RX7 173 yX7_firstSort, Cond.instanceMethod yX7_firstSort, Cond.selects RX7 yX7_firstSort yX7_firstSort, Cond.code yX7_firstSort cX7_firstSort 14 none, Cond.fieldLink RX7 189 "TileHouseModel" "seatWind" "I", Cond.fieldLink RX7 192 "TileHouseModel" "roundWind" "I", Cond.fieldLink RX7 195 "TileHouseModel" "great" "J", Cond.fieldLink RX7 198 "TileHouseModel" "plain" "J", Cond.fieldLink RX7 176 "TileHouseModel" "drawn" "Z", Cond.fieldLink RX7 220 "TileHouseModel" "fu" "I", Cond.methodLink RX7 179 yX7_isOpen, Cond.instanceMethod yX7_isOpen, Cond.selects RX7 yX7_isOpen yX7_isOpen, Cond.code yX7_isOpen cX7_isOpen 3 (some .boolean), Cond.methodLink RX7 183 yX7_isHidden, Cond.instanceMethod yX7_isHidden, Cond.selects RX7 yX7_isHidden yX7_isHidden]
def wsX7_deskWaits_r4 : List Cond := [Cond.code yX7_isHidden cX7_isHidden 2 (some .boolean), Cond.methodLink RX7 186 yX7_isDragon, Cond.static yX7_isDragon, Cond.code yX7_isDragon cX7_isDragon 1 (some .boolean), Cond.methodLink RX7 201 yX7_bit, Cond.static yX7_bit, Cond.code yX7_bit cX7_bit 1 (some .long), Cond.methodLink RX7 205 yX7_twins, Cond.instanceMethod yX7_twins, Cond.selects RX7 yX7_twins yX7_twins, Cond.code yX7_twins cX7_twins 5 none, Cond.methodLink RX7 208 yX7_hasThree, Cond.instanceMethod yX7_hasThree, Cond.selects RX7 yX7_hasThree yX7_hasThree, Cond.code yX7_hasThree cX7_hasThree 4 (some .boolean), Cond.methodLink RX7 211 yX7_hasRun, Cond.instanceMethod yX7_hasRun, Cond.selects RX7 yX7_hasRun yX7_hasRun, Cond.code yX7_hasRun cX7_hasRun 4 (some .boolean), Cond.methodLink RX7 214 yX7_edges, Cond.instanceMethod yX7_edges, Cond.selects RX7 yX7_edges yX7_edges, Cond.code yX7_edges cX7_edges 9 none, Cond.methodLink RX7 144 yX7_isEnd]
def wsX7_deskWaits_r5 : List Cond := [Cond.static yX7_isEnd, Cond.code yX7_isEnd cX7_isEnd 1 (some .boolean), Cond.methodLink RX7 106 yX7_isHonour, Cond.static yX7_isHonour, Cond.code yX7_isHonour cX7_isHonour 1 (some .boolean), Cond.methodLink RX7 110 yX7_isTerminal, Cond.static yX7_isTerminal, Cond.code yX7_isTerminal cX7_isTerminal 1 (some .boolean), Cond.methodLink RX7 217 yX7_tiles, Cond.instanceMethod yX7_tiles, Cond.selects RX7 yX7_tiles yX7_tiles, Cond.code yX7_tiles cX7_tiles 12 none, Cond.methodLink RX7 223 yX7_compare, Cond.instanceMethod yX7_compare, Cond.selects RX7 yX7_compare yX7_compare, Cond.code yX7_compare cX7_compare 7 none, Cond.fieldLink RX7 231 "TileHouseModel" "told" "J", Cond.fieldLink RX7 238 "TileHouseModel" "dear" "I", Cond.methodLink RX7 241 Lib.Math.min.name, Cond.static Lib.Math.min.name, Cond.initialized "java/lang/Math", Cond.code Lib.Math.min.name Lib.Math.min.code 2 (some .int), Cond.methodLink RX7 234 yX7_han, Cond.static yX7_han]
def wsX7_deskWaits_r6 : List Cond := [Cond.code yX7_han cX7_han 2 (some .int), Cond.methodLink RX7 157 yX7_isRun, Cond.static yX7_isRun, Cond.code yX7_isRun cX7_isRun 1 (some .boolean), Cond.methodLink RX7 147 yX7_pairsWay, Cond.instanceMethod yX7_pairsWay, Cond.selects RX7 yX7_pairsWay yX7_pairsWay, Cond.code yX7_pairsWay cX7_pairsWay 1 none, Cond.methodLink RX7 150 yX7_thirteen, Cond.instanceMethod yX7_thirteen, Cond.selects RX7 yX7_thirteen yX7_thirteen, Cond.code yX7_thirteen cX7_thirteen 1 none]
def wsX7_deskWaits : List Cond := .code yX7_deskWaits cX7_deskWaits 1 (some .long) :: ((wsX7_deskWaits_r1 ++ (wsX7_deskWaits_r2 ++ (wsX7_deskWaits_r3 ++ (wsX7_deskWaits_r4 ++ (wsX7_deskWaits_r5 ++ wsX7_deskWaits_r6))))) ++ wsX70)
def wsJ9_max_7cf53 : List Cond := .code yJ9_max_7cf53 cJ9_max_7cf53 2 (some .int) :: ([])
def wsJ9_min_7cf53 : List Cond := .code yJ9_min_7cf53 cJ9_min_7cf53 2 (some .int) :: ([])
def wsL_river : List Cond := .codeWith yL_river cL_river 5 (some .int) [(0, 10, 13, 13)] :: ([.classLink RL 13 "java/util/NoSuchElementException", .methodLink RL 7 yX6_river, .instanceMethod yX6_river, .selects RX6 yX6_river yX6_river, .initialized RX6, .code yX6_river cX6_river 3 (some .int), .classLink RX6 253 "java/util/NoSuchElementException", .initialized "java/util/NoSuchElementException", .fieldLink RX6 107 "TileHouse$Seat" "discards" "I", .methodLink RX6 213 yX6_isSeat, .static yX6_isSeat, .code yX6_isSeat cX6_isSeat 1 (some .boolean), .methodLink RX6 65 yX6_at, .instanceMethod yX6_at, .selects RX6 yX6_at yX6_at, .code yX6_at cX6_at 2 (some (.object "TileHouse$Seat")), .fieldLink RX6 11 "TileHouse" "players" "[LTileHouse$Seat;", .methodLink RX6 260 yX2_thrown, .instanceMethod yX2_thrown, .selects RX2 yX2_thrown yX2_thrown, .initialized RX2, .code yX2_thrown cX2_thrown 2 (some .int), .fieldLink RX2 18 "TileHouse$Seat" "thrown" "[I"] ++ wsX20 ++ wsX60 ++ cx_at.filter goodWord)
def wsL_wall : List Cond := .codeWith yL_wall cL_wall 4 (some .int) [(0, 9, 12, 13)] :: ([.classLink RL 13 "java/util/NoSuchElementException", .methodLink RL 15 yX6_wall, .instanceMethod yX6_wall, .selects RX6 yX6_wall yX6_wall, .initialized RX6, .code yX6_wall cX6_wall 3 (some .int), .classLink RX6 253 "java/util/NoSuchElementException", .initialized "java/util/NoSuchElementException", .fieldLink RX6 18 "TileHouse" "bricks" "LTileHouse$Wall;", .methodLink RX6 75 yX4_kindAt, .instanceMethod yX4_kindAt, .selects RX4 yX4_kindAt yX4_kindAt, .initialized RX4, .code yX4_kindAt cX4_kindAt 2 (some .int), .fieldLink RX4 19 "TileHouse$Wall" "stands" "Z", .fieldLink RX4 11 "TileHouse$Wall" "kinds" "[I"] ++ wsX60 ++ wsX40 ++ cx_at.filter goodWord)
def wsL_law0_r1 : List Cond := [Cond.classLink RL 8 RX6, Cond.instantiable RX6 19, Cond.initialized RX6, Cond.classLink RL 20 RX7, Cond.instantiable RX7 68, Cond.initialized RX7, Cond.arrayClass .long, Cond.constantLong RL 23 (4294967295), Cond.methodLink RL 19 yX6_init, Cond.instanceMethod yX6_init, Cond.code yX6_init cX6_init 2 none, Cond.methodLink RX6 3 objectInit, Cond.instanceMethod objectInit, Cond.code objectInit ⟨#[0xb1]⟩ 1 none, Cond.classLink RX6 9 RX2, Cond.fieldLink RX6 11 "TileHouse" "players" "[LTileHouse$Seat;", Cond.classLink RX6 15 RX4, Cond.instantiable RX4 4, Cond.initialized RX4, Cond.fieldLink RX6 18 "TileHouse" "bricks" "LTileHouse$Wall;", Cond.classLink RX6 22 RX1, Cond.instantiable RX1 19, Cond.initialized RX1, Cond.fieldLink RX6 25 "TileHouse" "judge" "LTileHouse$Judge;"]
def wsL_law0_r2 : List Cond := [Cond.classLink RX6 29 RX5, Cond.fieldLink RX6 31 "TileHouse" "wins" "[LTileHouse$Win;", Cond.classLink RX6 35 RX3, Cond.instantiable RX3 6, Cond.initialized RX3, Cond.fieldLink RX6 38 "TileHouse" "deskTiles" "LTileHouse$Tiles;", Cond.fieldLink RX6 42 "TileHouse" "deskJudge" "LTileHouse$Judge;", Cond.fieldLink RX6 45 "TileHouse" "phase" "I", Cond.fieldLink RX6 49 "TileHouse" "tile" "I", Cond.instantiable RX2 10, Cond.initialized RX2, Cond.instantiable RX5 8, Cond.initialized RX5, Cond.instanceMethod yX4_init, Cond.code yX4_init cX4_init 1 none, Cond.methodLink RX4 3 objectInit, Cond.arrayClass .int, Cond.fieldLink RX4 11 "TileHouse$Wall" "kinds" "[I", Cond.instanceMethod yX1_init, Cond.code yX1_init cX1_init 1 none, Cond.methodLink RX1 3 objectInit, Cond.fieldLink RX1 9 "TileHouse$Judge" "sort" "[I", Cond.fieldLink RX1 15 "TileHouse$Judge" "low" "[I", Cond.fieldLink RX1 18 "TileHouse$Judge" "mayBeThrees" "[I"]
def wsL_law0_r3 : List Cond := [Cond.instanceMethod yX3_init, Cond.code yX3_init cX3_init 1 none, Cond.methodLink RX3 3 objectInit, Cond.fieldLink RX3 9 "TileHouse$Tiles" "free" "[I", Cond.fieldLink RX3 15 "TileHouse$Tiles" "all" "[I", Cond.fieldLink RX3 18 "TileHouse$Tiles" "sort" "[I", Cond.fieldLink RX3 21 "TileHouse$Tiles" "low" "[I", Cond.instanceMethod yX2_init, Cond.code yX2_init cX2_init 1 none, Cond.methodLink RX2 3 objectInit, Cond.classLink RX2 9 RX3, Cond.fieldLink RX2 12 "TileHouse$Seat" "tiles" "LTileHouse$Tiles;", Cond.fieldLink RX2 18 "TileHouse$Seat" "thrown" "[I", Cond.fieldLink RX2 22 "TileHouse$Seat" "points" "I", Cond.instanceMethod yX5_init, Cond.code yX5_init cX5_init 1 none, Cond.methodLink RX5 3 objectInit, Cond.methodLink RL 22 yX7_init, Cond.instanceMethod yX7_init, Cond.code yX7_init cX7_init 1 none, Cond.methodLink RX7 1 objectInit, Cond.fieldLink RX7 9 "TileHouseModel" "in" "[I", Cond.fieldLink RX7 13 "TileHouseModel" "sorts" "[I", Cond.fieldLink RX7 16 "TileHouseModel" "lows" "[I"]
def wsL_law0_r4 : List Cond := [Cond.fieldLink RX7 19 "TileHouseModel" "waySort" "[I", Cond.fieldLink RX7 22 "TileHouseModel" "wayLow" "[I", Cond.fieldLink RX7 25 "TileHouseModel" "allSort" "[I", Cond.fieldLink RX7 28 "TileHouseModel" "allLow" "[I", Cond.fieldLink RX7 31 "TileHouseModel" "whole" "[I", Cond.fieldLink RX7 34 "TileHouseModel" "wall" "[I", Cond.fieldLink RX7 37 "TileHouseModel" "hands" "[I", Cond.fieldLink RX7 40 "TileHouseModel" "points" "[I", Cond.fieldLink RX7 43 "TileHouseModel" "setSort" "[I", Cond.fieldLink RX7 46 "TileHouseModel" "setKind" "[I", Cond.fieldLink RX7 49 "TileHouseModel" "setMany" "[I", Cond.fieldLink RX7 52 "TileHouseModel" "rivers" "[I", Cond.fieldLink RX7 55 "TileHouseModel" "riverMany" "[I", Cond.fieldLink RX7 58 "TileHouseModel" "bet" "[I", Cond.fieldLink RX7 61 "TileHouseModel" "draws" "[I", Cond.arrayClass .boolean, Cond.fieldLink RX7 64 "TileHouseModel" "atOnce" "[Z", Cond.fieldLink RX7 68 "TileHouseModel" "letGo" "[Z", Cond.fieldLink RX7 71 "TileHouseModel" "says" "[Z", Cond.fieldLink RX7 74 "TileHouseModel" "tile" "I", Cond.fieldLink RX7 78 "TileHouseModel" "banned" "I", Cond.fieldLink RX7 81 "TileHouseModel" "alsoBanned" "I", Cond.fieldLink RX7 84 "TileHouseModel" "won" "[I", Cond.fieldLink RX7 87 "TileHouseModel" "wonForms" "[J"]
def wsL_law0_r5 : List Cond := [Cond.fieldLink RX7 91 "TileHouseModel" "deskIn" "[I", Cond.fieldLink RX7 94 "TileHouseModel" "deskSort" "[I", Cond.fieldLink RX7 97 "TileHouseModel" "deskKind" "[I", Cond.fieldLink RX7 100 "TileHouseModel" "told4" "[I", Cond.methodLink RL 25 yX6_deal, Cond.instanceMethod yX6_deal, Cond.selects RX6 yX6_deal yX6_deal, Cond.code yX6_deal cX6_deal 6 (some .boolean), Cond.fieldLink RX6 54 "TileHouse" "ended" "Z", Cond.fieldLink RX6 62 "TileHouse" "dealer" "I", Cond.fieldLink RX6 72 "TileHouse$Seat" "tiles" "LTileHouse$Tiles;", Cond.fieldLink RX6 83 "TileHouse" "winCount" "I", Cond.fieldLink RX6 86 "TileHouse" "broken" "Z", Cond.methodLink RX6 58 yX4_build, Cond.instanceMethod yX4_build, Cond.selects RX4 yX4_build yX4_build, Cond.code yX4_build cX4_build 8 none, Cond.constantLong RX4 15 (6364136223846793005), Cond.constantLong RX4 17 (1442695040888963407), Cond.fieldLink RX4 19 "TileHouse$Wall" "stands" "Z", Cond.fieldLink RX4 23 "TileHouse$Wall" "next" "I", Cond.fieldLink RX4 27 "TileHouse$Wall" "fours" "I", Cond.methodLink RX6 65 yX6_at, Cond.instanceMethod yX6_at]
def wsL_law0_r6 : List Cond := [Cond.selects RX6 yX6_at yX6_at, Cond.code yX6_at cX6_at 2 (some (.object "TileHouse$Seat")), Cond.methodLink RX6 69 yX2_startHand, Cond.instanceMethod yX2_startHand, Cond.selects RX2 yX2_startHand yX2_startHand, Cond.code yX2_startHand cX2_startHand 1 none, Cond.fieldLink RX2 29 "TileHouse$Seat" "discards" "I", Cond.fieldLink RX2 32 "TileHouse$Seat" "thrownKinds" "J", Cond.fieldLink RX2 36 "TileHouse$Seat" "bet" "I", Cond.fieldLink RX2 39 "TileHouse$Seat" "owes" "Z", Cond.fieldLink RX2 43 "TileHouse$Seat" "atOnce" "Z", Cond.fieldLink RX2 46 "TileHouse$Seat" "letGo" "Z", Cond.fieldLink RX2 49 "TileHouse$Seat" "says" "Z", Cond.methodLink RX2 26 yX3_empty, Cond.instanceMethod yX3_empty, Cond.selects RX3 yX3_empty yX3_empty, Cond.code yX3_empty cX3_empty 2 none, Cond.fieldLink RX3 24 "TileHouse$Tiles" "laidDown" "I", Cond.fieldLink RX3 28 "TileHouse$Tiles" "loose" "I", Cond.methodLink RX6 75 yX4_kindAt, Cond.instanceMethod yX4_kindAt, Cond.selects RX4 yX4_kindAt yX4_kindAt, Cond.code yX4_kindAt cX4_kindAt 2 (some .int), Cond.methodLink RX6 79 yX3_put]
def wsL_law0_r7 : List Cond := [Cond.instanceMethod yX3_put, Cond.selects RX3 yX3_put yX3_put, Cond.code yX3_put cX3_put 3 none, Cond.static yX6_isKind, Cond.code yX6_isKind cX6_isKind 1 (some .boolean), Cond.methodLink RX6 89 yX6_drawTile, Cond.instanceMethod yX6_drawTile, Cond.selects RX6 yX6_drawTile yX6_drawTile, Cond.code yX6_drawTile cX6_drawTile 4 none, Cond.fieldLink RX6 97 "TileHouse" "turn" "I", Cond.fieldLink RX6 319 "TileHouse" "behindFour" "Z", Cond.fieldLink RX6 123 "TileHouse" "barred" "J", Cond.fieldLink RX6 110 "TileHouse$Seat" "bet" "I", Cond.fieldLink RX6 219 "TileHouse$Seat" "letGo" "Z", Cond.methodLink RX6 322 yX4_drawBehindFour, Cond.instanceMethod yX4_drawBehindFour, Cond.selects RX4 yX4_drawBehindFour yX4_drawBehindFour, Cond.code yX4_drawBehindFour cX4_drawBehindFour 1 (some .int), Cond.methodLink RX4 30 yX4_kindAt, Cond.methodLink RX6 325 yX4_draw, Cond.instanceMethod yX4_draw, Cond.selects RX4 yX4_draw yX4_draw, Cond.code yX4_draw cX4_draw 1 (some .int), Cond.methodLink RL 29 yX7_deal]
def wsL_law0_r8 : List Cond := [Cond.instanceMethod yX7_deal, Cond.selects RX7 yX7_deal yX7_deal, Cond.code yX7_deal cX7_deal 8 (some .boolean), Cond.fieldLink RX7 103 "TileHouseModel" "thrown" "I", Cond.fieldLink RX7 277 "TileHouseModel" "phase" "I", Cond.fieldLink RX7 310 "TileHouseModel" "ended" "Z", Cond.constantLong RX7 313 (6364136223846793005), Cond.constantLong RX7 315 (1442695040888963407), Cond.fieldLink RX7 265 "TileHouseModel" "dealer" "I", Cond.fieldLink RX7 253 "TileHouseModel" "next" "I", Cond.fieldLink RX7 250 "TileHouseModel" "fours" "I", Cond.fieldLink RX7 297 "TileHouseModel" "backs" "I", Cond.fieldLink RX7 317 "TileHouseModel" "wins" "I", Cond.fieldLink RX7 280 "TileHouseModel" "untouched" "Z", Cond.fieldLink RX7 320 "TileHouseModel" "betWaits" "Z", Cond.fieldLink RX7 323 "TileHouseModel" "isDealt" "Z", Cond.methodLink RX7 300 yX7_gives, Cond.instanceMethod yX7_gives, Cond.selects RX7 yX7_gives yX7_gives, Cond.code yX7_gives cX7_gives 4 none, Cond.methodLink RX7 326 yX7_draws, Cond.instanceMethod yX7_draws, Cond.selects RX7 yX7_draws yX7_draws, Cond.code yX7_draws cX7_draws 4 none]
def wsL_law0_r9 : List Cond := [Cond.fieldLink RX7 304 "TileHouseModel" "turn" "I", Cond.fieldLink RX7 307 "TileHouseModel" "justClaimed" "Z", Cond.fieldLink RX7 274 "TileHouseModel" "behindFour" "Z", Cond.methodLink RL 30 yX6_discard, Cond.instanceMethod yX6_discard, Cond.selects RX6 yX6_discard yX6_discard, Cond.code yX6_discard cX6_discard 4 (some .boolean), Cond.fieldLink RX6 107 "TileHouse$Seat" "discards" "I", Cond.fieldLink RX6 113 "TileHouse$Seat" "owes" "Z", Cond.fieldLink RX6 116 "TileHouse$Seat" "atOnce" "Z", Cond.methodLink RX6 93 yX6_mayThrow, Cond.instanceMethod yX6_mayThrow, Cond.selects RX6 yX6_mayThrow yX6_mayThrow, Cond.code yX6_mayThrow cX6_mayThrow 3 (some .boolean), Cond.methodLink RX6 173 yX3_free, Cond.instanceMethod yX3_free, Cond.selects RX3 yX3_free yX3_free, Cond.code yX3_free cX3_free 2 (some .int), Cond.methodLink RX6 226 yX6_holds, Cond.static yX6_holds, Cond.code yX6_holds cX6_holds 3 (some .boolean), Cond.methodLink RX6 100 yX3_take, Cond.instanceMethod yX3_take, Cond.selects RX3 yX3_take yX3_take]
def wsL_law0_r10 : List Cond := [Cond.code yX3_take cX3_take 3 none, Cond.methodLink RX3 35 yX3_put, Cond.methodLink RX6 103 yX6_mayBet, Cond.instanceMethod yX6_mayBet, Cond.selects RX6 yX6_mayBet yX6_mayBet, Cond.code yX6_mayBet cX6_mayBet 2 (some .boolean), Cond.fieldLink RX6 203 "TileHouse$Seat" "points" "I", Cond.methodLink RX6 266 yX3_isOpen, Cond.instanceMethod yX3_isOpen, Cond.selects RX3 yX3_isOpen yX3_isOpen, Cond.code yX3_isOpen cX3_isOpen 2 (some .boolean), Cond.methodLink RX6 140 yX4_left, Cond.instanceMethod yX4_left, Cond.selects RX4 yX4_left yX4_left, Cond.code yX4_left cX4_left 1 (some .int), Cond.methodLink RX6 222 yX3_waiting, Cond.instanceMethod yX3_waiting, Cond.selects RX3 yX3_waiting yX3_waiting, Cond.code yX3_waiting cX3_waiting 4 (some .long), Cond.methodLink RX3 45 yX3_waitsFor, Cond.instanceMethod yX3_waitsFor, Cond.selects RX3 yX3_waitsFor yX3_waitsFor, Cond.code yX3_waitsFor cX3_waitsFor 3 (some .boolean), Cond.methodLink RX3 48 yX3_size]
def wsL_law0_r11 : List Cond := [Cond.instanceMethod yX3_size, Cond.selects RX3 yX3_size yX3_size, Cond.code yX3_size cX3_size 1 (some .int), Cond.methodLink RX3 52 yX3_isSevenPairs, Cond.instanceMethod yX3_isSevenPairs, Cond.selects RX3 yX3_isSevenPairs yX3_isSevenPairs, Cond.code yX3_isSevenPairs cX3_isSevenPairs 2 (some .boolean), Cond.methodLink RX3 56 yX3_isThirteen, Cond.instanceMethod yX3_isThirteen, Cond.selects RX3 yX3_isThirteen yX3_isThirteen, Cond.code yX3_isThirteen cX3_isThirteen 1 (some .boolean), Cond.constantLong RX3 69 (17113154305), Cond.methodLink RX3 65 yX3_kinds, Cond.instanceMethod yX3_kinds, Cond.selects RX3 yX3_kinds yX3_kinds, Cond.code yX3_kinds cX3_kinds 4 (some .long), Cond.methodLink RX3 59 yX3_isSetsAndPair, Cond.instanceMethod yX3_isSetsAndPair, Cond.selects RX3 yX3_isSetsAndPair yX3_isSetsAndPair, Cond.code yX3_isSetsAndPair cX3_isSetsAndPair 2 (some .boolean), Cond.methodLink RX3 71 yX3_splitsBeside, Cond.instanceMethod yX3_splitsBeside, Cond.selects RX3 yX3_splitsBeside yX3_splitsBeside, Cond.code yX3_splitsBeside cX3_splitsBeside 7 (some .boolean)]
def wsL_law0_r12 : List Cond := [Cond.static yX6_startsRun, Cond.code yX6_startsRun cX6_startsRun 1 (some .boolean), Cond.methodLink RX3 62 yX3_take, Cond.methodLink RX6 119 yX2_throwTile, Cond.instanceMethod yX2_throwTile, Cond.selects RX2 yX2_throwTile yX2_throwTile, Cond.code yX2_throwTile cX2_throwTile 2 none, Cond.methodLink RL 34 yX7_discard, Cond.instanceMethod yX7_discard, Cond.selects RX7 yX7_discard yX7_discard, Cond.code yX7_discard cX7_discard 5 (some .boolean), Cond.methodLink RX7 329 yX7_isKind, Cond.static yX7_isKind, Cond.code yX7_isKind cX7_isKind 1 (some .boolean), Cond.methodLink RX7 256 yX7_has_, Cond.instanceMethod yX7_has_, Cond.selects RX7 yX7_has_ yX7_has_, Cond.code yX7_has_ cX7_has_ 3 (some .int), Cond.methodLink RX7 332 yX7_isOpen_, Cond.instanceMethod yX7_isOpen_, Cond.selects RX7 yX7_isOpen_ yX7_isOpen_, Cond.code yX7_isOpen_ cX7_isOpen_ 4 (some .boolean), Cond.methodLink RX7 271 yX7_left, Cond.instanceMethod yX7_left]
def wsL_law0_r13 : List Cond := [Cond.selects RX7 yX7_left yX7_left, Cond.code yX7_left cX7_left 1 (some .int), Cond.methodLink RX7 334 yX7_waitsAt, Cond.instanceMethod yX7_waitsAt, Cond.selects RX7 yX7_waitsAt yX7_waitsAt, Cond.code yX7_waitsAt cX7_waitsAt 2 (some .long), Cond.methodLink RX7 258 yX7_take, Cond.instanceMethod yX7_take, Cond.selects RX7 yX7_take yX7_take, Cond.code yX7_take cX7_take 3 none, Cond.fieldLink RX7 137 "TileHouseModel" "laidMany" "I", Cond.methodLink RX7 261 yX7_waitsOf, Cond.instanceMethod yX7_waitsOf, Cond.selects RX7 yX7_waitsOf yX7_waitsOf, Cond.code yX7_waitsOf cX7_waitsOf 5 (some .long), Cond.fieldLink RX7 113 "TileHouseModel" "isFull" "Z", Cond.methodLink RX7 133 yX7_inHand, Cond.instanceMethod yX7_inHand, Cond.selects RX7 yX7_inHand yX7_inHand, Cond.code yX7_inHand cX7_inHand 3 (some .int), Cond.methodLink RX7 227 yX7_of, Cond.instanceMethod yX7_of, Cond.selects RX7 yX7_of yX7_of, Cond.code yX7_of cX7_of 4 (some .int)]
def wsL_law0_r14 : List Cond := [Cond.methodLink RX7 166 yX7_has, Cond.static yX7_has, Cond.code yX7_has cX7_has 3 (some .boolean), Cond.methodLink RX7 247 yX7_apart, Cond.instanceMethod yX7_apart, Cond.selects RX7 yX7_apart yX7_apart, Cond.code yX7_apart cX7_apart 6 none, Cond.fieldLink RX7 117 "TileHouseModel" "ways" "I", Cond.fieldLink RX7 120 "TileHouseModel" "bestBase" "I", Cond.fieldLink RX7 123 "TileHouseModel" "bestHan" "I", Cond.fieldLink RX7 126 "TileHouseModel" "bestFu" "I", Cond.fieldLink RX7 129 "TileHouseModel" "bestForms" "J", Cond.methodLink RX7 140 yX7_sets, Cond.instanceMethod yX7_sets, Cond.selects RX7 yX7_sets yX7_sets, Cond.code yX7_sets cX7_sets 7 none, Cond.methodLink RX7 153 yX7_way, Cond.instanceMethod yX7_way, Cond.selects RX7 yX7_way yX7_way, Cond.code yX7_way cX7_way 5 none, Cond.fieldLink RX7 160 "TileHouseModel" "pairKind" "I", Cond.fieldLink RX7 163 "TileHouseModel" "winner" "I", Cond.fieldLink RX7 170 "TileHouseModel" "completes" "I", Cond.methodLink RX7 173 yX7_firstSort]
def wsL_law0_r15 : List Cond := [Cond.instanceMethod yX7_firstSort, Cond.selects RX7 yX7_firstSort yX7_firstSort, Cond.code yX7_firstSort cX7_firstSort 14 none, Cond.fieldLink RX7 189 "TileHouseModel" "seatWind" "I", Cond.fieldLink RX7 192 "TileHouseModel" "roundWind" "I", Cond.fieldLink RX7 195 "TileHouseModel" "great" "J", Cond.fieldLink RX7 198 "TileHouseModel" "plain" "J", Cond.fieldLink RX7 176 "TileHouseModel" "drawn" "Z", Cond.fieldLink RX7 220 "TileHouseModel" "fu" "I", Cond.methodLink RX7 179 yX7_isOpen, Cond.instanceMethod yX7_isOpen, Cond.selects RX7 yX7_isOpen yX7_isOpen, Cond.code yX7_isOpen cX7_isOpen 3 (some .boolean), Cond.methodLink RX7 183 yX7_isHidden, Cond.instanceMethod yX7_isHidden, Cond.selects RX7 yX7_isHidden yX7_isHidden, Cond.code yX7_isHidden cX7_isHidden 2 (some .boolean), Cond.methodLink RX7 186 yX7_isDragon, Cond.static yX7_isDragon, Cond.code yX7_isDragon cX7_isDragon 1 (some .boolean), Cond.methodLink RX7 201 yX7_bit, Cond.static yX7_bit, Cond.code yX7_bit cX7_bit 1 (some .long), Cond.methodLink RX7 205 yX7_twins]
def wsL_law0_r16 : List Cond := [Cond.instanceMethod yX7_twins, Cond.selects RX7 yX7_twins yX7_twins, Cond.code yX7_twins cX7_twins 5 none, Cond.methodLink RX7 208 yX7_hasThree, Cond.instanceMethod yX7_hasThree, Cond.selects RX7 yX7_hasThree yX7_hasThree, Cond.code yX7_hasThree cX7_hasThree 4 (some .boolean), Cond.methodLink RX7 211 yX7_hasRun, Cond.instanceMethod yX7_hasRun, Cond.selects RX7 yX7_hasRun yX7_hasRun, Cond.code yX7_hasRun cX7_hasRun 4 (some .boolean), Cond.methodLink RX7 214 yX7_edges, Cond.instanceMethod yX7_edges, Cond.selects RX7 yX7_edges yX7_edges, Cond.code yX7_edges cX7_edges 9 none, Cond.methodLink RX7 144 yX7_isEnd, Cond.static yX7_isEnd, Cond.code yX7_isEnd cX7_isEnd 1 (some .boolean), Cond.methodLink RX7 106 yX7_isHonour, Cond.static yX7_isHonour, Cond.code yX7_isHonour cX7_isHonour 1 (some .boolean), Cond.methodLink RX7 110 yX7_isTerminal, Cond.static yX7_isTerminal, Cond.code yX7_isTerminal cX7_isTerminal 1 (some .boolean)]
def wsL_law0_r17 : List Cond := [Cond.methodLink RX7 217 yX7_tiles, Cond.instanceMethod yX7_tiles, Cond.selects RX7 yX7_tiles yX7_tiles, Cond.code yX7_tiles cX7_tiles 12 none, Cond.methodLink RX7 223 yX7_compare, Cond.instanceMethod yX7_compare, Cond.selects RX7 yX7_compare yX7_compare, Cond.code yX7_compare cX7_compare 7 none, Cond.fieldLink RX7 231 "TileHouseModel" "told" "J", Cond.fieldLink RX7 238 "TileHouseModel" "dear" "I", Cond.methodLink RX7 241 Lib.Math.min.name, Cond.static Lib.Math.min.name, Cond.initialized "java/lang/Math", Cond.code Lib.Math.min.name Lib.Math.min.code 2 (some .int), Cond.methodLink RX7 234 yX7_han, Cond.static yX7_han, Cond.code yX7_han cX7_han 2 (some .int), Cond.methodLink RX7 157 yX7_isRun, Cond.static yX7_isRun, Cond.code yX7_isRun cX7_isRun 1 (some .boolean), Cond.methodLink RX7 147 yX7_pairsWay, Cond.instanceMethod yX7_pairsWay, Cond.selects RX7 yX7_pairsWay yX7_pairsWay, Cond.code yX7_pairsWay cX7_pairsWay 1 none]
def wsL_law0_r18 : List Cond := [Cond.methodLink RX7 150 yX7_thirteen, Cond.instanceMethod yX7_thirteen, Cond.selects RX7 yX7_thirteen yX7_thirteen, Cond.code yX7_thirteen cX7_thirteen 1 none, Cond.methodLink RL 35 yX6_pass, Cond.instanceMethod yX6_pass, Cond.selects RX6 yX6_pass yX6_pass, Cond.code yX6_pass cX6_pass 1 (some .boolean), Cond.methodLink RX6 127 yX6_someoneSays, Cond.instanceMethod yX6_someoneSays, Cond.selects RX6 yX6_someoneSays yX6_someoneSays, Cond.code yX6_someoneSays cX6_someoneSays 2 (some .boolean), Cond.fieldLink RX6 216 "TileHouse$Seat" "says" "Z", Cond.methodLink RX6 131 yX6_winByTile, Cond.instanceMethod yX6_winByTile, Cond.selects RX6 yX6_winByTile yX6_winByTile, Cond.code yX6_winByTile cX6_winByTile 7 none, Cond.fieldLink RX6 200 "TileHouse" "stays" "I", Cond.fieldLink RX6 191 "TileHouse" "bets" "I", Cond.methodLink RX6 187 yX6_weighHand, Cond.instanceMethod yX6_weighHand, Cond.selects RX6 yX6_weighHand yX6_weighHand, Cond.code yX6_weighHand cX6_weighHand 7 (some .int), Cond.fieldLink RX6 278 "TileHouse" "round" "I"]
def wsL_law0_r19 : List Cond := [Cond.fieldLink RX6 194 "TileHouse$Judge" "base" "I", Cond.methodLink RX6 334 yX6_toldForms, Cond.instanceMethod yX6_toldForms, Cond.selects RX6 yX6_toldForms yX6_toldForms, Cond.code yX6_toldForms cX6_toldForms 5 (some .long), Cond.constantLong RX6 348 (2), Cond.constantLong RX6 350 (4), Cond.constantLong RX6 352 (64), Cond.constantLong RX6 354 (128), Cond.constantLong RX6 356 (32), Cond.constantLong RX6 358 (16), Cond.methodLink RX6 338 yX6_firstDraw, Cond.instanceMethod yX6_firstDraw, Cond.selects RX6 yX6_firstDraw yX6_firstDraw, Cond.code yX6_firstDraw cX6_firstDraw 3 (some .long), Cond.methodLink RX6 342 yX4_dearTiles, Cond.instanceMethod yX4_dearTiles, Cond.selects RX4 yX4_dearTiles yX4_dearTiles, Cond.code yX4_dearTiles cX4_dearTiles 6 (some .int), Cond.methodLink RX4 34 yX4_signs, Cond.instanceMethod yX4_signs, Cond.selects RX4 yX4_signs yX4_signs, Cond.code yX4_signs cX4_signs 1 (some .int), Cond.methodLink RX4 38 yX4_behind]
def wsL_law0_r20 : List Cond := [Cond.static yX4_behind, Cond.code yX4_behind cX4_behind 1 (some .int), Cond.methodLink RX4 41 yX3_all, Cond.instanceMethod yX3_all, Cond.selects RX3 yX3_all yX3_all, Cond.code yX3_all cX3_all 2 (some .int), Cond.methodLink RX6 263 yX6_windOf, Cond.instanceMethod yX6_windOf, Cond.selects RX6 yX6_windOf yX6_windOf, Cond.code yX6_windOf cX6_windOf 2 (some .int), Cond.methodLink RX6 304 yX1_judge, Cond.instanceMethod yX1_judge, Cond.selects RX1 yX1_judge yX1_judge, Cond.code yX1_judge cX1_judge 11 none, Cond.fieldLink RX1 21 "TileHouse$Judge" "base" "I", Cond.fieldLink RX1 25 "TileHouse$Judge" "han" "I", Cond.fieldLink RX1 28 "TileHouse$Judge" "fu" "I", Cond.fieldLink RX1 31 "TileHouse$Judge" "best" "J", Cond.fieldLink RX1 35 "TileHouse$Judge" "ways" "I", Cond.fieldLink RX1 48 "TileHouse$Judge" "tiles" "LTileHouse$Tiles;", Cond.fieldLink RX1 52 "TileHouse$Judge" "winner" "I", Cond.fieldLink RX1 55 "TileHouse$Judge" "drawn" "Z", Cond.fieldLink RX1 63 "TileHouse$Judge" "open" "Z", Cond.fieldLink RX1 66 "TileHouse$Judge" "seatWind" "I"]
def wsL_law0_r21 : List Cond := [Cond.fieldLink RX1 69 "TileHouse$Judge" "roundWind" "I", Cond.fieldLink RX1 72 "TileHouse$Judge" "dear" "I", Cond.fieldLink RX1 86 "TileHouse$Judge" "shared" "J", Cond.constantLong RX1 94 (65536), Cond.constantLong RX1 103 (4294967296), Cond.fieldLink RX1 105 "TileHouse$Judge" "pair" "I", Cond.fieldLink RX1 108 "TileHouse$Tiles" "free" "[I", Cond.methodLink RX1 38 yX3_size, Cond.methodLink RX1 44 yX3_free, Cond.methodLink RX1 59 yX3_isOpen, Cond.methodLink RX1 75 yX1_toldOnes, Cond.instanceMethod yX1_toldOnes, Cond.selects RX1 yX1_toldOnes yX1_toldOnes, Cond.code yX1_toldOnes cX1_toldOnes 5 (some .long), Cond.constantLong RX1 124 (13194139533559), Cond.constantLong RX1 126 (-2), Cond.constantLong RX1 128 (8), Cond.methodLink RX1 79 yX3_kinds, Cond.methodLink RX1 83 yX1_tileForms, Cond.instanceMethod yX1_tileForms, Cond.selects RX1 yX1_tileForms yX1_tileForms, Cond.code yX1_tileForms cX1_tileForms 6 (some .long), Cond.constantLong RX1 130 (17045651456), Cond.constantLong RX1 132 (511)]
def wsL_law0_r22 : List Cond := [Cond.constantLong RX1 134 (17113154305), Cond.constantLong RX1 140 (-17113154306), Cond.constantLong RX1 142 (-17045651457), Cond.constantLong RX1 144 (-67502850), Cond.constantLong RX1 146 (-4340580353), Cond.methodLink RX1 136 yX1_bit, Cond.static yX1_bit, Cond.code yX1_bit cX1_bit 2 (some .long), Cond.methodLink RX1 148 yX1_isNineGates, Cond.instanceMethod yX1_isNineGates, Cond.selects RX1 yX1_isNineGates yX1_isNineGates, Cond.code yX1_isNineGates cX1_isNineGates 4 (some .boolean), Cond.fieldLink RX1 151 "TileHouse$Tiles" "laidDown" "I", Cond.methodLink RX1 89 yX3_isSevenPairs, Cond.methodLink RX1 96 yX1_offer, Cond.instanceMethod yX1_offer, Cond.selects RX1 yX1_offer yX1_offer, Cond.code yX1_offer cX1_offer 10 none, Cond.constantLong RX1 221 (-268437008), Cond.constantLong RX1 223 (17587891077120), Cond.methodLink RX1 189 yJ13_bitCount_95d88, Cond.static yJ13_bitCount_95d88, Cond.initialized RJ13, Cond.code yJ13_bitCount_95d88 cJ13_bitCount_95d88 2 (some .int)]
def wsL_law0_r23 : List Cond := [Cond.constantLong RJ13 314 (6148914691236517205), Cond.constantLong RJ13 316 (3689348814741910323), Cond.constantLong RJ13 318 (1085102592571150095), Cond.methodLink RX1 225 yX0_hanOf, Cond.static yX0_hanOf, Cond.initialized RX0, Cond.code yX0_hanOf cX0_hanOf 5 (some .int), Cond.fieldLink RX0 9 "TileHouse$Forms" "HAN" "[I", Cond.fieldLink RX0 13 "TileHouse$Forms" "OPEN_HAN" "[I", Cond.methodLink RX1 229 yX0_baseOf, Cond.static yX0_baseOf, Cond.code yX0_baseOf cX0_baseOf 3 (some .int), Cond.methodLink RX1 232 yX1_isBetter, Cond.instanceMethod yX1_isBetter, Cond.selects RX1 yX1_isBetter yX1_isBetter, Cond.code yX1_isBetter cX1_isBetter 6 (some .boolean), Cond.methodLink RX1 100 yX3_isThirteen, Cond.methodLink RX1 110 yX1_findThrees, Cond.instanceMethod yX1_findThrees, Cond.selects RX1 yX1_findThrees yX1_findThrees, Cond.code yX1_findThrees cX1_findThrees 3 (some .int), Cond.methodLink RX1 113 yX1_chosenThrees, Cond.instanceMethod yX1_chosenThrees, Cond.selects RX1 yX1_chosenThrees yX1_chosenThrees]
def wsL_law0_r24 : List Cond := [Cond.code yX1_chosenThrees cX1_chosenThrees 5 (some .long), Cond.methodLink RX1 117 yX1_fillWay, Cond.instanceMethod yX1_fillWay, Cond.selects RX1 yX1_fillWay yX1_fillWay, Cond.code yX1_fillWay cX1_fillWay 10 (some .boolean), Cond.fieldLink RX1 154 "TileHouse$Tiles" "sort" "[I", Cond.fieldLink RX1 155 "TileHouse$Tiles" "low" "[I", Cond.methodLink RX1 121 yX1_weighWay, Cond.instanceMethod yX1_weighWay, Cond.selects RX1 yX1_weighWay yX1_weighWay, Cond.code yX1_weighWay cX1_weighWay 4 none, Cond.fieldLink RX1 164 "TileHouse$Judge" "runs" "J", Cond.fieldLink RX1 167 "TileHouse$Judge" "threes" "J", Cond.methodLink RX1 170 yX1_likeRuns, Cond.instanceMethod yX1_likeRuns, Cond.selects RX1 yX1_likeRuns yX1_likeRuns, Cond.code yX1_likeRuns cX1_likeRuns 5 (some .long), Cond.methodLink RX1 173 yX1_setForms, Cond.instanceMethod yX1_setForms, Cond.selects RX1 yX1_setForms yX1_setForms, Cond.code yX1_setForms cX1_setForms 5 (some .long), Cond.constantLong RX1 185 (73), Cond.constantLong RX1 187 (15032385536), Cond.constantLong RX1 195 (2013265920)]
def wsL_law0_r25 : List Cond := [Cond.methodLink RX1 176 yX1_endForms, Cond.instanceMethod yX1_endForms, Cond.selects RX1 yX1_endForms yX1_endForms, Cond.code yX1_endForms cX1_endForms 7 (some .long), Cond.constantLong RX1 197 (67502849), Cond.constantLong RX1 199 (7), Cond.methodLink RX1 179 yX1_mayHaveCompleted, Cond.instanceMethod yX1_mayHaveCompleted, Cond.selects RX1 yX1_mayHaveCompleted yX1_mayHaveCompleted, Cond.code yX1_mayHaveCompleted cX1_mayHaveCompleted 4 (some .boolean), Cond.methodLink RX1 182 yX1_weighCompleted, Cond.instanceMethod yX1_weighCompleted, Cond.selects RX1 yX1_weighCompleted yX1_weighCompleted, Cond.code yX1_weighCompleted cX1_weighCompleted 8 none, Cond.methodLink RX1 201 yX1_isHidden, Cond.instanceMethod yX1_isHidden, Cond.selects RX1 yX1_isHidden yX1_isHidden, Cond.code yX1_isHidden cX1_isHidden 3 (some .boolean), Cond.methodLink RX1 205 yX1_pairFu, Cond.instanceMethod yX1_pairFu, Cond.selects RX1 yX1_pairFu yX1_pairFu, Cond.code yX1_pairFu cX1_pairFu 1 (some .int), Cond.methodLink RX1 208 yX1_waitFu, Cond.instanceMethod yX1_waitFu]
def wsL_law0_r26 : List Cond := [Cond.selects RX1 yX1_waitFu yX1_waitFu, Cond.code yX1_waitFu cX1_waitFu 4 (some .int), Cond.methodLink RX1 211 yX1_fuOf, Cond.instanceMethod yX1_fuOf, Cond.selects RX1 yX1_fuOf yX1_fuOf, Cond.code yX1_fuOf cX1_fuOf 6 (some .int), Cond.methodLink RX1 215 Lib.Math.max.name, Cond.static Lib.Math.max.name, Cond.code Lib.Math.max.name Lib.Math.max.code 2 (some .int), Cond.methodLink RX6 197 yX6_hundreds, Cond.static yX6_hundreds, Cond.code yX6_hundreds cX6_hundreds 1 (some .int), Cond.methodLink RX6 206 yX6_recordWin, Cond.instanceMethod yX6_recordWin, Cond.selects RX6 yX6_recordWin yX6_recordWin, Cond.code yX6_recordWin cX6_recordWin 5 none, Cond.fieldLink RX6 360 "TileHouse$Win" "seat" "I", Cond.fieldLink RX6 363 "TileHouse$Win" "payer" "I", Cond.fieldLink RX6 366 "TileHouse$Win" "base" "I", Cond.fieldLink RX6 307 "TileHouse$Judge" "han" "I", Cond.fieldLink RX6 367 "TileHouse$Win" "han" "I", Cond.fieldLink RX6 310 "TileHouse$Judge" "fu" "I", Cond.fieldLink RX6 368 "TileHouse$Win" "fu" "I", Cond.fieldLink RX6 316 "TileHouse$Judge" "best" "J"]
def wsL_law0_r27 : List Cond := [Cond.fieldLink RX6 275 "TileHouse$Win" "made" "J", Cond.fieldLink RX6 369 "TileHouse$Win" "got" "I", Cond.fieldLink RX6 372 "TileHouse$Win" "kind" "I", Cond.methodLink RX6 209 yX6_endHand, Cond.instanceMethod yX6_endHand, Cond.selects RX6 yX6_endHand yX6_endHand, Cond.code yX6_endHand cX6_endHand 5 none, Cond.fieldLink RX6 284 "TileHouse" "handsEnded" "I", Cond.methodLink RX6 375 yX6_someoneIsBroke, Cond.instanceMethod yX6_someoneIsBroke, Cond.selects RX6 yX6_someoneIsBroke yX6_someoneIsBroke, Cond.code yX6_someoneIsBroke cX6_someoneIsBroke 2 (some .boolean), Cond.methodLink RX6 378 yX6_richest, Cond.instanceMethod yX6_richest, Cond.selects RX6 yX6_richest yX6_richest, Cond.code yX6_richest cX6_richest 3 (some .int), Cond.methodLink RX6 134 yX6_letTileGo, Cond.instanceMethod yX6_letTileGo, Cond.selects RX6 yX6_letTileGo yX6_letTileGo, Cond.code yX6_letTileGo cX6_letTileGo 3 none, Cond.methodLink RX6 331 yX3_waitsFor, Cond.methodLink RX6 137 yX6_makeFour, Cond.instanceMethod yX6_makeFour, Cond.selects RX6 yX6_makeFour yX6_makeFour]
def wsL_law0_r28 : List Cond := [Cond.code yX6_makeFour cX6_makeFour 2 none, Cond.methodLink RX6 328 yX6_breakHand, Cond.instanceMethod yX6_breakHand, Cond.selects RX6 yX6_breakHand yX6_breakHand, Cond.code yX6_breakHand cX6_breakHand 2 none, Cond.methodLink RX6 144 yX6_endUnwon, Cond.instanceMethod yX6_endUnwon, Cond.selects RX6 yX6_endUnwon yX6_endUnwon, Cond.code yX6_endUnwon cX6_endUnwon 6 none, Cond.methodLink RL 39 yX7_pass, Cond.instanceMethod yX7_pass, Cond.selects RX7 yX7_pass yX7_pass, Cond.code yX7_pass cX7_pass 2 (some .boolean), Cond.methodLink RX7 340 yX7_anySays, Cond.instanceMethod yX7_anySays, Cond.selects RX7 yX7_anySays yX7_anySays, Cond.code yX7_anySays cX7_anySays 1 (some .boolean), Cond.methodLink RX7 343 yX7_allWin, Cond.instanceMethod yX7_allWin, Cond.selects RX7 yX7_allWin yX7_allWin, Cond.code yX7_allWin cX7_allWin 5 none, Cond.fieldLink RX7 384 "TileHouseModel" "stays" "I", Cond.methodLink RX7 373 yX7_value, Cond.instanceMethod yX7_value]
def wsL_law0_r29 : List Cond := [Cond.selects RX7 yX7_value yX7_value, Cond.code yX7_value cX7_value 6 none, Cond.fieldLink RX7 286 "TileHouseModel" "round" "I", Cond.methodLink RX7 283 yX7_windOf, Cond.instanceMethod yX7_windOf, Cond.selects RX7 yX7_windOf yX7_windOf, Cond.code yX7_windOf cX7_windOf 2 (some .int), Cond.methodLink RX7 289 yX7_dearTiles, Cond.instanceMethod yX7_dearTiles, Cond.selects RX7 yX7_dearTiles yX7_dearTiles, Cond.code yX7_dearTiles cX7_dearTiles 4 (some .int), Cond.methodLink RX7 268 yX7_behind, Cond.static yX7_behind, Cond.code yX7_behind cX7_behind 1 (some .int), Cond.methodLink RX7 293 yX7_reckon, Cond.instanceMethod yX7_reckon, Cond.selects RX7 yX7_reckon yX7_reckon, Cond.code yX7_reckon cX7_reckon 9 none, Cond.methodLink RX7 377 yX7_writes, Cond.instanceMethod yX7_writes, Cond.selects RX7 yX7_writes yX7_writes, Cond.code yX7_writes cX7_writes 5 none, Cond.methodLink RX7 381 yX7_up, Cond.static yX7_up]
def wsL_law0_r30 : List Cond := [Cond.code yX7_up cX7_up 1 (some .int), Cond.methodLink RX7 387 yX7_pays, Cond.instanceMethod yX7_pays, Cond.selects RX7 yX7_pays yX7_pays, Cond.code yX7_pays cX7_pays 4 none, Cond.methodLink RX7 390 yX7_takesBets, Cond.instanceMethod yX7_takesBets, Cond.selects RX7 yX7_takesBets yX7_takesBets, Cond.code yX7_takesBets cX7_takesBets 2 none, Cond.fieldLink RX7 337 "TileHouseModel" "bets" "I", Cond.methodLink RX7 393 yX7_ends, Cond.instanceMethod yX7_ends, Cond.selects RX7 yX7_ends yX7_ends, Cond.code yX7_ends cX7_ends 7 none, Cond.fieldLink RX7 397 "TileHouseModel" "handsEnded" "I", Cond.methodLink RX7 346 yX7_over, Cond.instanceMethod yX7_over, Cond.selects RX7 yX7_over yX7_over, Cond.code yX7_over cX7_over 2 none, Cond.methodLink RX7 349 yX7_touched, Cond.instanceMethod yX7_touched, Cond.selects RX7 yX7_touched yX7_touched, Cond.code yX7_touched cX7_touched 2 none, Cond.methodLink RX7 352 yX7_nobodyWins]
def wsL_law0_r31 : List Cond := [Cond.instanceMethod yX7_nobodyWins, Cond.selects RX7 yX7_nobodyWins yX7_nobodyWins, Cond.code yX7_nobodyWins cX7_nobodyWins 4 none, Cond.methodLink RL 40 yX6_run, Cond.instanceMethod yX6_run, Cond.selects RX6 yX6_run yX6_run, Cond.code yX6_run cX6_run 6 (some .boolean), Cond.fieldLink RX6 153 "TileHouse$Tiles" "free" "[I", Cond.constantLong RX6 161 (7), Cond.constantLong RX6 163 (-1), Cond.methodLink RX6 147 yX6_mayClaimSet, Cond.instanceMethod yX6_mayClaimSet, Cond.selects RX6 yX6_mayClaimSet yX6_mayClaimSet, Cond.code yX6_mayClaimSet cX6_mayClaimSet 2 (some .boolean), Cond.methodLink RX6 213 yX6_isSeat, Cond.static yX6_isSeat, Cond.code yX6_isSeat cX6_isSeat 1 (some .boolean), Cond.methodLink RX6 150 yX6_startsRun, Cond.methodLink RX6 157 yX6_otherEnd, Cond.instanceMethod yX6_otherEnd, Cond.selects RX6 yX6_otherEnd yX6_otherEnd, Cond.code yX6_otherEnd cX6_otherEnd 2 (some .long), Cond.methodLink RX6 165 yX6_keepsOther, Cond.static yX6_keepsOther]
def wsL_law0_r32 : List Cond := [Cond.code yX6_keepsOther cX6_keepsOther 7 (some .boolean), Cond.methodLink RX6 169 yX6_takeSet, Cond.instanceMethod yX6_takeSet, Cond.selects RX6 yX6_takeSet yX6_takeSet, Cond.code yX6_takeSet cX6_takeSet 5 none, Cond.methodLink RX6 181 yX3_layDown, Cond.instanceMethod yX3_layDown, Cond.selects RX3 yX3_layDown yX3_layDown, Cond.code yX3_layDown cX3_layDown 6 none, Cond.static yX6_tilesOfEach, Cond.code yX6_tilesOfEach cX6_tilesOfEach 1 (some .int), Cond.methodLink RL 44 yX7_run, Cond.instanceMethod yX7_run, Cond.selects RX7 yX7_run yX7_run, Cond.code yX7_run cX7_run 5 (some .boolean), Cond.methodLink RX7 361 yX7_mayClaim, Cond.instanceMethod yX7_mayClaim, Cond.selects RX7 yX7_mayClaim yX7_mayClaim, Cond.code yX7_mayClaim cX7_mayClaim 2 (some .boolean), Cond.methodLink RX7 355 yX7_isSeat, Cond.static yX7_isSeat, Cond.code yX7_isSeat cX7_isSeat 1 (some .boolean), Cond.methodLink RX7 364 yX7_canDiscard, Cond.instanceMethod yX7_canDiscard]
def wsL_law0_r33 : List Cond := [Cond.selects RX7 yX7_canDiscard yX7_canDiscard, Cond.code yX7_canDiscard cX7_canDiscard 4 (some .boolean), Cond.methodLink RX7 367 yX7_claims, Cond.instanceMethod yX7_claims, Cond.selects RX7 yX7_claims yX7_claims, Cond.code yX7_claims cX7_claims 4 none, Cond.methodLink RX7 358 yX7_lays, Cond.instanceMethod yX7_lays, Cond.selects RX7 yX7_lays yX7_lays, Cond.code yX7_lays cX7_lays 4 none, Cond.methodLink RL 45 yX6_three, Cond.instanceMethod yX6_three, Cond.selects RX6 yX6_three yX6_three, Cond.code yX6_three cX6_three 4 (some .boolean), Cond.methodLink RL 49 yX7_three, Cond.instanceMethod yX7_three, Cond.selects RX7 yX7_three yX7_three, Cond.code yX7_three cX7_three 3 (some .boolean), Cond.methodLink RL 50 yX6_four, Cond.instanceMethod yX6_four, Cond.selects RX6 yX6_four yX6_four, Cond.code yX6_four cX6_four 2 (some .boolean), Cond.fieldLink RX6 175 "TileHouse$Wall" "fours" "I", Cond.methodLink RL 53 yX7_four]
def wsL_law0_r34 : List Cond := [Cond.instanceMethod yX7_four, Cond.selects RX7 yX7_four yX7_four, Cond.code yX7_four cX7_four 2 (some .boolean), Cond.methodLink RL 54 yX6_hide, Cond.instanceMethod yX6_hide, Cond.selects RX6 yX6_hide yX6_hide, Cond.code yX6_hide cX6_hide 2 (some .boolean), Cond.methodLink RX6 178 yX6_mayMakeFour, Cond.instanceMethod yX6_mayMakeFour, Cond.selects RX6 yX6_mayMakeFour yX6_mayMakeFour, Cond.code yX6_mayMakeFour cX6_mayMakeFour 1 (some .boolean), Cond.methodLink RL 57 yX7_hide, Cond.instanceMethod yX7_hide, Cond.selects RX7 yX7_hide yX7_hide, Cond.code yX7_hide cX7_hide 2 (some .boolean), Cond.methodLink RX7 370 yX7_mayMake, Cond.instanceMethod yX7_mayMake, Cond.selects RX7 yX7_mayMake yX7_mayMake, Cond.code yX7_mayMake cX7_mayMake 1 (some .boolean), Cond.methodLink RL 58 yX6_add, Cond.instanceMethod yX6_add, Cond.selects RX6 yX6_add yX6_add, Cond.code yX6_add cX6_add 2 (some .boolean), Cond.methodLink RX6 184 yX3_addToThree]
def wsL_law0_r35 : List Cond := [Cond.instanceMethod yX3_addToThree, Cond.selects RX3 yX3_addToThree yX3_addToThree, Cond.code yX3_addToThree cX3_addToThree 3 (some .boolean), Cond.methodLink RX3 43 yX3_free, Cond.methodLink RL 61 yX7_add, Cond.instanceMethod yX7_add, Cond.selects RX7 yX7_add yX7_add, Cond.code yX7_add cX7_add 3 (some .boolean), Cond.methodLink RL 62 yX6_win, Cond.instanceMethod yX6_win, Cond.selects RX6 yX6_win yX6_win, Cond.code yX6_win cX6_win 6 (some .boolean), Cond.methodLink RL 65 yX7_win, Cond.instanceMethod yX7_win, Cond.selects RX7 yX7_win yX7_win, Cond.code yX7_win cX7_win 4 (some .boolean), Cond.methodLink RL 66 yX6_claim, Cond.instanceMethod yX6_claim, Cond.selects RX6 yX6_claim yX6_claim, Cond.code yX6_claim cX6_claim 5 (some .boolean), Cond.fieldLink RX6 230 "TileHouse$Seat" "thrownKinds" "J", Cond.methodLink RL 69 yX7_claim, Cond.instanceMethod yX7_claim, Cond.selects RX7 yX7_claim yX7_claim]
def wsL_law0_r36 : List Cond := [Cond.code yX7_claim cX7_claim 5 (some .boolean), Cond.methodLink RL 70 yX6_nine, Cond.instanceMethod yX6_nine, Cond.selects RX6 yX6_nine yX6_nine, Cond.code yX6_nine cX6_nine 1 (some .boolean), Cond.constantLong RX6 236 (17113154305), Cond.methodLink RX6 233 yX3_kinds, Cond.methodLink RX6 238 yJ13_bitCount_95d88, Cond.methodLink RL 73 yX7_nine, Cond.instanceMethod yX7_nine, Cond.selects RX7 yX7_nine yX7_nine, Cond.code yX7_nine cX7_nine 3 (some .boolean), Cond.methodLink RL 74 yX6_hand, Cond.instanceMethod yX6_hand, Cond.selects RX6 yX6_hand yX6_hand, Cond.code yX6_hand cX6_hand 3 (some .int), Cond.methodLink RL 77 yX7_hand, Cond.instanceMethod yX7_hand, Cond.selects RX7 yX7_hand yX7_hand, Cond.code yX7_hand cX7_hand 3 (some .int), Cond.methodLink RL 78 yX6_laid, Cond.instanceMethod yX6_laid, Cond.selects RX6 yX6_laid yX6_laid, Cond.code yX6_laid cX6_laid 5 (some .int)]
def wsL_law0_r37 : List Cond := [Cond.fieldLink RX6 244 "TileHouse$Tiles" "laidDown" "I", Cond.fieldLink RX6 247 "TileHouse$Tiles" "sort" "[I", Cond.fieldLink RX6 250 "TileHouse$Tiles" "low" "[I", Cond.methodLink RL 82 yX7_laid, Cond.instanceMethod yX7_laid, Cond.selects RX7 yX7_laid yX7_laid, Cond.code yX7_laid cX7_laid 4 (some .int), Cond.methodLink RL 83 yL_river, Cond.static yL_river, Cond.initialized RL, Cond.codeWith yL_river cL_river 5 (some .int) [(0, 10, 13, 13)], Cond.classLink RL 13 "java/util/NoSuchElementException", Cond.methodLink RL 7 yX6_river, Cond.instanceMethod yX6_river, Cond.selects RX6 yX6_river yX6_river, Cond.code yX6_river cX6_river 3 (some .int), Cond.classLink RX6 253 "java/util/NoSuchElementException", Cond.initialized "java/util/NoSuchElementException", Cond.methodLink RX6 260 yX2_thrown, Cond.instanceMethod yX2_thrown, Cond.selects RX2 yX2_thrown yX2_thrown, Cond.code yX2_thrown cX2_thrown 2 (some .int), Cond.methodLink RL 88 yX7_river, Cond.instanceMethod yX7_river]
def wsL_law0_r38 : List Cond := [Cond.selects RX7 yX7_river yX7_river, Cond.code yX7_river cX7_river 3 (some .int), Cond.methodLink RL 89 yX7_thrown, Cond.instanceMethod yX7_thrown, Cond.selects RX7 yX7_thrown yX7_thrown, Cond.code yX7_thrown cX7_thrown 1 (some .int), Cond.methodLink RL 93 yX6_waits, Cond.instanceMethod yX6_waits, Cond.selects RX6 yX6_waits yX6_waits, Cond.code yX6_waits cX6_waits 2 (some .long), Cond.methodLink RL 97 yX7_waits, Cond.instanceMethod yX7_waits, Cond.selects RX7 yX7_waits yX7_waits, Cond.code yX7_waits cX7_waits 2 (some .long), Cond.methodLink RL 98 yX6_seat, Cond.instanceMethod yX6_seat, Cond.selects RX6 yX6_seat yX6_seat, Cond.code yX6_seat cX6_seat 4 (some .int), Cond.methodLink RL 101 yX7_seat, Cond.instanceMethod yX7_seat, Cond.selects RX7 yX7_seat yX7_seat, Cond.code yX7_seat cX7_seat 3 (some .int), Cond.methodLink RL 102 yX6_won, Cond.instanceMethod yX6_won]
def wsL_law0_r39 : List Cond := [Cond.selects RX6 yX6_won yX6_won, Cond.code yX6_won cX6_won 3 (some .int), Cond.methodLink RX6 269 yX6_isWin, Cond.instanceMethod yX6_isWin, Cond.selects RX6 yX6_isWin yX6_isWin, Cond.code yX6_isWin cX6_isWin 2 (some .boolean), Cond.methodLink RX6 272 yX5_part, Cond.instanceMethod yX5_part, Cond.selects RX5 yX5_part yX5_part, Cond.code yX5_part cX5_part 2 (some .int), Cond.fieldLink RX5 9 "TileHouse$Win" "seat" "I", Cond.fieldLink RX5 15 "TileHouse$Win" "payer" "I", Cond.fieldLink RX5 18 "TileHouse$Win" "base" "I", Cond.fieldLink RX5 21 "TileHouse$Win" "han" "I", Cond.fieldLink RX5 24 "TileHouse$Win" "fu" "I", Cond.fieldLink RX5 27 "TileHouse$Win" "got" "I", Cond.fieldLink RX5 30 "TileHouse$Win" "kind" "I", Cond.methodLink RL 105 yX7_won, Cond.instanceMethod yX7_won, Cond.selects RX7 yX7_won yX7_won, Cond.code yX7_won cX7_won 3 (some .int), Cond.methodLink RL 106 yX6_forms, Cond.instanceMethod yX6_forms, Cond.selects RX6 yX6_forms yX6_forms]
def wsL_law0_r40 : List Cond := [Cond.code yX6_forms cX6_forms 2 (some .long), Cond.methodLink RL 109 yX7_forms, Cond.instanceMethod yX7_forms, Cond.selects RX7 yX7_forms yX7_forms, Cond.code yX7_forms cX7_forms 2 (some .long), Cond.methodLink RL 110 yX6_count, Cond.instanceMethod yX6_count, Cond.selects RX6 yX6_count yX6_count, Cond.code yX6_count cX6_count 2 (some .int), Cond.methodLink RX6 281 yX4_signs, Cond.methodLink RL 113 yX7_count, Cond.instanceMethod yX7_count, Cond.selects RX7 yX7_count yX7_count, Cond.code yX7_count cX7_count 2 (some .int), Cond.methodLink RL 114 yL_wall, Cond.static yL_wall, Cond.codeWith yL_wall cL_wall 4 (some .int) [(0, 9, 12, 13)], Cond.methodLink RL 15 yX6_wall, Cond.instanceMethod yX6_wall, Cond.selects RX6 yX6_wall yX6_wall, Cond.code yX6_wall cX6_wall 3 (some .int), Cond.methodLink RL 117 yX7_wall, Cond.instanceMethod yX7_wall, Cond.selects RX7 yX7_wall yX7_wall]
def wsL_law0_r41 : List Cond := [Cond.code yX7_wall cX7_wall 2 (some .int), Cond.methodLink RL 118 yX6_clear, Cond.instanceMethod yX6_clear, Cond.selects RX6 yX6_clear yX6_clear, Cond.code yX6_clear cX6_clear 1 none, Cond.methodLink RX6 289 yX3_empty, Cond.methodLink RL 121 yX7_clear, Cond.instanceMethod yX7_clear, Cond.selects RX7 yX7_clear yX7_clear, Cond.code yX7_clear cX7_clear 2 none, Cond.fieldLink RX7 400 "TileHouseModel" "deskSets" "I", Cond.methodLink RL 122 yX6_lay, Cond.instanceMethod yX6_lay, Cond.selects RX6 yX6_lay yX6_lay, Cond.code yX6_lay cX6_lay 3 (some .boolean), Cond.methodLink RX6 292 yX6_isKind, Cond.methodLink RX6 295 yX3_all, Cond.methodLink RX6 298 yX3_size, Cond.methodLink RL 125 yX7_lay, Cond.instanceMethod yX7_lay, Cond.selects RX7 yX7_lay yX7_lay, Cond.code yX7_lay cX7_lay 3 (some .boolean), Cond.methodLink RX7 403 yX7_takeDesk, Cond.instanceMethod yX7_takeDesk]
def wsL_law0_r42 : List Cond := [Cond.selects RX7 yX7_takeDesk yX7_takeDesk, Cond.code yX7_takeDesk cX7_takeDesk 2 none, Cond.methodLink RL 126 yX6_set, Cond.instanceMethod yX6_set, Cond.selects RX6 yX6_set yX6_set, Cond.code yX6_set cX6_set 6 (some .boolean), Cond.methodLink RX6 301 yX6_tilesOfEach, Cond.methodLink RL 129 yX7_set, Cond.instanceMethod yX7_set, Cond.selects RX7 yX7_set yX7_set, Cond.code yX7_set cX7_set 5 (some .boolean), Cond.methodLink RL 130 yX6_worth, Cond.instanceMethod yX6_worth, Cond.selects RX6 yX6_worth yX6_worth, Cond.code yX6_worth cX6_worth 7 (some .int), Cond.methodLink RL 134 yX7_worth, Cond.instanceMethod yX7_worth, Cond.selects RX7 yX7_worth yX7_worth, Cond.code yX7_worth cX7_worth 9 (some .int), Cond.constantLong RX7 406 (247), Cond.fieldLink RX7 411 "TileHouseModel" "toldForms" "J", Cond.methodLink RX7 408 yX7_nothing, Cond.instanceMethod yX7_nothing, Cond.selects RX7 yX7_nothing yX7_nothing]
def wsL_law0_r43 : List Cond := [Cond.code yX7_nothing cX7_nothing 1 none, Cond.methodLink RL 135 yX6_desk, Cond.instanceMethod yX6_desk, Cond.selects RX6 yX6_desk yX6_desk, Cond.code yX6_desk cX6_desk 2 (some .int), Cond.fieldLink RX6 313 "TileHouse$Judge" "ways" "I", Cond.methodLink RL 138 yX7_desk, Cond.instanceMethod yX7_desk, Cond.selects RX7 yX7_desk yX7_desk, Cond.code yX7_desk cX7_desk 2 (some .int), Cond.methodLink RL 139 yX6_deskForms, Cond.instanceMethod yX6_deskForms, Cond.selects RX6 yX6_deskForms yX6_deskForms, Cond.code yX6_deskForms cX6_deskForms 1 (some .long), Cond.methodLink RL 143 yX7_deskForms, Cond.instanceMethod yX7_deskForms, Cond.selects RX7 yX7_deskForms yX7_deskForms, Cond.code yX7_deskForms cX7_deskForms 1 (some .long), Cond.methodLink RL 144 yX6_deskWaits, Cond.instanceMethod yX6_deskWaits, Cond.selects RX6 yX6_deskWaits yX6_deskWaits, Cond.code yX6_deskWaits cX6_deskWaits 1 (some .long), Cond.methodLink RL 147 yX7_deskWaits, Cond.instanceMethod yX7_deskWaits]
def wsL_law0_r44 : List Cond := [Cond.selects RX7 yX7_deskWaits yX7_deskWaits, Cond.code yX7_deskWaits cX7_deskWaits 1 (some .long)]
def wsL_law0 : List Cond := (wsL_law0_r1 ++ (wsL_law0_r2 ++ (wsL_law0_r3 ++ (wsL_law0_r4 ++ (wsL_law0_r5 ++ (wsL_law0_r6 ++ (wsL_law0_r7 ++ (wsL_law0_r8 ++ (wsL_law0_r9 ++ (wsL_law0_r10 ++ (wsL_law0_r11 ++ (wsL_law0_r12 ++ (wsL_law0_r13 ++ (wsL_law0_r14 ++ (wsL_law0_r15 ++ (wsL_law0_r16 ++ (wsL_law0_r17 ++ (wsL_law0_r18 ++ (wsL_law0_r19 ++ (wsL_law0_r20 ++ (wsL_law0_r21 ++ (wsL_law0_r22 ++ (wsL_law0_r23 ++ (wsL_law0_r24 ++ (wsL_law0_r25 ++ (wsL_law0_r26 ++ (wsL_law0_r27 ++ (wsL_law0_r28 ++ (wsL_law0_r29 ++ (wsL_law0_r30 ++ (wsL_law0_r31 ++ (wsL_law0_r32 ++ (wsL_law0_r33 ++ (wsL_law0_r34 ++ (wsL_law0_r35 ++ (wsL_law0_r36 ++ (wsL_law0_r37 ++ (wsL_law0_r38 ++ (wsL_law0_r39 ++ (wsL_law0_r40 ++ (wsL_law0_r41 ++ (wsL_law0_r42 ++ (wsL_law0_r43 ++ wsL_law0_r44))))))))))))))))))))))))))))))))))))))))))) ++ wsX60 ++ wsX70 ++ wsX40 ++ wsX10 ++ wsX30 ++ wsX20 ++ wsX50 ++ ([] : List Cond)
def wsL_law : List Cond := wsL_law0 ++ cx_at.filter goodWord
abbrev vwCl : List vw_C := [(RX1, TX1, 19), (RX2, TX2, 10), (RX3, TX3, 6), (RX4, TX4, 4), (RX5, TX5, 8), (RX6, TX6, 19), (RX7, TX7, 68)]
end
section
/-! the words of this proof: the array classes, the nest's links, what a contract asks and gives -/
abbrev tyF (k : Nat → ClassId) : List (ClassId × FieldType) := [(k 0, .int), (k 1, .long), (k 2, .boolean), (k 3, .object "TileHouse$Seat"), (k 4, .object "TileHouse$Win")]
def NW (U : State) : Prop := (va_Nw (.methodLinkNest RX6 17 yX4_init "TileHouse") U ∧ va_Nw (.methodLinkNest RX6 24 yX1_init "TileHouse") U ∧ va_Nw (.methodLinkNest RX6 37 yX3_init "TileHouse") U ∧ va_Nw (.methodLinkNest RX6 52 yX2_init "TileHouse") U ∧ va_Nw (.methodLinkNest RX6 53 yX5_init "TileHouse") U) ∧ (va_Nw (.methodLinkNest RX2 11 yX3_init "TileHouse") U ∧ va_Nw (.methodLinkNest RX3 31 yX6_isKind "TileHouse") U ∧ va_Nw (.methodLinkNest RX3 74 yX6_startsRun "TileHouse") U ∧ va_Nw (.methodLinkNest RX3 39 yX6_tilesOfEach "TileHouse") U ∧ va_Nw (.methodLinkNest RX1 156 yX6_holds "TileHouse") U ∧ va_Nw (.methodLinkNest RX1 160 yX6_startsRun "TileHouse") U) ∧ (va_AO "TileHouse$Seat" U ∧ va_AO "TileHouse$Win" U)
theorem nw_X6_17 {U : State} (h : NW U) : va_Nw (.methodLinkNest RX6 17 yX4_init "TileHouse") U := h.1.1
theorem nw_X6_24 {U : State} (h : NW U) : va_Nw (.methodLinkNest RX6 24 yX1_init "TileHouse") U := h.1.2.1
theorem nw_X6_37 {U : State} (h : NW U) : va_Nw (.methodLinkNest RX6 37 yX3_init "TileHouse") U := h.1.2.2.1
theorem nw_X6_52 {U : State} (h : NW U) : va_Nw (.methodLinkNest RX6 52 yX2_init "TileHouse") U := h.1.2.2.2.1
theorem nw_X6_53 {U : State} (h : NW U) : va_Nw (.methodLinkNest RX6 53 yX5_init "TileHouse") U := h.1.2.2.2.2
theorem nw_X2_11 {U : State} (h : NW U) : va_Nw (.methodLinkNest RX2 11 yX3_init "TileHouse") U := h.2.1.1
theorem nw_X3_31 {U : State} (h : NW U) : va_Nw (.methodLinkNest RX3 31 yX6_isKind "TileHouse") U := h.2.1.2.1
theorem nw_X3_74 {U : State} (h : NW U) : va_Nw (.methodLinkNest RX3 74 yX6_startsRun "TileHouse") U := h.2.1.2.2.1
theorem nw_X3_39 {U : State} (h : NW U) : va_Nw (.methodLinkNest RX3 39 yX6_tilesOfEach "TileHouse") U := h.2.1.2.2.2.1
theorem nw_X1_156 {U : State} (h : NW U) : va_Nw (.methodLinkNest RX1 156 yX6_holds "TileHouse") U := h.2.1.2.2.2.2.1
theorem nw_X1_160 {U : State} (h : NW U) : va_Nw (.methodLinkNest RX1 160 yX6_startsRun "TileHouse") U := h.2.1.2.2.2.2.2
theorem NW.warm {s U : State} (h : NW s) (hW : s.WarmedH U.vm) : NW U := by
  obtain ⟨⟨a1, a2, a3, a4, a5⟩, ⟨b1, b2, b3, b4, b5, b6⟩, c1, c2⟩ := h
  exact ⟨⟨a1.warmM hW, a2.warmM hW, a3.warmM hW, a4.warmM hW, a5.warmM hW⟩, ⟨b1.warmM hW, b2.warmM hW, b3.warmM hW, b4.warmM hW, b5.warmM hW, b6.warmM hW⟩, c1.moved hW.alike, c2.moved hW.alike⟩
theorem NW.same {s U : State} (h : NW s) (hv : s.vm = U.vm) : NW U := by
  obtain ⟨⟨a1, a2, a3, a4, a5⟩, ⟨b1, b2, b3, b4, b5, b6⟩, c1, c2⟩ := h
  exact ⟨⟨a1.same rfl hv, a2.same rfl hv, a3.same rfl hv, a4.same rfl hv, a5.same rfl hv⟩, ⟨b1.same rfl hv, b2.same rfl hv, b3.same rfl hv, b4.same rfl hv, b5.same rfl hv, b6.same rfl hv⟩, c1.moved (by rw [hv]; exact Vm.Alike.refl _), c2.moved (by rw [hv]; exact Vm.Alike.refl _)⟩
def pr (G : va_G) (k : Nat → ClassId) (ws : va_W) (U : State) : Prop := va_P G vwCl ws U.heap ∧ va_K G vwCl (tyF k) U ∧ NW U
def pq (G : va_G) (k : Nat → ClassId) (ws : va_W) (sz : Nat) (U : State) : Prop := U.heap.size = sz ∧ pr G k ws U ∧ va_D (fun _ => True) ws
def pt (G : va_G) (A : Nat → Prop) (ws : va_W) (t : State) : Prop := va_P G vwCl ws t.heap ∧ va_D A ws
theorem pr_bl {av : List Value} {G : va_G} {k : Nat → ClassId} {ws : va_W} : FrameBlind (va_Pc av (pr G k ws)) := fun a U g mk q => ⟨q.1, q.2.1, va_K.moved (u := U) (U := U.calling g mk a) (Vm.Alike.refl U.vm) q.2.2.1, q.2.2.2.same rfl⟩
theorem pq_bl {av : List Value} {G : va_G} {k : Nat → ClassId} {ws : va_W} {sz : Nat} : FrameBlind (va_Pc av (pq G k ws sz)) := fun a U g mk q => ⟨q.1, q.2.1, ⟨q.2.2.1.1, va_K.moved (u := U) (U := U.calling g mk a) (Vm.Alike.refl U.vm) q.2.2.1.2.1, q.2.2.1.2.2.same rfl⟩, q.2.2.2⟩
theorem pr_pre {av : List Value} {G : va_G} {k : Nat → ClassId} {ws : va_W} {H : Heap} {s : State} (hP : va_P G vwCl ws H) (hK : va_K G vwCl (tyF k) s) (hN : NW s) : ∀ U : State, U.heap = H → s.WarmedH U.vm → va_Pc av (pr G k ws) av.toArray U := fun U hU hW => ⟨rfl, by rw [hU]; exact hP, va_K.moved hW.alike hK, hN.warm hW⟩
theorem pq_pre {av : List Value} {G : va_G} {k : Nat → ClassId} {A : Nat → Prop} {ws : va_W} {H : Heap} {s : State} (hP : va_P G vwCl ws H) (hD : va_D A ws) (hK : va_K G vwCl (tyF k) s) (hN : NW s) : ∀ U : State, U.heap = H → s.WarmedH U.vm → va_Pc av (pq G k ws H.size) av.toArray U := fun U hU hW => ⟨rfl, by rw [hU], ⟨by rw [hU]; exact hP, va_K.moved hW.alike hK, hN.warm hW⟩, hD.weaken (fun _ _ _ _ => trivial)⟩
theorem vP0 {G : va_G} {H : Heap} : va_P G vwCl [] H := fun k q h => by simp at h
theorem vD0 {A : Nat → Prop} : va_D A [] := ⟨fun i j p q h => by simp at h, fun k q h => by simp at h⟩
theorem ty_same0 {G : va_G} {k : Nat → ClassId} {cA : ClassId} {s : State} (h1 : va_K G vwCl (tyF k ++ [(cA, .int)]) s) (h : va_K G vwCl (tyF k) s) : cA = k 0 := Option.some.inj (((h1.2 5 _ rfl).2).symm.trans ((h.2 0 _ rfl).2))
theorem ty_same1 {G : va_G} {k : Nat → ClassId} {cA : ClassId} {s : State} (h1 : va_K G vwCl (tyF k ++ [(cA, .long)]) s) (h : va_K G vwCl (tyF k) s) : cA = k 1 := Option.some.inj (((h1.2 5 _ rfl).2).symm.trans ((h.2 1 _ rfl).2))
theorem ty_same2 {G : va_G} {k : Nat → ClassId} {cA : ClassId} {s : State} (h1 : va_K G vwCl (tyF k ++ [(cA, .boolean)]) s) (h : va_K G vwCl (tyF k) s) : cA = k 2 := Option.some.inj (((h1.2 5 _ rfl).2).symm.trans ((h.2 2 _ rfl).2))
section QC
variable {p : Program} {l : Launch} {e : Env} {R : Room} {s : State} {m : MethodId} {args : Array Value} {below : List Frame} {meth : Method} {c : Code} {H : Heap} {locs : List Loc} {cells slots : Nat} {Q : State → Prop} {pc : Nat} {ls : Array Slot} {st0 rest : List Value} {a : Array Value}
theorem q_calli {post : Int32 → Prop} (hr : va_Run p l e R s m args below meth c H locs cells slots 0 0 (F0 m pc ls st0) rest (vp_Si post a) (fun _ => False)) (kk : ∀ r : Int32, post r → W p l e R s m args below meth c H locs cells slots Q (F0 m (pc + 3) ls (.int r :: rest))) : W p l e R s m args below meth c H locs cells slots Q (F0 m pc ls st0) := by
  intro T hT X
  obtain ⟨v, st₀, t, T', L, h0, X', hL, e1, e2, ⟨r, hv, hp, hh⟩, st⟩ := hr T hT X
  cases hv
  obtain ⟨t2, a1, b1⟩ := kk r hp T' (by rw [e1, hh, h0]) (Stand.forget X' (fun q h => (hL q h).elim))
  exact ⟨t2, st t2 a1, b1⟩
theorem q_calll {post : Int64 → Prop} (hr : va_Run p l e R s m args below meth c H locs cells slots 0 0 (F0 m pc ls st0) rest (vp_Sl post a) (fun _ => False)) (kk : ∀ r : Int64, post r → W p l e R s m args below meth c H locs cells slots Q (F0 m (pc + 3) ls (.long r :: rest))) : W p l e R s m args below meth c H locs cells slots Q (F0 m pc ls st0) := by
  intro T hT X
  obtain ⟨v, st₀, t, T', L, h0, X', hL, e1, e2, ⟨r, hv, hp, hh⟩, st⟩ := hr T hT X
  cases hv
  obtain ⟨t2, a1, b1⟩ := kk r hp T' (by rw [e1, hh, h0]) (Stand.forget X' (fun q h => (hL q h).elim))
  exact ⟨t2, st t2 a1, b1⟩
theorem q_callr {post : Nat → Prop} (hr : va_Run p l e R s m args below meth c H locs cells slots 0 0 (F0 m pc ls st0) rest (va_Sr post Value.ref a) (fun _ => False)) (kk : ∀ r : Nat, post r → W p l e R s m args below meth c H locs cells slots Q (F0 m (pc + 3) ls (.ref r :: rest))) : W p l e R s m args below meth c H locs cells slots Q (F0 m pc ls st0) := by
  intro T hT X
  obtain ⟨v, st₀, t, T', L, h0, X', hL, e1, e2, ⟨r, hv, hp, hh⟩, st⟩ := hr T hT X
  cases hv
  obtain ⟨t2, a1, b1⟩ := kk r hp T' (by rw [e1, hh, h0]) (Stand.forget X' (fun q h => (hL q h).elim))
  exact ⟨t2, st t2 a1, b1⟩
end QC
theorem inC {i : Int32} {n : Nat} (h1 : ¬ i < 0) (h2 : i.toNatClampNeg < n) : vp_in i n := fun h => h.elim h1 (fun h => absurd h (Nat.not_le.mpr h2))
theorem in_of {x M : Int32} {n : Nat} (hM : M.toInt = n) (h1 : ¬ x < 0) (h2 : ¬ M ≤ x) : vp_in x n := by
  rw [Int32.lt_iff_toInt_lt] at h1
  rw [Int32.le_iff_toInt_le, hM] at h2
  have h3 : (0 : Int32).toInt = 0 := rfl
  exact vp_in_iff.mpr ⟨by omega, by omega⟩
theorem nin_lt {x : Int32} {n : Nat} (h1 : x < 0) : ¬ vp_in x n := fun h => h (Or.inl h1)
theorem nin_ge {x M : Int32} {n : Nat} (hM : M.toInt = n) (h2 : M ≤ x) : ¬ vp_in x n := fun h => by
  have := Int32.le_iff_toInt_le.mp h2
  have h3 := (vp_in_iff.mp h).2
  rw [hM] at this
  omega
theorem in_nlt {x : Int32} {n : Nat} (h : vp_in x n) : ¬ x < 0 := fun h1 => h (Or.inl h1)
theorem in_nge {x M : Int32} {n : Nat} (hM : M.toInt = n) (h : vp_in x n) : ¬ M ≤ x := fun h2 => nin_ge hM h2 h
theorem in_lt {x : Int32} {n : Nat} (h : vp_in x n) : x.toNatClampNeg < n := Nat.not_le.mp (fun h1 => h (Or.inr h1))
theorem met_pre {l : Launch} {y : MethodName} {ws : List Cond} {rm : Room} {P1 P2 : Array Value → State → Prop} {Qc : Array Value → State → Outcome → State → Prop} {mc ms : Nat} {free : Addr → Prop} (h : Met l y ws rm P1 Qc mc ms free) (hp : ∀ a s, P2 a s → P1 a s) : Met l y ws rm P2 Qc mc ms free := fun p e h1 h2 h3 s m args below h4 h5 h6 h7 => h p e h1 h2 h3 s m args below h4 h5 (hp _ _ h6) h7
theorem met_sub {l : Launch} {y : MethodName} {ws : List Cond} {rm : Room} {av : List Value} {G : va_G} {k : Nat → ClassId} {w w2 : va_W} {Qc : Array Value → State → Outcome → State → Prop} {mc ms : Nat} {free : Addr → Prop} (h : Met l y ws rm (va_Pc av (pr G k w)) Qc mc ms free) (pl : List Nat) (hpl : pl.filterMap (fun i => w2[i]?) = w) : Met l y ws rm (va_Pc av (pr G k w2)) Qc mc ms free := met_pre h (fun _ _ q => ⟨q.1, q.2.1.sub pl hpl, q.2.2.1, q.2.2.2⟩)
theorem tsw3 (x : Int32) : (x.toInt < 0 ∨ 3 < x.toInt) ∨ x = 0 ∨ x = 1 ∨ x = 2 ∨ x = 3 := by
  rcases pk_ix x (n := 4) (by decide) with h | h | ⟨j, hj, rfl⟩
  · exact Or.inl (Or.inl (by have h9 := Int32.lt_iff_toInt_lt.mp h; simpa using h9))
  · exact Or.inl (Or.inr (by have h9 := Int32.le_iff_toInt_le.mp h; rw [nI_toInt (by decide)] at h9; omega))
  · rcases (show j = 0 ∨ j = 1 ∨ j = 2 ∨ j = 3 by omega) with rfl | rfl | rfl | rfl
    · exact Or.inr (Or.inl rfl)
    · exact Or.inr (Or.inr (Or.inl rfl))
    · exact Or.inr (Or.inr (Or.inr (Or.inl rfl)))
    · exact Or.inr (Or.inr (Or.inr (Or.inr (rfl))))
theorem tsw7 (x : Int32) : (x.toInt < 0 ∨ 7 < x.toInt) ∨ x = 0 ∨ x = 1 ∨ x = 2 ∨ x = 3 ∨ x = 4 ∨ x = 5 ∨ x = 6 ∨ x = 7 := by
  rcases pk_ix x (n := 8) (by decide) with h | h | ⟨j, hj, rfl⟩
  · exact Or.inl (Or.inl (by have h9 := Int32.lt_iff_toInt_lt.mp h; simpa using h9))
  · exact Or.inl (Or.inr (by have h9 := Int32.le_iff_toInt_le.mp h; rw [nI_toInt (by decide)] at h9; omega))
  · rcases (show j = 0 ∨ j = 1 ∨ j = 2 ∨ j = 3 ∨ j = 4 ∨ j = 5 ∨ j = 6 ∨ j = 7 by omega) with rfl | rfl | rfl | rfl | rfl | rfl | rfl | rfl
    · exact Or.inr (Or.inl rfl)
    · exact Or.inr (Or.inr (Or.inl rfl))
    · exact Or.inr (Or.inr (Or.inr (Or.inl rfl)))
    · exact Or.inr (Or.inr (Or.inr (Or.inr (Or.inl rfl))))
    · exact Or.inr (Or.inr (Or.inr (Or.inr (Or.inr (Or.inl rfl)))))
    · exact Or.inr (Or.inr (Or.inr (Or.inr (Or.inr (Or.inr (Or.inl rfl))))))
    · exact Or.inr (Or.inr (Or.inr (Or.inr (Or.inr (Or.inr (Or.inr (Or.inl rfl)))))))
    · exact Or.inr (Or.inr (Or.inr (Or.inr (Or.inr (Or.inr (Or.inr (Or.inr (rfl))))))))
theorem tsw12 (x : Int32) : (x.toInt < 0 ∨ 12 < x.toInt) ∨ x = 0 ∨ x = 1 ∨ x = 2 ∨ x = 3 ∨ x = 4 ∨ x = 5 ∨ x = 6 ∨ x = 7 ∨ x = 8 ∨ x = 9 ∨ x = 10 ∨ x = 11 ∨ x = 12 := by
  rcases pk_ix x (n := 13) (by decide) with h | h | ⟨j, hj, rfl⟩
  · exact Or.inl (Or.inl (by have h9 := Int32.lt_iff_toInt_lt.mp h; simpa using h9))
  · exact Or.inl (Or.inr (by have h9 := Int32.le_iff_toInt_le.mp h; rw [nI_toInt (by decide)] at h9; omega))
  · rcases (show j = 0 ∨ j = 1 ∨ j = 2 ∨ j = 3 ∨ j = 4 ∨ j = 5 ∨ j = 6 ∨ j = 7 ∨ j = 8 ∨ j = 9 ∨ j = 10 ∨ j = 11 ∨ j = 12 by omega) with rfl | rfl | rfl | rfl | rfl | rfl | rfl | rfl | rfl | rfl | rfl | rfl | rfl
    · exact Or.inr (Or.inl rfl)
    · exact Or.inr (Or.inr (Or.inl rfl))
    · exact Or.inr (Or.inr (Or.inr (Or.inl rfl)))
    · exact Or.inr (Or.inr (Or.inr (Or.inr (Or.inl rfl))))
    · exact Or.inr (Or.inr (Or.inr (Or.inr (Or.inr (Or.inl rfl)))))
    · exact Or.inr (Or.inr (Or.inr (Or.inr (Or.inr (Or.inr (Or.inl rfl))))))
    · exact Or.inr (Or.inr (Or.inr (Or.inr (Or.inr (Or.inr (Or.inr (Or.inl rfl)))))))
    · exact Or.inr (Or.inr (Or.inr (Or.inr (Or.inr (Or.inr (Or.inr (Or.inr (Or.inl rfl))))))))
    · exact Or.inr (Or.inr (Or.inr (Or.inr (Or.inr (Or.inr (Or.inr (Or.inr (Or.inr (Or.inl rfl)))))))))
    · exact Or.inr (Or.inr (Or.inr (Or.inr (Or.inr (Or.inr (Or.inr (Or.inr (Or.inr (Or.inr (Or.inl rfl))))))))))
    · exact Or.inr (Or.inr (Or.inr (Or.inr (Or.inr (Or.inr (Or.inr (Or.inr (Or.inr (Or.inr (Or.inr (Or.inl rfl)))))))))))
    · exact Or.inr (Or.inr (Or.inr (Or.inr (Or.inr (Or.inr (Or.inr (Or.inr (Or.inr (Or.inr (Or.inr (Or.inr (Or.inl rfl))))))))))))
    · exact Or.inr (Or.inr (Or.inr (Or.inr (Or.inr (Or.inr (Or.inr (Or.inr (Or.inr (Or.inr (Or.inr (Or.inr (Or.inr (rfl)))))))))))))
theorem tsw26 (x : Int32) : (x.toInt < 0 ∨ 26 < x.toInt) ∨ x = 0 ∨ x = 1 ∨ x = 2 ∨ x = 3 ∨ x = 4 ∨ x = 5 ∨ x = 6 ∨ x = 7 ∨ x = 8 ∨ x = 9 ∨ x = 10 ∨ x = 11 ∨ x = 12 ∨ x = 13 ∨ x = 14 ∨ x = 15 ∨ x = 16 ∨ x = 17 ∨ x = 18 ∨ x = 19 ∨ x = 20 ∨ x = 21 ∨ x = 22 ∨ x = 23 ∨ x = 24 ∨ x = 25 ∨ x = 26 := by
  rcases pk_ix x (n := 27) (by decide) with h | h | ⟨j, hj, rfl⟩
  · exact Or.inl (Or.inl (by have h9 := Int32.lt_iff_toInt_lt.mp h; simpa using h9))
  · exact Or.inl (Or.inr (by have h9 := Int32.le_iff_toInt_le.mp h; rw [nI_toInt (by decide)] at h9; omega))
  · rcases (show j = 0 ∨ j = 1 ∨ j = 2 ∨ j = 3 ∨ j = 4 ∨ j = 5 ∨ j = 6 ∨ j = 7 ∨ j = 8 ∨ j = 9 ∨ j = 10 ∨ j = 11 ∨ j = 12 ∨ j = 13 ∨ j = 14 ∨ j = 15 ∨ j = 16 ∨ j = 17 ∨ j = 18 ∨ j = 19 ∨ j = 20 ∨ j = 21 ∨ j = 22 ∨ j = 23 ∨ j = 24 ∨ j = 25 ∨ j = 26 by omega) with rfl | rfl | rfl | rfl | rfl | rfl | rfl | rfl | rfl | rfl | rfl | rfl | rfl | rfl | rfl | rfl | rfl | rfl | rfl | rfl | rfl | rfl | rfl | rfl | rfl | rfl | rfl
    · exact Or.inr (Or.inl rfl)
    · exact Or.inr (Or.inr (Or.inl rfl))
    · exact Or.inr (Or.inr (Or.inr (Or.inl rfl)))
    · exact Or.inr (Or.inr (Or.inr (Or.inr (Or.inl rfl))))
    · exact Or.inr (Or.inr (Or.inr (Or.inr (Or.inr (Or.inl rfl)))))
    · exact Or.inr (Or.inr (Or.inr (Or.inr (Or.inr (Or.inr (Or.inl rfl))))))
    · exact Or.inr (Or.inr (Or.inr (Or.inr (Or.inr (Or.inr (Or.inr (Or.inl rfl)))))))
    · exact Or.inr (Or.inr (Or.inr (Or.inr (Or.inr (Or.inr (Or.inr (Or.inr (Or.inl rfl))))))))
    · exact Or.inr (Or.inr (Or.inr (Or.inr (Or.inr (Or.inr (Or.inr (Or.inr (Or.inr (Or.inl rfl)))))))))
    · exact Or.inr (Or.inr (Or.inr (Or.inr (Or.inr (Or.inr (Or.inr (Or.inr (Or.inr (Or.inr (Or.inl rfl))))))))))
    · exact Or.inr (Or.inr (Or.inr (Or.inr (Or.inr (Or.inr (Or.inr (Or.inr (Or.inr (Or.inr (Or.inr (Or.inl rfl)))))))))))
    · exact Or.inr (Or.inr (Or.inr (Or.inr (Or.inr (Or.inr (Or.inr (Or.inr (Or.inr (Or.inr (Or.inr (Or.inr (Or.inl rfl))))))))))))
    · exact Or.inr (Or.inr (Or.inr (Or.inr (Or.inr (Or.inr (Or.inr (Or.inr (Or.inr (Or.inr (Or.inr (Or.inr (Or.inr (Or.inl rfl)))))))))))))
    · exact Or.inr (Or.inr (Or.inr (Or.inr (Or.inr (Or.inr (Or.inr (Or.inr (Or.inr (Or.inr (Or.inr (Or.inr (Or.inr (Or.inr (Or.inl rfl))))))))))))))
    · exact Or.inr (Or.inr (Or.inr (Or.inr (Or.inr (Or.inr (Or.inr (Or.inr (Or.inr (Or.inr (Or.inr (Or.inr (Or.inr (Or.inr (Or.inr (Or.inl rfl)))))))))))))))
    · exact Or.inr (Or.inr (Or.inr (Or.inr (Or.inr (Or.inr (Or.inr (Or.inr (Or.inr (Or.inr (Or.inr (Or.inr (Or.inr (Or.inr (Or.inr (Or.inr (Or.inl rfl))))))))))))))))
    · exact Or.inr (Or.inr (Or.inr (Or.inr (Or.inr (Or.inr (Or.inr (Or.inr (Or.inr (Or.inr (Or.inr (Or.inr (Or.inr (Or.inr (Or.inr (Or.inr (Or.inr (Or.inl rfl)))))))))))))))))
    · exact Or.inr (Or.inr (Or.inr (Or.inr (Or.inr (Or.inr (Or.inr (Or.inr (Or.inr (Or.inr (Or.inr (Or.inr (Or.inr (Or.inr (Or.inr (Or.inr (Or.inr (Or.inr (Or.inl rfl))))))))))))))))))
    · exact Or.inr (Or.inr (Or.inr (Or.inr (Or.inr (Or.inr (Or.inr (Or.inr (Or.inr (Or.inr (Or.inr (Or.inr (Or.inr (Or.inr (Or.inr (Or.inr (Or.inr (Or.inr (Or.inr (Or.inl rfl)))))))))))))))))))
    · exact Or.inr (Or.inr (Or.inr (Or.inr (Or.inr (Or.inr (Or.inr (Or.inr (Or.inr (Or.inr (Or.inr (Or.inr (Or.inr (Or.inr (Or.inr (Or.inr (Or.inr (Or.inr (Or.inr (Or.inr (Or.inl rfl))))))))))))))))))))
    · exact Or.inr (Or.inr (Or.inr (Or.inr (Or.inr (Or.inr (Or.inr (Or.inr (Or.inr (Or.inr (Or.inr (Or.inr (Or.inr (Or.inr (Or.inr (Or.inr (Or.inr (Or.inr (Or.inr (Or.inr (Or.inr (Or.inl rfl)))))))))))))))))))))
    · exact Or.inr (Or.inr (Or.inr (Or.inr (Or.inr (Or.inr (Or.inr (Or.inr (Or.inr (Or.inr (Or.inr (Or.inr (Or.inr (Or.inr (Or.inr (Or.inr (Or.inr (Or.inr (Or.inr (Or.inr (Or.inr (Or.inr (Or.inl rfl))))))))))))))))))))))
    · exact Or.inr (Or.inr (Or.inr (Or.inr (Or.inr (Or.inr (Or.inr (Or.inr (Or.inr (Or.inr (Or.inr (Or.inr (Or.inr (Or.inr (Or.inr (Or.inr (Or.inr (Or.inr (Or.inr (Or.inr (Or.inr (Or.inr (Or.inr (Or.inl rfl)))))))))))))))))))))))
    · exact Or.inr (Or.inr (Or.inr (Or.inr (Or.inr (Or.inr (Or.inr (Or.inr (Or.inr (Or.inr (Or.inr (Or.inr (Or.inr (Or.inr (Or.inr (Or.inr (Or.inr (Or.inr (Or.inr (Or.inr (Or.inr (Or.inr (Or.inr (Or.inr (Or.inl rfl))))))))))))))))))))))))
    · exact Or.inr (Or.inr (Or.inr (Or.inr (Or.inr (Or.inr (Or.inr (Or.inr (Or.inr (Or.inr (Or.inr (Or.inr (Or.inr (Or.inr (Or.inr (Or.inr (Or.inr (Or.inr (Or.inr (Or.inr (Or.inr (Or.inr (Or.inr (Or.inr (Or.inr (Or.inl rfl)))))))))))))))))))))))))
    · exact Or.inr (Or.inr (Or.inr (Or.inr (Or.inr (Or.inr (Or.inr (Or.inr (Or.inr (Or.inr (Or.inr (Or.inr (Or.inr (Or.inr (Or.inr (Or.inr (Or.inr (Or.inr (Or.inr (Or.inr (Or.inr (Or.inr (Or.inr (Or.inr (Or.inr (Or.inr (Or.inl rfl))))))))))))))))))))))))))
    · exact Or.inr (Or.inr (Or.inr (Or.inr (Or.inr (Or.inr (Or.inr (Or.inr (Or.inr (Or.inr (Or.inr (Or.inr (Or.inr (Or.inr (Or.inr (Or.inr (Or.inr (Or.inr (Or.inr (Or.inr (Or.inr (Or.inr (Or.inr (Or.inr (Or.inr (Or.inr (Or.inr (rfl)))))))))))))))))))))))))))
theorem ty_same3 {G : va_G} {k : Nat → ClassId} {cA : ClassId} {s : State} (h1 : va_K G vwCl (tyF k ++ [(cA, .object "TileHouse$Seat")]) s) (h : va_K G vwCl (tyF k) s) : cA = k 3 := by
  obtain ⟨_, _, _, _, _, e1⟩ := (h1.2 5 _ rfl).2
  obtain ⟨_, _, _, _, _, e2⟩ := (h.2 3 _ rfl).2
  exact Option.some.inj (e1.symm.trans e2)
theorem ty_same4 {G : va_G} {k : Nat → ClassId} {cA : ClassId} {s : State} (h1 : va_K G vwCl (tyF k ++ [(cA, .object "TileHouse$Win")]) s) (h : va_K G vwCl (tyF k) s) : cA = k 4 := by
  obtain ⟨_, _, _, _, _, e1⟩ := (h1.2 5 _ rfl).2
  obtain ⟨_, _, _, _, _, e2⟩ := (h.2 4 _ rfl).2
  exact Option.some.inj (e1.symm.trans e2)
theorem i_nn {x : Int32} (h : ¬ x < 0) : (0 : Int32) ≤ x := by
  rw [Int32.lt_iff_toInt_lt] at h
  rw [Int32.le_iff_toInt_le]
  exact Int.not_lt.mp h
end
section
theorem dX6_isSeat_0 : decode cX6_isSeat 0 = .ok (.iload_n 0, 1) := by decide +kernel
theorem dX6_isSeat_1 : decode cX6_isSeat 1 = .ok (.ifCond .lt 12, 3) := by decide +kernel
theorem dX6_isSeat_13 : decode cX6_isSeat 13 = .ok (.iconst 0, 1) := by decide +kernel
theorem dX6_isSeat_14 : decode cX6_isSeat 14 = .ok (.ireturn, 1) := by decide +kernel
theorem dX6_isSeat_4 : decode cX6_isSeat 4 = .ok (.iload_n 0, 1) := by decide +kernel
theorem dX6_isSeat_5 : decode cX6_isSeat 5 = .ok (.iconst 4, 1) := by decide +kernel
theorem dX6_isSeat_6 : decode cX6_isSeat 6 = .ok (.if_icmp .ge 7, 3) := by decide +kernel
theorem dX6_isSeat_9 : decode cX6_isSeat 9 = .ok (.iconst 1, 1) := by decide +kernel
theorem dX6_isSeat_10 : decode cX6_isSeat 10 = .ok (.goto 4, 3) := by decide +kernel
theorem dX6_isKind_0 : decode cX6_isKind 0 = .ok (.iload_n 0, 1) := by decide +kernel
theorem dX6_isKind_1 : decode cX6_isKind 1 = .ok (.ifCond .lt 13, 3) := by decide +kernel
theorem dX6_isKind_14 : decode cX6_isKind 14 = .ok (.iconst 0, 1) := by decide +kernel
theorem dX6_isKind_15 : decode cX6_isKind 15 = .ok (.ireturn, 1) := by decide +kernel
theorem dX6_isKind_4 : decode cX6_isKind 4 = .ok (.iload_n 0, 1) := by decide +kernel
theorem dX6_isKind_5 : decode cX6_isKind 5 = .ok (.bipush 34, 2) := by decide +kernel
theorem dX6_isKind_7 : decode cX6_isKind 7 = .ok (.if_icmp .ge 7, 3) := by decide +kernel
theorem dX6_isKind_10 : decode cX6_isKind 10 = .ok (.iconst 1, 1) := by decide +kernel
theorem dX6_isKind_11 : decode cX6_isKind 11 = .ok (.goto 4, 3) := by decide +kernel
theorem dX7_isSeat_0 : decode cX7_isSeat 0 = .ok (.iload_n 0, 1) := by decide +kernel
theorem dX7_isSeat_1 : decode cX7_isSeat 1 = .ok (.ifCond .lt 12, 3) := by decide +kernel
theorem dX7_isSeat_13 : decode cX7_isSeat 13 = .ok (.iconst 0, 1) := by decide +kernel
theorem dX7_isSeat_14 : decode cX7_isSeat 14 = .ok (.ireturn, 1) := by decide +kernel
theorem dX7_isSeat_4 : decode cX7_isSeat 4 = .ok (.iload_n 0, 1) := by decide +kernel
theorem dX7_isSeat_5 : decode cX7_isSeat 5 = .ok (.iconst 4, 1) := by decide +kernel
theorem dX7_isSeat_6 : decode cX7_isSeat 6 = .ok (.if_icmp .ge 7, 3) := by decide +kernel
theorem dX7_isSeat_9 : decode cX7_isSeat 9 = .ok (.iconst 1, 1) := by decide +kernel
theorem dX7_isSeat_10 : decode cX7_isSeat 10 = .ok (.goto 4, 3) := by decide +kernel
theorem dX7_isKind_0 : decode cX7_isKind 0 = .ok (.iload_n 0, 1) := by decide +kernel
theorem dX7_isKind_1 : decode cX7_isKind 1 = .ok (.ifCond .lt 13, 3) := by decide +kernel
theorem dX7_isKind_14 : decode cX7_isKind 14 = .ok (.iconst 0, 1) := by decide +kernel
theorem dX7_isKind_15 : decode cX7_isKind 15 = .ok (.ireturn, 1) := by decide +kernel
theorem dX7_isKind_4 : decode cX7_isKind 4 = .ok (.iload_n 0, 1) := by decide +kernel
theorem dX7_isKind_5 : decode cX7_isKind 5 = .ok (.bipush 34, 2) := by decide +kernel
theorem dX7_isKind_7 : decode cX7_isKind 7 = .ok (.if_icmp .ge 7, 3) := by decide +kernel
theorem dX7_isKind_10 : decode cX7_isKind 10 = .ok (.iconst 1, 1) := by decide +kernel
theorem dX7_isKind_11 : decode cX7_isKind 11 = .ok (.goto 4, 3) := by decide +kernel
theorem dX6_startsRun_0 : decode cX6_startsRun 0 = .ok (.iload_n 0, 1) := by decide +kernel
theorem dX6_startsRun_1 : decode cX6_startsRun 1 = .ok (.ifCond .lt 22, 3) := by decide +kernel
theorem dX6_startsRun_23 : decode cX6_startsRun 23 = .ok (.iconst 0, 1) := by decide +kernel
theorem dX6_startsRun_24 : decode cX6_startsRun 24 = .ok (.ireturn, 1) := by decide +kernel
theorem dX6_startsRun_4 : decode cX6_startsRun 4 = .ok (.iload_n 0, 1) := by decide +kernel
theorem dX6_startsRun_5 : decode cX6_startsRun 5 = .ok (.bipush 27, 2) := by decide +kernel
theorem dX6_startsRun_7 : decode cX6_startsRun 7 = .ok (.if_icmp .ge 16, 3) := by decide +kernel
theorem dX6_startsRun_10 : decode cX6_startsRun 10 = .ok (.iload_n 0, 1) := by decide +kernel
theorem dX6_startsRun_11 : decode cX6_startsRun 11 = .ok (.bipush 9, 2) := by decide +kernel
theorem dX6_startsRun_13 : decode cX6_startsRun 13 = .ok (.irem, 1) := by decide +kernel
theorem dX6_startsRun_14 : decode cX6_startsRun 14 = .ok (.bipush 6, 2) := by decide +kernel
theorem dX6_startsRun_16 : decode cX6_startsRun 16 = .ok (.if_icmp .gt 7, 3) := by decide +kernel
theorem dX6_startsRun_19 : decode cX6_startsRun 19 = .ok (.iconst 1, 1) := by decide +kernel
theorem dX6_startsRun_20 : decode cX6_startsRun 20 = .ok (.goto 4, 3) := by decide +kernel
theorem dX7_isRun_0 : decode cX7_isRun 0 = .ok (.iload_n 0, 1) := by decide +kernel
theorem dX7_isRun_1 : decode cX7_isRun 1 = .ok (.ifCond .lt 22, 3) := by decide +kernel
theorem dX7_isRun_23 : decode cX7_isRun 23 = .ok (.iconst 0, 1) := by decide +kernel
theorem dX7_isRun_24 : decode cX7_isRun 24 = .ok (.ireturn, 1) := by decide +kernel
theorem dX7_isRun_4 : decode cX7_isRun 4 = .ok (.iload_n 0, 1) := by decide +kernel
theorem dX7_isRun_5 : decode cX7_isRun 5 = .ok (.bipush 27, 2) := by decide +kernel
theorem dX7_isRun_7 : decode cX7_isRun 7 = .ok (.if_icmp .ge 16, 3) := by decide +kernel
theorem dX7_isRun_10 : decode cX7_isRun 10 = .ok (.iload_n 0, 1) := by decide +kernel
theorem dX7_isRun_11 : decode cX7_isRun 11 = .ok (.bipush 9, 2) := by decide +kernel
theorem dX7_isRun_13 : decode cX7_isRun 13 = .ok (.irem, 1) := by decide +kernel
theorem dX7_isRun_14 : decode cX7_isRun 14 = .ok (.bipush 7, 2) := by decide +kernel
theorem dX7_isRun_16 : decode cX7_isRun 16 = .ok (.if_icmp .ge 7, 3) := by decide +kernel
theorem dX7_isRun_19 : decode cX7_isRun 19 = .ok (.iconst 1, 1) := by decide +kernel
theorem dX7_isRun_20 : decode cX7_isRun 20 = .ok (.goto 4, 3) := by decide +kernel
theorem dX6_tilesOfEach_0 : decode cX6_tilesOfEach 0 = .ok (.iload_n 0, 1) := by decide +kernel
theorem dX6_tilesOfEach_1 : decode cX6_tilesOfEach 1 = .ok (.ifCond .ne 5, 3) := by decide +kernel
theorem dX6_tilesOfEach_6 : decode cX6_tilesOfEach 6 = .ok (.iload_n 0, 1) := by decide +kernel
theorem dX6_tilesOfEach_7 : decode cX6_tilesOfEach 7 = .ok (.iconst 1, 1) := by decide +kernel
theorem dX6_tilesOfEach_8 : decode cX6_tilesOfEach 8 = .ok (.if_icmp .ne 7, 3) := by decide +kernel
theorem dX6_tilesOfEach_15 : decode cX6_tilesOfEach 15 = .ok (.iconst 4, 1) := by decide +kernel
theorem dX6_tilesOfEach_16 : decode cX6_tilesOfEach 16 = .ok (.ireturn, 1) := by decide +kernel
theorem dX6_tilesOfEach_11 : decode cX6_tilesOfEach 11 = .ok (.iconst 3, 1) := by decide +kernel
theorem dX6_tilesOfEach_12 : decode cX6_tilesOfEach 12 = .ok (.goto 4, 3) := by decide +kernel
theorem dX6_tilesOfEach_4 : decode cX6_tilesOfEach 4 = .ok (.iconst 1, 1) := by decide +kernel
theorem dX6_tilesOfEach_5 : decode cX6_tilesOfEach 5 = .ok (.ireturn, 1) := by decide +kernel
theorem dX6_at_0 : decode cX6_at 0 = .ok (.aload_n 0, 1) := by decide +kernel
theorem dX6_at_1 : decode cX6_at 1 = .ok (.getfield 11, 3) := by decide +kernel
theorem dX6_at_4 : decode cX6_at 4 = .ok (.iload_n 1, 1) := by decide +kernel
theorem dX6_at_5 : decode cX6_at 5 = .ok (.iconst 3, 1) := by decide +kernel
theorem dX6_at_6 : decode cX6_at 6 = .ok (.iand, 1) := by decide +kernel
theorem dX6_at_7 : decode cX6_at 7 = .ok (.aaload, 1) := by decide +kernel
theorem dX6_at_8 : decode cX6_at 8 = .ok (.areturn, 1) := by decide +kernel
theorem dX6_windOf_0 : decode cX6_windOf 0 = .ok (.iload_n 1, 1) := by decide +kernel
theorem dX6_windOf_1 : decode cX6_windOf 1 = .ok (.aload_n 0, 1) := by decide +kernel
theorem dX6_windOf_2 : decode cX6_windOf 2 = .ok (.getfield 62, 3) := by decide +kernel
theorem dX6_windOf_5 : decode cX6_windOf 5 = .ok (.isub, 1) := by decide +kernel
theorem dX6_windOf_6 : decode cX6_windOf 6 = .ok (.iconst 3, 1) := by decide +kernel
theorem dX6_windOf_7 : decode cX6_windOf 7 = .ok (.iand, 1) := by decide +kernel
theorem dX6_windOf_8 : decode cX6_windOf 8 = .ok (.ireturn, 1) := by decide +kernel
theorem dX6_isWin_0 : decode cX6_isWin 0 = .ok (.iload_n 1, 1) := by decide +kernel
theorem dX6_isWin_1 : decode cX6_isWin 1 = .ok (.ifCond .lt 20, 3) := by decide +kernel
theorem dX6_isWin_21 : decode cX6_isWin 21 = .ok (.iconst 0, 1) := by decide +kernel
theorem dX6_isWin_22 : decode cX6_isWin 22 = .ok (.ireturn, 1) := by decide +kernel
theorem dX6_isWin_4 : decode cX6_isWin 4 = .ok (.iload_n 1, 1) := by decide +kernel
theorem dX6_isWin_5 : decode cX6_isWin 5 = .ok (.aload_n 0, 1) := by decide +kernel
theorem dX6_isWin_6 : decode cX6_isWin 6 = .ok (.getfield 83, 3) := by decide +kernel
theorem dX6_isWin_9 : decode cX6_isWin 9 = .ok (.if_icmp .ge 12, 3) := by decide +kernel
theorem dX3_free_0 : decode cX3_free 0 = .ok (.iload_n 1, 1) := by decide +kernel
set_option maxRecDepth 20000 in
theorem ggX3_free_X6_isKind : GoodIn wsX3_free wsX6_isKind := goodIn_r _ [4] (by decide +kernel) (by decide +kernel)
set_option maxRecDepth 20000 in
theorem gX3_free_X6_isKind_n31 : GoodIn wsX3_free (wsX6_isKind) := ggX3_free_X6_isKind
theorem dX3_free_1 : decode cX3_free 1 = .ok (.invokestatic 31, 3) := by decide +kernel
theorem dX3_free_4 : decode cX3_free 4 = .ok (.ifCond .eq 12, 3) := by decide +kernel
theorem dX3_free_7 : decode cX3_free 7 = .ok (.aload_n 0, 1) := by decide +kernel
theorem dX3_free_8 : decode cX3_free 8 = .ok (.getfield 9, 3) := by decide +kernel
theorem dX3_free_11 : decode cX3_free 11 = .ok (.iload_n 1, 1) := by decide +kernel
theorem dX3_free_12 : decode cX3_free 12 = .ok (.iaload, 1) := by decide +kernel
theorem dX3_free_13 : decode cX3_free 13 = .ok (.goto 4, 3) := by decide +kernel
theorem dX3_free_17 : decode cX3_free 17 = .ok (.ireturn, 1) := by decide +kernel
theorem dX3_free_16 : decode cX3_free 16 = .ok (.iconst 0, 1) := by decide +kernel
theorem dX3_all_0 : decode cX3_all 0 = .ok (.iload_n 1, 1) := by decide +kernel
set_option maxRecDepth 20000 in
theorem ggX3_all_X6_isKind : GoodIn wsX3_all wsX6_isKind := goodIn_r _ [4] (by decide +kernel) (by decide +kernel)
set_option maxRecDepth 20000 in
theorem gX3_all_X6_isKind_n31 : GoodIn wsX3_all (wsX6_isKind) := ggX3_all_X6_isKind
theorem dX3_all_1 : decode cX3_all 1 = .ok (.invokestatic 31, 3) := by decide +kernel
theorem dX3_all_4 : decode cX3_all 4 = .ok (.ifCond .eq 12, 3) := by decide +kernel
theorem dX3_all_7 : decode cX3_all 7 = .ok (.aload_n 0, 1) := by decide +kernel
theorem dX3_all_8 : decode cX3_all 8 = .ok (.getfield 15, 3) := by decide +kernel
theorem dX3_all_11 : decode cX3_all 11 = .ok (.iload_n 1, 1) := by decide +kernel
theorem dX3_all_12 : decode cX3_all 12 = .ok (.iaload, 1) := by decide +kernel
theorem dX3_all_13 : decode cX3_all 13 = .ok (.goto 4, 3) := by decide +kernel
theorem dX3_all_17 : decode cX3_all 17 = .ok (.ireturn, 1) := by decide +kernel
theorem dX3_all_16 : decode cX3_all 16 = .ok (.iconst 0, 1) := by decide +kernel
theorem dX3_size_0 : decode cX3_size 0 = .ok (.aload_n 0, 1) := by decide +kernel
theorem dX3_size_1 : decode cX3_size 1 = .ok (.getfield 28, 3) := by decide +kernel
theorem dX3_size_4 : decode cX3_size 4 = .ok (.iconst 3, 1) := by decide +kernel
theorem dX3_size_5 : decode cX3_size 5 = .ok (.aload_n 0, 1) := by decide +kernel
theorem dX3_size_6 : decode cX3_size 6 = .ok (.getfield 24, 3) := by decide +kernel
theorem dX3_size_9 : decode cX3_size 9 = .ok (.imul, 1) := by decide +kernel
theorem dX3_size_10 : decode cX3_size 10 = .ok (.iadd, 1) := by decide +kernel
theorem dX3_size_11 : decode cX3_size 11 = .ok (.ireturn, 1) := by decide +kernel
theorem dX3_isOpen_0 : decode cX3_isOpen 0 = .ok (.iconst 0, 1) := by decide +kernel
theorem dX3_isOpen_1 : decode cX3_isOpen 1 = .ok (.istore_n 1, 1) := by decide +kernel
theorem dX3_isOpen_2 : decode cX3_isOpen 2 = .ok (.iload_n 1, 1) := by decide +kernel
theorem dX3_isOpen_3 : decode cX3_isOpen 3 = .ok (.aload_n 0, 1) := by decide +kernel
theorem dX3_isOpen_4 : decode cX3_isOpen 4 = .ok (.getfield 24, 3) := by decide +kernel
theorem dX3_isOpen_7 : decode cX3_isOpen 7 = .ok (.if_icmp .ge 26, 3) := by decide +kernel
theorem dX3_isOpen_33 : decode cX3_isOpen 33 = .ok (.iconst 0, 1) := by decide +kernel
theorem dX3_isOpen_34 : decode cX3_isOpen 34 = .ok (.ireturn, 1) := by decide +kernel
theorem dX4_kindAt_0 : decode cX4_kindAt 0 = .ok (.aload_n 0, 1) := by decide +kernel
theorem dX4_kindAt_1 : decode cX4_kindAt 1 = .ok (.getfield 19, 3) := by decide +kernel
theorem dX4_kindAt_4 : decode cX4_kindAt 4 = .ok (.ifCond .eq 23, 3) := by decide +kernel
theorem dX4_kindAt_27 : decode cX4_kindAt 27 = .ok (.iconst (-1), 1) := by decide +kernel
theorem dX4_kindAt_28 : decode cX4_kindAt 28 = .ok (.ireturn, 1) := by decide +kernel
theorem dX4_left_0 : decode cX4_left 0 = .ok (.aload_n 0, 1) := by decide +kernel
theorem dX4_left_1 : decode cX4_left 1 = .ok (.getfield 19, 3) := by decide +kernel
theorem dX4_left_4 : decode cX4_left 4 = .ok (.ifCond .eq 18, 3) := by decide +kernel
theorem dX4_left_22 : decode cX4_left 22 = .ok (.iconst 0, 1) := by decide +kernel
theorem dX4_left_23 : decode cX4_left 23 = .ok (.ireturn, 1) := by decide +kernel
theorem dX4_signs_0 : decode cX4_signs 0 = .ok (.aload_n 0, 1) := by decide +kernel
theorem dX4_signs_1 : decode cX4_signs 1 = .ok (.getfield 19, 3) := by decide +kernel
theorem dX4_signs_4 : decode cX4_signs 4 = .ok (.ifCond .eq 12, 3) := by decide +kernel
theorem dX4_signs_16 : decode cX4_signs 16 = .ok (.iconst 0, 1) := by decide +kernel
theorem dX4_signs_17 : decode cX4_signs 17 = .ok (.ireturn, 1) := by decide +kernel
set_option maxHeartbeats 4000000 in
set_option maxRecDepth 100000 in
theorem c_X6_isSeat (l : Launch) (G : va_G) (k : Nat → ClassId) (p0 : Int32) : Met l yX6_isSeat wsX6_isSeat ({ frames := 0, cells := 0, slots := 0, locals := 0 }) (va_Pc [.int p0] (pr G k [])) (vp_Si (fun r => (r = 1 ∧ vp_in p0 4) ∨ (r = 0 ∧ ¬ vp_in p0 4))) 0 0 (fun _ => False) := by
  refine Met.ofW (cc := cX6_isSeat) (maxL := 1) (ret := (some .boolean)) (by decide) rfl ?_
  intro p e s m args below meth c s₁ B hml hv
  obtain ⟨rfl, hP, hK, hN⟩ := hv
  have hx := B.exec
  have hb := B.bytes
  have hr := B.returns
  have hts := atoms_spec (ws := wsX6_isSeat) B.pre
  have hown : s.vm.findClass RX6 = some m.cls := findClass_of_methodNamed B.named
  have hlocks := B.notSynchronized
  have hl := lv_entry ([.int p0]) (n := 1) (Nat.le_of_ble_eq_true rfl)
  rw [lg_entry_eq]
  generalize (lg_sl ([.int p0]) ++ List.replicate (1 - (lg_sl ([.int p0])).length) Slot.unset).toArray = ls at hl ⊢
  have hl : lv_has ls 1 [(0, .int p0)] := hl
  refine lv_iload_n hx hb dX6_isSeat_0 rfl (lv_at hl 0 rfl) ?_
  refine lv_if_lt (tgt := 13) hx hb dX6_isSeat_1 (by decide) (fun c1 => ?_) (fun c1 => ?_)
  · skip
    refine lv_iconst (v := 0) hx hb dX6_isSeat_13 (by decide) ?_
    exact W.zret (v := 0) hx hb hr rfl (fun t ht hW => ⟨0, rfl, Or.inr ⟨rfl, by first | exact nin_lt (by assumption) | exact nin_ge (M := 4) rfl (by assumption)⟩, ht⟩) (fun _ h => by cases h) dX6_isSeat_14
  · skip
    refine lv_iload_n hx hb dX6_isSeat_4 rfl (lv_at hl 0 rfl) ?_
    refine lv_iconst (v := 4) hx hb dX6_isSeat_5 (by decide) ?_
    refine lv_icmp_ge (tgt := 13) hx hb dX6_isSeat_6 (by decide) (fun c2 => ?_) (fun c2 => ?_)
    · skip
      refine lv_iconst (v := 0) hx hb dX6_isSeat_13 (by decide) ?_
      exact W.zret (v := 0) hx hb hr rfl (fun t ht hW => ⟨0, rfl, Or.inr ⟨rfl, by first | exact nin_lt (by assumption) | exact nin_ge (M := 4) rfl (by assumption)⟩, ht⟩) (fun _ h => by cases h) dX6_isSeat_14
    · skip
      refine lv_iconst (v := 1) hx hb dX6_isSeat_9 (by decide) ?_
      refine lv_goto (tgt := 14) hx hb dX6_isSeat_10 (by decide) ?_
      exact W.zret (v := 1) hx hb hr rfl (fun t ht hW => ⟨1, rfl, Or.inl ⟨rfl, in_of (M := 4) rfl (by assumption) (by assumption)⟩, ht⟩) (fun _ h => by cases h) dX6_isSeat_14
set_option maxHeartbeats 4000000 in
set_option maxRecDepth 100000 in
theorem c_X6_isKind (l : Launch) (G : va_G) (k : Nat → ClassId) (p0 : Int32) : Met l yX6_isKind wsX6_isKind ({ frames := 0, cells := 0, slots := 0, locals := 0 }) (va_Pc [.int p0] (pr G k [])) (vp_Si (fun r => (r = 1 ∧ vp_in p0 34) ∨ (r = 0 ∧ ¬ vp_in p0 34))) 0 0 (fun _ => False) := by
  refine Met.ofW (cc := cX6_isKind) (maxL := 1) (ret := (some .boolean)) (by decide) rfl ?_
  intro p e s m args below meth c s₁ B hml hv
  obtain ⟨rfl, hP, hK, hN⟩ := hv
  have hx := B.exec
  have hb := B.bytes
  have hr := B.returns
  have hts := atoms_spec (ws := wsX6_isKind) B.pre
  have hown : s.vm.findClass RX6 = some m.cls := findClass_of_methodNamed B.named
  have hlocks := B.notSynchronized
  have hl := lv_entry ([.int p0]) (n := 1) (Nat.le_of_ble_eq_true rfl)
  rw [lg_entry_eq]
  generalize (lg_sl ([.int p0]) ++ List.replicate (1 - (lg_sl ([.int p0])).length) Slot.unset).toArray = ls at hl ⊢
  have hl : lv_has ls 1 [(0, .int p0)] := hl
  refine lv_iload_n hx hb dX6_isKind_0 rfl (lv_at hl 0 rfl) ?_
  refine lv_if_lt (tgt := 14) hx hb dX6_isKind_1 (by decide) (fun c1 => ?_) (fun c1 => ?_)
  · skip
    refine lv_iconst (v := 0) hx hb dX6_isKind_14 (by decide) ?_
    exact W.zret (v := 0) hx hb hr rfl (fun t ht hW => ⟨0, rfl, Or.inr ⟨rfl, by first | exact nin_lt (by assumption) | exact nin_ge (M := 34) rfl (by assumption)⟩, ht⟩) (fun _ h => by cases h) dX6_isKind_15
  · skip
    refine lv_iload_n hx hb dX6_isKind_4 rfl (lv_at hl 0 rfl) ?_
    refine lv_bipush (v := 34) hx hb dX6_isKind_5 (by decide) ?_
    refine lv_icmp_ge (tgt := 14) hx hb dX6_isKind_7 (by decide) (fun c2 => ?_) (fun c2 => ?_)
    · skip
      refine lv_iconst (v := 0) hx hb dX6_isKind_14 (by decide) ?_
      exact W.zret (v := 0) hx hb hr rfl (fun t ht hW => ⟨0, rfl, Or.inr ⟨rfl, by first | exact nin_lt (by assumption) | exact nin_ge (M := 34) rfl (by assumption)⟩, ht⟩) (fun _ h => by cases h) dX6_isKind_15
    · skip
      refine lv_iconst (v := 1) hx hb dX6_isKind_10 (by decide) ?_
      refine lv_goto (tgt := 15) hx hb dX6_isKind_11 (by decide) ?_
      exact W.zret (v := 1) hx hb hr rfl (fun t ht hW => ⟨1, rfl, Or.inl ⟨rfl, in_of (M := 34) rfl (by assumption) (by assumption)⟩, ht⟩) (fun _ h => by cases h) dX6_isKind_15
set_option maxHeartbeats 4000000 in
set_option maxRecDepth 100000 in
theorem c_X7_isSeat (l : Launch) (G : va_G) (k : Nat → ClassId) (p0 : Int32) : Met l yX7_isSeat wsX7_isSeat ({ frames := 0, cells := 0, slots := 0, locals := 0 }) (va_Pc [.int p0] (pr G k [])) (vp_Si (fun r => (r = 1 ∧ vp_in p0 4) ∨ (r = 0 ∧ ¬ vp_in p0 4))) 0 0 (fun _ => False) := by
  refine Met.ofW (cc := cX7_isSeat) (maxL := 1) (ret := (some .boolean)) (by decide) rfl ?_
  intro p e s m args below meth c s₁ B hml hv
  obtain ⟨rfl, hP, hK, hN⟩ := hv
  have hx := B.exec
  have hb := B.bytes
  have hr := B.returns
  have hts := atoms_spec (ws := wsX7_isSeat) B.pre
  have hown : s.vm.findClass RX7 = some m.cls := findClass_of_methodNamed B.named
  have hlocks := B.notSynchronized
  have hl := lv_entry ([.int p0]) (n := 1) (Nat.le_of_ble_eq_true rfl)
  rw [lg_entry_eq]
  generalize (lg_sl ([.int p0]) ++ List.replicate (1 - (lg_sl ([.int p0])).length) Slot.unset).toArray = ls at hl ⊢
  have hl : lv_has ls 1 [(0, .int p0)] := hl
  refine lv_iload_n hx hb dX7_isSeat_0 rfl (lv_at hl 0 rfl) ?_
  refine lv_if_lt (tgt := 13) hx hb dX7_isSeat_1 (by decide) (fun c1 => ?_) (fun c1 => ?_)
  · skip
    refine lv_iconst (v := 0) hx hb dX7_isSeat_13 (by decide) ?_
    exact W.zret (v := 0) hx hb hr rfl (fun t ht hW => ⟨0, rfl, Or.inr ⟨rfl, by first | exact nin_lt (by assumption) | exact nin_ge (M := 4) rfl (by assumption)⟩, ht⟩) (fun _ h => by cases h) dX7_isSeat_14
  · skip
    refine lv_iload_n hx hb dX7_isSeat_4 rfl (lv_at hl 0 rfl) ?_
    refine lv_iconst (v := 4) hx hb dX7_isSeat_5 (by decide) ?_
    refine lv_icmp_ge (tgt := 13) hx hb dX7_isSeat_6 (by decide) (fun c2 => ?_) (fun c2 => ?_)
    · skip
      refine lv_iconst (v := 0) hx hb dX7_isSeat_13 (by decide) ?_
      exact W.zret (v := 0) hx hb hr rfl (fun t ht hW => ⟨0, rfl, Or.inr ⟨rfl, by first | exact nin_lt (by assumption) | exact nin_ge (M := 4) rfl (by assumption)⟩, ht⟩) (fun _ h => by cases h) dX7_isSeat_14
    · skip
      refine lv_iconst (v := 1) hx hb dX7_isSeat_9 (by decide) ?_
      refine lv_goto (tgt := 14) hx hb dX7_isSeat_10 (by decide) ?_
      exact W.zret (v := 1) hx hb hr rfl (fun t ht hW => ⟨1, rfl, Or.inl ⟨rfl, in_of (M := 4) rfl (by assumption) (by assumption)⟩, ht⟩) (fun _ h => by cases h) dX7_isSeat_14
set_option maxHeartbeats 4000000 in
set_option maxRecDepth 100000 in
theorem c_X7_isKind (l : Launch) (G : va_G) (k : Nat → ClassId) (p0 : Int32) : Met l yX7_isKind wsX7_isKind ({ frames := 0, cells := 0, slots := 0, locals := 0 }) (va_Pc [.int p0] (pr G k [])) (vp_Si (fun r => (r = 1 ∧ vp_in p0 34) ∨ (r = 0 ∧ ¬ vp_in p0 34))) 0 0 (fun _ => False) := by
  refine Met.ofW (cc := cX7_isKind) (maxL := 1) (ret := (some .boolean)) (by decide) rfl ?_
  intro p e s m args below meth c s₁ B hml hv
  obtain ⟨rfl, hP, hK, hN⟩ := hv
  have hx := B.exec
  have hb := B.bytes
  have hr := B.returns
  have hts := atoms_spec (ws := wsX7_isKind) B.pre
  have hown : s.vm.findClass RX7 = some m.cls := findClass_of_methodNamed B.named
  have hlocks := B.notSynchronized
  have hl := lv_entry ([.int p0]) (n := 1) (Nat.le_of_ble_eq_true rfl)
  rw [lg_entry_eq]
  generalize (lg_sl ([.int p0]) ++ List.replicate (1 - (lg_sl ([.int p0])).length) Slot.unset).toArray = ls at hl ⊢
  have hl : lv_has ls 1 [(0, .int p0)] := hl
  refine lv_iload_n hx hb dX7_isKind_0 rfl (lv_at hl 0 rfl) ?_
  refine lv_if_lt (tgt := 14) hx hb dX7_isKind_1 (by decide) (fun c1 => ?_) (fun c1 => ?_)
  · skip
    refine lv_iconst (v := 0) hx hb dX7_isKind_14 (by decide) ?_
    exact W.zret (v := 0) hx hb hr rfl (fun t ht hW => ⟨0, rfl, Or.inr ⟨rfl, by first | exact nin_lt (by assumption) | exact nin_ge (M := 34) rfl (by assumption)⟩, ht⟩) (fun _ h => by cases h) dX7_isKind_15
  · skip
    refine lv_iload_n hx hb dX7_isKind_4 rfl (lv_at hl 0 rfl) ?_
    refine lv_bipush (v := 34) hx hb dX7_isKind_5 (by decide) ?_
    refine lv_icmp_ge (tgt := 14) hx hb dX7_isKind_7 (by decide) (fun c2 => ?_) (fun c2 => ?_)
    · skip
      refine lv_iconst (v := 0) hx hb dX7_isKind_14 (by decide) ?_
      exact W.zret (v := 0) hx hb hr rfl (fun t ht hW => ⟨0, rfl, Or.inr ⟨rfl, by first | exact nin_lt (by assumption) | exact nin_ge (M := 34) rfl (by assumption)⟩, ht⟩) (fun _ h => by cases h) dX7_isKind_15
    · skip
      refine lv_iconst (v := 1) hx hb dX7_isKind_10 (by decide) ?_
      refine lv_goto (tgt := 15) hx hb dX7_isKind_11 (by decide) ?_
      exact W.zret (v := 1) hx hb hr rfl (fun t ht hW => ⟨1, rfl, Or.inl ⟨rfl, in_of (M := 34) rfl (by assumption) (by assumption)⟩, ht⟩) (fun _ h => by cases h) dX7_isKind_15
def sr (p : Int32) : Prop := ¬ p < 0 ∧ ¬ (27 : Int32) ≤ p ∧ ¬ (7 : Int32) ≤ (p - p / 9 * 9)
theorem sr67 {q : Int32} : (6 : Int32) < q ↔ (7 : Int32) ≤ q := by rw [Int32.lt_iff_toInt_lt, Int32.le_iff_toInt_le, show (6 : Int32).toInt = 6 from rfl, show (7 : Int32).toInt = 7 from rfl]; omega
set_option maxHeartbeats 4000000 in
set_option maxRecDepth 100000 in
theorem c_X6_startsRun (l : Launch) (G : va_G) (k : Nat → ClassId) (p0 : Int32) : Met l yX6_startsRun wsX6_startsRun ({ frames := 0, cells := 0, slots := 0, locals := 0 }) (va_Pc [.int p0] (pr G k [])) (vp_Si (fun r => (r = 1 ∧ sr p0) ∨ (r = 0 ∧ ¬ sr p0))) 0 0 (fun _ => False) := by
  refine Met.ofW (cc := cX6_startsRun) (maxL := 1) (ret := (some .boolean)) (by decide) rfl ?_
  intro p e s m args below meth c s₁ B hml hv
  obtain ⟨rfl, hP, hK, hN⟩ := hv
  have hx := B.exec
  have hb := B.bytes
  have hr := B.returns
  have hts := atoms_spec (ws := wsX6_startsRun) B.pre
  have hown : s.vm.findClass RX6 = some m.cls := findClass_of_methodNamed B.named
  have hlocks := B.notSynchronized
  have hl := lv_entry ([.int p0]) (n := 1) (Nat.le_of_ble_eq_true rfl)
  rw [lg_entry_eq]
  generalize (lg_sl ([.int p0]) ++ List.replicate (1 - (lg_sl ([.int p0])).length) Slot.unset).toArray = ls at hl ⊢
  have hl : lv_has ls 1 [(0, .int p0)] := hl
  refine lv_iload_n hx hb dX6_startsRun_0 rfl (lv_at hl 0 rfl) ?_
  refine lv_if_lt (tgt := 23) hx hb dX6_startsRun_1 (by decide) (fun c1 => ?_) (fun c1 => ?_)
  · skip
    refine lv_iconst (v := 0) hx hb dX6_startsRun_23 (by decide) ?_
    exact W.zret (v := 0) hx hb hr rfl (fun t ht hW => ⟨0, rfl, Or.inr ⟨rfl, fun h9 => by first | exact h9.1 (by assumption) | exact h9.2.1 (by assumption) | exact h9.2.2 (by rw [← rfl]; first | assumption | exact sr67.mp (by assumption))⟩, ht⟩) (fun _ h => by cases h) dX6_startsRun_24
  · skip
    refine lv_iload_n hx hb dX6_startsRun_4 rfl (lv_at hl 0 rfl) ?_
    refine lv_bipush (v := 27) hx hb dX6_startsRun_5 (by decide) ?_
    refine lv_icmp_ge (tgt := 23) hx hb dX6_startsRun_7 (by decide) (fun c2 => ?_) (fun c2 => ?_)
    · skip
      refine lv_iconst (v := 0) hx hb dX6_startsRun_23 (by decide) ?_
      exact W.zret (v := 0) hx hb hr rfl (fun t ht hW => ⟨0, rfl, Or.inr ⟨rfl, fun h9 => by first | exact h9.1 (by assumption) | exact h9.2.1 (by assumption) | exact h9.2.2 (by rw [← rfl]; first | assumption | exact sr67.mp (by assumption))⟩, ht⟩) (fun _ h => by cases h) dX6_startsRun_24
    · skip
      refine lv_iload_n hx hb dX6_startsRun_10 rfl (lv_at hl 0 rfl) ?_
      refine lv_bipush (v := 9) hx hb dX6_startsRun_11 (by decide) ?_
      refine lv_irem hx hb dX6_startsRun_13 (by decide) ?_
      refine lv_topi (fun v3 ev3 => ?_)
      refine lv_bipush (v := 6) hx hb dX6_startsRun_14 (by decide) ?_
      refine lv_icmp_gt (tgt := 23) hx hb dX6_startsRun_16 (by decide) (fun c4 => ?_) (fun c4 => ?_)
      · skip
        refine lv_iconst (v := 0) hx hb dX6_startsRun_23 (by decide) ?_
        exact W.zret (v := 0) hx hb hr rfl (fun t ht hW => ⟨0, rfl, Or.inr ⟨rfl, fun h9 => by first | exact h9.1 (by assumption) | exact h9.2.1 (by assumption) | exact h9.2.2 (by rw [← ev3]; first | assumption | exact sr67.mp (by assumption))⟩, ht⟩) (fun _ h => by cases h) dX6_startsRun_24
      · skip
        refine lv_iconst (v := 1) hx hb dX6_startsRun_19 (by decide) ?_
        refine lv_goto (tgt := 24) hx hb dX6_startsRun_20 (by decide) ?_
        exact W.zret (v := 1) hx hb hr rfl (fun t ht hW => ⟨1, rfl, Or.inl ⟨rfl, by assumption, by assumption, by rw [← ev3]; first | assumption | exact fun h9 => absurd (sr67.mpr h9) (by assumption)⟩, ht⟩) (fun _ h => by cases h) dX6_startsRun_24
set_option maxHeartbeats 4000000 in
set_option maxRecDepth 100000 in
theorem c_X7_isRun (l : Launch) (G : va_G) (k : Nat → ClassId) (p0 : Int32) : Met l yX7_isRun wsX7_isRun ({ frames := 0, cells := 0, slots := 0, locals := 0 }) (va_Pc [.int p0] (pr G k [])) (vp_Si (fun r => (r = 1 ∧ sr p0) ∨ (r = 0 ∧ ¬ sr p0))) 0 0 (fun _ => False) := by
  refine Met.ofW (cc := cX7_isRun) (maxL := 1) (ret := (some .boolean)) (by decide) rfl ?_
  intro p e s m args below meth c s₁ B hml hv
  obtain ⟨rfl, hP, hK, hN⟩ := hv
  have hx := B.exec
  have hb := B.bytes
  have hr := B.returns
  have hts := atoms_spec (ws := wsX7_isRun) B.pre
  have hown : s.vm.findClass RX7 = some m.cls := findClass_of_methodNamed B.named
  have hlocks := B.notSynchronized
  have hl := lv_entry ([.int p0]) (n := 1) (Nat.le_of_ble_eq_true rfl)
  rw [lg_entry_eq]
  generalize (lg_sl ([.int p0]) ++ List.replicate (1 - (lg_sl ([.int p0])).length) Slot.unset).toArray = ls at hl ⊢
  have hl : lv_has ls 1 [(0, .int p0)] := hl
  refine lv_iload_n hx hb dX7_isRun_0 rfl (lv_at hl 0 rfl) ?_
  refine lv_if_lt (tgt := 23) hx hb dX7_isRun_1 (by decide) (fun c1 => ?_) (fun c1 => ?_)
  · skip
    refine lv_iconst (v := 0) hx hb dX7_isRun_23 (by decide) ?_
    exact W.zret (v := 0) hx hb hr rfl (fun t ht hW => ⟨0, rfl, Or.inr ⟨rfl, fun h9 => by first | exact h9.1 (by assumption) | exact h9.2.1 (by assumption) | exact h9.2.2 (by rw [← rfl]; first | assumption | exact sr67.mp (by assumption))⟩, ht⟩) (fun _ h => by cases h) dX7_isRun_24
  · skip
    refine lv_iload_n hx hb dX7_isRun_4 rfl (lv_at hl 0 rfl) ?_
    refine lv_bipush (v := 27) hx hb dX7_isRun_5 (by decide) ?_
    refine lv_icmp_ge (tgt := 23) hx hb dX7_isRun_7 (by decide) (fun c2 => ?_) (fun c2 => ?_)
    · skip
      refine lv_iconst (v := 0) hx hb dX7_isRun_23 (by decide) ?_
      exact W.zret (v := 0) hx hb hr rfl (fun t ht hW => ⟨0, rfl, Or.inr ⟨rfl, fun h9 => by first | exact h9.1 (by assumption) | exact h9.2.1 (by assumption) | exact h9.2.2 (by rw [← rfl]; first | assumption | exact sr67.mp (by assumption))⟩, ht⟩) (fun _ h => by cases h) dX7_isRun_24
    · skip
      refine lv_iload_n hx hb dX7_isRun_10 rfl (lv_at hl 0 rfl) ?_
      refine lv_bipush (v := 9) hx hb dX7_isRun_11 (by decide) ?_
      refine lv_irem hx hb dX7_isRun_13 (by decide) ?_
      refine lv_topi (fun v3 ev3 => ?_)
      refine lv_bipush (v := 7) hx hb dX7_isRun_14 (by decide) ?_
      refine lv_icmp_ge (tgt := 23) hx hb dX7_isRun_16 (by decide) (fun c4 => ?_) (fun c4 => ?_)
      · skip
        refine lv_iconst (v := 0) hx hb dX7_isRun_23 (by decide) ?_
        exact W.zret (v := 0) hx hb hr rfl (fun t ht hW => ⟨0, rfl, Or.inr ⟨rfl, fun h9 => by first | exact h9.1 (by assumption) | exact h9.2.1 (by assumption) | exact h9.2.2 (by rw [← ev3]; first | assumption | exact sr67.mp (by assumption))⟩, ht⟩) (fun _ h => by cases h) dX7_isRun_24
      · skip
        refine lv_iconst (v := 1) hx hb dX7_isRun_19 (by decide) ?_
        refine lv_goto (tgt := 24) hx hb dX7_isRun_20 (by decide) ?_
        exact W.zret (v := 1) hx hb hr rfl (fun t ht hW => ⟨1, rfl, Or.inl ⟨rfl, by assumption, by assumption, by rw [← ev3]; first | assumption | exact fun h9 => absurd (sr67.mpr h9) (by assumption)⟩, ht⟩) (fun _ h => by cases h) dX7_isRun_24
set_option maxHeartbeats 4000000 in
set_option maxRecDepth 100000 in
theorem c_X6_tilesOfEach (l : Launch) (G : va_G) (k : Nat → ClassId) (p0 : Int32) : Met l yX6_tilesOfEach wsX6_tilesOfEach ({ frames := 0, cells := 0, slots := 0, locals := 0 }) (va_Pc [.int p0] (pr G k [])) (vp_Si (fun r => (r = 1 ∧ p0 = 0) ∨ (r = 3 ∧ p0 = 1) ∨ (r = 4 ∧ ¬ p0 = 0 ∧ ¬ p0 = 1))) 0 0 (fun _ => False) := by
  refine Met.ofW (cc := cX6_tilesOfEach) (maxL := 1) (ret := (some .int)) (by decide) rfl ?_
  intro p e s m args below meth c s₁ B hml hv
  obtain ⟨rfl, hP, hK, hN⟩ := hv
  have hx := B.exec
  have hb := B.bytes
  have hr := B.returns
  have hts := atoms_spec (ws := wsX6_tilesOfEach) B.pre
  have hown : s.vm.findClass RX6 = some m.cls := findClass_of_methodNamed B.named
  have hlocks := B.notSynchronized
  have hl := lv_entry ([.int p0]) (n := 1) (Nat.le_of_ble_eq_true rfl)
  rw [lg_entry_eq]
  generalize (lg_sl ([.int p0]) ++ List.replicate (1 - (lg_sl ([.int p0])).length) Slot.unset).toArray = ls at hl ⊢
  have hl : lv_has ls 1 [(0, .int p0)] := hl
  refine lv_iload_n hx hb dX6_tilesOfEach_0 rfl (lv_at hl 0 rfl) ?_
  refine lv_if_ne (tgt := 6) hx hb dX6_tilesOfEach_1 (by decide) (fun c1 => ?_) (fun c1 => ?_)
  · skip
    refine lv_iload_n hx hb dX6_tilesOfEach_6 rfl (lv_at hl 0 rfl) ?_
    refine lv_iconst (v := 1) hx hb dX6_tilesOfEach_7 (by decide) ?_
    refine lv_icmp_ne (tgt := 15) hx hb dX6_tilesOfEach_8 (by decide) (fun c2 => ?_) (fun c2 => ?_)
    · skip
      refine lv_iconst (v := 4) hx hb dX6_tilesOfEach_15 (by decide) ?_
      exact W.iret (v := 4) hx hb hr (fun t ht hW => ⟨4, rfl, Or.inr (Or.inr ⟨rfl, by assumption, by assumption⟩), ht⟩) (fun _ h => by cases h) dX6_tilesOfEach_16
    · skip
      refine lv_iconst (v := 3) hx hb dX6_tilesOfEach_11 (by decide) ?_
      refine lv_goto (tgt := 16) hx hb dX6_tilesOfEach_12 (by decide) ?_
      exact W.iret (v := 3) hx hb hr (fun t ht hW => ⟨3, rfl, Or.inr (Or.inl ⟨rfl, by assumption⟩), ht⟩) (fun _ h => by cases h) dX6_tilesOfEach_16
  · skip
    refine lv_iconst (v := 1) hx hb dX6_tilesOfEach_4 (by decide) ?_
    exact W.iret (v := 1) hx hb hr (fun t ht hW => ⟨1, rfl, Or.inl ⟨rfl, by assumption⟩, ht⟩) (fun _ h => by cases h) dX6_tilesOfEach_5
theorem iX6_at_X6 : ∀ w ∈ u_ws RX6 TX6 19, w ∈ wsX6_at := by decide +kernel
set_option maxHeartbeats 4000000 in
set_option maxRecDepth 100000 in
theorem c_X6_at (l : Launch) (G : va_G) (k : Nat → ClassId) (h0 : Nat) (pl : Nat) (f : Nat → Option Nat) (sa : Nat → Nat) (hf : ∀ j, j < 4 → f j = some (sa j)) (p0 : Int32) (x1 : Value) (x2 : Value) (x3 : Value) (x4 : Value) (x5 : Value) (x6 : Value) (x7 : Value) (x8 : Value) (x9 : Value) (x10 : Value) (x11 : Value) (x12 : Value) (x13 : Value) (x14 : Value) (x15 : Value) (x16 : Value) (x17 : Value) (x18 : Value) : Met l yX6_at wsX6_at ({ frames := 0, cells := 0, slots := 0, locals := 0 }) (va_Pc [.ref h0, .int p0] (pr G k [(h0, .inr (5, [.ref pl, x1, x2, x3, x4, x5, x6, x7, x8, x9, x10, x11, x12, x13, x14, x15, x16, x17, x18])), (pl, .inl (k 3, 4, .inr (.inr (.inr (.inr f)))))])) (va_Sr (fun r => r = sa (p0 &&& 3).toNatClampNeg) Value.ref) 0 0 (fun _ => False) := by
  refine Met.ofW (cc := cX6_at) (maxL := 2) (ret := (some (.object "TileHouse$Seat"))) (by decide) rfl ?_
  intro p e s m args below meth c s₁ B hml hv
  obtain ⟨rfl, hP, hK, hN⟩ := hv
  have hx := B.exec
  have hb := B.bytes
  have hr := B.returns
  have hts := atoms_spec (ws := wsX6_at) B.pre
  have hown : s.vm.findClass RX6 = some m.cls := findClass_of_methodNamed B.named
  have hlocks := B.notSynchronized
  have hl := lv_entry ([.ref h0, .int p0]) (n := 2) (Nat.le_of_ble_eq_true rfl)
  rw [lg_entry_eq]
  generalize (lg_sl ([.ref h0, .int p0]) ++ List.replicate (2 - (lg_sl ([.ref h0, .int p0])).length) Slot.unset).toArray = ls at hl ⊢
  have hl : lv_has ls 2 [(0, .ref h0), (1, .int p0)] := hl
  refine lv_aload_n hx hb dX6_at_0 rfl (lv_at hl 0 rfl) ?_
  refine va_get (D := G) (ci := 5) (v := .ref pl) (C := RX6) (T := TX6) (N := 19) hx hb hts iX6_at_X6 hown hK hP 0 rfl rfl 0 (by decide) (hts (.fieldLink RX6 11 "TileHouse" "players" "[LTileHouse$Seat;") (by decide +kernel)) (fun _ h9 => h9) rfl dX6_at_1 ?_
  refine lv_iload_n hx hb dX6_at_4 rfl (lv_at hl 1 rfl) ?_
  refine lv_iconst (v := 3) hx hb dX6_at_5 (by decide) ?_
  refine lv_iand hx hb dX6_at_6 ?_
  refine lv_topi (fun v1 ev1 => ?_)
  refine va_aldq hx hb hK hP 1 3 rfl rfl (by rw [ev1]; exact pk_andIn p0 2 (by decide) (by decide)) dX6_at_7 ?_
  rw [hf _ (by rw [ev1]; exact in_lt (pk_andIn p0 2 (by decide) (by decide)))]
  refine W.eq (g2 := F0 m 8 ls [.ref (sa v1.toNatClampNeg)]) rfl ?_
  exact W.aret (v := .ref (sa v1.toNatClampNeg)) hx hb hr (Or.inl ⟨_, rfl⟩) (Or.inr ⟨_, rfl⟩) (fun t ht hW => ⟨sa v1.toNatClampNeg, rfl, by rw [ev1], ht⟩) (fun _ h => by cases h) dX6_at_8
theorem iX6_windOf_X6 : ∀ w ∈ u_ws RX6 TX6 19, w ∈ wsX6_windOf := by decide +kernel
set_option maxHeartbeats 4000000 in
set_option maxRecDepth 100000 in
theorem c_X6_windOf (l : Launch) (G : va_G) (k : Nat → ClassId) (h0 : Nat) (dl : Int32) (p0 : Int32) (x0 : Value) (x1 : Value) (x2 : Value) (x3 : Value) (x4 : Value) (x5 : Value) (x6 : Value) (x7 : Value) (x8 : Value) (x10 : Value) (x11 : Value) (x12 : Value) (x13 : Value) (x14 : Value) (x15 : Value) (x16 : Value) (x17 : Value) (x18 : Value) : Met l yX6_windOf wsX6_windOf ({ frames := 0, cells := 0, slots := 0, locals := 0 }) (va_Pc [.ref h0, .int p0] (pr G k [(h0, .inr (5, [x0, x1, x2, x3, x4, x5, x6, x7, x8, .int dl, x10, x11, x12, x13, x14, x15, x16, x17, x18]))])) (vp_Si (fun r => r = (p0 - dl) &&& 3)) 0 0 (fun _ => False) := by
  refine Met.ofW (cc := cX6_windOf) (maxL := 2) (ret := (some .int)) (by decide) rfl ?_
  intro p e s m args below meth c s₁ B hml hv
  obtain ⟨rfl, hP, hK, hN⟩ := hv
  have hx := B.exec
  have hb := B.bytes
  have hr := B.returns
  have hts := atoms_spec (ws := wsX6_windOf) B.pre
  have hown : s.vm.findClass RX6 = some m.cls := findClass_of_methodNamed B.named
  have hlocks := B.notSynchronized
  have hl := lv_entry ([.ref h0, .int p0]) (n := 2) (Nat.le_of_ble_eq_true rfl)
  rw [lg_entry_eq]
  generalize (lg_sl ([.ref h0, .int p0]) ++ List.replicate (2 - (lg_sl ([.ref h0, .int p0])).length) Slot.unset).toArray = ls at hl ⊢
  have hl : lv_has ls 2 [(0, .ref h0), (1, .int p0)] := hl
  refine lv_iload_n hx hb dX6_windOf_0 rfl (lv_at hl 1 rfl) ?_
  refine lv_aload_n hx hb dX6_windOf_1 rfl (lv_at hl 0 rfl) ?_
  refine va_get (D := G) (ci := 5) (v := .int dl) (C := RX6) (T := TX6) (N := 19) hx hb hts iX6_windOf_X6 hown hK hP 0 rfl rfl 9 (by decide) (hts (.fieldLink RX6 62 "TileHouse" "dealer" "I") (by decide +kernel)) (fun _ h9 => h9) rfl dX6_windOf_2 ?_
  refine lv_isub hx hb dX6_windOf_5 ?_
  refine lv_topi (fun v1 ev1 => ?_)
  refine lv_iconst (v := 3) hx hb dX6_windOf_6 (by decide) ?_
  refine lv_iand hx hb dX6_windOf_7 ?_
  refine lv_topi (fun v2 ev2 => ?_)
  exact W.iret (v := v2) hx hb hr (fun t ht hW => ⟨v2, rfl, by rw [ev2, ev1], ht⟩) (fun _ h => by cases h) dX6_windOf_8
theorem iX6_isWin_X6 : ∀ w ∈ u_ws RX6 TX6 19, w ∈ wsX6_isWin := by decide +kernel
set_option maxHeartbeats 4000000 in
set_option maxRecDepth 100000 in
theorem c_X6_isWin0 (l : Launch) (G : va_G) (k : Nat → ClassId) (h0 : Nat) (p0 : Int32) (x0 : Value) (x1 : Value) (x2 : Value) (x3 : Value) (x4 : Value) (x5 : Value) (x7 : Value) (x8 : Value) (x9 : Value) (x10 : Value) (x11 : Value) (x12 : Value) (x13 : Value) (x14 : Value) (x15 : Value) (x16 : Value) (x17 : Value) (x18 : Value) : Met l yX6_isWin wsX6_isWin ({ frames := 0, cells := 0, slots := 0, locals := 0 }) (va_Pc [.ref h0, .int p0] (pr G k [(h0, .inr (5, [x0, x1, x2, x3, x4, x5, .int 0, x7, x8, x9, x10, x11, x12, x13, x14, x15, x16, x17, x18]))])) (vp_Si (fun r => r = 0)) 0 0 (fun _ => False) := by
  refine Met.ofW (cc := cX6_isWin) (maxL := 2) (ret := (some .boolean)) (by decide) rfl ?_
  intro p e s m args below meth c s₁ B hml hv
  obtain ⟨rfl, hP, hK, hN⟩ := hv
  have hx := B.exec
  have hb := B.bytes
  have hr := B.returns
  have hts := atoms_spec (ws := wsX6_isWin) B.pre
  have hown : s.vm.findClass RX6 = some m.cls := findClass_of_methodNamed B.named
  have hlocks := B.notSynchronized
  have hl := lv_entry ([.ref h0, .int p0]) (n := 2) (Nat.le_of_ble_eq_true rfl)
  rw [lg_entry_eq]
  generalize (lg_sl ([.ref h0, .int p0]) ++ List.replicate (2 - (lg_sl ([.ref h0, .int p0])).length) Slot.unset).toArray = ls at hl ⊢
  have hl : lv_has ls 2 [(0, .ref h0), (1, .int p0)] := hl
  refine lv_iload_n hx hb dX6_isWin_0 rfl (lv_at hl 1 rfl) ?_
  refine lv_if_lt (tgt := 21) hx hb dX6_isWin_1 (by decide) (fun c1 => ?_) (fun c1 => ?_)
  · skip
    refine lv_iconst (v := 0) hx hb dX6_isWin_21 (by decide) ?_
    exact W.zret (v := 0) hx hb hr rfl (fun t ht hW => ⟨0, rfl, rfl, ht⟩) (fun _ h => by cases h) dX6_isWin_22
  · skip
    refine lv_iload_n hx hb dX6_isWin_4 rfl (lv_at hl 1 rfl) ?_
    refine lv_aload_n hx hb dX6_isWin_5 rfl (lv_at hl 0 rfl) ?_
    refine va_get (D := G) (ci := 5) (v := .int 0) (C := RX6) (T := TX6) (N := 19) hx hb hts iX6_isWin_X6 hown hK hP 0 rfl rfl 6 (by decide) (hts (.fieldLink RX6 83 "TileHouse" "winCount" "I") (by decide +kernel)) (fun _ h9 => h9) rfl dX6_isWin_6 ?_
    refine lv_icmp_ge (tgt := 21) hx hb dX6_isWin_9 (by decide) (fun _ => ?_) (fun c9 => absurd (i_nn (by assumption)) c9)
    refine lv_iconst (v := 0) hx hb dX6_isWin_21 (by decide) ?_
    exact W.zret (v := 0) hx hb hr rfl (fun t ht hW => ⟨0, rfl, rfl, ht⟩) (fun _ h => by cases h) dX6_isWin_22
theorem iX3_free_X3 : ∀ w ∈ u_ws RX3 TX3 6, w ∈ wsX3_free := by decide +kernel
set_option maxHeartbeats 4000000 in
set_option maxRecDepth 100000 in
theorem c_X3_free (l : Launch) (G : va_G) (k : Nat → ClassId) (h0 : Nat) (fr : Nat) (f : Nat → Int32) (p0 : Int32) (x1 : Value) (x2 : Value) (x3 : Value) (x4 : Value) (x5 : Value) : Met l yX3_free wsX3_free ({ frames := 1, cells := 0, slots := 0, locals := 20 }) (va_Pc [.ref h0, .int p0] (pr G k [(h0, .inr (2, [.ref fr, x1, x2, x3, x4, x5])), (fr, .inl (k 0, 34, .inl f))])) (vp_Si (fun r => (vp_in p0 34 ∧ r = f p0.toNatClampNeg) ∨ (¬ vp_in p0 34 ∧ r = 0))) 0 0 (fun _ => False) := by
  refine Met.ofW (cc := cX3_free) (maxL := 2) (ret := (some .int)) (by decide) rfl ?_
  intro p e s m args below meth c s₁ B hml hv
  obtain ⟨rfl, hP, hK, hN⟩ := hv
  have hx := B.exec
  have hb := B.bytes
  have hr := B.returns
  have hts := atoms_spec (ws := wsX3_free) B.pre
  have hown : s.vm.findClass RX3 = some m.cls := findClass_of_methodNamed B.named
  have hlocks := B.notSynchronized
  have hl := lv_entry ([.ref h0, .int p0]) (n := 2) (Nat.le_of_ble_eq_true rfl)
  rw [lg_entry_eq]
  generalize (lg_sl ([.ref h0, .int p0]) ++ List.replicate (2 - (lg_sl ([.ref h0, .int p0])).length) Slot.unset).toArray = ls at hl ⊢
  have hl : lv_has ls 2 [(0, .ref h0), (1, .int p0)] := hl
  refine lv_iload_n hx hb dX3_free_0 rfl (lv_at hl 1 rfl) ?_
  have hPc := hP.sub (ws' := []) [] rfl
  refine q_calli (va_runSN (As := [.int p0]) (rest := []) ⟨hx, hb, hml, hown, hts⟩ (c_X6_isKind l G k p0) ⟨va_cnB 1 hts gX3_free_X6_isKind_n31 rfl rfl rfl (nw_X3_31 hN) (hts (.initialized RX6) (by decide +kernel)) (by decide +kernel) ⟨Nat.le_of_ble_eq_true rfl, Nat.le_of_ble_eq_true rfl⟩, hts (.static yX6_isKind) (by decide +kernel), trivial⟩ ⟨pr_bl, pr_pre hPc hK hN⟩ rfl rfl hl.1 rfl (lv_room (Nat.le_of_ble_eq_true rfl)) dX3_free_1 ⟨Nat.le_of_ble_eq_true rfl, Nat.le_of_ble_eq_true rfl⟩) (fun r1 hr1 => ?_)
  rcases hr1 with ⟨rfl, h2⟩ | ⟨rfl, h2⟩
  · skip
    refine lv_if_eq (tgt := 16) hx hb dX3_free_4 (by decide) (fun c9 => absurd c9 (by decide)) (fun _ => ?_)
    refine lv_aload_n hx hb dX3_free_7 rfl (lv_at hl 0 rfl) ?_
    refine va_get (D := G) (ci := 2) (v := .ref fr) (C := RX3) (T := TX3) (N := 6) hx hb hts iX3_free_X3 hown hK hP 0 rfl rfl 0 (by decide) (hts (.fieldLink RX3 9 "TileHouse$Tiles" "free" "[I") (by decide +kernel)) (fun _ h9 => h9) rfl dX3_free_8 ?_
    refine lv_iload_n hx hb dX3_free_11 rfl (lv_at hl 1 rfl) ?_
    refine va_iald hx hb hK hP 1 0 rfl rfl h2 dX3_free_12 ?_
    refine lv_topi (fun v3 ev3 => ?_)
    refine lv_goto (tgt := 17) hx hb dX3_free_13 (by decide) ?_
    exact W.iret (v := v3) hx hb hr (fun t ht hW => ⟨v3, rfl, Or.inl ⟨h2, ev3⟩, ht⟩) (fun _ h => by cases h) dX3_free_17
  · skip
    refine lv_if_eq (tgt := 16) hx hb dX3_free_4 (by decide) (fun _ => ?_) (fun c9 => absurd (by decide) c9)
    refine lv_iconst (v := 0) hx hb dX3_free_16 (by decide) ?_
    exact W.iret (v := 0) hx hb hr (fun t ht hW => ⟨0, rfl, Or.inr ⟨h2, rfl⟩, ht⟩) (fun _ h => by cases h) dX3_free_17
theorem iX3_all_X3 : ∀ w ∈ u_ws RX3 TX3 6, w ∈ wsX3_all := by decide +kernel
set_option maxHeartbeats 4000000 in
set_option maxRecDepth 100000 in
theorem c_X3_all (l : Launch) (G : va_G) (k : Nat → ClassId) (h0 : Nat) (fr : Nat) (f : Nat → Int32) (p0 : Int32) (x0 : Value) (x2 : Value) (x3 : Value) (x4 : Value) (x5 : Value) : Met l yX3_all wsX3_all ({ frames := 1, cells := 0, slots := 0, locals := 20 }) (va_Pc [.ref h0, .int p0] (pr G k [(h0, .inr (2, [x0, .ref fr, x2, x3, x4, x5])), (fr, .inl (k 0, 34, .inl f))])) (vp_Si (fun r => (vp_in p0 34 ∧ r = f p0.toNatClampNeg) ∨ (¬ vp_in p0 34 ∧ r = 0))) 0 0 (fun _ => False) := by
  refine Met.ofW (cc := cX3_all) (maxL := 2) (ret := (some .int)) (by decide) rfl ?_
  intro p e s m args below meth c s₁ B hml hv
  obtain ⟨rfl, hP, hK, hN⟩ := hv
  have hx := B.exec
  have hb := B.bytes
  have hr := B.returns
  have hts := atoms_spec (ws := wsX3_all) B.pre
  have hown : s.vm.findClass RX3 = some m.cls := findClass_of_methodNamed B.named
  have hlocks := B.notSynchronized
  have hl := lv_entry ([.ref h0, .int p0]) (n := 2) (Nat.le_of_ble_eq_true rfl)
  rw [lg_entry_eq]
  generalize (lg_sl ([.ref h0, .int p0]) ++ List.replicate (2 - (lg_sl ([.ref h0, .int p0])).length) Slot.unset).toArray = ls at hl ⊢
  have hl : lv_has ls 2 [(0, .ref h0), (1, .int p0)] := hl
  refine lv_iload_n hx hb dX3_all_0 rfl (lv_at hl 1 rfl) ?_
  have hPc := hP.sub (ws' := []) [] rfl
  refine q_calli (va_runSN (As := [.int p0]) (rest := []) ⟨hx, hb, hml, hown, hts⟩ (c_X6_isKind l G k p0) ⟨va_cnB 1 hts gX3_all_X6_isKind_n31 rfl rfl rfl (nw_X3_31 hN) (hts (.initialized RX6) (by decide +kernel)) (by decide +kernel) ⟨Nat.le_of_ble_eq_true rfl, Nat.le_of_ble_eq_true rfl⟩, hts (.static yX6_isKind) (by decide +kernel), trivial⟩ ⟨pr_bl, pr_pre hPc hK hN⟩ rfl rfl hl.1 rfl (lv_room (Nat.le_of_ble_eq_true rfl)) dX3_all_1 ⟨Nat.le_of_ble_eq_true rfl, Nat.le_of_ble_eq_true rfl⟩) (fun r1 hr1 => ?_)
  rcases hr1 with ⟨rfl, h2⟩ | ⟨rfl, h2⟩
  · skip
    refine lv_if_eq (tgt := 16) hx hb dX3_all_4 (by decide) (fun c9 => absurd c9 (by decide)) (fun _ => ?_)
    refine lv_aload_n hx hb dX3_all_7 rfl (lv_at hl 0 rfl) ?_
    refine va_get (D := G) (ci := 2) (v := .ref fr) (C := RX3) (T := TX3) (N := 6) hx hb hts iX3_all_X3 hown hK hP 0 rfl rfl 1 (by decide) (hts (.fieldLink RX3 15 "TileHouse$Tiles" "all" "[I") (by decide +kernel)) (fun _ h9 => h9) rfl dX3_all_8 ?_
    refine lv_iload_n hx hb dX3_all_11 rfl (lv_at hl 1 rfl) ?_
    refine va_iald hx hb hK hP 1 0 rfl rfl h2 dX3_all_12 ?_
    refine lv_topi (fun v3 ev3 => ?_)
    refine lv_goto (tgt := 17) hx hb dX3_all_13 (by decide) ?_
    exact W.iret (v := v3) hx hb hr (fun t ht hW => ⟨v3, rfl, Or.inl ⟨h2, ev3⟩, ht⟩) (fun _ h => by cases h) dX3_all_17
  · skip
    refine lv_if_eq (tgt := 16) hx hb dX3_all_4 (by decide) (fun _ => ?_) (fun c9 => absurd (by decide) c9)
    refine lv_iconst (v := 0) hx hb dX3_all_16 (by decide) ?_
    exact W.iret (v := 0) hx hb hr (fun t ht hW => ⟨0, rfl, Or.inr ⟨h2, rfl⟩, ht⟩) (fun _ h => by cases h) dX3_all_17
theorem iX3_size_X3 : ∀ w ∈ u_ws RX3 TX3 6, w ∈ wsX3_size := by decide +kernel
set_option maxHeartbeats 4000000 in
set_option maxRecDepth 100000 in
theorem c_X3_size (l : Launch) (G : va_G) (k : Nat → ClassId) (h0 : Nat) (ld : Int32) (lo : Int32) (x0 : Value) (x1 : Value) (x2 : Value) (x3 : Value) : Met l yX3_size wsX3_size ({ frames := 0, cells := 0, slots := 0, locals := 0 }) (va_Pc [.ref h0] (pr G k [(h0, .inr (2, [x0, x1, x2, x3, .int ld, .int lo]))])) (vp_Si (fun r => r = lo + 3 * ld)) 0 0 (fun _ => False) := by
  refine Met.ofW (cc := cX3_size) (maxL := 1) (ret := (some .int)) (by decide) rfl ?_
  intro p e s m args below meth c s₁ B hml hv
  obtain ⟨rfl, hP, hK, hN⟩ := hv
  have hx := B.exec
  have hb := B.bytes
  have hr := B.returns
  have hts := atoms_spec (ws := wsX3_size) B.pre
  have hown : s.vm.findClass RX3 = some m.cls := findClass_of_methodNamed B.named
  have hlocks := B.notSynchronized
  have hl := lv_entry ([.ref h0]) (n := 1) (Nat.le_of_ble_eq_true rfl)
  rw [lg_entry_eq]
  generalize (lg_sl ([.ref h0]) ++ List.replicate (1 - (lg_sl ([.ref h0])).length) Slot.unset).toArray = ls at hl ⊢
  have hl : lv_has ls 1 [(0, .ref h0)] := hl
  refine lv_aload_n hx hb dX3_size_0 rfl (lv_at hl 0 rfl) ?_
  refine va_get (D := G) (ci := 2) (v := .int lo) (C := RX3) (T := TX3) (N := 6) hx hb hts iX3_size_X3 hown hK hP 0 rfl rfl 5 (by decide) (hts (.fieldLink RX3 28 "TileHouse$Tiles" "loose" "I") (by decide +kernel)) (fun _ h9 => h9) rfl dX3_size_1 ?_
  refine lv_iconst (v := 3) hx hb dX3_size_4 (by decide) ?_
  refine lv_aload_n hx hb dX3_size_5 rfl (lv_at hl 0 rfl) ?_
  refine va_get (D := G) (ci := 2) (v := .int ld) (C := RX3) (T := TX3) (N := 6) hx hb hts iX3_size_X3 hown hK hP 0 rfl rfl 4 (by decide) (hts (.fieldLink RX3 24 "TileHouse$Tiles" "laidDown" "I") (by decide +kernel)) (fun _ h9 => h9) rfl dX3_size_6 ?_
  refine lv_imul hx hb dX3_size_9 ?_
  refine lv_topi (fun v1 ev1 => ?_)
  refine lv_iadd hx hb dX3_size_10 ?_
  refine lv_topi (fun v2 ev2 => ?_)
  exact W.iret (v := v2) hx hb hr (fun t ht hW => ⟨v2, rfl, by rw [ev2, ev1], ht⟩) (fun _ h => by cases h) dX3_size_11
theorem iX3_isOpen_X3 : ∀ w ∈ u_ws RX3 TX3 6, w ∈ wsX3_isOpen := by decide +kernel
set_option maxHeartbeats 4000000 in
set_option maxRecDepth 100000 in
theorem c_X3_isOpen0 (l : Launch) (G : va_G) (k : Nat → ClassId) (h0 : Nat) (x0 : Value) (x1 : Value) (x2 : Value) (x3 : Value) (x5 : Value) : Met l yX3_isOpen wsX3_isOpen ({ frames := 0, cells := 0, slots := 0, locals := 0 }) (va_Pc [.ref h0] (pr G k [(h0, .inr (2, [x0, x1, x2, x3, .int 0, x5]))])) (vp_Si (fun r => r = 0)) 0 0 (fun _ => False) := by
  refine Met.ofW (cc := cX3_isOpen) (maxL := 2) (ret := (some .boolean)) (by decide) rfl ?_
  intro p e s m args below meth c s₁ B hml hv
  obtain ⟨rfl, hP, hK, hN⟩ := hv
  have hx := B.exec
  have hb := B.bytes
  have hr := B.returns
  have hts := atoms_spec (ws := wsX3_isOpen) B.pre
  have hown : s.vm.findClass RX3 = some m.cls := findClass_of_methodNamed B.named
  have hlocks := B.notSynchronized
  have hl := lv_entry ([.ref h0]) (n := 2) (Nat.le_of_ble_eq_true rfl)
  rw [lg_entry_eq]
  generalize (lg_sl ([.ref h0]) ++ List.replicate (2 - (lg_sl ([.ref h0])).length) Slot.unset).toArray = ls at hl ⊢
  have hl : lv_has ls 2 [(0, .ref h0)] := hl
  refine lv_iconst (v := 0) hx hb dX3_isOpen_0 (by decide) ?_
  refine lv_istore_n (lv' := [(1, .int 0), (0, .ref h0)]) hx hb dX3_isOpen_1 rfl hl (by decide) rfl (fun ls hl => ?_)
  refine lv_iload_n hx hb dX3_isOpen_2 rfl (lv_at hl 0 rfl) ?_
  refine lv_aload_n hx hb dX3_isOpen_3 rfl (lv_at hl 1 rfl) ?_
  refine va_get (D := G) (ci := 2) (v := .int 0) (C := RX3) (T := TX3) (N := 6) hx hb hts iX3_isOpen_X3 hown hK hP 0 rfl rfl 4 (by decide) (hts (.fieldLink RX3 24 "TileHouse$Tiles" "laidDown" "I") (by decide +kernel)) (fun _ h9 => h9) rfl dX3_isOpen_4 ?_
  refine lv_icmp_ge (tgt := 33) hx hb dX3_isOpen_7 (by decide) (fun _ => ?_) (fun c9 => absurd (by decide) c9)
  refine lv_iconst (v := 0) hx hb dX3_isOpen_33 (by decide) ?_
  exact W.zret (v := 0) hx hb hr rfl (fun t ht hW => ⟨0, rfl, rfl, ht⟩) (fun _ h => by cases h) dX3_isOpen_34
theorem iX4_kindAt_X4 : ∀ w ∈ u_ws RX4 TX4 4, w ∈ wsX4_kindAt := by decide +kernel
set_option maxHeartbeats 4000000 in
set_option maxRecDepth 100000 in
theorem c_X4_kindAt0 (l : Launch) (G : va_G) (k : Nat → ClassId) (h0 : Nat) (p0 : Int32) (x0 : Value) (x2 : Value) (x3 : Value) : Met l yX4_kindAt wsX4_kindAt ({ frames := 0, cells := 0, slots := 0, locals := 0 }) (va_Pc [.ref h0, .int p0] (pr G k [(h0, .inr (3, [x0, .int 0, x2, x3]))])) (vp_Si (fun r => r = (-1))) 0 0 (fun _ => False) := by
  refine Met.ofW (cc := cX4_kindAt) (maxL := 2) (ret := (some .int)) (by decide) rfl ?_
  intro p e s m args below meth c s₁ B hml hv
  obtain ⟨rfl, hP, hK, hN⟩ := hv
  have hx := B.exec
  have hb := B.bytes
  have hr := B.returns
  have hts := atoms_spec (ws := wsX4_kindAt) B.pre
  have hown : s.vm.findClass RX4 = some m.cls := findClass_of_methodNamed B.named
  have hlocks := B.notSynchronized
  have hl := lv_entry ([.ref h0, .int p0]) (n := 2) (Nat.le_of_ble_eq_true rfl)
  rw [lg_entry_eq]
  generalize (lg_sl ([.ref h0, .int p0]) ++ List.replicate (2 - (lg_sl ([.ref h0, .int p0])).length) Slot.unset).toArray = ls at hl ⊢
  have hl : lv_has ls 2 [(0, .ref h0), (1, .int p0)] := hl
  refine lv_aload_n hx hb dX4_kindAt_0 rfl (lv_at hl 0 rfl) ?_
  refine va_get (D := G) (ci := 3) (v := .int 0) (C := RX4) (T := TX4) (N := 4) hx hb hts iX4_kindAt_X4 hown hK hP 0 rfl rfl 1 (by decide) (hts (.fieldLink RX4 19 "TileHouse$Wall" "stands" "Z") (by decide +kernel)) (fun _ h9 => h9) rfl dX4_kindAt_1 ?_
  refine lv_if_eq (tgt := 27) hx hb dX4_kindAt_4 (by decide) (fun _ => ?_) (fun c9 => absurd (by decide) c9)
  refine lv_iconst (v := (-1)) hx hb dX4_kindAt_27 (by decide) ?_
  exact W.iret (v := (-1)) hx hb hr (fun t ht hW => ⟨(-1), rfl, rfl, ht⟩) (fun _ h => by cases h) dX4_kindAt_28
theorem iX4_left_X4 : ∀ w ∈ u_ws RX4 TX4 4, w ∈ wsX4_left := by decide +kernel
set_option maxHeartbeats 4000000 in
set_option maxRecDepth 100000 in
theorem c_X4_left0 (l : Launch) (G : va_G) (k : Nat → ClassId) (h0 : Nat) (x0 : Value) (x2 : Value) (x3 : Value) : Met l yX4_left wsX4_left ({ frames := 0, cells := 0, slots := 0, locals := 0 }) (va_Pc [.ref h0] (pr G k [(h0, .inr (3, [x0, .int 0, x2, x3]))])) (vp_Si (fun r => r = 0)) 0 0 (fun _ => False) := by
  refine Met.ofW (cc := cX4_left) (maxL := 1) (ret := (some .int)) (by decide) rfl ?_
  intro p e s m args below meth c s₁ B hml hv
  obtain ⟨rfl, hP, hK, hN⟩ := hv
  have hx := B.exec
  have hb := B.bytes
  have hr := B.returns
  have hts := atoms_spec (ws := wsX4_left) B.pre
  have hown : s.vm.findClass RX4 = some m.cls := findClass_of_methodNamed B.named
  have hlocks := B.notSynchronized
  have hl := lv_entry ([.ref h0]) (n := 1) (Nat.le_of_ble_eq_true rfl)
  rw [lg_entry_eq]
  generalize (lg_sl ([.ref h0]) ++ List.replicate (1 - (lg_sl ([.ref h0])).length) Slot.unset).toArray = ls at hl ⊢
  have hl : lv_has ls 1 [(0, .ref h0)] := hl
  refine lv_aload_n hx hb dX4_left_0 rfl (lv_at hl 0 rfl) ?_
  refine va_get (D := G) (ci := 3) (v := .int 0) (C := RX4) (T := TX4) (N := 4) hx hb hts iX4_left_X4 hown hK hP 0 rfl rfl 1 (by decide) (hts (.fieldLink RX4 19 "TileHouse$Wall" "stands" "Z") (by decide +kernel)) (fun _ h9 => h9) rfl dX4_left_1 ?_
  refine lv_if_eq (tgt := 22) hx hb dX4_left_4 (by decide) (fun _ => ?_) (fun c9 => absurd (by decide) c9)
  refine lv_iconst (v := 0) hx hb dX4_left_22 (by decide) ?_
  exact W.iret (v := 0) hx hb hr (fun t ht hW => ⟨0, rfl, rfl, ht⟩) (fun _ h => by cases h) dX4_left_23
theorem iX4_signs_X4 : ∀ w ∈ u_ws RX4 TX4 4, w ∈ wsX4_signs := by decide +kernel
set_option maxHeartbeats 4000000 in
set_option maxRecDepth 100000 in
theorem c_X4_signs0 (l : Launch) (G : va_G) (k : Nat → ClassId) (h0 : Nat) (x0 : Value) (x2 : Value) (x3 : Value) : Met l yX4_signs wsX4_signs ({ frames := 0, cells := 0, slots := 0, locals := 0 }) (va_Pc [.ref h0] (pr G k [(h0, .inr (3, [x0, .int 0, x2, x3]))])) (vp_Si (fun r => r = 0)) 0 0 (fun _ => False) := by
  refine Met.ofW (cc := cX4_signs) (maxL := 1) (ret := (some .int)) (by decide) rfl ?_
  intro p e s m args below meth c s₁ B hml hv
  obtain ⟨rfl, hP, hK, hN⟩ := hv
  have hx := B.exec
  have hb := B.bytes
  have hr := B.returns
  have hts := atoms_spec (ws := wsX4_signs) B.pre
  have hown : s.vm.findClass RX4 = some m.cls := findClass_of_methodNamed B.named
  have hlocks := B.notSynchronized
  have hl := lv_entry ([.ref h0]) (n := 1) (Nat.le_of_ble_eq_true rfl)
  rw [lg_entry_eq]
  generalize (lg_sl ([.ref h0]) ++ List.replicate (1 - (lg_sl ([.ref h0])).length) Slot.unset).toArray = ls at hl ⊢
  have hl : lv_has ls 1 [(0, .ref h0)] := hl
  refine lv_aload_n hx hb dX4_signs_0 rfl (lv_at hl 0 rfl) ?_
  refine va_get (D := G) (ci := 3) (v := .int 0) (C := RX4) (T := TX4) (N := 4) hx hb hts iX4_signs_X4 hown hK hP 0 rfl rfl 1 (by decide) (hts (.fieldLink RX4 19 "TileHouse$Wall" "stands" "Z") (by decide +kernel)) (fun _ h9 => h9) rfl dX4_signs_1 ?_
  refine lv_if_eq (tgt := 16) hx hb dX4_signs_4 (by decide) (fun _ => ?_) (fun c9 => absurd (by decide) c9)
  refine lv_iconst (v := 0) hx hb dX4_signs_16 (by decide) ?_
  exact W.iret (v := 0) hx hb hr (fun t ht hW => ⟨0, rfl, rfl, ht⟩) (fun _ h => by cases h) dX4_signs_17
end
section
theorem dX5_init_0 : decode cX5_init 0 = .ok (.aload_n 0, 1) := by decide +kernel
theorem dX5_init_1 : decode cX5_init 1 = .ok (.invokespecial 3, 3) := by decide +kernel
theorem dX5_init_4 : decode cX5_init 4 = .ok (.return_, 1) := by decide +kernel
theorem dX3_init_0 : decode cX3_init 0 = .ok (.aload_n 0, 1) := by decide +kernel
theorem dX3_init_1 : decode cX3_init 1 = .ok (.invokespecial 3, 3) := by decide +kernel
theorem dX3_init_4 : decode cX3_init 4 = .ok (.aload_n 0, 1) := by decide +kernel
theorem dX3_init_5 : decode cX3_init 5 = .ok (.bipush 34, 2) := by decide +kernel
theorem dX3_init_7 : decode cX3_init 7 = .ok (.newarray .int, 2) := by decide +kernel
theorem dX3_init_9 : decode cX3_init 9 = .ok (.putfield 9, 3) := by decide +kernel
theorem dX3_init_12 : decode cX3_init 12 = .ok (.aload_n 0, 1) := by decide +kernel
theorem dX3_init_13 : decode cX3_init 13 = .ok (.bipush 34, 2) := by decide +kernel
theorem dX3_init_15 : decode cX3_init 15 = .ok (.newarray .int, 2) := by decide +kernel
theorem dX3_init_17 : decode cX3_init 17 = .ok (.putfield 15, 3) := by decide +kernel
theorem dX3_init_20 : decode cX3_init 20 = .ok (.aload_n 0, 1) := by decide +kernel
theorem dX3_init_21 : decode cX3_init 21 = .ok (.iconst 4, 1) := by decide +kernel
theorem dX3_init_22 : decode cX3_init 22 = .ok (.newarray .int, 2) := by decide +kernel
theorem dX3_init_24 : decode cX3_init 24 = .ok (.putfield 18, 3) := by decide +kernel
theorem dX3_init_27 : decode cX3_init 27 = .ok (.aload_n 0, 1) := by decide +kernel
theorem dX3_init_28 : decode cX3_init 28 = .ok (.iconst 4, 1) := by decide +kernel
theorem dX3_init_29 : decode cX3_init 29 = .ok (.newarray .int, 2) := by decide +kernel
theorem dX3_init_31 : decode cX3_init 31 = .ok (.putfield 21, 3) := by decide +kernel
theorem dX3_init_34 : decode cX3_init 34 = .ok (.return_, 1) := by decide +kernel
theorem dX4_init_0 : decode cX4_init 0 = .ok (.aload_n 0, 1) := by decide +kernel
theorem dX4_init_1 : decode cX4_init 1 = .ok (.invokespecial 3, 3) := by decide +kernel
theorem dX4_init_4 : decode cX4_init 4 = .ok (.aload_n 0, 1) := by decide +kernel
theorem dX4_init_5 : decode cX4_init 5 = .ok (.sipush 136, 3) := by decide +kernel
theorem dX4_init_8 : decode cX4_init 8 = .ok (.newarray .int, 2) := by decide +kernel
theorem dX4_init_10 : decode cX4_init 10 = .ok (.putfield 11, 3) := by decide +kernel
theorem dX4_init_13 : decode cX4_init 13 = .ok (.return_, 1) := by decide +kernel
theorem dX1_init_0 : decode cX1_init 0 = .ok (.aload_n 0, 1) := by decide +kernel
theorem dX1_init_1 : decode cX1_init 1 = .ok (.invokespecial 3, 3) := by decide +kernel
theorem dX1_init_4 : decode cX1_init 4 = .ok (.aload_n 0, 1) := by decide +kernel
theorem dX1_init_5 : decode cX1_init 5 = .ok (.iconst 4, 1) := by decide +kernel
theorem dX1_init_6 : decode cX1_init 6 = .ok (.newarray .int, 2) := by decide +kernel
theorem dX1_init_8 : decode cX1_init 8 = .ok (.putfield 9, 3) := by decide +kernel
theorem dX1_init_11 : decode cX1_init 11 = .ok (.aload_n 0, 1) := by decide +kernel
theorem dX1_init_12 : decode cX1_init 12 = .ok (.iconst 4, 1) := by decide +kernel
theorem dX1_init_13 : decode cX1_init 13 = .ok (.newarray .int, 2) := by decide +kernel
theorem dX1_init_15 : decode cX1_init 15 = .ok (.putfield 15, 3) := by decide +kernel
theorem dX1_init_18 : decode cX1_init 18 = .ok (.aload_n 0, 1) := by decide +kernel
theorem dX1_init_19 : decode cX1_init 19 = .ok (.iconst 4, 1) := by decide +kernel
theorem dX1_init_20 : decode cX1_init 20 = .ok (.newarray .int, 2) := by decide +kernel
theorem dX1_init_22 : decode cX1_init 22 = .ok (.putfield 18, 3) := by decide +kernel
theorem dX1_init_25 : decode cX1_init 25 = .ok (.return_, 1) := by decide +kernel
theorem dX2_init_0 : decode cX2_init 0 = .ok (.aload_n 0, 1) := by decide +kernel
theorem dX2_init_1 : decode cX2_init 1 = .ok (.invokespecial 3, 3) := by decide +kernel
theorem dX2_init_4 : decode cX2_init 4 = .ok (.aload_n 0, 1) := by decide +kernel
theorem dX2_init_5 : decode cX2_init 5 = .ok (.new 9, 3) := by decide +kernel
theorem dX2_init_8 : decode cX2_init 8 = .ok (.dup, 1) := by decide +kernel
set_option maxRecDepth 20000 in
theorem ggX2_init_X3_init : GoodIn wsX2_init wsX3_init := goodIn_r _ [12, 13, 2, 3, 8, 14, 15, 16, 17, 18, 19, 20, 21, 22, 23] (by decide +kernel) (by decide +kernel)
set_option maxRecDepth 20000 in
theorem gX2_init_X3_init_n11 : GoodIn wsX2_init (wsX3_init) := ggX2_init_X3_init
theorem dX2_init_9 : decode cX2_init 9 = .ok (.invokespecial 11, 3) := by decide +kernel
theorem dX2_init_12 : decode cX2_init 12 = .ok (.putfield 12, 3) := by decide +kernel
theorem dX2_init_15 : decode cX2_init 15 = .ok (.aload_n 0, 1) := by decide +kernel
theorem dX2_init_16 : decode cX2_init 16 = .ok (.bipush 86, 2) := by decide +kernel
theorem dX2_init_18 : decode cX2_init 18 = .ok (.newarray .int, 2) := by decide +kernel
theorem dX2_init_20 : decode cX2_init 20 = .ok (.putfield 18, 3) := by decide +kernel
theorem dX2_init_23 : decode cX2_init 23 = .ok (.aload_n 0, 1) := by decide +kernel
theorem dX2_init_24 : decode cX2_init 24 = .ok (.sipush 25000, 3) := by decide +kernel
theorem dX2_init_27 : decode cX2_init 27 = .ok (.putfield 22, 3) := by decide +kernel
theorem dX2_init_30 : decode cX2_init 30 = .ok (.return_, 1) := by decide +kernel
set_option maxHeartbeats 4000000 in
set_option maxRecDepth 100000 in
theorem c_X5_init (l : Launch) (G : va_G) (k : Nat → ClassId) (sz : Nat) (h0 : Nat) : Met l yX5_init wsX5_init ({ frames := 1, cells := 0, slots := 0, locals := 12 }) (va_Pc [.ref h0] (pq G k [(h0, .inr (4, [.int 0, .int 0, .int 0, .int 0, .int 0, .int 0, .int 0, .long 0]))] sz)) (va_Qv (fun _ : Nat → Nat => True) (fun u => pt G (va_A [(h0, .inr (4, [.int 0, .int 0, .int 0, .int 0, .int 0, .int 0, .int 0, .long 0]))] sz) [(h0, .inr (4, [.int 0, .int 0, .int 0, .int 0, .int 0, .int 0, .int 0, .long 0]))]) (va_A [(h0, .inr (4, [.int 0, .int 0, .int 0, .int 0, .int 0, .int 0, .int 0, .long 0]))] sz)) 0 0 (va_A [(h0, .inr (4, [.int 0, .int 0, .int 0, .int 0, .int 0, .int 0, .int 0, .long 0]))] sz) := by
  refine Met.ofW (cc := cX5_init) (maxL := 1) (ret := none) (by decide) rfl ?_
  intro p e s m args below meth c s₁ B hml hv
  obtain ⟨rfl, hsz, ⟨hP, hK, hN⟩, hD0⟩ := hv
  have hx := B.exec
  have hb := B.bytes
  have hr := B.returns
  have hts := atoms_spec (ws := wsX5_init) B.pre
  have hown : s.vm.findClass RX5 = some m.cls := findClass_of_methodNamed B.named
  have hlocks := B.notSynchronized
  have hin : meth.name = "<init>" := (name_of_methodNamed B.named B.method).1
  subst hsz
  have hD := hD0.self (sz := s.heap.size)
  generalize hAe : va_A [(h0, .inr (4, [.int 0, .int 0, .int 0, .int 0, .int 0, .int 0, .int 0, .long 0]))] s.heap.size = A at hD ⊢
  have hA : ∀ q : Nat, s.heap.size ≤ q → A q := fun q h => by rw [← hAe]; exact Or.inr h
  have hS : va_S A s.heap s.heap [] := va_S.rf
  have hP : va_P G vwCl [(h0, .inr (4, [.int 0, .int 0, .int 0, .int 0, .int 0, .int 0, .int 0, .long 0]))] s.heap := hP
  have hl := lv_entry ([.ref h0]) (n := 1) (Nat.le_of_ble_eq_true rfl)
  rw [lg_entry_eq]
  generalize (lg_sl ([.ref h0]) ++ List.replicate (1 - (lg_sl ([.ref h0])).length) Slot.unset).toArray = ls at hl ⊢
  have hl : lv_has ls 1 [(0, .ref h0)] := hl
  refine lv_aload_n hx hb dX5_init_0 rfl (lv_at hl 0 rfl) ?_
  refine W.objInit hx hb hown (hts (.methodLink RX5 3 objectInit) (by decide +kernel)) (hts (.instanceMethod objectInit) (by decide +kernel)) (hts (.code objectInit ⟨#[0xb1]⟩ 1 none) (by decide +kernel)) rfl (by rw [hml]; exact hl.1) rfl dX5_init_1 (Nat.le_of_ble_eq_true rfl) (Nat.le_of_ble_eq_true rfl) ?_
  refine W.eq (g2 := F0 m 4 ls []) rfl ?_
  refine W.widen (k := 0) (n := 0) (Nat.le_of_ble_eq_true rfl) (Nat.le_of_ble_eq_true rfl) ?_
  exact W.vret hx hb hr (fun t ht hW => ⟨⟨(fun i => ([] : List Nat).getD i 0), rfl, trivial, ⟨by rw [ht]; exact hP.sub [0] rfl, hD.sub [0] (by decide) rfl⟩⟩, hS.F ht⟩) hS.2.2 dX5_init_4
theorem iX3_init_X3 : ∀ w ∈ u_ws RX3 TX3 6, w ∈ wsX3_init := by decide +kernel
set_option maxHeartbeats 4000000 in
set_option maxRecDepth 100000 in
theorem c_X3_init (l : Launch) (G : va_G) (k : Nat → ClassId) (sz : Nat) (h0 : Nat) : Met l yX3_init wsX3_init ({ frames := 1, cells := 4, slots := 76, locals := 12 }) (va_Pc [.ref h0] (pq G k [(h0, .inr (2, [.null, .null, .null, .null, .int 0, .int 0]))] sz)) (va_Qv (fun _ : Nat → Nat => True) (fun u => pt G (va_A [(h0, .inr (2, [.null, .null, .null, .null, .int 0, .int 0]))] sz) [(h0, .inr (2, [.ref (u 0), .ref (u 1), .ref (u 2), .ref (u 3), .int 0, .int 0])), ((u 0), .inl (k 0, 34, .inl (fun _ => 0))), ((u 1), .inl (k 0, 34, .inl (fun _ => 0))), ((u 2), .inl (k 0, 4, .inl (fun _ => 0))), ((u 3), .inl (k 0, 4, .inl (fun _ => 0)))]) (va_A [(h0, .inr (2, [.null, .null, .null, .null, .int 0, .int 0]))] sz)) 4 76 (va_A [(h0, .inr (2, [.null, .null, .null, .null, .int 0, .int 0]))] sz) := by
  refine Met.ofW (cc := cX3_init) (maxL := 1) (ret := none) (by decide) rfl ?_
  intro p e s m args below meth c s₁ B hml hv
  obtain ⟨rfl, hsz, ⟨hP, hK, hN⟩, hD0⟩ := hv
  have hx := B.exec
  have hb := B.bytes
  have hr := B.returns
  have hts := atoms_spec (ws := wsX3_init) B.pre
  have hown : s.vm.findClass RX3 = some m.cls := findClass_of_methodNamed B.named
  have hlocks := B.notSynchronized
  have hin : meth.name = "<init>" := (name_of_methodNamed B.named B.method).1
  subst hsz
  have hD := hD0.self (sz := s.heap.size)
  generalize hAe : va_A [(h0, .inr (2, [.null, .null, .null, .null, .int 0, .int 0]))] s.heap.size = A at hD ⊢
  have hA : ∀ q : Nat, s.heap.size ≤ q → A q := fun q h => by rw [← hAe]; exact Or.inr h
  have hS : va_S A s.heap s.heap [] := va_S.rf
  have hP : va_P G vwCl [(h0, .inr (2, [.null, .null, .null, .null, .int 0, .int 0]))] s.heap := hP
  have hl := lv_entry ([.ref h0]) (n := 1) (Nat.le_of_ble_eq_true rfl)
  rw [lg_entry_eq]
  generalize (lg_sl ([.ref h0]) ++ List.replicate (1 - (lg_sl ([.ref h0])).length) Slot.unset).toArray = ls at hl ⊢
  have hl : lv_has ls 1 [(0, .ref h0)] := hl
  refine lv_aload_n hx hb dX3_init_0 rfl (lv_at hl 0 rfl) ?_
  refine W.objInit hx hb hown (hts (.methodLink RX3 3 objectInit) (by decide +kernel)) (hts (.instanceMethod objectInit) (by decide +kernel)) (hts (.code objectInit ⟨#[0xb1]⟩ 1 none) (by decide +kernel)) rfl (by rw [hml]; exact hl.1) rfl dX3_init_1 (Nat.le_of_ble_eq_true rfl) (Nat.le_of_ble_eq_true rfl) ?_
  refine W.eq (g2 := F0 m 4 ls []) rfl ?_
  refine lv_aload_n hx hb dX3_init_4 rfl (lv_at hl 0 rfl) ?_
  refine lv_bipush (v := 34) hx hb dX3_init_5 (by decide) ?_
  refine va_newa (atype := .int) (ty := .int) (N' := 34) (a0 := (34, .inl (fun _ => 0))) hx hb (hts (.arrayClass .int) (by decide +kernel)) rfl hK hP hD hS hA (fun cA => rfl) (by decide) (by decide) (by decide) (Nat.le_of_ble_eq_true rfl) (Nat.le_of_ble_eq_true rfl) dX3_init_7 (fun q1 cA H hK1 hP hD hS => ?_)
  obtain rfl : cA = k 0 := ty_same0 hK1 hK
  replace hP : va_P G vwCl [(h0, .inr (2, [.null, .null, .null, .null, .int 0, .int 0])), (q1, .inl (k 0, 34, .inl (fun _ => 0)))] H := hP
  replace hD : va_D A [(h0, .inr (2, [.null, .null, .null, .null, .int 0, .int 0])), (q1, .inl (k 0, 34, .inl (fun _ => 0)))] := hD
  refine va_putF (D := G) (ci := 2) (v := .ref q1) (ty := (.array .int)) (C := RX3) (T := TX3) (N := 6) hx hb hts iX3_init_X3 tyX3 tyX3_ok nmX3 hown hK hP hD hS 0 rfl rfl 0 (by decide) (hts (.fieldLink RX3 9 "TileHouse$Tiles" "free" "[I") (by decide +kernel)) (fun _ h9 => h9) rfl hin rfl (by decide +kernel) rfl rfl (Nat.le_of_ble_eq_true rfl) dX3_init_9 (fun H locs hP hD hS => ?_)
  replace hP : va_P G vwCl [(h0, .inr (2, [.ref q1, .null, .null, .null, .int 0, .int 0])), (q1, .inl (k 0, 34, .inl (fun _ => 0)))] H := hP
  replace hD : va_D A [(h0, .inr (2, [.ref q1, .null, .null, .null, .int 0, .int 0])), (q1, .inl (k 0, 34, .inl (fun _ => 0)))] := hD
  refine lv_aload_n hx hb dX3_init_12 rfl (lv_at hl 0 rfl) ?_
  refine lv_bipush (v := 34) hx hb dX3_init_13 (by decide) ?_
  refine va_newa (atype := .int) (ty := .int) (N' := 34) (a0 := (34, .inl (fun _ => 0))) hx hb (hts (.arrayClass .int) (by decide +kernel)) rfl hK hP hD hS hA (fun cA => rfl) (by decide) (by decide) (by decide) (Nat.le_of_ble_eq_true rfl) (Nat.le_of_ble_eq_true rfl) dX3_init_15 (fun q2 cA H hK1 hP hD hS => ?_)
  obtain rfl : cA = k 0 := ty_same0 hK1 hK
  replace hP : va_P G vwCl [(h0, .inr (2, [.ref q1, .null, .null, .null, .int 0, .int 0])), (q1, .inl (k 0, 34, .inl (fun _ => 0))), (q2, .inl (k 0, 34, .inl (fun _ => 0)))] H := hP
  replace hD : va_D A [(h0, .inr (2, [.ref q1, .null, .null, .null, .int 0, .int 0])), (q1, .inl (k 0, 34, .inl (fun _ => 0))), (q2, .inl (k 0, 34, .inl (fun _ => 0)))] := hD
  refine va_putF (D := G) (ci := 2) (v := .ref q2) (ty := (.array .int)) (C := RX3) (T := TX3) (N := 6) hx hb hts iX3_init_X3 tyX3 tyX3_ok nmX3 hown hK hP hD hS 0 rfl rfl 1 (by decide) (hts (.fieldLink RX3 15 "TileHouse$Tiles" "all" "[I") (by decide +kernel)) (fun _ h9 => h9) rfl hin rfl (by decide +kernel) rfl rfl (Nat.le_of_ble_eq_true rfl) dX3_init_17 (fun H locs hP hD hS => ?_)
  replace hP : va_P G vwCl [(h0, .inr (2, [.ref q1, .ref q2, .null, .null, .int 0, .int 0])), (q1, .inl (k 0, 34, .inl (fun _ => 0))), (q2, .inl (k 0, 34, .inl (fun _ => 0)))] H := hP
  replace hD : va_D A [(h0, .inr (2, [.ref q1, .ref q2, .null, .null, .int 0, .int 0])), (q1, .inl (k 0, 34, .inl (fun _ => 0))), (q2, .inl (k 0, 34, .inl (fun _ => 0)))] := hD
  refine lv_aload_n hx hb dX3_init_20 rfl (lv_at hl 0 rfl) ?_
  refine lv_iconst (v := 4) hx hb dX3_init_21 (by decide) ?_
  refine va_newa (atype := .int) (ty := .int) (N' := 4) (a0 := (4, .inl (fun _ => 0))) hx hb (hts (.arrayClass .int) (by decide +kernel)) rfl hK hP hD hS hA (fun cA => rfl) (by decide) (by decide) (by decide) (Nat.le_of_ble_eq_true rfl) (Nat.le_of_ble_eq_true rfl) dX3_init_22 (fun q3 cA H hK1 hP hD hS => ?_)
  obtain rfl : cA = k 0 := ty_same0 hK1 hK
  replace hP : va_P G vwCl [(h0, .inr (2, [.ref q1, .ref q2, .null, .null, .int 0, .int 0])), (q1, .inl (k 0, 34, .inl (fun _ => 0))), (q2, .inl (k 0, 34, .inl (fun _ => 0))), (q3, .inl (k 0, 4, .inl (fun _ => 0)))] H := hP
  replace hD : va_D A [(h0, .inr (2, [.ref q1, .ref q2, .null, .null, .int 0, .int 0])), (q1, .inl (k 0, 34, .inl (fun _ => 0))), (q2, .inl (k 0, 34, .inl (fun _ => 0))), (q3, .inl (k 0, 4, .inl (fun _ => 0)))] := hD
  refine va_putF (D := G) (ci := 2) (v := .ref q3) (ty := (.array .int)) (C := RX3) (T := TX3) (N := 6) hx hb hts iX3_init_X3 tyX3 tyX3_ok nmX3 hown hK hP hD hS 0 rfl rfl 2 (by decide) (hts (.fieldLink RX3 18 "TileHouse$Tiles" "sort" "[I") (by decide +kernel)) (fun _ h9 => h9) rfl hin rfl (by decide +kernel) rfl rfl (Nat.le_of_ble_eq_true rfl) dX3_init_24 (fun H locs hP hD hS => ?_)
  replace hP : va_P G vwCl [(h0, .inr (2, [.ref q1, .ref q2, .ref q3, .null, .int 0, .int 0])), (q1, .inl (k 0, 34, .inl (fun _ => 0))), (q2, .inl (k 0, 34, .inl (fun _ => 0))), (q3, .inl (k 0, 4, .inl (fun _ => 0)))] H := hP
  replace hD : va_D A [(h0, .inr (2, [.ref q1, .ref q2, .ref q3, .null, .int 0, .int 0])), (q1, .inl (k 0, 34, .inl (fun _ => 0))), (q2, .inl (k 0, 34, .inl (fun _ => 0))), (q3, .inl (k 0, 4, .inl (fun _ => 0)))] := hD
  refine lv_aload_n hx hb dX3_init_27 rfl (lv_at hl 0 rfl) ?_
  refine lv_iconst (v := 4) hx hb dX3_init_28 (by decide) ?_
  refine va_newa (atype := .int) (ty := .int) (N' := 4) (a0 := (4, .inl (fun _ => 0))) hx hb (hts (.arrayClass .int) (by decide +kernel)) rfl hK hP hD hS hA (fun cA => rfl) (by decide) (by decide) (by decide) (Nat.le_of_ble_eq_true rfl) (Nat.le_of_ble_eq_true rfl) dX3_init_29 (fun q4 cA H hK1 hP hD hS => ?_)
  obtain rfl : cA = k 0 := ty_same0 hK1 hK
  replace hP : va_P G vwCl [(h0, .inr (2, [.ref q1, .ref q2, .ref q3, .null, .int 0, .int 0])), (q1, .inl (k 0, 34, .inl (fun _ => 0))), (q2, .inl (k 0, 34, .inl (fun _ => 0))), (q3, .inl (k 0, 4, .inl (fun _ => 0))), (q4, .inl (k 0, 4, .inl (fun _ => 0)))] H := hP
  replace hD : va_D A [(h0, .inr (2, [.ref q1, .ref q2, .ref q3, .null, .int 0, .int 0])), (q1, .inl (k 0, 34, .inl (fun _ => 0))), (q2, .inl (k 0, 34, .inl (fun _ => 0))), (q3, .inl (k 0, 4, .inl (fun _ => 0))), (q4, .inl (k 0, 4, .inl (fun _ => 0)))] := hD
  refine va_putF (D := G) (ci := 2) (v := .ref q4) (ty := (.array .int)) (C := RX3) (T := TX3) (N := 6) hx hb hts iX3_init_X3 tyX3 tyX3_ok nmX3 hown hK hP hD hS 0 rfl rfl 3 (by decide) (hts (.fieldLink RX3 21 "TileHouse$Tiles" "low" "[I") (by decide +kernel)) (fun _ h9 => h9) rfl hin rfl (by decide +kernel) rfl rfl (Nat.le_of_ble_eq_true rfl) dX3_init_31 (fun H locs hP hD hS => ?_)
  replace hP : va_P G vwCl [(h0, .inr (2, [.ref q1, .ref q2, .ref q3, .ref q4, .int 0, .int 0])), (q1, .inl (k 0, 34, .inl (fun _ => 0))), (q2, .inl (k 0, 34, .inl (fun _ => 0))), (q3, .inl (k 0, 4, .inl (fun _ => 0))), (q4, .inl (k 0, 4, .inl (fun _ => 0)))] H := hP
  replace hD : va_D A [(h0, .inr (2, [.ref q1, .ref q2, .ref q3, .ref q4, .int 0, .int 0])), (q1, .inl (k 0, 34, .inl (fun _ => 0))), (q2, .inl (k 0, 34, .inl (fun _ => 0))), (q3, .inl (k 0, 4, .inl (fun _ => 0))), (q4, .inl (k 0, 4, .inl (fun _ => 0)))] := hD
  refine W.widen (k := 4) (n := 76) (Nat.le_of_ble_eq_true rfl) (Nat.le_of_ble_eq_true rfl) ?_
  exact W.vret hx hb hr (fun t ht hW => ⟨⟨(fun i => ([q1, q2, q3, q4] : List Nat).getD i 0), rfl, trivial, ⟨by rw [ht]; exact hP.sub [0, 1, 2, 3, 4] rfl, hD.sub [0, 1, 2, 3, 4] (by decide) rfl⟩⟩, hS.F ht⟩) hS.2.2 dX3_init_34
theorem iX4_init_X4 : ∀ w ∈ u_ws RX4 TX4 4, w ∈ wsX4_init := by decide +kernel
set_option maxHeartbeats 4000000 in
set_option maxRecDepth 100000 in
theorem c_X4_init (l : Launch) (G : va_G) (k : Nat → ClassId) (sz : Nat) (h0 : Nat) : Met l yX4_init wsX4_init ({ frames := 1, cells := 1, slots := 136, locals := 12 }) (va_Pc [.ref h0] (pq G k [(h0, .inr (3, [.null, .int 0, .int 0, .int 0]))] sz)) (va_Qv (fun _ : Nat → Nat => True) (fun u => pt G (va_A [(h0, .inr (3, [.null, .int 0, .int 0, .int 0]))] sz) [(h0, .inr (3, [.ref (u 0), .int 0, .int 0, .int 0])), ((u 0), .inl (k 0, 136, .inl (fun _ => 0)))]) (va_A [(h0, .inr (3, [.null, .int 0, .int 0, .int 0]))] sz)) 1 136 (va_A [(h0, .inr (3, [.null, .int 0, .int 0, .int 0]))] sz) := by
  refine Met.ofW (cc := cX4_init) (maxL := 1) (ret := none) (by decide) rfl ?_
  intro p e s m args below meth c s₁ B hml hv
  obtain ⟨rfl, hsz, ⟨hP, hK, hN⟩, hD0⟩ := hv
  have hx := B.exec
  have hb := B.bytes
  have hr := B.returns
  have hts := atoms_spec (ws := wsX4_init) B.pre
  have hown : s.vm.findClass RX4 = some m.cls := findClass_of_methodNamed B.named
  have hlocks := B.notSynchronized
  have hin : meth.name = "<init>" := (name_of_methodNamed B.named B.method).1
  subst hsz
  have hD := hD0.self (sz := s.heap.size)
  generalize hAe : va_A [(h0, .inr (3, [.null, .int 0, .int 0, .int 0]))] s.heap.size = A at hD ⊢
  have hA : ∀ q : Nat, s.heap.size ≤ q → A q := fun q h => by rw [← hAe]; exact Or.inr h
  have hS : va_S A s.heap s.heap [] := va_S.rf
  have hP : va_P G vwCl [(h0, .inr (3, [.null, .int 0, .int 0, .int 0]))] s.heap := hP
  have hl := lv_entry ([.ref h0]) (n := 1) (Nat.le_of_ble_eq_true rfl)
  rw [lg_entry_eq]
  generalize (lg_sl ([.ref h0]) ++ List.replicate (1 - (lg_sl ([.ref h0])).length) Slot.unset).toArray = ls at hl ⊢
  have hl : lv_has ls 1 [(0, .ref h0)] := hl
  refine lv_aload_n hx hb dX4_init_0 rfl (lv_at hl 0 rfl) ?_
  refine W.objInit hx hb hown (hts (.methodLink RX4 3 objectInit) (by decide +kernel)) (hts (.instanceMethod objectInit) (by decide +kernel)) (hts (.code objectInit ⟨#[0xb1]⟩ 1 none) (by decide +kernel)) rfl (by rw [hml]; exact hl.1) rfl dX4_init_1 (Nat.le_of_ble_eq_true rfl) (Nat.le_of_ble_eq_true rfl) ?_
  refine W.eq (g2 := F0 m 4 ls []) rfl ?_
  refine lv_aload_n hx hb dX4_init_4 rfl (lv_at hl 0 rfl) ?_
  refine lv_sipush (v := 136) hx hb dX4_init_5 (by decide) ?_
  refine va_newa (atype := .int) (ty := .int) (N' := 136) (a0 := (136, .inl (fun _ => 0))) hx hb (hts (.arrayClass .int) (by decide +kernel)) rfl hK hP hD hS hA (fun cA => rfl) (by decide) (by decide) (by decide) (Nat.le_of_ble_eq_true rfl) (Nat.le_of_ble_eq_true rfl) dX4_init_8 (fun q1 cA H hK1 hP hD hS => ?_)
  obtain rfl : cA = k 0 := ty_same0 hK1 hK
  replace hP : va_P G vwCl [(h0, .inr (3, [.null, .int 0, .int 0, .int 0])), (q1, .inl (k 0, 136, .inl (fun _ => 0)))] H := hP
  replace hD : va_D A [(h0, .inr (3, [.null, .int 0, .int 0, .int 0])), (q1, .inl (k 0, 136, .inl (fun _ => 0)))] := hD
  refine va_putF (D := G) (ci := 3) (v := .ref q1) (ty := (.array .int)) (C := RX4) (T := TX4) (N := 4) hx hb hts iX4_init_X4 tyX4 tyX4_ok nmX4 hown hK hP hD hS 0 rfl rfl 0 (by decide) (hts (.fieldLink RX4 11 "TileHouse$Wall" "kinds" "[I") (by decide +kernel)) (fun _ h9 => h9) rfl hin rfl (by decide +kernel) rfl rfl (Nat.le_of_ble_eq_true rfl) dX4_init_10 (fun H locs hP hD hS => ?_)
  replace hP : va_P G vwCl [(h0, .inr (3, [.ref q1, .int 0, .int 0, .int 0])), (q1, .inl (k 0, 136, .inl (fun _ => 0)))] H := hP
  replace hD : va_D A [(h0, .inr (3, [.ref q1, .int 0, .int 0, .int 0])), (q1, .inl (k 0, 136, .inl (fun _ => 0)))] := hD
  refine W.widen (k := 1) (n := 136) (Nat.le_of_ble_eq_true rfl) (Nat.le_of_ble_eq_true rfl) ?_
  exact W.vret hx hb hr (fun t ht hW => ⟨⟨(fun i => ([q1] : List Nat).getD i 0), rfl, trivial, ⟨by rw [ht]; exact hP.sub [0, 1] rfl, hD.sub [0, 1] (by decide) rfl⟩⟩, hS.F ht⟩) hS.2.2 dX4_init_13
theorem iX1_init_X1 : ∀ w ∈ u_ws RX1 TX1 19, w ∈ wsX1_init := by decide +kernel
set_option maxHeartbeats 4000000 in
set_option maxRecDepth 100000 in
theorem c_X1_init (l : Launch) (G : va_G) (k : Nat → ClassId) (sz : Nat) (h0 : Nat) : Met l yX1_init wsX1_init ({ frames := 1, cells := 3, slots := 12, locals := 12 }) (va_Pc [.ref h0] (pq G k [(h0, .inr (0, [.int 0, .int 0, .int 0, .long 0, .int 0, .null, .int 0, .int 0, .int 0, .int 0, .int 0, .int 0, .long 0, .null, .null, .int 0, .long 0, .long 0, .null]))] sz)) (va_Qv (fun _ : Nat → Nat => True) (fun u => pt G (va_A [(h0, .inr (0, [.int 0, .int 0, .int 0, .long 0, .int 0, .null, .int 0, .int 0, .int 0, .int 0, .int 0, .int 0, .long 0, .null, .null, .int 0, .long 0, .long 0, .null]))] sz) [(h0, .inr (0, [.int 0, .int 0, .int 0, .long 0, .int 0, .null, .int 0, .int 0, .int 0, .int 0, .int 0, .int 0, .long 0, .ref (u 0), .ref (u 1), .int 0, .long 0, .long 0, .ref (u 2)])), ((u 0), .inl (k 0, 4, .inl (fun _ => 0))), ((u 1), .inl (k 0, 4, .inl (fun _ => 0))), ((u 2), .inl (k 0, 4, .inl (fun _ => 0)))]) (va_A [(h0, .inr (0, [.int 0, .int 0, .int 0, .long 0, .int 0, .null, .int 0, .int 0, .int 0, .int 0, .int 0, .int 0, .long 0, .null, .null, .int 0, .long 0, .long 0, .null]))] sz)) 3 12 (va_A [(h0, .inr (0, [.int 0, .int 0, .int 0, .long 0, .int 0, .null, .int 0, .int 0, .int 0, .int 0, .int 0, .int 0, .long 0, .null, .null, .int 0, .long 0, .long 0, .null]))] sz) := by
  refine Met.ofW (cc := cX1_init) (maxL := 1) (ret := none) (by decide) rfl ?_
  intro p e s m args below meth c s₁ B hml hv
  obtain ⟨rfl, hsz, ⟨hP, hK, hN⟩, hD0⟩ := hv
  have hx := B.exec
  have hb := B.bytes
  have hr := B.returns
  have hts := atoms_spec (ws := wsX1_init) B.pre
  have hown : s.vm.findClass RX1 = some m.cls := findClass_of_methodNamed B.named
  have hlocks := B.notSynchronized
  have hin : meth.name = "<init>" := (name_of_methodNamed B.named B.method).1
  subst hsz
  have hD := hD0.self (sz := s.heap.size)
  generalize hAe : va_A [(h0, .inr (0, [.int 0, .int 0, .int 0, .long 0, .int 0, .null, .int 0, .int 0, .int 0, .int 0, .int 0, .int 0, .long 0, .null, .null, .int 0, .long 0, .long 0, .null]))] s.heap.size = A at hD ⊢
  have hA : ∀ q : Nat, s.heap.size ≤ q → A q := fun q h => by rw [← hAe]; exact Or.inr h
  have hS : va_S A s.heap s.heap [] := va_S.rf
  have hP : va_P G vwCl [(h0, .inr (0, [.int 0, .int 0, .int 0, .long 0, .int 0, .null, .int 0, .int 0, .int 0, .int 0, .int 0, .int 0, .long 0, .null, .null, .int 0, .long 0, .long 0, .null]))] s.heap := hP
  have hl := lv_entry ([.ref h0]) (n := 1) (Nat.le_of_ble_eq_true rfl)
  rw [lg_entry_eq]
  generalize (lg_sl ([.ref h0]) ++ List.replicate (1 - (lg_sl ([.ref h0])).length) Slot.unset).toArray = ls at hl ⊢
  have hl : lv_has ls 1 [(0, .ref h0)] := hl
  refine lv_aload_n hx hb dX1_init_0 rfl (lv_at hl 0 rfl) ?_
  refine W.objInit hx hb hown (hts (.methodLink RX1 3 objectInit) (by decide +kernel)) (hts (.instanceMethod objectInit) (by decide +kernel)) (hts (.code objectInit ⟨#[0xb1]⟩ 1 none) (by decide +kernel)) rfl (by rw [hml]; exact hl.1) rfl dX1_init_1 (Nat.le_of_ble_eq_true rfl) (Nat.le_of_ble_eq_true rfl) ?_
  refine W.eq (g2 := F0 m 4 ls []) rfl ?_
  refine lv_aload_n hx hb dX1_init_4 rfl (lv_at hl 0 rfl) ?_
  refine lv_iconst (v := 4) hx hb dX1_init_5 (by decide) ?_
  refine va_newa (atype := .int) (ty := .int) (N' := 4) (a0 := (4, .inl (fun _ => 0))) hx hb (hts (.arrayClass .int) (by decide +kernel)) rfl hK hP hD hS hA (fun cA => rfl) (by decide) (by decide) (by decide) (Nat.le_of_ble_eq_true rfl) (Nat.le_of_ble_eq_true rfl) dX1_init_6 (fun q1 cA H hK1 hP hD hS => ?_)
  obtain rfl : cA = k 0 := ty_same0 hK1 hK
  replace hP : va_P G vwCl [(h0, .inr (0, [.int 0, .int 0, .int 0, .long 0, .int 0, .null, .int 0, .int 0, .int 0, .int 0, .int 0, .int 0, .long 0, .null, .null, .int 0, .long 0, .long 0, .null])), (q1, .inl (k 0, 4, .inl (fun _ => 0)))] H := hP
  replace hD : va_D A [(h0, .inr (0, [.int 0, .int 0, .int 0, .long 0, .int 0, .null, .int 0, .int 0, .int 0, .int 0, .int 0, .int 0, .long 0, .null, .null, .int 0, .long 0, .long 0, .null])), (q1, .inl (k 0, 4, .inl (fun _ => 0)))] := hD
  refine va_putF (D := G) (ci := 0) (v := .ref q1) (ty := (.array .int)) (C := RX1) (T := TX1) (N := 19) hx hb hts iX1_init_X1 tyX1 tyX1_ok nmX1 hown hK hP hD hS 0 rfl rfl 13 (by decide) (hts (.fieldLink RX1 9 "TileHouse$Judge" "sort" "[I") (by decide +kernel)) (fun _ h9 => h9) rfl hin rfl (by decide +kernel) rfl rfl (Nat.le_of_ble_eq_true rfl) dX1_init_8 (fun H locs hP hD hS => ?_)
  replace hP : va_P G vwCl [(h0, .inr (0, [.int 0, .int 0, .int 0, .long 0, .int 0, .null, .int 0, .int 0, .int 0, .int 0, .int 0, .int 0, .long 0, .ref q1, .null, .int 0, .long 0, .long 0, .null])), (q1, .inl (k 0, 4, .inl (fun _ => 0)))] H := hP
  replace hD : va_D A [(h0, .inr (0, [.int 0, .int 0, .int 0, .long 0, .int 0, .null, .int 0, .int 0, .int 0, .int 0, .int 0, .int 0, .long 0, .ref q1, .null, .int 0, .long 0, .long 0, .null])), (q1, .inl (k 0, 4, .inl (fun _ => 0)))] := hD
  refine lv_aload_n hx hb dX1_init_11 rfl (lv_at hl 0 rfl) ?_
  refine lv_iconst (v := 4) hx hb dX1_init_12 (by decide) ?_
  refine va_newa (atype := .int) (ty := .int) (N' := 4) (a0 := (4, .inl (fun _ => 0))) hx hb (hts (.arrayClass .int) (by decide +kernel)) rfl hK hP hD hS hA (fun cA => rfl) (by decide) (by decide) (by decide) (Nat.le_of_ble_eq_true rfl) (Nat.le_of_ble_eq_true rfl) dX1_init_13 (fun q2 cA H hK1 hP hD hS => ?_)
  obtain rfl : cA = k 0 := ty_same0 hK1 hK
  replace hP : va_P G vwCl [(h0, .inr (0, [.int 0, .int 0, .int 0, .long 0, .int 0, .null, .int 0, .int 0, .int 0, .int 0, .int 0, .int 0, .long 0, .ref q1, .null, .int 0, .long 0, .long 0, .null])), (q1, .inl (k 0, 4, .inl (fun _ => 0))), (q2, .inl (k 0, 4, .inl (fun _ => 0)))] H := hP
  replace hD : va_D A [(h0, .inr (0, [.int 0, .int 0, .int 0, .long 0, .int 0, .null, .int 0, .int 0, .int 0, .int 0, .int 0, .int 0, .long 0, .ref q1, .null, .int 0, .long 0, .long 0, .null])), (q1, .inl (k 0, 4, .inl (fun _ => 0))), (q2, .inl (k 0, 4, .inl (fun _ => 0)))] := hD
  refine va_putF (D := G) (ci := 0) (v := .ref q2) (ty := (.array .int)) (C := RX1) (T := TX1) (N := 19) hx hb hts iX1_init_X1 tyX1 tyX1_ok nmX1 hown hK hP hD hS 0 rfl rfl 14 (by decide) (hts (.fieldLink RX1 15 "TileHouse$Judge" "low" "[I") (by decide +kernel)) (fun _ h9 => h9) rfl hin rfl (by decide +kernel) rfl rfl (Nat.le_of_ble_eq_true rfl) dX1_init_15 (fun H locs hP hD hS => ?_)
  replace hP : va_P G vwCl [(h0, .inr (0, [.int 0, .int 0, .int 0, .long 0, .int 0, .null, .int 0, .int 0, .int 0, .int 0, .int 0, .int 0, .long 0, .ref q1, .ref q2, .int 0, .long 0, .long 0, .null])), (q1, .inl (k 0, 4, .inl (fun _ => 0))), (q2, .inl (k 0, 4, .inl (fun _ => 0)))] H := hP
  replace hD : va_D A [(h0, .inr (0, [.int 0, .int 0, .int 0, .long 0, .int 0, .null, .int 0, .int 0, .int 0, .int 0, .int 0, .int 0, .long 0, .ref q1, .ref q2, .int 0, .long 0, .long 0, .null])), (q1, .inl (k 0, 4, .inl (fun _ => 0))), (q2, .inl (k 0, 4, .inl (fun _ => 0)))] := hD
  refine lv_aload_n hx hb dX1_init_18 rfl (lv_at hl 0 rfl) ?_
  refine lv_iconst (v := 4) hx hb dX1_init_19 (by decide) ?_
  refine va_newa (atype := .int) (ty := .int) (N' := 4) (a0 := (4, .inl (fun _ => 0))) hx hb (hts (.arrayClass .int) (by decide +kernel)) rfl hK hP hD hS hA (fun cA => rfl) (by decide) (by decide) (by decide) (Nat.le_of_ble_eq_true rfl) (Nat.le_of_ble_eq_true rfl) dX1_init_20 (fun q3 cA H hK1 hP hD hS => ?_)
  obtain rfl : cA = k 0 := ty_same0 hK1 hK
  replace hP : va_P G vwCl [(h0, .inr (0, [.int 0, .int 0, .int 0, .long 0, .int 0, .null, .int 0, .int 0, .int 0, .int 0, .int 0, .int 0, .long 0, .ref q1, .ref q2, .int 0, .long 0, .long 0, .null])), (q1, .inl (k 0, 4, .inl (fun _ => 0))), (q2, .inl (k 0, 4, .inl (fun _ => 0))), (q3, .inl (k 0, 4, .inl (fun _ => 0)))] H := hP
  replace hD : va_D A [(h0, .inr (0, [.int 0, .int 0, .int 0, .long 0, .int 0, .null, .int 0, .int 0, .int 0, .int 0, .int 0, .int 0, .long 0, .ref q1, .ref q2, .int 0, .long 0, .long 0, .null])), (q1, .inl (k 0, 4, .inl (fun _ => 0))), (q2, .inl (k 0, 4, .inl (fun _ => 0))), (q3, .inl (k 0, 4, .inl (fun _ => 0)))] := hD
  refine va_putF (D := G) (ci := 0) (v := .ref q3) (ty := (.array .int)) (C := RX1) (T := TX1) (N := 19) hx hb hts iX1_init_X1 tyX1 tyX1_ok nmX1 hown hK hP hD hS 0 rfl rfl 18 (by decide) (hts (.fieldLink RX1 18 "TileHouse$Judge" "mayBeThrees" "[I") (by decide +kernel)) (fun _ h9 => h9) rfl hin rfl (by decide +kernel) rfl rfl (Nat.le_of_ble_eq_true rfl) dX1_init_22 (fun H locs hP hD hS => ?_)
  replace hP : va_P G vwCl [(h0, .inr (0, [.int 0, .int 0, .int 0, .long 0, .int 0, .null, .int 0, .int 0, .int 0, .int 0, .int 0, .int 0, .long 0, .ref q1, .ref q2, .int 0, .long 0, .long 0, .ref q3])), (q1, .inl (k 0, 4, .inl (fun _ => 0))), (q2, .inl (k 0, 4, .inl (fun _ => 0))), (q3, .inl (k 0, 4, .inl (fun _ => 0)))] H := hP
  replace hD : va_D A [(h0, .inr (0, [.int 0, .int 0, .int 0, .long 0, .int 0, .null, .int 0, .int 0, .int 0, .int 0, .int 0, .int 0, .long 0, .ref q1, .ref q2, .int 0, .long 0, .long 0, .ref q3])), (q1, .inl (k 0, 4, .inl (fun _ => 0))), (q2, .inl (k 0, 4, .inl (fun _ => 0))), (q3, .inl (k 0, 4, .inl (fun _ => 0)))] := hD
  refine W.widen (k := 3) (n := 12) (Nat.le_of_ble_eq_true rfl) (Nat.le_of_ble_eq_true rfl) ?_
  exact W.vret hx hb hr (fun t ht hW => ⟨⟨(fun i => ([q1, q2, q3] : List Nat).getD i 0), rfl, trivial, ⟨by rw [ht]; exact hP.sub [0, 1, 2, 3] rfl, hD.sub [0, 1, 2, 3] (by decide) rfl⟩⟩, hS.F ht⟩) hS.2.2 dX1_init_25
theorem iX2_init_X2 : ∀ w ∈ u_ws RX2 TX2 10, w ∈ wsX2_init := by decide +kernel
theorem iX2_init_X3 : ∀ w ∈ u_ws RX3 TX3 6, w ∈ wsX2_init := by decide +kernel
set_option maxHeartbeats 4000000 in
set_option maxRecDepth 100000 in
theorem c_X2_init (l : Launch) (G : va_G) (k : Nat → ClassId) (sz : Nat) (h0 : Nat) : Met l yX2_init wsX2_init ({ frames := 2, cells := 6, slots := 168, locals := 32 }) (va_Pc [.ref h0] (pq G k [(h0, .inr (1, [.null, .null, .int 0, .long 0, .int 0, .int 0, .int 0, .int 0, .int 0, .int 0]))] sz)) (va_Qv (fun _ : Nat → Nat => True) (fun u => pt G (va_A [(h0, .inr (1, [.null, .null, .int 0, .long 0, .int 0, .int 0, .int 0, .int 0, .int 0, .int 0]))] sz) [(h0, .inr (1, [.ref (u 0), .ref (u 5), .int 0, .long 0, .int 25000, .int 0, .int 0, .int 0, .int 0, .int 0])), ((u 0), .inr (2, [.ref (u 1), .ref (u 2), .ref (u 3), .ref (u 4), .int 0, .int 0])), ((u 1), .inl (k 0, 34, .inl (fun _ => 0))), ((u 2), .inl (k 0, 34, .inl (fun _ => 0))), ((u 3), .inl (k 0, 4, .inl (fun _ => 0))), ((u 4), .inl (k 0, 4, .inl (fun _ => 0))), ((u 5), .inl (k 0, 86, .inl (fun _ => 0)))]) (va_A [(h0, .inr (1, [.null, .null, .int 0, .long 0, .int 0, .int 0, .int 0, .int 0, .int 0, .int 0]))] sz)) 6 168 (va_A [(h0, .inr (1, [.null, .null, .int 0, .long 0, .int 0, .int 0, .int 0, .int 0, .int 0, .int 0]))] sz) := by
  refine Met.ofW (cc := cX2_init) (maxL := 1) (ret := none) (by decide) rfl ?_
  intro p e s m args below meth c s₁ B hml hv
  obtain ⟨rfl, hsz, ⟨hP, hK, hN⟩, hD0⟩ := hv
  have hx := B.exec
  have hb := B.bytes
  have hr := B.returns
  have hts := atoms_spec (ws := wsX2_init) B.pre
  have hown : s.vm.findClass RX2 = some m.cls := findClass_of_methodNamed B.named
  have hlocks := B.notSynchronized
  have hin : meth.name = "<init>" := (name_of_methodNamed B.named B.method).1
  subst hsz
  have hD := hD0.self (sz := s.heap.size)
  generalize hAe : va_A [(h0, .inr (1, [.null, .null, .int 0, .long 0, .int 0, .int 0, .int 0, .int 0, .int 0, .int 0]))] s.heap.size = A at hD ⊢
  have hA : ∀ q : Nat, s.heap.size ≤ q → A q := fun q h => by rw [← hAe]; exact Or.inr h
  have hS : va_S A s.heap s.heap [] := va_S.rf
  have hP : va_P G vwCl [(h0, .inr (1, [.null, .null, .int 0, .long 0, .int 0, .int 0, .int 0, .int 0, .int 0, .int 0]))] s.heap := hP
  have hl := lv_entry ([.ref h0]) (n := 1) (Nat.le_of_ble_eq_true rfl)
  rw [lg_entry_eq]
  generalize (lg_sl ([.ref h0]) ++ List.replicate (1 - (lg_sl ([.ref h0])).length) Slot.unset).toArray = ls at hl ⊢
  have hl : lv_has ls 1 [(0, .ref h0)] := hl
  refine lv_aload_n hx hb dX2_init_0 rfl (lv_at hl 0 rfl) ?_
  refine W.objInit hx hb hown (hts (.methodLink RX2 3 objectInit) (by decide +kernel)) (hts (.instanceMethod objectInit) (by decide +kernel)) (hts (.code objectInit ⟨#[0xb1]⟩ 1 none) (by decide +kernel)) rfl (by rw [hml]; exact hl.1) rfl dX2_init_1 (Nat.le_of_ble_eq_true rfl) (Nat.le_of_ble_eq_true rfl) ?_
  refine W.eq (g2 := F0 m 4 ls []) rfl ?_
  refine lv_aload_n hx hb dX2_init_4 rfl (lv_at hl 0 rfl) ?_
  refine va_new (ci := 2) (fs := [.null, .null, .null, .null, .int 0, .int 0]) (C := RX3) (T := TX3) (N := 6) hx hb hts iX2_init_X3 tyX3 tyX3_ok hown (hts (.classLink RX2 9 RX3) (by decide +kernel)) (hts (.instantiable RX3 6) (by decide +kernel)) (hts (.initialized RX3) (by decide +kernel)) hK hP hD hS hA rfl (by decide) (Nat.le_of_ble_eq_true rfl) (Nat.le_of_ble_eq_true rfl) dX2_init_5 (fun q1 H hP hD hS => ?_)
  replace hP : va_P G vwCl [(h0, .inr (1, [.null, .null, .int 0, .long 0, .int 0, .int 0, .int 0, .int 0, .int 0, .int 0])), (q1, .inr (2, [.null, .null, .null, .null, .int 0, .int 0]))] H := hP
  replace hD : va_D A [(h0, .inr (1, [.null, .null, .int 0, .long 0, .int 0, .int 0, .int 0, .int 0, .int 0, .int 0])), (q1, .inr (2, [.null, .null, .null, .null, .int 0, .int 0]))] := hD
  refine lv_dup hx hb dX2_init_8 rfl ?_
  have hPc := hP.sub (ws' := [(q1, .inr (2, [.null, .null, .null, .null, .int 0, .int 0]))]) [1] rfl
  have hDc := hD.sub (ws' := [(q1, .inr (2, [.null, .null, .null, .null, .int 0, .int 0]))]) [1] (by decide) rfl
  have hFc := va_free (wc := [(q1, .inr (2, [.null, .null, .null, .null, .int 0, .int 0]))]) hD hS hA [1] rfl
  refine va_callv (va_runIN (As := []) (rest := [.ref q1, .ref h0]) ⟨hx, hb, hml, hown, hts⟩ (c_X3_init l G k H.size q1) ⟨va_cnB 0 hts gX2_init_X3_init_n11 rfl rfl rfl (nw_X2_11 hN) (hts (.initialized RX3) (by decide +kernel)) (by decide +kernel) ⟨Nat.le_of_ble_eq_true rfl, Nat.le_of_ble_eq_true rfl⟩, rfl, hts (.instanceMethod yX3_init) (by decide +kernel)⟩ ⟨pq_bl, pq_pre hPc hDc hK hN⟩ rfl rfl hl.1 rfl (lv_room (Nat.le_of_ble_eq_true rfl)) dX2_init_9 ⟨Nat.le_of_ble_eq_true rfl, Nat.le_of_ble_eq_true rfl⟩) hS (fun q _ h => hFc q h) hFc (fun ur2 t H1 locs ht hvm hr2 hB hz1 hk1 hS => ?_)
  obtain ⟨hP1, hD1⟩ := hB
  rw [ht] at hP1
  obtain ⟨hP, hD⟩ := va_join (wr := [(h0, .inr (1, [.null, .null, .int 0, .long 0, .int 0, .int 0, .int 0, .int 0, .int 0, .int 0]))]) (w1 := [(q1, .inr (2, [.ref (ur2 0), .ref (ur2 1), .ref (ur2 2), .ref (ur2 3), .int 0, .int 0])), ((ur2 0), .inl (k 0, 34, .inl (fun _ => 0))), ((ur2 1), .inl (k 0, 34, .inl (fun _ => 0))), ((ur2 2), .inl (k 0, 4, .inl (fun _ => 0))), ((ur2 3), .inl (k 0, 4, .inl (fun _ => 0)))]) hP hD [1] [0] rfl rfl (by decide) (by decide) hk1 hFc hP1 hD1
  generalize H1 = H at hP hS ⊢
  replace hP : va_P G vwCl [(h0, .inr (1, [.null, .null, .int 0, .long 0, .int 0, .int 0, .int 0, .int 0, .int 0, .int 0])), (q1, .inr (2, [.ref (ur2 0), .ref (ur2 1), .ref (ur2 2), .ref (ur2 3), .int 0, .int 0])), ((ur2 0), .inl (k 0, 34, .inl (fun _ => 0))), ((ur2 1), .inl (k 0, 34, .inl (fun _ => 0))), ((ur2 2), .inl (k 0, 4, .inl (fun _ => 0))), ((ur2 3), .inl (k 0, 4, .inl (fun _ => 0)))] H := hP
  replace hD : va_D A [(h0, .inr (1, [.null, .null, .int 0, .long 0, .int 0, .int 0, .int 0, .int 0, .int 0, .int 0])), (q1, .inr (2, [.ref (ur2 0), .ref (ur2 1), .ref (ur2 2), .ref (ur2 3), .int 0, .int 0])), ((ur2 0), .inl (k 0, 34, .inl (fun _ => 0))), ((ur2 1), .inl (k 0, 34, .inl (fun _ => 0))), ((ur2 2), .inl (k 0, 4, .inl (fun _ => 0))), ((ur2 3), .inl (k 0, 4, .inl (fun _ => 0)))] := hD
  refine va_putF (D := G) (ci := 1) (v := .ref q1) (ty := (.object "TileHouse$Tiles")) (C := RX2) (T := TX2) (N := 10) hx hb hts iX2_init_X2 tyX2 tyX2_ok nmX2 hown hK hP hD hS 0 rfl rfl 0 (by decide) (hts (.fieldLink RX2 12 "TileHouse$Seat" "tiles" "LTileHouse$Tiles;") (by decide +kernel)) (fun _ h9 => h9) rfl hin rfl (by decide +kernel) rfl rfl (Nat.le_of_ble_eq_true rfl) dX2_init_12 (fun H locs hP hD hS => ?_)
  replace hP : va_P G vwCl [(h0, .inr (1, [.ref q1, .null, .int 0, .long 0, .int 0, .int 0, .int 0, .int 0, .int 0, .int 0])), (q1, .inr (2, [.ref (ur2 0), .ref (ur2 1), .ref (ur2 2), .ref (ur2 3), .int 0, .int 0])), ((ur2 0), .inl (k 0, 34, .inl (fun _ => 0))), ((ur2 1), .inl (k 0, 34, .inl (fun _ => 0))), ((ur2 2), .inl (k 0, 4, .inl (fun _ => 0))), ((ur2 3), .inl (k 0, 4, .inl (fun _ => 0)))] H := hP
  replace hD : va_D A [(h0, .inr (1, [.ref q1, .null, .int 0, .long 0, .int 0, .int 0, .int 0, .int 0, .int 0, .int 0])), (q1, .inr (2, [.ref (ur2 0), .ref (ur2 1), .ref (ur2 2), .ref (ur2 3), .int 0, .int 0])), ((ur2 0), .inl (k 0, 34, .inl (fun _ => 0))), ((ur2 1), .inl (k 0, 34, .inl (fun _ => 0))), ((ur2 2), .inl (k 0, 4, .inl (fun _ => 0))), ((ur2 3), .inl (k 0, 4, .inl (fun _ => 0)))] := hD
  refine lv_aload_n hx hb dX2_init_15 rfl (lv_at hl 0 rfl) ?_
  refine lv_bipush (v := 86) hx hb dX2_init_16 (by decide) ?_
  refine va_newa (atype := .int) (ty := .int) (N' := 86) (a0 := (86, .inl (fun _ => 0))) hx hb (hts (.arrayClass .int) (by decide +kernel)) rfl hK hP hD hS hA (fun cA => rfl) (by decide) (by decide) (by decide) (Nat.le_of_ble_eq_true rfl) (Nat.le_of_ble_eq_true rfl) dX2_init_18 (fun q3 cA H hK1 hP hD hS => ?_)
  obtain rfl : cA = k 0 := ty_same0 hK1 hK
  replace hP : va_P G vwCl [(h0, .inr (1, [.ref q1, .null, .int 0, .long 0, .int 0, .int 0, .int 0, .int 0, .int 0, .int 0])), (q1, .inr (2, [.ref (ur2 0), .ref (ur2 1), .ref (ur2 2), .ref (ur2 3), .int 0, .int 0])), ((ur2 0), .inl (k 0, 34, .inl (fun _ => 0))), ((ur2 1), .inl (k 0, 34, .inl (fun _ => 0))), ((ur2 2), .inl (k 0, 4, .inl (fun _ => 0))), ((ur2 3), .inl (k 0, 4, .inl (fun _ => 0))), (q3, .inl (k 0, 86, .inl (fun _ => 0)))] H := hP
  replace hD : va_D A [(h0, .inr (1, [.ref q1, .null, .int 0, .long 0, .int 0, .int 0, .int 0, .int 0, .int 0, .int 0])), (q1, .inr (2, [.ref (ur2 0), .ref (ur2 1), .ref (ur2 2), .ref (ur2 3), .int 0, .int 0])), ((ur2 0), .inl (k 0, 34, .inl (fun _ => 0))), ((ur2 1), .inl (k 0, 34, .inl (fun _ => 0))), ((ur2 2), .inl (k 0, 4, .inl (fun _ => 0))), ((ur2 3), .inl (k 0, 4, .inl (fun _ => 0))), (q3, .inl (k 0, 86, .inl (fun _ => 0)))] := hD
  refine va_putF (D := G) (ci := 1) (v := .ref q3) (ty := (.array .int)) (C := RX2) (T := TX2) (N := 10) hx hb hts iX2_init_X2 tyX2 tyX2_ok nmX2 hown hK hP hD hS 0 rfl rfl 1 (by decide) (hts (.fieldLink RX2 18 "TileHouse$Seat" "thrown" "[I") (by decide +kernel)) (fun _ h9 => h9) rfl hin rfl (by decide +kernel) rfl rfl (Nat.le_of_ble_eq_true rfl) dX2_init_20 (fun H locs hP hD hS => ?_)
  replace hP : va_P G vwCl [(h0, .inr (1, [.ref q1, .ref q3, .int 0, .long 0, .int 0, .int 0, .int 0, .int 0, .int 0, .int 0])), (q1, .inr (2, [.ref (ur2 0), .ref (ur2 1), .ref (ur2 2), .ref (ur2 3), .int 0, .int 0])), ((ur2 0), .inl (k 0, 34, .inl (fun _ => 0))), ((ur2 1), .inl (k 0, 34, .inl (fun _ => 0))), ((ur2 2), .inl (k 0, 4, .inl (fun _ => 0))), ((ur2 3), .inl (k 0, 4, .inl (fun _ => 0))), (q3, .inl (k 0, 86, .inl (fun _ => 0)))] H := hP
  replace hD : va_D A [(h0, .inr (1, [.ref q1, .ref q3, .int 0, .long 0, .int 0, .int 0, .int 0, .int 0, .int 0, .int 0])), (q1, .inr (2, [.ref (ur2 0), .ref (ur2 1), .ref (ur2 2), .ref (ur2 3), .int 0, .int 0])), ((ur2 0), .inl (k 0, 34, .inl (fun _ => 0))), ((ur2 1), .inl (k 0, 34, .inl (fun _ => 0))), ((ur2 2), .inl (k 0, 4, .inl (fun _ => 0))), ((ur2 3), .inl (k 0, 4, .inl (fun _ => 0))), (q3, .inl (k 0, 86, .inl (fun _ => 0)))] := hD
  refine lv_aload_n hx hb dX2_init_23 rfl (lv_at hl 0 rfl) ?_
  refine lv_sipush (v := 25000) hx hb dX2_init_24 (by decide) ?_
  refine va_put (D := G) (ci := 1) (v := .int 25000) (ty := .int) (C := RX2) (T := TX2) (N := 10) hx hb hts iX2_init_X2 tyX2 tyX2_ok nmX2 hown hK hP hD hS 0 rfl rfl 4 (by decide) (hts (.fieldLink RX2 22 "TileHouse$Seat" "points" "I") (by decide +kernel)) (fun _ h9 => h9) rfl (by decide +kernel) rfl rfl (Nat.le_of_ble_eq_true rfl) dX2_init_27 (fun H locs hP hD hS => ?_)
  replace hP : va_P G vwCl [(h0, .inr (1, [.ref q1, .ref q3, .int 0, .long 0, .int 25000, .int 0, .int 0, .int 0, .int 0, .int 0])), (q1, .inr (2, [.ref (ur2 0), .ref (ur2 1), .ref (ur2 2), .ref (ur2 3), .int 0, .int 0])), ((ur2 0), .inl (k 0, 34, .inl (fun _ => 0))), ((ur2 1), .inl (k 0, 34, .inl (fun _ => 0))), ((ur2 2), .inl (k 0, 4, .inl (fun _ => 0))), ((ur2 3), .inl (k 0, 4, .inl (fun _ => 0))), (q3, .inl (k 0, 86, .inl (fun _ => 0)))] H := hP
  replace hD : va_D A [(h0, .inr (1, [.ref q1, .ref q3, .int 0, .long 0, .int 25000, .int 0, .int 0, .int 0, .int 0, .int 0])), (q1, .inr (2, [.ref (ur2 0), .ref (ur2 1), .ref (ur2 2), .ref (ur2 3), .int 0, .int 0])), ((ur2 0), .inl (k 0, 34, .inl (fun _ => 0))), ((ur2 1), .inl (k 0, 34, .inl (fun _ => 0))), ((ur2 2), .inl (k 0, 4, .inl (fun _ => 0))), ((ur2 3), .inl (k 0, 4, .inl (fun _ => 0))), (q3, .inl (k 0, 86, .inl (fun _ => 0)))] := hD
  refine W.widen (k := 6) (n := 168) (Nat.le_of_ble_eq_true rfl) (Nat.le_of_ble_eq_true rfl) ?_
  exact W.vret hx hb hr (fun t ht hW => ⟨⟨(fun i => ([q1, (ur2 0), (ur2 1), (ur2 2), (ur2 3), q3] : List Nat).getD i 0), rfl, trivial, ⟨by rw [ht]; exact hP.sub [0, 1, 2, 3, 4, 5, 6] rfl, hD.sub [0, 1, 2, 3, 4, 5, 6] (by decide) rfl⟩⟩, hS.F ht⟩) hS.2.2 dX2_init_30
end
section
theorem dX6_mayClaimSet_0 : decode cX6_mayClaimSet 0 = .ok (.aload_n 0, 1) := by decide +kernel
theorem dX6_mayClaimSet_1 : decode cX6_mayClaimSet 1 = .ok (.getfield 45, 3) := by decide +kernel
theorem dX6_mayClaimSet_4 : decode cX6_mayClaimSet 4 = .ok (.iconst 2, 1) := by decide +kernel
theorem dX6_mayClaimSet_5 : decode cX6_mayClaimSet 5 = .ok (.if_icmp .ne 50, 3) := by decide +kernel
theorem dX6_mayClaimSet_55 : decode cX6_mayClaimSet 55 = .ok (.iconst 0, 1) := by decide +kernel
theorem dX6_mayClaimSet_56 : decode cX6_mayClaimSet 56 = .ok (.ireturn, 1) := by decide +kernel
theorem dX6_mayMakeFour_0 : decode cX6_mayMakeFour 0 = .ok (.aload_n 0, 1) := by decide +kernel
theorem dX6_mayMakeFour_1 : decode cX6_mayMakeFour 1 = .ok (.getfield 45, 3) := by decide +kernel
theorem dX6_mayMakeFour_4 : decode cX6_mayMakeFour 4 = .ok (.iconst 1, 1) := by decide +kernel
theorem dX6_mayMakeFour_5 : decode cX6_mayMakeFour 5 = .ok (.if_icmp .ne 50, 3) := by decide +kernel
theorem dX6_mayMakeFour_55 : decode cX6_mayMakeFour 55 = .ok (.iconst 0, 1) := by decide +kernel
theorem dX6_mayMakeFour_56 : decode cX6_mayMakeFour 56 = .ok (.ireturn, 1) := by decide +kernel
theorem dX6_discard_0 : decode cX6_discard 0 = .ok (.aload_n 0, 1) := by decide +kernel
theorem dX6_discard_1 : decode cX6_discard 1 = .ok (.getfield 45, 3) := by decide +kernel
theorem dX6_discard_4 : decode cX6_discard 4 = .ok (.iconst 1, 1) := by decide +kernel
theorem dX6_discard_5 : decode cX6_discard 5 = .ok (.if_icmp .ne 11, 3) := by decide +kernel
theorem dX6_discard_16 : decode cX6_discard 16 = .ok (.iconst 0, 1) := by decide +kernel
theorem dX6_discard_17 : decode cX6_discard 17 = .ok (.ireturn, 1) := by decide +kernel
theorem dX6_pass_0 : decode cX6_pass 0 = .ok (.aload_n 0, 1) := by decide +kernel
theorem dX6_pass_1 : decode cX6_pass 1 = .ok (.getfield 45, 3) := by decide +kernel
theorem dX6_pass_4 : decode cX6_pass 4 = .ok (.iconst 2, 1) := by decide +kernel
theorem dX6_pass_5 : decode cX6_pass 5 = .ok (.if_icmp .eq 13, 3) := by decide +kernel
theorem dX6_pass_8 : decode cX6_pass 8 = .ok (.aload_n 0, 1) := by decide +kernel
theorem dX6_pass_9 : decode cX6_pass 9 = .ok (.getfield 45, 3) := by decide +kernel
theorem dX6_pass_12 : decode cX6_pass 12 = .ok (.iconst 3, 1) := by decide +kernel
theorem dX6_pass_13 : decode cX6_pass 13 = .ok (.if_icmp .eq 5, 3) := by decide +kernel
theorem dX6_pass_16 : decode cX6_pass 16 = .ok (.iconst 0, 1) := by decide +kernel
theorem dX6_pass_17 : decode cX6_pass 17 = .ok (.ireturn, 1) := by decide +kernel
theorem dX6_run_0 : decode cX6_run 0 = .ok (.aload_n 0, 1) := by decide +kernel
theorem dX6_run_1 : decode cX6_run 1 = .ok (.iload_n 1, 1) := by decide +kernel
set_option maxRecDepth 20000 in
theorem ggX6_run_X6_mayClaimSet : GoodIn wsX6_run wsX6_mayClaimSet := goodIn_r _ [12, 13, 1, 14, 15, 16, 17, 11, 18, 19, 20, 21, 22, 23, 24, 25, 26, 27, 28, 29, 30, 31, 32, 33, 34, 35, 36, 121, 122, 123, 124, 125, 126, 127, 128, 129, 130, 131, 132, 133, 134, 135, 136, 137, 138, 139, 140, 141, 142, 143, 144, 145, 146, 147, 148, 149, 156, 157, 158, 159] (by decide +kernel) (by decide +kernel)
set_option maxRecDepth 20000 in
theorem gX6_run_X6_mayClaimSet : GoodIn wsX6_run (wsV RX6 147 RX6 yX6_mayClaimSet wsX6_mayClaimSet) := goodIn_app (goodIn_of _ (by decide +kernel)) ggX6_run_X6_mayClaimSet
theorem dX6_run_2 : decode cX6_run 2 = .ok (.invokevirtual 147, 3) := by decide +kernel
theorem dX6_run_5 : decode cX6_run 5 = .ok (.ifCond .eq 22, 3) := by decide +kernel
theorem dX6_run_27 : decode cX6_run 27 = .ok (.iconst 0, 1) := by decide +kernel
theorem dX6_run_28 : decode cX6_run 28 = .ok (.ireturn, 1) := by decide +kernel
theorem dX6_three_0 : decode cX6_three 0 = .ok (.aload_n 0, 1) := by decide +kernel
theorem dX6_three_1 : decode cX6_three 1 = .ok (.iload_n 1, 1) := by decide +kernel
set_option maxRecDepth 20000 in
theorem ggX6_three_X6_mayClaimSet : GoodIn wsX6_three wsX6_mayClaimSet := goodIn_r _ [8, 9, 10, 11, 12, 13, 14, 7, 15, 16, 17, 18, 19, 20, 21, 22, 23, 24, 25, 26, 27, 28, 29, 30, 31, 32, 33, 128, 129, 130, 131, 132, 133, 134, 135, 136, 137, 138, 139, 140, 141, 142, 143, 144, 145, 146, 118, 119, 120, 121, 122, 123, 124, 125, 126, 127, 147, 148, 149, 150] (by decide +kernel) (by decide +kernel)
set_option maxRecDepth 20000 in
theorem gX6_three_X6_mayClaimSet : GoodIn wsX6_three (wsV RX6 147 RX6 yX6_mayClaimSet wsX6_mayClaimSet) := goodIn_app (goodIn_of _ (by decide +kernel)) ggX6_three_X6_mayClaimSet
theorem dX6_three_2 : decode cX6_three 2 = .ok (.invokevirtual 147, 3) := by decide +kernel
theorem dX6_three_5 : decode cX6_three 5 = .ok (.ifCond .eq 22, 3) := by decide +kernel
theorem dX6_three_27 : decode cX6_three 27 = .ok (.iconst 0, 1) := by decide +kernel
theorem dX6_three_28 : decode cX6_three 28 = .ok (.ireturn, 1) := by decide +kernel
theorem dX6_four_0 : decode cX6_four 0 = .ok (.aload_n 0, 1) := by decide +kernel
theorem dX6_four_1 : decode cX6_four 1 = .ok (.iload_n 1, 1) := by decide +kernel
set_option maxRecDepth 20000 in
theorem ggX6_four_X6_mayClaimSet : GoodIn wsX6_four wsX6_mayClaimSet := goodIn_r _ [9, 10, 11, 12, 3, 13, 14, 8, 15, 16, 17, 18, 19, 20, 21, 22, 23, 24, 25, 26, 27, 28, 29, 30, 31, 32, 33, 144, 145, 146, 147, 148, 149, 150, 151, 152, 153, 154, 155, 156, 157, 158, 159, 160, 161, 162, 134, 135, 136, 137, 138, 139, 140, 141, 142, 143, 163, 164, 165, 166] (by decide +kernel) (by decide +kernel)
set_option maxRecDepth 20000 in
theorem gX6_four_X6_mayClaimSet : GoodIn wsX6_four (wsV RX6 147 RX6 yX6_mayClaimSet wsX6_mayClaimSet) := goodIn_app (goodIn_of _ (by decide +kernel)) ggX6_four_X6_mayClaimSet
theorem dX6_four_2 : decode cX6_four 2 = .ok (.invokevirtual 147, 3) := by decide +kernel
theorem dX6_four_5 : decode cX6_four 5 = .ok (.ifCond .eq 33, 3) := by decide +kernel
theorem dX6_four_38 : decode cX6_four 38 = .ok (.iconst 0, 1) := by decide +kernel
theorem dX6_four_39 : decode cX6_four 39 = .ok (.ireturn, 1) := by decide +kernel
theorem dX6_hide_0 : decode cX6_hide 0 = .ok (.aload_n 0, 1) := by decide +kernel
set_option maxRecDepth 20000 in
theorem ggX6_hide_X6_mayMakeFour : GoodIn wsX6_hide wsX6_mayMakeFour := goodIn_r _ [7, 8, 9, 1, 10, 11, 12, 13, 14, 15, 6, 16, 17, 18, 19, 20, 21, 22, 23, 24, 25, 79, 80, 81, 82, 83, 84, 85, 86, 87, 88, 89, 90, 91, 92, 93, 94, 95, 96, 97, 98, 99, 100, 101, 102, 103, 104, 105, 106, 107, 108, 109, 110, 111] (by decide +kernel) (by decide +kernel)
set_option maxRecDepth 20000 in
theorem gX6_hide_X6_mayMakeFour : GoodIn wsX6_hide (wsV RX6 178 RX6 yX6_mayMakeFour wsX6_mayMakeFour) := goodIn_app (goodIn_of _ (by decide +kernel)) ggX6_hide_X6_mayMakeFour
theorem dX6_hide_1 : decode cX6_hide 1 = .ok (.invokevirtual 178, 3) := by decide +kernel
theorem dX6_hide_4 : decode cX6_hide 4 = .ok (.ifCond .eq 22, 3) := by decide +kernel
theorem dX6_hide_26 : decode cX6_hide 26 = .ok (.iconst 0, 1) := by decide +kernel
theorem dX6_hide_27 : decode cX6_hide 27 = .ok (.ireturn, 1) := by decide +kernel
theorem dX6_add_0 : decode cX6_add 0 = .ok (.aload_n 0, 1) := by decide +kernel
set_option maxRecDepth 20000 in
theorem ggX6_add_X6_mayMakeFour : GoodIn wsX6_add wsX6_mayMakeFour := goodIn_r _ [9, 4, 3, 1, 10, 11, 12, 13, 14, 15, 8, 16, 17, 18, 19, 20, 21, 22, 23, 24, 25, 42, 43, 44, 45, 46, 47, 48, 49, 50, 51, 52, 53, 54, 55, 56, 57, 58, 59, 60, 61, 62, 63, 64, 65, 66, 67, 68, 69, 70, 71, 72, 73, 74] (by decide +kernel) (by decide +kernel)
set_option maxRecDepth 20000 in
theorem gX6_add_X6_mayMakeFour : GoodIn wsX6_add (wsV RX6 178 RX6 yX6_mayMakeFour wsX6_mayMakeFour) := goodIn_app (goodIn_of _ (by decide +kernel)) ggX6_add_X6_mayMakeFour
theorem dX6_add_1 : decode cX6_add 1 = .ok (.invokevirtual 178, 3) := by decide +kernel
theorem dX6_add_4 : decode cX6_add 4 = .ok (.ifCond .eq 21, 3) := by decide +kernel
theorem dX6_add_25 : decode cX6_add 25 = .ok (.iconst 0, 1) := by decide +kernel
theorem dX6_add_26 : decode cX6_add 26 = .ok (.ireturn, 1) := by decide +kernel
theorem dX6_win_0 : decode cX6_win 0 = .ok (.aload_n 0, 1) := by decide +kernel
theorem dX6_win_1 : decode cX6_win 1 = .ok (.getfield 45, 3) := by decide +kernel
theorem dX6_win_4 : decode cX6_win 4 = .ok (.iconst 1, 1) := by decide +kernel
theorem dX6_win_5 : decode cX6_win 5 = .ok (.if_icmp .ne 23, 3) := by decide +kernel
theorem dX6_win_28 : decode cX6_win 28 = .ok (.iconst 0, 1) := by decide +kernel
theorem dX6_win_29 : decode cX6_win 29 = .ok (.ireturn, 1) := by decide +kernel
theorem dX6_claim_0 : decode cX6_claim 0 = .ok (.aload_n 0, 1) := by decide +kernel
theorem dX6_claim_1 : decode cX6_claim 1 = .ok (.getfield 45, 3) := by decide +kernel
theorem dX6_claim_4 : decode cX6_claim 4 = .ok (.iconst 2, 1) := by decide +kernel
theorem dX6_claim_5 : decode cX6_claim 5 = .ok (.if_icmp .eq 11, 3) := by decide +kernel
theorem dX6_claim_8 : decode cX6_claim 8 = .ok (.aload_n 0, 1) := by decide +kernel
theorem dX6_claim_9 : decode cX6_claim 9 = .ok (.getfield 45, 3) := by decide +kernel
theorem dX6_claim_12 : decode cX6_claim 12 = .ok (.iconst 3, 1) := by decide +kernel
theorem dX6_claim_13 : decode cX6_claim 13 = .ok (.if_icmp .ne 18, 3) := by decide +kernel
theorem dX6_claim_31 : decode cX6_claim 31 = .ok (.iconst 0, 1) := by decide +kernel
theorem dX6_claim_32 : decode cX6_claim 32 = .ok (.ireturn, 1) := by decide +kernel
theorem dX6_nine_0 : decode cX6_nine 0 = .ok (.aload_n 0, 1) := by decide +kernel
theorem dX6_nine_1 : decode cX6_nine 1 = .ok (.getfield 45, 3) := by decide +kernel
theorem dX6_nine_4 : decode cX6_nine 4 = .ok (.iconst 1, 1) := by decide +kernel
theorem dX6_nine_5 : decode cX6_nine 5 = .ok (.if_icmp .ne 24, 3) := by decide +kernel
theorem dX6_nine_29 : decode cX6_nine 29 = .ok (.iconst 0, 1) := by decide +kernel
theorem dX6_nine_30 : decode cX6_nine 30 = .ok (.ireturn, 1) := by decide +kernel
theorem dX6_hand_0 : decode cX6_hand 0 = .ok (.iload_n 1, 1) := by decide +kernel
set_option maxRecDepth 20000 in
theorem ggX6_hand_X6_isSeat : GoodIn wsX6_hand wsX6_isSeat := goodIn_r _ [5] (by decide +kernel) (by decide +kernel)
set_option maxRecDepth 20000 in
theorem gX6_hand_X6_isSeat : GoodIn wsX6_hand (va_wsS RX6 213 yX6_isSeat wsX6_isSeat) := goodIn_app (goodIn_of _ (by decide +kernel)) ggX6_hand_X6_isSeat
theorem dX6_hand_1 : decode cX6_hand 1 = .ok (.invokestatic 213, 3) := by decide +kernel
theorem dX6_hand_4 : decode cX6_hand 4 = .ok (.ifCond .eq 18, 3) := by decide +kernel
theorem dX6_hand_7 : decode cX6_hand 7 = .ok (.aload_n 0, 1) := by decide +kernel
theorem dX6_hand_8 : decode cX6_hand 8 = .ok (.iload_n 1, 1) := by decide +kernel
set_option maxRecDepth 20000 in
theorem ggX6_hand_X6_at : GoodIn wsX6_hand wsX6_at := goodIn_r _ [9, 10, 29, 30, 31, 32, 33, 34, 35, 36, 37, 38, 39, 40, 41, 42, 43, 44, 45, 46, 47] (by decide +kernel) (by decide +kernel)
set_option maxRecDepth 20000 in
theorem gX6_hand_X6_at : GoodIn wsX6_hand (wsV RX6 65 RX6 yX6_at wsX6_at) := goodIn_app (goodIn_of _ (by decide +kernel)) ggX6_hand_X6_at
theorem dX6_hand_9 : decode cX6_hand 9 = .ok (.invokevirtual 65, 3) := by decide +kernel
theorem dX6_hand_12 : decode cX6_hand 12 = .ok (.getfield 72, 3) := by decide +kernel
theorem dX6_hand_15 : decode cX6_hand 15 = .ok (.iload_n 2, 1) := by decide +kernel
set_option maxRecDepth 20000 in
theorem ggX6_hand_X3_free : GoodIn wsX6_hand wsX3_free := goodIn_r _ [15, 16, 17, 4, 18, 48, 49, 50, 51, 52, 53] (by decide +kernel) (by decide +kernel)
set_option maxRecDepth 20000 in
theorem gX6_hand_X3_free : GoodIn wsX6_hand (wsV RX6 173 RX3 yX3_free wsX3_free) := goodIn_app (goodIn_of _ (by decide +kernel)) ggX6_hand_X3_free
theorem dX6_hand_16 : decode cX6_hand 16 = .ok (.invokevirtual 173, 3) := by decide +kernel
theorem dX6_hand_19 : decode cX6_hand 19 = .ok (.goto 4, 3) := by decide +kernel
theorem dX6_hand_23 : decode cX6_hand 23 = .ok (.ireturn, 1) := by decide +kernel
theorem dX6_hand_22 : decode cX6_hand 22 = .ok (.iconst 0, 1) := by decide +kernel
theorem dX6_laid_0 : decode cX6_laid 0 = .ok (.iload_n 1, 1) := by decide +kernel
set_option maxRecDepth 20000 in
theorem ggX6_laid_X6_isSeat : GoodIn wsX6_laid wsX6_isSeat := goodIn_r _ [8] (by decide +kernel) (by decide +kernel)
set_option maxRecDepth 20000 in
theorem gX6_laid_X6_isSeat : GoodIn wsX6_laid (va_wsS RX6 213 yX6_isSeat wsX6_isSeat) := goodIn_app (goodIn_of _ (by decide +kernel)) ggX6_laid_X6_isSeat
theorem dX6_laid_1 : decode cX6_laid 1 = .ok (.invokestatic 213, 3) := by decide +kernel
theorem dX6_laid_4 : decode cX6_laid 4 = .ok (.ifCond .ne 5, 3) := by decide +kernel
theorem dX6_laid_9 : decode cX6_laid 9 = .ok (.aload_n 0, 1) := by decide +kernel
theorem dX6_laid_10 : decode cX6_laid 10 = .ok (.iload_n 1, 1) := by decide +kernel
set_option maxRecDepth 20000 in
theorem ggX6_laid_X6_at : GoodIn wsX6_laid wsX6_at := goodIn_r _ [12, 13, 30, 31, 32, 33, 34, 35, 36, 37, 38, 39, 40, 41, 42, 43, 44, 45, 46, 47, 48] (by decide +kernel) (by decide +kernel)
set_option maxRecDepth 20000 in
theorem gX6_laid_X6_at : GoodIn wsX6_laid (wsV RX6 65 RX6 yX6_at wsX6_at) := goodIn_app (goodIn_of _ (by decide +kernel)) ggX6_laid_X6_at
theorem dX6_laid_11 : decode cX6_laid 11 = .ok (.invokevirtual 65, 3) := by decide +kernel
theorem dX6_laid_14 : decode cX6_laid 14 = .ok (.getfield 72, 3) := by decide +kernel
theorem dX6_laid_17 : decode cX6_laid 17 = .ok (.astore 4, 2) := by decide +kernel
theorem dX6_laid_19 : decode cX6_laid 19 = .ok (.iload_n 2, 1) := by decide +kernel
theorem dX6_laid_20 : decode cX6_laid 20 = .ok (.ifCond .lt 17, 3) := by decide +kernel
theorem dX6_laid_37 : decode cX6_laid 37 = .ok (.iconst (-1), 1) := by decide +kernel
theorem dX6_laid_38 : decode cX6_laid 38 = .ok (.ireturn, 1) := by decide +kernel
theorem dX6_laid_23 : decode cX6_laid 23 = .ok (.iload_n 2, 1) := by decide +kernel
theorem dX6_laid_24 : decode cX6_laid 24 = .ok (.aload 4, 2) := by decide +kernel
theorem dX6_laid_26 : decode cX6_laid 26 = .ok (.getfield 244, 3) := by decide +kernel
theorem dX6_laid_29 : decode cX6_laid 29 = .ok (.if_icmp .ge 8, 3) := by decide +kernel
theorem dX6_laid_7 : decode cX6_laid 7 = .ok (.iconst (-1), 1) := by decide +kernel
theorem dX6_laid_8 : decode cX6_laid 8 = .ok (.ireturn, 1) := by decide +kernel
theorem dX3_waitsFor_0 : decode cX3_waitsFor 0 = .ok (.aload_n 0, 1) := by decide +kernel
set_option maxRecDepth 20000 in
theorem ggX3_waitsFor_X3_size : GoodIn wsX3_waitsFor wsX3_size := goodIn_r _ [6, 7, 8, 44, 45, 46, 47, 48, 49] (by decide +kernel) (by decide +kernel)
set_option maxRecDepth 20000 in
theorem gX3_waitsFor_X3_size : GoodIn wsX3_waitsFor (wsV RX3 48 RX3 yX3_size wsX3_size) := goodIn_app (goodIn_of _ (by decide +kernel)) ggX3_waitsFor_X3_size
theorem dX3_waitsFor_1 : decode cX3_waitsFor 1 = .ok (.invokevirtual 48, 3) := by decide +kernel
theorem dX3_waitsFor_4 : decode cX3_waitsFor 4 = .ok (.bipush 13, 2) := by decide +kernel
theorem dX3_waitsFor_6 : decode cX3_waitsFor 6 = .ok (.if_icmp .ne 20, 3) := by decide +kernel
theorem dX3_waitsFor_26 : decode cX3_waitsFor 26 = .ok (.iconst 0, 1) := by decide +kernel
theorem dX3_waitsFor_27 : decode cX3_waitsFor 27 = .ok (.ireturn, 1) := by decide +kernel
theorem dX3_waiting_0 : decode cX3_waiting 0 = .ok (.lconst 0, 1) := by decide +kernel
theorem dX3_waiting_1 : decode cX3_waiting 1 = .ok (.lstore_n 1, 1) := by decide +kernel
theorem dX3_waiting_2 : decode cX3_waiting 2 = .ok (.iconst 0, 1) := by decide +kernel
theorem dX3_waiting_3 : decode cX3_waiting 3 = .ok (.istore_n 3, 1) := by decide +kernel
theorem dX3_waiting_4 : decode cX3_waiting 4 = .ok (.iload_n 3, 1) := by decide +kernel
theorem dX3_waiting_5 : decode cX3_waiting 5 = .ok (.bipush 34, 2) := by decide +kernel
theorem dX3_waiting_7 : decode cX3_waiting 7 = .ok (.if_icmp .ge 23, 3) := by decide +kernel
theorem dX3_waiting_30 : decode cX3_waiting 30 = .ok (.lload_n 1, 1) := by decide +kernel
theorem dX3_waiting_31 : decode cX3_waiting 31 = .ok (.lreturn, 1) := by decide +kernel
theorem dX3_waiting_10 : decode cX3_waiting 10 = .ok (.aload_n 0, 1) := by decide +kernel
theorem dX3_waiting_11 : decode cX3_waiting 11 = .ok (.iload_n 3, 1) := by decide +kernel
set_option maxRecDepth 20000 in
theorem ggX3_waiting_X3_waitsFor : GoodIn wsX3_waiting wsX3_waitsFor := goodIn_r _ [5, 6, 7, 8, 9, 4, 10, 11, 12, 13, 14, 15, 16, 17, 18, 19, 20, 21, 22, 23, 24, 25, 26, 27, 28, 29, 30, 31, 32, 33, 34, 35, 36, 37, 38, 39, 40, 41, 42, 43, 44, 45, 46, 47, 48, 49, 50, 51, 52, 53] (by decide +kernel) (by decide +kernel)
set_option maxRecDepth 20000 in
theorem gX3_waiting_X3_waitsFor : GoodIn wsX3_waiting (wsV RX3 45 RX3 yX3_waitsFor wsX3_waitsFor) := goodIn_app (goodIn_of _ (by decide +kernel)) ggX3_waiting_X3_waitsFor
theorem dX3_waiting_12 : decode cX3_waiting 12 = .ok (.invokevirtual 45, 3) := by decide +kernel
theorem dX3_waiting_15 : decode cX3_waiting 15 = .ok (.ifCond .eq 9, 3) := by decide +kernel
theorem dX3_waiting_24 : decode cX3_waiting 24 = .ok (.iinc 3 1, 3) := by decide +kernel
theorem dX3_waiting_27 : decode cX3_waiting 27 = .ok (.goto (-23), 3) := by decide +kernel
theorem dX6_waits_0 : decode cX6_waits 0 = .ok (.iload_n 1, 1) := by decide +kernel
set_option maxRecDepth 20000 in
theorem ggX6_waits_X6_isSeat : GoodIn wsX6_waits wsX6_isSeat := goodIn_r _ [5] (by decide +kernel) (by decide +kernel)
set_option maxRecDepth 20000 in
theorem gX6_waits_X6_isSeat : GoodIn wsX6_waits (va_wsS RX6 213 yX6_isSeat wsX6_isSeat) := goodIn_app (goodIn_of _ (by decide +kernel)) ggX6_waits_X6_isSeat
theorem dX6_waits_1 : decode cX6_waits 1 = .ok (.invokestatic 213, 3) := by decide +kernel
theorem dX6_waits_4 : decode cX6_waits 4 = .ok (.ifCond .eq 17, 3) := by decide +kernel
theorem dX6_waits_7 : decode cX6_waits 7 = .ok (.aload_n 0, 1) := by decide +kernel
theorem dX6_waits_8 : decode cX6_waits 8 = .ok (.iload_n 1, 1) := by decide +kernel
set_option maxRecDepth 20000 in
theorem ggX6_waits_X6_at : GoodIn wsX6_waits wsX6_at := goodIn_r _ [9, 10, 71, 72, 73, 74, 75, 76, 77, 78, 79, 80, 81, 82, 83, 84, 85, 86, 87, 88, 89] (by decide +kernel) (by decide +kernel)
set_option maxRecDepth 20000 in
theorem gX6_waits_X6_at : GoodIn wsX6_waits (wsV RX6 65 RX6 yX6_at wsX6_at) := goodIn_app (goodIn_of _ (by decide +kernel)) ggX6_waits_X6_at
theorem dX6_waits_9 : decode cX6_waits 9 = .ok (.invokevirtual 65, 3) := by decide +kernel
theorem dX6_waits_12 : decode cX6_waits 12 = .ok (.getfield 72, 3) := by decide +kernel
set_option maxRecDepth 20000 in
theorem ggX6_waits_X3_waiting : GoodIn wsX6_waits wsX3_waiting := goodIn_r _ [15, 16, 17, 18, 14, 19, 20, 21, 22, 23, 24, 25, 26, 27, 4, 28, 29, 30, 31, 32, 33, 34, 35, 36, 37, 38, 39, 40, 41, 42, 43, 44, 45, 46, 47, 48, 49, 50, 51, 52, 53, 54, 55, 56, 57, 58, 59, 60, 90, 91, 92, 93, 94, 95] (by decide +kernel) (by decide +kernel)
set_option maxRecDepth 20000 in
theorem gX6_waits_X3_waiting : GoodIn wsX6_waits (wsV RX6 222 RX3 yX3_waiting wsX3_waiting) := goodIn_app (goodIn_of _ (by decide +kernel)) ggX6_waits_X3_waiting
theorem dX6_waits_15 : decode cX6_waits 15 = .ok (.invokevirtual 222, 3) := by decide +kernel
theorem dX6_waits_18 : decode cX6_waits 18 = .ok (.goto 4, 3) := by decide +kernel
theorem dX6_waits_22 : decode cX6_waits 22 = .ok (.lreturn, 1) := by decide +kernel
theorem dX6_waits_21 : decode cX6_waits 21 = .ok (.lconst 0, 1) := by decide +kernel
theorem dX6_seat_0 : decode cX6_seat 0 = .ok (.iload_n 1, 1) := by decide +kernel
set_option maxRecDepth 20000 in
theorem ggX6_seat_X6_isSeat : GoodIn wsX6_seat wsX6_isSeat := goodIn_r _ [11] (by decide +kernel) (by decide +kernel)
set_option maxRecDepth 20000 in
theorem gX6_seat_X6_isSeat : GoodIn wsX6_seat (va_wsS RX6 213 yX6_isSeat wsX6_isSeat) := goodIn_app (goodIn_of _ (by decide +kernel)) ggX6_seat_X6_isSeat
theorem dX6_seat_1 : decode cX6_seat 1 = .ok (.invokestatic 213, 3) := by decide +kernel
theorem dX6_seat_4 : decode cX6_seat 4 = .ok (.ifCond .ne 5, 3) := by decide +kernel
theorem dX6_seat_9 : decode cX6_seat 9 = .ok (.aload_n 0, 1) := by decide +kernel
theorem dX6_seat_10 : decode cX6_seat 10 = .ok (.iload_n 1, 1) := by decide +kernel
set_option maxRecDepth 20000 in
theorem ggX6_seat_X6_at : GoodIn wsX6_seat wsX6_at := goodIn_r _ [15, 16, 45, 46, 47, 48, 49, 50, 51, 52, 53, 54, 55, 56, 57, 58, 59, 60, 61, 62, 63] (by decide +kernel) (by decide +kernel)
set_option maxRecDepth 20000 in
theorem gX6_seat_X6_at : GoodIn wsX6_seat (wsV RX6 65 RX6 yX6_at wsX6_at) := goodIn_app (goodIn_of _ (by decide +kernel)) ggX6_seat_X6_at
theorem dX6_seat_11 : decode cX6_seat 11 = .ok (.invokevirtual 65, 3) := by decide +kernel
theorem dX6_seat_14 : decode cX6_seat 14 = .ok (.astore_n 3, 1) := by decide +kernel
theorem dX6_seat_15 : decode cX6_seat 15 = .ok (.iload_n 2, 1) := by decide +kernel
theorem dX6_seat_16 : decode cX6_seat 16 = .ok (.tableswitch 119 0 7 #[48, 53, 58, 71, 77, 82, 90, 106], 48) := by decide +kernel
theorem dX6_seat_135 : decode cX6_seat 135 = .ok (.iconst (-1), 1) := by decide +kernel
theorem dX6_seat_136 : decode cX6_seat 136 = .ok (.ireturn, 1) := by decide +kernel
theorem dX6_seat_64 : decode cX6_seat 64 = .ok (.aload_n 3, 1) := by decide +kernel
theorem dX6_seat_65 : decode cX6_seat 65 = .ok (.getfield 203, 3) := by decide +kernel
theorem dX6_seat_68 : decode cX6_seat 68 = .ok (.ireturn, 1) := by decide +kernel
theorem dX6_seat_69 : decode cX6_seat 69 = .ok (.aload_n 3, 1) := by decide +kernel
theorem dX6_seat_70 : decode cX6_seat 70 = .ok (.getfield 110, 3) := by decide +kernel
theorem dX6_seat_73 : decode cX6_seat 73 = .ok (.ireturn, 1) := by decide +kernel
theorem dX6_seat_74 : decode cX6_seat 74 = .ok (.aload_n 3, 1) := by decide +kernel
theorem dX6_seat_75 : decode cX6_seat 75 = .ok (.getfield 219, 3) := by decide +kernel
theorem dX6_seat_78 : decode cX6_seat 78 = .ok (.ifCond .eq 7, 3) := by decide +kernel
theorem dX6_seat_85 : decode cX6_seat 85 = .ok (.iconst 0, 1) := by decide +kernel
theorem dX6_seat_86 : decode cX6_seat 86 = .ok (.ireturn, 1) := by decide +kernel
theorem dX6_seat_87 : decode cX6_seat 87 = .ok (.aload_n 0, 1) := by decide +kernel
theorem dX6_seat_88 : decode cX6_seat 88 = .ok (.iload_n 1, 1) := by decide +kernel
set_option maxRecDepth 20000 in
theorem ggX6_seat_X6_windOf : GoodIn wsX6_seat wsX6_windOf := goodIn_r _ [20, 21, 45, 46, 47, 48, 49, 50, 51, 52, 53, 54, 55, 56, 57, 58, 59, 60, 61, 62, 63] (by decide +kernel) (by decide +kernel)
set_option maxRecDepth 20000 in
theorem gX6_seat_X6_windOf : GoodIn wsX6_seat (wsV RX6 263 RX6 yX6_windOf wsX6_windOf) := goodIn_app (goodIn_of _ (by decide +kernel)) ggX6_seat_X6_windOf
theorem dX6_seat_89 : decode cX6_seat 89 = .ok (.invokevirtual 263, 3) := by decide +kernel
theorem dX6_seat_92 : decode cX6_seat 92 = .ok (.ireturn, 1) := by decide +kernel
theorem dX6_seat_93 : decode cX6_seat 93 = .ok (.aload_n 3, 1) := by decide +kernel
theorem dX6_seat_94 : decode cX6_seat 94 = .ok (.getfield 107, 3) := by decide +kernel
theorem dX6_seat_97 : decode cX6_seat 97 = .ok (.ireturn, 1) := by decide +kernel
theorem dX6_seat_98 : decode cX6_seat 98 = .ok (.aload_n 3, 1) := by decide +kernel
theorem dX6_seat_99 : decode cX6_seat 99 = .ok (.getfield 72, 3) := by decide +kernel
theorem dX6_seat_102 : decode cX6_seat 102 = .ok (.getfield 244, 3) := by decide +kernel
theorem dX6_seat_105 : decode cX6_seat 105 = .ok (.ireturn, 1) := by decide +kernel
theorem dX6_seat_106 : decode cX6_seat 106 = .ok (.aload_n 3, 1) := by decide +kernel
theorem dX6_seat_107 : decode cX6_seat 107 = .ok (.getfield 72, 3) := by decide +kernel
set_option maxRecDepth 20000 in
theorem ggX6_seat_X3_isOpen : GoodIn wsX6_seat wsX3_isOpen := goodIn_r _ [26, 27, 28, 39, 40, 41, 42, 43, 44] (by decide +kernel) (by decide +kernel)
set_option maxRecDepth 20000 in
theorem gX6_seat_X3_isOpen : GoodIn wsX6_seat (wsV RX6 266 RX3 yX3_isOpen wsX3_isOpen) := goodIn_app (goodIn_of _ (by decide +kernel)) ggX6_seat_X3_isOpen
theorem dX6_seat_110 : decode cX6_seat 110 = .ok (.invokevirtual 266, 3) := by decide +kernel
theorem dX6_seat_113 : decode cX6_seat 113 = .ok (.ifCond .eq 7, 3) := by decide +kernel
theorem dX6_seat_120 : decode cX6_seat 120 = .ok (.iconst 0, 1) := by decide +kernel
theorem dX6_seat_121 : decode cX6_seat 121 = .ok (.ireturn, 1) := by decide +kernel
theorem dX6_seat_122 : decode cX6_seat 122 = .ok (.aload_n 3, 1) := by decide +kernel
theorem dX6_seat_123 : decode cX6_seat 123 = .ok (.getfield 216, 3) := by decide +kernel
theorem dX6_seat_126 : decode cX6_seat 126 = .ok (.ifCond .eq 7, 3) := by decide +kernel
theorem dX6_seat_133 : decode cX6_seat 133 = .ok (.iconst 0, 1) := by decide +kernel
theorem dX6_seat_134 : decode cX6_seat 134 = .ok (.ireturn, 1) := by decide +kernel
theorem dX6_seat_7 : decode cX6_seat 7 = .ok (.iconst (-1), 1) := by decide +kernel
theorem dX6_seat_8 : decode cX6_seat 8 = .ok (.ireturn, 1) := by decide +kernel
theorem dX6_won_0 : decode cX6_won 0 = .ok (.aload_n 0, 1) := by decide +kernel
theorem dX6_won_1 : decode cX6_won 1 = .ok (.iload_n 1, 1) := by decide +kernel
set_option maxRecDepth 20000 in
theorem ggX6_won_X6_isWin : GoodIn wsX6_won wsX6_isWin := goodIn_r _ [6, 7, 20, 21, 22, 23, 24, 25, 26, 27, 28, 29, 30, 31, 32, 33, 34, 35, 36, 37, 38] (by decide +kernel) (by decide +kernel)
set_option maxRecDepth 20000 in
theorem gX6_won_X6_isWin : GoodIn wsX6_won (wsV RX6 269 RX6 yX6_isWin wsX6_isWin) := goodIn_app (goodIn_of _ (by decide +kernel)) ggX6_won_X6_isWin
theorem dX6_won_2 : decode cX6_won 2 = .ok (.invokevirtual 269, 3) := by decide +kernel
theorem dX6_won_5 : decode cX6_won 5 = .ok (.ifCond .eq 16, 3) := by decide +kernel
theorem dX6_won_21 : decode cX6_won 21 = .ok (.iconst (-1), 1) := by decide +kernel
theorem dX6_won_22 : decode cX6_won 22 = .ok (.ireturn, 1) := by decide +kernel
theorem dX6_forms_0 : decode cX6_forms 0 = .ok (.aload_n 0, 1) := by decide +kernel
theorem dX6_forms_1 : decode cX6_forms 1 = .ok (.iload_n 1, 1) := by decide +kernel
set_option maxRecDepth 20000 in
theorem ggX6_forms_X6_isWin : GoodIn wsX6_forms wsX6_isWin := goodIn_r _ [7, 8, 9, 10, 11, 12, 13, 14, 15, 16, 17, 18, 19, 20, 21, 22, 23, 24, 25, 26, 27] (by decide +kernel) (by decide +kernel)
set_option maxRecDepth 20000 in
theorem gX6_forms_X6_isWin : GoodIn wsX6_forms (wsV RX6 269 RX6 yX6_isWin wsX6_isWin) := goodIn_app (goodIn_of _ (by decide +kernel)) ggX6_forms_X6_isWin
theorem dX6_forms_2 : decode cX6_forms 2 = .ok (.invokevirtual 269, 3) := by decide +kernel
theorem dX6_forms_5 : decode cX6_forms 5 = .ok (.ifCond .eq 15, 3) := by decide +kernel
theorem dX6_forms_20 : decode cX6_forms 20 = .ok (.lconst 0, 1) := by decide +kernel
theorem dX6_forms_21 : decode cX6_forms 21 = .ok (.lreturn, 1) := by decide +kernel
theorem dX6_count_0 : decode cX6_count 0 = .ok (.iload_n 1, 1) := by decide +kernel
theorem dX6_count_1 : decode cX6_count 1 = .ok (.tableswitch 171 0 12 #[67, 72, 88, 93, 98, 103, 108, 116, 124, 132, 145, 150, 155], 67) := by decide +kernel
theorem dX6_count_172 : decode cX6_count 172 = .ok (.iconst (-1), 1) := by decide +kernel
theorem dX6_count_173 : decode cX6_count 173 = .ok (.ireturn, 1) := by decide +kernel
theorem dX6_count_68 : decode cX6_count 68 = .ok (.aload_n 0, 1) := by decide +kernel
theorem dX6_count_69 : decode cX6_count 69 = .ok (.getfield 45, 3) := by decide +kernel
theorem dX6_count_72 : decode cX6_count 72 = .ok (.ireturn, 1) := by decide +kernel
theorem dX6_count_73 : decode cX6_count 73 = .ok (.aload_n 0, 1) := by decide +kernel
theorem dX6_count_74 : decode cX6_count 74 = .ok (.getfield 45, 3) := by decide +kernel
theorem dX6_count_77 : decode cX6_count 77 = .ok (.ifCond .ne 7, 3) := by decide +kernel
theorem dX6_count_80 : decode cX6_count 80 = .ok (.iconst (-1), 1) := by decide +kernel
theorem dX6_count_81 : decode cX6_count 81 = .ok (.goto 7, 3) := by decide +kernel
theorem dX6_count_88 : decode cX6_count 88 = .ok (.ireturn, 1) := by decide +kernel
theorem dX6_count_89 : decode cX6_count 89 = .ok (.aload_n 0, 1) := by decide +kernel
theorem dX6_count_90 : decode cX6_count 90 = .ok (.getfield 62, 3) := by decide +kernel
theorem dX6_count_93 : decode cX6_count 93 = .ok (.ireturn, 1) := by decide +kernel
theorem dX6_count_94 : decode cX6_count 94 = .ok (.aload_n 0, 1) := by decide +kernel
theorem dX6_count_95 : decode cX6_count 95 = .ok (.getfield 278, 3) := by decide +kernel
theorem dX6_count_98 : decode cX6_count 98 = .ok (.ireturn, 1) := by decide +kernel
theorem dX6_count_99 : decode cX6_count 99 = .ok (.aload_n 0, 1) := by decide +kernel
theorem dX6_count_100 : decode cX6_count 100 = .ok (.getfield 200, 3) := by decide +kernel
theorem dX6_count_103 : decode cX6_count 103 = .ok (.ireturn, 1) := by decide +kernel
theorem dX6_count_104 : decode cX6_count 104 = .ok (.aload_n 0, 1) := by decide +kernel
theorem dX6_count_105 : decode cX6_count 105 = .ok (.getfield 191, 3) := by decide +kernel
theorem dX6_count_108 : decode cX6_count 108 = .ok (.ireturn, 1) := by decide +kernel
theorem dX6_count_109 : decode cX6_count 109 = .ok (.aload_n 0, 1) := by decide +kernel
theorem dX6_count_110 : decode cX6_count 110 = .ok (.getfield 18, 3) := by decide +kernel
set_option maxRecDepth 20000 in
theorem ggX6_count_X4_left : GoodIn wsX6_count wsX4_left := goodIn_r _ [17, 18, 19, 20, 44, 45, 46, 47] (by decide +kernel) (by decide +kernel)
set_option maxRecDepth 20000 in
theorem gX6_count_X4_left : GoodIn wsX6_count (wsV RX6 140 RX4 yX4_left wsX4_left) := goodIn_app (goodIn_of _ (by decide +kernel)) ggX6_count_X4_left
theorem dX6_count_113 : decode cX6_count 113 = .ok (.invokevirtual 140, 3) := by decide +kernel
theorem dX6_count_116 : decode cX6_count 116 = .ok (.ireturn, 1) := by decide +kernel
theorem dX6_count_117 : decode cX6_count 117 = .ok (.aload_n 0, 1) := by decide +kernel
theorem dX6_count_118 : decode cX6_count 118 = .ok (.getfield 18, 3) := by decide +kernel
theorem dX6_count_121 : decode cX6_count 121 = .ok (.getfield 175, 3) := by decide +kernel
theorem dX6_count_124 : decode cX6_count 124 = .ok (.ireturn, 1) := by decide +kernel
theorem dX6_count_125 : decode cX6_count 125 = .ok (.aload_n 0, 1) := by decide +kernel
theorem dX6_count_126 : decode cX6_count 126 = .ok (.getfield 18, 3) := by decide +kernel
set_option maxRecDepth 20000 in
theorem ggX6_count_X4_signs : GoodIn wsX6_count wsX4_signs := goodIn_r _ [24, 18, 19, 44, 45, 46, 47] (by decide +kernel) (by decide +kernel)
set_option maxRecDepth 20000 in
theorem gX6_count_X4_signs : GoodIn wsX6_count (wsV RX6 281 RX4 yX4_signs wsX4_signs) := goodIn_app (goodIn_of _ (by decide +kernel)) ggX6_count_X4_signs
theorem dX6_count_129 : decode cX6_count 129 = .ok (.invokevirtual 281, 3) := by decide +kernel
theorem dX6_count_132 : decode cX6_count 132 = .ok (.ireturn, 1) := by decide +kernel
theorem dX6_count_133 : decode cX6_count 133 = .ok (.aload_n 0, 1) := by decide +kernel
theorem dX6_count_134 : decode cX6_count 134 = .ok (.getfield 54, 3) := by decide +kernel
theorem dX6_count_137 : decode cX6_count 137 = .ok (.ifCond .eq 7, 3) := by decide +kernel
theorem dX6_count_144 : decode cX6_count 144 = .ok (.iconst 0, 1) := by decide +kernel
theorem dX6_count_145 : decode cX6_count 145 = .ok (.ireturn, 1) := by decide +kernel
theorem dX6_count_146 : decode cX6_count 146 = .ok (.aload_n 0, 1) := by decide +kernel
theorem dX6_count_147 : decode cX6_count 147 = .ok (.getfield 284, 3) := by decide +kernel
theorem dX6_count_150 : decode cX6_count 150 = .ok (.ireturn, 1) := by decide +kernel
theorem dX6_count_151 : decode cX6_count 151 = .ok (.aload_n 0, 1) := by decide +kernel
theorem dX6_count_152 : decode cX6_count 152 = .ok (.getfield 83, 3) := by decide +kernel
theorem dX6_count_155 : decode cX6_count 155 = .ok (.ireturn, 1) := by decide +kernel
theorem dX6_count_156 : decode cX6_count 156 = .ok (.aload_n 0, 1) := by decide +kernel
theorem dX6_count_157 : decode cX6_count 157 = .ok (.getfield 45, 3) := by decide +kernel
theorem dX6_count_160 : decode cX6_count 160 = .ok (.ifCond .ne 7, 3) := by decide +kernel
theorem dX6_count_163 : decode cX6_count 163 = .ok (.iconst (-1), 1) := by decide +kernel
theorem dX6_count_164 : decode cX6_count 164 = .ok (.goto 7, 3) := by decide +kernel
theorem dX6_count_171 : decode cX6_count 171 = .ok (.ireturn, 1) := by decide +kernel
theorem dX6_desk_0 : decode cX6_desk 0 = .ok (.iload_n 1, 1) := by decide +kernel
theorem dX6_desk_1 : decode cX6_desk 1 = .ok (.tableswitch 63 0 3 #[31, 39, 47, 55], 31) := by decide +kernel
theorem dX6_desk_64 : decode cX6_desk 64 = .ok (.iconst (-1), 1) := by decide +kernel
theorem dX6_desk_65 : decode cX6_desk 65 = .ok (.ireturn, 1) := by decide +kernel
theorem dX6_desk_32 : decode cX6_desk 32 = .ok (.aload_n 0, 1) := by decide +kernel
theorem dX6_desk_33 : decode cX6_desk 33 = .ok (.getfield 42, 3) := by decide +kernel
theorem dX6_desk_36 : decode cX6_desk 36 = .ok (.getfield 194, 3) := by decide +kernel
theorem dX6_desk_39 : decode cX6_desk 39 = .ok (.ireturn, 1) := by decide +kernel
theorem dX6_desk_40 : decode cX6_desk 40 = .ok (.aload_n 0, 1) := by decide +kernel
theorem dX6_desk_41 : decode cX6_desk 41 = .ok (.getfield 42, 3) := by decide +kernel
theorem dX6_desk_44 : decode cX6_desk 44 = .ok (.getfield 307, 3) := by decide +kernel
theorem dX6_desk_47 : decode cX6_desk 47 = .ok (.ireturn, 1) := by decide +kernel
theorem dX6_desk_48 : decode cX6_desk 48 = .ok (.aload_n 0, 1) := by decide +kernel
theorem dX6_desk_49 : decode cX6_desk 49 = .ok (.getfield 42, 3) := by decide +kernel
theorem dX6_desk_52 : decode cX6_desk 52 = .ok (.getfield 310, 3) := by decide +kernel
theorem dX6_desk_55 : decode cX6_desk 55 = .ok (.ireturn, 1) := by decide +kernel
theorem dX6_desk_56 : decode cX6_desk 56 = .ok (.aload_n 0, 1) := by decide +kernel
theorem dX6_desk_57 : decode cX6_desk 57 = .ok (.getfield 42, 3) := by decide +kernel
theorem dX6_desk_60 : decode cX6_desk 60 = .ok (.getfield 313, 3) := by decide +kernel
theorem dX6_desk_63 : decode cX6_desk 63 = .ok (.ireturn, 1) := by decide +kernel
theorem dX6_deskForms_0 : decode cX6_deskForms 0 = .ok (.aload_n 0, 1) := by decide +kernel
theorem dX6_deskForms_1 : decode cX6_deskForms 1 = .ok (.getfield 42, 3) := by decide +kernel
theorem dX6_deskForms_4 : decode cX6_deskForms 4 = .ok (.getfield 316, 3) := by decide +kernel
theorem dX6_deskForms_7 : decode cX6_deskForms 7 = .ok (.lreturn, 1) := by decide +kernel
theorem dX6_deskWaits_0 : decode cX6_deskWaits 0 = .ok (.aload_n 0, 1) := by decide +kernel
theorem dX6_deskWaits_1 : decode cX6_deskWaits 1 = .ok (.getfield 38, 3) := by decide +kernel
set_option maxRecDepth 20000 in
theorem ggX6_deskWaits_X3_waiting : GoodIn wsX6_deskWaits wsX3_waiting := goodIn_r _ [6, 7, 8, 9, 5, 10, 11, 12, 13, 14, 15, 16, 17, 18, 19, 20, 21, 22, 23, 24, 25, 26, 27, 28, 29, 30, 31, 32, 33, 34, 35, 36, 37, 38, 39, 40, 41, 42, 43, 44, 45, 46, 47, 48, 49, 50, 51, 52, 72, 73, 74, 75, 76, 77] (by decide +kernel) (by decide +kernel)
set_option maxRecDepth 20000 in
theorem gX6_deskWaits_X3_waiting : GoodIn wsX6_deskWaits (wsV RX6 222 RX3 yX3_waiting wsX3_waiting) := goodIn_app (goodIn_of _ (by decide +kernel)) ggX6_deskWaits_X3_waiting
theorem dX6_deskWaits_4 : decode cX6_deskWaits 4 = .ok (.invokevirtual 222, 3) := by decide +kernel
theorem dX6_deskWaits_7 : decode cX6_deskWaits 7 = .ok (.lreturn, 1) := by decide +kernel
theorem iX6_mayClaimSet_X6 : ∀ w ∈ u_ws RX6 TX6 19, w ∈ wsX6_mayClaimSet := by decide +kernel
set_option maxHeartbeats 4000000 in
set_option maxRecDepth 100000 in
theorem c_X6_mayClaimSet0 (l : Launch) (G : va_G) (k : Nat → ClassId) (h0 : Nat) (p0 : Int32) (x0 : Value) (x1 : Value) (x2 : Value) (x3 : Value) (x4 : Value) (x5 : Value) (x6 : Value) (x8 : Value) (x9 : Value) (x10 : Value) (x11 : Value) (x12 : Value) (x13 : Value) (x14 : Value) (x15 : Value) (x16 : Value) (x17 : Value) (x18 : Value) : Met l yX6_mayClaimSet wsX6_mayClaimSet ({ frames := 0, cells := 0, slots := 0, locals := 0 }) (va_Pc [.ref h0, .int p0] (pr G k [(h0, .inr (5, [x0, x1, x2, x3, x4, x5, x6, .int 0, x8, x9, x10, x11, x12, x13, x14, x15, x16, x17, x18]))])) (vp_Si (fun r => r = 0)) 0 0 (fun _ => False) := by
  refine Met.ofW (cc := cX6_mayClaimSet) (maxL := 2) (ret := (some .boolean)) (by decide) rfl ?_
  intro p e s m args below meth c s₁ B hml hv
  obtain ⟨rfl, hP, hK, hN⟩ := hv
  have hx := B.exec
  have hb := B.bytes
  have hr := B.returns
  have hts := atoms_spec (ws := wsX6_mayClaimSet) B.pre
  have hown : s.vm.findClass RX6 = some m.cls := findClass_of_methodNamed B.named
  have hlocks := B.notSynchronized
  have hl := lv_entry ([.ref h0, .int p0]) (n := 2) (Nat.le_of_ble_eq_true rfl)
  rw [lg_entry_eq]
  generalize (lg_sl ([.ref h0, .int p0]) ++ List.replicate (2 - (lg_sl ([.ref h0, .int p0])).length) Slot.unset).toArray = ls at hl ⊢
  have hl : lv_has ls 2 [(0, .ref h0), (1, .int p0)] := hl
  refine lv_aload_n hx hb dX6_mayClaimSet_0 rfl (lv_at hl 0 rfl) ?_
  refine va_get (D := G) (ci := 5) (v := .int 0) (C := RX6) (T := TX6) (N := 19) hx hb hts iX6_mayClaimSet_X6 hown hK hP 0 rfl rfl 7 (by decide) (hts (.fieldLink RX6 45 "TileHouse" "phase" "I") (by decide +kernel)) (fun _ h9 => h9) rfl dX6_mayClaimSet_1 ?_
  refine lv_iconst (v := 2) hx hb dX6_mayClaimSet_4 (by decide) ?_
  refine lv_icmp_ne (tgt := 55) hx hb dX6_mayClaimSet_5 (by decide) (fun _ => ?_) (fun c9 => absurd c9 (by decide))
  refine lv_iconst (v := 0) hx hb dX6_mayClaimSet_55 (by decide) ?_
  exact W.zret (v := 0) hx hb hr rfl (fun t ht hW => ⟨0, rfl, rfl, ht⟩) (fun _ h => by cases h) dX6_mayClaimSet_56
theorem iX6_mayMakeFour_X6 : ∀ w ∈ u_ws RX6 TX6 19, w ∈ wsX6_mayMakeFour := by decide +kernel
set_option maxHeartbeats 4000000 in
set_option maxRecDepth 100000 in
theorem c_X6_mayMakeFour0 (l : Launch) (G : va_G) (k : Nat → ClassId) (h0 : Nat) (x0 : Value) (x1 : Value) (x2 : Value) (x3 : Value) (x4 : Value) (x5 : Value) (x6 : Value) (x8 : Value) (x9 : Value) (x10 : Value) (x11 : Value) (x12 : Value) (x13 : Value) (x14 : Value) (x15 : Value) (x16 : Value) (x17 : Value) (x18 : Value) : Met l yX6_mayMakeFour wsX6_mayMakeFour ({ frames := 0, cells := 0, slots := 0, locals := 0 }) (va_Pc [.ref h0] (pr G k [(h0, .inr (5, [x0, x1, x2, x3, x4, x5, x6, .int 0, x8, x9, x10, x11, x12, x13, x14, x15, x16, x17, x18]))])) (vp_Si (fun r => r = 0)) 0 0 (fun _ => False) := by
  refine Met.ofW (cc := cX6_mayMakeFour) (maxL := 1) (ret := (some .boolean)) (by decide) rfl ?_
  intro p e s m args below meth c s₁ B hml hv
  obtain ⟨rfl, hP, hK, hN⟩ := hv
  have hx := B.exec
  have hb := B.bytes
  have hr := B.returns
  have hts := atoms_spec (ws := wsX6_mayMakeFour) B.pre
  have hown : s.vm.findClass RX6 = some m.cls := findClass_of_methodNamed B.named
  have hlocks := B.notSynchronized
  have hl := lv_entry ([.ref h0]) (n := 1) (Nat.le_of_ble_eq_true rfl)
  rw [lg_entry_eq]
  generalize (lg_sl ([.ref h0]) ++ List.replicate (1 - (lg_sl ([.ref h0])).length) Slot.unset).toArray = ls at hl ⊢
  have hl : lv_has ls 1 [(0, .ref h0)] := hl
  refine lv_aload_n hx hb dX6_mayMakeFour_0 rfl (lv_at hl 0 rfl) ?_
  refine va_get (D := G) (ci := 5) (v := .int 0) (C := RX6) (T := TX6) (N := 19) hx hb hts iX6_mayMakeFour_X6 hown hK hP 0 rfl rfl 7 (by decide) (hts (.fieldLink RX6 45 "TileHouse" "phase" "I") (by decide +kernel)) (fun _ h9 => h9) rfl dX6_mayMakeFour_1 ?_
  refine lv_iconst (v := 1) hx hb dX6_mayMakeFour_4 (by decide) ?_
  refine lv_icmp_ne (tgt := 55) hx hb dX6_mayMakeFour_5 (by decide) (fun _ => ?_) (fun c9 => absurd c9 (by decide))
  refine lv_iconst (v := 0) hx hb dX6_mayMakeFour_55 (by decide) ?_
  exact W.zret (v := 0) hx hb hr rfl (fun t ht hW => ⟨0, rfl, rfl, ht⟩) (fun _ h => by cases h) dX6_mayMakeFour_56
theorem iX6_discard_X6 : ∀ w ∈ u_ws RX6 TX6 19, w ∈ wsX6_discard := by decide +kernel
set_option maxHeartbeats 4000000 in
set_option maxRecDepth 100000 in
theorem c_X6_discard0 (l : Launch) (G : va_G) (k : Nat → ClassId) (h0 : Nat) (p0 : Int32) (p1 : Int32) (x0 : Value) (x1 : Value) (x2 : Value) (x3 : Value) (x4 : Value) (x5 : Value) (x6 : Value) (x8 : Value) (x9 : Value) (x10 : Value) (x11 : Value) (x12 : Value) (x13 : Value) (x14 : Value) (x15 : Value) (x16 : Value) (x17 : Value) (x18 : Value) : Met l yX6_discard wsX6_discard ({ frames := 0, cells := 0, slots := 0, locals := 0 }) (va_Pc [.ref h0, .int p0, .int p1] (pr G k [(h0, .inr (5, [x0, x1, x2, x3, x4, x5, x6, .int 0, x8, x9, x10, x11, x12, x13, x14, x15, x16, x17, x18]))])) (vp_Si (fun r => r = 0)) 0 0 (fun _ => False) := by
  refine Met.ofW (cc := cX6_discard) (maxL := 4) (ret := (some .boolean)) (by decide) rfl ?_
  intro p e s m args below meth c s₁ B hml hv
  obtain ⟨rfl, hP, hK, hN⟩ := hv
  have hx := B.exec
  have hb := B.bytes
  have hr := B.returns
  have hts := atoms_spec (ws := wsX6_discard) B.pre
  have hown : s.vm.findClass RX6 = some m.cls := findClass_of_methodNamed B.named
  have hlocks := B.notSynchronized
  have hl := lv_entry ([.ref h0, .int p0, .int p1]) (n := 4) (Nat.le_of_ble_eq_true rfl)
  rw [lg_entry_eq]
  generalize (lg_sl ([.ref h0, .int p0, .int p1]) ++ List.replicate (4 - (lg_sl ([.ref h0, .int p0, .int p1])).length) Slot.unset).toArray = ls at hl ⊢
  have hl : lv_has ls 4 [(0, .ref h0), (1, .int p0), (2, .int p1)] := hl
  refine lv_aload_n hx hb dX6_discard_0 rfl (lv_at hl 0 rfl) ?_
  refine va_get (D := G) (ci := 5) (v := .int 0) (C := RX6) (T := TX6) (N := 19) hx hb hts iX6_discard_X6 hown hK hP 0 rfl rfl 7 (by decide) (hts (.fieldLink RX6 45 "TileHouse" "phase" "I") (by decide +kernel)) (fun _ h9 => h9) rfl dX6_discard_1 ?_
  refine lv_iconst (v := 1) hx hb dX6_discard_4 (by decide) ?_
  refine lv_icmp_ne (tgt := 16) hx hb dX6_discard_5 (by decide) (fun _ => ?_) (fun c9 => absurd c9 (by decide))
  refine lv_iconst (v := 0) hx hb dX6_discard_16 (by decide) ?_
  exact W.zret (v := 0) hx hb hr rfl (fun t ht hW => ⟨0, rfl, rfl, ht⟩) (fun _ h => by cases h) dX6_discard_17
theorem iX6_pass_X6 : ∀ w ∈ u_ws RX6 TX6 19, w ∈ wsX6_pass := by decide +kernel
set_option maxHeartbeats 4000000 in
set_option maxRecDepth 100000 in
theorem c_X6_pass0 (l : Launch) (G : va_G) (k : Nat → ClassId) (h0 : Nat) (x0 : Value) (x1 : Value) (x2 : Value) (x3 : Value) (x4 : Value) (x5 : Value) (x6 : Value) (x8 : Value) (x9 : Value) (x10 : Value) (x11 : Value) (x12 : Value) (x13 : Value) (x14 : Value) (x15 : Value) (x16 : Value) (x17 : Value) (x18 : Value) : Met l yX6_pass wsX6_pass ({ frames := 0, cells := 0, slots := 0, locals := 0 }) (va_Pc [.ref h0] (pr G k [(h0, .inr (5, [x0, x1, x2, x3, x4, x5, x6, .int 0, x8, x9, x10, x11, x12, x13, x14, x15, x16, x17, x18]))])) (vp_Si (fun r => r = 0)) 0 0 (fun _ => False) := by
  refine Met.ofW (cc := cX6_pass) (maxL := 1) (ret := (some .boolean)) (by decide) rfl ?_
  intro p e s m args below meth c s₁ B hml hv
  obtain ⟨rfl, hP, hK, hN⟩ := hv
  have hx := B.exec
  have hb := B.bytes
  have hr := B.returns
  have hts := atoms_spec (ws := wsX6_pass) B.pre
  have hown : s.vm.findClass RX6 = some m.cls := findClass_of_methodNamed B.named
  have hlocks := B.notSynchronized
  have hl := lv_entry ([.ref h0]) (n := 1) (Nat.le_of_ble_eq_true rfl)
  rw [lg_entry_eq]
  generalize (lg_sl ([.ref h0]) ++ List.replicate (1 - (lg_sl ([.ref h0])).length) Slot.unset).toArray = ls at hl ⊢
  have hl : lv_has ls 1 [(0, .ref h0)] := hl
  refine lv_aload_n hx hb dX6_pass_0 rfl (lv_at hl 0 rfl) ?_
  refine va_get (D := G) (ci := 5) (v := .int 0) (C := RX6) (T := TX6) (N := 19) hx hb hts iX6_pass_X6 hown hK hP 0 rfl rfl 7 (by decide) (hts (.fieldLink RX6 45 "TileHouse" "phase" "I") (by decide +kernel)) (fun _ h9 => h9) rfl dX6_pass_1 ?_
  refine lv_iconst (v := 2) hx hb dX6_pass_4 (by decide) ?_
  refine lv_icmp_eq (tgt := 18) hx hb dX6_pass_5 (by decide) (fun c9 => absurd c9 (by decide)) (fun _ => ?_)
  refine lv_aload_n hx hb dX6_pass_8 rfl (lv_at hl 0 rfl) ?_
  refine va_get (D := G) (ci := 5) (v := .int 0) (C := RX6) (T := TX6) (N := 19) hx hb hts iX6_pass_X6 hown hK hP 0 rfl rfl 7 (by decide) (hts (.fieldLink RX6 45 "TileHouse" "phase" "I") (by decide +kernel)) (fun _ h9 => h9) rfl dX6_pass_9 ?_
  refine lv_iconst (v := 3) hx hb dX6_pass_12 (by decide) ?_
  refine lv_icmp_eq (tgt := 18) hx hb dX6_pass_13 (by decide) (fun c9 => absurd c9 (by decide)) (fun _ => ?_)
  refine lv_iconst (v := 0) hx hb dX6_pass_16 (by decide) ?_
  exact W.zret (v := 0) hx hb hr rfl (fun t ht hW => ⟨0, rfl, rfl, ht⟩) (fun _ h => by cases h) dX6_pass_17
set_option maxHeartbeats 4000000 in
set_option maxRecDepth 100000 in
theorem c_X6_run0 (l : Launch) (G : va_G) (k : Nat → ClassId) (h0 : Nat) (p0 : Int32) (p1 : Int32) (x0 : Value) (x1 : Value) (x2 : Value) (x3 : Value) (x4 : Value) (x5 : Value) (x6 : Value) (x8 : Value) (x9 : Value) (x10 : Value) (x11 : Value) (x12 : Value) (x13 : Value) (x14 : Value) (x15 : Value) (x16 : Value) (x17 : Value) (x18 : Value) : Met l yX6_run wsX6_run ({ frames := 1, cells := 0, slots := 0, locals := 21 }) (va_Pc [.ref h0, .int p0, .int p1] (pr G k [(h0, .inr (5, [x0, x1, x2, x3, x4, x5, x6, .int 0, x8, x9, x10, x11, x12, x13, x14, x15, x16, x17, x18]))])) (vp_Si (fun r => r = 0)) 0 0 (fun _ => False) := by
  refine Met.ofW (cc := cX6_run) (maxL := 6) (ret := (some .boolean)) (by decide) rfl ?_
  intro p e s m args below meth c s₁ B hml hv
  obtain ⟨rfl, hP, hK, hN⟩ := hv
  have hx := B.exec
  have hb := B.bytes
  have hr := B.returns
  have hts := atoms_spec (ws := wsX6_run) B.pre
  have hown : s.vm.findClass RX6 = some m.cls := findClass_of_methodNamed B.named
  have hlocks := B.notSynchronized
  have hl := lv_entry ([.ref h0, .int p0, .int p1]) (n := 6) (Nat.le_of_ble_eq_true rfl)
  rw [lg_entry_eq]
  generalize (lg_sl ([.ref h0, .int p0, .int p1]) ++ List.replicate (6 - (lg_sl ([.ref h0, .int p0, .int p1])).length) Slot.unset).toArray = ls at hl ⊢
  have hl : lv_has ls 6 [(0, .ref h0), (1, .int p0), (2, .int p1)] := hl
  refine lv_aload_n hx hb dX6_run_0 rfl (lv_at hl 0 rfl) ?_
  refine lv_iload_n hx hb dX6_run_1 rfl (lv_at hl 1 rfl) ?_
  have hPc := hP.sub (ws' := [(h0, .inr (5, [x0, x1, x2, x3, x4, x5, x6, .int 0, x8, x9, x10, x11, x12, x13, x14, x15, x16, x17, x18]))]) [0] rfl
  refine q_calli (va_runV (As := [.int p0]) (rest := []) ⟨hx, hb, hml, hown, hts⟩ (c_X6_mayClaimSet0 l G k h0 p0 (x0) (x1) (x2) (x3) (x4) (x5) (x6) (x8) (x9) (x10) (x11) (x12) (x13) (x14) (x15) (x16) (x17) (x18)) (cwV 1 hts gX6_run_X6_mayClaimSet rfl rfl rfl (by decide +kernel) ⟨Nat.le_of_ble_eq_true rfl, Nat.le_of_ble_eq_true rfl⟩) ⟨pr_bl, va_recv hK hPc (ci := 5) (q0 := 0) rfl rfl, pr_pre hPc hK hN⟩ rfl rfl hl.1 rfl (lv_room (Nat.le_of_ble_eq_true rfl)) dX6_run_2 ⟨Nat.le_of_ble_eq_true rfl, Nat.le_of_ble_eq_true rfl⟩) (fun r1 hr1 => ?_)
  obtain rfl : r1 = 0 := hr1
  refine lv_if_eq (tgt := 27) hx hb dX6_run_5 (by decide) (fun _ => ?_) (fun c9 => absurd (by decide) c9)
  refine lv_iconst (v := 0) hx hb dX6_run_27 (by decide) ?_
  exact W.zret (v := 0) hx hb hr rfl (fun t ht hW => ⟨0, rfl, rfl, ht⟩) (fun _ h => by cases h) dX6_run_28
set_option maxHeartbeats 4000000 in
set_option maxRecDepth 100000 in
theorem c_X6_three0 (l : Launch) (G : va_G) (k : Nat → ClassId) (h0 : Nat) (p0 : Int32) (x0 : Value) (x1 : Value) (x2 : Value) (x3 : Value) (x4 : Value) (x5 : Value) (x6 : Value) (x8 : Value) (x9 : Value) (x10 : Value) (x11 : Value) (x12 : Value) (x13 : Value) (x14 : Value) (x15 : Value) (x16 : Value) (x17 : Value) (x18 : Value) : Met l yX6_three wsX6_three ({ frames := 1, cells := 0, slots := 0, locals := 21 }) (va_Pc [.ref h0, .int p0] (pr G k [(h0, .inr (5, [x0, x1, x2, x3, x4, x5, x6, .int 0, x8, x9, x10, x11, x12, x13, x14, x15, x16, x17, x18]))])) (vp_Si (fun r => r = 0)) 0 0 (fun _ => False) := by
  refine Met.ofW (cc := cX6_three) (maxL := 4) (ret := (some .boolean)) (by decide) rfl ?_
  intro p e s m args below meth c s₁ B hml hv
  obtain ⟨rfl, hP, hK, hN⟩ := hv
  have hx := B.exec
  have hb := B.bytes
  have hr := B.returns
  have hts := atoms_spec (ws := wsX6_three) B.pre
  have hown : s.vm.findClass RX6 = some m.cls := findClass_of_methodNamed B.named
  have hlocks := B.notSynchronized
  have hl := lv_entry ([.ref h0, .int p0]) (n := 4) (Nat.le_of_ble_eq_true rfl)
  rw [lg_entry_eq]
  generalize (lg_sl ([.ref h0, .int p0]) ++ List.replicate (4 - (lg_sl ([.ref h0, .int p0])).length) Slot.unset).toArray = ls at hl ⊢
  have hl : lv_has ls 4 [(0, .ref h0), (1, .int p0)] := hl
  refine lv_aload_n hx hb dX6_three_0 rfl (lv_at hl 0 rfl) ?_
  refine lv_iload_n hx hb dX6_three_1 rfl (lv_at hl 1 rfl) ?_
  have hPc := hP.sub (ws' := [(h0, .inr (5, [x0, x1, x2, x3, x4, x5, x6, .int 0, x8, x9, x10, x11, x12, x13, x14, x15, x16, x17, x18]))]) [0] rfl
  refine q_calli (va_runV (As := [.int p0]) (rest := []) ⟨hx, hb, hml, hown, hts⟩ (c_X6_mayClaimSet0 l G k h0 p0 (x0) (x1) (x2) (x3) (x4) (x5) (x6) (x8) (x9) (x10) (x11) (x12) (x13) (x14) (x15) (x16) (x17) (x18)) (cwV 1 hts gX6_three_X6_mayClaimSet rfl rfl rfl (by decide +kernel) ⟨Nat.le_of_ble_eq_true rfl, Nat.le_of_ble_eq_true rfl⟩) ⟨pr_bl, va_recv hK hPc (ci := 5) (q0 := 0) rfl rfl, pr_pre hPc hK hN⟩ rfl rfl hl.1 rfl (lv_room (Nat.le_of_ble_eq_true rfl)) dX6_three_2 ⟨Nat.le_of_ble_eq_true rfl, Nat.le_of_ble_eq_true rfl⟩) (fun r1 hr1 => ?_)
  obtain rfl : r1 = 0 := hr1
  refine lv_if_eq (tgt := 27) hx hb dX6_three_5 (by decide) (fun _ => ?_) (fun c9 => absurd (by decide) c9)
  refine lv_iconst (v := 0) hx hb dX6_three_27 (by decide) ?_
  exact W.zret (v := 0) hx hb hr rfl (fun t ht hW => ⟨0, rfl, rfl, ht⟩) (fun _ h => by cases h) dX6_three_28
set_option maxHeartbeats 4000000 in
set_option maxRecDepth 100000 in
theorem c_X6_four0 (l : Launch) (G : va_G) (k : Nat → ClassId) (h0 : Nat) (p0 : Int32) (x0 : Value) (x1 : Value) (x2 : Value) (x3 : Value) (x4 : Value) (x5 : Value) (x6 : Value) (x8 : Value) (x9 : Value) (x10 : Value) (x11 : Value) (x12 : Value) (x13 : Value) (x14 : Value) (x15 : Value) (x16 : Value) (x17 : Value) (x18 : Value) : Met l yX6_four wsX6_four ({ frames := 1, cells := 0, slots := 0, locals := 21 }) (va_Pc [.ref h0, .int p0] (pr G k [(h0, .inr (5, [x0, x1, x2, x3, x4, x5, x6, .int 0, x8, x9, x10, x11, x12, x13, x14, x15, x16, x17, x18]))])) (vp_Si (fun r => r = 0)) 0 0 (fun _ => False) := by
  refine Met.ofW (cc := cX6_four) (maxL := 2) (ret := (some .boolean)) (by decide) rfl ?_
  intro p e s m args below meth c s₁ B hml hv
  obtain ⟨rfl, hP, hK, hN⟩ := hv
  have hx := B.exec
  have hb := B.bytes
  have hr := B.returns
  have hts := atoms_spec (ws := wsX6_four) B.pre
  have hown : s.vm.findClass RX6 = some m.cls := findClass_of_methodNamed B.named
  have hlocks := B.notSynchronized
  have hl := lv_entry ([.ref h0, .int p0]) (n := 2) (Nat.le_of_ble_eq_true rfl)
  rw [lg_entry_eq]
  generalize (lg_sl ([.ref h0, .int p0]) ++ List.replicate (2 - (lg_sl ([.ref h0, .int p0])).length) Slot.unset).toArray = ls at hl ⊢
  have hl : lv_has ls 2 [(0, .ref h0), (1, .int p0)] := hl
  refine lv_aload_n hx hb dX6_four_0 rfl (lv_at hl 0 rfl) ?_
  refine lv_iload_n hx hb dX6_four_1 rfl (lv_at hl 1 rfl) ?_
  have hPc := hP.sub (ws' := [(h0, .inr (5, [x0, x1, x2, x3, x4, x5, x6, .int 0, x8, x9, x10, x11, x12, x13, x14, x15, x16, x17, x18]))]) [0] rfl
  refine q_calli (va_runV (As := [.int p0]) (rest := []) ⟨hx, hb, hml, hown, hts⟩ (c_X6_mayClaimSet0 l G k h0 p0 (x0) (x1) (x2) (x3) (x4) (x5) (x6) (x8) (x9) (x10) (x11) (x12) (x13) (x14) (x15) (x16) (x17) (x18)) (cwV 1 hts gX6_four_X6_mayClaimSet rfl rfl rfl (by decide +kernel) ⟨Nat.le_of_ble_eq_true rfl, Nat.le_of_ble_eq_true rfl⟩) ⟨pr_bl, va_recv hK hPc (ci := 5) (q0 := 0) rfl rfl, pr_pre hPc hK hN⟩ rfl rfl hl.1 rfl (lv_room (Nat.le_of_ble_eq_true rfl)) dX6_four_2 ⟨Nat.le_of_ble_eq_true rfl, Nat.le_of_ble_eq_true rfl⟩) (fun r1 hr1 => ?_)
  obtain rfl : r1 = 0 := hr1
  refine lv_if_eq (tgt := 38) hx hb dX6_four_5 (by decide) (fun _ => ?_) (fun c9 => absurd (by decide) c9)
  refine lv_iconst (v := 0) hx hb dX6_four_38 (by decide) ?_
  exact W.zret (v := 0) hx hb hr rfl (fun t ht hW => ⟨0, rfl, rfl, ht⟩) (fun _ h => by cases h) dX6_four_39
set_option maxHeartbeats 4000000 in
set_option maxRecDepth 100000 in
theorem c_X6_hide0 (l : Launch) (G : va_G) (k : Nat → ClassId) (h0 : Nat) (p0 : Int32) (x0 : Value) (x1 : Value) (x2 : Value) (x3 : Value) (x4 : Value) (x5 : Value) (x6 : Value) (x8 : Value) (x9 : Value) (x10 : Value) (x11 : Value) (x12 : Value) (x13 : Value) (x14 : Value) (x15 : Value) (x16 : Value) (x17 : Value) (x18 : Value) : Met l yX6_hide wsX6_hide ({ frames := 1, cells := 0, slots := 0, locals := 20 }) (va_Pc [.ref h0, .int p0] (pr G k [(h0, .inr (5, [x0, x1, x2, x3, x4, x5, x6, .int 0, x8, x9, x10, x11, x12, x13, x14, x15, x16, x17, x18]))])) (vp_Si (fun r => r = 0)) 0 0 (fun _ => False) := by
  refine Met.ofW (cc := cX6_hide) (maxL := 2) (ret := (some .boolean)) (by decide) rfl ?_
  intro p e s m args below meth c s₁ B hml hv
  obtain ⟨rfl, hP, hK, hN⟩ := hv
  have hx := B.exec
  have hb := B.bytes
  have hr := B.returns
  have hts := atoms_spec (ws := wsX6_hide) B.pre
  have hown : s.vm.findClass RX6 = some m.cls := findClass_of_methodNamed B.named
  have hlocks := B.notSynchronized
  have hl := lv_entry ([.ref h0, .int p0]) (n := 2) (Nat.le_of_ble_eq_true rfl)
  rw [lg_entry_eq]
  generalize (lg_sl ([.ref h0, .int p0]) ++ List.replicate (2 - (lg_sl ([.ref h0, .int p0])).length) Slot.unset).toArray = ls at hl ⊢
  have hl : lv_has ls 2 [(0, .ref h0), (1, .int p0)] := hl
  refine lv_aload_n hx hb dX6_hide_0 rfl (lv_at hl 0 rfl) ?_
  have hPc := hP.sub (ws' := [(h0, .inr (5, [x0, x1, x2, x3, x4, x5, x6, .int 0, x8, x9, x10, x11, x12, x13, x14, x15, x16, x17, x18]))]) [0] rfl
  refine q_calli (va_runV (As := []) (rest := []) ⟨hx, hb, hml, hown, hts⟩ (c_X6_mayMakeFour0 l G k h0 (x0) (x1) (x2) (x3) (x4) (x5) (x6) (x8) (x9) (x10) (x11) (x12) (x13) (x14) (x15) (x16) (x17) (x18)) (cwV 0 hts gX6_hide_X6_mayMakeFour rfl rfl rfl (by decide +kernel) ⟨Nat.le_of_ble_eq_true rfl, Nat.le_of_ble_eq_true rfl⟩) ⟨pr_bl, va_recv hK hPc (ci := 5) (q0 := 0) rfl rfl, pr_pre hPc hK hN⟩ rfl rfl hl.1 rfl (lv_room (Nat.le_of_ble_eq_true rfl)) dX6_hide_1 ⟨Nat.le_of_ble_eq_true rfl, Nat.le_of_ble_eq_true rfl⟩) (fun r1 hr1 => ?_)
  obtain rfl : r1 = 0 := hr1
  refine lv_if_eq (tgt := 26) hx hb dX6_hide_4 (by decide) (fun _ => ?_) (fun c9 => absurd (by decide) c9)
  refine lv_iconst (v := 0) hx hb dX6_hide_26 (by decide) ?_
  exact W.zret (v := 0) hx hb hr rfl (fun t ht hW => ⟨0, rfl, rfl, ht⟩) (fun _ h => by cases h) dX6_hide_27
set_option maxHeartbeats 4000000 in
set_option maxRecDepth 100000 in
theorem c_X6_add0 (l : Launch) (G : va_G) (k : Nat → ClassId) (h0 : Nat) (p0 : Int32) (x0 : Value) (x1 : Value) (x2 : Value) (x3 : Value) (x4 : Value) (x5 : Value) (x6 : Value) (x8 : Value) (x9 : Value) (x10 : Value) (x11 : Value) (x12 : Value) (x13 : Value) (x14 : Value) (x15 : Value) (x16 : Value) (x17 : Value) (x18 : Value) : Met l yX6_add wsX6_add ({ frames := 1, cells := 0, slots := 0, locals := 20 }) (va_Pc [.ref h0, .int p0] (pr G k [(h0, .inr (5, [x0, x1, x2, x3, x4, x5, x6, .int 0, x8, x9, x10, x11, x12, x13, x14, x15, x16, x17, x18]))])) (vp_Si (fun r => r = 0)) 0 0 (fun _ => False) := by
  refine Met.ofW (cc := cX6_add) (maxL := 2) (ret := (some .boolean)) (by decide) rfl ?_
  intro p e s m args below meth c s₁ B hml hv
  obtain ⟨rfl, hP, hK, hN⟩ := hv
  have hx := B.exec
  have hb := B.bytes
  have hr := B.returns
  have hts := atoms_spec (ws := wsX6_add) B.pre
  have hown : s.vm.findClass RX6 = some m.cls := findClass_of_methodNamed B.named
  have hlocks := B.notSynchronized
  have hl := lv_entry ([.ref h0, .int p0]) (n := 2) (Nat.le_of_ble_eq_true rfl)
  rw [lg_entry_eq]
  generalize (lg_sl ([.ref h0, .int p0]) ++ List.replicate (2 - (lg_sl ([.ref h0, .int p0])).length) Slot.unset).toArray = ls at hl ⊢
  have hl : lv_has ls 2 [(0, .ref h0), (1, .int p0)] := hl
  refine lv_aload_n hx hb dX6_add_0 rfl (lv_at hl 0 rfl) ?_
  have hPc := hP.sub (ws' := [(h0, .inr (5, [x0, x1, x2, x3, x4, x5, x6, .int 0, x8, x9, x10, x11, x12, x13, x14, x15, x16, x17, x18]))]) [0] rfl
  refine q_calli (va_runV (As := []) (rest := []) ⟨hx, hb, hml, hown, hts⟩ (c_X6_mayMakeFour0 l G k h0 (x0) (x1) (x2) (x3) (x4) (x5) (x6) (x8) (x9) (x10) (x11) (x12) (x13) (x14) (x15) (x16) (x17) (x18)) (cwV 0 hts gX6_add_X6_mayMakeFour rfl rfl rfl (by decide +kernel) ⟨Nat.le_of_ble_eq_true rfl, Nat.le_of_ble_eq_true rfl⟩) ⟨pr_bl, va_recv hK hPc (ci := 5) (q0 := 0) rfl rfl, pr_pre hPc hK hN⟩ rfl rfl hl.1 rfl (lv_room (Nat.le_of_ble_eq_true rfl)) dX6_add_1 ⟨Nat.le_of_ble_eq_true rfl, Nat.le_of_ble_eq_true rfl⟩) (fun r1 hr1 => ?_)
  obtain rfl : r1 = 0 := hr1
  refine lv_if_eq (tgt := 25) hx hb dX6_add_4 (by decide) (fun _ => ?_) (fun c9 => absurd (by decide) c9)
  refine lv_iconst (v := 0) hx hb dX6_add_25 (by decide) ?_
  exact W.zret (v := 0) hx hb hr rfl (fun t ht hW => ⟨0, rfl, rfl, ht⟩) (fun _ h => by cases h) dX6_add_26
theorem iX6_win_X6 : ∀ w ∈ u_ws RX6 TX6 19, w ∈ wsX6_win := by decide +kernel
set_option maxHeartbeats 4000000 in
set_option maxRecDepth 100000 in
theorem c_X6_win0 (l : Launch) (G : va_G) (k : Nat → ClassId) (h0 : Nat) (x0 : Value) (x1 : Value) (x2 : Value) (x3 : Value) (x4 : Value) (x5 : Value) (x6 : Value) (x8 : Value) (x9 : Value) (x10 : Value) (x11 : Value) (x12 : Value) (x13 : Value) (x14 : Value) (x15 : Value) (x16 : Value) (x17 : Value) (x18 : Value) : Met l yX6_win wsX6_win ({ frames := 0, cells := 0, slots := 0, locals := 0 }) (va_Pc [.ref h0] (pr G k [(h0, .inr (5, [x0, x1, x2, x3, x4, x5, x6, .int 0, x8, x9, x10, x11, x12, x13, x14, x15, x16, x17, x18]))])) (vp_Si (fun r => r = 0)) 0 0 (fun _ => False) := by
  refine Met.ofW (cc := cX6_win) (maxL := 6) (ret := (some .boolean)) (by decide) rfl ?_
  intro p e s m args below meth c s₁ B hml hv
  obtain ⟨rfl, hP, hK, hN⟩ := hv
  have hx := B.exec
  have hb := B.bytes
  have hr := B.returns
  have hts := atoms_spec (ws := wsX6_win) B.pre
  have hown : s.vm.findClass RX6 = some m.cls := findClass_of_methodNamed B.named
  have hlocks := B.notSynchronized
  have hl := lv_entry ([.ref h0]) (n := 6) (Nat.le_of_ble_eq_true rfl)
  rw [lg_entry_eq]
  generalize (lg_sl ([.ref h0]) ++ List.replicate (6 - (lg_sl ([.ref h0])).length) Slot.unset).toArray = ls at hl ⊢
  have hl : lv_has ls 6 [(0, .ref h0)] := hl
  refine lv_aload_n hx hb dX6_win_0 rfl (lv_at hl 0 rfl) ?_
  refine va_get (D := G) (ci := 5) (v := .int 0) (C := RX6) (T := TX6) (N := 19) hx hb hts iX6_win_X6 hown hK hP 0 rfl rfl 7 (by decide) (hts (.fieldLink RX6 45 "TileHouse" "phase" "I") (by decide +kernel)) (fun _ h9 => h9) rfl dX6_win_1 ?_
  refine lv_iconst (v := 1) hx hb dX6_win_4 (by decide) ?_
  refine lv_icmp_ne (tgt := 28) hx hb dX6_win_5 (by decide) (fun _ => ?_) (fun c9 => absurd c9 (by decide))
  refine lv_iconst (v := 0) hx hb dX6_win_28 (by decide) ?_
  exact W.zret (v := 0) hx hb hr rfl (fun t ht hW => ⟨0, rfl, rfl, ht⟩) (fun _ h => by cases h) dX6_win_29
theorem iX6_claim_X6 : ∀ w ∈ u_ws RX6 TX6 19, w ∈ wsX6_claim := by decide +kernel
set_option maxHeartbeats 4000000 in
set_option maxRecDepth 100000 in
theorem c_X6_claim0 (l : Launch) (G : va_G) (k : Nat → ClassId) (h0 : Nat) (p0 : Int32) (x0 : Value) (x1 : Value) (x2 : Value) (x3 : Value) (x4 : Value) (x5 : Value) (x6 : Value) (x8 : Value) (x9 : Value) (x10 : Value) (x11 : Value) (x12 : Value) (x13 : Value) (x14 : Value) (x15 : Value) (x16 : Value) (x17 : Value) (x18 : Value) : Met l yX6_claim wsX6_claim ({ frames := 0, cells := 0, slots := 0, locals := 0 }) (va_Pc [.ref h0, .int p0] (pr G k [(h0, .inr (5, [x0, x1, x2, x3, x4, x5, x6, .int 0, x8, x9, x10, x11, x12, x13, x14, x15, x16, x17, x18]))])) (vp_Si (fun r => r = 0)) 0 0 (fun _ => False) := by
  refine Met.ofW (cc := cX6_claim) (maxL := 5) (ret := (some .boolean)) (by decide) rfl ?_
  intro p e s m args below meth c s₁ B hml hv
  obtain ⟨rfl, hP, hK, hN⟩ := hv
  have hx := B.exec
  have hb := B.bytes
  have hr := B.returns
  have hts := atoms_spec (ws := wsX6_claim) B.pre
  have hown : s.vm.findClass RX6 = some m.cls := findClass_of_methodNamed B.named
  have hlocks := B.notSynchronized
  have hl := lv_entry ([.ref h0, .int p0]) (n := 5) (Nat.le_of_ble_eq_true rfl)
  rw [lg_entry_eq]
  generalize (lg_sl ([.ref h0, .int p0]) ++ List.replicate (5 - (lg_sl ([.ref h0, .int p0])).length) Slot.unset).toArray = ls at hl ⊢
  have hl : lv_has ls 5 [(0, .ref h0), (1, .int p0)] := hl
  refine lv_aload_n hx hb dX6_claim_0 rfl (lv_at hl 0 rfl) ?_
  refine va_get (D := G) (ci := 5) (v := .int 0) (C := RX6) (T := TX6) (N := 19) hx hb hts iX6_claim_X6 hown hK hP 0 rfl rfl 7 (by decide) (hts (.fieldLink RX6 45 "TileHouse" "phase" "I") (by decide +kernel)) (fun _ h9 => h9) rfl dX6_claim_1 ?_
  refine lv_iconst (v := 2) hx hb dX6_claim_4 (by decide) ?_
  refine lv_icmp_eq (tgt := 16) hx hb dX6_claim_5 (by decide) (fun c9 => absurd c9 (by decide)) (fun _ => ?_)
  refine lv_aload_n hx hb dX6_claim_8 rfl (lv_at hl 0 rfl) ?_
  refine va_get (D := G) (ci := 5) (v := .int 0) (C := RX6) (T := TX6) (N := 19) hx hb hts iX6_claim_X6 hown hK hP 0 rfl rfl 7 (by decide) (hts (.fieldLink RX6 45 "TileHouse" "phase" "I") (by decide +kernel)) (fun _ h9 => h9) rfl dX6_claim_9 ?_
  refine lv_iconst (v := 3) hx hb dX6_claim_12 (by decide) ?_
  refine lv_icmp_ne (tgt := 31) hx hb dX6_claim_13 (by decide) (fun _ => ?_) (fun c9 => absurd c9 (by decide))
  refine lv_iconst (v := 0) hx hb dX6_claim_31 (by decide) ?_
  exact W.zret (v := 0) hx hb hr rfl (fun t ht hW => ⟨0, rfl, rfl, ht⟩) (fun _ h => by cases h) dX6_claim_32
theorem iX6_nine_X6 : ∀ w ∈ u_ws RX6 TX6 19, w ∈ wsX6_nine := by decide +kernel
set_option maxHeartbeats 4000000 in
set_option maxRecDepth 100000 in
theorem c_X6_nine0 (l : Launch) (G : va_G) (k : Nat → ClassId) (h0 : Nat) (x0 : Value) (x1 : Value) (x2 : Value) (x3 : Value) (x4 : Value) (x5 : Value) (x6 : Value) (x8 : Value) (x9 : Value) (x10 : Value) (x11 : Value) (x12 : Value) (x13 : Value) (x14 : Value) (x15 : Value) (x16 : Value) (x17 : Value) (x18 : Value) : Met l yX6_nine wsX6_nine ({ frames := 0, cells := 0, slots := 0, locals := 0 }) (va_Pc [.ref h0] (pr G k [(h0, .inr (5, [x0, x1, x2, x3, x4, x5, x6, .int 0, x8, x9, x10, x11, x12, x13, x14, x15, x16, x17, x18]))])) (vp_Si (fun r => r = 0)) 0 0 (fun _ => False) := by
  refine Met.ofW (cc := cX6_nine) (maxL := 1) (ret := (some .boolean)) (by decide) rfl ?_
  intro p e s m args below meth c s₁ B hml hv
  obtain ⟨rfl, hP, hK, hN⟩ := hv
  have hx := B.exec
  have hb := B.bytes
  have hr := B.returns
  have hts := atoms_spec (ws := wsX6_nine) B.pre
  have hown : s.vm.findClass RX6 = some m.cls := findClass_of_methodNamed B.named
  have hlocks := B.notSynchronized
  have hl := lv_entry ([.ref h0]) (n := 1) (Nat.le_of_ble_eq_true rfl)
  rw [lg_entry_eq]
  generalize (lg_sl ([.ref h0]) ++ List.replicate (1 - (lg_sl ([.ref h0])).length) Slot.unset).toArray = ls at hl ⊢
  have hl : lv_has ls 1 [(0, .ref h0)] := hl
  refine lv_aload_n hx hb dX6_nine_0 rfl (lv_at hl 0 rfl) ?_
  refine va_get (D := G) (ci := 5) (v := .int 0) (C := RX6) (T := TX6) (N := 19) hx hb hts iX6_nine_X6 hown hK hP 0 rfl rfl 7 (by decide) (hts (.fieldLink RX6 45 "TileHouse" "phase" "I") (by decide +kernel)) (fun _ h9 => h9) rfl dX6_nine_1 ?_
  refine lv_iconst (v := 1) hx hb dX6_nine_4 (by decide) ?_
  refine lv_icmp_ne (tgt := 29) hx hb dX6_nine_5 (by decide) (fun _ => ?_) (fun c9 => absurd c9 (by decide))
  refine lv_iconst (v := 0) hx hb dX6_nine_29 (by decide) ?_
  exact W.zret (v := 0) hx hb hr rfl (fun t ht hW => ⟨0, rfl, rfl, ht⟩) (fun _ h => by cases h) dX6_nine_30
theorem iX6_hand_X2 : ∀ w ∈ u_ws RX2 TX2 10, w ∈ wsX6_hand := by decide +kernel
set_option maxHeartbeats 4000000 in
set_option maxRecDepth 100000 in
theorem c_X6_hand0 (l : Launch) (G : va_G) (k : Nat → ClassId) (h0 : Nat) (pl : Nat) (f : Nat → Option Nat) (sa : Nat → Nat) (hf : ∀ j, j < 4 → f j = some (sa j)) (s0 : Nat) (t0 : Nat) (fr : Nat) (p0 : Int32) (p1 : Int32) (hs : vp_in p0 4 → sa (p0 &&& 3).toNatClampNeg = s0) (x1 : Value) (x2 : Value) (x3 : Value) (x4 : Value) (x5 : Value) (x6 : Value) (x7 : Value) (x8 : Value) (x9 : Value) (x10 : Value) (x11 : Value) (x12 : Value) (x13 : Value) (x14 : Value) (x15 : Value) (x16 : Value) (x17 : Value) (x18 : Value) (y1 : Value) (y2 : Value) (y3 : Value) (y4 : Value) (y5 : Value) (y6 : Value) (y7 : Value) (y8 : Value) (y9 : Value) (z1 : Value) (z2 : Value) (z3 : Value) (z4 : Value) (z5 : Value) : Met l yX6_hand wsX6_hand ({ frames := 2, cells := 0, slots := 0, locals := 41 }) (va_Pc [.ref h0, .int p0, .int p1] (pr G k [(h0, .inr (5, [.ref pl, x1, x2, x3, x4, x5, x6, x7, x8, x9, x10, x11, x12, x13, x14, x15, x16, x17, x18])), (pl, .inl (k 3, 4, .inr (.inr (.inr (.inr f))))), (s0, .inr (1, [.ref t0, y1, y2, y3, y4, y5, y6, y7, y8, y9])), (t0, .inr (2, [.ref fr, z1, z2, z3, z4, z5])), (fr, .inl (k 0, 34, .inl (fun _ => 0)))])) (vp_Si (fun r => r = 0)) 0 0 (fun _ => False) := by
  refine Met.ofW (cc := cX6_hand) (maxL := 3) (ret := (some .int)) (by decide) rfl ?_
  intro p e s m args below meth c s₁ B hml hv
  obtain ⟨rfl, hP, hK, hN⟩ := hv
  have hx := B.exec
  have hb := B.bytes
  have hr := B.returns
  have hts := atoms_spec (ws := wsX6_hand) B.pre
  have hown : s.vm.findClass RX6 = some m.cls := findClass_of_methodNamed B.named
  have hlocks := B.notSynchronized
  have hl := lv_entry ([.ref h0, .int p0, .int p1]) (n := 3) (Nat.le_of_ble_eq_true rfl)
  rw [lg_entry_eq]
  generalize (lg_sl ([.ref h0, .int p0, .int p1]) ++ List.replicate (3 - (lg_sl ([.ref h0, .int p0, .int p1])).length) Slot.unset).toArray = ls at hl ⊢
  have hl : lv_has ls 3 [(0, .ref h0), (1, .int p0), (2, .int p1)] := hl
  refine lv_iload_n hx hb dX6_hand_0 rfl (lv_at hl 1 rfl) ?_
  have hPc := hP.sub (ws' := []) [] rfl
  refine q_calli (va_runS (As := [.int p0]) (rest := []) ⟨hx, hb, hml, hown, hts⟩ (c_X6_isSeat l G k p0) (cwS 1 hts gX6_hand_X6_isSeat rfl rfl rfl (by decide +kernel) ⟨Nat.le_of_ble_eq_true rfl, Nat.le_of_ble_eq_true rfl⟩) ⟨pr_bl, pr_pre hPc hK hN⟩ rfl rfl hl.1 rfl (lv_room (Nat.le_of_ble_eq_true rfl)) dX6_hand_1 ⟨Nat.le_of_ble_eq_true rfl, Nat.le_of_ble_eq_true rfl⟩) (fun r1 hr1 => ?_)
  rcases hr1 with ⟨rfl, h2⟩ | ⟨rfl, h2⟩
  · skip
    refine lv_if_eq (tgt := 22) hx hb dX6_hand_4 (by decide) (fun c9 => absurd c9 (by decide)) (fun _ => ?_)
    refine lv_aload_n hx hb dX6_hand_7 rfl (lv_at hl 0 rfl) ?_
    refine lv_iload_n hx hb dX6_hand_8 rfl (lv_at hl 1 rfl) ?_
    have hPc := hP.sub (ws' := [(h0, .inr (5, [.ref pl, x1, x2, x3, x4, x5, x6, x7, x8, x9, x10, x11, x12, x13, x14, x15, x16, x17, x18])), (pl, .inl (k 3, 4, .inr (.inr (.inr (.inr f)))))]) [0, 1] rfl
    refine q_callr (va_runV (As := [.int p0]) (rest := []) ⟨hx, hb, hml, hown, hts⟩ (c_X6_at l G k h0 pl f sa hf p0 (x1) (x2) (x3) (x4) (x5) (x6) (x7) (x8) (x9) (x10) (x11) (x12) (x13) (x14) (x15) (x16) (x17) (x18)) (cwV 1 hts gX6_hand_X6_at rfl rfl rfl (by decide +kernel) ⟨Nat.le_of_ble_eq_true rfl, Nat.le_of_ble_eq_true rfl⟩) ⟨pr_bl, va_recv hK hPc (ci := 5) (q0 := 0) rfl rfl, pr_pre hPc hK hN⟩ rfl rfl hl.1 rfl (lv_room (Nat.le_of_ble_eq_true rfl)) dX6_hand_9 ⟨Nat.le_of_ble_eq_true rfl, Nat.le_of_ble_eq_true rfl⟩) (fun r3 hr3 => ?_)
    rw [show r3 = s0 from hr3.trans (hs h2)]
    refine va_get (D := G) (ci := 1) (v := .ref t0) (C := RX2) (T := TX2) (N := 10) hx hb hts iX6_hand_X2 hown hK hP 2 rfl rfl 0 (by decide) (hts (.fieldLink RX6 72 "TileHouse$Seat" "tiles" "LTileHouse$Tiles;") (by decide +kernel)) (fun _ h9 => h9) rfl dX6_hand_12 ?_
    refine lv_iload_n hx hb dX6_hand_15 rfl (lv_at hl 2 rfl) ?_
    have hPc := hP.sub (ws' := [(t0, .inr (2, [.ref fr, z1, z2, z3, z4, z5])), (fr, .inl (k 0, 34, .inl (fun _ => 0)))]) [3, 4] rfl
    refine q_calli (va_runV (As := [.int p1]) (rest := []) ⟨hx, hb, hml, hown, hts⟩ (c_X3_free l G k t0 fr (fun _ => 0) p1 (z1) (z2) (z3) (z4) (z5)) (cwV 1 hts gX6_hand_X3_free rfl rfl rfl (by decide +kernel) ⟨Nat.le_of_ble_eq_true rfl, Nat.le_of_ble_eq_true rfl⟩) ⟨pr_bl, va_recv hK hPc (ci := 2) (q0 := 0) rfl rfl, pr_pre hPc hK hN⟩ rfl rfl hl.1 rfl (lv_room (Nat.le_of_ble_eq_true rfl)) dX6_hand_16 ⟨Nat.le_of_ble_eq_true rfl, Nat.le_of_ble_eq_true rfl⟩) (fun r4 hr4 => ?_)
    obtain rfl : r4 = 0 := hr4.elim (fun q => q.2) (fun q => q.2)
    refine lv_goto (tgt := 23) hx hb dX6_hand_19 (by decide) ?_
    exact W.iret (v := 0) hx hb hr (fun t ht hW => ⟨0, rfl, rfl, ht⟩) (fun _ h => by cases h) dX6_hand_23
  · skip
    refine lv_if_eq (tgt := 22) hx hb dX6_hand_4 (by decide) (fun _ => ?_) (fun c9 => absurd (by decide) c9)
    refine lv_iconst (v := 0) hx hb dX6_hand_22 (by decide) ?_
    exact W.iret (v := 0) hx hb hr (fun t ht hW => ⟨0, rfl, rfl, ht⟩) (fun _ h => by cases h) dX6_hand_23
theorem iX6_laid_X2 : ∀ w ∈ u_ws RX2 TX2 10, w ∈ wsX6_laid := by decide +kernel
theorem iX6_laid_X3 : ∀ w ∈ u_ws RX3 TX3 6, w ∈ wsX6_laid := by decide +kernel
set_option maxHeartbeats 4000000 in
set_option maxRecDepth 100000 in
theorem c_X6_laid0 (l : Launch) (G : va_G) (k : Nat → ClassId) (h0 : Nat) (pl : Nat) (f : Nat → Option Nat) (sa : Nat → Nat) (hf : ∀ j, j < 4 → f j = some (sa j)) (s0 : Nat) (t0 : Nat) (p0 : Int32) (p1 : Int32) (p2 : Int32) (hs : vp_in p0 4 → sa (p0 &&& 3).toNatClampNeg = s0) (x1 : Value) (x2 : Value) (x3 : Value) (x4 : Value) (x5 : Value) (x6 : Value) (x7 : Value) (x8 : Value) (x9 : Value) (x10 : Value) (x11 : Value) (x12 : Value) (x13 : Value) (x14 : Value) (x15 : Value) (x16 : Value) (x17 : Value) (x18 : Value) (y1 : Value) (y2 : Value) (y3 : Value) (y4 : Value) (y5 : Value) (y6 : Value) (y7 : Value) (y8 : Value) (y9 : Value) (z0 : Value) (z1 : Value) (z2 : Value) (z3 : Value) (z5 : Value) : Met l yX6_laid wsX6_laid ({ frames := 1, cells := 0, slots := 0, locals := 21 }) (va_Pc [.ref h0, .int p0, .int p1, .int p2] (pr G k [(h0, .inr (5, [.ref pl, x1, x2, x3, x4, x5, x6, x7, x8, x9, x10, x11, x12, x13, x14, x15, x16, x17, x18])), (pl, .inl (k 3, 4, .inr (.inr (.inr (.inr f))))), (s0, .inr (1, [.ref t0, y1, y2, y3, y4, y5, y6, y7, y8, y9])), (t0, .inr (2, [z0, z1, z2, z3, .int 0, z5]))])) (vp_Si (fun r => r = (-1))) 0 0 (fun _ => False) := by
  refine Met.ofW (cc := cX6_laid) (maxL := 5) (ret := (some .int)) (by decide) rfl ?_
  intro p e s m args below meth c s₁ B hml hv
  obtain ⟨rfl, hP, hK, hN⟩ := hv
  have hx := B.exec
  have hb := B.bytes
  have hr := B.returns
  have hts := atoms_spec (ws := wsX6_laid) B.pre
  have hown : s.vm.findClass RX6 = some m.cls := findClass_of_methodNamed B.named
  have hlocks := B.notSynchronized
  have hl := lv_entry ([.ref h0, .int p0, .int p1, .int p2]) (n := 5) (Nat.le_of_ble_eq_true rfl)
  rw [lg_entry_eq]
  generalize (lg_sl ([.ref h0, .int p0, .int p1, .int p2]) ++ List.replicate (5 - (lg_sl ([.ref h0, .int p0, .int p1, .int p2])).length) Slot.unset).toArray = ls at hl ⊢
  have hl : lv_has ls 5 [(0, .ref h0), (1, .int p0), (2, .int p1), (3, .int p2)] := hl
  refine lv_iload_n hx hb dX6_laid_0 rfl (lv_at hl 1 rfl) ?_
  have hPc := hP.sub (ws' := []) [] rfl
  refine q_calli (va_runS (As := [.int p0]) (rest := []) ⟨hx, hb, hml, hown, hts⟩ (c_X6_isSeat l G k p0) (cwS 1 hts gX6_laid_X6_isSeat rfl rfl rfl (by decide +kernel) ⟨Nat.le_of_ble_eq_true rfl, Nat.le_of_ble_eq_true rfl⟩) ⟨pr_bl, pr_pre hPc hK hN⟩ rfl rfl hl.1 rfl (lv_room (Nat.le_of_ble_eq_true rfl)) dX6_laid_1 ⟨Nat.le_of_ble_eq_true rfl, Nat.le_of_ble_eq_true rfl⟩) (fun r1 hr1 => ?_)
  rcases hr1 with ⟨rfl, h2⟩ | ⟨rfl, h2⟩
  · skip
    refine lv_if_ne (tgt := 9) hx hb dX6_laid_4 (by decide) (fun _ => ?_) (fun c9 => absurd c9 (by decide))
    refine lv_aload_n hx hb dX6_laid_9 rfl (lv_at hl 0 rfl) ?_
    refine lv_iload_n hx hb dX6_laid_10 rfl (lv_at hl 1 rfl) ?_
    have hPc := hP.sub (ws' := [(h0, .inr (5, [.ref pl, x1, x2, x3, x4, x5, x6, x7, x8, x9, x10, x11, x12, x13, x14, x15, x16, x17, x18])), (pl, .inl (k 3, 4, .inr (.inr (.inr (.inr f)))))]) [0, 1] rfl
    refine q_callr (va_runV (As := [.int p0]) (rest := []) ⟨hx, hb, hml, hown, hts⟩ (c_X6_at l G k h0 pl f sa hf p0 (x1) (x2) (x3) (x4) (x5) (x6) (x7) (x8) (x9) (x10) (x11) (x12) (x13) (x14) (x15) (x16) (x17) (x18)) (cwV 1 hts gX6_laid_X6_at rfl rfl rfl (by decide +kernel) ⟨Nat.le_of_ble_eq_true rfl, Nat.le_of_ble_eq_true rfl⟩) ⟨pr_bl, va_recv hK hPc (ci := 5) (q0 := 0) rfl rfl, pr_pre hPc hK hN⟩ rfl rfl hl.1 rfl (lv_room (Nat.le_of_ble_eq_true rfl)) dX6_laid_11 ⟨Nat.le_of_ble_eq_true rfl, Nat.le_of_ble_eq_true rfl⟩) (fun r3 hr3 => ?_)
    rw [show r3 = s0 from hr3.trans (hs h2)]
    refine va_get (D := G) (ci := 1) (v := .ref t0) (C := RX2) (T := TX2) (N := 10) hx hb hts iX6_laid_X2 hown hK hP 2 rfl rfl 0 (by decide) (hts (.fieldLink RX6 72 "TileHouse$Seat" "tiles" "LTileHouse$Tiles;") (by decide +kernel)) (fun _ h9 => h9) rfl dX6_laid_14 ?_
    refine lv_astore (lv' := [(4, .ref t0), (0, .ref h0), (1, .int p0), (2, .int p1), (3, .int p2)]) hx hb dX6_laid_17 hl (by decide) rfl (fun ls hl => ?_)
    refine lv_iload_n hx hb dX6_laid_19 rfl (lv_at hl 3 rfl) ?_
    refine lv_if_lt (tgt := 37) hx hb dX6_laid_20 (by decide) (fun c4 => ?_) (fun c4 => ?_)
    · skip
      refine lv_iconst (v := (-1)) hx hb dX6_laid_37 (by decide) ?_
      exact W.iret (v := (-1)) hx hb hr (fun t ht hW => ⟨(-1), rfl, rfl, ht⟩) (fun _ h => by cases h) dX6_laid_38
    · skip
      refine lv_iload_n hx hb dX6_laid_23 rfl (lv_at hl 3 rfl) ?_
      refine lv_aload hx hb dX6_laid_24 (lv_at hl 0 rfl) ?_
      refine va_get (D := G) (ci := 2) (v := .int 0) (C := RX3) (T := TX3) (N := 6) hx hb hts iX6_laid_X3 hown hK hP 3 rfl rfl 4 (by decide) (hts (.fieldLink RX6 244 "TileHouse$Tiles" "laidDown" "I") (by decide +kernel)) (fun _ h9 => h9) rfl dX6_laid_26 ?_
      refine lv_icmp_ge (tgt := 37) hx hb dX6_laid_29 (by decide) (fun _ => ?_) (fun c9 => absurd (i_nn (by assumption)) c9)
      refine lv_iconst (v := (-1)) hx hb dX6_laid_37 (by decide) ?_
      exact W.iret (v := (-1)) hx hb hr (fun t ht hW => ⟨(-1), rfl, rfl, ht⟩) (fun _ h => by cases h) dX6_laid_38
  · skip
    refine lv_if_ne (tgt := 9) hx hb dX6_laid_4 (by decide) (fun c9 => absurd (by decide) c9) (fun _ => ?_)
    refine lv_iconst (v := (-1)) hx hb dX6_laid_7 (by decide) ?_
    exact W.iret (v := (-1)) hx hb hr (fun t ht hW => ⟨(-1), rfl, rfl, ht⟩) (fun _ h => by cases h) dX6_laid_8
set_option maxHeartbeats 4000000 in
set_option maxRecDepth 100000 in
theorem c_X3_waitsFor0 (l : Launch) (G : va_G) (k : Nat → ClassId) (h0 : Nat) (p0 : Int32) (z0 : Value) (z1 : Value) (z2 : Value) (z3 : Value) : Met l yX3_waitsFor wsX3_waitsFor ({ frames := 1, cells := 0, slots := 0, locals := 20 }) (va_Pc [.ref h0, .int p0] (pr G k [(h0, .inr (2, [z0, z1, z2, z3, .int 0, .int 0]))])) (vp_Si (fun r => r = 0)) 0 0 (fun _ => False) := by
  refine Met.ofW (cc := cX3_waitsFor) (maxL := 3) (ret := (some .boolean)) (by decide) rfl ?_
  intro p e s m args below meth c s₁ B hml hv
  obtain ⟨rfl, hP, hK, hN⟩ := hv
  have hx := B.exec
  have hb := B.bytes
  have hr := B.returns
  have hts := atoms_spec (ws := wsX3_waitsFor) B.pre
  have hown : s.vm.findClass RX3 = some m.cls := findClass_of_methodNamed B.named
  have hlocks := B.notSynchronized
  have hl := lv_entry ([.ref h0, .int p0]) (n := 3) (Nat.le_of_ble_eq_true rfl)
  rw [lg_entry_eq]
  generalize (lg_sl ([.ref h0, .int p0]) ++ List.replicate (3 - (lg_sl ([.ref h0, .int p0])).length) Slot.unset).toArray = ls at hl ⊢
  have hl : lv_has ls 3 [(0, .ref h0), (1, .int p0)] := hl
  refine lv_aload_n hx hb dX3_waitsFor_0 rfl (lv_at hl 0 rfl) ?_
  have hPc := hP.sub (ws' := [(h0, .inr (2, [z0, z1, z2, z3, .int 0, .int 0]))]) [0] rfl
  refine q_calli (va_runV (As := []) (rest := []) ⟨hx, hb, hml, hown, hts⟩ (c_X3_size l G k h0 0 0 (z0) (z1) (z2) (z3)) (cwV 0 hts gX3_waitsFor_X3_size rfl rfl rfl (by decide +kernel) ⟨Nat.le_of_ble_eq_true rfl, Nat.le_of_ble_eq_true rfl⟩) ⟨pr_bl, va_recv hK hPc (ci := 2) (q0 := 0) rfl rfl, pr_pre hPc hK hN⟩ rfl rfl hl.1 rfl (lv_room (Nat.le_of_ble_eq_true rfl)) dX3_waitsFor_1 ⟨Nat.le_of_ble_eq_true rfl, Nat.le_of_ble_eq_true rfl⟩) (fun r1 hr1 => ?_)
  obtain rfl : r1 = 0 := hr1.trans (by decide)
  refine lv_bipush (v := 13) hx hb dX3_waitsFor_4 (by decide) ?_
  refine lv_icmp_ne (tgt := 26) hx hb dX3_waitsFor_6 (by decide) (fun _ => ?_) (fun c9 => absurd c9 (by decide))
  refine lv_iconst (v := 0) hx hb dX3_waitsFor_26 (by decide) ?_
  exact W.zret (v := 0) hx hb hr rfl (fun t ht hW => ⟨0, rfl, rfl, ht⟩) (fun _ h => by cases h) dX3_waitsFor_27
set_option maxHeartbeats 4000000 in
set_option maxRecDepth 100000 in
theorem c_X3_waiting0 (l : Launch) (G : va_G) (k : Nat → ClassId) (h0 : Nat) (z0 : Value) (z1 : Value) (z2 : Value) (z3 : Value) : Met l yX3_waiting wsX3_waiting ({ frames := 2, cells := 0, slots := 0, locals := 42 }) (va_Pc [.ref h0] (pr G k [(h0, .inr (2, [z0, z1, z2, z3, .int 0, .int 0]))])) (vp_Sl (fun r => r = 0)) 0 0 (fun _ => False) := by
  refine Met.ofW (cc := cX3_waiting) (maxL := 4) (ret := (some .long)) (by decide) rfl ?_
  intro p e s m args below meth c s₁ B hml hv
  obtain ⟨rfl, hP, hK, hN⟩ := hv
  have hx := B.exec
  have hb := B.bytes
  have hr := B.returns
  have hts := atoms_spec (ws := wsX3_waiting) B.pre
  have hown : s.vm.findClass RX3 = some m.cls := findClass_of_methodNamed B.named
  have hlocks := B.notSynchronized
  have hl := lv_entry ([.ref h0]) (n := 4) (Nat.le_of_ble_eq_true rfl)
  rw [lg_entry_eq]
  generalize (lg_sl ([.ref h0]) ++ List.replicate (4 - (lg_sl ([.ref h0])).length) Slot.unset).toArray = ls at hl ⊢
  have hl : lv_has ls 4 [(0, .ref h0)] := hl
  refine lv_lconst (v := 0) hx hb dX3_waiting_0 (by decide) ?_
  refine lv_lstore_n (lv' := [(1, .long 0), (0, .ref h0)]) hx hb dX3_waiting_1 rfl hl (by decide) rfl (fun ls hl => ?_)
  refine lv_iconst (v := 0) hx hb dX3_waiting_2 (by decide) ?_
  refine lv_istore_n (lv' := [(3, .int 0), (1, .long 0), (0, .ref h0)]) hx hb dX3_waiting_3 rfl hl (by decide) rfl (fun ls hl => ?_)
  obtain ⟨j4, ej4, hj4⟩ : ∃ j : Nat, nI j = (0 : Int32) ∧ j ≤ 34 := ⟨0, rfl, by decide⟩
  replace hl : lv_has ls 4 [(3, .int (nI j4)), (1, .long 0), (0, .ref h0)] := by rw [ej4]; exact hl
  clear ej4
  obtain ⟨nj4, hnj4⟩ : ∃ n : Nat, 34 < j4 + n := ⟨35, by omega⟩
  induction nj4 generalizing j4 ls  with
  | zero => exact absurd hnj4 (by omega)
  | succ nj4 ihj4 =>
    refine lv_iload_n hx hb dX3_waiting_4 rfl (lv_at hl 0 rfl) ?_
    refine lv_bipush (v := 34) hx hb dX3_waiting_5 (by decide) ?_
    refine lv_icmp_ge (tgt := 30) hx hb dX3_waiting_7 (by decide) (fun c1 => ?_) (fun c1 => ?_)
    · skip
      have hge : 34 ≤ j4 := (nI_leI (a := 34) (b := j4) (by omega) (by omega)).mp c1
      refine lv_lload_n hx hb dX3_waiting_30 rfl (lv_at hl 1 rfl) ?_
      exact W.lret (v := 0) hx hb hr (fun t ht hW => ⟨0, rfl, rfl, ht⟩) (fun _ h => by cases h) dX3_waiting_31
    · skip
      have hltj4 : j4 < 34 := Nat.lt_of_not_le (fun h9 => c1 (nI_le h9 (by omega)))
      refine lv_aload_n hx hb dX3_waiting_10 rfl (lv_at hl 2 rfl) ?_
      refine lv_iload_n hx hb dX3_waiting_11 rfl (lv_at hl 0 rfl) ?_
      have hPc := hP.sub (ws' := [(h0, .inr (2, [z0, z1, z2, z3, .int 0, .int 0]))]) [0] rfl
      refine q_calli (va_runV (As := [.int (nI j4)]) (rest := []) ⟨hx, hb, hml, hown, hts⟩ (c_X3_waitsFor0 l G k h0 (nI j4) (z0) (z1) (z2) (z3)) (cwV 1 hts gX3_waiting_X3_waitsFor rfl rfl rfl (by decide +kernel) ⟨Nat.le_of_ble_eq_true rfl, Nat.le_of_ble_eq_true rfl⟩) ⟨pr_bl, va_recv hK hPc (ci := 2) (q0 := 0) rfl rfl, pr_pre hPc hK hN⟩ rfl rfl hl.1 rfl (lv_room (Nat.le_of_ble_eq_true rfl)) dX3_waiting_12 ⟨Nat.le_of_ble_eq_true rfl, Nat.le_of_ble_eq_true rfl⟩) (fun r2 hr2 => ?_)
      obtain rfl : r2 = 0 := hr2
      refine lv_if_eq (tgt := 24) hx hb dX3_waiting_15 (by decide) (fun _ => ?_) (fun c9 => absurd (by decide) c9)
      obtain ⟨v3, ev3⟩ : ∃ y : Int32, y = (nI j4) + 1 := ⟨_, rfl⟩
      refine lv_iinc (v := v3) (lv' := [(3, .int v3), (1, .long 0), (0, .ref h0)]) hx hb dX3_waiting_24 hl (k := 0) rfl (by rw [ev3]; rfl) (by decide) rfl (fun ls hl => ?_)
      refine lv_goto (tgt := 4) hx hb dX3_waiting_27 (by decide) ?_
      exact ihj4 (j4 := j4 + 1) (hj4 := by omega) (hnj4 := by omega) (ls := ls) (hl := by rw [nI_succ, ← ev3]; exact lv_sub hl [0, 1, 2] rfl)
theorem iX6_waits_X2 : ∀ w ∈ u_ws RX2 TX2 10, w ∈ wsX6_waits := by decide +kernel
set_option maxHeartbeats 4000000 in
set_option maxRecDepth 100000 in
theorem c_X6_waits0 (l : Launch) (G : va_G) (k : Nat → ClassId) (h0 : Nat) (pl : Nat) (f : Nat → Option Nat) (sa : Nat → Nat) (hf : ∀ j, j < 4 → f j = some (sa j)) (s0 : Nat) (t0 : Nat) (p0 : Int32) (hs : vp_in p0 4 → sa (p0 &&& 3).toNatClampNeg = s0) (x1 : Value) (x2 : Value) (x3 : Value) (x4 : Value) (x5 : Value) (x6 : Value) (x7 : Value) (x8 : Value) (x9 : Value) (x10 : Value) (x11 : Value) (x12 : Value) (x13 : Value) (x14 : Value) (x15 : Value) (x16 : Value) (x17 : Value) (x18 : Value) (y1 : Value) (y2 : Value) (y3 : Value) (y4 : Value) (y5 : Value) (y6 : Value) (y7 : Value) (y8 : Value) (y9 : Value) (z0 : Value) (z1 : Value) (z2 : Value) (z3 : Value) : Met l yX6_waits wsX6_waits ({ frames := 3, cells := 0, slots := 0, locals := 65 }) (va_Pc [.ref h0, .int p0] (pr G k [(h0, .inr (5, [.ref pl, x1, x2, x3, x4, x5, x6, x7, x8, x9, x10, x11, x12, x13, x14, x15, x16, x17, x18])), (pl, .inl (k 3, 4, .inr (.inr (.inr (.inr f))))), (s0, .inr (1, [.ref t0, y1, y2, y3, y4, y5, y6, y7, y8, y9])), (t0, .inr (2, [z0, z1, z2, z3, .int 0, .int 0]))])) (vp_Sl (fun r => r = 0)) 0 0 (fun _ => False) := by
  refine Met.ofW (cc := cX6_waits) (maxL := 2) (ret := (some .long)) (by decide) rfl ?_
  intro p e s m args below meth c s₁ B hml hv
  obtain ⟨rfl, hP, hK, hN⟩ := hv
  have hx := B.exec
  have hb := B.bytes
  have hr := B.returns
  have hts := atoms_spec (ws := wsX6_waits) B.pre
  have hown : s.vm.findClass RX6 = some m.cls := findClass_of_methodNamed B.named
  have hlocks := B.notSynchronized
  have hl := lv_entry ([.ref h0, .int p0]) (n := 2) (Nat.le_of_ble_eq_true rfl)
  rw [lg_entry_eq]
  generalize (lg_sl ([.ref h0, .int p0]) ++ List.replicate (2 - (lg_sl ([.ref h0, .int p0])).length) Slot.unset).toArray = ls at hl ⊢
  have hl : lv_has ls 2 [(0, .ref h0), (1, .int p0)] := hl
  refine lv_iload_n hx hb dX6_waits_0 rfl (lv_at hl 1 rfl) ?_
  have hPc := hP.sub (ws' := []) [] rfl
  refine q_calli (va_runS (As := [.int p0]) (rest := []) ⟨hx, hb, hml, hown, hts⟩ (c_X6_isSeat l G k p0) (cwS 1 hts gX6_waits_X6_isSeat rfl rfl rfl (by decide +kernel) ⟨Nat.le_of_ble_eq_true rfl, Nat.le_of_ble_eq_true rfl⟩) ⟨pr_bl, pr_pre hPc hK hN⟩ rfl rfl hl.1 rfl (lv_room (Nat.le_of_ble_eq_true rfl)) dX6_waits_1 ⟨Nat.le_of_ble_eq_true rfl, Nat.le_of_ble_eq_true rfl⟩) (fun r1 hr1 => ?_)
  rcases hr1 with ⟨rfl, h2⟩ | ⟨rfl, h2⟩
  · skip
    refine lv_if_eq (tgt := 21) hx hb dX6_waits_4 (by decide) (fun c9 => absurd c9 (by decide)) (fun _ => ?_)
    refine lv_aload_n hx hb dX6_waits_7 rfl (lv_at hl 0 rfl) ?_
    refine lv_iload_n hx hb dX6_waits_8 rfl (lv_at hl 1 rfl) ?_
    have hPc := hP.sub (ws' := [(h0, .inr (5, [.ref pl, x1, x2, x3, x4, x5, x6, x7, x8, x9, x10, x11, x12, x13, x14, x15, x16, x17, x18])), (pl, .inl (k 3, 4, .inr (.inr (.inr (.inr f)))))]) [0, 1] rfl
    refine q_callr (va_runV (As := [.int p0]) (rest := []) ⟨hx, hb, hml, hown, hts⟩ (c_X6_at l G k h0 pl f sa hf p0 (x1) (x2) (x3) (x4) (x5) (x6) (x7) (x8) (x9) (x10) (x11) (x12) (x13) (x14) (x15) (x16) (x17) (x18)) (cwV 1 hts gX6_waits_X6_at rfl rfl rfl (by decide +kernel) ⟨Nat.le_of_ble_eq_true rfl, Nat.le_of_ble_eq_true rfl⟩) ⟨pr_bl, va_recv hK hPc (ci := 5) (q0 := 0) rfl rfl, pr_pre hPc hK hN⟩ rfl rfl hl.1 rfl (lv_room (Nat.le_of_ble_eq_true rfl)) dX6_waits_9 ⟨Nat.le_of_ble_eq_true rfl, Nat.le_of_ble_eq_true rfl⟩) (fun r3 hr3 => ?_)
    rw [show r3 = s0 from hr3.trans (hs h2)]
    refine va_get (D := G) (ci := 1) (v := .ref t0) (C := RX2) (T := TX2) (N := 10) hx hb hts iX6_waits_X2 hown hK hP 2 rfl rfl 0 (by decide) (hts (.fieldLink RX6 72 "TileHouse$Seat" "tiles" "LTileHouse$Tiles;") (by decide +kernel)) (fun _ h9 => h9) rfl dX6_waits_12 ?_
    have hPc := hP.sub (ws' := [(t0, .inr (2, [z0, z1, z2, z3, .int 0, .int 0]))]) [3] rfl
    refine q_calll (va_runV (As := []) (rest := []) ⟨hx, hb, hml, hown, hts⟩ (c_X3_waiting0 l G k t0 (z0) (z1) (z2) (z3)) (cwV 0 hts gX6_waits_X3_waiting rfl rfl rfl (by decide +kernel) ⟨Nat.le_of_ble_eq_true rfl, Nat.le_of_ble_eq_true rfl⟩) ⟨pr_bl, va_recv hK hPc (ci := 2) (q0 := 0) rfl rfl, pr_pre hPc hK hN⟩ rfl rfl hl.1 rfl (lv_room (Nat.le_of_ble_eq_true rfl)) dX6_waits_15 ⟨Nat.le_of_ble_eq_true rfl, Nat.le_of_ble_eq_true rfl⟩) (fun r4 hr4 => ?_)
    obtain rfl : r4 = 0 := hr4
    refine lv_goto (tgt := 22) hx hb dX6_waits_18 (by decide) ?_
    exact W.lret (v := 0) hx hb hr (fun t ht hW => ⟨0, rfl, rfl, ht⟩) (fun _ h => by cases h) dX6_waits_22
  · skip
    refine lv_if_eq (tgt := 21) hx hb dX6_waits_4 (by decide) (fun _ => ?_) (fun c9 => absurd (by decide) c9)
    refine lv_lconst (v := 0) hx hb dX6_waits_21 (by decide) ?_
    exact W.lret (v := 0) hx hb hr (fun t ht hW => ⟨0, rfl, rfl, ht⟩) (fun _ h => by cases h) dX6_waits_22
def seatF (p0 p1 : Int32) : Int32 := if p1 = 0 then 25000 else if p1 = 3 then p0 else if p1 = 1 ∨ p1 = 2 ∨ p1 = 4 ∨ p1 = 5 ∨ p1 = 6 ∨ p1 = 7 then 0 else -1
theorem seatF_out {p0 p1 : Int32} (h : p1.toInt < 0 ∨ 7 < p1.toInt) : seatF p0 p1 = -1 := by
  have h9 : ∀ v : Int32, 0 ≤ v.toInt → v.toInt ≤ 7 → ¬ p1 = v := fun v a b e => by subst e; omega
  unfold seatF
  rw [if_neg (h9 0 (by decide) (by decide)), if_neg (h9 3 (by decide) (by decide)), if_neg]
  rintro (e | e | e | e | e | e)
  · exact h9 1 (by decide) (by decide) e
  · exact h9 2 (by decide) (by decide) e
  · exact h9 4 (by decide) (by decide) e
  · exact h9 5 (by decide) (by decide) e
  · exact h9 6 (by decide) (by decide) e
  · exact h9 7 (by decide) (by decide) e
theorem and3 {p : Int32} (h : vp_in p 4) : p &&& 3 = p := by
  obtain ⟨j, hj, rfl⟩ := vp_in_of h (by decide)
  rcases (show j = 0 ∨ j = 1 ∨ j = 2 ∨ j = 3 by omega) with rfl | rfl | rfl | rfl <;> decide
theorem iX6_seat_X2 : ∀ w ∈ u_ws RX2 TX2 10, w ∈ wsX6_seat := by decide +kernel
theorem iX6_seat_X3 : ∀ w ∈ u_ws RX3 TX3 6, w ∈ wsX6_seat := by decide +kernel
set_option maxHeartbeats 4000000 in
set_option maxRecDepth 100000 in
theorem c_X6_seat0 (l : Launch) (G : va_G) (k : Nat → ClassId) (h0 : Nat) (pl : Nat) (f : Nat → Option Nat) (sa : Nat → Nat) (hf : ∀ j, j < 4 → f j = some (sa j)) (s0 : Nat) (t0 : Nat) (p0 : Int32) (p1 : Int32) (hs : vp_in p0 4 → sa (p0 &&& 3).toNatClampNeg = s0) (x1 : Value) (x2 : Value) (x3 : Value) (x4 : Value) (x5 : Value) (x6 : Value) (x7 : Value) (x8 : Value) (x10 : Value) (x11 : Value) (x12 : Value) (x13 : Value) (x14 : Value) (x15 : Value) (x16 : Value) (x17 : Value) (x18 : Value) (y1 : Value) (y3 : Value) (y6 : Value) (y7 : Value) (z0 : Value) (z1 : Value) (z2 : Value) (z3 : Value) (z5 : Value) : Met l yX6_seat wsX6_seat ({ frames := 1, cells := 0, slots := 0, locals := 21 }) (va_Pc [.ref h0, .int p0, .int p1] (pr G k [(h0, .inr (5, [.ref pl, x1, x2, x3, x4, x5, x6, x7, x8, .int 0, x10, x11, x12, x13, x14, x15, x16, x17, x18])), (pl, .inl (k 3, 4, .inr (.inr (.inr (.inr f))))), (s0, .inr (1, [.ref t0, y1, .int 0, y3, .int 25000, .int 0, y6, y7, .int 0, .int 0])), (t0, .inr (2, [z0, z1, z2, z3, .int 0, z5]))])) (vp_Si (fun r => (vp_in p0 4 ∧ r = seatF p0 p1) ∨ (¬ vp_in p0 4 ∧ r = (-1)))) 0 0 (fun _ => False) := by
  refine Met.ofW (cc := cX6_seat) (maxL := 4) (ret := (some .int)) (by decide) rfl ?_
  intro p e s m args below meth c s₁ B hml hv
  obtain ⟨rfl, hP, hK, hN⟩ := hv
  have hx := B.exec
  have hb := B.bytes
  have hr := B.returns
  have hts := atoms_spec (ws := wsX6_seat) B.pre
  have hown : s.vm.findClass RX6 = some m.cls := findClass_of_methodNamed B.named
  have hlocks := B.notSynchronized
  have hl := lv_entry ([.ref h0, .int p0, .int p1]) (n := 4) (Nat.le_of_ble_eq_true rfl)
  rw [lg_entry_eq]
  generalize (lg_sl ([.ref h0, .int p0, .int p1]) ++ List.replicate (4 - (lg_sl ([.ref h0, .int p0, .int p1])).length) Slot.unset).toArray = ls at hl ⊢
  have hl : lv_has ls 4 [(0, .ref h0), (1, .int p0), (2, .int p1)] := hl
  refine lv_iload_n hx hb dX6_seat_0 rfl (lv_at hl 1 rfl) ?_
  have hPc := hP.sub (ws' := []) [] rfl
  refine q_calli (va_runS (As := [.int p0]) (rest := []) ⟨hx, hb, hml, hown, hts⟩ (c_X6_isSeat l G k p0) (cwS 1 hts gX6_seat_X6_isSeat rfl rfl rfl (by decide +kernel) ⟨Nat.le_of_ble_eq_true rfl, Nat.le_of_ble_eq_true rfl⟩) ⟨pr_bl, pr_pre hPc hK hN⟩ rfl rfl hl.1 rfl (lv_room (Nat.le_of_ble_eq_true rfl)) dX6_seat_1 ⟨Nat.le_of_ble_eq_true rfl, Nat.le_of_ble_eq_true rfl⟩) (fun r1 hr1 => ?_)
  rcases hr1 with ⟨rfl, h2⟩ | ⟨rfl, h2⟩
  · skip
    refine lv_if_ne (tgt := 9) hx hb dX6_seat_4 (by decide) (fun _ => ?_) (fun c9 => absurd c9 (by decide))
    refine lv_aload_n hx hb dX6_seat_9 rfl (lv_at hl 0 rfl) ?_
    refine lv_iload_n hx hb dX6_seat_10 rfl (lv_at hl 1 rfl) ?_
    have hPc := hP.sub (ws' := [(h0, .inr (5, [.ref pl, x1, x2, x3, x4, x5, x6, x7, x8, .int 0, x10, x11, x12, x13, x14, x15, x16, x17, x18])), (pl, .inl (k 3, 4, .inr (.inr (.inr (.inr f)))))]) [0, 1] rfl
    refine q_callr (va_runV (As := [.int p0]) (rest := []) ⟨hx, hb, hml, hown, hts⟩ (c_X6_at l G k h0 pl f sa hf p0 (x1) (x2) (x3) (x4) (x5) (x6) (x7) (x8) (.int 0) (x10) (x11) (x12) (x13) (x14) (x15) (x16) (x17) (x18)) (cwV 1 hts gX6_seat_X6_at rfl rfl rfl (by decide +kernel) ⟨Nat.le_of_ble_eq_true rfl, Nat.le_of_ble_eq_true rfl⟩) ⟨pr_bl, va_recv hK hPc (ci := 5) (q0 := 0) rfl rfl, pr_pre hPc hK hN⟩ rfl rfl hl.1 rfl (lv_room (Nat.le_of_ble_eq_true rfl)) dX6_seat_11 ⟨Nat.le_of_ble_eq_true rfl, Nat.le_of_ble_eq_true rfl⟩) (fun r3 hr3 => ?_)
    rw [show r3 = s0 from hr3.trans (hs h2)]
    refine lv_astore_n (lv' := [(3, .ref s0), (0, .ref h0), (1, .int p0), (2, .int p1)]) hx hb dX6_seat_14 rfl hl (by decide) rfl (fun ls hl => ?_)
    refine lv_iload_n hx hb dX6_seat_15 rfl (lv_at hl 3 rfl) ?_
    rcases tsw7 p1 with hO | rfl | rfl | rfl | rfl | rfl | rfl | rfl | rfl
    · skip
      refine lv_tableOut (tgt := 135) hx hb dX6_seat_16 hO (by decide) ?_
      refine lv_iconst (v := (-1)) hx hb dX6_seat_135 (by decide) ?_
      exact W.iret (v := (-1)) hx hb hr (fun t ht hW => ⟨(-1), rfl, Or.inl ⟨h2, (seatF_out hO).symm⟩, ht⟩) (fun _ h => by cases h) dX6_seat_136
    · skip
      refine lv_tableIn (tgt := 64) hx hb dX6_seat_16 (by decide) (by decide) rfl (by decide) ?_
      refine lv_aload_n hx hb dX6_seat_64 rfl (lv_at hl 0 rfl) ?_
      refine va_get (D := G) (ci := 1) (v := .int 25000) (C := RX2) (T := TX2) (N := 10) hx hb hts iX6_seat_X2 hown hK hP 2 rfl rfl 4 (by decide) (hts (.fieldLink RX6 203 "TileHouse$Seat" "points" "I") (by decide +kernel)) (fun _ h9 => h9) rfl dX6_seat_65 ?_
      exact W.iret (v := 25000) hx hb hr (fun t ht hW => ⟨25000, rfl, Or.inl ⟨h2, rfl⟩, ht⟩) (fun _ h => by cases h) dX6_seat_68
    · skip
      refine lv_tableIn (tgt := 69) hx hb dX6_seat_16 (by decide) (by decide) rfl (by decide) ?_
      refine lv_aload_n hx hb dX6_seat_69 rfl (lv_at hl 0 rfl) ?_
      refine va_get (D := G) (ci := 1) (v := .int 0) (C := RX2) (T := TX2) (N := 10) hx hb hts iX6_seat_X2 hown hK hP 2 rfl rfl 5 (by decide) (hts (.fieldLink RX6 110 "TileHouse$Seat" "bet" "I") (by decide +kernel)) (fun _ h9 => h9) rfl dX6_seat_70 ?_
      exact W.iret (v := 0) hx hb hr (fun t ht hW => ⟨0, rfl, Or.inl ⟨h2, rfl⟩, ht⟩) (fun _ h => by cases h) dX6_seat_73
    · skip
      refine lv_tableIn (tgt := 74) hx hb dX6_seat_16 (by decide) (by decide) rfl (by decide) ?_
      refine lv_aload_n hx hb dX6_seat_74 rfl (lv_at hl 0 rfl) ?_
      refine va_get (D := G) (ci := 1) (v := .int 0) (C := RX2) (T := TX2) (N := 10) hx hb hts iX6_seat_X2 hown hK hP 2 rfl rfl 8 (by decide) (hts (.fieldLink RX6 219 "TileHouse$Seat" "letGo" "Z") (by decide +kernel)) (fun _ h9 => h9) rfl dX6_seat_75 ?_
      refine lv_if_eq (tgt := 85) hx hb dX6_seat_78 (by decide) (fun _ => ?_) (fun c9 => absurd (by decide) c9)
      refine lv_iconst (v := 0) hx hb dX6_seat_85 (by decide) ?_
      exact W.iret (v := 0) hx hb hr (fun t ht hW => ⟨0, rfl, Or.inl ⟨h2, rfl⟩, ht⟩) (fun _ h => by cases h) dX6_seat_86
    · skip
      refine lv_tableIn (tgt := 87) hx hb dX6_seat_16 (by decide) (by decide) rfl (by decide) ?_
      refine lv_aload_n hx hb dX6_seat_87 rfl (lv_at hl 1 rfl) ?_
      refine lv_iload_n hx hb dX6_seat_88 rfl (lv_at hl 2 rfl) ?_
      have hPc := hP.sub (ws' := [(h0, .inr (5, [.ref pl, x1, x2, x3, x4, x5, x6, x7, x8, .int 0, x10, x11, x12, x13, x14, x15, x16, x17, x18]))]) [0] rfl
      refine q_calli (va_runV (As := [.int p0]) (rest := []) ⟨hx, hb, hml, hown, hts⟩ (c_X6_windOf l G k h0 0 p0 (.ref pl) (x1) (x2) (x3) (x4) (x5) (x6) (x7) (x8) (x10) (x11) (x12) (x13) (x14) (x15) (x16) (x17) (x18)) (cwV 1 hts gX6_seat_X6_windOf rfl rfl rfl (by decide +kernel) ⟨Nat.le_of_ble_eq_true rfl, Nat.le_of_ble_eq_true rfl⟩) ⟨pr_bl, va_recv hK hPc (ci := 5) (q0 := 0) rfl rfl, pr_pre hPc hK hN⟩ rfl rfl hl.1 rfl (lv_room (Nat.le_of_ble_eq_true rfl)) dX6_seat_89 ⟨Nat.le_of_ble_eq_true rfl, Nat.le_of_ble_eq_true rfl⟩) (fun r4 hr4 => ?_)
      exact W.iret (v := r4) hx hb hr (fun t ht hW => ⟨r4, rfl, Or.inl ⟨h2, hr4.trans (by rw [show p0 - 0 = p0 from Int32.sub_zero p0]; exact and3 h2)⟩, ht⟩) (fun _ h => by cases h) dX6_seat_92
    · skip
      refine lv_tableIn (tgt := 93) hx hb dX6_seat_16 (by decide) (by decide) rfl (by decide) ?_
      refine lv_aload_n hx hb dX6_seat_93 rfl (lv_at hl 0 rfl) ?_
      refine va_get (D := G) (ci := 1) (v := .int 0) (C := RX2) (T := TX2) (N := 10) hx hb hts iX6_seat_X2 hown hK hP 2 rfl rfl 2 (by decide) (hts (.fieldLink RX6 107 "TileHouse$Seat" "discards" "I") (by decide +kernel)) (fun _ h9 => h9) rfl dX6_seat_94 ?_
      exact W.iret (v := 0) hx hb hr (fun t ht hW => ⟨0, rfl, Or.inl ⟨h2, rfl⟩, ht⟩) (fun _ h => by cases h) dX6_seat_97
    · skip
      refine lv_tableIn (tgt := 98) hx hb dX6_seat_16 (by decide) (by decide) rfl (by decide) ?_
      refine lv_aload_n hx hb dX6_seat_98 rfl (lv_at hl 0 rfl) ?_
      refine va_get (D := G) (ci := 1) (v := .ref t0) (C := RX2) (T := TX2) (N := 10) hx hb hts iX6_seat_X2 hown hK hP 2 rfl rfl 0 (by decide) (hts (.fieldLink RX6 72 "TileHouse$Seat" "tiles" "LTileHouse$Tiles;") (by decide +kernel)) (fun _ h9 => h9) rfl dX6_seat_99 ?_
      refine va_get (D := G) (ci := 2) (v := .int 0) (C := RX3) (T := TX3) (N := 6) hx hb hts iX6_seat_X3 hown hK hP 3 rfl rfl 4 (by decide) (hts (.fieldLink RX6 244 "TileHouse$Tiles" "laidDown" "I") (by decide +kernel)) (fun _ h9 => h9) rfl dX6_seat_102 ?_
      exact W.iret (v := 0) hx hb hr (fun t ht hW => ⟨0, rfl, Or.inl ⟨h2, rfl⟩, ht⟩) (fun _ h => by cases h) dX6_seat_105
    · skip
      refine lv_tableIn (tgt := 106) hx hb dX6_seat_16 (by decide) (by decide) rfl (by decide) ?_
      refine lv_aload_n hx hb dX6_seat_106 rfl (lv_at hl 0 rfl) ?_
      refine va_get (D := G) (ci := 1) (v := .ref t0) (C := RX2) (T := TX2) (N := 10) hx hb hts iX6_seat_X2 hown hK hP 2 rfl rfl 0 (by decide) (hts (.fieldLink RX6 72 "TileHouse$Seat" "tiles" "LTileHouse$Tiles;") (by decide +kernel)) (fun _ h9 => h9) rfl dX6_seat_107 ?_
      have hPc := hP.sub (ws' := [(t0, .inr (2, [z0, z1, z2, z3, .int 0, z5]))]) [3] rfl
      refine q_calli (va_runV (As := []) (rest := []) ⟨hx, hb, hml, hown, hts⟩ (c_X3_isOpen0 l G k t0 (z0) (z1) (z2) (z3) (z5)) (cwV 0 hts gX6_seat_X3_isOpen rfl rfl rfl (by decide +kernel) ⟨Nat.le_of_ble_eq_true rfl, Nat.le_of_ble_eq_true rfl⟩) ⟨pr_bl, va_recv hK hPc (ci := 2) (q0 := 0) rfl rfl, pr_pre hPc hK hN⟩ rfl rfl hl.1 rfl (lv_room (Nat.le_of_ble_eq_true rfl)) dX6_seat_110 ⟨Nat.le_of_ble_eq_true rfl, Nat.le_of_ble_eq_true rfl⟩) (fun r5 hr5 => ?_)
      obtain rfl : r5 = 0 := hr5
      refine lv_if_eq (tgt := 120) hx hb dX6_seat_113 (by decide) (fun _ => ?_) (fun c9 => absurd (by decide) c9)
      refine lv_iconst (v := 0) hx hb dX6_seat_120 (by decide) ?_
      exact W.iret (v := 0) hx hb hr (fun t ht hW => ⟨0, rfl, Or.inl ⟨h2, rfl⟩, ht⟩) (fun _ h => by cases h) dX6_seat_121
    · skip
      refine lv_tableIn (tgt := 122) hx hb dX6_seat_16 (by decide) (by decide) rfl (by decide) ?_
      refine lv_aload_n hx hb dX6_seat_122 rfl (lv_at hl 0 rfl) ?_
      refine va_get (D := G) (ci := 1) (v := .int 0) (C := RX2) (T := TX2) (N := 10) hx hb hts iX6_seat_X2 hown hK hP 2 rfl rfl 9 (by decide) (hts (.fieldLink RX6 216 "TileHouse$Seat" "says" "Z") (by decide +kernel)) (fun _ h9 => h9) rfl dX6_seat_123 ?_
      refine lv_if_eq (tgt := 133) hx hb dX6_seat_126 (by decide) (fun _ => ?_) (fun c9 => absurd (by decide) c9)
      refine lv_iconst (v := 0) hx hb dX6_seat_133 (by decide) ?_
      exact W.iret (v := 0) hx hb hr (fun t ht hW => ⟨0, rfl, Or.inl ⟨h2, rfl⟩, ht⟩) (fun _ h => by cases h) dX6_seat_134
  · skip
    refine lv_if_ne (tgt := 9) hx hb dX6_seat_4 (by decide) (fun c9 => absurd (by decide) c9) (fun _ => ?_)
    refine lv_iconst (v := (-1)) hx hb dX6_seat_7 (by decide) ?_
    exact W.iret (v := (-1)) hx hb hr (fun t ht hW => ⟨(-1), rfl, Or.inr ⟨h2, rfl⟩, ht⟩) (fun _ h => by cases h) dX6_seat_8
set_option maxHeartbeats 4000000 in
set_option maxRecDepth 100000 in
theorem c_X6_won0 (l : Launch) (G : va_G) (k : Nat → ClassId) (h0 : Nat) (p0 : Int32) (p1 : Int32) (x0 : Value) (x1 : Value) (x2 : Value) (x3 : Value) (x4 : Value) (x5 : Value) (x7 : Value) (x8 : Value) (x9 : Value) (x10 : Value) (x11 : Value) (x12 : Value) (x13 : Value) (x14 : Value) (x15 : Value) (x16 : Value) (x17 : Value) (x18 : Value) : Met l yX6_won wsX6_won ({ frames := 1, cells := 0, slots := 0, locals := 21 }) (va_Pc [.ref h0, .int p0, .int p1] (pr G k [(h0, .inr (5, [x0, x1, x2, x3, x4, x5, .int 0, x7, x8, x9, x10, x11, x12, x13, x14, x15, x16, x17, x18]))])) (vp_Si (fun r => r = (-1))) 0 0 (fun _ => False) := by
  refine Met.ofW (cc := cX6_won) (maxL := 3) (ret := (some .int)) (by decide) rfl ?_
  intro p e s m args below meth c s₁ B hml hv
  obtain ⟨rfl, hP, hK, hN⟩ := hv
  have hx := B.exec
  have hb := B.bytes
  have hr := B.returns
  have hts := atoms_spec (ws := wsX6_won) B.pre
  have hown : s.vm.findClass RX6 = some m.cls := findClass_of_methodNamed B.named
  have hlocks := B.notSynchronized
  have hl := lv_entry ([.ref h0, .int p0, .int p1]) (n := 3) (Nat.le_of_ble_eq_true rfl)
  rw [lg_entry_eq]
  generalize (lg_sl ([.ref h0, .int p0, .int p1]) ++ List.replicate (3 - (lg_sl ([.ref h0, .int p0, .int p1])).length) Slot.unset).toArray = ls at hl ⊢
  have hl : lv_has ls 3 [(0, .ref h0), (1, .int p0), (2, .int p1)] := hl
  refine lv_aload_n hx hb dX6_won_0 rfl (lv_at hl 0 rfl) ?_
  refine lv_iload_n hx hb dX6_won_1 rfl (lv_at hl 1 rfl) ?_
  have hPc := hP.sub (ws' := [(h0, .inr (5, [x0, x1, x2, x3, x4, x5, .int 0, x7, x8, x9, x10, x11, x12, x13, x14, x15, x16, x17, x18]))]) [0] rfl
  refine q_calli (va_runV (As := [.int p0]) (rest := []) ⟨hx, hb, hml, hown, hts⟩ (c_X6_isWin0 l G k h0 p0 (x0) (x1) (x2) (x3) (x4) (x5) (x7) (x8) (x9) (x10) (x11) (x12) (x13) (x14) (x15) (x16) (x17) (x18)) (cwV 1 hts gX6_won_X6_isWin rfl rfl rfl (by decide +kernel) ⟨Nat.le_of_ble_eq_true rfl, Nat.le_of_ble_eq_true rfl⟩) ⟨pr_bl, va_recv hK hPc (ci := 5) (q0 := 0) rfl rfl, pr_pre hPc hK hN⟩ rfl rfl hl.1 rfl (lv_room (Nat.le_of_ble_eq_true rfl)) dX6_won_2 ⟨Nat.le_of_ble_eq_true rfl, Nat.le_of_ble_eq_true rfl⟩) (fun r1 hr1 => ?_)
  obtain rfl : r1 = 0 := hr1
  refine lv_if_eq (tgt := 21) hx hb dX6_won_5 (by decide) (fun _ => ?_) (fun c9 => absurd (by decide) c9)
  refine lv_iconst (v := (-1)) hx hb dX6_won_21 (by decide) ?_
  exact W.iret (v := (-1)) hx hb hr (fun t ht hW => ⟨(-1), rfl, rfl, ht⟩) (fun _ h => by cases h) dX6_won_22
set_option maxHeartbeats 4000000 in
set_option maxRecDepth 100000 in
theorem c_X6_forms0 (l : Launch) (G : va_G) (k : Nat → ClassId) (h0 : Nat) (p0 : Int32) (x0 : Value) (x1 : Value) (x2 : Value) (x3 : Value) (x4 : Value) (x5 : Value) (x7 : Value) (x8 : Value) (x9 : Value) (x10 : Value) (x11 : Value) (x12 : Value) (x13 : Value) (x14 : Value) (x15 : Value) (x16 : Value) (x17 : Value) (x18 : Value) : Met l yX6_forms wsX6_forms ({ frames := 1, cells := 0, slots := 0, locals := 21 }) (va_Pc [.ref h0, .int p0] (pr G k [(h0, .inr (5, [x0, x1, x2, x3, x4, x5, .int 0, x7, x8, x9, x10, x11, x12, x13, x14, x15, x16, x17, x18]))])) (vp_Sl (fun r => r = 0)) 0 0 (fun _ => False) := by
  refine Met.ofW (cc := cX6_forms) (maxL := 2) (ret := (some .long)) (by decide) rfl ?_
  intro p e s m args below meth c s₁ B hml hv
  obtain ⟨rfl, hP, hK, hN⟩ := hv
  have hx := B.exec
  have hb := B.bytes
  have hr := B.returns
  have hts := atoms_spec (ws := wsX6_forms) B.pre
  have hown : s.vm.findClass RX6 = some m.cls := findClass_of_methodNamed B.named
  have hlocks := B.notSynchronized
  have hl := lv_entry ([.ref h0, .int p0]) (n := 2) (Nat.le_of_ble_eq_true rfl)
  rw [lg_entry_eq]
  generalize (lg_sl ([.ref h0, .int p0]) ++ List.replicate (2 - (lg_sl ([.ref h0, .int p0])).length) Slot.unset).toArray = ls at hl ⊢
  have hl : lv_has ls 2 [(0, .ref h0), (1, .int p0)] := hl
  refine lv_aload_n hx hb dX6_forms_0 rfl (lv_at hl 0 rfl) ?_
  refine lv_iload_n hx hb dX6_forms_1 rfl (lv_at hl 1 rfl) ?_
  have hPc := hP.sub (ws' := [(h0, .inr (5, [x0, x1, x2, x3, x4, x5, .int 0, x7, x8, x9, x10, x11, x12, x13, x14, x15, x16, x17, x18]))]) [0] rfl
  refine q_calli (va_runV (As := [.int p0]) (rest := []) ⟨hx, hb, hml, hown, hts⟩ (c_X6_isWin0 l G k h0 p0 (x0) (x1) (x2) (x3) (x4) (x5) (x7) (x8) (x9) (x10) (x11) (x12) (x13) (x14) (x15) (x16) (x17) (x18)) (cwV 1 hts gX6_forms_X6_isWin rfl rfl rfl (by decide +kernel) ⟨Nat.le_of_ble_eq_true rfl, Nat.le_of_ble_eq_true rfl⟩) ⟨pr_bl, va_recv hK hPc (ci := 5) (q0 := 0) rfl rfl, pr_pre hPc hK hN⟩ rfl rfl hl.1 rfl (lv_room (Nat.le_of_ble_eq_true rfl)) dX6_forms_2 ⟨Nat.le_of_ble_eq_true rfl, Nat.le_of_ble_eq_true rfl⟩) (fun r1 hr1 => ?_)
  obtain rfl : r1 = 0 := hr1
  refine lv_if_eq (tgt := 20) hx hb dX6_forms_5 (by decide) (fun _ => ?_) (fun c9 => absurd (by decide) c9)
  refine lv_lconst (v := 0) hx hb dX6_forms_20 (by decide) ?_
  exact W.lret (v := 0) hx hb hr (fun t ht hW => ⟨0, rfl, rfl, ht⟩) (fun _ h => by cases h) dX6_forms_21
def countF (p : Int32) : Int32 := if p = 0 ∨ p = 2 ∨ p = 3 ∨ p = 4 ∨ p = 5 ∨ p = 6 ∨ p = 7 ∨ p = 8 ∨ p = 9 ∨ p = 10 ∨ p = 11 then 0 else -1
theorem countF_out {p1 : Int32} (h : p1.toInt < 0 ∨ 12 < p1.toInt) : countF p1 = -1 := by
  have h9 : ∀ v : Int32, 0 ≤ v.toInt → v.toInt ≤ 12 → ¬ p1 = v := fun v a b e => by subst e; omega
  unfold countF
  rw [if_neg]
  rintro (e | e | e | e | e | e | e | e | e | e | e)
  · exact h9 0 (by decide) (by decide) e
  · exact h9 2 (by decide) (by decide) e
  · exact h9 3 (by decide) (by decide) e
  · exact h9 4 (by decide) (by decide) e
  · exact h9 5 (by decide) (by decide) e
  · exact h9 6 (by decide) (by decide) e
  · exact h9 7 (by decide) (by decide) e
  · exact h9 8 (by decide) (by decide) e
  · exact h9 9 (by decide) (by decide) e
  · exact h9 10 (by decide) (by decide) e
  · exact h9 11 (by decide) (by decide) e
theorem iX6_count_X4 : ∀ w ∈ u_ws RX4 TX4 4, w ∈ wsX6_count := by decide +kernel
theorem iX6_count_X6 : ∀ w ∈ u_ws RX6 TX6 19, w ∈ wsX6_count := by decide +kernel
set_option maxHeartbeats 4000000 in
set_option maxRecDepth 100000 in
theorem c_X6_count0 (l : Launch) (G : va_G) (k : Nat → ClassId) (h0 : Nat) (wl : Nat) (p0 : Int32) (x0 : Value) (x2 : Value) (x3 : Value) (x4 : Value) (x5 : Value) (x8 : Value) (x15 : Value) (x16 : Value) (x17 : Value) (x18 : Value) (y0 : Value) (y2 : Value) : Met l yX6_count wsX6_count ({ frames := 1, cells := 0, slots := 0, locals := 20 }) (va_Pc [.ref h0, .int p0] (pr G k [(h0, .inr (5, [x0, .ref wl, x2, x3, x4, x5, .int 0, .int 0, x8, .int 0, .int 0, .int 0, .int 0, .int 0, .int 0, x15, x16, x17, x18])), (wl, .inr (3, [y0, .int 0, y2, .int 0]))])) (vp_Si (fun r => r = countF p0)) 0 0 (fun _ => False) := by
  refine Met.ofW (cc := cX6_count) (maxL := 2) (ret := (some .int)) (by decide) rfl ?_
  intro p e s m args below meth c s₁ B hml hv
  obtain ⟨rfl, hP, hK, hN⟩ := hv
  have hx := B.exec
  have hb := B.bytes
  have hr := B.returns
  have hts := atoms_spec (ws := wsX6_count) B.pre
  have hown : s.vm.findClass RX6 = some m.cls := findClass_of_methodNamed B.named
  have hlocks := B.notSynchronized
  have hl := lv_entry ([.ref h0, .int p0]) (n := 2) (Nat.le_of_ble_eq_true rfl)
  rw [lg_entry_eq]
  generalize (lg_sl ([.ref h0, .int p0]) ++ List.replicate (2 - (lg_sl ([.ref h0, .int p0])).length) Slot.unset).toArray = ls at hl ⊢
  have hl : lv_has ls 2 [(0, .ref h0), (1, .int p0)] := hl
  refine lv_iload_n hx hb dX6_count_0 rfl (lv_at hl 1 rfl) ?_
  rcases tsw12 p0 with hO | rfl | rfl | rfl | rfl | rfl | rfl | rfl | rfl | rfl | rfl | rfl | rfl | rfl
  · skip
    refine lv_tableOut (tgt := 172) hx hb dX6_count_1 hO (by decide) ?_
    refine lv_iconst (v := (-1)) hx hb dX6_count_172 (by decide) ?_
    exact W.iret (v := (-1)) hx hb hr (fun t ht hW => ⟨(-1), rfl, (countF_out hO).symm, ht⟩) (fun _ h => by cases h) dX6_count_173
  · skip
    refine lv_tableIn (tgt := 68) hx hb dX6_count_1 (by decide) (by decide) rfl (by decide) ?_
    refine lv_aload_n hx hb dX6_count_68 rfl (lv_at hl 0 rfl) ?_
    refine va_get (D := G) (ci := 5) (v := .int 0) (C := RX6) (T := TX6) (N := 19) hx hb hts iX6_count_X6 hown hK hP 0 rfl rfl 7 (by decide) (hts (.fieldLink RX6 45 "TileHouse" "phase" "I") (by decide +kernel)) (fun _ h9 => h9) rfl dX6_count_69 ?_
    exact W.iret (v := 0) hx hb hr (fun t ht hW => ⟨0, rfl, rfl, ht⟩) (fun _ h => by cases h) dX6_count_72
  · skip
    refine lv_tableIn (tgt := 73) hx hb dX6_count_1 (by decide) (by decide) rfl (by decide) ?_
    refine lv_aload_n hx hb dX6_count_73 rfl (lv_at hl 0 rfl) ?_
    refine va_get (D := G) (ci := 5) (v := .int 0) (C := RX6) (T := TX6) (N := 19) hx hb hts iX6_count_X6 hown hK hP 0 rfl rfl 7 (by decide) (hts (.fieldLink RX6 45 "TileHouse" "phase" "I") (by decide +kernel)) (fun _ h9 => h9) rfl dX6_count_74 ?_
    refine lv_if_ne (tgt := 84) hx hb dX6_count_77 (by decide) (fun c9 => absurd (by decide) c9) (fun _ => ?_)
    refine lv_iconst (v := (-1)) hx hb dX6_count_80 (by decide) ?_
    refine lv_goto (tgt := 88) hx hb dX6_count_81 (by decide) ?_
    exact W.iret (v := (-1)) hx hb hr (fun t ht hW => ⟨(-1), rfl, rfl, ht⟩) (fun _ h => by cases h) dX6_count_88
  · skip
    refine lv_tableIn (tgt := 89) hx hb dX6_count_1 (by decide) (by decide) rfl (by decide) ?_
    refine lv_aload_n hx hb dX6_count_89 rfl (lv_at hl 0 rfl) ?_
    refine va_get (D := G) (ci := 5) (v := .int 0) (C := RX6) (T := TX6) (N := 19) hx hb hts iX6_count_X6 hown hK hP 0 rfl rfl 9 (by decide) (hts (.fieldLink RX6 62 "TileHouse" "dealer" "I") (by decide +kernel)) (fun _ h9 => h9) rfl dX6_count_90 ?_
    exact W.iret (v := 0) hx hb hr (fun t ht hW => ⟨0, rfl, rfl, ht⟩) (fun _ h => by cases h) dX6_count_93
  · skip
    refine lv_tableIn (tgt := 94) hx hb dX6_count_1 (by decide) (by decide) rfl (by decide) ?_
    refine lv_aload_n hx hb dX6_count_94 rfl (lv_at hl 0 rfl) ?_
    refine va_get (D := G) (ci := 5) (v := .int 0) (C := RX6) (T := TX6) (N := 19) hx hb hts iX6_count_X6 hown hK hP 0 rfl rfl 10 (by decide) (hts (.fieldLink RX6 278 "TileHouse" "round" "I") (by decide +kernel)) (fun _ h9 => h9) rfl dX6_count_95 ?_
    exact W.iret (v := 0) hx hb hr (fun t ht hW => ⟨0, rfl, rfl, ht⟩) (fun _ h => by cases h) dX6_count_98
  · skip
    refine lv_tableIn (tgt := 99) hx hb dX6_count_1 (by decide) (by decide) rfl (by decide) ?_
    refine lv_aload_n hx hb dX6_count_99 rfl (lv_at hl 0 rfl) ?_
    refine va_get (D := G) (ci := 5) (v := .int 0) (C := RX6) (T := TX6) (N := 19) hx hb hts iX6_count_X6 hown hK hP 0 rfl rfl 11 (by decide) (hts (.fieldLink RX6 200 "TileHouse" "stays" "I") (by decide +kernel)) (fun _ h9 => h9) rfl dX6_count_100 ?_
    exact W.iret (v := 0) hx hb hr (fun t ht hW => ⟨0, rfl, rfl, ht⟩) (fun _ h => by cases h) dX6_count_103
  · skip
    refine lv_tableIn (tgt := 104) hx hb dX6_count_1 (by decide) (by decide) rfl (by decide) ?_
    refine lv_aload_n hx hb dX6_count_104 rfl (lv_at hl 0 rfl) ?_
    refine va_get (D := G) (ci := 5) (v := .int 0) (C := RX6) (T := TX6) (N := 19) hx hb hts iX6_count_X6 hown hK hP 0 rfl rfl 12 (by decide) (hts (.fieldLink RX6 191 "TileHouse" "bets" "I") (by decide +kernel)) (fun _ h9 => h9) rfl dX6_count_105 ?_
    exact W.iret (v := 0) hx hb hr (fun t ht hW => ⟨0, rfl, rfl, ht⟩) (fun _ h => by cases h) dX6_count_108
  · skip
    refine lv_tableIn (tgt := 109) hx hb dX6_count_1 (by decide) (by decide) rfl (by decide) ?_
    refine lv_aload_n hx hb dX6_count_109 rfl (lv_at hl 0 rfl) ?_
    refine va_get (D := G) (ci := 5) (v := .ref wl) (C := RX6) (T := TX6) (N := 19) hx hb hts iX6_count_X6 hown hK hP 0 rfl rfl 1 (by decide) (hts (.fieldLink RX6 18 "TileHouse" "bricks" "LTileHouse$Wall;") (by decide +kernel)) (fun _ h9 => h9) rfl dX6_count_110 ?_
    have hPc := hP.sub (ws' := [(wl, .inr (3, [y0, .int 0, y2, .int 0]))]) [1] rfl
    refine q_calli (va_runV (As := []) (rest := []) ⟨hx, hb, hml, hown, hts⟩ (c_X4_left0 l G k wl (y0) (y2) (.int 0)) (cwV 0 hts gX6_count_X4_left rfl rfl rfl (by decide +kernel) ⟨Nat.le_of_ble_eq_true rfl, Nat.le_of_ble_eq_true rfl⟩) ⟨pr_bl, va_recv hK hPc (ci := 3) (q0 := 0) rfl rfl, pr_pre hPc hK hN⟩ rfl rfl hl.1 rfl (lv_room (Nat.le_of_ble_eq_true rfl)) dX6_count_113 ⟨Nat.le_of_ble_eq_true rfl, Nat.le_of_ble_eq_true rfl⟩) (fun r1 hr1 => ?_)
    obtain rfl : r1 = 0 := hr1
    exact W.iret (v := 0) hx hb hr (fun t ht hW => ⟨0, rfl, rfl, ht⟩) (fun _ h => by cases h) dX6_count_116
  · skip
    refine lv_tableIn (tgt := 117) hx hb dX6_count_1 (by decide) (by decide) rfl (by decide) ?_
    refine lv_aload_n hx hb dX6_count_117 rfl (lv_at hl 0 rfl) ?_
    refine va_get (D := G) (ci := 5) (v := .ref wl) (C := RX6) (T := TX6) (N := 19) hx hb hts iX6_count_X6 hown hK hP 0 rfl rfl 1 (by decide) (hts (.fieldLink RX6 18 "TileHouse" "bricks" "LTileHouse$Wall;") (by decide +kernel)) (fun _ h9 => h9) rfl dX6_count_118 ?_
    refine va_get (D := G) (ci := 3) (v := .int 0) (C := RX4) (T := TX4) (N := 4) hx hb hts iX6_count_X4 hown hK hP 1 rfl rfl 3 (by decide) (hts (.fieldLink RX6 175 "TileHouse$Wall" "fours" "I") (by decide +kernel)) (fun _ h9 => h9) rfl dX6_count_121 ?_
    exact W.iret (v := 0) hx hb hr (fun t ht hW => ⟨0, rfl, rfl, ht⟩) (fun _ h => by cases h) dX6_count_124
  · skip
    refine lv_tableIn (tgt := 125) hx hb dX6_count_1 (by decide) (by decide) rfl (by decide) ?_
    refine lv_aload_n hx hb dX6_count_125 rfl (lv_at hl 0 rfl) ?_
    refine va_get (D := G) (ci := 5) (v := .ref wl) (C := RX6) (T := TX6) (N := 19) hx hb hts iX6_count_X6 hown hK hP 0 rfl rfl 1 (by decide) (hts (.fieldLink RX6 18 "TileHouse" "bricks" "LTileHouse$Wall;") (by decide +kernel)) (fun _ h9 => h9) rfl dX6_count_126 ?_
    have hPc := hP.sub (ws' := [(wl, .inr (3, [y0, .int 0, y2, .int 0]))]) [1] rfl
    refine q_calli (va_runV (As := []) (rest := []) ⟨hx, hb, hml, hown, hts⟩ (c_X4_signs0 l G k wl (y0) (y2) (.int 0)) (cwV 0 hts gX6_count_X4_signs rfl rfl rfl (by decide +kernel) ⟨Nat.le_of_ble_eq_true rfl, Nat.le_of_ble_eq_true rfl⟩) ⟨pr_bl, va_recv hK hPc (ci := 3) (q0 := 0) rfl rfl, pr_pre hPc hK hN⟩ rfl rfl hl.1 rfl (lv_room (Nat.le_of_ble_eq_true rfl)) dX6_count_129 ⟨Nat.le_of_ble_eq_true rfl, Nat.le_of_ble_eq_true rfl⟩) (fun r2 hr2 => ?_)
    obtain rfl : r2 = 0 := hr2
    exact W.iret (v := 0) hx hb hr (fun t ht hW => ⟨0, rfl, rfl, ht⟩) (fun _ h => by cases h) dX6_count_132
  · skip
    refine lv_tableIn (tgt := 133) hx hb dX6_count_1 (by decide) (by decide) rfl (by decide) ?_
    refine lv_aload_n hx hb dX6_count_133 rfl (lv_at hl 0 rfl) ?_
    refine va_get (D := G) (ci := 5) (v := .int 0) (C := RX6) (T := TX6) (N := 19) hx hb hts iX6_count_X6 hown hK hP 0 rfl rfl 13 (by decide) (hts (.fieldLink RX6 54 "TileHouse" "ended" "Z") (by decide +kernel)) (fun _ h9 => h9) rfl dX6_count_134 ?_
    refine lv_if_eq (tgt := 144) hx hb dX6_count_137 (by decide) (fun _ => ?_) (fun c9 => absurd (by decide) c9)
    refine lv_iconst (v := 0) hx hb dX6_count_144 (by decide) ?_
    exact W.iret (v := 0) hx hb hr (fun t ht hW => ⟨0, rfl, rfl, ht⟩) (fun _ h => by cases h) dX6_count_145
  · skip
    refine lv_tableIn (tgt := 146) hx hb dX6_count_1 (by decide) (by decide) rfl (by decide) ?_
    refine lv_aload_n hx hb dX6_count_146 rfl (lv_at hl 0 rfl) ?_
    refine va_get (D := G) (ci := 5) (v := .int 0) (C := RX6) (T := TX6) (N := 19) hx hb hts iX6_count_X6 hown hK hP 0 rfl rfl 14 (by decide) (hts (.fieldLink RX6 284 "TileHouse" "handsEnded" "I") (by decide +kernel)) (fun _ h9 => h9) rfl dX6_count_147 ?_
    exact W.iret (v := 0) hx hb hr (fun t ht hW => ⟨0, rfl, rfl, ht⟩) (fun _ h => by cases h) dX6_count_150
  · skip
    refine lv_tableIn (tgt := 151) hx hb dX6_count_1 (by decide) (by decide) rfl (by decide) ?_
    refine lv_aload_n hx hb dX6_count_151 rfl (lv_at hl 0 rfl) ?_
    refine va_get (D := G) (ci := 5) (v := .int 0) (C := RX6) (T := TX6) (N := 19) hx hb hts iX6_count_X6 hown hK hP 0 rfl rfl 6 (by decide) (hts (.fieldLink RX6 83 "TileHouse" "winCount" "I") (by decide +kernel)) (fun _ h9 => h9) rfl dX6_count_152 ?_
    exact W.iret (v := 0) hx hb hr (fun t ht hW => ⟨0, rfl, rfl, ht⟩) (fun _ h => by cases h) dX6_count_155
  · skip
    refine lv_tableIn (tgt := 156) hx hb dX6_count_1 (by decide) (by decide) rfl (by decide) ?_
    refine lv_aload_n hx hb dX6_count_156 rfl (lv_at hl 0 rfl) ?_
    refine va_get (D := G) (ci := 5) (v := .int 0) (C := RX6) (T := TX6) (N := 19) hx hb hts iX6_count_X6 hown hK hP 0 rfl rfl 7 (by decide) (hts (.fieldLink RX6 45 "TileHouse" "phase" "I") (by decide +kernel)) (fun _ h9 => h9) rfl dX6_count_157 ?_
    refine lv_if_ne (tgt := 167) hx hb dX6_count_160 (by decide) (fun c9 => absurd (by decide) c9) (fun _ => ?_)
    refine lv_iconst (v := (-1)) hx hb dX6_count_163 (by decide) ?_
    refine lv_goto (tgt := 171) hx hb dX6_count_164 (by decide) ?_
    exact W.iret (v := (-1)) hx hb hr (fun t ht hW => ⟨(-1), rfl, rfl, ht⟩) (fun _ h => by cases h) dX6_count_171
def deskF (p : Int32) : Int32 := if p = 0 ∨ p = 1 ∨ p = 2 ∨ p = 3 then 0 else -1
theorem deskF_out {p1 : Int32} (h : p1.toInt < 0 ∨ 3 < p1.toInt) : deskF p1 = -1 := by
  have h9 : ∀ v : Int32, 0 ≤ v.toInt → v.toInt ≤ 3 → ¬ p1 = v := fun v a b e => by subst e; omega
  unfold deskF
  rw [if_neg]
  rintro (e | e | e | e)
  · exact h9 0 (by decide) (by decide) e
  · exact h9 1 (by decide) (by decide) e
  · exact h9 2 (by decide) (by decide) e
  · exact h9 3 (by decide) (by decide) e
theorem iX6_desk_X1 : ∀ w ∈ u_ws RX1 TX1 19, w ∈ wsX6_desk := by decide +kernel
theorem iX6_desk_X6 : ∀ w ∈ u_ws RX6 TX6 19, w ∈ wsX6_desk := by decide +kernel
set_option maxHeartbeats 4000000 in
set_option maxRecDepth 100000 in
theorem c_X6_desk0 (l : Launch) (G : va_G) (k : Nat → ClassId) (h0 : Nat) (t0 : Nat) (dj : Nat) (p0 : Int32) (x0 : Value) (x1 : Value) (x2 : Value) (x3 : Value) (x6 : Value) (x7 : Value) (x8 : Value) (x9 : Value) (x10 : Value) (x11 : Value) (x12 : Value) (x13 : Value) (x14 : Value) (x15 : Value) (x16 : Value) (x17 : Value) (x18 : Value) (y5 : Value) (y6 : Value) (y7 : Value) (y8 : Value) (y9 : Value) (y10 : Value) (y11 : Value) (y12 : Value) (y13 : Value) (y14 : Value) (y15 : Value) (y16 : Value) (y17 : Value) (y18 : Value) : Met l yX6_desk wsX6_desk ({ frames := 0, cells := 0, slots := 0, locals := 0 }) (va_Pc [.ref h0, .int p0] (pr G k [(h0, .inr (5, [x0, x1, x2, x3, .ref t0, .ref dj, x6, x7, x8, x9, x10, x11, x12, x13, x14, x15, x16, x17, x18])), (dj, .inr (0, [.int 0, .int 0, .int 0, .long 0, .int 0, y5, y6, y7, y8, y9, y10, y11, y12, y13, y14, y15, y16, y17, y18]))])) (vp_Si (fun r => r = deskF p0)) 0 0 (fun _ => False) := by
  refine Met.ofW (cc := cX6_desk) (maxL := 2) (ret := (some .int)) (by decide) rfl ?_
  intro p e s m args below meth c s₁ B hml hv
  obtain ⟨rfl, hP, hK, hN⟩ := hv
  have hx := B.exec
  have hb := B.bytes
  have hr := B.returns
  have hts := atoms_spec (ws := wsX6_desk) B.pre
  have hown : s.vm.findClass RX6 = some m.cls := findClass_of_methodNamed B.named
  have hlocks := B.notSynchronized
  have hl := lv_entry ([.ref h0, .int p0]) (n := 2) (Nat.le_of_ble_eq_true rfl)
  rw [lg_entry_eq]
  generalize (lg_sl ([.ref h0, .int p0]) ++ List.replicate (2 - (lg_sl ([.ref h0, .int p0])).length) Slot.unset).toArray = ls at hl ⊢
  have hl : lv_has ls 2 [(0, .ref h0), (1, .int p0)] := hl
  refine lv_iload_n hx hb dX6_desk_0 rfl (lv_at hl 1 rfl) ?_
  rcases tsw3 p0 with hO | rfl | rfl | rfl | rfl
  · skip
    refine lv_tableOut (tgt := 64) hx hb dX6_desk_1 hO (by decide) ?_
    refine lv_iconst (v := (-1)) hx hb dX6_desk_64 (by decide) ?_
    exact W.iret (v := (-1)) hx hb hr (fun t ht hW => ⟨(-1), rfl, (deskF_out hO).symm, ht⟩) (fun _ h => by cases h) dX6_desk_65
  · skip
    refine lv_tableIn (tgt := 32) hx hb dX6_desk_1 (by decide) (by decide) rfl (by decide) ?_
    refine lv_aload_n hx hb dX6_desk_32 rfl (lv_at hl 0 rfl) ?_
    refine va_get (D := G) (ci := 5) (v := .ref dj) (C := RX6) (T := TX6) (N := 19) hx hb hts iX6_desk_X6 hown hK hP 0 rfl rfl 5 (by decide) (hts (.fieldLink RX6 42 "TileHouse" "deskJudge" "LTileHouse$Judge;") (by decide +kernel)) (fun _ h9 => h9) rfl dX6_desk_33 ?_
    refine va_get (D := G) (ci := 0) (v := .int 0) (C := RX1) (T := TX1) (N := 19) hx hb hts iX6_desk_X1 hown hK hP 1 rfl rfl 0 (by decide) (hts (.fieldLink RX6 194 "TileHouse$Judge" "base" "I") (by decide +kernel)) (fun _ h9 => h9) rfl dX6_desk_36 ?_
    exact W.iret (v := 0) hx hb hr (fun t ht hW => ⟨0, rfl, rfl, ht⟩) (fun _ h => by cases h) dX6_desk_39
  · skip
    refine lv_tableIn (tgt := 40) hx hb dX6_desk_1 (by decide) (by decide) rfl (by decide) ?_
    refine lv_aload_n hx hb dX6_desk_40 rfl (lv_at hl 0 rfl) ?_
    refine va_get (D := G) (ci := 5) (v := .ref dj) (C := RX6) (T := TX6) (N := 19) hx hb hts iX6_desk_X6 hown hK hP 0 rfl rfl 5 (by decide) (hts (.fieldLink RX6 42 "TileHouse" "deskJudge" "LTileHouse$Judge;") (by decide +kernel)) (fun _ h9 => h9) rfl dX6_desk_41 ?_
    refine va_get (D := G) (ci := 0) (v := .int 0) (C := RX1) (T := TX1) (N := 19) hx hb hts iX6_desk_X1 hown hK hP 1 rfl rfl 1 (by decide) (hts (.fieldLink RX6 307 "TileHouse$Judge" "han" "I") (by decide +kernel)) (fun _ h9 => h9) rfl dX6_desk_44 ?_
    exact W.iret (v := 0) hx hb hr (fun t ht hW => ⟨0, rfl, rfl, ht⟩) (fun _ h => by cases h) dX6_desk_47
  · skip
    refine lv_tableIn (tgt := 48) hx hb dX6_desk_1 (by decide) (by decide) rfl (by decide) ?_
    refine lv_aload_n hx hb dX6_desk_48 rfl (lv_at hl 0 rfl) ?_
    refine va_get (D := G) (ci := 5) (v := .ref dj) (C := RX6) (T := TX6) (N := 19) hx hb hts iX6_desk_X6 hown hK hP 0 rfl rfl 5 (by decide) (hts (.fieldLink RX6 42 "TileHouse" "deskJudge" "LTileHouse$Judge;") (by decide +kernel)) (fun _ h9 => h9) rfl dX6_desk_49 ?_
    refine va_get (D := G) (ci := 0) (v := .int 0) (C := RX1) (T := TX1) (N := 19) hx hb hts iX6_desk_X1 hown hK hP 1 rfl rfl 2 (by decide) (hts (.fieldLink RX6 310 "TileHouse$Judge" "fu" "I") (by decide +kernel)) (fun _ h9 => h9) rfl dX6_desk_52 ?_
    exact W.iret (v := 0) hx hb hr (fun t ht hW => ⟨0, rfl, rfl, ht⟩) (fun _ h => by cases h) dX6_desk_55
  · skip
    refine lv_tableIn (tgt := 56) hx hb dX6_desk_1 (by decide) (by decide) rfl (by decide) ?_
    refine lv_aload_n hx hb dX6_desk_56 rfl (lv_at hl 0 rfl) ?_
    refine va_get (D := G) (ci := 5) (v := .ref dj) (C := RX6) (T := TX6) (N := 19) hx hb hts iX6_desk_X6 hown hK hP 0 rfl rfl 5 (by decide) (hts (.fieldLink RX6 42 "TileHouse" "deskJudge" "LTileHouse$Judge;") (by decide +kernel)) (fun _ h9 => h9) rfl dX6_desk_57 ?_
    refine va_get (D := G) (ci := 0) (v := .int 0) (C := RX1) (T := TX1) (N := 19) hx hb hts iX6_desk_X1 hown hK hP 1 rfl rfl 4 (by decide) (hts (.fieldLink RX6 313 "TileHouse$Judge" "ways" "I") (by decide +kernel)) (fun _ h9 => h9) rfl dX6_desk_60 ?_
    exact W.iret (v := 0) hx hb hr (fun t ht hW => ⟨0, rfl, rfl, ht⟩) (fun _ h => by cases h) dX6_desk_63
theorem iX6_deskForms_X1 : ∀ w ∈ u_ws RX1 TX1 19, w ∈ wsX6_deskForms := by decide +kernel
theorem iX6_deskForms_X6 : ∀ w ∈ u_ws RX6 TX6 19, w ∈ wsX6_deskForms := by decide +kernel
set_option maxHeartbeats 4000000 in
set_option maxRecDepth 100000 in
theorem c_X6_deskForms0 (l : Launch) (G : va_G) (k : Nat → ClassId) (h0 : Nat) (t0 : Nat) (dj : Nat) (x0 : Value) (x1 : Value) (x2 : Value) (x3 : Value) (x6 : Value) (x7 : Value) (x8 : Value) (x9 : Value) (x10 : Value) (x11 : Value) (x12 : Value) (x13 : Value) (x14 : Value) (x15 : Value) (x16 : Value) (x17 : Value) (x18 : Value) (y5 : Value) (y6 : Value) (y7 : Value) (y8 : Value) (y9 : Value) (y10 : Value) (y11 : Value) (y12 : Value) (y13 : Value) (y14 : Value) (y15 : Value) (y16 : Value) (y17 : Value) (y18 : Value) : Met l yX6_deskForms wsX6_deskForms ({ frames := 0, cells := 0, slots := 0, locals := 0 }) (va_Pc [.ref h0] (pr G k [(h0, .inr (5, [x0, x1, x2, x3, .ref t0, .ref dj, x6, x7, x8, x9, x10, x11, x12, x13, x14, x15, x16, x17, x18])), (dj, .inr (0, [.int 0, .int 0, .int 0, .long 0, .int 0, y5, y6, y7, y8, y9, y10, y11, y12, y13, y14, y15, y16, y17, y18]))])) (vp_Sl (fun r => r = 0)) 0 0 (fun _ => False) := by
  refine Met.ofW (cc := cX6_deskForms) (maxL := 1) (ret := (some .long)) (by decide) rfl ?_
  intro p e s m args below meth c s₁ B hml hv
  obtain ⟨rfl, hP, hK, hN⟩ := hv
  have hx := B.exec
  have hb := B.bytes
  have hr := B.returns
  have hts := atoms_spec (ws := wsX6_deskForms) B.pre
  have hown : s.vm.findClass RX6 = some m.cls := findClass_of_methodNamed B.named
  have hlocks := B.notSynchronized
  have hl := lv_entry ([.ref h0]) (n := 1) (Nat.le_of_ble_eq_true rfl)
  rw [lg_entry_eq]
  generalize (lg_sl ([.ref h0]) ++ List.replicate (1 - (lg_sl ([.ref h0])).length) Slot.unset).toArray = ls at hl ⊢
  have hl : lv_has ls 1 [(0, .ref h0)] := hl
  refine lv_aload_n hx hb dX6_deskForms_0 rfl (lv_at hl 0 rfl) ?_
  refine va_get (D := G) (ci := 5) (v := .ref dj) (C := RX6) (T := TX6) (N := 19) hx hb hts iX6_deskForms_X6 hown hK hP 0 rfl rfl 5 (by decide) (hts (.fieldLink RX6 42 "TileHouse" "deskJudge" "LTileHouse$Judge;") (by decide +kernel)) (fun _ h9 => h9) rfl dX6_deskForms_1 ?_
  refine va_get (D := G) (ci := 0) (v := .long 0) (C := RX1) (T := TX1) (N := 19) hx hb hts iX6_deskForms_X1 hown hK hP 1 rfl rfl 3 (by decide) (hts (.fieldLink RX6 316 "TileHouse$Judge" "best" "J") (by decide +kernel)) (fun _ h9 => h9) rfl dX6_deskForms_4 ?_
  exact W.lret (v := 0) hx hb hr (fun t ht hW => ⟨0, rfl, rfl, ht⟩) (fun _ h => by cases h) dX6_deskForms_7
theorem iX6_deskWaits_X6 : ∀ w ∈ u_ws RX6 TX6 19, w ∈ wsX6_deskWaits := by decide +kernel
set_option maxHeartbeats 4000000 in
set_option maxRecDepth 100000 in
theorem c_X6_deskWaits0 (l : Launch) (G : va_G) (k : Nat → ClassId) (h0 : Nat) (t0 : Nat) (x0 : Value) (x1 : Value) (x2 : Value) (x3 : Value) (x5 : Value) (x6 : Value) (x7 : Value) (x8 : Value) (x9 : Value) (x10 : Value) (x11 : Value) (x12 : Value) (x13 : Value) (x14 : Value) (x15 : Value) (x16 : Value) (x17 : Value) (x18 : Value) (z0 : Value) (z1 : Value) (z2 : Value) (z3 : Value) : Met l yX6_deskWaits wsX6_deskWaits ({ frames := 3, cells := 0, slots := 0, locals := 65 }) (va_Pc [.ref h0] (pr G k [(h0, .inr (5, [x0, x1, x2, x3, .ref t0, x5, x6, x7, x8, x9, x10, x11, x12, x13, x14, x15, x16, x17, x18])), (t0, .inr (2, [z0, z1, z2, z3, .int 0, .int 0]))])) (vp_Sl (fun r => r = 0)) 0 0 (fun _ => False) := by
  refine Met.ofW (cc := cX6_deskWaits) (maxL := 1) (ret := (some .long)) (by decide) rfl ?_
  intro p e s m args below meth c s₁ B hml hv
  obtain ⟨rfl, hP, hK, hN⟩ := hv
  have hx := B.exec
  have hb := B.bytes
  have hr := B.returns
  have hts := atoms_spec (ws := wsX6_deskWaits) B.pre
  have hown : s.vm.findClass RX6 = some m.cls := findClass_of_methodNamed B.named
  have hlocks := B.notSynchronized
  have hl := lv_entry ([.ref h0]) (n := 1) (Nat.le_of_ble_eq_true rfl)
  rw [lg_entry_eq]
  generalize (lg_sl ([.ref h0]) ++ List.replicate (1 - (lg_sl ([.ref h0])).length) Slot.unset).toArray = ls at hl ⊢
  have hl : lv_has ls 1 [(0, .ref h0)] := hl
  refine lv_aload_n hx hb dX6_deskWaits_0 rfl (lv_at hl 0 rfl) ?_
  refine va_get (D := G) (ci := 5) (v := .ref t0) (C := RX6) (T := TX6) (N := 19) hx hb hts iX6_deskWaits_X6 hown hK hP 0 rfl rfl 4 (by decide) (hts (.fieldLink RX6 38 "TileHouse" "deskTiles" "LTileHouse$Tiles;") (by decide +kernel)) (fun _ h9 => h9) rfl dX6_deskWaits_1 ?_
  have hPc := hP.sub (ws' := [(t0, .inr (2, [z0, z1, z2, z3, .int 0, .int 0]))]) [1] rfl
  refine q_calll (va_runV (As := []) (rest := []) ⟨hx, hb, hml, hown, hts⟩ (c_X3_waiting0 l G k t0 (z0) (z1) (z2) (z3)) (cwV 0 hts gX6_deskWaits_X3_waiting rfl rfl rfl (by decide +kernel) ⟨Nat.le_of_ble_eq_true rfl, Nat.le_of_ble_eq_true rfl⟩) ⟨pr_bl, va_recv hK hPc (ci := 2) (q0 := 0) rfl rfl, pr_pre hPc hK hN⟩ rfl rfl hl.1 rfl (lv_room (Nat.le_of_ble_eq_true rfl)) dX6_deskWaits_4 ⟨Nat.le_of_ble_eq_true rfl, Nat.le_of_ble_eq_true rfl⟩) (fun r1 hr1 => ?_)
  obtain rfl : r1 = 0 := hr1
  exact W.lret (v := 0) hx hb hr (fun t ht hW => ⟨0, rfl, rfl, ht⟩) (fun _ h => by cases h) dX6_deskWaits_7
end
