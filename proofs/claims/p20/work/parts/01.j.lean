-- ===== PART A: goes FIRST, ahead of the names: the tables' words, and 'selects' of the private methods out of them =====
/-- a private method of a class that the tables say can be made, by its rows of tables_1 -/
noncomputable def lw_okq (q : MethodName × Nat) : Prop := (q.1.cls ≠ "java/lang/invoke/MethodHandle" ∧ q.1.cls ≠ "java/lang/invoke/VarHandle") ∧ Cond.instantiable q.1.cls q.2 ∈ tables_1 ∧ Cond.privateMethod q.1 ∈ tables_1 ∧ Cond.instanceMethod q.1 ∈ tables_1
theorem lw_p0 : lw_okq (⟨"TileHouse", "at", "(I)LTileHouse$Seat;"⟩, 19) := ⟨⟨by decide +kernel, by decide +kernel⟩, List.mem_of_getElem? (i := 16) (by decide +kernel), List.mem_of_getElem? (i := 303) (by decide +kernel), List.mem_of_getElem? (i := 304) (by decide +kernel)⟩
theorem lw_p1 : lw_okq (⟨"TileHouse", "drawTile", "(IZ)V"⟩, 19) := ⟨⟨by decide +kernel, by decide +kernel⟩, List.mem_of_getElem? (i := 16) (by decide +kernel), List.mem_of_getElem? (i := 326) (by decide +kernel), List.mem_of_getElem? (i := 327) (by decide +kernel)⟩
theorem lw_p2 : lw_okq (⟨"TileHouse", "mayThrow", "(I)Z"⟩, 19) := ⟨⟨by decide +kernel, by decide +kernel⟩, List.mem_of_getElem? (i := 16) (by decide +kernel), List.mem_of_getElem? (i := 343) (by decide +kernel), List.mem_of_getElem? (i := 344) (by decide +kernel)⟩
theorem lw_p3 : lw_okq (⟨"TileHouse", "mayBet", "(LTileHouse$Seat;)Z"⟩, 19) := ⟨⟨by decide +kernel, by decide +kernel⟩, List.mem_of_getElem? (i := 16) (by decide +kernel), List.mem_of_getElem? (i := 359) (by decide +kernel), List.mem_of_getElem? (i := 360) (by decide +kernel)⟩
theorem lw_p4 : lw_okq (⟨"TileHouse$Tiles", "isSetsAndPair", "()Z"⟩, 6) := ⟨⟨by decide +kernel, by decide +kernel⟩, List.mem_of_getElem? (i := 118) (by decide +kernel), List.mem_of_getElem? (i := 396) (by decide +kernel), List.mem_of_getElem? (i := 397) (by decide +kernel)⟩
theorem lw_p5 : lw_okq (⟨"TileHouse$Tiles", "splitsBeside", "(I)Z"⟩, 6) := ⟨⟨by decide +kernel, by decide +kernel⟩, List.mem_of_getElem? (i := 118) (by decide +kernel), List.mem_of_getElem? (i := 400) (by decide +kernel), List.mem_of_getElem? (i := 401) (by decide +kernel)⟩
theorem lw_p6 : lw_okq (⟨"TileHouse", "someoneSays", "()Z"⟩, 19) := ⟨⟨by decide +kernel, by decide +kernel⟩, List.mem_of_getElem? (i := 16) (by decide +kernel), List.mem_of_getElem? (i := 416) (by decide +kernel), List.mem_of_getElem? (i := 417) (by decide +kernel)⟩
theorem lw_p7 : lw_okq (⟨"TileHouse", "winByTile", "()V"⟩, 19) := ⟨⟨by decide +kernel, by decide +kernel⟩, List.mem_of_getElem? (i := 16) (by decide +kernel), List.mem_of_getElem? (i := 420) (by decide +kernel), List.mem_of_getElem? (i := 421) (by decide +kernel)⟩
theorem lw_p8 : lw_okq (⟨"TileHouse", "weighHand", "(IZ)I"⟩, 19) := ⟨⟨by decide +kernel, by decide +kernel⟩, List.mem_of_getElem? (i := 16) (by decide +kernel), List.mem_of_getElem? (i := 424) (by decide +kernel), List.mem_of_getElem? (i := 425) (by decide +kernel)⟩
theorem lw_p9 : lw_okq (⟨"TileHouse", "toldForms", "(LTileHouse$Seat;Z)J"⟩, 19) := ⟨⟨by decide +kernel, by decide +kernel⟩, List.mem_of_getElem? (i := 16) (by decide +kernel), List.mem_of_getElem? (i := 428) (by decide +kernel), List.mem_of_getElem? (i := 429) (by decide +kernel)⟩
theorem lw_p10 : lw_okq (⟨"TileHouse", "firstDraw", "(IZ)J"⟩, 19) := ⟨⟨by decide +kernel, by decide +kernel⟩, List.mem_of_getElem? (i := 16) (by decide +kernel), List.mem_of_getElem? (i := 438) (by decide +kernel), List.mem_of_getElem? (i := 439) (by decide +kernel)⟩
theorem lw_p11 : lw_okq (⟨"TileHouse", "windOf", "(I)I"⟩, 19) := ⟨⟨by decide +kernel, by decide +kernel⟩, List.mem_of_getElem? (i := 16) (by decide +kernel), List.mem_of_getElem? (i := 457) (by decide +kernel), List.mem_of_getElem? (i := 458) (by decide +kernel)⟩
theorem lw_p12 : lw_okq (⟨"TileHouse$Judge", "toldOnes", "(J)J"⟩, 19) := ⟨⟨by decide +kernel, by decide +kernel⟩, List.mem_of_getElem? (i := 47) (by decide +kernel), List.mem_of_getElem? (i := 468) (by decide +kernel), List.mem_of_getElem? (i := 469) (by decide +kernel)⟩
theorem lw_p13 : lw_okq (⟨"TileHouse$Judge", "tileForms", "(J)J"⟩, 19) := ⟨⟨by decide +kernel, by decide +kernel⟩, List.mem_of_getElem? (i := 47) (by decide +kernel), List.mem_of_getElem? (i := 476) (by decide +kernel), List.mem_of_getElem? (i := 477) (by decide +kernel)⟩
theorem lw_p14 : lw_okq (⟨"TileHouse$Judge", "isNineGates", "(J)Z"⟩, 19) := ⟨⟨by decide +kernel, by decide +kernel⟩, List.mem_of_getElem? (i := 47) (by decide +kernel), List.mem_of_getElem? (i := 490) (by decide +kernel), List.mem_of_getElem? (i := 491) (by decide +kernel)⟩
theorem lw_p15 : lw_okq (⟨"TileHouse$Judge", "offer", "(JI)V"⟩, 19) := ⟨⟨by decide +kernel, by decide +kernel⟩, List.mem_of_getElem? (i := 47) (by decide +kernel), List.mem_of_getElem? (i := 496) (by decide +kernel), List.mem_of_getElem? (i := 497) (by decide +kernel)⟩
noncomputable def lw_privs_1 : List (MethodName × Nat) := [(⟨"TileHouse", "at", "(I)LTileHouse$Seat;"⟩, 19), (⟨"TileHouse", "drawTile", "(IZ)V"⟩, 19), (⟨"TileHouse", "mayThrow", "(I)Z"⟩, 19), (⟨"TileHouse", "mayBet", "(LTileHouse$Seat;)Z"⟩, 19), (⟨"TileHouse$Tiles", "isSetsAndPair", "()Z"⟩, 6), (⟨"TileHouse$Tiles", "splitsBeside", "(I)Z"⟩, 6), (⟨"TileHouse", "someoneSays", "()Z"⟩, 19), (⟨"TileHouse", "winByTile", "()V"⟩, 19), (⟨"TileHouse", "weighHand", "(IZ)I"⟩, 19), (⟨"TileHouse", "toldForms", "(LTileHouse$Seat;Z)J"⟩, 19), (⟨"TileHouse", "firstDraw", "(IZ)J"⟩, 19), (⟨"TileHouse", "windOf", "(I)I"⟩, 19), (⟨"TileHouse$Judge", "toldOnes", "(J)J"⟩, 19), (⟨"TileHouse$Judge", "tileForms", "(J)J"⟩, 19), (⟨"TileHouse$Judge", "isNineGates", "(J)Z"⟩, 19), (⟨"TileHouse$Judge", "offer", "(JI)V"⟩, 19)]
theorem lw_r1 : ∀ q ∈ lw_privs_1, lw_okq q := List.forall_mem_cons.mpr ⟨lw_p0, List.forall_mem_cons.mpr ⟨lw_p1, List.forall_mem_cons.mpr ⟨lw_p2, List.forall_mem_cons.mpr ⟨lw_p3, List.forall_mem_cons.mpr ⟨lw_p4, List.forall_mem_cons.mpr ⟨lw_p5, List.forall_mem_cons.mpr ⟨lw_p6, List.forall_mem_cons.mpr ⟨lw_p7, List.forall_mem_cons.mpr ⟨lw_p8, List.forall_mem_cons.mpr ⟨lw_p9, List.forall_mem_cons.mpr ⟨lw_p10, List.forall_mem_cons.mpr ⟨lw_p11, List.forall_mem_cons.mpr ⟨lw_p12, List.forall_mem_cons.mpr ⟨lw_p13, List.forall_mem_cons.mpr ⟨lw_p14, List.forall_mem_cons.mpr ⟨lw_p15, fun _ h => absurd h List.not_mem_nil⟩⟩⟩⟩⟩⟩⟩⟩⟩⟩⟩⟩⟩⟩⟩⟩
theorem lw_p16 : lw_okq (⟨"TileHouse$Judge", "isBetter", "(IIIJ)Z"⟩, 19) := ⟨⟨by decide +kernel, by decide +kernel⟩, List.mem_of_getElem? (i := 47) (by decide +kernel), List.mem_of_getElem? (i := 518) (by decide +kernel), List.mem_of_getElem? (i := 519) (by decide +kernel)⟩
theorem lw_p17 : lw_okq (⟨"TileHouse$Judge", "findThrees", "()I"⟩, 19) := ⟨⟨by decide +kernel, by decide +kernel⟩, List.mem_of_getElem? (i := 47) (by decide +kernel), List.mem_of_getElem? (i := 524) (by decide +kernel), List.mem_of_getElem? (i := 525) (by decide +kernel)⟩
theorem lw_p18 : lw_okq (⟨"TileHouse$Judge", "chosenThrees", "(I)J"⟩, 19) := ⟨⟨by decide +kernel, by decide +kernel⟩, List.mem_of_getElem? (i := 47) (by decide +kernel), List.mem_of_getElem? (i := 528) (by decide +kernel), List.mem_of_getElem? (i := 529) (by decide +kernel)⟩
theorem lw_p19 : lw_okq (⟨"TileHouse$Judge", "fillWay", "(J)Z"⟩, 19) := ⟨⟨by decide +kernel, by decide +kernel⟩, List.mem_of_getElem? (i := 47) (by decide +kernel), List.mem_of_getElem? (i := 532) (by decide +kernel), List.mem_of_getElem? (i := 533) (by decide +kernel)⟩
theorem lw_p20 : lw_okq (⟨"TileHouse$Judge", "weighWay", "()V"⟩, 19) := ⟨⟨by decide +kernel, by decide +kernel⟩, List.mem_of_getElem? (i := 47) (by decide +kernel), List.mem_of_getElem? (i := 538) (by decide +kernel), List.mem_of_getElem? (i := 539) (by decide +kernel)⟩
theorem lw_p21 : lw_okq (⟨"TileHouse$Judge", "likeRuns", "()J"⟩, 19) := ⟨⟨by decide +kernel, by decide +kernel⟩, List.mem_of_getElem? (i := 47) (by decide +kernel), List.mem_of_getElem? (i := 542) (by decide +kernel), List.mem_of_getElem? (i := 543) (by decide +kernel)⟩
theorem lw_p22 : lw_okq (⟨"TileHouse$Judge", "setForms", "()J"⟩, 19) := ⟨⟨by decide +kernel, by decide +kernel⟩, List.mem_of_getElem? (i := 47) (by decide +kernel), List.mem_of_getElem? (i := 546) (by decide +kernel), List.mem_of_getElem? (i := 547) (by decide +kernel)⟩
theorem lw_p23 : lw_okq (⟨"TileHouse$Judge", "endForms", "()J"⟩, 19) := ⟨⟨by decide +kernel, by decide +kernel⟩, List.mem_of_getElem? (i := 47) (by decide +kernel), List.mem_of_getElem? (i := 553) (by decide +kernel), List.mem_of_getElem? (i := 554) (by decide +kernel)⟩
theorem lw_p24 : lw_okq (⟨"TileHouse$Judge", "mayHaveCompleted", "(I)Z"⟩, 19) := ⟨⟨by decide +kernel, by decide +kernel⟩, List.mem_of_getElem? (i := 47) (by decide +kernel), List.mem_of_getElem? (i := 559) (by decide +kernel), List.mem_of_getElem? (i := 560) (by decide +kernel)⟩
theorem lw_p25 : lw_okq (⟨"TileHouse$Judge", "weighCompleted", "(JI)V"⟩, 19) := ⟨⟨by decide +kernel, by decide +kernel⟩, List.mem_of_getElem? (i := 47) (by decide +kernel), List.mem_of_getElem? (i := 563) (by decide +kernel), List.mem_of_getElem? (i := 564) (by decide +kernel)⟩
theorem lw_p26 : lw_okq (⟨"TileHouse$Judge", "isHidden", "(II)Z"⟩, 19) := ⟨⟨by decide +kernel, by decide +kernel⟩, List.mem_of_getElem? (i := 47) (by decide +kernel), List.mem_of_getElem? (i := 567) (by decide +kernel), List.mem_of_getElem? (i := 568) (by decide +kernel)⟩
theorem lw_p27 : lw_okq (⟨"TileHouse$Judge", "pairFu", "()I"⟩, 19) := ⟨⟨by decide +kernel, by decide +kernel⟩, List.mem_of_getElem? (i := 47) (by decide +kernel), List.mem_of_getElem? (i := 571) (by decide +kernel), List.mem_of_getElem? (i := 572) (by decide +kernel)⟩
theorem lw_p28 : lw_okq (⟨"TileHouse$Judge", "waitFu", "(I)I"⟩, 19) := ⟨⟨by decide +kernel, by decide +kernel⟩, List.mem_of_getElem? (i := 47) (by decide +kernel), List.mem_of_getElem? (i := 575) (by decide +kernel), List.mem_of_getElem? (i := 576) (by decide +kernel)⟩
theorem lw_p29 : lw_okq (⟨"TileHouse$Judge", "fuOf", "(IZ)I"⟩, 19) := ⟨⟨by decide +kernel, by decide +kernel⟩, List.mem_of_getElem? (i := 47) (by decide +kernel), List.mem_of_getElem? (i := 579) (by decide +kernel), List.mem_of_getElem? (i := 580) (by decide +kernel)⟩
theorem lw_p30 : lw_okq (⟨"TileHouse", "recordWin", "(III)V"⟩, 19) := ⟨⟨by decide +kernel, by decide +kernel⟩, List.mem_of_getElem? (i := 16) (by decide +kernel), List.mem_of_getElem? (i := 589) (by decide +kernel), List.mem_of_getElem? (i := 590) (by decide +kernel)⟩
theorem lw_p31 : lw_okq (⟨"TileHouse", "endHand", "(ZZ)V"⟩, 19) := ⟨⟨by decide +kernel, by decide +kernel⟩, List.mem_of_getElem? (i := 16) (by decide +kernel), List.mem_of_getElem? (i := 593) (by decide +kernel), List.mem_of_getElem? (i := 594) (by decide +kernel)⟩
noncomputable def lw_privs_2 : List (MethodName × Nat) := [(⟨"TileHouse$Judge", "isBetter", "(IIIJ)Z"⟩, 19), (⟨"TileHouse$Judge", "findThrees", "()I"⟩, 19), (⟨"TileHouse$Judge", "chosenThrees", "(I)J"⟩, 19), (⟨"TileHouse$Judge", "fillWay", "(J)Z"⟩, 19), (⟨"TileHouse$Judge", "weighWay", "()V"⟩, 19), (⟨"TileHouse$Judge", "likeRuns", "()J"⟩, 19), (⟨"TileHouse$Judge", "setForms", "()J"⟩, 19), (⟨"TileHouse$Judge", "endForms", "()J"⟩, 19), (⟨"TileHouse$Judge", "mayHaveCompleted", "(I)Z"⟩, 19), (⟨"TileHouse$Judge", "weighCompleted", "(JI)V"⟩, 19), (⟨"TileHouse$Judge", "isHidden", "(II)Z"⟩, 19), (⟨"TileHouse$Judge", "pairFu", "()I"⟩, 19), (⟨"TileHouse$Judge", "waitFu", "(I)I"⟩, 19), (⟨"TileHouse$Judge", "fuOf", "(IZ)I"⟩, 19), (⟨"TileHouse", "recordWin", "(III)V"⟩, 19), (⟨"TileHouse", "endHand", "(ZZ)V"⟩, 19)]
theorem lw_r2 : ∀ q ∈ lw_privs_2, lw_okq q := List.forall_mem_cons.mpr ⟨lw_p16, List.forall_mem_cons.mpr ⟨lw_p17, List.forall_mem_cons.mpr ⟨lw_p18, List.forall_mem_cons.mpr ⟨lw_p19, List.forall_mem_cons.mpr ⟨lw_p20, List.forall_mem_cons.mpr ⟨lw_p21, List.forall_mem_cons.mpr ⟨lw_p22, List.forall_mem_cons.mpr ⟨lw_p23, List.forall_mem_cons.mpr ⟨lw_p24, List.forall_mem_cons.mpr ⟨lw_p25, List.forall_mem_cons.mpr ⟨lw_p26, List.forall_mem_cons.mpr ⟨lw_p27, List.forall_mem_cons.mpr ⟨lw_p28, List.forall_mem_cons.mpr ⟨lw_p29, List.forall_mem_cons.mpr ⟨lw_p30, List.forall_mem_cons.mpr ⟨lw_p31, fun _ h => absurd h List.not_mem_nil⟩⟩⟩⟩⟩⟩⟩⟩⟩⟩⟩⟩⟩⟩⟩⟩
theorem lw_p32 : lw_okq (⟨"TileHouse", "someoneIsBroke", "()Z"⟩, 19) := ⟨⟨by decide +kernel, by decide +kernel⟩, List.mem_of_getElem? (i := 16) (by decide +kernel), List.mem_of_getElem? (i := 597) (by decide +kernel), List.mem_of_getElem? (i := 598) (by decide +kernel)⟩
theorem lw_p33 : lw_okq (⟨"TileHouse", "richest", "()I"⟩, 19) := ⟨⟨by decide +kernel, by decide +kernel⟩, List.mem_of_getElem? (i := 16) (by decide +kernel), List.mem_of_getElem? (i := 601) (by decide +kernel), List.mem_of_getElem? (i := 602) (by decide +kernel)⟩
theorem lw_p34 : lw_okq (⟨"TileHouse", "letTileGo", "()V"⟩, 19) := ⟨⟨by decide +kernel, by decide +kernel⟩, List.mem_of_getElem? (i := 16) (by decide +kernel), List.mem_of_getElem? (i := 605) (by decide +kernel), List.mem_of_getElem? (i := 606) (by decide +kernel)⟩
theorem lw_p35 : lw_okq (⟨"TileHouse", "makeFour", "(I)V"⟩, 19) := ⟨⟨by decide +kernel, by decide +kernel⟩, List.mem_of_getElem? (i := 16) (by decide +kernel), List.mem_of_getElem? (i := 610) (by decide +kernel), List.mem_of_getElem? (i := 611) (by decide +kernel)⟩
theorem lw_p36 : lw_okq (⟨"TileHouse", "breakHand", "()V"⟩, 19) := ⟨⟨by decide +kernel, by decide +kernel⟩, List.mem_of_getElem? (i := 16) (by decide +kernel), List.mem_of_getElem? (i := 614) (by decide +kernel), List.mem_of_getElem? (i := 615) (by decide +kernel)⟩
theorem lw_p37 : lw_okq (⟨"TileHouse", "endUnwon", "()V"⟩, 19) := ⟨⟨by decide +kernel, by decide +kernel⟩, List.mem_of_getElem? (i := 16) (by decide +kernel), List.mem_of_getElem? (i := 618) (by decide +kernel), List.mem_of_getElem? (i := 619) (by decide +kernel)⟩
theorem lw_p38 : lw_okq (⟨"TileHouse", "mayClaimSet", "(I)Z"⟩, 19) := ⟨⟨by decide +kernel, by decide +kernel⟩, List.mem_of_getElem? (i := 16) (by decide +kernel), List.mem_of_getElem? (i := 626) (by decide +kernel), List.mem_of_getElem? (i := 627) (by decide +kernel)⟩
theorem lw_p39 : lw_okq (⟨"TileHouse", "otherEnd", "(I)J"⟩, 19) := ⟨⟨by decide +kernel, by decide +kernel⟩, List.mem_of_getElem? (i := 16) (by decide +kernel), List.mem_of_getElem? (i := 634) (by decide +kernel), List.mem_of_getElem? (i := 635) (by decide +kernel)⟩
theorem lw_p40 : lw_okq (⟨"TileHouse", "takeSet", "(III)V"⟩, 19) := ⟨⟨by decide +kernel, by decide +kernel⟩, List.mem_of_getElem? (i := 16) (by decide +kernel), List.mem_of_getElem? (i := 643) (by decide +kernel), List.mem_of_getElem? (i := 644) (by decide +kernel)⟩
theorem lw_p41 : lw_okq (⟨"TileHouse", "mayMakeFour", "()Z"⟩, 19) := ⟨⟨by decide +kernel, by decide +kernel⟩, List.mem_of_getElem? (i := 16) (by decide +kernel), List.mem_of_getElem? (i := 666) (by decide +kernel), List.mem_of_getElem? (i := 667) (by decide +kernel)⟩
theorem lw_p42 : lw_okq (⟨"TileHouse", "isWin", "(I)Z"⟩, 19) := ⟨⟨by decide +kernel, by decide +kernel⟩, List.mem_of_getElem? (i := 16) (by decide +kernel), List.mem_of_getElem? (i := 714) (by decide +kernel), List.mem_of_getElem? (i := 715) (by decide +kernel)⟩
theorem lw_p43 : lw_okq (⟨"java/lang/Throwable", "fillInStackTrace", "(I)Ljava/lang/Throwable;"⟩, 6) := ⟨⟨by decide +kernel, by decide +kernel⟩, List.mem_of_getElem? (i := 808) (by decide +kernel), List.mem_of_getElem? (i := 806) (by decide +kernel), List.mem_of_getElem? (i := 807) (by decide +kernel)⟩
theorem lw_p44 : lw_okq (⟨"TileHouseModel", "gives", "(III)V"⟩, 68) := ⟨⟨by decide +kernel, by decide +kernel⟩, List.mem_of_getElem? (i := 850) (by decide +kernel), List.mem_of_getElem? (i := 1069) (by decide +kernel), List.mem_of_getElem? (i := 1070) (by decide +kernel)⟩
theorem lw_p45 : lw_okq (⟨"TileHouseModel", "draws", "(IZ)V"⟩, 68) := ⟨⟨by decide +kernel, by decide +kernel⟩, List.mem_of_getElem? (i := 850) (by decide +kernel), List.mem_of_getElem? (i := 1073) (by decide +kernel), List.mem_of_getElem? (i := 1074) (by decide +kernel)⟩
theorem lw_p46 : lw_okq (⟨"TileHouseModel", "has", "(II)I"⟩, 68) := ⟨⟨by decide +kernel, by decide +kernel⟩, List.mem_of_getElem? (i := 850) (by decide +kernel), List.mem_of_getElem? (i := 1084) (by decide +kernel), List.mem_of_getElem? (i := 1085) (by decide +kernel)⟩
theorem lw_p47 : lw_okq (⟨"TileHouseModel", "isOpen", "(I)Z"⟩, 68) := ⟨⟨by decide +kernel, by decide +kernel⟩, List.mem_of_getElem? (i := 850) (by decide +kernel), List.mem_of_getElem? (i := 1088) (by decide +kernel), List.mem_of_getElem? (i := 1089) (by decide +kernel)⟩
noncomputable def lw_privs_3 : List (MethodName × Nat) := [(⟨"TileHouse", "someoneIsBroke", "()Z"⟩, 19), (⟨"TileHouse", "richest", "()I"⟩, 19), (⟨"TileHouse", "letTileGo", "()V"⟩, 19), (⟨"TileHouse", "makeFour", "(I)V"⟩, 19), (⟨"TileHouse", "breakHand", "()V"⟩, 19), (⟨"TileHouse", "endUnwon", "()V"⟩, 19), (⟨"TileHouse", "mayClaimSet", "(I)Z"⟩, 19), (⟨"TileHouse", "otherEnd", "(I)J"⟩, 19), (⟨"TileHouse", "takeSet", "(III)V"⟩, 19), (⟨"TileHouse", "mayMakeFour", "()Z"⟩, 19), (⟨"TileHouse", "isWin", "(I)Z"⟩, 19), (⟨"java/lang/Throwable", "fillInStackTrace", "(I)Ljava/lang/Throwable;"⟩, 6), (⟨"TileHouseModel", "gives", "(III)V"⟩, 68), (⟨"TileHouseModel", "draws", "(IZ)V"⟩, 68), (⟨"TileHouseModel", "has", "(II)I"⟩, 68), (⟨"TileHouseModel", "isOpen", "(I)Z"⟩, 68)]
theorem lw_r3 : ∀ q ∈ lw_privs_3, lw_okq q := List.forall_mem_cons.mpr ⟨lw_p32, List.forall_mem_cons.mpr ⟨lw_p33, List.forall_mem_cons.mpr ⟨lw_p34, List.forall_mem_cons.mpr ⟨lw_p35, List.forall_mem_cons.mpr ⟨lw_p36, List.forall_mem_cons.mpr ⟨lw_p37, List.forall_mem_cons.mpr ⟨lw_p38, List.forall_mem_cons.mpr ⟨lw_p39, List.forall_mem_cons.mpr ⟨lw_p40, List.forall_mem_cons.mpr ⟨lw_p41, List.forall_mem_cons.mpr ⟨lw_p42, List.forall_mem_cons.mpr ⟨lw_p43, List.forall_mem_cons.mpr ⟨lw_p44, List.forall_mem_cons.mpr ⟨lw_p45, List.forall_mem_cons.mpr ⟨lw_p46, List.forall_mem_cons.mpr ⟨lw_p47, fun _ h => absurd h List.not_mem_nil⟩⟩⟩⟩⟩⟩⟩⟩⟩⟩⟩⟩⟩⟩⟩⟩
theorem lw_p48 : lw_okq (⟨"TileHouseModel", "left", "()I"⟩, 68) := ⟨⟨by decide +kernel, by decide +kernel⟩, List.mem_of_getElem? (i := 850) (by decide +kernel), List.mem_of_getElem? (i := 1092) (by decide +kernel), List.mem_of_getElem? (i := 1093) (by decide +kernel)⟩
theorem lw_p49 : lw_okq (⟨"TileHouseModel", "waitsAt", "(I)J"⟩, 68) := ⟨⟨by decide +kernel, by decide +kernel⟩, List.mem_of_getElem? (i := 850) (by decide +kernel), List.mem_of_getElem? (i := 1096) (by decide +kernel), List.mem_of_getElem? (i := 1097) (by decide +kernel)⟩
theorem lw_p50 : lw_okq (⟨"TileHouseModel", "take", "(I)V"⟩, 68) := ⟨⟨by decide +kernel, by decide +kernel⟩, List.mem_of_getElem? (i := 850) (by decide +kernel), List.mem_of_getElem? (i := 1100) (by decide +kernel), List.mem_of_getElem? (i := 1101) (by decide +kernel)⟩
theorem lw_p51 : lw_okq (⟨"TileHouseModel", "waitsOf", "()J"⟩, 68) := ⟨⟨by decide +kernel, by decide +kernel⟩, List.mem_of_getElem? (i := 850) (by decide +kernel), List.mem_of_getElem? (i := 1104) (by decide +kernel), List.mem_of_getElem? (i := 1105) (by decide +kernel)⟩
theorem lw_p52 : lw_okq (⟨"TileHouseModel", "inHand", "()I"⟩, 68) := ⟨⟨by decide +kernel, by decide +kernel⟩, List.mem_of_getElem? (i := 850) (by decide +kernel), List.mem_of_getElem? (i := 1108) (by decide +kernel), List.mem_of_getElem? (i := 1109) (by decide +kernel)⟩
theorem lw_p53 : lw_okq (⟨"TileHouseModel", "of", "(I)I"⟩, 68) := ⟨⟨by decide +kernel, by decide +kernel⟩, List.mem_of_getElem? (i := 850) (by decide +kernel), List.mem_of_getElem? (i := 1112) (by decide +kernel), List.mem_of_getElem? (i := 1113) (by decide +kernel)⟩
theorem lw_p54 : lw_okq (⟨"TileHouseModel", "apart", "(Z)V"⟩, 68) := ⟨⟨by decide +kernel, by decide +kernel⟩, List.mem_of_getElem? (i := 850) (by decide +kernel), List.mem_of_getElem? (i := 1119) (by decide +kernel), List.mem_of_getElem? (i := 1120) (by decide +kernel)⟩
theorem lw_p55 : lw_okq (⟨"TileHouseModel", "sets", "(IIIZ)V"⟩, 68) := ⟨⟨by decide +kernel, by decide +kernel⟩, List.mem_of_getElem? (i := 850) (by decide +kernel), List.mem_of_getElem? (i := 1123) (by decide +kernel), List.mem_of_getElem? (i := 1124) (by decide +kernel)⟩
theorem lw_p56 : lw_okq (⟨"TileHouseModel", "way", "(I)V"⟩, 68) := ⟨⟨by decide +kernel, by decide +kernel⟩, List.mem_of_getElem? (i := 850) (by decide +kernel), List.mem_of_getElem? (i := 1127) (by decide +kernel), List.mem_of_getElem? (i := 1128) (by decide +kernel)⟩
theorem lw_p57 : lw_okq (⟨"TileHouseModel", "firstSort", "()V"⟩, 68) := ⟨⟨by decide +kernel, by decide +kernel⟩, List.mem_of_getElem? (i := 850) (by decide +kernel), List.mem_of_getElem? (i := 1131) (by decide +kernel), List.mem_of_getElem? (i := 1132) (by decide +kernel)⟩
theorem lw_p58 : lw_okq (⟨"TileHouseModel", "isOpen", "()Z"⟩, 68) := ⟨⟨by decide +kernel, by decide +kernel⟩, List.mem_of_getElem? (i := 850) (by decide +kernel), List.mem_of_getElem? (i := 1135) (by decide +kernel), List.mem_of_getElem? (i := 1136) (by decide +kernel)⟩
theorem lw_p59 : lw_okq (⟨"TileHouseModel", "isHidden", "(I)Z"⟩, 68) := ⟨⟨by decide +kernel, by decide +kernel⟩, List.mem_of_getElem? (i := 850) (by decide +kernel), List.mem_of_getElem? (i := 1139) (by decide +kernel), List.mem_of_getElem? (i := 1140) (by decide +kernel)⟩
theorem lw_p60 : lw_okq (⟨"TileHouseModel", "twins", "()V"⟩, 68) := ⟨⟨by decide +kernel, by decide +kernel⟩, List.mem_of_getElem? (i := 850) (by decide +kernel), List.mem_of_getElem? (i := 1149) (by decide +kernel), List.mem_of_getElem? (i := 1150) (by decide +kernel)⟩
theorem lw_p61 : lw_okq (⟨"TileHouseModel", "hasThree", "(I)Z"⟩, 68) := ⟨⟨by decide +kernel, by decide +kernel⟩, List.mem_of_getElem? (i := 850) (by decide +kernel), List.mem_of_getElem? (i := 1153) (by decide +kernel), List.mem_of_getElem? (i := 1154) (by decide +kernel)⟩
theorem lw_p62 : lw_okq (⟨"TileHouseModel", "hasRun", "(I)Z"⟩, 68) := ⟨⟨by decide +kernel, by decide +kernel⟩, List.mem_of_getElem? (i := 850) (by decide +kernel), List.mem_of_getElem? (i := 1157) (by decide +kernel), List.mem_of_getElem? (i := 1158) (by decide +kernel)⟩
theorem lw_p63 : lw_okq (⟨"TileHouseModel", "edges", "(I)V"⟩, 68) := ⟨⟨by decide +kernel, by decide +kernel⟩, List.mem_of_getElem? (i := 850) (by decide +kernel), List.mem_of_getElem? (i := 1161) (by decide +kernel), List.mem_of_getElem? (i := 1162) (by decide +kernel)⟩
noncomputable def lw_privs_4 : List (MethodName × Nat) := [(⟨"TileHouseModel", "left", "()I"⟩, 68), (⟨"TileHouseModel", "waitsAt", "(I)J"⟩, 68), (⟨"TileHouseModel", "take", "(I)V"⟩, 68), (⟨"TileHouseModel", "waitsOf", "()J"⟩, 68), (⟨"TileHouseModel", "inHand", "()I"⟩, 68), (⟨"TileHouseModel", "of", "(I)I"⟩, 68), (⟨"TileHouseModel", "apart", "(Z)V"⟩, 68), (⟨"TileHouseModel", "sets", "(IIIZ)V"⟩, 68), (⟨"TileHouseModel", "way", "(I)V"⟩, 68), (⟨"TileHouseModel", "firstSort", "()V"⟩, 68), (⟨"TileHouseModel", "isOpen", "()Z"⟩, 68), (⟨"TileHouseModel", "isHidden", "(I)Z"⟩, 68), (⟨"TileHouseModel", "twins", "()V"⟩, 68), (⟨"TileHouseModel", "hasThree", "(I)Z"⟩, 68), (⟨"TileHouseModel", "hasRun", "(I)Z"⟩, 68), (⟨"TileHouseModel", "edges", "(I)V"⟩, 68)]
theorem lw_r4 : ∀ q ∈ lw_privs_4, lw_okq q := List.forall_mem_cons.mpr ⟨lw_p48, List.forall_mem_cons.mpr ⟨lw_p49, List.forall_mem_cons.mpr ⟨lw_p50, List.forall_mem_cons.mpr ⟨lw_p51, List.forall_mem_cons.mpr ⟨lw_p52, List.forall_mem_cons.mpr ⟨lw_p53, List.forall_mem_cons.mpr ⟨lw_p54, List.forall_mem_cons.mpr ⟨lw_p55, List.forall_mem_cons.mpr ⟨lw_p56, List.forall_mem_cons.mpr ⟨lw_p57, List.forall_mem_cons.mpr ⟨lw_p58, List.forall_mem_cons.mpr ⟨lw_p59, List.forall_mem_cons.mpr ⟨lw_p60, List.forall_mem_cons.mpr ⟨lw_p61, List.forall_mem_cons.mpr ⟨lw_p62, List.forall_mem_cons.mpr ⟨lw_p63, fun _ h => absurd h List.not_mem_nil⟩⟩⟩⟩⟩⟩⟩⟩⟩⟩⟩⟩⟩⟩⟩⟩
theorem lw_p64 : lw_okq (⟨"TileHouseModel", "tiles", "()V"⟩, 68) := ⟨⟨by decide +kernel, by decide +kernel⟩, List.mem_of_getElem? (i := 850) (by decide +kernel), List.mem_of_getElem? (i := 1174) (by decide +kernel), List.mem_of_getElem? (i := 1175) (by decide +kernel)⟩
theorem lw_p65 : lw_okq (⟨"TileHouseModel", "compare", "(Z)V"⟩, 68) := ⟨⟨by decide +kernel, by decide +kernel⟩, List.mem_of_getElem? (i := 850) (by decide +kernel), List.mem_of_getElem? (i := 1178) (by decide +kernel), List.mem_of_getElem? (i := 1179) (by decide +kernel)⟩
theorem lw_p66 : lw_okq (⟨"TileHouseModel", "pairsWay", "()V"⟩, 68) := ⟨⟨by decide +kernel, by decide +kernel⟩, List.mem_of_getElem? (i := 850) (by decide +kernel), List.mem_of_getElem? (i := 1191) (by decide +kernel), List.mem_of_getElem? (i := 1192) (by decide +kernel)⟩
theorem lw_p67 : lw_okq (⟨"TileHouseModel", "thirteen", "()V"⟩, 68) := ⟨⟨by decide +kernel, by decide +kernel⟩, List.mem_of_getElem? (i := 850) (by decide +kernel), List.mem_of_getElem? (i := 1195) (by decide +kernel), List.mem_of_getElem? (i := 1196) (by decide +kernel)⟩
theorem lw_p68 : lw_okq (⟨"TileHouseModel", "anySays", "()Z"⟩, 68) := ⟨⟨by decide +kernel, by decide +kernel⟩, List.mem_of_getElem? (i := 850) (by decide +kernel), List.mem_of_getElem? (i := 1203) (by decide +kernel), List.mem_of_getElem? (i := 1204) (by decide +kernel)⟩
theorem lw_p69 : lw_okq (⟨"TileHouseModel", "allWin", "()V"⟩, 68) := ⟨⟨by decide +kernel, by decide +kernel⟩, List.mem_of_getElem? (i := 850) (by decide +kernel), List.mem_of_getElem? (i := 1207) (by decide +kernel), List.mem_of_getElem? (i := 1208) (by decide +kernel)⟩
theorem lw_p70 : lw_okq (⟨"TileHouseModel", "value", "(IIZ)V"⟩, 68) := ⟨⟨by decide +kernel, by decide +kernel⟩, List.mem_of_getElem? (i := 850) (by decide +kernel), List.mem_of_getElem? (i := 1211) (by decide +kernel), List.mem_of_getElem? (i := 1212) (by decide +kernel)⟩
theorem lw_p71 : lw_okq (⟨"TileHouseModel", "windOf", "(I)I"⟩, 68) := ⟨⟨by decide +kernel, by decide +kernel⟩, List.mem_of_getElem? (i := 850) (by decide +kernel), List.mem_of_getElem? (i := 1215) (by decide +kernel), List.mem_of_getElem? (i := 1216) (by decide +kernel)⟩
theorem lw_p72 : lw_okq (⟨"TileHouseModel", "dearTiles", "(Z)I"⟩, 68) := ⟨⟨by decide +kernel, by decide +kernel⟩, List.mem_of_getElem? (i := 850) (by decide +kernel), List.mem_of_getElem? (i := 1219) (by decide +kernel), List.mem_of_getElem? (i := 1220) (by decide +kernel)⟩
theorem lw_p73 : lw_okq (⟨"TileHouseModel", "reckon", "(IZJIII)V"⟩, 68) := ⟨⟨by decide +kernel, by decide +kernel⟩, List.mem_of_getElem? (i := 850) (by decide +kernel), List.mem_of_getElem? (i := 1226) (by decide +kernel), List.mem_of_getElem? (i := 1227) (by decide +kernel)⟩
theorem lw_p74 : lw_okq (⟨"TileHouseModel", "writes", "(IIII)V"⟩, 68) := ⟨⟨by decide +kernel, by decide +kernel⟩, List.mem_of_getElem? (i := 850) (by decide +kernel), List.mem_of_getElem? (i := 1230) (by decide +kernel), List.mem_of_getElem? (i := 1231) (by decide +kernel)⟩
theorem lw_p75 : lw_okq (⟨"TileHouseModel", "pays", "(III)V"⟩, 68) := ⟨⟨by decide +kernel, by decide +kernel⟩, List.mem_of_getElem? (i := 850) (by decide +kernel), List.mem_of_getElem? (i := 1237) (by decide +kernel), List.mem_of_getElem? (i := 1238) (by decide +kernel)⟩
theorem lw_p76 : lw_okq (⟨"TileHouseModel", "takesBets", "()V"⟩, 68) := ⟨⟨by decide +kernel, by decide +kernel⟩, List.mem_of_getElem? (i := 850) (by decide +kernel), List.mem_of_getElem? (i := 1241) (by decide +kernel), List.mem_of_getElem? (i := 1242) (by decide +kernel)⟩
theorem lw_p77 : lw_okq (⟨"TileHouseModel", "ends", "(ZZ)V"⟩, 68) := ⟨⟨by decide +kernel, by decide +kernel⟩, List.mem_of_getElem? (i := 850) (by decide +kernel), List.mem_of_getElem? (i := 1245) (by decide +kernel), List.mem_of_getElem? (i := 1246) (by decide +kernel)⟩
theorem lw_p78 : lw_okq (⟨"TileHouseModel", "over", "()V"⟩, 68) := ⟨⟨by decide +kernel, by decide +kernel⟩, List.mem_of_getElem? (i := 850) (by decide +kernel), List.mem_of_getElem? (i := 1249) (by decide +kernel), List.mem_of_getElem? (i := 1250) (by decide +kernel)⟩
theorem lw_p79 : lw_okq (⟨"TileHouseModel", "touched", "()V"⟩, 68) := ⟨⟨by decide +kernel, by decide +kernel⟩, List.mem_of_getElem? (i := 850) (by decide +kernel), List.mem_of_getElem? (i := 1253) (by decide +kernel), List.mem_of_getElem? (i := 1254) (by decide +kernel)⟩
noncomputable def lw_privs_5 : List (MethodName × Nat) := [(⟨"TileHouseModel", "tiles", "()V"⟩, 68), (⟨"TileHouseModel", "compare", "(Z)V"⟩, 68), (⟨"TileHouseModel", "pairsWay", "()V"⟩, 68), (⟨"TileHouseModel", "thirteen", "()V"⟩, 68), (⟨"TileHouseModel", "anySays", "()Z"⟩, 68), (⟨"TileHouseModel", "allWin", "()V"⟩, 68), (⟨"TileHouseModel", "value", "(IIZ)V"⟩, 68), (⟨"TileHouseModel", "windOf", "(I)I"⟩, 68), (⟨"TileHouseModel", "dearTiles", "(Z)I"⟩, 68), (⟨"TileHouseModel", "reckon", "(IZJIII)V"⟩, 68), (⟨"TileHouseModel", "writes", "(IIII)V"⟩, 68), (⟨"TileHouseModel", "pays", "(III)V"⟩, 68), (⟨"TileHouseModel", "takesBets", "()V"⟩, 68), (⟨"TileHouseModel", "ends", "(ZZ)V"⟩, 68), (⟨"TileHouseModel", "over", "()V"⟩, 68), (⟨"TileHouseModel", "touched", "()V"⟩, 68)]
theorem lw_r5 : ∀ q ∈ lw_privs_5, lw_okq q := List.forall_mem_cons.mpr ⟨lw_p64, List.forall_mem_cons.mpr ⟨lw_p65, List.forall_mem_cons.mpr ⟨lw_p66, List.forall_mem_cons.mpr ⟨lw_p67, List.forall_mem_cons.mpr ⟨lw_p68, List.forall_mem_cons.mpr ⟨lw_p69, List.forall_mem_cons.mpr ⟨lw_p70, List.forall_mem_cons.mpr ⟨lw_p71, List.forall_mem_cons.mpr ⟨lw_p72, List.forall_mem_cons.mpr ⟨lw_p73, List.forall_mem_cons.mpr ⟨lw_p74, List.forall_mem_cons.mpr ⟨lw_p75, List.forall_mem_cons.mpr ⟨lw_p76, List.forall_mem_cons.mpr ⟨lw_p77, List.forall_mem_cons.mpr ⟨lw_p78, List.forall_mem_cons.mpr ⟨lw_p79, fun _ h => absurd h List.not_mem_nil⟩⟩⟩⟩⟩⟩⟩⟩⟩⟩⟩⟩⟩⟩⟩⟩
theorem lw_p80 : lw_okq (⟨"TileHouseModel", "nobodyWins", "()V"⟩, 68) := ⟨⟨by decide +kernel, by decide +kernel⟩, List.mem_of_getElem? (i := 850) (by decide +kernel), List.mem_of_getElem? (i := 1257) (by decide +kernel), List.mem_of_getElem? (i := 1258) (by decide +kernel)⟩
theorem lw_p81 : lw_okq (⟨"TileHouseModel", "mayClaim", "(I)Z"⟩, 68) := ⟨⟨by decide +kernel, by decide +kernel⟩, List.mem_of_getElem? (i := 850) (by decide +kernel), List.mem_of_getElem? (i := 1265) (by decide +kernel), List.mem_of_getElem? (i := 1266) (by decide +kernel)⟩
theorem lw_p82 : lw_okq (⟨"TileHouseModel", "canDiscard", "(I)Z"⟩, 68) := ⟨⟨by decide +kernel, by decide +kernel⟩, List.mem_of_getElem? (i := 850) (by decide +kernel), List.mem_of_getElem? (i := 1272) (by decide +kernel), List.mem_of_getElem? (i := 1273) (by decide +kernel)⟩
theorem lw_p83 : lw_okq (⟨"TileHouseModel", "claims", "(III)V"⟩, 68) := ⟨⟨by decide +kernel, by decide +kernel⟩, List.mem_of_getElem? (i := 850) (by decide +kernel), List.mem_of_getElem? (i := 1276) (by decide +kernel), List.mem_of_getElem? (i := 1277) (by decide +kernel)⟩
theorem lw_p84 : lw_okq (⟨"TileHouseModel", "lays", "(III)V"⟩, 68) := ⟨⟨by decide +kernel, by decide +kernel⟩, List.mem_of_getElem? (i := 850) (by decide +kernel), List.mem_of_getElem? (i := 1280) (by decide +kernel), List.mem_of_getElem? (i := 1281) (by decide +kernel)⟩
theorem lw_p85 : lw_okq (⟨"TileHouseModel", "mayMake", "()Z"⟩, 68) := ⟨⟨by decide +kernel, by decide +kernel⟩, List.mem_of_getElem? (i := 850) (by decide +kernel), List.mem_of_getElem? (i := 1296) (by decide +kernel), List.mem_of_getElem? (i := 1297) (by decide +kernel)⟩
theorem lw_p86 : lw_okq (⟨"TileHouseModel", "takeDesk", "()V"⟩, 68) := ⟨⟨by decide +kernel, by decide +kernel⟩, List.mem_of_getElem? (i := 850) (by decide +kernel), List.mem_of_getElem? (i := 1360) (by decide +kernel), List.mem_of_getElem? (i := 1361) (by decide +kernel)⟩
theorem lw_p87 : lw_okq (⟨"TileHouseModel", "nothing", "()V"⟩, 68) := ⟨⟨by decide +kernel, by decide +kernel⟩, List.mem_of_getElem? (i := 850) (by decide +kernel), List.mem_of_getElem? (i := 1373) (by decide +kernel), List.mem_of_getElem? (i := 1374) (by decide +kernel)⟩
noncomputable def lw_privs_6 : List (MethodName × Nat) := [(⟨"TileHouseModel", "nobodyWins", "()V"⟩, 68), (⟨"TileHouseModel", "mayClaim", "(I)Z"⟩, 68), (⟨"TileHouseModel", "canDiscard", "(I)Z"⟩, 68), (⟨"TileHouseModel", "claims", "(III)V"⟩, 68), (⟨"TileHouseModel", "lays", "(III)V"⟩, 68), (⟨"TileHouseModel", "mayMake", "()Z"⟩, 68), (⟨"TileHouseModel", "takeDesk", "()V"⟩, 68), (⟨"TileHouseModel", "nothing", "()V"⟩, 68)]
theorem lw_r6 : ∀ q ∈ lw_privs_6, lw_okq q := List.forall_mem_cons.mpr ⟨lw_p80, List.forall_mem_cons.mpr ⟨lw_p81, List.forall_mem_cons.mpr ⟨lw_p82, List.forall_mem_cons.mpr ⟨lw_p83, List.forall_mem_cons.mpr ⟨lw_p84, List.forall_mem_cons.mpr ⟨lw_p85, List.forall_mem_cons.mpr ⟨lw_p86, List.forall_mem_cons.mpr ⟨lw_p87, fun _ h => absurd h List.not_mem_nil⟩⟩⟩⟩⟩⟩⟩⟩
noncomputable def lw_privs : List (MethodName × Nat) := lw_privs_1 ++ (lw_privs_2 ++ (lw_privs_3 ++ (lw_privs_4 ++ (lw_privs_5 ++ (lw_privs_6)))))
noncomputable def lw_tbl : List Cond := k2_sels lw_privs ++ tables_1
theorem lw_privs_ok : ∀ q ∈ lw_privs, lw_okq q := by
  show ∀ q ∈ lw_privs_1 ++ (lw_privs_2 ++ (lw_privs_3 ++ (lw_privs_4 ++ (lw_privs_5 ++ (lw_privs_6))))), lw_okq q
  exact List.forall_mem_append.mpr ⟨lw_r1, List.forall_mem_append.mpr ⟨lw_r2, List.forall_mem_append.mpr ⟨lw_r3, List.forall_mem_append.mpr ⟨lw_r4, List.forall_mem_append.mpr ⟨lw_r5, lw_r6⟩⟩⟩⟩⟩
/-! ===== BEGIN words of one list among another's, by their places ===== -/
theorem goodIn_r {big : List Cond} (ws : List Cond) (ps : List Nat) (hp : ws = ps.filterMap (fun i => big[i]?)) (h : ws.all goodWord = true) : GoodIn big ws := by
  intro w hw
  have h1 := List.all_eq_true.mp h w hw
  rw [hp] at hw
  obtain ⟨i, -, hi⟩ := List.mem_filterMap.mp hw
  have hm : w ∈ big := by first | exact List.mem_of_getElem? hi | exact List.getElem?_mem hi
  exact ⟨hm, good_of_word h1⟩
theorem goodIn_app {big a b : List Cond} (ha : GoodIn big a) (hb : GoodIn big b) : GoodIn big (a ++ b) := fun w h => (List.mem_append.mp h).elim (ha w) (hb w)
theorem goodIn_ca {big a b : List Cond} {c : Cond} (ha : GoodIn big (c :: a)) (hb : GoodIn big b) : GoodIn big (c :: (a ++ b)) := fun w h => (List.mem_cons.mp h).elim (fun e => ha w (List.mem_cons.mpr (Or.inl e))) (fun h => (List.mem_append.mp h).elim (fun h => ha w (List.mem_cons.mpr (Or.inr h))) (hb w))
theorem goodIn_sub {big ws : List Cond} (hm : ∀ w ∈ ws, w ∈ big) (h : ws.all goodWord = true) : GoodIn big ws := fun w hw => ⟨hm w hw, good_of_word (List.all_eq_true.mp h w hw)⟩
/-! ===== END ===== -/

/-! ===== BEGIN exceptions that leave a method, and their catching by the caller (launches without stack traces) ===== -/
section VXA
/-! The laws vx_back, vx_callV, vx_callS, vx_callSW, vx_throw0, vx_throwS follow proofs of the library, with one case more: JvmDerived/Free/Laws.lean (Back.of_free), Shelf42/LK1.lean (callV, callS), Shelf/KitTraced.lean (throwNew0V, throwNewS). -/
/-- where a method has thrown q: the class by its name, the cell, what was written, the world -/
noncomputable def vx_T (XC : String → State → State → Prop) (st : State) (q : Addr) (t : State) (mc ms : Nat) (free : Addr → Prop) : Prop :=
  ∃ (E : String) (ce : Cell) (L : List Loc), XC E st t ∧ t.heap[q]? = some ce ∧ ce.vm = .none ∧ st.vm.findClass E = some ce.cls ∧ st.WarmedH t.vm ∧ st.sameButNew ({ t with vm := st.vm } : State) L mc ms ∧ ∀ z ∈ L, free z.base
noncomputable def vx_Q (Qc : Array Value → State → Outcome → State → Prop) (XC : String → State → State → Prop) (mc ms : Nat) (free : Addr → Prop) : Array Value → State → Outcome → State → Prop := fun a st o t =>
  (Qc a st o t ∧ ∃ L, FrameEnd st o t L mc ms ∧ ∀ q ∈ L, free q.base) ∨ ∃ q, o = .threw q ∧ vx_T XC st q t mc ms free
/-- a callee that returns or throws -/
noncomputable def vx_Met (l : Launch) (y : MethodName) (ws : List Cond) (rm : Room) (Pc : Array Value → State → Prop) (Qc : Array Value → State → Outcome → State → Prop) (XC : String → State → State → Prop) (mc ms : Nat) (free : Addr → Prop) : Prop :=
  MetFree l y (headSpec ws rm) Pc (fun _ _ _ _ _ => True) (vx_Q Qc XC mc ms free)
noncomputable def vx_Post (XC : String → State → State → Prop) (mc ms : Nat) (free : Addr → Prop) : Pt → Array Value → Addr → Pt → Prop := fun A a q B =>
  ∃ (g : JFrame) (mk : MethodId) (t : State) (L : List Loc) (E : String) (ce : Cell), B.U.heap = t.heap ∧ B.U.vm = t.vm ∧ XC E (A.U.calling g mk a) t ∧ t.heap[q]? = some ce ∧ ce.vm = .none ∧ A.U.vm.findClass E = some ce.cls ∧ B.locs = A.locs ++ L ∧ (∀ z ∈ L, free z.base) ∧ B.cells = A.cells + mc ∧ B.slots = A.slots + ms
noncomputable def vx_Back (l : Launch) (R : Room) (p : Program) (e : Env) (below : List Frame) (s : State) (sargs : Array Value) (y : MethodName) (len W9 : Nat)
    (Pre : Pt → Array Value → Prop) (Post : Pt → Array Value → Option Value → Pt → Prop) (PostX : Pt → Array Value → Addr → Pt → Prop) : Prop :=
  ∀ (m : MethodId) (meth : Method) (c : Code) (A : Pt) (g : JFrame) (ig : Instr) (mk : MethodId) (a : Array Value),
    Stand p l e R s m sargs below meth c A.U A.locs A.cells A.slots → g.method = m → g.locals.size = c.maxLocals → decode c.code g.pc = .ok (ig, len) →
    2 * g.monitorRoom + (g.stack.map fun v => v.category).sum ≤ W9 → A.U.methodNamed? y = some mk → Pre A a →
    (∃ (v : Option Value) (B : Pt), Stand p l e R s m sargs below meth c B.U B.locs B.cells B.slots ∧ Post A a v B ∧
      Steps p.tables e below (doInvoke e (A.U.setTop g) [] mk a).1 (B.U.setTop { g with pc := g.pc + len, stack := v.toList ++ g.stack })) ∨
    (∃ (q : Addr) (B : Pt), Stand p l e R s m sargs below meth c B.U B.locs B.cells B.slots ∧ PostX A a q B ∧
      Steps p.tables e below (doInvoke e (A.U.setTop g) [] mk a).1 ((B.U.setTop g).pushFrame (.throwing q)))
section Payer
variable {l : Launch} {R : Room} {p : Program} {e : Env} {below : List Frame} {s : State} {sargs : Array Value} {y : MethodName} {len W9 : Nat}
theorem vx_back {ws : List Cond} {rm : Room} {Pc : Array Value → State → Prop} {Qc : Array Value → State → Outcome → State → Prop} {XC : String → State → State → Prop} {mc ms : Nat} {free : Addr → Prop} {bytes : ByteArray} {maxL : Nat} {ret : Option FieldType}
    (hM : vx_Met l y ws rm Pc Qc XC mc ms free) (hblind : FrameBlind Pc) (hrc : rm.cells = mc) (hrs : rm.slots = ms)
    (hframes : rm.frames + 1 ≤ R.frames) (hlocals : W9 + (maxL + 11) + rm.locals ≤ R.locals)
    (hws : ∀ w ∈ ws, ∀ a' U, s.WarmedH U.vm → w.before a' U = true) (hcode : Cond.code y bytes maxL ret ∈ ws) (hinit : ∀ a' U, s.WarmedH U.vm → (Cond.initialized y.cls).before a' U = true) :
    vx_Back l R p e below s sargs y len W9 (PreOf R mc ms Pc) (PostOf Qc mc ms free) (vx_Post XC mc ms free) := by
  intro m meth c A g ig mk a X hg hsize hdg hW hn hp
  have h1 : (headSpec ws rm).pre.before a A.U = true := atoms_intro fun w hw => hws w hw _ _ X.warmed
  have h2 : (Cond.code y bytes maxL ret).before a A.U = true := hws _ hcode _ _ X.warmed
  have h3 : (Cond.initialized y.cls).before a A.U = true := hinit _ _ X.warmed
  have h4 : A.cells + (headSpec ws rm).room.cells ≤ R.cells := by rw [show (headSpec ws rm).room.cells = mc from hrc]; exact hp.1
  have h5 : A.slots + (headSpec ws rm).room.slots ≤ R.slots := by rw [show (headSpec ws rm).room.slots = ms from hrs]; exact hp.2.1
  have hPc : Pc a (A.U.calling g mk a) := hblind _ _ _ _ hp.2.2
  obtain ⟨U, Ls, c0, s0⟩ := A
  dsimp only [Pt.U, Pt.locs, Pt.cells, Pt.slots] at h1 h2 h3 h4 h5 X hn hPc ⊢
  obtain ⟨methY, cY, hmY, hcY, -, hlY, -, -, -, -⟩ := Cond.code_spec hn h2
  obtain ⟨kY, hkY, -⟩ := className_of_methodNamed hn
  have hinitY : kY.init = .initialized := Cond.initialized_spec (findClass_of_methodNamed hn) hkY h3
  have h : At U g.method c below := by rw [hg]; exact X.here
  have hlocals9 : W9 + (maxL + 11) + (headSpec ws rm).room.locals ≤ R.locals := hlocals
  have happ : (headSpec ws rm).appliesLoose y e.platform (U.calling g mk a) = true :=
    Spec.appliesLoose_calling (g := g) h hdg hn hkY hinitY
      (X.room_calling (g := g) (R' := (headSpec ws rm).room) hsize hmY hcY hframes (by rw [hlY]; omega) h4 h5) h1
  obtain ⟨mid, hmid⟩ := h.above
  have hfr : (U.setTop g).frames = (.java g :: mid) ++ below := by rw [State.frames_setTop' g h.top, hmid]; rfl
  obtain ⟨o, s₂, hsteps, -, hend, hq⟩ := Steps.callFree hM p X.admits X.cas X.clock (acts := []) hfr happ hPc trivial
  have hq' : vx_Q Qc XC mc ms free a (U.calling g mk a) o s₂ := hq
  rw [State.frames_setTop' g h.top] at hend
  obtain ⟨g₀, hg0⟩ := Option.isSome_iff_exists.mp h.top
  obtain ⟨r, hr⟩ := State.topJava?_eq_some.mp hg0
  have hr' : (({ U with heap := s₂.heap, slotsUsed := s₂.slotsUsed } : State).setVm s₂.vm).frames = .java g₀ :: r := hr
  rcases hq' with ⟨hqc, L, hfe, hL⟩ | ⟨q, rfl, E, ce, L, hx, hce, hcv, hcl, hW₂, hsm, hL⟩
  · obtain ⟨⟨v, rfl⟩, hW₂, e2, q2, q3, q4, q5, q6⟩ := id hfe
    have e3 : s₂ = ({ (U.calling g mk a).setFrames s₂.frames with heap := s₂.heap, slotsUsed := s₂.slotsUsed } : State).setVm s₂.vm := by
      have : s₂ = ({ s₂ with vm := (U.calling g mk a).vm } : State).setVm s₂.vm := rfl
      rw [e2] at this
      exact this
    obtain ⟨c₂, i₂, len₂, hc₂, hd₂, hf₂⟩ := hend
    have hW' : U.WarmedH s₂.vm := hW₂
    have hcc : c₂ = c := by
      have h1 : s₂.code? g.method = U.code? g.method := by
        rw [State.code?_eq, State.code?_eq, hW'.alike.method?]
      exact Option.some.inj (hc₂.symm.trans (h1.trans h.code))
    subst hcc
    have hlen : len₂ = len := by rw [hdg] at hd₂; cases hd₂; rfl
    subst hlen
    have hs₂ : s₂ = (({ U with heap := s₂.heap, slotsUsed := s₂.slotsUsed } : State).setVm s₂.vm).setTop { g with pc := g.pc + len₂, stack := v.toList ++ g.stack } := by
      refine e3.trans ?_
      rw [hf₂, State.calling_eq h.top, State.setFrames_setFrames, State.setTop_of_frames _ hr', hr]
      rfl
    have hsame : U.sameButNew ({ U with heap := s₂.heap, slotsUsed := s₂.slotsUsed } : State) L mc ms := by
      refine ⟨?_, q2, q3, q4, q5, q6⟩
      obtain ⟨t, ht, -⟩ := State.frames_cons hr
      show ({ U with heap := s₂.heap, slotsUsed := s₂.slotsUsed } : State) = { U.setFrames U.frames with heap := s₂.heap, slotsUsed := s₂.slotsUsed }
      rw [State.setFrames_self ht]
    subst hg
    refine Or.inl ⟨v, ⟨(({ U with heap := s₂.heap, slotsUsed := s₂.slotsUsed } : State).setVm s₂.vm), Ls ++ L, c0 + mc, s0 + ms⟩,
      ⟨X.admits, X.cas, X.clock, X.frames, X.room, X.hears, X.method, X.code, (X.here.setHeapUsed s₂.heap s₂.slotsUsed).setVm hW'.alike, X.tail, State.WarmedH.trans X.warmed hW', X.limits, X.bytes, X.same.trans (hsame.setVm s.vm)⟩,
      ⟨g, mk, s₂, L, rfl, rfl, hqc, rfl, hL, rfl, rfl⟩, ?_⟩
    show Steps p.tables e below _ ((({ U with heap := s₂.heap, slotsUsed := s₂.slotsUsed } : State).setVm s₂.vm).setTop { g with pc := g.pc + len₂, stack := v.toList ++ g.stack })
    rw [← hs₂]
    exact hsteps
  · obtain ⟨e2, q2, q3, q4, q5, q6⟩ := id hsm
    have e3 : s₂ = ({ (U.calling g mk a).setFrames s₂.frames with heap := s₂.heap, slotsUsed := s₂.slotsUsed } : State).setVm s₂.vm := by
      have : s₂ = ({ s₂ with vm := (U.calling g mk a).vm } : State).setVm s₂.vm := rfl
      rw [e2] at this
      exact this
    have hf₂ : s₂.frames = .throwing q :: .java g :: U.frames.tail := hend
    have hW' : U.WarmedH s₂.vm := hW₂
    have hs₂ : s₂ = ((({ U with heap := s₂.heap, slotsUsed := s₂.slotsUsed } : State).setVm s₂.vm).setTop g).pushFrame (.throwing q) := by
      refine e3.trans ?_
      rw [hf₂, State.calling_eq h.top, State.setFrames_setFrames, State.pushFrame, State.frames_setTop _ hr', State.setTop_of_frames _ hr', State.setFrames_setFrames, hr]
      rfl
    have hsame : U.sameButNew ({ U with heap := s₂.heap, slotsUsed := s₂.slotsUsed } : State) L mc ms := by
      refine ⟨?_, q2, q3, q4, q5, q6⟩
      obtain ⟨t, ht, -⟩ := State.frames_cons hr
      show ({ U with heap := s₂.heap, slotsUsed := s₂.slotsUsed } : State) = { U.setFrames U.frames with heap := s₂.heap, slotsUsed := s₂.slotsUsed }
      rw [State.setFrames_self ht]
    subst hg
    refine Or.inr ⟨q, ⟨(({ U with heap := s₂.heap, slotsUsed := s₂.slotsUsed } : State).setVm s₂.vm), Ls ++ L, c0 + mc, s0 + ms⟩,
      ⟨X.admits, X.cas, X.clock, X.frames, X.room, X.hears, X.method, X.code, (X.here.setHeapUsed s₂.heap s₂.slotsUsed).setVm hW'.alike, X.tail, State.WarmedH.trans X.warmed hW', X.limits, X.bytes, X.same.trans (hsame.setVm s.vm)⟩,
      ⟨g, mk, s₂, L, E, ce, rfl, rfl, hx, hce, hcv, hcl, rfl, hL, rfl, rfl⟩, ?_⟩
    show Steps p.tables e below _ (((({ U with heap := s₂.heap, slotsUsed := s₂.slotsUsed } : State).setVm s₂.vm).setTop g).pushFrame (.throwing q))
    rw [← hs₂]
    exact hsteps
end Payer
section Calls
variable {p : Program} {l : Launch} {e : Env} {R : Room} {s : State} {m : MethodId} {args : Array Value} {below : List Frame} {meth : Method} {c : Code} {T : State} {locs : List Loc} {cells slots : Nat}
theorem vx_callV (X : Stand p l e R s m args below meth c T locs cells slots) (hexec : p.tables.exec = Jvm.exec) {own C : String} {index : Nat} {y : MethodName} {bytes : ByteArray} {maxL : Nat} {ret : Option FieldType}
    (hown : s.vm.findClass own = some m.cls) (hlink : (Cond.methodLink own index y).before args s = true) (hinst : (Cond.instanceMethod y).before args s = true) (hsel : (Cond.selects C y y).before args s = true)
    (hcode : (Cond.code y bytes maxL ret).before args s = true) (hy : y.cls ≠ "java/lang/invoke/MethodHandle" ∧ y.cls ≠ "java/lang/invoke/VarHandle")
    {W9 : Nat} {Pre : Pt → Array Value → Prop} {Post : Pt → Array Value → Option Value → Pt → Prop} {PostX : Pt → Array Value → Addr → Pt → Prop} (hK : vx_Back l R p e below s args y 3 W9 Pre Post PostX)
    {b : Addr} {cellB : Cell} (hcell : T.heap[b]? = some cellB) (hobj : cellB.vm.isStatics = false) (hcls : s.vm.findClass C = some cellB.cls)
    {g : JFrame} (hg : g.method = m) (hsize : g.locals.size = c.maxLocals) {argsL rest : List Value} (hlen : ∀ sig, parseMethodDescriptor y.desc = some sig → argsL.length = sig.parameters.length)
    (hstack : g.stack = argsL.reverse ++ .ref b :: rest) (hW : 2 * g.monitorRoom + (rest.map fun v => v.category).sum ≤ W9) (hdg : decode c.code g.pc = .ok (.invokevirtual index, 3))
    (hpre : ∀ vm₁, s.WarmedH vm₁ → Pre ⟨T.setVm vm₁, locs, cells, slots⟩ (Value.ref b :: argsL).toArray) :
    (∃ (v : Option Value) (vm₁ : Vm) (B : Pt), s.WarmedH vm₁ ∧ Stand p l e R s m args below meth c B.U B.locs B.cells B.slots ∧ Post ⟨T.setVm vm₁, locs, cells, slots⟩ (Value.ref b :: argsL).toArray v B ∧
      ∀ target, Steps p.tables e below (B.U.setTop { g with pc := g.pc + 3, stack := v.toList ++ rest }) target → Steps p.tables e below (T.setTop g) target) ∨
    (∃ (q : Addr) (vm₁ : Vm) (B : Pt), s.WarmedH vm₁ ∧ Stand p l e R s m args below meth c B.U B.locs B.cells B.slots ∧ PostX ⟨T.setVm vm₁, locs, cells, slots⟩ (Value.ref b :: argsL).toArray q B ∧
      Steps p.tables e below (T.setTop g) ((B.U.setTop { g with stack := rest }).pushFrame (.throwing q))) := by
  obtain ⟨mk, methM, hnamed, hmethM, hstM, habM⟩ := Cond.instanceMethod_spec hinst
  obtain ⟨methM', cM, hmethM', -, -, -, -, -, -, hsigM⟩ := Cond.code_spec hnamed hcode
  cases hmethM.symm.trans hmethM'
  obtain ⟨c2, r2, m2, q1, q2, q3, q4, kP, hkP, hkPi⟩ := Cond.selects_spec hsel
  cases hcls.symm.trans q1
  cases (State.methodFound?_of_named hnamed hy).symm.trans q2
  cases hnamed.symm.trans q3
  have hselP : selectMethod e.platform s.vm cellB.cls mk = .method mk := by rw [Launch.admits_selectMethod X.admits]; exact q4
  obtain ⟨vm₁, X₁, hstep₁⟩ := X.invokevirtual hexec hown hlink hnamed hmethM hstM hkP hkPi hy (a := b) (cell := cellB) hcell
    (fun z h => by rw [h] at hobj; cases hobj) hselP hmethM habM hkP hkPi (g := g) hg (argsL := argsL) (rest := rest) (hlen _ hsigM) hstack hdg
  rcases hK m meth c ⟨T.setVm vm₁, locs, cells, slots⟩ { g with stack := rest } (.invokevirtual index) mk (Value.ref b :: argsL).toArray X₁ hg hsize hdg hW (X₁.named hnamed) (hpre vm₁ X₁.warmed) with ⟨v, B, X', hpost, hsteps⟩ | ⟨q, B, X', hpost, hsteps⟩
  · exact Or.inl ⟨v, vm₁, B, X₁.warmed, X', hpost, fun target h => hstep₁ _ fun acts => by rw [doInvoke_state]; exact hsteps.trans h⟩
  · exact Or.inr ⟨q, vm₁, B, X₁.warmed, X', hpost, hstep₁ _ fun acts => by rw [doInvoke_state]; exact hsteps⟩
theorem vx_callS (X : Stand p l e R s m args below meth c T locs cells slots) (hexec : p.tables.exec = Jvm.exec) {own : String} {index : Nat} {y : MethodName} {bytes : ByteArray} {maxL : Nat} {ret : Option FieldType}
    (hown : s.vm.findClass own = some m.cls) (hlink : (Cond.methodLink own index y).before args s = true) (hstat : (Cond.static y).before args s = true) (hinit : (Cond.initialized y.cls).before args s = true)
    (hcode : (Cond.code y bytes maxL ret).before args s = true) (hy : y.cls ≠ "java/lang/invoke/MethodHandle" ∧ y.cls ≠ "java/lang/invoke/VarHandle")
    {W9 : Nat} {Pre : Pt → Array Value → Prop} {Post : Pt → Array Value → Option Value → Pt → Prop} {PostX : Pt → Array Value → Addr → Pt → Prop} (hK : vx_Back l R p e below s args y 3 W9 Pre Post PostX)
    {g : JFrame} (hg : g.method = m) (hsize : g.locals.size = c.maxLocals) {argsL rest : List Value} (hlen : ∀ sig, parseMethodDescriptor y.desc = some sig → argsL.length = sig.parameters.length)
    (hstack : g.stack = argsL.reverse ++ rest) (hW : 2 * g.monitorRoom + (rest.map fun v => v.category).sum ≤ W9) (hdg : decode c.code g.pc = .ok (.invokestatic index, 3))
    (hpre : ∀ vm₁, s.WarmedH vm₁ → Pre ⟨T.setVm vm₁, locs, cells, slots⟩ argsL.toArray) :
    (∃ (v : Option Value) (vm₁ : Vm) (B : Pt), s.WarmedH vm₁ ∧ Stand p l e R s m args below meth c B.U B.locs B.cells B.slots ∧ Post ⟨T.setVm vm₁, locs, cells, slots⟩ argsL.toArray v B ∧
      ∀ target, Steps p.tables e below (B.U.setTop { g with pc := g.pc + 3, stack := v.toList ++ rest }) target → Steps p.tables e below (T.setTop g) target) ∨
    (∃ (q : Addr) (vm₁ : Vm) (B : Pt), s.WarmedH vm₁ ∧ Stand p l e R s m args below meth c B.U B.locs B.cells B.slots ∧ PostX ⟨T.setVm vm₁, locs, cells, slots⟩ argsL.toArray q B ∧
      Steps p.tables e below (T.setTop g) ((B.U.setTop { g with stack := rest }).pushFrame (.throwing q))) := by
  obtain ⟨mk, hnamed⟩ := Cond.code_named hcode
  obtain ⟨methM, cM, hmethM, -, -, -, -, -, -, hsigM⟩ := Cond.code_spec hnamed hcode
  have hstatic : methM.isStatic = true := Cond.static_spec hnamed hmethM hstat
  obtain ⟨kP, hkP, -⟩ := className_of_methodNamed hnamed
  have hinitP : kP.init = .initialized := Cond.initialized_spec (findClass_of_methodNamed hnamed) hkP hinit
  obtain ⟨vm₁, X₁, hstep₁⟩ := X.invokestatic hexec hown hlink hnamed hmethM hstatic hkP hinitP hy (g := g) hg (argsL := argsL) (rest := rest) (hlen _ hsigM) hstack hdg
  rcases hK m meth c ⟨T.setVm vm₁, locs, cells, slots⟩ { g with stack := rest } (.invokestatic index) mk argsL.toArray X₁ hg hsize hdg hW (X₁.named hnamed) (hpre vm₁ X₁.warmed) with ⟨v, B, X', hpost, hsteps⟩ | ⟨q, B, X', hpost, hsteps⟩
  · exact Or.inl ⟨v, vm₁, B, X₁.warmed, X', hpost, fun target h => hstep₁ _ fun acts => by rw [doInvoke_state]; exact hsteps.trans h⟩
  · exact Or.inr ⟨q, vm₁, B, X₁.warmed, X', hpost, hstep₁ _ fun acts => by rw [doInvoke_state]; exact hsteps⟩
end Calls
theorem vx_cls {s : State} {T : State} {vm₁ : Vm} {E : String} {k : ClassId} (hW : s.WarmedH vm₁) (h : (T.setVm vm₁).vm.findClass E = some k) : s.vm.findClass E = some k := by
  have h1 : vm₁.findClass E = some k := h
  rw [hW.alike.findClass] at h1
  exact h1
/-- the method's frame g, with q thrown over it -/
noncomputable def vx_W (p : Program) (l : Launch) (e : Env) (R : Room) (s : State) (m : MethodId) (args : Array Value) (below : List Frame) (meth : Method) (c : Code) (H : Heap) (locs : List Loc) (cells slots : Nat) (Q : State → Prop) (g : JFrame) (q : Addr) : Prop :=
  ∀ T : State, T.heap = H → Stand p l e R s m args below meth c T locs cells slots → ∃ t, Steps p.tables e below ((T.setTop g).pushFrame (.throwing q)) t ∧ Q t
noncomputable def vx_Run (p : Program) (l : Launch) (e : Env) (R : Room) (s : State) (m : MethodId) (args : Array Value) (below : List Frame) (meth : Method) (c : Code) (H : Heap) (locs : List Loc) (cells slots mc ms : Nat) (g : JFrame) (rest : List Value) (Qa : State → Outcome → State → Prop) (XC : String → State → State → Prop) (free : Addr → Prop) : Prop :=
  ∀ T : State, T.heap = H → Stand p l e R s m args below meth c T locs cells slots →
    (∃ (v : Option Value) (st₀ t T' : State) (L : List Loc), st₀.heap = H ∧ Stand p l e R s m args below meth c T' (locs ++ L) (cells + mc) (slots + ms) ∧ (∀ q ∈ L, free q.base) ∧ T'.heap = t.heap ∧ T'.vm = t.vm ∧ Qa st₀ (.returned v) t ∧
      Goes p e below T g T' { g with pc := g.pc + 3, stack := v.toList ++ rest }) ∨
    (∃ (q : Addr) (st₀ t T' : State) (L : List Loc) (E : String) (ce : Cell), st₀.heap = H ∧ Stand p l e R s m args below meth c T' (locs ++ L) (cells + mc) (slots + ms) ∧ (∀ z ∈ L, free z.base) ∧ T'.heap = t.heap ∧ T'.vm = t.vm ∧ XC E st₀ t ∧ t.heap[q]? = some ce ∧ ce.vm = .none ∧ s.vm.findClass E = some ce.cls ∧
      Steps p.tables e below (T.setTop g) ((T'.setTop { g with stack := rest }).pushFrame (.throwing q)))
noncomputable def vx_X {S : Type} (px : S → Prop) (B : String → S → State → Prop) (A : Nat → Prop) : String → State → State → Prop := fun E st t => ∃ u : S, px u ∧ B E u t ∧ va_F A st t
section Runs
variable {p : Program} {l : Launch} {e : Env} {R : Room} {s : State} {m : MethodId} {args : Array Value} {below : List Frame} {meth : Method} {c : Code} {H : Heap} {locs : List Loc} {cells slots : Nat}
variable {y : MethodName} {bytes cc : ByteArray} {maxL nL mc ms n index : Nat} {ret : Option FieldType} {ws : List Cond} {rm : Room} {Pc : Array Value → State → Prop} {Qc : Array Value → State → Outcome → State → Prop} {XC : String → State → State → Prop} {free : Addr → Prop} {Ts : List Cond} {own C : String} {b : Addr} {As rest : List Value} {g : JFrame}
theorem vx_callBack (cb : CallB R s args own index y bytes maxL ret ws rm mc ms n) (hM : vx_Met l y ws rm Pc Qc XC mc ms free) (hbl : FrameBlind Pc) : vx_Back l R p e below s args y 3 8 (PreOf R mc ms Pc) (PostOf Qc mc ms free) (vx_Post XC mc ms free) := by
  obtain ⟨hrc, hrs, hfr, hlo, hws, hcw, -, hini, -⟩ := cb
  exact vx_back (bytes := bytes) (maxL := maxL) (ret := ret) hM hbl hrc hrs hfr hlo hws hcw (fun a' U hW => word_at hW (Or.inl (by first | rfl | simp [Cond.onTables, Cond.keeps, Cond.steady])) hini)
theorem vx_runV (S : CallFix p m c cc nL s args Ts own) (hM : vx_Met l y ws rm Pc Qc XC mc ms free) (cw : CallW R s args own C index y bytes maxL ret ws rm mc ms n) (hp : PreV s H C b Pc As)
    (hg : g.method = m) (hn : As.length = n) (hsize : g.locals.size = nL) (hstack : g.stack = As.reverse ++ .ref b :: rest) (hW : 2 * g.monitorRoom + (rest.map fun v => v.category).sum ≤ 8) (hdg : decode cc g.pc = .ok (.invokevirtual index, 3)) (hf : cells + mc ≤ R.cells ∧ slots + ms ≤ R.slots) :
    vx_Run p l e R s m args below meth c H locs cells slots mc ms g rest (Qc (Value.ref b :: As).toArray) XC free := by
  have hK : vx_Back l R p e below s args y 3 8 (PreOf R mc ms Pc) (PostOf Qc mc ms free) (vx_Post XC mc ms free) := vx_callBack cw.1 hM hp.1
  obtain ⟨⟨-, -, -, -, -, -, hcode, -, hy, hlen, hl⟩, hin, hse⟩ := cw
  obtain ⟨hx, hb, hml, ho, -⟩ := S
  obtain ⟨-, ⟨cellB, hcB, hoB, hclB⟩, hPc⟩ := hp
  intro T hT X
  rcases vx_callV X hx (C := C) (bytes := bytes) (maxL := maxL) (ret := ret) ho hl hin hse hcode hy hK (by rw [hT]; exact hcB) hoB hclB hg (hsize.trans hml.symm) (argsL := As) (rest := rest) (fun sig h => hn.trans (hlen sig h)) hstack hW (by rw [hb]; exact hdg)
    (fun vm₁ hW₁ => ⟨hf.1, hf.2, hPc (T.setVm vm₁) hT hW₁⟩) with ⟨v, vm₁, ⟨U', l2, c2, s2⟩, hW₁, X', ⟨g', mk, t, L, e1, e2, hq, h1, hL, h2, h3⟩, st⟩ | ⟨q, vm₁, ⟨U', l2, c2, s2⟩, hW₁, X', ⟨g', mk, t, L, E, ce, e1, e2, hq, hce, hcv, hcl, h1, hL, h2, h3⟩, st⟩
  · dsimp only [Pt.U, Pt.locs, Pt.cells, Pt.slots] at X' e1 e2 h1 h2 h3 st
    subst h1; subst h2; subst h3
    exact Or.inl ⟨v, (T.setVm vm₁).calling g' mk (Value.ref b :: As).toArray, t, U', L, hT, X', hL, e1, e2, hq, st⟩
  · dsimp only [Pt.U, Pt.locs, Pt.cells, Pt.slots] at X' e1 e2 h1 h2 h3 st hcl
    subst h1; subst h2; subst h3
    exact Or.inr ⟨q, (T.setVm vm₁).calling g' mk (Value.ref b :: As).toArray, t, U', L, E, ce, hT, X', hL, e1, e2, hq, hce, hcv, vx_cls hW₁ hcl, st⟩
theorem vx_runS (S : CallFix p m c cc nL s args Ts own) (hM : vx_Met l y ws rm Pc Qc XC mc ms free) (cw : CallB R s args own index y bytes maxL ret ws rm mc ms n ∧ (Cond.static y).before args s = true) (hp : PreS s H Pc As)
    (hg : g.method = m) (hn : As.length = n) (hsize : g.locals.size = nL) (hstack : g.stack = As.reverse ++ rest) (hW : 2 * g.monitorRoom + (rest.map fun v => v.category).sum ≤ 8) (hdg : decode cc g.pc = .ok (.invokestatic index, 3)) (hf : cells + mc ≤ R.cells ∧ slots + ms ≤ R.slots) :
    vx_Run p l e R s m args below meth c H locs cells slots mc ms g rest (Qc As.toArray) XC free := by
  have hK : vx_Back l R p e below s args y 3 8 (PreOf R mc ms Pc) (PostOf Qc mc ms free) (vx_Post XC mc ms free) := vx_callBack cw.1 hM hp.1
  obtain ⟨⟨-, -, -, -, -, -, hcode, hini, hy, hlen, hl⟩, hstt⟩ := cw
  obtain ⟨hx, hb, hml, ho, -⟩ := S
  intro T hT X
  rcases vx_callS X hx (bytes := bytes) (maxL := maxL) (ret := ret) ho hl hstt hini hcode hy hK hg (hsize.trans hml.symm) (argsL := As) (rest := rest) (fun sig h => hn.trans (hlen sig h)) hstack hW (by rw [hb]; exact hdg)
    (fun vm₁ hW₁ => ⟨hf.1, hf.2, hp.2 (T.setVm vm₁) hT hW₁⟩) with ⟨v, vm₁, ⟨U', l2, c2, s2⟩, hW₁, X', ⟨g', mk, t, L, e1, e2, hq, h1, hL, h2, h3⟩, st⟩ | ⟨q, vm₁, ⟨U', l2, c2, s2⟩, hW₁, X', ⟨g', mk, t, L, E, ce, e1, e2, hq, hce, hcv, hcl, h1, hL, h2, h3⟩, st⟩
  · dsimp only [Pt.U, Pt.locs, Pt.cells, Pt.slots] at X' e1 e2 h1 h2 h3 st
    subst h1; subst h2; subst h3
    exact Or.inl ⟨v, (T.setVm vm₁).calling g' mk As.toArray, t, U', L, hT, X', hL, e1, e2, hq, st⟩
  · dsimp only [Pt.U, Pt.locs, Pt.cells, Pt.slots] at X' e1 e2 h1 h2 h3 st hcl
    subst h1; subst h2; subst h3
    exact Or.inr ⟨q, (T.setVm vm₁).calling g' mk As.toArray, t, U', L, E, ce, hT, X', hL, e1, e2, hq, hce, hcv, vx_cls hW₁ hcl, st⟩
end Runs
section Rows
variable {p : Program} {l : Launch} {e : Env} {R : Room} {s : State} {m : MethodId} {args : Array Value} {below : List Frame} {meth : Method} {c : Code} {H : Heap} {locs : List Loc} {cells slots : Nat} {Q : State → Prop}
variable {mc ms : Nat} {free : Addr → Prop} {A0 A1 : Nat → Prop} {H0 : Heap} {a : Array Value} {pc : Nat} {ls : Array Slot} {st0 rest : List Value}
theorem vx_keep {st₀ t T' : State} {L : List Loc} (h0 : st₀.heap = H) (e1 : T'.heap = t.heap) (hS : va_S A0 H0 H locs) (hA : ∀ q, q < H.size → A1 q → A0 q) (hf : ∀ q, free q → A0 q) (hL : ∀ q ∈ L, free q.base) (hF : va_F A1 st₀ t) :
    H.size ≤ T'.heap.size ∧ (∀ q : Nat, q < H.size → ¬ A1 q → T'.heap[q]? = H[q]?) ∧ va_S A0 H0 T'.heap (locs ++ L) := by
  obtain ⟨hz, hk⟩ := hF
  rw [h0] at hz hk
  exact ⟨by rw [e1]; exact hz, fun q h1 h2 => by rw [e1]; exact hk q h1 h2,
    ⟨Nat.le_trans hS.1 (by rw [e1]; exact hz), fun q h1 h2 => by rw [e1, hk q (Nat.lt_of_lt_of_le h1 hS.1) (fun z => h2 (hA q (Nat.lt_of_lt_of_le h1 hS.1) z))]; exact hS.2.1 q h1 h2, fun q hq => by
      rcases List.mem_append.mp hq with h | h
      · exact hS.2.2 q h
      · exact hf _ (hL q h)⟩⟩
theorem vx_calli {S SX : Type} {post : Int32 → S → Prop} {px : SX → Prop} {B : S → State → Prop} {BX : String → SX → State → Prop} {AX : Nat → Prop} (hr : vx_Run p l e R s m args below meth c H locs cells slots mc ms (F0 m pc ls st0) rest (va_Qi post B A1 a) (vx_X px BX AX) free) (hS : va_S A0 H0 H locs) (hA : ∀ q, q < H.size → A1 q → A0 q) (hf : ∀ q, free q → A0 q) (hAX : ∀ q, q < H.size → AX q → A0 q)
    (kx : ∀ (E : String) (ce : Cell) (q9 : Addr) (u : SX) (t : State) (H1 : Heap) (locs1 : List Loc), t.heap = H1 → s.vm.Alike t.vm → px u → BX E u t → H.size ≤ H1.size → (∀ q : Nat, q < H.size → ¬ AX q → H1[q]? = H[q]?) → va_S A0 H0 H1 locs1 → H1[q9]? = some ce → ce.vm = .none → s.vm.findClass E = some ce.cls → vx_W p l e R s m args below meth c H1 locs1 (cells + mc) (slots + ms) Q (F0 m pc ls rest) q9)
    (kk : ∀ (r : Int32) (u : S) (t : State) (H1 : Heap) (locs1 : List Loc), t.heap = H1 → s.vm.Alike t.vm → post r u → B u t → H.size ≤ H1.size → (∀ q : Nat, q < H.size → ¬ A1 q → H1[q]? = H[q]?) → va_S A0 H0 H1 locs1 → W p l e R s m args below meth c H1 locs1 (cells + mc) (slots + ms) Q (F0 m (pc + 3) ls (.int r :: rest))) : W p l e R s m args below meth c H locs cells slots Q (F0 m pc ls st0) := by
  intro T hT X
  rcases hr T hT X with ⟨v, st₀, t, T', L, h0, X', hL, e1, e2, ⟨⟨r, u, hv, hp, hb⟩, hF⟩, st⟩ | ⟨q, st₀, t, T', L, E, ce, h0, X', hL, e1, e2, ⟨u, hp, hb, hF⟩, hce, hcv, hcl, st⟩
  · cases hv
    obtain ⟨k1, k2, k3⟩ := vx_keep h0 e1 hS hA hf hL hF
    obtain ⟨t2, a1, b1⟩ := kk r u t T'.heap (locs ++ L) e1.symm (by rw [← e2]; exact X'.warmed.alike) hp hb k1 k2 k3 T' rfl X'
    exact ⟨t2, st t2 a1, b1⟩
  · obtain ⟨k1, k2, k3⟩ := vx_keep h0 e1 hS hAX hf hL hF
    obtain ⟨t2, a1, b1⟩ := kx E ce q u t T'.heap (locs ++ L) e1.symm (by rw [← e2]; exact X'.warmed.alike) hp hb k1 k2 k3 (by rw [e1]; exact hce) hcv hcl T' rfl X'
    exact ⟨t2, st.trans a1, b1⟩
theorem vx_calll {S SX : Type} {post : Int64 → S → Prop} {px : SX → Prop} {B : S → State → Prop} {BX : String → SX → State → Prop} {AX : Nat → Prop} (hr : vx_Run p l e R s m args below meth c H locs cells slots mc ms (F0 m pc ls st0) rest (va_Ql post B A1 a) (vx_X px BX AX) free) (hS : va_S A0 H0 H locs) (hA : ∀ q, q < H.size → A1 q → A0 q) (hf : ∀ q, free q → A0 q) (hAX : ∀ q, q < H.size → AX q → A0 q)
    (kx : ∀ (E : String) (ce : Cell) (q9 : Addr) (u : SX) (t : State) (H1 : Heap) (locs1 : List Loc), t.heap = H1 → s.vm.Alike t.vm → px u → BX E u t → H.size ≤ H1.size → (∀ q : Nat, q < H.size → ¬ AX q → H1[q]? = H[q]?) → va_S A0 H0 H1 locs1 → H1[q9]? = some ce → ce.vm = .none → s.vm.findClass E = some ce.cls → vx_W p l e R s m args below meth c H1 locs1 (cells + mc) (slots + ms) Q (F0 m pc ls rest) q9)
    (kk : ∀ (r : Int64) (u : S) (t : State) (H1 : Heap) (locs1 : List Loc), t.heap = H1 → s.vm.Alike t.vm → post r u → B u t → H.size ≤ H1.size → (∀ q : Nat, q < H.size → ¬ A1 q → H1[q]? = H[q]?) → va_S A0 H0 H1 locs1 → W p l e R s m args below meth c H1 locs1 (cells + mc) (slots + ms) Q (F0 m (pc + 3) ls (.long r :: rest))) : W p l e R s m args below meth c H locs cells slots Q (F0 m pc ls st0) := by
  intro T hT X
  rcases hr T hT X with ⟨v, st₀, t, T', L, h0, X', hL, e1, e2, ⟨⟨r, u, hv, hp, hb⟩, hF⟩, st⟩ | ⟨q, st₀, t, T', L, E, ce, h0, X', hL, e1, e2, ⟨u, hp, hb, hF⟩, hce, hcv, hcl, st⟩
  · cases hv
    obtain ⟨k1, k2, k3⟩ := vx_keep h0 e1 hS hA hf hL hF
    obtain ⟨t2, a1, b1⟩ := kk r u t T'.heap (locs ++ L) e1.symm (by rw [← e2]; exact X'.warmed.alike) hp hb k1 k2 k3 T' rfl X'
    exact ⟨t2, st t2 a1, b1⟩
  · obtain ⟨k1, k2, k3⟩ := vx_keep h0 e1 hS hAX hf hL hF
    obtain ⟨t2, a1, b1⟩ := kx E ce q u t T'.heap (locs ++ L) e1.symm (by rw [← e2]; exact X'.warmed.alike) hp hb k1 k2 k3 (by rw [e1]; exact hce) hcv hcl T' rfl X'
    exact ⟨t2, st.trans a1, b1⟩
theorem vx_callf {S SX : Type} {post : UInt32 → S → Prop} {px : SX → Prop} {B : S → State → Prop} {BX : String → SX → State → Prop} {AX : Nat → Prop} (hr : vx_Run p l e R s m args below meth c H locs cells slots mc ms (F0 m pc ls st0) rest (va_Qf post B A1 a) (vx_X px BX AX) free) (hS : va_S A0 H0 H locs) (hA : ∀ q, q < H.size → A1 q → A0 q) (hf : ∀ q, free q → A0 q) (hAX : ∀ q, q < H.size → AX q → A0 q)
    (kx : ∀ (E : String) (ce : Cell) (q9 : Addr) (u : SX) (t : State) (H1 : Heap) (locs1 : List Loc), t.heap = H1 → s.vm.Alike t.vm → px u → BX E u t → H.size ≤ H1.size → (∀ q : Nat, q < H.size → ¬ AX q → H1[q]? = H[q]?) → va_S A0 H0 H1 locs1 → H1[q9]? = some ce → ce.vm = .none → s.vm.findClass E = some ce.cls → vx_W p l e R s m args below meth c H1 locs1 (cells + mc) (slots + ms) Q (F0 m pc ls rest) q9)
    (kk : ∀ (r : UInt32) (u : S) (t : State) (H1 : Heap) (locs1 : List Loc), t.heap = H1 → s.vm.Alike t.vm → post r u → B u t → H.size ≤ H1.size → (∀ q : Nat, q < H.size → ¬ A1 q → H1[q]? = H[q]?) → va_S A0 H0 H1 locs1 → W p l e R s m args below meth c H1 locs1 (cells + mc) (slots + ms) Q (F0 m (pc + 3) ls (.float r :: rest))) : W p l e R s m args below meth c H locs cells slots Q (F0 m pc ls st0) := by
  intro T hT X
  rcases hr T hT X with ⟨v, st₀, t, T', L, h0, X', hL, e1, e2, ⟨⟨r, u, hv, hp, hb⟩, hF⟩, st⟩ | ⟨q, st₀, t, T', L, E, ce, h0, X', hL, e1, e2, ⟨u, hp, hb, hF⟩, hce, hcv, hcl, st⟩
  · cases hv
    obtain ⟨k1, k2, k3⟩ := vx_keep h0 e1 hS hA hf hL hF
    obtain ⟨t2, a1, b1⟩ := kk r u t T'.heap (locs ++ L) e1.symm (by rw [← e2]; exact X'.warmed.alike) hp hb k1 k2 k3 T' rfl X'
    exact ⟨t2, st t2 a1, b1⟩
  · obtain ⟨k1, k2, k3⟩ := vx_keep h0 e1 hS hAX hf hL hF
    obtain ⟨t2, a1, b1⟩ := kx E ce q u t T'.heap (locs ++ L) e1.symm (by rw [← e2]; exact X'.warmed.alike) hp hb k1 k2 k3 (by rw [e1]; exact hce) hcv hcl T' rfl X'
    exact ⟨t2, st.trans a1, b1⟩
theorem vx_calld {S SX : Type} {post : UInt64 → S → Prop} {px : SX → Prop} {B : S → State → Prop} {BX : String → SX → State → Prop} {AX : Nat → Prop} (hr : vx_Run p l e R s m args below meth c H locs cells slots mc ms (F0 m pc ls st0) rest (va_Qd post B A1 a) (vx_X px BX AX) free) (hS : va_S A0 H0 H locs) (hA : ∀ q, q < H.size → A1 q → A0 q) (hf : ∀ q, free q → A0 q) (hAX : ∀ q, q < H.size → AX q → A0 q)
    (kx : ∀ (E : String) (ce : Cell) (q9 : Addr) (u : SX) (t : State) (H1 : Heap) (locs1 : List Loc), t.heap = H1 → s.vm.Alike t.vm → px u → BX E u t → H.size ≤ H1.size → (∀ q : Nat, q < H.size → ¬ AX q → H1[q]? = H[q]?) → va_S A0 H0 H1 locs1 → H1[q9]? = some ce → ce.vm = .none → s.vm.findClass E = some ce.cls → vx_W p l e R s m args below meth c H1 locs1 (cells + mc) (slots + ms) Q (F0 m pc ls rest) q9)
    (kk : ∀ (r : UInt64) (u : S) (t : State) (H1 : Heap) (locs1 : List Loc), t.heap = H1 → s.vm.Alike t.vm → post r u → B u t → H.size ≤ H1.size → (∀ q : Nat, q < H.size → ¬ A1 q → H1[q]? = H[q]?) → va_S A0 H0 H1 locs1 → W p l e R s m args below meth c H1 locs1 (cells + mc) (slots + ms) Q (F0 m (pc + 3) ls (.double r :: rest))) : W p l e R s m args below meth c H locs cells slots Q (F0 m pc ls st0) := by
  intro T hT X
  rcases hr T hT X with ⟨v, st₀, t, T', L, h0, X', hL, e1, e2, ⟨⟨r, u, hv, hp, hb⟩, hF⟩, st⟩ | ⟨q, st₀, t, T', L, E, ce, h0, X', hL, e1, e2, ⟨u, hp, hb, hF⟩, hce, hcv, hcl, st⟩
  · cases hv
    obtain ⟨k1, k2, k3⟩ := vx_keep h0 e1 hS hA hf hL hF
    obtain ⟨t2, a1, b1⟩ := kk r u t T'.heap (locs ++ L) e1.symm (by rw [← e2]; exact X'.warmed.alike) hp hb k1 k2 k3 T' rfl X'
    exact ⟨t2, st t2 a1, b1⟩
  · obtain ⟨k1, k2, k3⟩ := vx_keep h0 e1 hS hAX hf hL hF
    obtain ⟨t2, a1, b1⟩ := kx E ce q u t T'.heap (locs ++ L) e1.symm (by rw [← e2]; exact X'.warmed.alike) hp hb k1 k2 k3 (by rw [e1]; exact hce) hcv hcl T' rfl X'
    exact ⟨t2, st.trans a1, b1⟩
theorem vx_callv {S SX : Type} {post : S → Prop} {px : SX → Prop} {B : S → State → Prop} {BX : String → SX → State → Prop} {AX : Nat → Prop} (hr : vx_Run p l e R s m args below meth c H locs cells slots mc ms (F0 m pc ls st0) rest (va_Qv post B A1 a) (vx_X px BX AX) free) (hS : va_S A0 H0 H locs) (hA : ∀ q, q < H.size → A1 q → A0 q) (hf : ∀ q, free q → A0 q) (hAX : ∀ q, q < H.size → AX q → A0 q)
    (kx : ∀ (E : String) (ce : Cell) (q9 : Addr) (u : SX) (t : State) (H1 : Heap) (locs1 : List Loc), t.heap = H1 → s.vm.Alike t.vm → px u → BX E u t → H.size ≤ H1.size → (∀ q : Nat, q < H.size → ¬ AX q → H1[q]? = H[q]?) → va_S A0 H0 H1 locs1 → H1[q9]? = some ce → ce.vm = .none → s.vm.findClass E = some ce.cls → vx_W p l e R s m args below meth c H1 locs1 (cells + mc) (slots + ms) Q (F0 m pc ls rest) q9)
    (kk : ∀ (u : S) (t : State) (H1 : Heap) (locs1 : List Loc), t.heap = H1 → s.vm.Alike t.vm → post u → B u t → H.size ≤ H1.size → (∀ q : Nat, q < H.size → ¬ A1 q → H1[q]? = H[q]?) → va_S A0 H0 H1 locs1 → W p l e R s m args below meth c H1 locs1 (cells + mc) (slots + ms) Q (F0 m (pc + 3) ls (rest))) : W p l e R s m args below meth c H locs cells slots Q (F0 m pc ls st0) := by
  intro T hT X
  rcases hr T hT X with ⟨v, st₀, t, T', L, h0, X', hL, e1, e2, ⟨⟨u, hv, hp, hb⟩, hF⟩, st⟩ | ⟨q, st₀, t, T', L, E, ce, h0, X', hL, e1, e2, ⟨u, hp, hb, hF⟩, hce, hcv, hcl, st⟩
  · cases hv
    obtain ⟨k1, k2, k3⟩ := vx_keep h0 e1 hS hA hf hL hF
    obtain ⟨t2, a1, b1⟩ := kk u t T'.heap (locs ++ L) e1.symm (by rw [← e2]; exact X'.warmed.alike) hp hb k1 k2 k3 T' rfl X'
    exact ⟨t2, st t2 a1, b1⟩
  · obtain ⟨k1, k2, k3⟩ := vx_keep h0 e1 hS hAX hf hL hF
    obtain ⟨t2, a1, b1⟩ := kx E ce q u t T'.heap (locs ++ L) e1.symm (by rw [← e2]; exact X'.warmed.alike) hp hb k1 k2 k3 (by rw [e1]; exact hce) hcv hcl T' rfl X'
    exact ⟨t2, st.trans a1, b1⟩
end Rows
section Ends
variable {p : Program} {l : Launch} {e : Env} {R : Room} {s : State} {m : MethodId} {args : Array Value} {below : List Frame} {meth : Method} {c : Code} {H : Heap} {locs : List Loc} {cells slots : Nat} {Q : State → Prop}
variable {mc ms : Nat} {free : Addr → Prop} {A0 A1 : Nat → Prop} {H0 : Heap} {a : Array Value} {ls : Array Slot} {st0 rest : List Value}
variable {Qc : Array Value → State → Outcome → State → Prop} {XC : String → State → State → Prop}
/-- what a body that may throw owes at its end -/
noncomputable def vx_MQ (below : List Frame) (Qc : Array Value → State → Outcome → State → Prop) (XC : String → State → State → Prop) (a : Array Value) (s : State) (mc ms : Nat) (free : Addr → Prop) : State → Prop := fun t =>
  ∃ o, t.status = .running ∧ Ended t below o ∧ vx_Q Qc XC mc ms free a s o t
theorem vx_ret {g : JFrame} {mc ms : Nat} (k : W p l e R s m args below meth c H locs cells slots (MQ below Qc args s mc ms free) g) : W p l e R s m args below meth c H locs cells slots (vx_MQ below Qc XC args s mc ms free) g := by
  intro T hT X
  obtain ⟨t, a1, o, b1, b2, b3, b4⟩ := k T hT X
  exact ⟨t, a1, o, b1, b2, Or.inl ⟨b3, b4⟩⟩
/-- not caught here: it goes on to the caller -/
theorem vx_widen {g : JFrame} {q : Addr} {k n : Nat} (h1 : cells ≤ k) (h2 : slots ≤ n) (kk : vx_W p l e R s m args below meth c H locs k n Q g q) : vx_W p l e R s m args below meth c H locs cells slots Q g q := fun T hT X => kk T hT (stand_widen X h1 h2)
theorem vx_out {pc : Nat} {E : String} {ce : Cell} {q : Addr} {mc ms : Nat} (hout : ∀ x ∈ c.exceptionTable.toList, covers x pc = false) (hlocks : meth.locks = false) (hcell : H[q]? = some ce) (hv : ce.vm = .none) (hcl : s.vm.findClass E = some ce.cls)
    (hx : ∀ t : State, t.heap = H → s.vm.Alike t.vm → XC E s t) (hf : ∀ z ∈ locs, free z.base) (hc : cells ≤ mc) (hs : slots ≤ ms) :
    vx_W p l e R s m args below meth c H locs cells slots (vx_MQ below Qc XC args s mc ms free) (F0 m pc ls rest) q := by
  intro T hT X
  obtain ⟨st1, hrun, hend, hW, hsm⟩ := X.leaveThrown q (g := F0 m pc ls rest) rfl rfl rfl hout hlocks
  have hcell9 : (T.setFrames (.throwing q :: below)).heap[q]? = some ce := by
    show T.heap[q]? = some ce
    rw [hT]; exact hcell
  exact ⟨_, st1, .threw q, hrun, hend, Or.inr ⟨q, rfl, E, ce, locs, hx _ hT hW.alike, hcell9, hv, hcl, hW, hsm.mono hc hs, hf⟩⟩
theorem vx_frame {U : State} {k n : Nat} (h : s.sameButNew ({ U with vm := s.vm } : State) locs k n) : s.heap.size ≤ U.heap.size ∧ ∀ q : Nat, q < s.heap.size → (∀ z ∈ locs, z.base ≠ q) → U.heap[q]? = s.heap[q]? := by
  obtain ⟨-, h2, -, -, -, h6⟩ := h
  refine ⟨h2, fun q hq hz => ?_⟩
  obtain ⟨c9, e1, e2, e3, e4⟩ := h6 q _ (Array.getElem?_eq_getElem hq)
  have hs : c9.slots = (s.heap[q]).slots := Array.ext_getElem? fun i => e4 i fun hm => hz _ hm rfl
  have h9 : c9 = s.heap[q] := by
    rw [hs] at e2
    exact e2
  have e5 : U.heap[q]? = some c9 := e1
  rw [e5, h9, Array.getElem?_eq_getElem hq]
/-- the words of a throw but the four that speak of the heap -/
noncomputable def vx_no (w : Cond) : Bool := decide (w ≠ .isRef (.static Bundle.tN "UNASSIGNED_STACK" Bundle.steD)) && decide (w ≠ .isRef (.static Bundle.tN "SUPPRESSED_SENTINEL" Bundle.listD)) && decide (w ≠ .laysStatic Bundle.tN "UNASSIGNED_STACK" Bundle.steD) && decide (w ≠ .laysStatic Bundle.tN "SUPPRESSED_SENTINEL" Bundle.listD)
noncomputable def vx_at0 (own : String) (ic : Nat) (X : String) (names : List String) : List Cond := (Bundle.ownAtoms0 own ic X names).filter vx_no
noncomputable def vx_atS (own : String) (ic : Nat) (X : String) (names : List String) : List Cond := (Bundle.ownAtoms own ic X names).filter vx_no
/-- a word that the tables alone decide, or a good one -/
noncomputable def vx_ot (w : Cond) : Bool := w.onTables || goodWord w
theorem vx_ot_at {args a' : Array Value} {s U : State} {w : Cond} (hW : s.WarmedH U.vm) (hvm : s.vm = U.vm) (hg : vx_ot w = true) (h : w.before args s = true) : w.before a' U = true := by
  simp only [vx_ot, Bool.or_eq_true] at hg
  rcases hg with hg | hg
  · exact va_tabs hg hvm h
  · exact word_at hW (good_of_word hg) h
/-- a list's words: the good ones out of the method's own list, the others by premises of their own -/
theorem vx_hat {args : Array Value} {s : State} {L B : List Cond} (h1 : ∀ w ∈ L.filter goodWord, w.before args s = true) (h2 : ∀ w ∈ L.filter (fun w => !goodWord w), w ∈ B) (h3 : ∀ w ∈ B, w.before args s = true) : ∀ w ∈ L, w.before args s = true := by
  intro w hw
  by_cases g : goodWord w = true
  · exact h1 w (List.mem_filter.mpr ⟨hw, g⟩)
  · refine h3 w (h2 w (List.mem_filter.mpr ⟨hw, ?_⟩))
    show (!goodWord w) = true
    cases hgw : goodWord w
    · rfl
    · exact absurd hgw g
theorem vx_c {args : Array Value} {s : State} {w : Cond} {B : List Cond} (h : w.before args s = true) (t : ∀ w ∈ B, w.before args s = true) : ∀ w' ∈ w :: B, w'.before args s = true := fun w' h' => (List.mem_cons.mp h').elim (fun e => by rw [e]; exact h) (t w')
theorem vx_n {args : Array Value} {s : State} : ∀ w ∈ ([] : List Cond), w.before args s = true := fun _ h => nomatch h
theorem vx_own {args : Array Value} {s : State} {L : List Cond} (h1 : ∀ w ∈ L.filter vx_no, w.before args s = true)
    (hU : (Cond.isRef (.static Bundle.tN "UNASSIGNED_STACK" Bundle.steD)).before args s = true) (hN : (Cond.isRef (.static Bundle.tN "SUPPRESSED_SENTINEL" Bundle.listD)).before args s = true)
    (lU : (Cond.laysStatic Bundle.tN "UNASSIGNED_STACK" Bundle.steD).before args s = true) (lN : (Cond.laysStatic Bundle.tN "SUPPRESSED_SENTINEL" Bundle.listD).before args s = true) : ∀ w ∈ L, w.before args s = true := by
  intro w hw
  by_cases e1 : w = .isRef (.static Bundle.tN "UNASSIGNED_STACK" Bundle.steD)
  · rw [e1]; exact hU
  · by_cases e2 : w = .isRef (.static Bundle.tN "SUPPRESSED_SENTINEL" Bundle.listD)
    · rw [e2]; exact hN
    · by_cases e3 : w = .laysStatic Bundle.tN "UNASSIGNED_STACK" Bundle.steD
      · rw [e3]; exact lU
      · by_cases e4 : w = .laysStatic Bundle.tN "SUPPRESSED_SENTINEL" Bundle.listD
        · rw [e4]; exact lN
        · exact h1 w (List.mem_filter.mpr ⟨hw, by unfold vx_no; rw [decide_eq_true e1, decide_eq_true e2, decide_eq_true e3, decide_eq_true e4]; rfl⟩)
/-- where a static field lies, its class's statics cell in H -/
noncomputable def vx_L (C n d : String) (A : Nat → Prop) (U : State) (H : Heap) : Prop := ∃ (c : ClassId) (k : Class) (i : Nat) (f : Field) (a : Nat) (cell : Cell), U.vm.findClass C = some c ∧ U.fieldFound? C n d = some (c, k, i, f) ∧ f.isStatic = true ∧ k.statics = some a ∧ H[a]? = some cell ∧ cell.vm.isStatics = true ∧ cell.cls = c ∧ f.slot < cell.slots.size ∧ k.staticTypes[f.slot]? = some f.type ∧ ¬ A a
theorem vx_L.moved {C n d : String} {A : Nat → Prop} {u U : State} {H : Heap} (hvm : u.vm.Alike U.vm) (h : vx_L C n d A u H) : vx_L C n d A U H := by
  obtain ⟨c, k, i, f, a, cell, h1, h2, h3, h4, h5, h6, h7, h8, h9, h10⟩ := h
  obtain ⟨k', hi', he⟩ := State.fieldFound?_setVm hvm h2
  exact ⟨c, k', i, f, a, cell, by rw [hvm.findClass]; exact h1, hi', h3, by rw [he]; exact h4, h5, h6, h7, h8, by rw [he]; exact h9, h10⟩
theorem vx_L.kept {C n d : String} {A : Nat → Prop} {U : State} {H H1 : Heap} (h : vx_L C n d A U H) (hq : ∀ a : Nat, a < H.size → ¬ A a → H1[a]? = H[a]?) : vx_L C n d A U H1 := by
  obtain ⟨c, k, i, f, a, cell, h1, h2, h3, h4, h5, h6, h7, h8, h9, h10⟩ := h
  exact ⟨c, k, i, f, a, cell, h1, h2, h3, h4, by rw [hq a (Array.getElem?_eq_some_iff.mp h5).1 h10]; exact h5, h6, h7, h8, h9, h10⟩
theorem vx_L.narrow {C n d : String} {A B : Nat → Prop} {U : State} {H : Heap} (h : vx_L C n d A U H) (hAB : ∀ q, B q → A q) : vx_L C n d B U H := by
  obtain ⟨c, k, i, f, a, cell, h1, h2, h3, h4, h5, h6, h7, h8, h9, h10⟩ := h
  exact ⟨c, k, i, f, a, cell, h1, h2, h3, h4, h5, h6, h7, h8, h9, fun z => h10 (hAB _ z)⟩
theorem vx_L.word {C n d : String} {A : Nat → Prop} {s : State} {args : Array Value} (h : vx_L C n d A s s.heap) : (Cond.laysStatic C n d).before args s = true := by
  obtain ⟨c, k, i, f, a, cell, h1, h2, h3, h4, h5, h6, h7, h8, h9, -⟩ := h
  show (Cond.laysStatic C n d).holds args s none s [] = true
  exact Cond.laysStatic_of h1 h2 h3 h4 h5 h6 h7 h8 h9
/-- .. and what it holds: null or some reference -/
noncomputable def vx_Zq (C n d : String) (A : Nat → Prop) (U : State) (H : Heap) : Prop := va_Zq C n d A U H ∧ vx_L C n d A U H
theorem vx_Zq.moved {C n d : String} {A : Nat → Prop} {u U : State} {H : Heap} (hvm : u.vm.Alike U.vm) (h : vx_Zq C n d A u H) : vx_Zq C n d A U H := ⟨va_Zq.moved hvm h.1, vx_L.moved hvm h.2⟩
theorem vx_Zq.kept {C n d : String} {A : Nat → Prop} {U : State} {H H1 : Heap} (h : vx_Zq C n d A U H) (hq : ∀ a : Nat, a < H.size → ¬ A a → H1[a]? = H[a]?) : vx_Zq C n d A U H1 := ⟨va_Zq.kept h.1 hq, vx_L.kept h.2 hq⟩
theorem vx_Zq.narrow {C n d : String} {A B : Nat → Prop} {U : State} {H : Heap} (h : vx_Zq C n d A U H) (hAB : ∀ q, B q → A q) : vx_Zq C n d B U H := ⟨va_Zq.narrow h.1 hAB, vx_L.narrow h.2 hAB⟩
theorem vx_Zqof {args : Array Value} {s : State} {C n d : String} {A : Nat → Prop} (hl : (Cond.laysStatic C n d).before args s = true) (hini : (Cond.initialized C).before args s = true) (h : (Cond.isRef (.static C n d)).before args s = true) (hA : ∀ a : Nat, a < s.heap.size → ¬ A a) : vx_Zq C n d A s s.heap := by
  refine ⟨va_Zqof hl hini h hA, ?_⟩
  obtain ⟨c, k, i, f, a, cell, h1, h2, h3, h4, h5, h6, h7, h8, h9⟩ := Cond.laysStatic_spec hl
  exact ⟨c, k, i, f, a, cell, h1, h2, h3, h4, h5, h6, h7, h8, h9, hA a (Array.getElem?_eq_some_iff.mp h5).1⟩
theorem vx_isRef {C n d : String} {v : Value} {A : Nat → Prop} {s : State} {args : Array Value} (h : va_Z C n d v A s s.heap) (hv : v.isRef = true) : (Cond.isRef (.static C n d)).before args s = true := by
  obtain ⟨cf, kf, fi, f, a, cell, h1, h2, h3, h4, h5, h6, h7, -⟩ := h
  have he : (Term.static C n d).eval args s none [] s = some v := by
    simp [Term.eval, State.fieldNamed?, h1, h2, h4, h5, h6, h7]
  simp only [Cond.before, Cond.holds, Cond.value, he]
  cases v <;> simp_all [Value.isRef]
theorem vx_isRefq {C n d : String} {A : Nat → Prop} {s : State} {args : Array Value} (h : va_Zq C n d A s s.heap) : (Cond.isRef (.static C n d)).before args s = true := by
  rcases h with h | ⟨t, h⟩
  · exact vx_isRef h rfl
  · exact vx_isRef h rfl
/-- the same frame, seen from here: as if the method were called anew in this heap -/
theorem vx_rebase {T : State} (X : Stand p l e R s m args below meth c T locs cells slots) {R' : Room} (hf : R'.frames ≤ R.frames) (hl : R'.locals ≤ R.locals) (hc : cells + R'.cells ≤ R.cells) (hs : slots + R'.slots ≤ R.slots) :
    Stand p l e R' ((T.setVm s.vm).setFrames (.invoking m args :: below)) m args below meth c T [] 0 0 := by
  have htop : (T.setVm s.vm).topJava?.isSome := X.here.top
  have hF : ((T.setVm s.vm).setFrames (.invoking m args :: below)).frames = .invoking m args :: below := State.frames_setFrames _ (State.cur_lt_of_top htop)
  obtain ⟨g₀, hg0⟩ := Option.isSome_iff_exists.mp htop
  obtain ⟨r, hr⟩ := State.topJava?_eq_some.mp hg0
  have hl9 : e.platform.stackLimits (T.setVm s.vm).me = e.platform.stackLimits s.me := X.limits
  have hb9 : (T.setVm s.vm).me.stackBytes = s.me.stackBytes := X.bytes
  refine ⟨X.admits, X.cas, X.clock, hF, ?_, X.hears, X.method, X.code, X.here, X.tail, X.warmed, ?_, ?_, ?_⟩
  · have h := X.room
    have hU : ((T.setVm s.vm).setFrames (.invoking m args :: below)).localsInUse = s.localsInUse := by
      rw [State.localsInUse_invoking hF (meth := meth) (c := c) X.method X.code, State.localsInUse_invoking X.frames X.method X.code]
    simp only [State.hasRoom, Bool.and_eq_true, decide_eq_true_eq] at h ⊢
    obtain ⟨⟨⟨⟨h1, h2, h3, h4, h5, h6⟩, h7⟩, h8⟩, h9⟩ := h
    rw [X.frames, List.length_cons] at h2 h3
    have q1 := X.heapSize
    have q2 := X.used
    simp only [hF, hU, List.length_cons, State.stackLimits_setFrames, State.stackBytes_setFrames, hl9, hb9]
    refine ⟨⟨⟨⟨by omega, by omega, by omega, by omega, by omega, h6⟩, ?_⟩, ?_⟩, X.book⟩
    · show T.heap.size + R'.cells ≤ e.platform.maxCells
      omega
    · show T.slotsUsed + R'.slots ≤ e.platform.maxSlots
      omega
  · rw [State.stackLimits_setFrames]; rfl
  · rw [State.stackBytes_setFrames]; rfl
  · refine ⟨?_, Nat.le_refl _, Nat.le_refl _, ?_, ?_, fun a c9 h9 => ⟨c9, h9, rfl, rfl, fun _ _ => rfl⟩⟩
    · obtain ⟨t, ht, -⟩ := State.frames_cons hr
      show T.setVm s.vm = { ((T.setVm s.vm).setFrames (.invoking m args :: below)).setFrames (T.setVm s.vm).frames with heap := T.heap, slotsUsed := T.slotsUsed }
      rw [State.setFrames_setFrames, State.setFrames_self ht]
      rfl
    · show T.slotsUsed = T.slotsUsed + ((T.heap.toList.drop T.heap.size).map (·.slots.size)).sum
      rw [List.drop_eq_nil_of_le (Nat.le_of_eq Array.length_toList)]
      rfl
    · show ((T.heap.toList.drop T.heap.size).map (·.slots.size)).sum ≤ 0
      rw [List.drop_eq_nil_of_le (Nat.le_of_eq Array.length_toList)]
      exact Nat.le_refl _
/-- 'throw new E()': new; dup; invokespecial; athrow -/
theorem vx_throw0 {cc : ByteArray} {pc : Nat} (hexec : p.tables.exec = Jvm.exec) (hb : c.code = cc) (hl : l.stackTraces = false) {own cls : String} {names : List String} {ik ic mc ms : Nat} {A : Nat → Prop}
    (hown : s.vm.findClass own = some m.cls) (hcls : Bundle.fit cls = true) (hnames : ∀ n ∈ names, Bundle.fit n = true)
    (hk : (Cond.classLink own ik cls).before args s = true) (hini : (Cond.initialized cls).before args s = true) (hat : ∀ w ∈ vx_at0 own ic cls names, w.before args s = true)
    (hgood : ∀ w ∈ Cond.classLink own ik cls :: Cond.initialized cls :: vx_at0 own ic cls names, vx_ot w = true)
    (hU : vx_Zq Bundle.tN "UNASSIGNED_STACK" Bundle.steD A s s.heap) (hN : vx_Zq Bundle.tN "SUPPRESSED_SENTINEL" Bundle.listD A s s.heap) (hS : va_S A s.heap H locs) (hsize : ls.size = c.maxLocals)
    (d0 : decode cc pc = .ok (.new ik, 3)) (d3 : decode cc (pc + 3) = .ok (.dup, 1)) (d4 : decode cc (pc + 4) = .ok (.invokespecial ic, 3)) (d7 : decode cc (pc + 7) = .ok (.athrow, 1))
    (hout : ∀ x ∈ c.exceptionTable.toList, covers x (pc + 7) = false)
    (hRframes : names.length + 3 < R.frames) (hRlocals : (rest.map fun v => v.category).sum + (13 * (names.length + 1) + 42) ≤ R.locals) (hRcells : cells + 1 ≤ R.cells) (hRslots : slots + 6 ≤ R.slots) (hlocks : meth.locks = false)
    (hx : ∀ t : State, s.vm.Alike t.vm → H.size ≤ t.heap.size → (∀ q : Nat, q < H.size → t.heap[q]? = H[q]?) → XC cls s t)
    (hf : ∀ z ∈ locs, free z.base) (hc : cells + 1 ≤ mc) (hs : slots + 6 ≤ ms) :
    W p l e R s m args below meth c H locs cells slots (vx_MQ below Qc XC args s mc ms free) (F0 m pc ls rest) := by
  intro T hT X
  have htr : e.platform.stackTraces = false := (show e.platform.stackTraces = l.stackTraces by rw [X.admits.platform]).trans hl
  have Y := vx_rebase X (R' := { frames := R.frames, locals := R.locals, cells := 1, slots := 6 }) (Nat.le_refl _) (Nat.le_refl _) hRcells hRslots
  obtain ⟨s', hA⟩ : ∃ z, z = (T.setVm s.vm).setFrames (.invoking m args :: below) := ⟨_, rfl⟩
  rw [← hA] at Y
  have hvm : s'.vm = s.vm := by rw [hA]; rfl
  have hhp : s'.heap = H := by rw [hA]; exact hT
  have hW0 : s.WarmedH s'.vm := by rw [hvm]; exact State.WarmedH.refl s
  have hat' : ∀ w ∈ vx_at0 own ic cls names, w.before args s' = true := fun w hw => vx_ot_at hW0 hvm.symm (hgood w (List.mem_cons_of_mem _ (List.mem_cons_of_mem _ hw))) (hat w hw)
  have hk' : (Cond.classLink own ik cls).before args s' = true := vx_ot_at hW0 hvm.symm (hgood _ List.mem_cons_self) hk
  have hini' : (Cond.initialized cls).before args s' = true := vx_ot_at hW0 hvm.symm (hgood _ (List.mem_cons_of_mem _ List.mem_cons_self)) hini
  have hU' : vx_Zq Bundle.tN "UNASSIGNED_STACK" Bundle.steD A s' s'.heap := by rw [hhp]; exact vx_Zq.moved hW0.alike (hU.kept hS.2.1)
  have hN' : vx_Zq Bundle.tN "SUPPRESSED_SENTINEL" Bundle.listD A s' s'.heap := by rw [hhp]; exact vx_Zq.moved hW0.alike (hN.kept hS.2.1)
  have h : ∀ w ∈ Bundle.ownAtoms0 own ic cls names, w.before args s' = true := vx_own hat' (vx_isRefq hU'.1) (vx_isRefq hN'.1) hU'.2.word hN'.2.word
  have hown' : s'.vm.findClass own = some m.cls := by rw [hvm]; exact hown
  have hins : (Cond.instantiable cls 6).before args s' = true := h _ (by simp [Bundle.ownAtoms0])
  obtain ⟨vm₁, cX, kX, hfX, hkX, -, -, X₁, st1⟩ := Y.newCold hexec (own := own) (C := cls) (index := ik) (n := 6) hown' hk' hins hini'
    (g := F0 m pc ls rest) rfl (by rw [hb]; exact d0) (Nat.le_refl _) (Nat.le_refl _)
  generalize hT1 : (T.setVm vm₁).pushCell { cls := cX, slots := kX.instanceTypes.map defaultValue, vm := .none } = T1 at X₁ st1
  have hcat : (Value.ref T.heap.size).category = 1 := rfl
  have hcellA : T1.heap[T.heap.size]? = some (freshCell cX kX) := by rw [← hT1]; exact State.heap_pushCell_size _ _
  have d3' : decode c.code (pc + 3) = .ok (.dup, 1) := by rw [hb]; exact d3
  obtain ⟨U, hsteps, hrun, hend, hW, hsame, ce, hce, hO⟩ := X₁.ctorThrow0 hexec htr (own := own) (cls := cls) (names := names) (ic := ic) hown' hcls hnames h (fun x hx => nomatch hx) hfX hkX hcellA (by rw [hhp, hT]; exact Nat.le_refl _)
    (g := { method := m, pc := pc + 4, locals := ls, stack := .ref T.heap.size :: .ref T.heap.size :: rest, locked := none }) rfl hsize rfl rfl (rest := rest) rfl
    (by rw [hb]; exact d4) (by rw [hb]; exact d7) hout hRframes (by simp only [List.map_cons, List.sum_cons, hcat]; omega) hlocks
  obtain ⟨f1, f2⟩ := vx_frame hsame
  rw [hhp] at f1 f2
  have hWs : s.WarmedH U.vm := State.WarmedH.trans hW0 hW
  have hcl : s.vm.findClass cls = some ce.cls := by
    have h9 := hO.cls
    rw [hvm] at h9
    exact h9
  have hall : s.sameButNew ({ U with vm := s.vm } : State) locs mc ms := by
    subst hA
    obtain ⟨e1, e2⟩ := hsame
    rw [State.setFrames_setFrames] at e1
    have h2 : (T.setVm s.vm).sameButNew ({ U with vm := s.vm } : State) [] (0 + 1) (0 + 6) := ⟨e1, e2⟩
    have h3 := X.same.trans h2
    rw [List.append_nil] at h3
    exact h3.mono hc hs
  refine ⟨U, ?_, .threw T.heap.size, hrun, hend, Or.inr ⟨T.heap.size, rfl, cls, ce, locs, hx U hWs.alike f1 (fun q hq => f2 q hq (fun z hz => nomatch hz)), hce, hO.vm, hcl, hWs, hall, hf⟩⟩
  refine st1 _ ?_
  show Steps p.tables e below (T1.setTop { method := m, pc := pc + 3, locals := ls, stack := .ref T.heap.size :: rest, locked := none }) _
  jvm_step X₁.here [X₁.here.top, hexec, d3', Value.category]
  exact hsteps
/-- 'throw new E("text")': new; dup; ldc; invokespecial; athrow -/
theorem vx_throwS {cc : ByteArray} {pc : Nat} (hexec : p.tables.exec = Jvm.exec) (hb : c.code = cc) (hl : l.stackTraces = false) {own cls text : String} {names : List String} {ik is ic mc ms sa : Nat} {A : Nat → Prop}
    (hown : s.vm.findClass own = some m.cls) (hcls : Bundle.fit cls = true) (hnames : ∀ n ∈ names, Bundle.fit n = true)
    (hk : (Cond.classLink own ik cls).before args s = true) (hini : (Cond.initialized cls).before args s = true) (hstr : vk_R own is text sa s) (hat : ∀ w ∈ vx_atS own ic cls names, w.before args s = true)
    (hgood : ∀ w ∈ Cond.classLink own ik cls :: Cond.initialized cls :: vx_atS own ic cls names, vx_ot w = true)
    (hU : vx_Zq Bundle.tN "UNASSIGNED_STACK" Bundle.steD A s s.heap) (hN : vx_Zq Bundle.tN "SUPPRESSED_SENTINEL" Bundle.listD A s s.heap) (hS : va_S A s.heap H locs) (hsize : ls.size = c.maxLocals)
    (d0 : decode cc pc = .ok (.new ik, 3)) (d3 : decode cc (pc + 3) = .ok (.dup, 1)) (d4 : decode cc (pc + 4) = .ok (.ldc is, 2)) (d6 : decode cc (pc + 6) = .ok (.invokespecial ic, 3)) (d9 : decode cc (pc + 9) = .ok (.athrow, 1))
    (hout : ∀ x ∈ c.exceptionTable.toList, covers x (pc + 9) = false)
    (hRframes : names.length + 3 < R.frames) (hRlocals : (rest.map fun v => v.category).sum + (13 * (names.length + 1) + 43) ≤ R.locals) (hRcells : cells + 1 ≤ R.cells) (hRslots : slots + 6 ≤ R.slots) (hlocks : meth.locks = false)
    (hx : ∀ t : State, s.vm.Alike t.vm → H.size ≤ t.heap.size → (∀ q : Nat, q < H.size → t.heap[q]? = H[q]?) → XC cls s t)
    (hf : ∀ z ∈ locs, free z.base) (hc : cells + 1 ≤ mc) (hs : slots + 6 ≤ ms) :
    W p l e R s m args below meth c H locs cells slots (vx_MQ below Qc XC args s mc ms free) (F0 m pc ls rest) := by
  intro T hT X
  have htr : e.platform.stackTraces = false := (show e.platform.stackTraces = l.stackTraces by rw [X.admits.platform]).trans hl
  have Y := vx_rebase X (R' := { frames := R.frames, locals := R.locals, cells := 1, slots := 6 }) (Nat.le_refl _) (Nat.le_refl _) hRcells hRslots
  obtain ⟨s', hA⟩ : ∃ z, z = (T.setVm s.vm).setFrames (.invoking m args :: below) := ⟨_, rfl⟩
  rw [← hA] at Y
  have hvm : s'.vm = s.vm := by rw [hA]; rfl
  have hhp : s'.heap = H := by rw [hA]; exact hT
  have hW0 : s.WarmedH s'.vm := by rw [hvm]; exact State.WarmedH.refl s
  have hat' : ∀ w ∈ vx_atS own ic cls names, w.before args s' = true := fun w hw => vx_ot_at hW0 hvm.symm (hgood w (List.mem_cons_of_mem _ (List.mem_cons_of_mem _ hw))) (hat w hw)
  have hk' : (Cond.classLink own ik cls).before args s' = true := vx_ot_at hW0 hvm.symm (hgood _ List.mem_cons_self) hk
  have hini' : (Cond.initialized cls).before args s' = true := vx_ot_at hW0 hvm.symm (hgood _ (List.mem_cons_of_mem _ List.mem_cons_self)) hini
  have hU' : vx_Zq Bundle.tN "UNASSIGNED_STACK" Bundle.steD A s' s'.heap := by rw [hhp]; exact vx_Zq.moved hW0.alike (hU.kept hS.2.1)
  have hN' : vx_Zq Bundle.tN "SUPPRESSED_SENTINEL" Bundle.listD A s' s'.heap := by rw [hhp]; exact vx_Zq.moved hW0.alike (hN.kept hS.2.1)
  have h : ∀ w ∈ Bundle.ownAtoms own ic cls names, w.before args s' = true := vx_own hat' (vx_isRefq hU'.1) (vx_isRefq hN'.1) hU'.2.word hN'.2.word
  have hown' : s'.vm.findClass own = some m.cls := by rw [hvm]; exact hown
  have hins : (Cond.instantiable cls 6).before args s' = true := h _ (by simp [Bundle.ownAtoms])
  obtain ⟨vm₁, cX, kX, hfX, hkX, -, -, X₁, st1⟩ := Y.newCold hexec (own := own) (C := cls) (index := ik) (n := 6) hown' hk' hins hini'
    (g := F0 m pc ls rest) rfl (by rw [hb]; exact d0) (Nat.le_refl _) (Nat.le_refl _)
  generalize hT1 : (T.setVm vm₁).pushCell { cls := cX, slots := kX.instanceTypes.map defaultValue, vm := .none } = T1 at X₁ st1
  have hcat : (Value.ref T.heap.size).category = 1 := rfl
  have hcellA : T1.heap[T.heap.size]? = some (freshCell cX kX) := by rw [← hT1]; exact State.heap_pushCell_size _ _
  have d3' : decode c.code (pc + 3) = .ok (.dup, 1) := by rw [hb]; exact d3
  have d4' : decode c.code (pc + 4) = .ok (.ldc is, 2) := by rw [hb]; exact d4
  have hstr' : vk_R own is text sa s' := vk_R.warm hW0 hstr
  obtain ⟨U, hsteps, hrun, hend, hW, hsame, ce, hce, hO⟩ := X₁.ctorThrowS hexec htr (own := own) (cls := cls) (names := names) (ic := ic) hown' hcls hnames h (fun x hx => nomatch hx) hfX hkX hcellA (by rw [hhp, hT]; exact Nat.le_refl _) (msg := .ref sa) rfl
    (g := { method := m, pc := pc + 6, locals := ls, stack := .ref sa :: .ref T.heap.size :: .ref T.heap.size :: rest, locked := none }) rfl hsize rfl rfl (rest := rest) rfl
    (by rw [hb]; exact d6) (by rw [hb]; exact d9) hout hRframes (by simp only [List.map_cons, List.sum_cons, hcat]; omega) hlocks
  obtain ⟨f1, f2⟩ := vx_frame hsame
  rw [hhp] at f1 f2
  have hWs : s.WarmedH U.vm := State.WarmedH.trans hW0 hW
  have hcl : s.vm.findClass cls = some ce.cls := by
    have h9 := hO.cls
    rw [hvm] at h9
    exact h9
  have hall : s.sameButNew ({ U with vm := s.vm } : State) locs mc ms := by
    subst hA
    obtain ⟨e1, e2⟩ := hsame
    rw [State.setFrames_setFrames] at e1
    have h2 : (T.setVm s.vm).sameButNew ({ U with vm := s.vm } : State) [] (0 + 1) (0 + 6) := ⟨e1, e2⟩
    have h3 := X.same.trans h2
    rw [List.append_nil] at h3
    exact h3.mono hc hs
  refine ⟨U, ?_, .threw T.heap.size, hrun, hend, Or.inr ⟨T.heap.size, rfl, cls, ce, locs, hx U hWs.alike f1 (fun q hq => f2 q hq (fun z hz => nomatch hz)), hce, hO.vm, hcl, hWs, hall, hf⟩⟩
  refine st1 _ ?_
  show Steps p.tables e below (T1.setTop { method := m, pc := pc + 3, locals := ls, stack := .ref T.heap.size :: rest, locked := none }) _
  jvm_step X₁.here [X₁.here.top, hexec, d3', Value.category]
  exact X₁.ldcString hexec (own := own) (text := text) (index := is) (a := sa) hown' hstr'.1 hstr'.2
    (g := { method := m, pc := pc + 4, locals := ls, stack := .ref T.heap.size :: .ref T.heap.size :: rest, locked := none }) rfl d4' _ hsteps
/-- 'throw new E("text")', the text by a wide index -/
theorem vx_throwSW {cc : ByteArray} {pc : Nat} (hexec : p.tables.exec = Jvm.exec) (hb : c.code = cc) (hl : l.stackTraces = false) {own cls text : String} {names : List String} {ik is ic mc ms sa : Nat} {A : Nat → Prop}
    (hown : s.vm.findClass own = some m.cls) (hcls : Bundle.fit cls = true) (hnames : ∀ n ∈ names, Bundle.fit n = true)
    (hk : (Cond.classLink own ik cls).before args s = true) (hini : (Cond.initialized cls).before args s = true) (hstr : vk_R own is text sa s) (hat : ∀ w ∈ vx_atS own ic cls names, w.before args s = true)
    (hgood : ∀ w ∈ Cond.classLink own ik cls :: Cond.initialized cls :: vx_atS own ic cls names, vx_ot w = true)
    (hU : vx_Zq Bundle.tN "UNASSIGNED_STACK" Bundle.steD A s s.heap) (hN : vx_Zq Bundle.tN "SUPPRESSED_SENTINEL" Bundle.listD A s s.heap) (hS : va_S A s.heap H locs) (hsize : ls.size = c.maxLocals)
    (d0 : decode cc pc = .ok (.new ik, 3)) (d3 : decode cc (pc + 3) = .ok (.dup, 1)) (d4 : decode cc (pc + 4) = .ok (.ldc_w is, 3)) (d7 : decode cc (pc + 7) = .ok (.invokespecial ic, 3)) (d10 : decode cc (pc + 10) = .ok (.athrow, 1))
    (hout : ∀ x ∈ c.exceptionTable.toList, covers x (pc + 10) = false)
    (hRframes : names.length + 3 < R.frames) (hRlocals : (rest.map fun v => v.category).sum + (13 * (names.length + 1) + 43) ≤ R.locals) (hRcells : cells + 1 ≤ R.cells) (hRslots : slots + 6 ≤ R.slots) (hlocks : meth.locks = false)
    (hx : ∀ t : State, s.vm.Alike t.vm → H.size ≤ t.heap.size → (∀ q : Nat, q < H.size → t.heap[q]? = H[q]?) → XC cls s t)
    (hf : ∀ z ∈ locs, free z.base) (hc : cells + 1 ≤ mc) (hs : slots + 6 ≤ ms) :
    W p l e R s m args below meth c H locs cells slots (vx_MQ below Qc XC args s mc ms free) (F0 m pc ls rest) := by
  intro T hT X
  have htr : e.platform.stackTraces = false := (show e.platform.stackTraces = l.stackTraces by rw [X.admits.platform]).trans hl
  have Y := vx_rebase X (R' := { frames := R.frames, locals := R.locals, cells := 1, slots := 6 }) (Nat.le_refl _) (Nat.le_refl _) hRcells hRslots
  obtain ⟨s', hA⟩ : ∃ z, z = (T.setVm s.vm).setFrames (.invoking m args :: below) := ⟨_, rfl⟩
  rw [← hA] at Y
  have hvm : s'.vm = s.vm := by rw [hA]; rfl
  have hhp : s'.heap = H := by rw [hA]; exact hT
  have hW0 : s.WarmedH s'.vm := by rw [hvm]; exact State.WarmedH.refl s
  have hat' : ∀ w ∈ vx_atS own ic cls names, w.before args s' = true := fun w hw => vx_ot_at hW0 hvm.symm (hgood w (List.mem_cons_of_mem _ (List.mem_cons_of_mem _ hw))) (hat w hw)
  have hk' : (Cond.classLink own ik cls).before args s' = true := vx_ot_at hW0 hvm.symm (hgood _ List.mem_cons_self) hk
  have hini' : (Cond.initialized cls).before args s' = true := vx_ot_at hW0 hvm.symm (hgood _ (List.mem_cons_of_mem _ List.mem_cons_self)) hini
  have hU' : vx_Zq Bundle.tN "UNASSIGNED_STACK" Bundle.steD A s' s'.heap := by rw [hhp]; exact vx_Zq.moved hW0.alike (hU.kept hS.2.1)
  have hN' : vx_Zq Bundle.tN "SUPPRESSED_SENTINEL" Bundle.listD A s' s'.heap := by rw [hhp]; exact vx_Zq.moved hW0.alike (hN.kept hS.2.1)
  have h : ∀ w ∈ Bundle.ownAtoms own ic cls names, w.before args s' = true := vx_own hat' (vx_isRefq hU'.1) (vx_isRefq hN'.1) hU'.2.word hN'.2.word
  have hown' : s'.vm.findClass own = some m.cls := by rw [hvm]; exact hown
  have hins : (Cond.instantiable cls 6).before args s' = true := h _ (by simp [Bundle.ownAtoms])
  obtain ⟨vm₁, cX, kX, hfX, hkX, -, -, X₁, st1⟩ := Y.newCold hexec (own := own) (C := cls) (index := ik) (n := 6) hown' hk' hins hini'
    (g := F0 m pc ls rest) rfl (by rw [hb]; exact d0) (Nat.le_refl _) (Nat.le_refl _)
  generalize hT1 : (T.setVm vm₁).pushCell { cls := cX, slots := kX.instanceTypes.map defaultValue, vm := .none } = T1 at X₁ st1
  have hcat : (Value.ref T.heap.size).category = 1 := rfl
  have hcellA : T1.heap[T.heap.size]? = some (freshCell cX kX) := by rw [← hT1]; exact State.heap_pushCell_size _ _
  have d3' : decode c.code (pc + 3) = .ok (.dup, 1) := by rw [hb]; exact d3
  have d4' : decode c.code (pc + 4) = .ok (.ldc_w is, 3) := by rw [hb]; exact d4
  have hstr' : vk_R own is text sa s' := vk_R.warm hW0 hstr
  obtain ⟨U, hsteps, hrun, hend, hW, hsame, ce, hce, hO⟩ := X₁.ctorThrowS hexec htr (own := own) (cls := cls) (names := names) (ic := ic) hown' hcls hnames h (fun x hx => nomatch hx) hfX hkX hcellA (by rw [hhp, hT]; exact Nat.le_refl _) (msg := .ref sa) rfl
    (g := { method := m, pc := pc + 7, locals := ls, stack := .ref sa :: .ref T.heap.size :: .ref T.heap.size :: rest, locked := none }) rfl hsize rfl rfl (rest := rest) rfl
    (by rw [hb]; exact d7) (by rw [hb]; exact d10) hout hRframes (by simp only [List.map_cons, List.sum_cons, hcat]; omega) hlocks
  obtain ⟨f1, f2⟩ := vx_frame hsame
  rw [hhp] at f1 f2
  have hWs : s.WarmedH U.vm := State.WarmedH.trans hW0 hW
  have hcl : s.vm.findClass cls = some ce.cls := by
    have h9 := hO.cls
    rw [hvm] at h9
    exact h9
  have hall : s.sameButNew ({ U with vm := s.vm } : State) locs mc ms := by
    subst hA
    obtain ⟨e1, e2⟩ := hsame
    rw [State.setFrames_setFrames] at e1
    have h2 : (T.setVm s.vm).sameButNew ({ U with vm := s.vm } : State) [] (0 + 1) (0 + 6) := ⟨e1, e2⟩
    have h3 := X.same.trans h2
    rw [List.append_nil] at h3
    exact h3.mono hc hs
  refine ⟨U, ?_, .threw T.heap.size, hrun, hend, Or.inr ⟨T.heap.size, rfl, cls, ce, locs, hx U hWs.alike f1 (fun q hq => f2 q hq (fun z hz => nomatch hz)), hce, hO.vm, hcl, hWs, hall, hf⟩⟩
  refine st1 _ ?_
  show Steps p.tables e below (T1.setTop { method := m, pc := pc + 3, locals := ls, stack := .ref T.heap.size :: rest, locked := none }) _
  jvm_step X₁.here [X₁.here.top, hexec, d3', Value.category]
  exact X₁.ldcStringW hexec (own := own) (text := text) (index := is) (a := sa) hown' hstr'.1 hstr'.2
    (g := { method := m, pc := pc + 4, locals := ls, stack := .ref T.heap.size :: .ref T.heap.size :: rest, locked := none }) rfl d4' _ hsteps
end Ends
section Bodies
variable {l : Launch}
theorem vx_ofW {y : MethodName} {ws ws' : List Cond} {rm : Room} {Pc : Array Value → State → Prop} {Qc : Array Value → State → Outcome → State → Prop} {XC : String → State → State → Prop} {mc ms : Nat} {free : Addr → Prop} {cc : ByteArray} {maxL : Nat} {ret : Option FieldType}
    (hy : plainName y.cls = true) (hw : ws = Cond.code y cc maxL ret :: ws')
    (body : ∀ p e s m args below meth c s₁, BodyLoose p l y (headSpec ws rm) cc maxL ret e s m args below meth c s₁ → c.maxLocals = maxL → (∀ x ∈ c.exceptionTable.toList, False) → Pc args s →
      W p l e (headSpec ws rm).room s m args below meth c s.heap [] 0 0 (vx_MQ below Qc XC args s mc ms free) (entryFrame m args maxL)) : vx_Met l y ws rm Pc Qc XC mc ms free := by
  refine MetFree.of_bodyS (code := cc) (maxLocals := maxL) (ret := ret) hy ?_ ?_
  · intro args s m h hn
    obtain ⟨meth, c, h1, h2, h3, h4, h5, h6, -, -⟩ := Cond.code_spec hn (atoms_spec (ws := ws) h _ (by rw [hw]; exact List.mem_cons_self))
    exact ⟨meth, c, h1, h2, h3, h4, h5, h6⟩
  · intro p e s m args below meth c s₁ B hml hP _
    have hh0 : s₁.heap = s.heap := by rw [B.state]; rfl
    have ht : ∀ x ∈ c.exceptionTable.toList, False := by
      obtain ⟨meth9, c9, h1, h2, -, -, -, -, h7, -⟩ := Cond.code_spec B.named (atoms_spec (ws := ws) B.pre _ (by rw [hw]; exact List.mem_cons_self))
      cases Option.some.inj (h1.symm.trans B.method)
      cases Option.some.inj (h2.symm.trans (Stand.of_body B).code)
      intro x hx
      rw [Array.isEmpty_iff.mp h7] at hx
      cases hx
    obtain ⟨t, a1, o, b1, b2, b3⟩ := body p e s m args below meth c s₁ B hml ht hP s₁ hh0 (Stand.of_body B)
    exact ⟨t, o, a1, b1, b2, b3⟩
/-- the table of a body with handlers -/
theorem vx_table {p : Program} {x y : MethodName} {S : Spec} {cc bytes : ByteArray} {maxL maxL' : Nat} {ret ret' : Option FieldType} {e : Env} {s s₁ : State} {m : MethodId} {args : Array Value} {below : List Frame} {meth : Method} {c : Code} {hh : List (Nat × Nat × Nat × Nat)}
    (B : BodyLoose p l y S cc maxL ret e s m args below meth c s₁) (h : (Cond.codeWith y bytes maxL' ret' hh).before args s = true) : c.exceptionTable.toList = tableOf hh := by
  obtain ⟨m9, meth9, c9, hn9, h1, h2, -, -, h6, -⟩ := Cond.codeWith_spec h
  cases Option.some.inj (hn9.symm.trans B.named)
  cases Option.some.inj (h1.symm.trans B.method)
  cases Option.some.inj (h2.symm.trans (Stand.of_body B).code)
  rw [← h6, table_eq]
end Bodies
end VXA
/-! ===== END ===== -/
/-! ===== BEGIN a static call of a method with an exception table ===== -/
section VXS
variable {p : Program} {l : Launch} {e : Env} {R : Room} {s : State} {m : MethodId} {args : Array Value} {below : List Frame} {meth : Method} {c : Code} {T : State} {H : Heap} {locs : List Loc} {cells slots : Nat}
noncomputable abbrev vx_CSW (R : Room) (s : State) (args : Array Value) (own : String) (index : Nat) (y : MethodName) (bytes : ByteArray) (maxL : Nat) (ret : Option FieldType) (hh : List (Nat × Nat × Nat × Nat)) (ws : List Cond) (rm : Room) (mc ms n : Nat) : Prop :=
  (rm.cells = mc ∧ rm.slots = ms ∧ rm.frames + 1 ≤ R.frames ∧ 8 + (maxL + 11) + rm.locals ≤ R.locals ∧ (∀ w ∈ ws, ∀ (a' : Array Value) (U : State), s.WarmedH U.vm → w.before a' U = true) ∧ Cond.codeWith y bytes maxL ret hh ∈ ws) ∧
  (Cond.codeWith y bytes maxL ret hh).before args s = true ∧ (Cond.initialized y.cls).before args s = true ∧ (y.cls ≠ "java/lang/invoke/MethodHandle" ∧ y.cls ≠ "java/lang/invoke/VarHandle") ∧
  (∀ sig, parseMethodDescriptor y.desc = some sig → n = sig.parameters.length) ∧ (Cond.methodLink own index y).before args s = true ∧ (Cond.static y).before args s = true
theorem vx_cwSW {own : String} {index maxL mc ms : Nat} {y : MethodName} {bytes : ByteArray} {ret : Option FieldType} {hh : List (Nat × Nat × Nat × Nat)} {Ts ws ws' : List Cond} {rm : Room} (n : Nat) (ht : ∀ w ∈ Ts, w.before args s = true) (hT : GoodIn Ts (va_wsS own index y ws)) (hw : ws = Cond.codeWith y bytes maxL ret hh :: ws') (hrc : rm.cells = mc) (hrs : rm.slots = ms)
    (hd : y.cls ≠ "java/lang/invoke/MethodHandle" ∧ y.cls ≠ "java/lang/invoke/VarHandle" ∧ (parseMethodDescriptor y.desc).map (fun d => d.parameters.length) = some n) (hR : rm.frames + 1 ≤ R.frames ∧ 8 + (maxL + 11) + rm.locals ≤ R.locals) :
    vx_CSW R s args own index y bytes maxL ret hh ws rm mc ms n := by
  have ok : ∀ w ∈ va_wsS own index y ws, w.before args s = true := fun w h => ht w (hT w h).1
  have hG : GoodIn Ts ws := fun w h => hT w (by unfold va_wsS; exact List.mem_append_right _ h)
  have hc : Cond.codeWith y bytes maxL ret hh ∈ ws := by rw [hw]; exact List.mem_cons_self
  refine ⟨⟨hrc, hrs, hR.1, hR.2, pay_in ht hG, hc⟩, ht _ (hG _ hc).1, ok _ (by simp [va_wsS]), ⟨hd.1, hd.2.1⟩, fun sig h => ?_, ok _ (by simp [va_wsS]), ok _ (by simp [va_wsS])⟩
  have h2 := hd.2.2
  rw [h] at h2
  exact (Option.some.inj h2).symm
theorem vx_callSW (X : Stand p l e R s m args below meth c T locs cells slots) (hexec : p.tables.exec = Jvm.exec) {own : String} {index : Nat} {y : MethodName} {bytes : ByteArray} {maxL : Nat} {ret : Option FieldType} {hh : List (Nat × Nat × Nat × Nat)}
    (hown : s.vm.findClass own = some m.cls) (hlink : (Cond.methodLink own index y).before args s = true) (hstat : (Cond.static y).before args s = true) (hinit : (Cond.initialized y.cls).before args s = true)
    (hcode : (Cond.codeWith y bytes maxL ret hh).before args s = true) (hy : y.cls ≠ "java/lang/invoke/MethodHandle" ∧ y.cls ≠ "java/lang/invoke/VarHandle")
    {W9 : Nat} {Pre : Pt → Array Value → Prop} {Post : Pt → Array Value → Option Value → Pt → Prop} (hK : Back l R p e below s args y 3 W9 Pre Post)
    {g : JFrame} (hg : g.method = m) (hsize : g.locals.size = c.maxLocals) {argsL rest : List Value} (hlen : ∀ sig, parseMethodDescriptor y.desc = some sig → argsL.length = sig.parameters.length)
    (hstack : g.stack = argsL.reverse ++ rest) (hW : 2 * g.monitorRoom + (rest.map fun v => v.category).sum ≤ W9) (hdg : decode c.code g.pc = .ok (.invokestatic index, 3))
    (hpre : ∀ vm₁, s.WarmedH vm₁ → Pre ⟨T.setVm vm₁, locs, cells, slots⟩ argsL.toArray) :
    ∃ (v : Option Value) (vm₁ : Vm) (B : Pt), s.WarmedH vm₁ ∧ Stand p l e R s m args below meth c B.U B.locs B.cells B.slots ∧ Post ⟨T.setVm vm₁, locs, cells, slots⟩ argsL.toArray v B ∧
      ∀ target, Steps p.tables e below (B.U.setTop { g with pc := g.pc + 3, stack := v.toList ++ rest }) target → Steps p.tables e below (T.setTop g) target := by
  obtain ⟨mk, methM, cM, hnamed, hmethM, -, -, -, -, -, -, hsigM⟩ := Cond.codeWith_spec hcode
  have hstatic : methM.isStatic = true := Cond.static_spec hnamed hmethM hstat
  obtain ⟨kP, hkP, -⟩ := className_of_methodNamed hnamed
  have hinitP : kP.init = .initialized := Cond.initialized_spec (findClass_of_methodNamed hnamed) hkP hinit
  obtain ⟨vm₁, X₁, hstep₁⟩ := X.invokestatic hexec hown hlink hnamed hmethM hstatic hkP hinitP hy (g := g) hg (argsL := argsL) (rest := rest) (hlen _ hsigM) hstack hdg
  obtain ⟨v, B, X', hpost, hsteps⟩ := hK m meth c ⟨T.setVm vm₁, locs, cells, slots⟩ { g with stack := rest } (.invokestatic index) mk argsL.toArray X₁ hg hsize hdg hW (X₁.named hnamed) (hpre vm₁ X₁.warmed)
  exact ⟨v, vm₁, B, X₁.warmed, X', hpost, fun target h => hstep₁ _ fun acts => by rw [doInvoke_state]; exact hsteps.trans h⟩
theorem vx_runSW {y : MethodName} {bytes cc : ByteArray} {maxL nL mc ms n index : Nat} {ret : Option FieldType} {hh : List (Nat × Nat × Nat × Nat)} {ws : List Cond} {rm : Room} {Pc : Array Value → State → Prop} {Qc : Array Value → State → Outcome → State → Prop} {free : Addr → Prop} {Ts : List Cond} {own : String} {As rest : List Value} {g : JFrame}
    (S : CallFix p m c cc nL s args Ts own) (hM : Met l y ws rm Pc Qc mc ms free) (cw : vx_CSW R s args own index y bytes maxL ret hh ws rm mc ms n) (hp : PreS s H Pc As)
    (hg : g.method = m) (hn : As.length = n) (hsize : g.locals.size = nL) (hstack : g.stack = As.reverse ++ rest) (hW : 2 * g.monitorRoom + (rest.map fun v => v.category).sum ≤ 8) (hdg : decode cc g.pc = .ok (.invokestatic index, 3)) (hf : cells + mc ≤ R.cells ∧ slots + ms ≤ R.slots) :
    va_Run p l e R s m args below meth c H locs cells slots mc ms g rest (Qc As.toArray) (free) := by
  obtain ⟨⟨hrc, hrs, hfr, hlo, hws, hcw⟩, hcode, hini, hy, hlen, hl, hstt⟩ := cw
  have hK : Back l R p e below s args y 3 8 (PreOf R mc ms Pc) (PostOf Qc mc ms free) := va_backW (hh := hh) (bytes := bytes) (maxL := maxL) (ret := ret) hM hp.1 hrc hrs hfr hlo hws hcw (fun a' U hW => word_at hW (Or.inl (by first | rfl | simp [Cond.onTables, Cond.keeps, Cond.steady])) hini)
  obtain ⟨hx, hb, hml, ho, -⟩ := S
  intro T hT X
  obtain ⟨v, vm₁, ⟨U', l2, c2, s2⟩, hW₁, X', ⟨g', mk, t, L, e1, e2, hq, h1, hL, h2, h3⟩, st⟩ := vx_callSW X hx (hh := hh) (bytes := bytes) (maxL := maxL) (ret := ret) ho hl hstt hini hcode hy hK hg (hsize.trans hml.symm) (argsL := As) (rest := rest) (fun sig h => hn.trans (hlen sig h)) hstack hW (by rw [hb]; exact hdg)
    (fun vm₁ hW₁ => ⟨hf.1, hf.2, hp.2 (T.setVm vm₁) hT hW₁⟩)
  dsimp only [Pt.U, Pt.locs, Pt.cells, Pt.slots] at X' e1 e2 h1 h2 h3 st
  subst h1; subst h2; subst h3
  exact ⟨v, (T.setVm vm₁).calling g' mk As.toArray, t, U', L, hT, X', hL, e1, e2, hq, st⟩
/-- a thing of a world lies in the heap -/
theorem vx_lt {D : va_G} {cl : List vw_C} {ws : va_W} {H1 : Heap} (h : va_P D cl ws H1) {k : Nat} {q : Nat × va_E} (hk : ws[k]? = some q) : q.1 < H1.size := (h k q hk).lt
end VXS
/-! ===== END ===== -/
/-! ===== BEGIN methods with a table of their own: called by a name, returning or throwing ===== -/
section VXH
/-! vx_backW, vx_callVX, vx_callSX, vx_callVW, vx_runVW, vx_runVX, vx_runSX, vx_ofWH follow the same proofs as their sisters above (Free/Laws.lean, Shelf42/LK1.lean); vx_outP calls Shelf42/NT130.lean (outThrough). -/
section
variable {l : Launch} {R : Room} {p : Program} {e : Env} {below : List Frame} {s : State} {sargs : Array Value} {y : MethodName} {len W9 : Nat}
theorem vx_backW {ws : List Cond} {rm : Room} {Pc : Array Value → State → Prop} {Qc : Array Value → State → Outcome → State → Prop} {XC : String → State → State → Prop} {mc ms : Nat} {free : Addr → Prop} {bytes : ByteArray} {maxL : Nat} {ret : Option FieldType} {hh : List (Nat × Nat × Nat × Nat)}
    (hM : vx_Met l y ws rm Pc Qc XC mc ms free) (hblind : FrameBlind Pc) (hrc : rm.cells = mc) (hrs : rm.slots = ms)
    (hframes : rm.frames + 1 ≤ R.frames) (hlocals : W9 + (maxL + 11) + rm.locals ≤ R.locals)
    (hws : ∀ w ∈ ws, ∀ a' U, s.WarmedH U.vm → w.before a' U = true) (hcode : Cond.codeWith y bytes maxL ret hh ∈ ws) (hinit : ∀ a' U, s.WarmedH U.vm → (Cond.initialized y.cls).before a' U = true) :
    vx_Back l R p e below s sargs y len W9 (PreOf R mc ms Pc) (PostOf Qc mc ms free) (vx_Post XC mc ms free) := by
  intro m meth c A g ig mk a X hg hsize hdg hW hn hp
  have h1 : (headSpec ws rm).pre.before a A.U = true := atoms_intro fun w hw => hws w hw _ _ X.warmed
  have h2 : (Cond.codeWith y bytes maxL ret hh).before a A.U = true := hws _ hcode _ _ X.warmed
  have h3 : (Cond.initialized y.cls).before a A.U = true := hinit _ _ X.warmed
  have h4 : A.cells + (headSpec ws rm).room.cells ≤ R.cells := by rw [show (headSpec ws rm).room.cells = mc from hrc]; exact hp.1
  have h5 : A.slots + (headSpec ws rm).room.slots ≤ R.slots := by rw [show (headSpec ws rm).room.slots = ms from hrs]; exact hp.2.1
  have hPc : Pc a (A.U.calling g mk a) := hblind _ _ _ _ hp.2.2
  obtain ⟨U, Ls, c0, s0⟩ := A
  dsimp only [Pt.U, Pt.locs, Pt.cells, Pt.slots] at h1 h2 h3 h4 h5 X hn hPc ⊢
  obtain ⟨m9, methY, cY, hn9, hmY, hcY, -, hlY, -⟩ := Cond.codeWith_spec h2
  cases Option.some.inj (hn9.symm.trans hn)
  obtain ⟨kY, hkY, -⟩ := className_of_methodNamed hn
  have hinitY : kY.init = .initialized := Cond.initialized_spec (findClass_of_methodNamed hn) hkY h3
  have h : At U g.method c below := by rw [hg]; exact X.here
  have hlocals9 : W9 + (maxL + 11) + (headSpec ws rm).room.locals ≤ R.locals := hlocals
  have happ : (headSpec ws rm).appliesLoose y e.platform (U.calling g mk a) = true :=
    Spec.appliesLoose_calling (g := g) h hdg hn hkY hinitY
      (X.room_calling (g := g) (R' := (headSpec ws rm).room) hsize hmY hcY hframes (by rw [hlY]; omega) h4 h5) h1
  obtain ⟨mid, hmid⟩ := h.above
  have hfr : (U.setTop g).frames = (.java g :: mid) ++ below := by rw [State.frames_setTop' g h.top, hmid]; rfl
  obtain ⟨o, s₂, hsteps, -, hend, hq⟩ := Steps.callFree hM p X.admits X.cas X.clock (acts := []) hfr happ hPc trivial
  have hq' : vx_Q Qc XC mc ms free a (U.calling g mk a) o s₂ := hq
  rw [State.frames_setTop' g h.top] at hend
  obtain ⟨g₀, hg0⟩ := Option.isSome_iff_exists.mp h.top
  obtain ⟨r, hr⟩ := State.topJava?_eq_some.mp hg0
  have hr' : (({ U with heap := s₂.heap, slotsUsed := s₂.slotsUsed } : State).setVm s₂.vm).frames = .java g₀ :: r := hr
  rcases hq' with ⟨hqc, L, hfe, hL⟩ | ⟨q, rfl, E, ce, L, hx, hce, hcv, hcl, hW₂, hsm, hL⟩
  · obtain ⟨⟨v, rfl⟩, hW₂, e2, q2, q3, q4, q5, q6⟩ := id hfe
    have e3 : s₂ = ({ (U.calling g mk a).setFrames s₂.frames with heap := s₂.heap, slotsUsed := s₂.slotsUsed } : State).setVm s₂.vm := by
      have : s₂ = ({ s₂ with vm := (U.calling g mk a).vm } : State).setVm s₂.vm := rfl
      rw [e2] at this
      exact this
    obtain ⟨c₂, i₂, len₂, hc₂, hd₂, hf₂⟩ := hend
    have hW' : U.WarmedH s₂.vm := hW₂
    have hcc : c₂ = c := by
      have h1 : s₂.code? g.method = U.code? g.method := by
        rw [State.code?_eq, State.code?_eq, hW'.alike.method?]
      exact Option.some.inj (hc₂.symm.trans (h1.trans h.code))
    subst hcc
    have hlen : len₂ = len := by rw [hdg] at hd₂; cases hd₂; rfl
    subst hlen
    have hs₂ : s₂ = (({ U with heap := s₂.heap, slotsUsed := s₂.slotsUsed } : State).setVm s₂.vm).setTop { g with pc := g.pc + len₂, stack := v.toList ++ g.stack } := by
      refine e3.trans ?_
      rw [hf₂, State.calling_eq h.top, State.setFrames_setFrames, State.setTop_of_frames _ hr', hr]
      rfl
    have hsame : U.sameButNew ({ U with heap := s₂.heap, slotsUsed := s₂.slotsUsed } : State) L mc ms := by
      refine ⟨?_, q2, q3, q4, q5, q6⟩
      obtain ⟨t, ht, -⟩ := State.frames_cons hr
      show ({ U with heap := s₂.heap, slotsUsed := s₂.slotsUsed } : State) = { U.setFrames U.frames with heap := s₂.heap, slotsUsed := s₂.slotsUsed }
      rw [State.setFrames_self ht]
    subst hg
    refine Or.inl ⟨v, ⟨(({ U with heap := s₂.heap, slotsUsed := s₂.slotsUsed } : State).setVm s₂.vm), Ls ++ L, c0 + mc, s0 + ms⟩,
      ⟨X.admits, X.cas, X.clock, X.frames, X.room, X.hears, X.method, X.code, (X.here.setHeapUsed s₂.heap s₂.slotsUsed).setVm hW'.alike, X.tail, State.WarmedH.trans X.warmed hW', X.limits, X.bytes, X.same.trans (hsame.setVm s.vm)⟩,
      ⟨g, mk, s₂, L, rfl, rfl, hqc, rfl, hL, rfl, rfl⟩, ?_⟩
    show Steps p.tables e below _ ((({ U with heap := s₂.heap, slotsUsed := s₂.slotsUsed } : State).setVm s₂.vm).setTop { g with pc := g.pc + len₂, stack := v.toList ++ g.stack })
    rw [← hs₂]
    exact hsteps
  · obtain ⟨e2, q2, q3, q4, q5, q6⟩ := id hsm
    have e3 : s₂ = ({ (U.calling g mk a).setFrames s₂.frames with heap := s₂.heap, slotsUsed := s₂.slotsUsed } : State).setVm s₂.vm := by
      have : s₂ = ({ s₂ with vm := (U.calling g mk a).vm } : State).setVm s₂.vm := rfl
      rw [e2] at this
      exact this
    have hf₂ : s₂.frames = .throwing q :: .java g :: U.frames.tail := hend
    have hW' : U.WarmedH s₂.vm := hW₂
    have hs₂ : s₂ = ((({ U with heap := s₂.heap, slotsUsed := s₂.slotsUsed } : State).setVm s₂.vm).setTop g).pushFrame (.throwing q) := by
      refine e3.trans ?_
      rw [hf₂, State.calling_eq h.top, State.setFrames_setFrames, State.pushFrame, State.frames_setTop _ hr', State.setTop_of_frames _ hr', State.setFrames_setFrames, hr]
      rfl
    have hsame : U.sameButNew ({ U with heap := s₂.heap, slotsUsed := s₂.slotsUsed } : State) L mc ms := by
      refine ⟨?_, q2, q3, q4, q5, q6⟩
      obtain ⟨t, ht, -⟩ := State.frames_cons hr
      show ({ U with heap := s₂.heap, slotsUsed := s₂.slotsUsed } : State) = { U.setFrames U.frames with heap := s₂.heap, slotsUsed := s₂.slotsUsed }
      rw [State.setFrames_self ht]
    subst hg
    refine Or.inr ⟨q, ⟨(({ U with heap := s₂.heap, slotsUsed := s₂.slotsUsed } : State).setVm s₂.vm), Ls ++ L, c0 + mc, s0 + ms⟩,
      ⟨X.admits, X.cas, X.clock, X.frames, X.room, X.hears, X.method, X.code, (X.here.setHeapUsed s₂.heap s₂.slotsUsed).setVm hW'.alike, X.tail, State.WarmedH.trans X.warmed hW', X.limits, X.bytes, X.same.trans (hsame.setVm s.vm)⟩,
      ⟨g, mk, s₂, L, E, ce, rfl, rfl, hx, hce, hcv, hcl, rfl, hL, rfl, rfl⟩, ?_⟩
    show Steps p.tables e below _ (((({ U with heap := s₂.heap, slotsUsed := s₂.slotsUsed } : State).setVm s₂.vm).setTop g).pushFrame (.throwing q))
    rw [← hs₂]
    exact hsteps
end
variable {p : Program} {l : Launch} {e : Env} {R : Room} {s : State} {m : MethodId} {args : Array Value} {below : List Frame} {meth : Method} {c : Code} {T : State} {H : Heap} {locs : List Loc} {cells slots : Nat}
theorem vx_callVX (X : Stand p l e R s m args below meth c T locs cells slots) (hexec : p.tables.exec = Jvm.exec) {own C : String} {index : Nat} {y : MethodName} {bytes : ByteArray} {maxL : Nat} {ret : Option FieldType} {hh : List (Nat × Nat × Nat × Nat)}
    (hown : s.vm.findClass own = some m.cls) (hlink : (Cond.methodLink own index y).before args s = true) (hinst : (Cond.instanceMethod y).before args s = true) (hsel : (Cond.selects C y y).before args s = true)
    (hcode : (Cond.codeWith y bytes maxL ret hh).before args s = true) (hy : y.cls ≠ "java/lang/invoke/MethodHandle" ∧ y.cls ≠ "java/lang/invoke/VarHandle")
    {W9 : Nat} {Pre : Pt → Array Value → Prop} {Post : Pt → Array Value → Option Value → Pt → Prop} {PostX : Pt → Array Value → Addr → Pt → Prop} (hK : vx_Back l R p e below s args y 3 W9 Pre Post PostX)
    {b : Addr} {cellB : Cell} (hcell : T.heap[b]? = some cellB) (hobj : cellB.vm.isStatics = false) (hcls : s.vm.findClass C = some cellB.cls)
    {g : JFrame} (hg : g.method = m) (hsize : g.locals.size = c.maxLocals) {argsL rest : List Value} (hlen : ∀ sig, parseMethodDescriptor y.desc = some sig → argsL.length = sig.parameters.length)
    (hstack : g.stack = argsL.reverse ++ .ref b :: rest) (hW : 2 * g.monitorRoom + (rest.map fun v => v.category).sum ≤ W9) (hdg : decode c.code g.pc = .ok (.invokevirtual index, 3))
    (hpre : ∀ vm₁, s.WarmedH vm₁ → Pre ⟨T.setVm vm₁, locs, cells, slots⟩ (Value.ref b :: argsL).toArray) :
    (∃ (v : Option Value) (vm₁ : Vm) (B : Pt), s.WarmedH vm₁ ∧ Stand p l e R s m args below meth c B.U B.locs B.cells B.slots ∧ Post ⟨T.setVm vm₁, locs, cells, slots⟩ (Value.ref b :: argsL).toArray v B ∧
      ∀ target, Steps p.tables e below (B.U.setTop { g with pc := g.pc + 3, stack := v.toList ++ rest }) target → Steps p.tables e below (T.setTop g) target) ∨
    (∃ (q : Addr) (vm₁ : Vm) (B : Pt), s.WarmedH vm₁ ∧ Stand p l e R s m args below meth c B.U B.locs B.cells B.slots ∧ PostX ⟨T.setVm vm₁, locs, cells, slots⟩ (Value.ref b :: argsL).toArray q B ∧
      Steps p.tables e below (T.setTop g) ((B.U.setTop { g with stack := rest }).pushFrame (.throwing q))) := by
  obtain ⟨mk, methM, hnamed, hmethM, hstM, habM⟩ := Cond.instanceMethod_spec hinst
  obtain ⟨m8, methM', cM, hn8, hmethM', -, -, -, -, -, -, hsigM⟩ := Cond.codeWith_spec hcode
  cases Option.some.inj (hn8.symm.trans hnamed)
  cases hmethM.symm.trans hmethM'
  obtain ⟨c2, r2, m2, q1, q2, q3, q4, kP, hkP, hkPi⟩ := Cond.selects_spec hsel
  cases hcls.symm.trans q1
  cases (State.methodFound?_of_named hnamed hy).symm.trans q2
  cases hnamed.symm.trans q3
  have hselP : selectMethod e.platform s.vm cellB.cls mk = .method mk := by rw [Launch.admits_selectMethod X.admits]; exact q4
  obtain ⟨vm₁, X₁, hstep₁⟩ := X.invokevirtual hexec hown hlink hnamed hmethM hstM hkP hkPi hy (a := b) (cell := cellB) hcell
    (fun z h => by rw [h] at hobj; cases hobj) hselP hmethM habM hkP hkPi (g := g) hg (argsL := argsL) (rest := rest) (hlen _ hsigM) hstack hdg
  rcases hK m meth c ⟨T.setVm vm₁, locs, cells, slots⟩ { g with stack := rest } (.invokevirtual index) mk (Value.ref b :: argsL).toArray X₁ hg hsize hdg hW (X₁.named hnamed) (hpre vm₁ X₁.warmed) with ⟨v, B, X', hpost, hsteps⟩ | ⟨q, B, X', hpost, hsteps⟩
  · exact Or.inl ⟨v, vm₁, B, X₁.warmed, X', hpost, fun target h => hstep₁ _ fun acts => by rw [doInvoke_state]; exact hsteps.trans h⟩
  · exact Or.inr ⟨q, vm₁, B, X₁.warmed, X', hpost, hstep₁ _ fun acts => by rw [doInvoke_state]; exact hsteps⟩
theorem vx_callSX (X : Stand p l e R s m args below meth c T locs cells slots) (hexec : p.tables.exec = Jvm.exec) {own : String} {index : Nat} {y : MethodName} {bytes : ByteArray} {maxL : Nat} {ret : Option FieldType} {hh : List (Nat × Nat × Nat × Nat)}
    (hown : s.vm.findClass own = some m.cls) (hlink : (Cond.methodLink own index y).before args s = true) (hstat : (Cond.static y).before args s = true) (hinit : (Cond.initialized y.cls).before args s = true)
    (hcode : (Cond.codeWith y bytes maxL ret hh).before args s = true) (hy : y.cls ≠ "java/lang/invoke/MethodHandle" ∧ y.cls ≠ "java/lang/invoke/VarHandle")
    {W9 : Nat} {Pre : Pt → Array Value → Prop} {Post : Pt → Array Value → Option Value → Pt → Prop} {PostX : Pt → Array Value → Addr → Pt → Prop} (hK : vx_Back l R p e below s args y 3 W9 Pre Post PostX)
    {g : JFrame} (hg : g.method = m) (hsize : g.locals.size = c.maxLocals) {argsL rest : List Value} (hlen : ∀ sig, parseMethodDescriptor y.desc = some sig → argsL.length = sig.parameters.length)
    (hstack : g.stack = argsL.reverse ++ rest) (hW : 2 * g.monitorRoom + (rest.map fun v => v.category).sum ≤ W9) (hdg : decode c.code g.pc = .ok (.invokestatic index, 3))
    (hpre : ∀ vm₁, s.WarmedH vm₁ → Pre ⟨T.setVm vm₁, locs, cells, slots⟩ argsL.toArray) :
    (∃ (v : Option Value) (vm₁ : Vm) (B : Pt), s.WarmedH vm₁ ∧ Stand p l e R s m args below meth c B.U B.locs B.cells B.slots ∧ Post ⟨T.setVm vm₁, locs, cells, slots⟩ argsL.toArray v B ∧
      ∀ target, Steps p.tables e below (B.U.setTop { g with pc := g.pc + 3, stack := v.toList ++ rest }) target → Steps p.tables e below (T.setTop g) target) ∨
    (∃ (q : Addr) (vm₁ : Vm) (B : Pt), s.WarmedH vm₁ ∧ Stand p l e R s m args below meth c B.U B.locs B.cells B.slots ∧ PostX ⟨T.setVm vm₁, locs, cells, slots⟩ argsL.toArray q B ∧
      Steps p.tables e below (T.setTop g) ((B.U.setTop { g with stack := rest }).pushFrame (.throwing q))) := by
  obtain ⟨mk, methM, cM, hnamed, hmethM, -, -, -, -, -, -, hsigM⟩ := Cond.codeWith_spec hcode
  have hstatic : methM.isStatic = true := Cond.static_spec hnamed hmethM hstat
  obtain ⟨kP, hkP, -⟩ := className_of_methodNamed hnamed
  have hinitP : kP.init = .initialized := Cond.initialized_spec (findClass_of_methodNamed hnamed) hkP hinit
  obtain ⟨vm₁, X₁, hstep₁⟩ := X.invokestatic hexec hown hlink hnamed hmethM hstatic hkP hinitP hy (g := g) hg (argsL := argsL) (rest := rest) (hlen _ hsigM) hstack hdg
  rcases hK m meth c ⟨T.setVm vm₁, locs, cells, slots⟩ { g with stack := rest } (.invokestatic index) mk argsL.toArray X₁ hg hsize hdg hW (X₁.named hnamed) (hpre vm₁ X₁.warmed) with ⟨v, B, X', hpost, hsteps⟩ | ⟨q, B, X', hpost, hsteps⟩
  · exact Or.inl ⟨v, vm₁, B, X₁.warmed, X', hpost, fun target h => hstep₁ _ fun acts => by rw [doInvoke_state]; exact hsteps.trans h⟩
  · exact Or.inr ⟨q, vm₁, B, X₁.warmed, X', hpost, hstep₁ _ fun acts => by rw [doInvoke_state]; exact hsteps⟩
theorem vx_callVW (X : Stand p l e R s m args below meth c T locs cells slots) (hexec : p.tables.exec = Jvm.exec) {own C : String} {index : Nat} {y : MethodName} {bytes : ByteArray} {maxL : Nat} {ret : Option FieldType} {hh : List (Nat × Nat × Nat × Nat)}
    (hown : s.vm.findClass own = some m.cls) (hlink : (Cond.methodLink own index y).before args s = true) (hinst : (Cond.instanceMethod y).before args s = true) (hsel : (Cond.selects C y y).before args s = true)
    (hcode : (Cond.codeWith y bytes maxL ret hh).before args s = true) (hy : y.cls ≠ "java/lang/invoke/MethodHandle" ∧ y.cls ≠ "java/lang/invoke/VarHandle")
    {W9 : Nat} {Pre : Pt → Array Value → Prop} {Post : Pt → Array Value → Option Value → Pt → Prop} (hK : Back l R p e below s args y 3 W9 Pre Post)
    {b : Addr} {cellB : Cell} (hcell : T.heap[b]? = some cellB) (hobj : cellB.vm.isStatics = false) (hcls : s.vm.findClass C = some cellB.cls)
    {g : JFrame} (hg : g.method = m) (hsize : g.locals.size = c.maxLocals) {argsL rest : List Value} (hlen : ∀ sig, parseMethodDescriptor y.desc = some sig → argsL.length = sig.parameters.length)
    (hstack : g.stack = argsL.reverse ++ .ref b :: rest) (hW : 2 * g.monitorRoom + (rest.map fun v => v.category).sum ≤ W9) (hdg : decode c.code g.pc = .ok (.invokevirtual index, 3))
    (hpre : ∀ vm₁, s.WarmedH vm₁ → Pre ⟨T.setVm vm₁, locs, cells, slots⟩ (Value.ref b :: argsL).toArray) :
    ∃ (v : Option Value) (vm₁ : Vm) (B : Pt), s.WarmedH vm₁ ∧ Stand p l e R s m args below meth c B.U B.locs B.cells B.slots ∧ Post ⟨T.setVm vm₁, locs, cells, slots⟩ (Value.ref b :: argsL).toArray v B ∧
      ∀ target, Steps p.tables e below (B.U.setTop { g with pc := g.pc + 3, stack := v.toList ++ rest }) target → Steps p.tables e below (T.setTop g) target := by
  obtain ⟨mk, methM, hnamed, hmethM, hstM, habM⟩ := Cond.instanceMethod_spec hinst
  obtain ⟨m8, methM', cM, hn8, hmethM', -, -, -, -, -, -, hsigM⟩ := Cond.codeWith_spec hcode
  cases Option.some.inj (hn8.symm.trans hnamed)
  cases hmethM.symm.trans hmethM'
  obtain ⟨c2, r2, m2, q1, q2, q3, q4, kP, hkP, hkPi⟩ := Cond.selects_spec hsel
  cases hcls.symm.trans q1
  cases (State.methodFound?_of_named hnamed hy).symm.trans q2
  cases hnamed.symm.trans q3
  have hselP : selectMethod e.platform s.vm cellB.cls mk = .method mk := by rw [Launch.admits_selectMethod X.admits]; exact q4
  obtain ⟨vm₁, X₁, hstep₁⟩ := X.invokevirtual hexec hown hlink hnamed hmethM hstM hkP hkPi hy (a := b) (cell := cellB) hcell
    (fun z h => by rw [h] at hobj; cases hobj) hselP hmethM habM hkP hkPi (g := g) hg (argsL := argsL) (rest := rest) (hlen _ hsigM) hstack hdg
  obtain ⟨v, B, X', hpost, hsteps⟩ := hK m meth c ⟨T.setVm vm₁, locs, cells, slots⟩ { g with stack := rest } (.invokevirtual index) mk (Value.ref b :: argsL).toArray X₁ hg hsize hdg hW (X₁.named hnamed) (hpre vm₁ X₁.warmed)
  exact ⟨v, vm₁, B, X₁.warmed, X', hpost, fun target h => hstep₁ _ fun acts => by rw [doInvoke_state]; exact hsteps.trans h⟩
noncomputable abbrev vx_CVW (R : Room) (s : State) (args : Array Value) (own C : String) (index : Nat) (y : MethodName) (bytes : ByteArray) (maxL : Nat) (ret : Option FieldType) (hh : List (Nat × Nat × Nat × Nat)) (ws : List Cond) (rm : Room) (mc ms n : Nat) : Prop :=
  (rm.cells = mc ∧ rm.slots = ms ∧ rm.frames + 1 ≤ R.frames ∧ 8 + (maxL + 11) + rm.locals ≤ R.locals ∧ (∀ w ∈ ws, ∀ (a' : Array Value) (U : State), s.WarmedH U.vm → w.before a' U = true) ∧ Cond.codeWith y bytes maxL ret hh ∈ ws) ∧
  (Cond.codeWith y bytes maxL ret hh).before args s = true ∧ (Cond.initialized y.cls).before args s = true ∧ (y.cls ≠ "java/lang/invoke/MethodHandle" ∧ y.cls ≠ "java/lang/invoke/VarHandle") ∧
  (∀ sig, parseMethodDescriptor y.desc = some sig → n = sig.parameters.length) ∧ (Cond.methodLink own index y).before args s = true ∧ (Cond.instanceMethod y).before args s = true ∧ (Cond.selects C y y).before args s = true
theorem vx_cwVW {own C : String} {index maxL mc ms : Nat} {y : MethodName} {bytes : ByteArray} {ret : Option FieldType} {hh : List (Nat × Nat × Nat × Nat)} {Ts ws ws' : List Cond} {rm : Room} (n : Nat) (ht : ∀ w ∈ Ts, w.before args s = true) (hT : GoodIn Ts (wsV own index C y ws)) (hw : ws = Cond.codeWith y bytes maxL ret hh :: ws') (hrc : rm.cells = mc) (hrs : rm.slots = ms)
    (hd : y.cls = C ∧ y.cls ≠ "java/lang/invoke/MethodHandle" ∧ y.cls ≠ "java/lang/invoke/VarHandle" ∧ (parseMethodDescriptor y.desc).map (fun d => d.parameters.length) = some n) (hR : rm.frames + 1 ≤ R.frames ∧ 8 + (maxL + 11) + rm.locals ≤ R.locals) :
    vx_CVW R s args own C index y bytes maxL ret hh ws rm mc ms n := by
  obtain ⟨hC, hd⟩ := hd
  subst hC
  have ok : ∀ w ∈ wsV own index y.cls y ws, w.before args s = true := fun w h => ht w (hT w h).1
  have hG : GoodIn Ts ws := fun w h => hT w (by unfold wsV; exact List.mem_append_right _ h)
  have hc : Cond.codeWith y bytes maxL ret hh ∈ ws := by rw [hw]; exact List.mem_cons_self
  refine ⟨⟨hrc, hrs, hR.1, hR.2, pay_in ht hG, hc⟩, ht _ (hG _ hc).1, ok _ (by simp [wsV]), ⟨hd.1, hd.2.1⟩, fun sig h => ?_, ok _ (by simp [wsV]), ok _ (by simp [wsV]), ok _ (by simp [wsV])⟩
  have h2 := hd.2.2
  rw [h] at h2
  exact (Option.some.inj h2).symm
theorem vx_runVW {y : MethodName} {bytes cc : ByteArray} {maxL nL mc ms n index : Nat} {ret : Option FieldType} {hh : List (Nat × Nat × Nat × Nat)} {ws : List Cond} {rm : Room} {Pc : Array Value → State → Prop} {Qc : Array Value → State → Outcome → State → Prop} {free : Addr → Prop} {Ts : List Cond} {own C : String} {b : Addr} {As rest : List Value} {g : JFrame}
    (S : CallFix p m c cc nL s args Ts own) (hM : Met l y ws rm Pc Qc mc ms free) (cw : vx_CVW R s args own C index y bytes maxL ret hh ws rm mc ms n) (hp : PreV s H C b Pc As)
    (hg : g.method = m) (hn : As.length = n) (hsize : g.locals.size = nL) (hstack : g.stack = As.reverse ++ .ref b :: rest) (hW : 2 * g.monitorRoom + (rest.map fun v => v.category).sum ≤ 8) (hdg : decode cc g.pc = .ok (.invokevirtual index, 3)) (hf : cells + mc ≤ R.cells ∧ slots + ms ≤ R.slots) :
    va_Run p l e R s m args below meth c H locs cells slots mc ms g rest (Qc (Value.ref b :: As).toArray) free := by
  obtain ⟨⟨hrc, hrs, hfr, hlo, hws, hcw⟩, hcode, hini, hy, hlen, hl, hin, hse⟩ := cw
  have hK : Back l R p e below s args y 3 8 (PreOf R mc ms Pc) (PostOf Qc mc ms free) := va_backW (hh := hh) (bytes := bytes) (maxL := maxL) (ret := ret) hM hp.1 hrc hrs hfr hlo hws hcw (fun a' U hW => word_at hW (Or.inl (by first | rfl | simp [Cond.onTables, Cond.keeps, Cond.steady])) hini)
  obtain ⟨hx, hb, hml, ho, -⟩ := S
  obtain ⟨-, ⟨cellB, hcB, hoB, hclB⟩, hPc⟩ := hp
  intro T hT X
  obtain ⟨v, vm₁, ⟨U', l2, c2, s2⟩, hW₁, X', ⟨g', mk, t, L, e1, e2, hq, h1, hL, h2, h3⟩, st⟩ := vx_callVW X hx (C := C) (hh := hh) (bytes := bytes) (maxL := maxL) (ret := ret) ho hl hin hse hcode hy hK (by rw [hT]; exact hcB) hoB hclB hg (hsize.trans hml.symm) (argsL := As) (rest := rest) (fun sig h => hn.trans (hlen sig h)) hstack hW (by rw [hb]; exact hdg)
    (fun vm₁ hW₁ => ⟨hf.1, hf.2, hPc (T.setVm vm₁) hT hW₁⟩)
  dsimp only [Pt.U, Pt.locs, Pt.cells, Pt.slots] at X' e1 e2 h1 h2 h3 st
  subst h1; subst h2; subst h3
  exact ⟨v, (T.setVm vm₁).calling g' mk (Value.ref b :: As).toArray, t, U', L, hT, X', hL, e1, e2, hq, st⟩
section
variable {y : MethodName} {bytes cc : ByteArray} {maxL nL mc ms n index : Nat} {ret : Option FieldType} {ws : List Cond} {rm : Room} {Pc : Array Value → State → Prop} {Qc : Array Value → State → Outcome → State → Prop} {XC : String → State → State → Prop} {free : Addr → Prop} {Ts : List Cond} {own C : String} {b : Addr} {As rest : List Value} {g : JFrame}
theorem vx_runVX {hh : List (Nat × Nat × Nat × Nat)} (S : CallFix p m c cc nL s args Ts own) (hM : vx_Met l y ws rm Pc Qc XC mc ms free) (cw : vx_CVW R s args own C index y bytes maxL ret hh ws rm mc ms n) (hp : PreV s H C b Pc As)
    (hg : g.method = m) (hn : As.length = n) (hsize : g.locals.size = nL) (hstack : g.stack = As.reverse ++ .ref b :: rest) (hW : 2 * g.monitorRoom + (rest.map fun v => v.category).sum ≤ 8) (hdg : decode cc g.pc = .ok (.invokevirtual index, 3)) (hf : cells + mc ≤ R.cells ∧ slots + ms ≤ R.slots) :
    vx_Run p l e R s m args below meth c H locs cells slots mc ms g rest (Qc (Value.ref b :: As).toArray) XC free := by
  obtain ⟨⟨hrc, hrs, hfr, hlo, hws, hcw⟩, hcode, hini, hy, hlen, hl, hin, hse⟩ := cw
  have hK : vx_Back l R p e below s args y 3 8 (PreOf R mc ms Pc) (PostOf Qc mc ms free) (vx_Post XC mc ms free) := vx_backW (hh := hh) (bytes := bytes) (maxL := maxL) (ret := ret) hM hp.1 hrc hrs hfr hlo hws hcw (fun a' U hW => word_at hW (Or.inl (by first | rfl | simp [Cond.onTables, Cond.keeps, Cond.steady])) hini)
  obtain ⟨hx, hb, hml, ho, -⟩ := S
  obtain ⟨-, ⟨cellB, hcB, hoB, hclB⟩, hPc⟩ := hp
  intro T hT X
  rcases vx_callVX X hx (C := C) (hh := hh) (bytes := bytes) (maxL := maxL) (ret := ret) ho hl hin hse hcode hy hK (by rw [hT]; exact hcB) hoB hclB hg (hsize.trans hml.symm) (argsL := As) (rest := rest) (fun sig h => hn.trans (hlen sig h)) hstack hW (by rw [hb]; exact hdg)
    (fun vm₁ hW₁ => ⟨hf.1, hf.2, hPc (T.setVm vm₁) hT hW₁⟩) with ⟨v, vm₁, ⟨U', l2, c2, s2⟩, hW₁, X', ⟨g', mk, t, L, e1, e2, hq, h1, hL, h2, h3⟩, st⟩ | ⟨q, vm₁, ⟨U', l2, c2, s2⟩, hW₁, X', ⟨g', mk, t, L, E, ce, e1, e2, hq, hce, hcv, hcl, h1, hL, h2, h3⟩, st⟩
  · dsimp only [Pt.U, Pt.locs, Pt.cells, Pt.slots] at X' e1 e2 h1 h2 h3 st
    subst h1; subst h2; subst h3
    exact Or.inl ⟨v, (T.setVm vm₁).calling g' mk (Value.ref b :: As).toArray, t, U', L, hT, X', hL, e1, e2, hq, st⟩
  · dsimp only [Pt.U, Pt.locs, Pt.cells, Pt.slots] at X' e1 e2 h1 h2 h3 st hcl
    subst h1; subst h2; subst h3
    exact Or.inr ⟨q, (T.setVm vm₁).calling g' mk (Value.ref b :: As).toArray, t, U', L, E, ce, hT, X', hL, e1, e2, hq, hce, hcv, vx_cls hW₁ hcl, st⟩
theorem vx_runSX {hh : List (Nat × Nat × Nat × Nat)} (S : CallFix p m c cc nL s args Ts own) (hM : vx_Met l y ws rm Pc Qc XC mc ms free) (cw : vx_CSW R s args own index y bytes maxL ret hh ws rm mc ms n) (hp : PreS s H Pc As)
    (hg : g.method = m) (hn : As.length = n) (hsize : g.locals.size = nL) (hstack : g.stack = As.reverse ++ rest) (hW : 2 * g.monitorRoom + (rest.map fun v => v.category).sum ≤ 8) (hdg : decode cc g.pc = .ok (.invokestatic index, 3)) (hf : cells + mc ≤ R.cells ∧ slots + ms ≤ R.slots) :
    vx_Run p l e R s m args below meth c H locs cells slots mc ms g rest (Qc As.toArray) XC free := by
  obtain ⟨⟨hrc, hrs, hfr, hlo, hws, hcw⟩, hcode, hini, hy, hlen, hl, hstt⟩ := cw
  have hK : vx_Back l R p e below s args y 3 8 (PreOf R mc ms Pc) (PostOf Qc mc ms free) (vx_Post XC mc ms free) := vx_backW (hh := hh) (bytes := bytes) (maxL := maxL) (ret := ret) hM hp.1 hrc hrs hfr hlo hws hcw (fun a' U hW => word_at hW (Or.inl (by first | rfl | simp [Cond.onTables, Cond.keeps, Cond.steady])) hini)
  obtain ⟨hx, hb, hml, ho, -⟩ := S
  intro T hT X
  rcases vx_callSX X hx (hh := hh) (bytes := bytes) (maxL := maxL) (ret := ret) ho hl hstt hini hcode hy hK hg (hsize.trans hml.symm) (argsL := As) (rest := rest) (fun sig h => hn.trans (hlen sig h)) hstack hW (by rw [hb]; exact hdg)
    (fun vm₁ hW₁ => ⟨hf.1, hf.2, hp.2 (T.setVm vm₁) hT hW₁⟩) with ⟨v, vm₁, ⟨U', l2, c2, s2⟩, hW₁, X', ⟨g', mk, t, L, e1, e2, hq, h1, hL, h2, h3⟩, st⟩ | ⟨q, vm₁, ⟨U', l2, c2, s2⟩, hW₁, X', ⟨g', mk, t, L, E, ce, e1, e2, hq, hce, hcv, hcl, h1, hL, h2, h3⟩, st⟩
  · dsimp only [Pt.U, Pt.locs, Pt.cells, Pt.slots] at X' e1 e2 h1 h2 h3 st
    subst h1; subst h2; subst h3
    exact Or.inl ⟨v, (T.setVm vm₁).calling g' mk As.toArray, t, U', L, hT, X', hL, e1, e2, hq, st⟩
  · dsimp only [Pt.U, Pt.locs, Pt.cells, Pt.slots] at X' e1 e2 h1 h2 h3 st hcl
    subst h1; subst h2; subst h3
    exact Or.inr ⟨q, (T.setVm vm₁).calling g' mk As.toArray, t, U', L, E, ce, hT, X', hL, e1, e2, hq, hce, hcv, vx_cls hW₁ hcl, st⟩
end
end VXH
theorem vx_ofWH {l : Launch} {y : MethodName} {ws ws' : List Cond} {rm : Room} {Pc : Array Value → State → Prop} {Qc : Array Value → State → Outcome → State → Prop} {XC : String → State → State → Prop} {mc ms : Nat} {free : Addr → Prop} {cc : ByteArray} {maxL : Nat} {ret : Option FieldType} {hh : List (Nat × Nat × Nat × Nat)}
    (hy : plainName y.cls = true) (hw : ws = Cond.codeWith y cc maxL ret hh :: ws')
    (body : ∀ p e s m args below meth c s₁, BodyLoose p l y (headSpec ws rm) cc maxL ret e s m args below meth c s₁ → c.maxLocals = maxL → Pc args s →
      W p l e (headSpec ws rm).room s m args below meth c s.heap [] 0 0 (vx_MQ below Qc XC args s mc ms free) (entryFrame m args maxL)) : vx_Met l y ws rm Pc Qc XC mc ms free := by
  refine MetFree.of_bodyS (code := cc) (maxLocals := maxL) (ret := ret) hy ?_ ?_
  · intro args s m h hn
    obtain ⟨m9, meth, c, hn9, h1, h2, h3, h4, -, h5, h6, -⟩ := Cond.codeWith_spec (atoms_spec (ws := ws) h _ (by rw [hw]; exact List.mem_cons_self))
    cases hn.symm.trans hn9
    exact ⟨meth, c, h1, h2, h3, h4, h5, h6⟩
  · intro p e s m args below meth c s₁ B hml hP _
    have hh0 : s₁.heap = s.heap := by rw [B.state]; rfl
    obtain ⟨t, a1, o, b1, b2, b3⟩ := body p e s m args below meth c s₁ B hml hP s₁ hh0 (Stand.of_body B)
    exact ⟨t, o, a1, b1, b2, b3⟩
/-! ===== END ===== -/

/-! a callee's throw, caught by the first row of the caller's own table (the row's class may be linked here for the first time) -/
noncomputable def cx_F (e : Env) (s : State) (f : JFrame) (a : Addr) (pc : Nat) (vm' : Vm) : Prop :=
  ∀ (Q : Handler → Pre) (E : CtlPost) (d : Bool) (acts : List Action), wp (findHandler f a) Q E e d acts s ↔ Q (.found pc) d acts (s.setVm vm')
theorem cx_sf (u : State) (vm' : Vm) (F G : List Frame) : ((u.setFrames F).setVm vm').setFrames G = (u.setVm vm').setFrames G := by
  show ((u.setVm vm').setFrames F).setFrames G = (u.setVm vm').setFrames G
  rw [State.setFrames_setFrames]
theorem cx_find {e : Env} {s : State} {f : JFrame} {a : Addr} {meth : Method} {code : Code} (hm : s.vm.method? f.method = some meth) (hc : meth.code = some code) {x : ExceptionTableEntry} {t : List ExceptionTableEntry} (hsplit : code.exceptionTable.toList = x :: t)
    {c : ClassId} {cell : Cell} (hx : covers x f.pc = true) (h0 : x.catchType ≠ 0) (hl : s.vm.ClassLinks e.platform f.method.cls x.catchType c) (hcell : s.heap[a]? = some cell) (hobj : ∀ k, cell.vm ≠ .statics k)
    (hk : ∃ k, s.vm.classes[cell.cls]? = some k) (hcl : ∃ k, s.vm.classes[c]? = some k) (hfit : s.vm.assignable cell.cls c = true) :
    cx_F e s f a x.handlerPc (s.vm.noted f.method.cls x.catchType (.cls c)) := by
  intro Q E d acts
  rw [W.findHandler_eq hm hc, hsplit]
  simp only [covers] at hx
  obtain ⟨ha, ht⟩ := (resolveClass_links e.toSetting hl).op (op := VmOp.resolveClass f.method.cls x.catchType) rfl
  have hal : s.vm.Alike (s.vm.noted f.method.cls x.catchType (.cls c)) := (Vm.Alike.refl s.vm).noted _ _ _
  obtain ⟨k1, hk1⟩ := hk
  obtain ⟨k2, hk2⟩ := hcl
  obtain ⟨k3, hk3, -⟩ := hal.2.2 _ _ hk1
  obtain ⟨k4, hk4, -⟩ := hal.2.2 _ _ hk2
  have hf2 : (s.vm.noted f.method.cls x.catchType (.cls c)).assignable cell.cls c = true := by rw [hal.assignable]; exact hfit
  simp [findHandler.go, hx, h0, ha, ht, hcell, hobj, hk3, hk4, hf2, VmOp.dirties, VmOp.acts]
theorem cx_step {e : Env} {s : State} {a : Addr} {f : JFrame} {r : List Frame} {pc : Nat} {vm' : Vm} (hfind : cx_F e s f a pc vm') :
    (stepThrowing e s a (.java f :: r)).Is ((s.setVm vm').setFrames (.java { f with pc := pc, stack := [.ref a] } :: r)) [] := by
  simp only [stepThrowing, searchFrame, vmDo]
  generalize hr : Sem.go _ e false [] s = res
  obtain ⟨as, rfl, ha⟩ := Sem.eq_ok_of hr (a := Handler.found pc) (s' := s.setVm vm') (acts' := []) (by simp [hfind _ _ _ _])
  exact ⟨rfl, ha⟩
theorem cx_steps {tb : Tables} {e : Env} {s target : State} {g : JFrame} {c : Code} {below : List Frame} {a : Addr} (h : At s g.method c below) {pc : Nat} {vm' : Vm}
    (hfind : cx_F e ((s.setTop g).pushFrame (.throwing a)) g a pc vm') (hrest : Steps tb e below ((s.setVm vm').setTop { g with pc := pc, stack := [.ref a] }) target) :
    Steps tb e below ((s.setTop g).pushFrame (.throwing a)) target := by
  obtain ⟨hgo, hw⟩ := h.throwing a
  refine Steps.head hgo hw ?_
  rw [stepThread_throwing (frames_entered h.top _), (cx_step (s := (s.setTop g).pushFrame (.throwing a)) hfind).1]
  obtain ⟨g₀, hg⟩ := Option.isSome_iff_exists.mp h.top
  obtain ⟨r, hr⟩ := State.topJava?_eq_some.mp hg
  have hr2 : (s.setVm vm').frames = .java g₀ :: r := hr
  rw [State.setTop_of_frames _ hr2] at hrest
  rw [hr, List.tail_cons, State.pushFrame, cx_sf, State.setTop_of_frames _ hr, cx_sf]
  exact hrest
section CX
variable {p : Program} {l : Launch} {e : Env} {R : Room} {s : State} {m : MethodId} {args : Array Value} {below : List Frame} {meth : Method} {c : Code} {H : Heap} {locs : List Loc} {cells slots : Nat} {Q : State → Prop} {pc : Nat} {ls : Array Slot} {rest : List Value}
/-- caught by the first row of this method's table -/
theorem cx_catch {own name : String} {E : String} {ce : Cell} {q : Addr} (hown : s.vm.findClass own = some m.cls) (x : ExceptionTableEntry) (suf : List ExceptionTableEntry) (hsplit : c.exceptionTable.toList = x :: suf)
    (hx : covers x pc = true) (h0 : x.catchType ≠ 0)
    (hlink : (Cond.classLink own x.catchType name).before args s = true) (hcast : (Cond.castable E name).before args s = true) (hcell : H[q]? = some ce) (hv : ce.vm = .none) (hcl : s.vm.findClass E = some ce.cls)
    (kk : W p l e R s m args below meth c H locs cells slots Q (F0 m x.handlerPc ls [.ref q])) : vx_W p l e R s m args below meth c H locs cells slots Q (F0 m pc ls rest) q := by
  intro T hT X
  have hpl : e.platform.magicAccessors = ({} : Platform).magicAccessors := by rw [X.admits.platform]
  obtain ⟨c3, c4, hc3, hc4, hasg⟩ := Cond.castable_spec hcast
  cases Option.some.inj (hc3.symm.trans hcl)
  obtain ⟨c5, hc5, hcl5⟩ := Cond.classLink_spec hown hlink e.platform hpl
  cases Option.some.inj (hc4.symm.trans hc5)
  obtain ⟨dk, _, _, kt, hd, _, _, _, _, hkt, _, hopen⟩ := hcl5.here
  obtain ⟨k9, hk9, -⟩ := Vm.findClass_spec hcl
  obtain ⟨k8, hk8, -⟩ := X.warmed.alike.2.2 _ _ hk9
  obtain ⟨kt2, hkt2, -⟩ := X.warmed.alike.2.2 _ _ hkt
  have X2 := X.noted (X.warmed.noted hd hopen (State.rightAt_cls hcl5))
  obtain ⟨t, a1, b1⟩ := kk _ (by exact hT) X2
  refine ⟨t, ?_, b1⟩
  refine cx_steps (g := F0 m pc ls rest) (pc := x.handlerPc) X.here (cx_find (s := (T.setTop (F0 m pc ls rest)).pushFrame (.throwing q)) (f := F0 m pc ls rest) (meth := meth) (code := c) (cell := ce) (c := c4) ?_ X.code hsplit hx h0 ?_ ?_ (VmData.ne_statics_of (by rw [hv]; rfl)) ⟨k8, hk8⟩ ⟨kt2, hkt2⟩ ?_) a1
  · exact X.method'
  · exact X.warmed.classLinks hcl5
  · show T.heap[q]? = some ce
    rw [hT]; exact hcell
  · show T.vm.assignable ce.cls c4 = true
    rw [X.warmed.alike.assignable]; exact hasg
end CX
/-! the words of a throw of NoSuchElementException("text"): its constructor links its parent's by entry 13 -/
noncomputable def cx_six : ByteArray := ⟨#[0x2a, 0x2b, 0xb7, 0x00, 0x0d, 0xb1]⟩
noncomputable def cx_E : String := "java/util/NoSuchElementException"
noncomputable def cx_all : List Cond := Bundle.throwableAtoms ++ Bundle.throwableSAtoms ++ (Bundle.passSAtoms cx_E "java/lang/RuntimeException" 13 cx_six ++ Bundle.chainSAtoms "java/lang/RuntimeException" ["java/lang/Exception"]) ++
  [.methodLink "TileHouse" 257 (Bundle.initS cx_E), .instantiable cx_E 6, .castable cx_E cx_E, .selects cx_E Bundle.tFill0 Bundle.tFill0, .selects cx_E Bundle.tFill Bundle.tFill,
   .lays cx_E Bundle.tN "cause" "Ljava/lang/Throwable;", .lays cx_E Bundle.tN "stackTrace" Bundle.steD, .lays cx_E Bundle.tN "suppressedExceptions" Bundle.listD, .lays cx_E Bundle.tN "detailMessage" "Ljava/lang/String;",
   .isRef (.static Bundle.tN "UNASSIGNED_STACK" Bundle.steD), .isRef (.static Bundle.tN "SUPPRESSED_SENTINEL" Bundle.listD),
   .fieldLink Bundle.tN 198 Bundle.tN "backtrace" "Ljava/lang/Object;", .lays Bundle.tN Bundle.tN "backtrace" "Ljava/lang/Object;", .lays cx_E Bundle.tN "backtrace" "Ljava/lang/Object;"]
noncomputable def cx_at : List Cond := cx_all.filter vx_no
/-! ===== BEGIN printed: names, fields, word lists, decode rows ===== -/
noncomputable def RX0 : String := "TileHouse$Forms"
noncomputable def TX0 : u_T := fun k => match k with
  | _ => ("", "", "", false)
noncomputable def tyX0 : Nat → FieldType := fun k => match k with
  | _ => .int
noncomputable abbrev wsX00 : List Cond := u_ws RX0 TX0 0
theorem nmX0 : ∀ a, a < 0 → ∀ b, b < 0 → a ≠ b → (TX0 a).2.1 ≠ (TX0 b).2.1 := by decide +kernel
theorem tyX0_ok : ∀ k, k < 0 → parseFieldDescriptor (TX0 k).2.2.1 = some (tyX0 k) := by decide +kernel
noncomputable abbrev cX0_hanOf : ByteArray := prog_2_method_2_code
noncomputable def yX0_hanOf : MethodName := ⟨RX0, "hanOf", "(JZ)I"⟩
noncomputable abbrev cX0_baseOf : ByteArray := prog_2_method_3_code
noncomputable def yX0_baseOf : MethodName := ⟨RX0, "baseOf", "(II)I"⟩
noncomputable def RX1 : String := "TileHouse$Judge"
noncomputable def TX1 : u_T := fun k => match k with
  | 0 => ("TileHouse$Judge", "base", "I", false)
  | 1 => ("TileHouse$Judge", "han", "I", false)
  | 2 => ("TileHouse$Judge", "fu", "I", false)
  | 3 => ("TileHouse$Judge", "best", "J", false)
  | 4 => ("TileHouse$Judge", "ways", "I", false)
  | 5 => ("TileHouse$Judge", "tiles", "LTileHouse$Tiles;", false)
  | 6 => ("TileHouse$Judge", "winner", "I", false)
  | 7 => ("TileHouse$Judge", "drawn", "Z", false)
  | 8 => ("TileHouse$Judge", "open", "Z", false)
  | 9 => ("TileHouse$Judge", "seatWind", "I", false)
  | 10 => ("TileHouse$Judge", "roundWind", "I", false)
  | 11 => ("TileHouse$Judge", "dear", "I", false)
  | 12 => ("TileHouse$Judge", "shared", "J", false)
  | 13 => ("TileHouse$Judge", "sort", "[I", true)
  | 14 => ("TileHouse$Judge", "low", "[I", true)
  | 15 => ("TileHouse$Judge", "pair", "I", false)
  | 16 => ("TileHouse$Judge", "runs", "J", false)
  | 17 => ("TileHouse$Judge", "threes", "J", false)
  | _ => ("TileHouse$Judge", "mayBeThrees", "[I", true)
noncomputable def tyX1 : Nat → FieldType := fun k => match k with
  | 0 => .int
  | 1 => .int
  | 2 => .int
  | 3 => .long
  | 4 => .int
  | 5 => .object "TileHouse$Tiles"
  | 6 => .int
  | 7 => .boolean
  | 8 => .boolean
  | 9 => .int
  | 10 => .int
  | 11 => .int
  | 12 => .long
  | 13 => .array .int
  | 14 => .array .int
  | 15 => .int
  | 16 => .long
  | 17 => .long
  | _ => .array .int
noncomputable abbrev wsX10 : List Cond := u_ws RX1 TX1 19
theorem nmX1 : ∀ a, a < 19 → ∀ b, b < 19 → a ≠ b → (TX1 a).2.1 ≠ (TX1 b).2.1 := by decide +kernel
theorem tyX1_ok : ∀ k, k < 19 → parseFieldDescriptor (TX1 k).2.2.1 = some (tyX1 k) := by decide +kernel
noncomputable abbrev cX1_init : ByteArray := prog_3_method_1_code
noncomputable def yX1_init : MethodName := ⟨RX1, "<init>", "()V"⟩
noncomputable abbrev cX1_judge : ByteArray := prog_3_method_2_code
noncomputable def yX1_judge : MethodName := ⟨RX1, "judge", "(LTileHouse$Tiles;IZJII)V"⟩
noncomputable abbrev cX1_toldOnes : ByteArray := prog_3_method_3_code
noncomputable def yX1_toldOnes : MethodName := ⟨RX1, "toldOnes", "(J)J"⟩
noncomputable abbrev cX1_bit : ByteArray := prog_3_method_4_code
noncomputable def yX1_bit : MethodName := ⟨RX1, "bit", "(ZI)J"⟩
noncomputable abbrev cX1_tileForms : ByteArray := prog_3_method_5_code
noncomputable def yX1_tileForms : MethodName := ⟨RX1, "tileForms", "(J)J"⟩
noncomputable abbrev cX1_isNineGates : ByteArray := prog_3_method_6_code
noncomputable def yX1_isNineGates : MethodName := ⟨RX1, "isNineGates", "(J)Z"⟩
noncomputable abbrev cX1_findThrees : ByteArray := prog_3_method_7_code
noncomputable def yX1_findThrees : MethodName := ⟨RX1, "findThrees", "()I"⟩
noncomputable abbrev cX1_chosenThrees : ByteArray := prog_3_method_8_code
noncomputable def yX1_chosenThrees : MethodName := ⟨RX1, "chosenThrees", "(I)J"⟩
noncomputable abbrev cX1_fillWay : ByteArray := prog_3_method_9_code
noncomputable def yX1_fillWay : MethodName := ⟨RX1, "fillWay", "(J)Z"⟩
noncomputable abbrev cX1_weighWay : ByteArray := prog_3_method_10_code
noncomputable def yX1_weighWay : MethodName := ⟨RX1, "weighWay", "()V"⟩
noncomputable abbrev cX1_mayHaveCompleted : ByteArray := prog_3_method_11_code
noncomputable def yX1_mayHaveCompleted : MethodName := ⟨RX1, "mayHaveCompleted", "(I)Z"⟩
noncomputable abbrev cX1_likeRuns : ByteArray := prog_3_method_12_code
noncomputable def yX1_likeRuns : MethodName := ⟨RX1, "likeRuns", "()J"⟩
noncomputable abbrev cX1_setForms : ByteArray := prog_3_method_13_code
noncomputable def yX1_setForms : MethodName := ⟨RX1, "setForms", "()J"⟩
noncomputable abbrev cX1_endForms : ByteArray := prog_3_method_14_code
noncomputable def yX1_endForms : MethodName := ⟨RX1, "endForms", "()J"⟩
noncomputable abbrev cX1_weighCompleted : ByteArray := prog_3_method_15_code
noncomputable def yX1_weighCompleted : MethodName := ⟨RX1, "weighCompleted", "(JI)V"⟩
noncomputable abbrev cX1_isHidden : ByteArray := prog_3_method_16_code
noncomputable def yX1_isHidden : MethodName := ⟨RX1, "isHidden", "(II)Z"⟩
noncomputable abbrev cX1_fuOf : ByteArray := prog_3_method_17_code
noncomputable def yX1_fuOf : MethodName := ⟨RX1, "fuOf", "(IZ)I"⟩
noncomputable abbrev cX1_pairFu : ByteArray := prog_3_method_18_code
noncomputable def yX1_pairFu : MethodName := ⟨RX1, "pairFu", "()I"⟩
noncomputable abbrev cX1_waitFu : ByteArray := prog_3_method_19_code
noncomputable def yX1_waitFu : MethodName := ⟨RX1, "waitFu", "(I)I"⟩
noncomputable abbrev cX1_offer : ByteArray := prog_3_method_20_code
noncomputable def yX1_offer : MethodName := ⟨RX1, "offer", "(JI)V"⟩
noncomputable abbrev cX1_isBetter : ByteArray := prog_3_method_21_code
noncomputable def yX1_isBetter : MethodName := ⟨RX1, "isBetter", "(IIIJ)Z"⟩
noncomputable def RX2 : String := "TileHouse$Seat"
noncomputable def TX2 : u_T := fun k => match k with
  | 0 => ("TileHouse$Seat", "tiles", "LTileHouse$Tiles;", true)
  | 1 => ("TileHouse$Seat", "thrown", "[I", true)
  | 2 => ("TileHouse$Seat", "discards", "I", false)
  | 3 => ("TileHouse$Seat", "thrownKinds", "J", false)
  | 4 => ("TileHouse$Seat", "points", "I", false)
  | 5 => ("TileHouse$Seat", "bet", "I", false)
  | 6 => ("TileHouse$Seat", "owes", "Z", false)
  | 7 => ("TileHouse$Seat", "atOnce", "Z", false)
  | 8 => ("TileHouse$Seat", "letGo", "Z", false)
  | _ => ("TileHouse$Seat", "says", "Z", false)
noncomputable def tyX2 : Nat → FieldType := fun k => match k with
  | 0 => .object "TileHouse$Tiles"
  | 1 => .array .int
  | 2 => .int
  | 3 => .long
  | 4 => .int
  | 5 => .int
  | 6 => .boolean
  | 7 => .boolean
  | 8 => .boolean
  | _ => .boolean
noncomputable abbrev wsX20 : List Cond := u_ws RX2 TX2 10
theorem nmX2 : ∀ a, a < 10 → ∀ b, b < 10 → a ≠ b → (TX2 a).2.1 ≠ (TX2 b).2.1 := by decide +kernel
theorem tyX2_ok : ∀ k, k < 10 → parseFieldDescriptor (TX2 k).2.2.1 = some (tyX2 k) := by decide +kernel
noncomputable abbrev cX2_init : ByteArray := prog_4_method_1_code
noncomputable def yX2_init : MethodName := ⟨RX2, "<init>", "()V"⟩
noncomputable abbrev cX2_startHand : ByteArray := prog_4_method_2_code
noncomputable def yX2_startHand : MethodName := ⟨RX2, "startHand", "()V"⟩
noncomputable abbrev cX2_throwTile : ByteArray := prog_4_method_3_code
noncomputable def yX2_throwTile : MethodName := ⟨RX2, "throwTile", "(I)V"⟩
noncomputable abbrev cX2_thrown : ByteArray := prog_4_method_4_code
noncomputable def yX2_thrown : MethodName := ⟨RX2, "thrown", "(I)I"⟩
noncomputable def RX3 : String := "TileHouse$Tiles"
noncomputable def TX3 : u_T := fun k => match k with
  | 0 => ("TileHouse$Tiles", "free", "[I", true)
  | 1 => ("TileHouse$Tiles", "all", "[I", true)
  | 2 => ("TileHouse$Tiles", "sort", "[I", true)
  | 3 => ("TileHouse$Tiles", "low", "[I", true)
  | 4 => ("TileHouse$Tiles", "laidDown", "I", false)
  | _ => ("TileHouse$Tiles", "loose", "I", false)
noncomputable def tyX3 : Nat → FieldType := fun k => match k with
  | 0 => .array .int
  | 1 => .array .int
  | 2 => .array .int
  | 3 => .array .int
  | 4 => .int
  | _ => .int
noncomputable abbrev wsX30 : List Cond := u_ws RX3 TX3 6
theorem nmX3 : ∀ a, a < 6 → ∀ b, b < 6 → a ≠ b → (TX3 a).2.1 ≠ (TX3 b).2.1 := by decide +kernel
theorem tyX3_ok : ∀ k, k < 6 → parseFieldDescriptor (TX3 k).2.2.1 = some (tyX3 k) := by decide +kernel
noncomputable abbrev cX3_init : ByteArray := prog_5_method_1_code
noncomputable def yX3_init : MethodName := ⟨RX3, "<init>", "()V"⟩
noncomputable abbrev cX3_empty : ByteArray := prog_5_method_2_code
noncomputable def yX3_empty : MethodName := ⟨RX3, "empty", "()V"⟩
noncomputable abbrev cX3_free : ByteArray := prog_5_method_3_code
noncomputable def yX3_free : MethodName := ⟨RX3, "free", "(I)I"⟩
noncomputable abbrev cX3_all : ByteArray := prog_5_method_4_code
noncomputable def yX3_all : MethodName := ⟨RX3, "all", "(I)I"⟩
noncomputable abbrev cX3_size : ByteArray := prog_5_method_5_code
noncomputable def yX3_size : MethodName := ⟨RX3, "size", "()I"⟩
noncomputable abbrev cX3_kinds : ByteArray := prog_5_method_6_code
noncomputable def yX3_kinds : MethodName := ⟨RX3, "kinds", "()J"⟩
noncomputable abbrev cX3_isOpen : ByteArray := prog_5_method_7_code
noncomputable def yX3_isOpen : MethodName := ⟨RX3, "isOpen", "()Z"⟩
noncomputable abbrev cX3_put : ByteArray := prog_5_method_8_code
noncomputable def yX3_put : MethodName := ⟨RX3, "put", "(II)V"⟩
noncomputable abbrev cX3_take : ByteArray := prog_5_method_9_code
noncomputable def yX3_take : MethodName := ⟨RX3, "take", "(II)V"⟩
noncomputable abbrev cX3_layDown : ByteArray := prog_5_method_10_code
noncomputable def yX3_layDown : MethodName := ⟨RX3, "layDown", "(II)V"⟩
noncomputable abbrev cX3_addToThree : ByteArray := prog_5_method_11_code
noncomputable def yX3_addToThree : MethodName := ⟨RX3, "addToThree", "(I)Z"⟩
noncomputable abbrev cX3_waiting : ByteArray := prog_5_method_12_code
noncomputable def yX3_waiting : MethodName := ⟨RX3, "waiting", "()J"⟩
noncomputable abbrev cX3_waitsFor : ByteArray := prog_5_method_13_code
noncomputable def yX3_waitsFor : MethodName := ⟨RX3, "waitsFor", "(I)Z"⟩
noncomputable abbrev cX3_isSevenPairs : ByteArray := prog_5_method_14_code
noncomputable def yX3_isSevenPairs : MethodName := ⟨RX3, "isSevenPairs", "()Z"⟩
noncomputable abbrev cX3_isThirteen : ByteArray := prog_5_method_15_code
noncomputable def yX3_isThirteen : MethodName := ⟨RX3, "isThirteen", "()Z"⟩
noncomputable abbrev cX3_isSetsAndPair : ByteArray := prog_5_method_16_code
noncomputable def yX3_isSetsAndPair : MethodName := ⟨RX3, "isSetsAndPair", "()Z"⟩
noncomputable abbrev cX3_splitsBeside : ByteArray := prog_5_method_17_code
noncomputable def yX3_splitsBeside : MethodName := ⟨RX3, "splitsBeside", "(I)Z"⟩
noncomputable def RX4 : String := "TileHouse$Wall"
noncomputable def TX4 : u_T := fun k => match k with
  | 0 => ("TileHouse$Wall", "kinds", "[I", true)
  | 1 => ("TileHouse$Wall", "stands", "Z", false)
  | 2 => ("TileHouse$Wall", "next", "I", false)
  | _ => ("TileHouse$Wall", "fours", "I", false)
noncomputable def tyX4 : Nat → FieldType := fun k => match k with
  | 0 => .array .int
  | 1 => .boolean
  | 2 => .int
  | _ => .int
noncomputable abbrev wsX40 : List Cond := u_ws RX4 TX4 4
theorem nmX4 : ∀ a, a < 4 → ∀ b, b < 4 → a ≠ b → (TX4 a).2.1 ≠ (TX4 b).2.1 := by decide +kernel
theorem tyX4_ok : ∀ k, k < 4 → parseFieldDescriptor (TX4 k).2.2.1 = some (tyX4 k) := by decide +kernel
noncomputable abbrev cX4_init : ByteArray := prog_6_method_1_code
noncomputable def yX4_init : MethodName := ⟨RX4, "<init>", "()V"⟩
noncomputable abbrev cX4_build : ByteArray := prog_6_method_2_code
noncomputable def yX4_build : MethodName := ⟨RX4, "build", "(J)V"⟩
noncomputable abbrev cX4_kindAt : ByteArray := prog_6_method_3_code
noncomputable def yX4_kindAt : MethodName := ⟨RX4, "kindAt", "(I)I"⟩
noncomputable abbrev cX4_left : ByteArray := prog_6_method_4_code
noncomputable def yX4_left : MethodName := ⟨RX4, "left", "()I"⟩
noncomputable abbrev cX4_signs : ByteArray := prog_6_method_5_code
noncomputable def yX4_signs : MethodName := ⟨RX4, "signs", "()I"⟩
noncomputable abbrev cX4_draw : ByteArray := prog_6_method_6_code
noncomputable def yX4_draw : MethodName := ⟨RX4, "draw", "()I"⟩
noncomputable abbrev cX4_drawBehindFour : ByteArray := prog_6_method_7_code
noncomputable def yX4_drawBehindFour : MethodName := ⟨RX4, "drawBehindFour", "()I"⟩
noncomputable abbrev cX4_dearTiles : ByteArray := prog_6_method_8_code
noncomputable def yX4_dearTiles : MethodName := ⟨RX4, "dearTiles", "(LTileHouse$Tiles;Z)I"⟩
noncomputable abbrev cX4_behind : ByteArray := prog_6_method_9_code
noncomputable def yX4_behind : MethodName := ⟨RX4, "behind", "(I)I"⟩
noncomputable def RX5 : String := "TileHouse$Win"
noncomputable def TX5 : u_T := fun k => match k with
  | 0 => ("TileHouse$Win", "seat", "I", false)
  | 1 => ("TileHouse$Win", "payer", "I", false)
  | 2 => ("TileHouse$Win", "base", "I", false)
  | 3 => ("TileHouse$Win", "han", "I", false)
  | 4 => ("TileHouse$Win", "fu", "I", false)
  | 5 => ("TileHouse$Win", "got", "I", false)
  | 6 => ("TileHouse$Win", "kind", "I", false)
  | _ => ("TileHouse$Win", "made", "J", false)
noncomputable def tyX5 : Nat → FieldType := fun k => match k with
  | 0 => .int
  | 1 => .int
  | 2 => .int
  | 3 => .int
  | 4 => .int
  | 5 => .int
  | 6 => .int
  | _ => .long
noncomputable abbrev wsX50 : List Cond := u_ws RX5 TX5 8
theorem nmX5 : ∀ a, a < 8 → ∀ b, b < 8 → a ≠ b → (TX5 a).2.1 ≠ (TX5 b).2.1 := by decide +kernel
theorem tyX5_ok : ∀ k, k < 8 → parseFieldDescriptor (TX5 k).2.2.1 = some (tyX5 k) := by decide +kernel
noncomputable abbrev cX5_init : ByteArray := prog_7_method_1_code
noncomputable def yX5_init : MethodName := ⟨RX5, "<init>", "()V"⟩
noncomputable abbrev cX5_part : ByteArray := prog_7_method_2_code
noncomputable def yX5_part : MethodName := ⟨RX5, "part", "(I)I"⟩
noncomputable def RX6 : String := "TileHouse"
noncomputable def TX6 : u_T := fun k => match k with
  | 0 => ("TileHouse", "players", "[LTileHouse$Seat;", true)
  | 1 => ("TileHouse", "bricks", "LTileHouse$Wall;", true)
  | 2 => ("TileHouse", "judge", "LTileHouse$Judge;", true)
  | 3 => ("TileHouse", "wins", "[LTileHouse$Win;", true)
  | 4 => ("TileHouse", "deskTiles", "LTileHouse$Tiles;", true)
  | 5 => ("TileHouse", "deskJudge", "LTileHouse$Judge;", true)
  | 6 => ("TileHouse", "winCount", "I", false)
  | 7 => ("TileHouse", "phase", "I", false)
  | 8 => ("TileHouse", "turn", "I", false)
  | 9 => ("TileHouse", "dealer", "I", false)
  | 10 => ("TileHouse", "round", "I", false)
  | 11 => ("TileHouse", "stays", "I", false)
  | 12 => ("TileHouse", "bets", "I", false)
  | 13 => ("TileHouse", "ended", "Z", false)
  | 14 => ("TileHouse", "handsEnded", "I", false)
  | 15 => ("TileHouse", "tile", "I", false)
  | 16 => ("TileHouse", "behindFour", "Z", false)
  | 17 => ("TileHouse", "broken", "Z", false)
  | _ => ("TileHouse", "barred", "J", false)
noncomputable def tyX6 : Nat → FieldType := fun k => match k with
  | 0 => .array (.object "TileHouse$Seat")
  | 1 => .object "TileHouse$Wall"
  | 2 => .object "TileHouse$Judge"
  | 3 => .array (.object "TileHouse$Win")
  | 4 => .object "TileHouse$Tiles"
  | 5 => .object "TileHouse$Judge"
  | 6 => .int
  | 7 => .int
  | 8 => .int
  | 9 => .int
  | 10 => .int
  | 11 => .int
  | 12 => .int
  | 13 => .boolean
  | 14 => .int
  | 15 => .int
  | 16 => .boolean
  | 17 => .boolean
  | _ => .long
noncomputable abbrev wsX60 : List Cond := u_ws RX6 TX6 19
theorem nmX6 : ∀ a, a < 19 → ∀ b, b < 19 → a ≠ b → (TX6 a).2.1 ≠ (TX6 b).2.1 := by decide +kernel
theorem tyX6_ok : ∀ k, k < 19 → parseFieldDescriptor (TX6 k).2.2.1 = some (tyX6 k) := by decide +kernel
noncomputable abbrev cX6_init : ByteArray := prog_1_method_1_code
noncomputable def yX6_init : MethodName := ⟨RX6, "<init>", "()V"⟩
noncomputable abbrev cX6_deal : ByteArray := prog_1_method_2_code
noncomputable def yX6_deal : MethodName := ⟨RX6, "deal", "(J)Z"⟩
noncomputable abbrev cX6_discard : ByteArray := prog_1_method_3_code
noncomputable def yX6_discard : MethodName := ⟨RX6, "discard", "(IZ)Z"⟩
noncomputable abbrev cX6_pass : ByteArray := prog_1_method_4_code
noncomputable def yX6_pass : MethodName := ⟨RX6, "pass", "()Z"⟩
noncomputable abbrev cX6_run : ByteArray := prog_1_method_5_code
noncomputable def yX6_run : MethodName := ⟨RX6, "run", "(II)Z"⟩
noncomputable abbrev cX6_three : ByteArray := prog_1_method_6_code
noncomputable def yX6_three : MethodName := ⟨RX6, "three", "(I)Z"⟩
noncomputable abbrev cX6_four : ByteArray := prog_1_method_7_code
noncomputable def yX6_four : MethodName := ⟨RX6, "four", "(I)Z"⟩
noncomputable abbrev cX6_hide : ByteArray := prog_1_method_8_code
noncomputable def yX6_hide : MethodName := ⟨RX6, "hide", "(I)Z"⟩
noncomputable abbrev cX6_add : ByteArray := prog_1_method_9_code
noncomputable def yX6_add : MethodName := ⟨RX6, "add", "(I)Z"⟩
noncomputable abbrev cX6_win : ByteArray := prog_1_method_10_code
noncomputable def yX6_win : MethodName := ⟨RX6, "win", "()Z"⟩
noncomputable abbrev cX6_claim : ByteArray := prog_1_method_11_code
noncomputable def yX6_claim : MethodName := ⟨RX6, "claim", "(I)Z"⟩
noncomputable abbrev cX6_nine : ByteArray := prog_1_method_12_code
noncomputable def yX6_nine : MethodName := ⟨RX6, "nine", "()Z"⟩
noncomputable abbrev cX6_hand : ByteArray := prog_1_method_13_code
noncomputable def yX6_hand : MethodName := ⟨RX6, "hand", "(II)I"⟩
noncomputable abbrev cX6_laid : ByteArray := prog_1_method_14_code
noncomputable def yX6_laid : MethodName := ⟨RX6, "laid", "(III)I"⟩
noncomputable abbrev cX6_river : ByteArray := prog_1_method_15_code
noncomputable def yX6_river : MethodName := ⟨RX6, "river", "(II)I"⟩
noncomputable abbrev cX6_waits : ByteArray := prog_1_method_16_code
noncomputable def yX6_waits : MethodName := ⟨RX6, "waits", "(I)J"⟩
noncomputable abbrev cX6_seat : ByteArray := prog_1_method_17_code
noncomputable def yX6_seat : MethodName := ⟨RX6, "seat", "(II)I"⟩
noncomputable abbrev cX6_won : ByteArray := prog_1_method_18_code
noncomputable def yX6_won : MethodName := ⟨RX6, "won", "(II)I"⟩
noncomputable abbrev cX6_forms : ByteArray := prog_1_method_19_code
noncomputable def yX6_forms : MethodName := ⟨RX6, "forms", "(I)J"⟩
noncomputable abbrev cX6_count : ByteArray := prog_1_method_20_code
noncomputable def yX6_count : MethodName := ⟨RX6, "count", "(I)I"⟩
noncomputable abbrev cX6_wall : ByteArray := prog_1_method_21_code
noncomputable def yX6_wall : MethodName := ⟨RX6, "wall", "(I)I"⟩
noncomputable abbrev cX6_clear : ByteArray := prog_1_method_22_code
noncomputable def yX6_clear : MethodName := ⟨RX6, "clear", "()V"⟩
noncomputable abbrev cX6_lay : ByteArray := prog_1_method_23_code
noncomputable def yX6_lay : MethodName := ⟨RX6, "lay", "(II)Z"⟩
noncomputable abbrev cX6_set : ByteArray := prog_1_method_24_code
noncomputable def yX6_set : MethodName := ⟨RX6, "set", "(II)Z"⟩
noncomputable abbrev cX6_worth : ByteArray := prog_1_method_25_code
noncomputable def yX6_worth : MethodName := ⟨RX6, "worth", "(IZJII)I"⟩
noncomputable abbrev cX6_desk : ByteArray := prog_1_method_26_code
noncomputable def yX6_desk : MethodName := ⟨RX6, "desk", "(I)I"⟩
noncomputable abbrev cX6_deskForms : ByteArray := prog_1_method_27_code
noncomputable def yX6_deskForms : MethodName := ⟨RX6, "deskForms", "()J"⟩
noncomputable abbrev cX6_deskWaits : ByteArray := prog_1_method_28_code
noncomputable def yX6_deskWaits : MethodName := ⟨RX6, "deskWaits", "()J"⟩
noncomputable abbrev cX6_isSeat : ByteArray := prog_1_method_29_code
noncomputable def yX6_isSeat : MethodName := ⟨RX6, "isSeat", "(I)Z"⟩
noncomputable abbrev cX6_isKind : ByteArray := prog_1_method_30_code
noncomputable def yX6_isKind : MethodName := ⟨RX6, "isKind", "(I)Z"⟩
noncomputable abbrev cX6_startsRun : ByteArray := prog_1_method_31_code
noncomputable def yX6_startsRun : MethodName := ⟨RX6, "startsRun", "(I)Z"⟩
noncomputable abbrev cX6_holds : ByteArray := prog_1_method_32_code
noncomputable def yX6_holds : MethodName := ⟨RX6, "holds", "(JI)Z"⟩
noncomputable abbrev cX6_tilesOfEach : ByteArray := prog_1_method_33_code
noncomputable def yX6_tilesOfEach : MethodName := ⟨RX6, "tilesOfEach", "(I)I"⟩
noncomputable abbrev cX6_hundreds : ByteArray := prog_1_method_34_code
noncomputable def yX6_hundreds : MethodName := ⟨RX6, "hundreds", "(I)I"⟩
noncomputable abbrev cX6_isWin : ByteArray := prog_1_method_35_code
noncomputable def yX6_isWin : MethodName := ⟨RX6, "isWin", "(I)Z"⟩
noncomputable abbrev cX6_at : ByteArray := prog_1_method_36_code
noncomputable def yX6_at : MethodName := ⟨RX6, "at", "(I)LTileHouse$Seat;"⟩
noncomputable abbrev cX6_windOf : ByteArray := prog_1_method_37_code
noncomputable def yX6_windOf : MethodName := ⟨RX6, "windOf", "(I)I"⟩
noncomputable abbrev cX6_drawTile : ByteArray := prog_1_method_38_code
noncomputable def yX6_drawTile : MethodName := ⟨RX6, "drawTile", "(IZ)V"⟩
noncomputable abbrev cX6_mayThrow : ByteArray := prog_1_method_39_code
noncomputable def yX6_mayThrow : MethodName := ⟨RX6, "mayThrow", "(I)Z"⟩
noncomputable abbrev cX6_mayBet : ByteArray := prog_1_method_40_code
noncomputable def yX6_mayBet : MethodName := ⟨RX6, "mayBet", "(LTileHouse$Seat;)Z"⟩
noncomputable abbrev cX6_someoneSays : ByteArray := prog_1_method_41_code
noncomputable def yX6_someoneSays : MethodName := ⟨RX6, "someoneSays", "()Z"⟩
noncomputable abbrev cX6_mayClaimSet : ByteArray := prog_1_method_42_code
noncomputable def yX6_mayClaimSet : MethodName := ⟨RX6, "mayClaimSet", "(I)Z"⟩
noncomputable abbrev cX6_otherEnd : ByteArray := prog_1_method_43_code
noncomputable def yX6_otherEnd : MethodName := ⟨RX6, "otherEnd", "(I)J"⟩
noncomputable abbrev cX6_keepsOther : ByteArray := prog_1_method_44_code
noncomputable def yX6_keepsOther : MethodName := ⟨RX6, "keepsOther", "(LTileHouse$Tiles;JJ)Z"⟩
noncomputable abbrev cX6_takeSet : ByteArray := prog_1_method_45_code
noncomputable def yX6_takeSet : MethodName := ⟨RX6, "takeSet", "(III)V"⟩
noncomputable abbrev cX6_letTileGo : ByteArray := prog_1_method_46_code
noncomputable def yX6_letTileGo : MethodName := ⟨RX6, "letTileGo", "()V"⟩
noncomputable abbrev cX6_breakHand : ByteArray := prog_1_method_47_code
noncomputable def yX6_breakHand : MethodName := ⟨RX6, "breakHand", "()V"⟩
noncomputable abbrev cX6_mayMakeFour : ByteArray := prog_1_method_48_code
noncomputable def yX6_mayMakeFour : MethodName := ⟨RX6, "mayMakeFour", "()Z"⟩
noncomputable abbrev cX6_makeFour : ByteArray := prog_1_method_49_code
noncomputable def yX6_makeFour : MethodName := ⟨RX6, "makeFour", "(I)V"⟩
noncomputable abbrev cX6_weighHand : ByteArray := prog_1_method_50_code
noncomputable def yX6_weighHand : MethodName := ⟨RX6, "weighHand", "(IZ)I"⟩
noncomputable abbrev cX6_toldForms : ByteArray := prog_1_method_51_code
noncomputable def yX6_toldForms : MethodName := ⟨RX6, "toldForms", "(LTileHouse$Seat;Z)J"⟩
noncomputable abbrev cX6_firstDraw : ByteArray := prog_1_method_52_code
noncomputable def yX6_firstDraw : MethodName := ⟨RX6, "firstDraw", "(IZ)J"⟩
noncomputable abbrev cX6_winByTile : ByteArray := prog_1_method_53_code
noncomputable def yX6_winByTile : MethodName := ⟨RX6, "winByTile", "()V"⟩
noncomputable abbrev cX6_recordWin : ByteArray := prog_1_method_54_code
noncomputable def yX6_recordWin : MethodName := ⟨RX6, "recordWin", "(III)V"⟩
noncomputable abbrev cX6_endUnwon : ByteArray := prog_1_method_55_code
noncomputable def yX6_endUnwon : MethodName := ⟨RX6, "endUnwon", "()V"⟩
noncomputable abbrev cX6_endHand : ByteArray := prog_1_method_56_code
noncomputable def yX6_endHand : MethodName := ⟨RX6, "endHand", "(ZZ)V"⟩
noncomputable abbrev cX6_someoneIsBroke : ByteArray := prog_1_method_57_code
noncomputable def yX6_someoneIsBroke : MethodName := ⟨RX6, "someoneIsBroke", "()Z"⟩
noncomputable abbrev cX6_richest : ByteArray := prog_1_method_58_code
noncomputable def yX6_richest : MethodName := ⟨RX6, "richest", "()I"⟩
noncomputable def RX7 : String := "TileHouseModel"
noncomputable def TX7 : u_T := fun k => match k with
  | 0 => ("TileHouseModel", "thrown", "I", false)
  | 1 => ("TileHouseModel", "in", "[I", true)
  | 2 => ("TileHouseModel", "sorts", "[I", true)
  | 3 => ("TileHouseModel", "lows", "[I", true)
  | 4 => ("TileHouseModel", "laidMany", "I", false)
  | 5 => ("TileHouseModel", "waySort", "[I", true)
  | 6 => ("TileHouseModel", "wayLow", "[I", true)
  | 7 => ("TileHouseModel", "winner", "I", false)
  | 8 => ("TileHouseModel", "seatWind", "I", false)
  | 9 => ("TileHouseModel", "roundWind", "I", false)
  | 10 => ("TileHouseModel", "dear", "I", false)
  | 11 => ("TileHouseModel", "drawn", "Z", false)
  | 12 => ("TileHouseModel", "told", "J", false)
  | 13 => ("TileHouseModel", "bestBase", "I", false)
  | 14 => ("TileHouseModel", "bestHan", "I", false)
  | 15 => ("TileHouseModel", "bestFu", "I", false)
  | 16 => ("TileHouseModel", "ways", "I", false)
  | 17 => ("TileHouseModel", "bestForms", "J", false)
  | 18 => ("TileHouseModel", "isFull", "Z", false)
  | 19 => ("TileHouseModel", "allSort", "[I", true)
  | 20 => ("TileHouseModel", "allLow", "[I", true)
  | 21 => ("TileHouseModel", "pairKind", "I", false)
  | 22 => ("TileHouseModel", "completes", "I", false)
  | 23 => ("TileHouseModel", "fu", "I", false)
  | 24 => ("TileHouseModel", "great", "J", false)
  | 25 => ("TileHouseModel", "plain", "J", false)
  | 26 => ("TileHouseModel", "whole", "[I", true)
  | 27 => ("TileHouseModel", "wall", "[I", true)
  | 28 => ("TileHouseModel", "hands", "[I", true)
  | 29 => ("TileHouseModel", "points", "[I", true)
  | 30 => ("TileHouseModel", "setSort", "[I", true)
  | 31 => ("TileHouseModel", "setKind", "[I", true)
  | 32 => ("TileHouseModel", "setMany", "[I", true)
  | 33 => ("TileHouseModel", "rivers", "[I", true)
  | 34 => ("TileHouseModel", "riverMany", "[I", true)
  | 35 => ("TileHouseModel", "bet", "[I", true)
  | 36 => ("TileHouseModel", "draws", "[I", true)
  | 37 => ("TileHouseModel", "atOnce", "[Z", true)
  | 38 => ("TileHouseModel", "letGo", "[Z", true)
  | 39 => ("TileHouseModel", "says", "[Z", true)
  | 40 => ("TileHouseModel", "dealer", "I", false)
  | 41 => ("TileHouseModel", "round", "I", false)
  | 42 => ("TileHouseModel", "stays", "I", false)
  | 43 => ("TileHouseModel", "bets", "I", false)
  | 44 => ("TileHouseModel", "phase", "I", false)
  | 45 => ("TileHouseModel", "turn", "I", false)
  | 46 => ("TileHouseModel", "next", "I", false)
  | 47 => ("TileHouseModel", "fours", "I", false)
  | 48 => ("TileHouseModel", "backs", "I", false)
  | 49 => ("TileHouseModel", "tile", "I", false)
  | 50 => ("TileHouseModel", "banned", "I", false)
  | 51 => ("TileHouseModel", "alsoBanned", "I", false)
  | 52 => ("TileHouseModel", "handsEnded", "I", false)
  | 53 => ("TileHouseModel", "wins", "I", false)
  | 54 => ("TileHouseModel", "ended", "Z", false)
  | 55 => ("TileHouseModel", "isDealt", "Z", false)
  | 56 => ("TileHouseModel", "untouched", "Z", false)
  | 57 => ("TileHouseModel", "justClaimed", "Z", false)
  | 58 => ("TileHouseModel", "behindFour", "Z", false)
  | 59 => ("TileHouseModel", "betWaits", "Z", false)
  | 60 => ("TileHouseModel", "won", "[I", true)
  | 61 => ("TileHouseModel", "wonForms", "[J", true)
  | 62 => ("TileHouseModel", "deskIn", "[I", true)
  | 63 => ("TileHouseModel", "deskSort", "[I", true)
  | 64 => ("TileHouseModel", "deskKind", "[I", true)
  | 65 => ("TileHouseModel", "told4", "[I", true)
  | 66 => ("TileHouseModel", "deskSets", "I", false)
  | _ => ("TileHouseModel", "toldForms", "J", false)
noncomputable def tyX7 : Nat → FieldType := fun k => match k with
  | 0 => .int
  | 1 => .array .int
  | 2 => .array .int
  | 3 => .array .int
  | 4 => .int
  | 5 => .array .int
  | 6 => .array .int
  | 7 => .int
  | 8 => .int
  | 9 => .int
  | 10 => .int
  | 11 => .boolean
  | 12 => .long
  | 13 => .int
  | 14 => .int
  | 15 => .int
  | 16 => .int
  | 17 => .long
  | 18 => .boolean
  | 19 => .array .int
  | 20 => .array .int
  | 21 => .int
  | 22 => .int
  | 23 => .int
  | 24 => .long
  | 25 => .long
  | 26 => .array .int
  | 27 => .array .int
  | 28 => .array .int
  | 29 => .array .int
  | 30 => .array .int
  | 31 => .array .int
  | 32 => .array .int
  | 33 => .array .int
  | 34 => .array .int
  | 35 => .array .int
  | 36 => .array .int
  | 37 => .array .boolean
  | 38 => .array .boolean
  | 39 => .array .boolean
  | 40 => .int
  | 41 => .int
  | 42 => .int
  | 43 => .int
  | 44 => .int
  | 45 => .int
  | 46 => .int
  | 47 => .int
  | 48 => .int
  | 49 => .int
  | 50 => .int
  | 51 => .int
  | 52 => .int
  | 53 => .int
  | 54 => .boolean
  | 55 => .boolean
  | 56 => .boolean
  | 57 => .boolean
  | 58 => .boolean
  | 59 => .boolean
  | 60 => .array .int
  | 61 => .array .long
  | 62 => .array .int
  | 63 => .array .int
  | 64 => .array .int
  | 65 => .array .int
  | 66 => .int
  | _ => .long
noncomputable abbrev wsX70 : List Cond := u_ws RX7 TX7 68
theorem nmX7 : ∀ a, a < 68 → ∀ b, b < 68 → a ≠ b → (TX7 a).2.1 ≠ (TX7 b).2.1 := by decide +kernel
theorem tyX7_ok : ∀ k, k < 68 → parseFieldDescriptor (TX7 k).2.2.1 = some (tyX7 k) := by decide +kernel
noncomputable abbrev cX7_init : ByteArray := prog_9_method_1_code
noncomputable def yX7_init : MethodName := ⟨RX7, "<init>", "()V"⟩
noncomputable abbrev cX7_isKind : ByteArray := prog_9_method_3_code
noncomputable def yX7_isKind : MethodName := ⟨RX7, "isKind", "(I)Z"⟩
noncomputable abbrev cX7_isHonour : ByteArray := prog_9_method_4_code
noncomputable def yX7_isHonour : MethodName := ⟨RX7, "isHonour", "(I)Z"⟩
noncomputable abbrev cX7_isDragon : ByteArray := prog_9_method_5_code
noncomputable def yX7_isDragon : MethodName := ⟨RX7, "isDragon", "(I)Z"⟩
noncomputable abbrev cX7_isTerminal : ByteArray := prog_9_method_6_code
noncomputable def yX7_isTerminal : MethodName := ⟨RX7, "isTerminal", "(I)Z"⟩
noncomputable abbrev cX7_isEnd : ByteArray := prog_9_method_7_code
noncomputable def yX7_isEnd : MethodName := ⟨RX7, "isEnd", "(I)Z"⟩
noncomputable abbrev cX7_isRun : ByteArray := prog_9_method_8_code
noncomputable def yX7_isRun : MethodName := ⟨RX7, "isRun", "(I)Z"⟩
noncomputable abbrev cX7_inHand : ByteArray := prog_9_method_9_code
noncomputable def yX7_inHand : MethodName := ⟨RX7, "inHand", "()I"⟩
noncomputable abbrev cX7_apart : ByteArray := prog_9_method_10_code
noncomputable def yX7_apart : MethodName := ⟨RX7, "apart", "(Z)V"⟩
noncomputable abbrev cX7_sets : ByteArray := prog_9_method_11_code
noncomputable def yX7_sets : MethodName := ⟨RX7, "sets", "(IIIZ)V"⟩
noncomputable abbrev cX7_has : ByteArray := prog_9_method_12_code
noncomputable def yX7_has : MethodName := ⟨RX7, "has", "(III)Z"⟩
noncomputable abbrev cX7_way : ByteArray := prog_9_method_13_code
noncomputable def yX7_way : MethodName := ⟨RX7, "way", "(I)V"⟩
noncomputable abbrev cX7_isOpen : ByteArray := prog_9_method_14_code
noncomputable def yX7_isOpen : MethodName := ⟨RX7, "isOpen", "()Z"⟩
noncomputable abbrev cX7_bit : ByteArray := prog_9_method_15_code
noncomputable def yX7_bit : MethodName := ⟨RX7, "bit", "(I)J"⟩
noncomputable abbrev cX7_isHidden : ByteArray := prog_9_method_16_code
noncomputable def yX7_isHidden : MethodName := ⟨RX7, "isHidden", "(I)Z"⟩
noncomputable abbrev cX7_hasThree : ByteArray := prog_9_method_17_code
noncomputable def yX7_hasThree : MethodName := ⟨RX7, "hasThree", "(I)Z"⟩
noncomputable abbrev cX7_hasRun : ByteArray := prog_9_method_18_code
noncomputable def yX7_hasRun : MethodName := ⟨RX7, "hasRun", "(I)Z"⟩
noncomputable abbrev cX7_firstSort : ByteArray := prog_9_method_19_code
noncomputable def yX7_firstSort : MethodName := ⟨RX7, "firstSort", "()V"⟩
noncomputable abbrev cX7_twins : ByteArray := prog_9_method_20_code
noncomputable def yX7_twins : MethodName := ⟨RX7, "twins", "()V"⟩
noncomputable abbrev cX7_edges : ByteArray := prog_9_method_21_code
noncomputable def yX7_edges : MethodName := ⟨RX7, "edges", "(I)V"⟩
noncomputable abbrev cX7_of : ByteArray := prog_9_method_22_code
noncomputable def yX7_of : MethodName := ⟨RX7, "of", "(I)I"⟩
noncomputable abbrev cX7_tiles : ByteArray := prog_9_method_23_code
noncomputable def yX7_tiles : MethodName := ⟨RX7, "tiles", "()V"⟩
noncomputable abbrev cX7_pairsWay : ByteArray := prog_9_method_24_code
noncomputable def yX7_pairsWay : MethodName := ⟨RX7, "pairsWay", "()V"⟩
noncomputable abbrev cX7_thirteen : ByteArray := prog_9_method_25_code
noncomputable def yX7_thirteen : MethodName := ⟨RX7, "thirteen", "()V"⟩
noncomputable abbrev cX7_han : ByteArray := prog_9_method_26_code
noncomputable def yX7_han : MethodName := ⟨RX7, "han", "(IZ)I"⟩
noncomputable abbrev cX7_compare : ByteArray := prog_9_method_27_code
noncomputable def yX7_compare : MethodName := ⟨RX7, "compare", "(Z)V"⟩
noncomputable abbrev cX7_reckon : ByteArray := prog_9_method_28_code
noncomputable def yX7_reckon : MethodName := ⟨RX7, "reckon", "(IZJIII)V"⟩
noncomputable abbrev cX7_waitsOf : ByteArray := prog_9_method_29_code
noncomputable def yX7_waitsOf : MethodName := ⟨RX7, "waitsOf", "()J"⟩
noncomputable abbrev cX7_isSeat : ByteArray := prog_9_method_30_code
noncomputable def yX7_isSeat : MethodName := ⟨RX7, "isSeat", "(I)Z"⟩
noncomputable abbrev cX7_has_ : ByteArray := prog_9_method_31_code
noncomputable def yX7_has_ : MethodName := ⟨RX7, "has", "(II)I"⟩
noncomputable abbrev cX7_gives : ByteArray := prog_9_method_32_code
noncomputable def yX7_gives : MethodName := ⟨RX7, "gives", "(III)V"⟩
noncomputable abbrev cX7_left : ByteArray := prog_9_method_33_code
noncomputable def yX7_left : MethodName := ⟨RX7, "left", "()I"⟩
noncomputable abbrev cX7_isOpen_ : ByteArray := prog_9_method_34_code
noncomputable def yX7_isOpen_ : MethodName := ⟨RX7, "isOpen", "(I)Z"⟩
noncomputable abbrev cX7_take : ByteArray := prog_9_method_35_code
noncomputable def yX7_take : MethodName := ⟨RX7, "take", "(I)V"⟩
noncomputable abbrev cX7_waitsAt : ByteArray := prog_9_method_36_code
noncomputable def yX7_waitsAt : MethodName := ⟨RX7, "waitsAt", "(I)J"⟩
noncomputable abbrev cX7_windOf : ByteArray := prog_9_method_37_code
noncomputable def yX7_windOf : MethodName := ⟨RX7, "windOf", "(I)I"⟩
noncomputable abbrev cX7_behind : ByteArray := prog_9_method_38_code
noncomputable def yX7_behind : MethodName := ⟨RX7, "behind", "(I)I"⟩
noncomputable abbrev cX7_dearTiles : ByteArray := prog_9_method_39_code
noncomputable def yX7_dearTiles : MethodName := ⟨RX7, "dearTiles", "(Z)I"⟩
noncomputable abbrev cX7_value : ByteArray := prog_9_method_40_code
noncomputable def yX7_value : MethodName := ⟨RX7, "value", "(IIZ)V"⟩
noncomputable abbrev cX7_draws : ByteArray := prog_9_method_41_code
noncomputable def yX7_draws : MethodName := ⟨RX7, "draws", "(IZ)V"⟩
noncomputable abbrev cX7_deal : ByteArray := prog_9_method_42_code
noncomputable def yX7_deal : MethodName := ⟨RX7, "deal", "(J)Z"⟩
noncomputable abbrev cX7_touched : ByteArray := prog_9_method_43_code
noncomputable def yX7_touched : MethodName := ⟨RX7, "touched", "()V"⟩
noncomputable abbrev cX7_discard : ByteArray := prog_9_method_44_code
noncomputable def yX7_discard : MethodName := ⟨RX7, "discard", "(IZ)Z"⟩
noncomputable abbrev cX7_anySays : ByteArray := prog_9_method_45_code
noncomputable def yX7_anySays : MethodName := ⟨RX7, "anySays", "()Z"⟩
noncomputable abbrev cX7_over : ByteArray := prog_9_method_46_code
noncomputable def yX7_over : MethodName := ⟨RX7, "over", "()V"⟩
noncomputable abbrev cX7_pass : ByteArray := prog_9_method_47_code
noncomputable def yX7_pass : MethodName := ⟨RX7, "pass", "()Z"⟩
noncomputable abbrev cX7_mayClaim : ByteArray := prog_9_method_48_code
noncomputable def yX7_mayClaim : MethodName := ⟨RX7, "mayClaim", "(I)Z"⟩
noncomputable abbrev cX7_canDiscard : ByteArray := prog_9_method_49_code
noncomputable def yX7_canDiscard : MethodName := ⟨RX7, "canDiscard", "(I)Z"⟩
noncomputable abbrev cX7_lays : ByteArray := prog_9_method_50_code
noncomputable def yX7_lays : MethodName := ⟨RX7, "lays", "(III)V"⟩
noncomputable abbrev cX7_claims : ByteArray := prog_9_method_51_code
noncomputable def yX7_claims : MethodName := ⟨RX7, "claims", "(III)V"⟩
noncomputable abbrev cX7_run : ByteArray := prog_9_method_52_code
noncomputable def yX7_run : MethodName := ⟨RX7, "run", "(II)Z"⟩
noncomputable abbrev cX7_three : ByteArray := prog_9_method_53_code
noncomputable def yX7_three : MethodName := ⟨RX7, "three", "(I)Z"⟩
noncomputable abbrev cX7_four : ByteArray := prog_9_method_54_code
noncomputable def yX7_four : MethodName := ⟨RX7, "four", "(I)Z"⟩
noncomputable abbrev cX7_mayMake : ByteArray := prog_9_method_55_code
noncomputable def yX7_mayMake : MethodName := ⟨RX7, "mayMake", "()Z"⟩
noncomputable abbrev cX7_hide : ByteArray := prog_9_method_56_code
noncomputable def yX7_hide : MethodName := ⟨RX7, "hide", "(I)Z"⟩
noncomputable abbrev cX7_add : ByteArray := prog_9_method_57_code
noncomputable def yX7_add : MethodName := ⟨RX7, "add", "(I)Z"⟩
noncomputable abbrev cX7_up : ByteArray := prog_9_method_58_code
noncomputable def yX7_up : MethodName := ⟨RX7, "up", "(I)I"⟩
noncomputable abbrev cX7_writes : ByteArray := prog_9_method_59_code
noncomputable def yX7_writes : MethodName := ⟨RX7, "writes", "(IIII)V"⟩
noncomputable abbrev cX7_pays : ByteArray := prog_9_method_60_code
noncomputable def yX7_pays : MethodName := ⟨RX7, "pays", "(III)V"⟩
noncomputable abbrev cX7_takesBets : ByteArray := prog_9_method_61_code
noncomputable def yX7_takesBets : MethodName := ⟨RX7, "takesBets", "()V"⟩
noncomputable abbrev cX7_win : ByteArray := prog_9_method_62_code
noncomputable def yX7_win : MethodName := ⟨RX7, "win", "()Z"⟩
noncomputable abbrev cX7_claim : ByteArray := prog_9_method_63_code
noncomputable def yX7_claim : MethodName := ⟨RX7, "claim", "(I)Z"⟩
noncomputable abbrev cX7_allWin : ByteArray := prog_9_method_64_code
noncomputable def yX7_allWin : MethodName := ⟨RX7, "allWin", "()V"⟩
noncomputable abbrev cX7_nobodyWins : ByteArray := prog_9_method_65_code
noncomputable def yX7_nobodyWins : MethodName := ⟨RX7, "nobodyWins", "()V"⟩
noncomputable abbrev cX7_nine : ByteArray := prog_9_method_66_code
noncomputable def yX7_nine : MethodName := ⟨RX7, "nine", "()Z"⟩
noncomputable abbrev cX7_ends : ByteArray := prog_9_method_67_code
noncomputable def yX7_ends : MethodName := ⟨RX7, "ends", "(ZZ)V"⟩
noncomputable abbrev cX7_hand : ByteArray := prog_9_method_68_code
noncomputable def yX7_hand : MethodName := ⟨RX7, "hand", "(II)I"⟩
noncomputable abbrev cX7_laid : ByteArray := prog_9_method_69_code
noncomputable def yX7_laid : MethodName := ⟨RX7, "laid", "(III)I"⟩
noncomputable abbrev cX7_river : ByteArray := prog_9_method_70_code
noncomputable def yX7_river : MethodName := ⟨RX7, "river", "(II)I"⟩
noncomputable abbrev cX7_waits : ByteArray := prog_9_method_71_code
noncomputable def yX7_waits : MethodName := ⟨RX7, "waits", "(I)J"⟩
noncomputable abbrev cX7_seat : ByteArray := prog_9_method_72_code
noncomputable def yX7_seat : MethodName := ⟨RX7, "seat", "(II)I"⟩
noncomputable abbrev cX7_won : ByteArray := prog_9_method_73_code
noncomputable def yX7_won : MethodName := ⟨RX7, "won", "(II)I"⟩
noncomputable abbrev cX7_forms : ByteArray := prog_9_method_74_code
noncomputable def yX7_forms : MethodName := ⟨RX7, "forms", "(I)J"⟩
noncomputable abbrev cX7_count : ByteArray := prog_9_method_75_code
noncomputable def yX7_count : MethodName := ⟨RX7, "count", "(I)I"⟩
noncomputable abbrev cX7_wall : ByteArray := prog_9_method_76_code
noncomputable def yX7_wall : MethodName := ⟨RX7, "wall", "(I)I"⟩
noncomputable abbrev cX7_clear : ByteArray := prog_9_method_77_code
noncomputable def yX7_clear : MethodName := ⟨RX7, "clear", "()V"⟩
noncomputable abbrev cX7_takeDesk : ByteArray := prog_9_method_78_code
noncomputable def yX7_takeDesk : MethodName := ⟨RX7, "takeDesk", "()V"⟩
noncomputable abbrev cX7_lay : ByteArray := prog_9_method_79_code
noncomputable def yX7_lay : MethodName := ⟨RX7, "lay", "(II)Z"⟩
noncomputable abbrev cX7_set : ByteArray := prog_9_method_80_code
noncomputable def yX7_set : MethodName := ⟨RX7, "set", "(II)Z"⟩
noncomputable abbrev cX7_worth : ByteArray := prog_9_method_81_code
noncomputable def yX7_worth : MethodName := ⟨RX7, "worth", "(IZJII)I"⟩
noncomputable abbrev cX7_nothing : ByteArray := prog_9_method_82_code
noncomputable def yX7_nothing : MethodName := ⟨RX7, "nothing", "()V"⟩
noncomputable abbrev cX7_desk : ByteArray := prog_9_method_83_code
noncomputable def yX7_desk : MethodName := ⟨RX7, "desk", "(I)I"⟩
noncomputable abbrev cX7_deskForms : ByteArray := prog_9_method_84_code
noncomputable def yX7_deskForms : MethodName := ⟨RX7, "deskForms", "()J"⟩
noncomputable abbrev cX7_deskWaits : ByteArray := prog_9_method_85_code
noncomputable def yX7_deskWaits : MethodName := ⟨RX7, "deskWaits", "()J"⟩
noncomputable def RJ13 : String := "java/lang/Long"
noncomputable def TJ13 : u_T := fun k => match k with
  | _ => ("", "", "", false)
noncomputable def tyJ13 : Nat → FieldType := fun k => match k with
  | _ => .int
noncomputable abbrev wsJ130 : List Cond := u_ws RJ13 TJ13 0
theorem nmJ13 : ∀ a, a < 0 → ∀ b, b < 0 → a ≠ b → (TJ13 a).2.1 ≠ (TJ13 b).2.1 := by decide +kernel
theorem tyJ13_ok : ∀ k, k < 0 → parseFieldDescriptor (TJ13 k).2.2.1 = some (tyJ13 k) := by decide +kernel
noncomputable abbrev cJ13_bitCount_95d88 : ByteArray := prog_11_method_50_code
noncomputable def yJ13_bitCount_95d88 : MethodName := ⟨RJ13, "bitCount", "(J)I"⟩
noncomputable def RJ9 : String := "java/lang/Math"
noncomputable def TJ9 : u_T := fun k => match k with
  | _ => ("", "", "", false)
noncomputable def tyJ9 : Nat → FieldType := fun k => match k with
  | _ => .int
noncomputable abbrev wsJ90 : List Cond := u_ws RJ9 TJ9 0
theorem nmJ9 : ∀ a, a < 0 → ∀ b, b < 0 → a ≠ b → (TJ9 a).2.1 ≠ (TJ9 b).2.1 := by decide +kernel
theorem tyJ9_ok : ∀ k, k < 0 → parseFieldDescriptor (TJ9 k).2.2.1 = some (tyJ9 k) := by decide +kernel
noncomputable abbrev cJ9_max_7cf53 : ByteArray := prog_12_method_65_code
noncomputable def yJ9_max_7cf53 : MethodName := ⟨RJ9, "max", "(II)I"⟩
noncomputable abbrev cJ9_min_7cf53 : ByteArray := prog_12_method_69_code
noncomputable def yJ9_min_7cf53 : MethodName := ⟨RJ9, "min", "(II)I"⟩
noncomputable def RJ0 : String := "java/lang/String"
noncomputable def TJ0 : u_T := fun k => match k with
  | _ => ("", "", "", false)
noncomputable def tyJ0 : Nat → FieldType := fun k => match k with
  | _ => .int
noncomputable abbrev wsJ00 : List Cond := u_ws RJ0 TJ0 0
theorem nmJ0 : ∀ a, a < 0 → ∀ b, b < 0 → a ≠ b → (TJ0 a).2.1 ≠ (TJ0 b).2.1 := by decide +kernel
theorem tyJ0_ok : ∀ k, k < 0 → parseFieldDescriptor (TJ0 k).2.2.1 = some (tyJ0 k) := by decide +kernel
noncomputable def RL : String := "TileHouseLaw"
noncomputable abbrev cL_river : ByteArray := method_3_code
noncomputable def yL_river : MethodName := ⟨RL, "river", "(LTileHouse;II[J)I"⟩
noncomputable abbrev cL_wall : ByteArray := method_4_code
noncomputable def yL_wall : MethodName := ⟨RL, "wall", "(LTileHouse;I[J)I"⟩
noncomputable abbrev cL_law : ByteArray := code
noncomputable def yL_law : MethodName := ⟨RL, "law", "([I)Z"⟩
noncomputable abbrev vwCl : List vw_C := [(RX1, TX1, 19), (RX2, TX2, 10), (RX3, TX3, 6), (RX4, TX4, 4), (RX5, TX5, 8), (RX6, TX6, 19), (RX7, TX7, 68)]
/-! the words of this proof: the array classes, the nest's links, what a contract asks and gives -/
noncomputable abbrev tyF (k : Nat → ClassId) : List (ClassId × FieldType) := [(k 0, .int), (k 1, .long), (k 2, .boolean), (k 3, .object "TileHouse$Seat"), (k 4, .object "TileHouse$Win")]
noncomputable def NW (U : State) : Prop := (va_Nw (.methodLinkNest RX6 17 yX4_init "TileHouse") U ∧ va_Nw (.methodLinkNest RX6 24 yX1_init "TileHouse") U ∧ va_Nw (.methodLinkNest RX6 37 yX3_init "TileHouse") U ∧ va_Nw (.methodLinkNest RX6 52 yX2_init "TileHouse") U ∧ va_Nw (.methodLinkNest RX6 53 yX5_init "TileHouse") U) ∧ (va_Nw (.methodLinkNest RX2 11 yX3_init "TileHouse") U ∧ va_Nw (.methodLinkNest RX3 31 yX6_isKind "TileHouse") U ∧ va_Nw (.methodLinkNest RX3 74 yX6_startsRun "TileHouse") U ∧ va_Nw (.methodLinkNest RX3 39 yX6_tilesOfEach "TileHouse") U ∧ va_Nw (.methodLinkNest RX1 156 yX6_holds "TileHouse") U ∧ va_Nw (.methodLinkNest RX1 160 yX6_startsRun "TileHouse") U) ∧ (va_AO "TileHouse$Seat" U ∧ va_AO "TileHouse$Win" U)
theorem nw_X6_17 {U : State} (h : NW U) : va_Nw (.methodLinkNest RX6 17 yX4_init "TileHouse") U := h.1.1
theorem nw_X6_24 {U : State} (h : NW U) : va_Nw (.methodLinkNest RX6 24 yX1_init "TileHouse") U := h.1.2.1
theorem nw_X6_37 {U : State} (h : NW U) : va_Nw (.methodLinkNest RX6 37 yX3_init "TileHouse") U := h.1.2.2.1
theorem nw_X6_52 {U : State} (h : NW U) : va_Nw (.methodLinkNest RX6 52 yX2_init "TileHouse") U := h.1.2.2.2.1
theorem nw_X6_53 {U : State} (h : NW U) : va_Nw (.methodLinkNest RX6 53 yX5_init "TileHouse") U := h.1.2.2.2.2
theorem nw_X2_11 {U : State} (h : NW U) : va_Nw (.methodLinkNest RX2 11 yX3_init "TileHouse") U := h.2.1.1
theorem nw_X3_31 {U : State} (h : NW U) : va_Nw (.methodLinkNest RX3 31 yX6_isKind "TileHouse") U := h.2.1.2.1
theorem nw_X3_74 {U : State} (h : NW U) : va_Nw (.methodLinkNest RX3 74 yX6_startsRun "TileHouse") U := h.2.1.2.2.1
theorem nw_X3_39 {U : State} (h : NW U) : va_Nw (.methodLinkNest RX3 39 yX6_tilesOfEach "TileHouse") U := h.2.1.2.2.2.1
theorem nw_X1_156 {U : State} (h : NW U) : va_Nw (.methodLinkNest RX1 156 yX6_holds "TileHouse") U := h.2.1.2.2.2.2.1
theorem nw_X1_160 {U : State} (h : NW U) : va_Nw (.methodLinkNest RX1 160 yX6_startsRun "TileHouse") U := h.2.1.2.2.2.2.2
theorem NW.warm {s U : State} (h : NW s) (hW : s.WarmedH U.vm) : NW U := by
  obtain ⟨⟨a1, a2, a3, a4, a5⟩, ⟨b1, b2, b3, b4, b5, b6⟩, c1, c2⟩ := h
  exact ⟨⟨a1.warmM hW, a2.warmM hW, a3.warmM hW, a4.warmM hW, a5.warmM hW⟩, ⟨b1.warmM hW, b2.warmM hW, b3.warmM hW, b4.warmM hW, b5.warmM hW, b6.warmM hW⟩, c1.moved hW.alike, c2.moved hW.alike⟩
theorem NW.same {s U : State} (h : NW s) (hv : s.vm = U.vm) : NW U := by
  obtain ⟨⟨a1, a2, a3, a4, a5⟩, ⟨b1, b2, b3, b4, b5, b6⟩, c1, c2⟩ := h
  exact ⟨⟨a1.same rfl hv, a2.same rfl hv, a3.same rfl hv, a4.same rfl hv, a5.same rfl hv⟩, ⟨b1.same rfl hv, b2.same rfl hv, b3.same rfl hv, b4.same rfl hv, b5.same rfl hv, b6.same rfl hv⟩, c1.moved (by rw [hv]; exact Vm.Alike.refl _), c2.moved (by rw [hv]; exact Vm.Alike.refl _)⟩
noncomputable def pr (G : va_G) (k : Nat → ClassId) (ws : va_W) (U : State) : Prop := va_P G vwCl ws U.heap ∧ va_K G vwCl (tyF k) U ∧ NW U
noncomputable def pq (G : va_G) (k : Nat → ClassId) (ws : va_W) (sz : Nat) (U : State) : Prop := U.heap.size = sz ∧ pr G k ws U ∧ va_D (fun _ => True) ws
noncomputable def pt (G : va_G) (A : Nat → Prop) (ws : va_W) (t : State) : Prop := va_P G vwCl ws t.heap ∧ va_D A ws
theorem pr_bl {av : List Value} {G : va_G} {k : Nat → ClassId} {ws : va_W} : FrameBlind (va_Pc av (pr G k ws)) := fun a U g mk q => ⟨q.1, q.2.1, va_K.moved (u := U) (U := U.calling g mk a) (Vm.Alike.refl U.vm) q.2.2.1, q.2.2.2.same rfl⟩
theorem pq_bl {av : List Value} {G : va_G} {k : Nat → ClassId} {ws : va_W} {sz : Nat} : FrameBlind (va_Pc av (pq G k ws sz)) := fun a U g mk q => ⟨q.1, q.2.1, ⟨q.2.2.1.1, va_K.moved (u := U) (U := U.calling g mk a) (Vm.Alike.refl U.vm) q.2.2.1.2.1, q.2.2.1.2.2.same rfl⟩, q.2.2.2⟩
theorem pr_pre {av : List Value} {G : va_G} {k : Nat → ClassId} {ws : va_W} {H : Heap} {s : State} (hP : va_P G vwCl ws H) (hK : va_K G vwCl (tyF k) s) (hN : NW s) : ∀ U : State, U.heap = H → s.WarmedH U.vm → va_Pc av (pr G k ws) av.toArray U := fun U hU hW => ⟨rfl, by rw [hU]; exact hP, va_K.moved hW.alike hK, hN.warm hW⟩
theorem pq_pre {av : List Value} {G : va_G} {k : Nat → ClassId} {A : Nat → Prop} {ws : va_W} {H : Heap} {s : State} (hP : va_P G vwCl ws H) (hD : va_D A ws) (hK : va_K G vwCl (tyF k) s) (hN : NW s) : ∀ U : State, U.heap = H → s.WarmedH U.vm → va_Pc av (pq G k ws H.size) av.toArray U := fun U hU hW => ⟨rfl, by rw [hU], ⟨by rw [hU]; exact hP, va_K.moved hW.alike hK, hN.warm hW⟩, hD.weaken (fun _ _ _ _ => trivial)⟩
theorem vP0 {G : va_G} {H : Heap} : va_P G vwCl [] H := fun k q h => by simp at h
theorem vD0 {A : Nat → Prop} : va_D A [] := ⟨fun i j p q h => by simp at h, fun k q h => by simp at h⟩
theorem ty_same0 {G : va_G} {k : Nat → ClassId} {cA : ClassId} {s : State} (h1 : va_K G vwCl (tyF k ++ [(cA, .int)]) s) (h : va_K G vwCl (tyF k) s) : cA = k 0 := Option.some.inj (((h1.2 5 _ rfl).2).symm.trans ((h.2 0 _ rfl).2))
theorem ty_same1 {G : va_G} {k : Nat → ClassId} {cA : ClassId} {s : State} (h1 : va_K G vwCl (tyF k ++ [(cA, .long)]) s) (h : va_K G vwCl (tyF k) s) : cA = k 1 := Option.some.inj (((h1.2 5 _ rfl).2).symm.trans ((h.2 1 _ rfl).2))
theorem ty_same2 {G : va_G} {k : Nat → ClassId} {cA : ClassId} {s : State} (h1 : va_K G vwCl (tyF k ++ [(cA, .boolean)]) s) (h : va_K G vwCl (tyF k) s) : cA = k 2 := Option.some.inj (((h1.2 5 _ rfl).2).symm.trans ((h.2 2 _ rfl).2))
section QC
variable {p : Program} {l : Launch} {e : Env} {R : Room} {s : State} {m : MethodId} {args : Array Value} {below : List Frame} {meth : Method} {c : Code} {H : Heap} {locs : List Loc} {cells slots : Nat} {Q : State → Prop} {pc : Nat} {ls : Array Slot} {st0 rest : List Value} {a : Array Value}
theorem q_calli {post : Int32 → Prop} (hr : va_Run p l e R s m args below meth c H locs cells slots 0 0 (F0 m pc ls st0) rest (vp_Si post a) (fun _ => False)) (kk : ∀ r : Int32, post r → W p l e R s m args below meth c H locs cells slots Q (F0 m (pc + 3) ls (.int r :: rest))) : W p l e R s m args below meth c H locs cells slots Q (F0 m pc ls st0) := by
  intro T hT X
  obtain ⟨v, st₀, t, T', L, h0, X', hL, e1, e2, ⟨r, hv, hp, hh⟩, st⟩ := hr T hT X
  cases hv
  obtain ⟨t2, a1, b1⟩ := kk r hp T' (by rw [e1, hh, h0]) (Stand.forget X' (fun q h => (hL q h).elim))
  exact ⟨t2, st t2 a1, b1⟩
theorem q_calll {post : Int64 → Prop} (hr : va_Run p l e R s m args below meth c H locs cells slots 0 0 (F0 m pc ls st0) rest (vp_Sl post a) (fun _ => False)) (kk : ∀ r : Int64, post r → W p l e R s m args below meth c H locs cells slots Q (F0 m (pc + 3) ls (.long r :: rest))) : W p l e R s m args below meth c H locs cells slots Q (F0 m pc ls st0) := by
  intro T hT X
  obtain ⟨v, st₀, t, T', L, h0, X', hL, e1, e2, ⟨r, hv, hp, hh⟩, st⟩ := hr T hT X
  cases hv
  obtain ⟨t2, a1, b1⟩ := kk r hp T' (by rw [e1, hh, h0]) (Stand.forget X' (fun q h => (hL q h).elim))
  exact ⟨t2, st t2 a1, b1⟩
theorem q_callr {post : Nat → Prop} (hr : va_Run p l e R s m args below meth c H locs cells slots 0 0 (F0 m pc ls st0) rest (va_Sr post Value.ref a) (fun _ => False)) (kk : ∀ r : Nat, post r → W p l e R s m args below meth c H locs cells slots Q (F0 m (pc + 3) ls (.ref r :: rest))) : W p l e R s m args below meth c H locs cells slots Q (F0 m pc ls st0) := by
  intro T hT X
  obtain ⟨v, st₀, t, T', L, h0, X', hL, e1, e2, ⟨r, hv, hp, hh⟩, st⟩ := hr T hT X
  cases hv
  obtain ⟨t2, a1, b1⟩ := kk r hp T' (by rw [e1, hh, h0]) (Stand.forget X' (fun q h => (hL q h).elim))
  exact ⟨t2, st t2 a1, b1⟩
end QC
theorem inC {i : Int32} {n : Nat} (h1 : ¬ i < 0) (h2 : i.toNatClampNeg < n) : vp_in i n := fun h => h.elim h1 (fun h => absurd h (Nat.not_le.mpr h2))
theorem in_of {x M : Int32} {n : Nat} (hM : M.toInt = n) (h1 : ¬ x < 0) (h2 : ¬ M ≤ x) : vp_in x n := by
  rw [Int32.lt_iff_toInt_lt] at h1
  rw [Int32.le_iff_toInt_le, hM] at h2
  have h3 : (0 : Int32).toInt = 0 := rfl
  exact vp_in_iff.mpr ⟨by omega, by omega⟩
theorem nin_lt {x : Int32} {n : Nat} (h1 : x < 0) : ¬ vp_in x n := fun h => h (Or.inl h1)
theorem nin_ge {x M : Int32} {n : Nat} (hM : M.toInt = n) (h2 : M ≤ x) : ¬ vp_in x n := fun h => by
  have := Int32.le_iff_toInt_le.mp h2
  have h3 := (vp_in_iff.mp h).2
  rw [hM] at this
  omega
theorem in_nlt {x : Int32} {n : Nat} (h : vp_in x n) : ¬ x < 0 := fun h1 => h (Or.inl h1)
theorem in_nge {x M : Int32} {n : Nat} (hM : M.toInt = n) (h : vp_in x n) : ¬ M ≤ x := fun h2 => nin_ge hM h2 h
theorem in_lt {x : Int32} {n : Nat} (h : vp_in x n) : x.toNatClampNeg < n := Nat.not_le.mp (fun h1 => h (Or.inr h1))
theorem met_pre {l : Launch} {y : MethodName} {ws : List Cond} {rm : Room} {P1 P2 : Array Value → State → Prop} {Qc : Array Value → State → Outcome → State → Prop} {mc ms : Nat} {free : Addr → Prop} (h : Met l y ws rm P1 Qc mc ms free) (hp : ∀ a s, P2 a s → P1 a s) : Met l y ws rm P2 Qc mc ms free := fun p e h1 h2 h3 s m args below h4 h5 h6 h7 => h p e h1 h2 h3 s m args below h4 h5 (hp _ _ h6) h7
theorem met_sub {l : Launch} {y : MethodName} {ws : List Cond} {rm : Room} {av : List Value} {G : va_G} {k : Nat → ClassId} {w w2 : va_W} {Qc : Array Value → State → Outcome → State → Prop} {mc ms : Nat} {free : Addr → Prop} (h : Met l y ws rm (va_Pc av (pr G k w)) Qc mc ms free) (pl : List Nat) (hpl : pl.filterMap (fun i => w2[i]?) = w) : Met l y ws rm (va_Pc av (pr G k w2)) Qc mc ms free := met_pre h (fun _ _ q => ⟨q.1, q.2.1.sub pl hpl, q.2.2.1, q.2.2.2⟩)
theorem tsw3 (x : Int32) : (x.toInt < 0 ∨ 3 < x.toInt) ∨ x = 0 ∨ x = 1 ∨ x = 2 ∨ x = 3 := by
  rcases pk_ix x (n := 4) (by decide) with h | h | ⟨j, hj, rfl⟩
  · exact Or.inl (Or.inl (by have h9 := Int32.lt_iff_toInt_lt.mp h; simpa using h9))
  · exact Or.inl (Or.inr (by have h9 := Int32.le_iff_toInt_le.mp h; rw [nI_toInt (by decide)] at h9; omega))
  · rcases (show j = 0 ∨ j = 1 ∨ j = 2 ∨ j = 3 by omega) with rfl | rfl | rfl | rfl
    · exact Or.inr (Or.inl rfl)
    · exact Or.inr (Or.inr (Or.inl rfl))
    · exact Or.inr (Or.inr (Or.inr (Or.inl rfl)))
    · exact Or.inr (Or.inr (Or.inr (Or.inr (rfl))))
theorem tsw7 (x : Int32) : (x.toInt < 0 ∨ 7 < x.toInt) ∨ x = 0 ∨ x = 1 ∨ x = 2 ∨ x = 3 ∨ x = 4 ∨ x = 5 ∨ x = 6 ∨ x = 7 := by
  rcases pk_ix x (n := 8) (by decide) with h | h | ⟨j, hj, rfl⟩
  · exact Or.inl (Or.inl (by have h9 := Int32.lt_iff_toInt_lt.mp h; simpa using h9))
  · exact Or.inl (Or.inr (by have h9 := Int32.le_iff_toInt_le.mp h; rw [nI_toInt (by decide)] at h9; omega))
  · rcases (show j = 0 ∨ j = 1 ∨ j = 2 ∨ j = 3 ∨ j = 4 ∨ j = 5 ∨ j = 6 ∨ j = 7 by omega) with rfl | rfl | rfl | rfl | rfl | rfl | rfl | rfl
    · exact Or.inr (Or.inl rfl)
    · exact Or.inr (Or.inr (Or.inl rfl))
    · exact Or.inr (Or.inr (Or.inr (Or.inl rfl)))
    · exact Or.inr (Or.inr (Or.inr (Or.inr (Or.inl rfl))))
    · exact Or.inr (Or.inr (Or.inr (Or.inr (Or.inr (Or.inl rfl)))))
    · exact Or.inr (Or.inr (Or.inr (Or.inr (Or.inr (Or.inr (Or.inl rfl))))))
    · exact Or.inr (Or.inr (Or.inr (Or.inr (Or.inr (Or.inr (Or.inr (Or.inl rfl)))))))
    · exact Or.inr (Or.inr (Or.inr (Or.inr (Or.inr (Or.inr (Or.inr (Or.inr (rfl))))))))
theorem tsw12 (x : Int32) : (x.toInt < 0 ∨ 12 < x.toInt) ∨ x = 0 ∨ x = 1 ∨ x = 2 ∨ x = 3 ∨ x = 4 ∨ x = 5 ∨ x = 6 ∨ x = 7 ∨ x = 8 ∨ x = 9 ∨ x = 10 ∨ x = 11 ∨ x = 12 := by
  rcases pk_ix x (n := 13) (by decide) with h | h | ⟨j, hj, rfl⟩
  · exact Or.inl (Or.inl (by have h9 := Int32.lt_iff_toInt_lt.mp h; simpa using h9))
  · exact Or.inl (Or.inr (by have h9 := Int32.le_iff_toInt_le.mp h; rw [nI_toInt (by decide)] at h9; omega))
  · rcases (show j = 0 ∨ j = 1 ∨ j = 2 ∨ j = 3 ∨ j = 4 ∨ j = 5 ∨ j = 6 ∨ j = 7 ∨ j = 8 ∨ j = 9 ∨ j = 10 ∨ j = 11 ∨ j = 12 by omega) with rfl | rfl | rfl | rfl | rfl | rfl | rfl | rfl | rfl | rfl | rfl | rfl | rfl
    · exact Or.inr (Or.inl rfl)
    · exact Or.inr (Or.inr (Or.inl rfl))
    · exact Or.inr (Or.inr (Or.inr (Or.inl rfl)))
    · exact Or.inr (Or.inr (Or.inr (Or.inr (Or.inl rfl))))
    · exact Or.inr (Or.inr (Or.inr (Or.inr (Or.inr (Or.inl rfl)))))
    · exact Or.inr (Or.inr (Or.inr (Or.inr (Or.inr (Or.inr (Or.inl rfl))))))
    · exact Or.inr (Or.inr (Or.inr (Or.inr (Or.inr (Or.inr (Or.inr (Or.inl rfl)))))))
    · exact Or.inr (Or.inr (Or.inr (Or.inr (Or.inr (Or.inr (Or.inr (Or.inr (Or.inl rfl))))))))
    · exact Or.inr (Or.inr (Or.inr (Or.inr (Or.inr (Or.inr (Or.inr (Or.inr (Or.inr (Or.inl rfl)))))))))
    · exact Or.inr (Or.inr (Or.inr (Or.inr (Or.inr (Or.inr (Or.inr (Or.inr (Or.inr (Or.inr (Or.inl rfl))))))))))
    · exact Or.inr (Or.inr (Or.inr (Or.inr (Or.inr (Or.inr (Or.inr (Or.inr (Or.inr (Or.inr (Or.inr (Or.inl rfl)))))))))))
    · exact Or.inr (Or.inr (Or.inr (Or.inr (Or.inr (Or.inr (Or.inr (Or.inr (Or.inr (Or.inr (Or.inr (Or.inr (Or.inl rfl))))))))))))
    · exact Or.inr (Or.inr (Or.inr (Or.inr (Or.inr (Or.inr (Or.inr (Or.inr (Or.inr (Or.inr (Or.inr (Or.inr (Or.inr (rfl)))))))))))))
theorem tsw26 (x : Int32) : (x.toInt < 0 ∨ 26 < x.toInt) ∨ x = 0 ∨ x = 1 ∨ x = 2 ∨ x = 3 ∨ x = 4 ∨ x = 5 ∨ x = 6 ∨ x = 7 ∨ x = 8 ∨ x = 9 ∨ x = 10 ∨ x = 11 ∨ x = 12 ∨ x = 13 ∨ x = 14 ∨ x = 15 ∨ x = 16 ∨ x = 17 ∨ x = 18 ∨ x = 19 ∨ x = 20 ∨ x = 21 ∨ x = 22 ∨ x = 23 ∨ x = 24 ∨ x = 25 ∨ x = 26 := by
  rcases pk_ix x (n := 27) (by decide) with h | h | ⟨j, hj, rfl⟩
  · exact Or.inl (Or.inl (by have h9 := Int32.lt_iff_toInt_lt.mp h; simpa using h9))
  · exact Or.inl (Or.inr (by have h9 := Int32.le_iff_toInt_le.mp h; rw [nI_toInt (by decide)] at h9; omega))
  · rcases (show j = 0 ∨ j = 1 ∨ j = 2 ∨ j = 3 ∨ j = 4 ∨ j = 5 ∨ j = 6 ∨ j = 7 ∨ j = 8 ∨ j = 9 ∨ j = 10 ∨ j = 11 ∨ j = 12 ∨ j = 13 ∨ j = 14 ∨ j = 15 ∨ j = 16 ∨ j = 17 ∨ j = 18 ∨ j = 19 ∨ j = 20 ∨ j = 21 ∨ j = 22 ∨ j = 23 ∨ j = 24 ∨ j = 25 ∨ j = 26 by omega) with rfl | rfl | rfl | rfl | rfl | rfl | rfl | rfl | rfl | rfl | rfl | rfl | rfl | rfl | rfl | rfl | rfl | rfl | rfl | rfl | rfl | rfl | rfl | rfl | rfl | rfl | rfl
    · exact Or.inr (Or.inl rfl)
    · exact Or.inr (Or.inr (Or.inl rfl))
    · exact Or.inr (Or.inr (Or.inr (Or.inl rfl)))
    · exact Or.inr (Or.inr (Or.inr (Or.inr (Or.inl rfl))))
    · exact Or.inr (Or.inr (Or.inr (Or.inr (Or.inr (Or.inl rfl)))))
    · exact Or.inr (Or.inr (Or.inr (Or.inr (Or.inr (Or.inr (Or.inl rfl))))))
    · exact Or.inr (Or.inr (Or.inr (Or.inr (Or.inr (Or.inr (Or.inr (Or.inl rfl)))))))
    · exact Or.inr (Or.inr (Or.inr (Or.inr (Or.inr (Or.inr (Or.inr (Or.inr (Or.inl rfl))))))))
    · exact Or.inr (Or.inr (Or.inr (Or.inr (Or.inr (Or.inr (Or.inr (Or.inr (Or.inr (Or.inl rfl)))))))))
    · exact Or.inr (Or.inr (Or.inr (Or.inr (Or.inr (Or.inr (Or.inr (Or.inr (Or.inr (Or.inr (Or.inl rfl))))))))))
    · exact Or.inr (Or.inr (Or.inr (Or.inr (Or.inr (Or.inr (Or.inr (Or.inr (Or.inr (Or.inr (Or.inr (Or.inl rfl)))))))))))
    · exact Or.inr (Or.inr (Or.inr (Or.inr (Or.inr (Or.inr (Or.inr (Or.inr (Or.inr (Or.inr (Or.inr (Or.inr (Or.inl rfl))))))))))))
    · exact Or.inr (Or.inr (Or.inr (Or.inr (Or.inr (Or.inr (Or.inr (Or.inr (Or.inr (Or.inr (Or.inr (Or.inr (Or.inr (Or.inl rfl)))))))))))))
    · exact Or.inr (Or.inr (Or.inr (Or.inr (Or.inr (Or.inr (Or.inr (Or.inr (Or.inr (Or.inr (Or.inr (Or.inr (Or.inr (Or.inr (Or.inl rfl))))))))))))))
    · exact Or.inr (Or.inr (Or.inr (Or.inr (Or.inr (Or.inr (Or.inr (Or.inr (Or.inr (Or.inr (Or.inr (Or.inr (Or.inr (Or.inr (Or.inr (Or.inl rfl)))))))))))))))
    · exact Or.inr (Or.inr (Or.inr (Or.inr (Or.inr (Or.inr (Or.inr (Or.inr (Or.inr (Or.inr (Or.inr (Or.inr (Or.inr (Or.inr (Or.inr (Or.inr (Or.inl rfl))))))))))))))))
    · exact Or.inr (Or.inr (Or.inr (Or.inr (Or.inr (Or.inr (Or.inr (Or.inr (Or.inr (Or.inr (Or.inr (Or.inr (Or.inr (Or.inr (Or.inr (Or.inr (Or.inr (Or.inl rfl)))))))))))))))))
    · exact Or.inr (Or.inr (Or.inr (Or.inr (Or.inr (Or.inr (Or.inr (Or.inr (Or.inr (Or.inr (Or.inr (Or.inr (Or.inr (Or.inr (Or.inr (Or.inr (Or.inr (Or.inr (Or.inl rfl))))))))))))))))))
    · exact Or.inr (Or.inr (Or.inr (Or.inr (Or.inr (Or.inr (Or.inr (Or.inr (Or.inr (Or.inr (Or.inr (Or.inr (Or.inr (Or.inr (Or.inr (Or.inr (Or.inr (Or.inr (Or.inr (Or.inl rfl)))))))))))))))))))
    · exact Or.inr (Or.inr (Or.inr (Or.inr (Or.inr (Or.inr (Or.inr (Or.inr (Or.inr (Or.inr (Or.inr (Or.inr (Or.inr (Or.inr (Or.inr (Or.inr (Or.inr (Or.inr (Or.inr (Or.inr (Or.inl rfl))))))))))))))))))))
    · exact Or.inr (Or.inr (Or.inr (Or.inr (Or.inr (Or.inr (Or.inr (Or.inr (Or.inr (Or.inr (Or.inr (Or.inr (Or.inr (Or.inr (Or.inr (Or.inr (Or.inr (Or.inr (Or.inr (Or.inr (Or.inr (Or.inl rfl)))))))))))))))))))))
    · exact Or.inr (Or.inr (Or.inr (Or.inr (Or.inr (Or.inr (Or.inr (Or.inr (Or.inr (Or.inr (Or.inr (Or.inr (Or.inr (Or.inr (Or.inr (Or.inr (Or.inr (Or.inr (Or.inr (Or.inr (Or.inr (Or.inr (Or.inl rfl))))))))))))))))))))))
    · exact Or.inr (Or.inr (Or.inr (Or.inr (Or.inr (Or.inr (Or.inr (Or.inr (Or.inr (Or.inr (Or.inr (Or.inr (Or.inr (Or.inr (Or.inr (Or.inr (Or.inr (Or.inr (Or.inr (Or.inr (Or.inr (Or.inr (Or.inr (Or.inl rfl)))))))))))))))))))))))
    · exact Or.inr (Or.inr (Or.inr (Or.inr (Or.inr (Or.inr (Or.inr (Or.inr (Or.inr (Or.inr (Or.inr (Or.inr (Or.inr (Or.inr (Or.inr (Or.inr (Or.inr (Or.inr (Or.inr (Or.inr (Or.inr (Or.inr (Or.inr (Or.inr (Or.inl rfl))))))))))))))))))))))))
    · exact Or.inr (Or.inr (Or.inr (Or.inr (Or.inr (Or.inr (Or.inr (Or.inr (Or.inr (Or.inr (Or.inr (Or.inr (Or.inr (Or.inr (Or.inr (Or.inr (Or.inr (Or.inr (Or.inr (Or.inr (Or.inr (Or.inr (Or.inr (Or.inr (Or.inr (Or.inl rfl)))))))))))))))))))))))))
    · exact Or.inr (Or.inr (Or.inr (Or.inr (Or.inr (Or.inr (Or.inr (Or.inr (Or.inr (Or.inr (Or.inr (Or.inr (Or.inr (Or.inr (Or.inr (Or.inr (Or.inr (Or.inr (Or.inr (Or.inr (Or.inr (Or.inr (Or.inr (Or.inr (Or.inr (Or.inr (Or.inl rfl))))))))))))))))))))))))))
    · exact Or.inr (Or.inr (Or.inr (Or.inr (Or.inr (Or.inr (Or.inr (Or.inr (Or.inr (Or.inr (Or.inr (Or.inr (Or.inr (Or.inr (Or.inr (Or.inr (Or.inr (Or.inr (Or.inr (Or.inr (Or.inr (Or.inr (Or.inr (Or.inr (Or.inr (Or.inr (Or.inr (rfl)))))))))))))))))))))))))))
theorem ty_same3 {G : va_G} {k : Nat → ClassId} {cA : ClassId} {s : State} (h1 : va_K G vwCl (tyF k ++ [(cA, .object "TileHouse$Seat")]) s) (h : va_K G vwCl (tyF k) s) : cA = k 3 := by
  obtain ⟨_, _, _, _, _, e1⟩ := (h1.2 5 _ rfl).2
  obtain ⟨_, _, _, _, _, e2⟩ := (h.2 3 _ rfl).2
  exact Option.some.inj (e1.symm.trans e2)
theorem ty_same4 {G : va_G} {k : Nat → ClassId} {cA : ClassId} {s : State} (h1 : va_K G vwCl (tyF k ++ [(cA, .object "TileHouse$Win")]) s) (h : va_K G vwCl (tyF k) s) : cA = k 4 := by
  obtain ⟨_, _, _, _, _, e1⟩ := (h1.2 5 _ rfl).2
  obtain ⟨_, _, _, _, _, e2⟩ := (h.2 4 _ rfl).2
  exact Option.some.inj (e1.symm.trans e2)
theorem i_nn {x : Int32} (h : ¬ x < 0) : (0 : Int32) ≤ x := by
  rw [Int32.lt_iff_toInt_lt] at h
  rw [Int32.le_iff_toInt_le]
  exact Int.not_lt.mp h
/-! words: good ones, chunk by chunk -/
theorem vg_nil : ∀ w ∈ ([] : List Cond), goodWord w = true := fun _ h => absurd h List.not_mem_nil
theorem vg_a {a b : List Cond} (ha : ∀ w ∈ a, goodWord w = true) (hb : ∀ w ∈ b, goodWord w = true) : ∀ w ∈ a ++ b, goodWord w = true := fun w h => (List.mem_append.mp h).elim (ha w) (hb w)
theorem vg_c {c : Cond} {l a : List Cond} (h0 : (c :: l).all goodWord = true) (ha : ∀ w ∈ a, goodWord w = true) : ∀ w ∈ c :: (l ++ a), goodWord w = true := fun w h => (List.mem_cons.mp h).elim (fun e => by rw [e]; exact List.all_eq_true.mp h0 c List.mem_cons_self) (fun h => (List.mem_append.mp h).elim (fun h => List.all_eq_true.mp h0 w (List.mem_cons_of_mem _ h)) (ha w))
theorem in_r {big : List Cond} (ws : List Cond) (ps : List Nat) (hp : ws = ps.filterMap (fun i => big[i]?)) : ∀ w ∈ ws, w ∈ big := by
  intro w hw
  rw [hp] at hw
  obtain ⟨i, -, hi⟩ := List.mem_filterMap.mp hw
  exact List.mem_of_getElem? hi
theorem tl_c {big : List Cond} {c : Cond} {l a : List Cond} (h0 : ∀ w ∈ c :: l, w ∈ big) (ha : ∀ w ∈ a, w ∈ big) : ∀ w ∈ c :: (l ++ a), w ∈ big := fun w h => (List.mem_cons.mp h).elim (fun e => by rw [e]; exact h0 c List.mem_cons_self) (fun h => (List.mem_append.mp h).elim (fun h => h0 w (List.mem_cons_of_mem _ h)) (ha w))
theorem tl_a {big a b : List Cond} (ha : ∀ w ∈ a, w ∈ big) (hb : ∀ w ∈ b, w ∈ big) : ∀ w ∈ a ++ b, w ∈ big := fun w h => (List.mem_append.mp h).elim (ha w) (hb w)
theorem tl_nil {big : List Cond} : ∀ w ∈ ([] : List Cond), w ∈ big := fun _ h => absurd h List.not_mem_nil
theorem vgX1 : ∀ w ∈ wsX10, goodWord w = true := List.all_eq_true.mp (by decide +kernel)
theorem vgX2 : ∀ w ∈ wsX20, goodWord w = true := List.all_eq_true.mp (by decide +kernel)
theorem vgX3 : ∀ w ∈ wsX30, goodWord w = true := List.all_eq_true.mp (by decide +kernel)
theorem vgX4 : ∀ w ∈ wsX40, goodWord w = true := List.all_eq_true.mp (by decide +kernel)
theorem vgX5 : ∀ w ∈ wsX50, goodWord w = true := List.all_eq_true.mp (by decide +kernel)
theorem vgX6 : ∀ w ∈ wsX60, goodWord w = true := List.all_eq_true.mp (by decide +kernel)
theorem vgX7 : ∀ w ∈ wsX70, goodWord w = true := List.all_eq_true.mp (by decide +kernel)
theorem vg_l {l : List Cond} (h : l.all goodWord = true) : ∀ w ∈ l, goodWord w = true := fun w hw => List.all_eq_true.mp h w hw
theorem dX5_init_0 : decode cX5_init 0 = .ok (.aload_n 0, 1) := by decide +kernel
theorem dX5_init_1 : decode cX5_init 1 = .ok (.invokespecial 3, 3) := by decide +kernel
theorem dX5_init_4 : decode cX5_init 4 = .ok (.return_, 1) := by decide +kernel
theorem dX3_init_0 : decode cX3_init 0 = .ok (.aload_n 0, 1) := by decide +kernel
theorem dX3_init_1 : decode cX3_init 1 = .ok (.invokespecial 3, 3) := by decide +kernel
theorem dX3_init_4 : decode cX3_init 4 = .ok (.aload_n 0, 1) := by decide +kernel
theorem dX3_init_5 : decode cX3_init 5 = .ok (.bipush 34, 2) := by decide +kernel
theorem dX3_init_7 : decode cX3_init 7 = .ok (.newarray .int, 2) := by decide +kernel
theorem dX3_init_9 : decode cX3_init 9 = .ok (.putfield 9, 3) := by decide +kernel
theorem dX3_init_12 : decode cX3_init 12 = .ok (.aload_n 0, 1) := by decide +kernel
theorem dX3_init_13 : decode cX3_init 13 = .ok (.bipush 34, 2) := by decide +kernel
theorem dX3_init_15 : decode cX3_init 15 = .ok (.newarray .int, 2) := by decide +kernel
theorem dX3_init_17 : decode cX3_init 17 = .ok (.putfield 15, 3) := by decide +kernel
theorem dX3_init_20 : decode cX3_init 20 = .ok (.aload_n 0, 1) := by decide +kernel
theorem dX3_init_21 : decode cX3_init 21 = .ok (.iconst 4, 1) := by decide +kernel
theorem dX3_init_22 : decode cX3_init 22 = .ok (.newarray .int, 2) := by decide +kernel
theorem dX3_init_24 : decode cX3_init 24 = .ok (.putfield 18, 3) := by decide +kernel
theorem dX3_init_27 : decode cX3_init 27 = .ok (.aload_n 0, 1) := by decide +kernel
theorem dX3_init_28 : decode cX3_init 28 = .ok (.iconst 4, 1) := by decide +kernel
theorem dX3_init_29 : decode cX3_init 29 = .ok (.newarray .int, 2) := by decide +kernel
theorem dX3_init_31 : decode cX3_init 31 = .ok (.putfield 21, 3) := by decide +kernel
theorem dX3_init_34 : decode cX3_init 34 = .ok (.return_, 1) := by decide +kernel
theorem dX4_init_0 : decode cX4_init 0 = .ok (.aload_n 0, 1) := by decide +kernel
theorem dX4_init_1 : decode cX4_init 1 = .ok (.invokespecial 3, 3) := by decide +kernel
theorem dX4_init_4 : decode cX4_init 4 = .ok (.aload_n 0, 1) := by decide +kernel
theorem dX4_init_5 : decode cX4_init 5 = .ok (.sipush 136, 3) := by decide +kernel
theorem dX4_init_8 : decode cX4_init 8 = .ok (.newarray .int, 2) := by decide +kernel
theorem dX4_init_10 : decode cX4_init 10 = .ok (.putfield 11, 3) := by decide +kernel
theorem dX4_init_13 : decode cX4_init 13 = .ok (.return_, 1) := by decide +kernel
theorem dX1_init_0 : decode cX1_init 0 = .ok (.aload_n 0, 1) := by decide +kernel
theorem dX1_init_1 : decode cX1_init 1 = .ok (.invokespecial 3, 3) := by decide +kernel
theorem dX1_init_4 : decode cX1_init 4 = .ok (.aload_n 0, 1) := by decide +kernel
theorem dX1_init_5 : decode cX1_init 5 = .ok (.iconst 4, 1) := by decide +kernel
theorem dX1_init_6 : decode cX1_init 6 = .ok (.newarray .int, 2) := by decide +kernel
theorem dX1_init_8 : decode cX1_init 8 = .ok (.putfield 9, 3) := by decide +kernel
theorem dX1_init_11 : decode cX1_init 11 = .ok (.aload_n 0, 1) := by decide +kernel
theorem dX1_init_12 : decode cX1_init 12 = .ok (.iconst 4, 1) := by decide +kernel
theorem dX1_init_13 : decode cX1_init 13 = .ok (.newarray .int, 2) := by decide +kernel
theorem dX1_init_15 : decode cX1_init 15 = .ok (.putfield 15, 3) := by decide +kernel
theorem dX1_init_18 : decode cX1_init 18 = .ok (.aload_n 0, 1) := by decide +kernel
theorem dX1_init_19 : decode cX1_init 19 = .ok (.iconst 4, 1) := by decide +kernel
theorem dX1_init_20 : decode cX1_init 20 = .ok (.newarray .int, 2) := by decide +kernel
theorem dX1_init_22 : decode cX1_init 22 = .ok (.putfield 18, 3) := by decide +kernel
theorem dX1_init_25 : decode cX1_init 25 = .ok (.return_, 1) := by decide +kernel
theorem dX2_init_0 : decode cX2_init 0 = .ok (.aload_n 0, 1) := by decide +kernel
theorem dX2_init_1 : decode cX2_init 1 = .ok (.invokespecial 3, 3) := by decide +kernel
theorem dX2_init_4 : decode cX2_init 4 = .ok (.aload_n 0, 1) := by decide +kernel
theorem dX2_init_5 : decode cX2_init 5 = .ok (.new 9, 3) := by decide +kernel
theorem dX2_init_8 : decode cX2_init 8 = .ok (.dup, 1) := by decide +kernel
theorem dX2_init_9 : decode cX2_init 9 = .ok (.invokespecial 11, 3) := by decide +kernel
theorem dX2_init_12 : decode cX2_init 12 = .ok (.putfield 12, 3) := by decide +kernel
theorem dX2_init_15 : decode cX2_init 15 = .ok (.aload_n 0, 1) := by decide +kernel
theorem dX2_init_16 : decode cX2_init 16 = .ok (.bipush 86, 2) := by decide +kernel
theorem dX2_init_18 : decode cX2_init 18 = .ok (.newarray .int, 2) := by decide +kernel
theorem dX2_init_20 : decode cX2_init 20 = .ok (.putfield 18, 3) := by decide +kernel
theorem dX2_init_23 : decode cX2_init 23 = .ok (.aload_n 0, 1) := by decide +kernel
theorem dX2_init_24 : decode cX2_init 24 = .ok (.sipush 25000, 3) := by decide +kernel
theorem dX2_init_27 : decode cX2_init 27 = .ok (.putfield 22, 3) := by decide +kernel
theorem dX2_init_30 : decode cX2_init 30 = .ok (.return_, 1) := by decide +kernel
noncomputable def v_c_X5_init : List Cond := .code yX5_init cX5_init 1 none :: ([.methodLink RX5 3 objectInit, .instanceMethod objectInit, .code objectInit ⟨#[0xb1]⟩ 1 none] ++ ([]))
theorem vg_c_X5_init : ∀ w ∈ v_c_X5_init, goodWord w = true := vg_c (c := .code yX5_init cX5_init 1 none) (l := [.methodLink RX5 3 objectInit, .instanceMethod objectInit, .code objectInit ⟨#[0xb1]⟩ 1 none]) (by decide +kernel) (vg_nil)
set_option maxHeartbeats 4000000 in
set_option maxRecDepth 100000 in
theorem c_X5_init (l : Launch) (G : va_G) (k : Nat → ClassId) (sz : Nat) (h0 : Nat) : Met l yX5_init v_c_X5_init ({ frames := 1, cells := 0, slots := 0, locals := 12 }) (va_Pc [.ref h0] (pq G k [(h0, .inr (4, [.int 0, .int 0, .int 0, .int 0, .int 0, .int 0, .int 0, .long 0]))] sz)) (va_Qv (fun _ : Nat → Nat => True) (fun u => pt G (va_A [(h0, .inr (4, [.int 0, .int 0, .int 0, .int 0, .int 0, .int 0, .int 0, .long 0]))] sz) [(h0, .inr (4, [.int 0, .int 0, .int 0, .int 0, .int 0, .int 0, .int 0, .long 0]))]) (va_A [(h0, .inr (4, [.int 0, .int 0, .int 0, .int 0, .int 0, .int 0, .int 0, .long 0]))] sz)) 0 0 (va_A [(h0, .inr (4, [.int 0, .int 0, .int 0, .int 0, .int 0, .int 0, .int 0, .long 0]))] sz) := by
  refine Met.ofW (cc := cX5_init) (maxL := 1) (ret := none) (by decide) rfl ?_
  intro p e s m args below meth c s₁ B hml hv
  obtain ⟨rfl, hsz, ⟨hP, hK, hN⟩, hD0⟩ := hv
  have hx := B.exec
  have hb := B.bytes
  have hr := B.returns
  have hts := atoms_spec (ws := v_c_X5_init) B.pre
  have hown : s.vm.findClass RX5 = some m.cls := findClass_of_methodNamed B.named
  have hlocks := B.notSynchronized
  have hin : meth.name = "<init>" := (name_of_methodNamed B.named B.method).1
  subst hsz
  have hD := hD0.self (sz := s.heap.size)
  generalize hAe : va_A [(h0, .inr (4, [.int 0, .int 0, .int 0, .int 0, .int 0, .int 0, .int 0, .long 0]))] s.heap.size = A at hD ⊢
  have hA : ∀ q : Nat, s.heap.size ≤ q → A q := fun q h => by rw [← hAe]; exact Or.inr h
  have hS : va_S A s.heap s.heap [] := va_S.rf
  have hP : va_P G vwCl [(h0, .inr (4, [.int 0, .int 0, .int 0, .int 0, .int 0, .int 0, .int 0, .long 0]))] s.heap := hP
  have hl := lv_entry ([.ref h0]) (n := 1) (Nat.le_of_ble_eq_true rfl)
  rw [lg_entry_eq]
  generalize (lg_sl ([.ref h0]) ++ List.replicate (1 - (lg_sl ([.ref h0])).length) Slot.unset).toArray = ls at hl ⊢
  have hl : lv_has ls 1 [(0, .ref h0)] := hl
  refine lv_aload_n hx hb dX5_init_0 rfl (lv_at hl 0 rfl) ?_
  refine W.objInit hx hb hown (hts (.methodLink RX5 3 objectInit) (List.mem_of_getElem? (i := 1) rfl)) (hts (.instanceMethod objectInit) (List.mem_of_getElem? (i := 2) rfl)) (hts (.code objectInit ⟨#[0xb1]⟩ 1 none) (List.mem_of_getElem? (i := 3) rfl)) rfl (by rw [hml]; exact hl.1) rfl dX5_init_1 (Nat.le_of_ble_eq_true rfl) (Nat.le_of_ble_eq_true rfl) ?_
  refine W.eq (g2 := F0 m 4 ls []) rfl ?_
  refine W.widen (k := 0) (n := 0) (Nat.le_of_ble_eq_true rfl) (Nat.le_of_ble_eq_true rfl) ?_
  exact W.vret hx hb hr (fun t ht hW => ⟨⟨(fun i => ([] : List Nat).getD i 0), rfl, trivial, ⟨by rw [ht]; exact hP.sub [0] rfl, hD.sub [0] (by decide) rfl⟩⟩, hS.F ht⟩) hS.2.2 dX5_init_4
noncomputable def v_c_X3_init : List Cond := .code yX3_init cX3_init 1 none :: ([.methodLink RX3 3 objectInit, .instanceMethod objectInit, .code objectInit ⟨#[0xb1]⟩ 1 none, .arrayClass .int, .fieldLink RX3 9 "TileHouse$Tiles" "free" "[I", .fieldLink RX3 15 "TileHouse$Tiles" "all" "[I", .fieldLink RX3 18 "TileHouse$Tiles" "sort" "[I", .fieldLink RX3 21 "TileHouse$Tiles" "low" "[I"] ++ (wsX30 ++ ([])))
theorem vg_c_X3_init : ∀ w ∈ v_c_X3_init, goodWord w = true := vg_c (c := .code yX3_init cX3_init 1 none) (l := [.methodLink RX3 3 objectInit, .instanceMethod objectInit, .code objectInit ⟨#[0xb1]⟩ 1 none, .arrayClass .int, .fieldLink RX3 9 "TileHouse$Tiles" "free" "[I", .fieldLink RX3 15 "TileHouse$Tiles" "all" "[I", .fieldLink RX3 18 "TileHouse$Tiles" "sort" "[I", .fieldLink RX3 21 "TileHouse$Tiles" "low" "[I"]) (by decide +kernel) (vg_a vgX3 (vg_nil))
theorem i_c_X3_init_X3 : ∀ w ∈ u_ws RX3 TX3 6, w ∈ v_c_X3_init := fun _ h => List.mem_cons_of_mem _ (List.mem_append_right _ (List.mem_append_left _ h))
set_option maxHeartbeats 4000000 in
set_option maxRecDepth 100000 in
theorem c_X3_init (l : Launch) (G : va_G) (k : Nat → ClassId) (sz : Nat) (h0 : Nat) : Met l yX3_init v_c_X3_init ({ frames := 1, cells := 4, slots := 76, locals := 12 }) (va_Pc [.ref h0] (pq G k [(h0, .inr (2, [.null, .null, .null, .null, .int 0, .int 0]))] sz)) (va_Qv (fun _ : Nat → Nat => True) (fun u => pt G (va_A [(h0, .inr (2, [.null, .null, .null, .null, .int 0, .int 0]))] sz) [(h0, .inr (2, [.ref (u 0), .ref (u 1), .ref (u 2), .ref (u 3), .int 0, .int 0])), ((u 0), .inl (k 0, 34, .inl (fun _ => 0))), ((u 1), .inl (k 0, 34, .inl (fun _ => 0))), ((u 2), .inl (k 0, 4, .inl (fun _ => 0))), ((u 3), .inl (k 0, 4, .inl (fun _ => 0)))]) (va_A [(h0, .inr (2, [.null, .null, .null, .null, .int 0, .int 0]))] sz)) 4 76 (va_A [(h0, .inr (2, [.null, .null, .null, .null, .int 0, .int 0]))] sz) := by
  refine Met.ofW (cc := cX3_init) (maxL := 1) (ret := none) (by decide) rfl ?_
  intro p e s m args below meth c s₁ B hml hv
  obtain ⟨rfl, hsz, ⟨hP, hK, hN⟩, hD0⟩ := hv
  have hx := B.exec
  have hb := B.bytes
  have hr := B.returns
  have hts := atoms_spec (ws := v_c_X3_init) B.pre
  have hown : s.vm.findClass RX3 = some m.cls := findClass_of_methodNamed B.named
  have hlocks := B.notSynchronized
  have hin : meth.name = "<init>" := (name_of_methodNamed B.named B.method).1
  subst hsz
  have hD := hD0.self (sz := s.heap.size)
  generalize hAe : va_A [(h0, .inr (2, [.null, .null, .null, .null, .int 0, .int 0]))] s.heap.size = A at hD ⊢
  have hA : ∀ q : Nat, s.heap.size ≤ q → A q := fun q h => by rw [← hAe]; exact Or.inr h
  have hS : va_S A s.heap s.heap [] := va_S.rf
  have hP : va_P G vwCl [(h0, .inr (2, [.null, .null, .null, .null, .int 0, .int 0]))] s.heap := hP
  have hl := lv_entry ([.ref h0]) (n := 1) (Nat.le_of_ble_eq_true rfl)
  rw [lg_entry_eq]
  generalize (lg_sl ([.ref h0]) ++ List.replicate (1 - (lg_sl ([.ref h0])).length) Slot.unset).toArray = ls at hl ⊢
  have hl : lv_has ls 1 [(0, .ref h0)] := hl
  refine lv_aload_n hx hb dX3_init_0 rfl (lv_at hl 0 rfl) ?_
  refine W.objInit hx hb hown (hts (.methodLink RX3 3 objectInit) (List.mem_of_getElem? (i := 1) rfl)) (hts (.instanceMethod objectInit) (List.mem_of_getElem? (i := 2) rfl)) (hts (.code objectInit ⟨#[0xb1]⟩ 1 none) (List.mem_of_getElem? (i := 3) rfl)) rfl (by rw [hml]; exact hl.1) rfl dX3_init_1 (Nat.le_of_ble_eq_true rfl) (Nat.le_of_ble_eq_true rfl) ?_
  refine W.eq (g2 := F0 m 4 ls []) rfl ?_
  refine lv_aload_n hx hb dX3_init_4 rfl (lv_at hl 0 rfl) ?_
  refine lv_bipush (v := 34) hx hb dX3_init_5 (by decide) ?_
  refine va_newa (atype := .int) (ty := .int) (N' := 34) (a0 := (34, .inl (fun _ => 0))) hx hb (hts (.arrayClass .int) (List.mem_of_getElem? (i := 4) rfl)) rfl hK hP hD hS hA (fun cA => rfl) (by decide) (by decide) (by decide) (Nat.le_of_ble_eq_true rfl) (Nat.le_of_ble_eq_true rfl) dX3_init_7 (fun q1 cA H hK1 hP hD hS => ?_)
  obtain rfl : cA = k 0 := ty_same0 hK1 hK
  replace hP : va_P G vwCl [(h0, .inr (2, [.null, .null, .null, .null, .int 0, .int 0])), (q1, .inl (k 0, 34, .inl (fun _ => 0)))] H := hP
  replace hD : va_D A [(h0, .inr (2, [.null, .null, .null, .null, .int 0, .int 0])), (q1, .inl (k 0, 34, .inl (fun _ => 0)))] := hD
  refine va_putF (D := G) (ci := 2) (v := .ref q1) (ty := (.array .int)) (C := RX3) (T := TX3) (N := 6) hx hb hts i_c_X3_init_X3 tyX3 tyX3_ok nmX3 hown hK hP hD hS 0 rfl rfl 0 (by decide) (hts (.fieldLink RX3 9 "TileHouse$Tiles" "free" "[I") (List.mem_of_getElem? (i := 5) rfl)) (fun _ h9 => h9) rfl hin rfl (by decide +kernel) rfl rfl (Nat.le_of_ble_eq_true rfl) dX3_init_9 (fun H locs hP hD hS => ?_)
  replace hP : va_P G vwCl [(h0, .inr (2, [.ref q1, .null, .null, .null, .int 0, .int 0])), (q1, .inl (k 0, 34, .inl (fun _ => 0)))] H := hP
  replace hD : va_D A [(h0, .inr (2, [.ref q1, .null, .null, .null, .int 0, .int 0])), (q1, .inl (k 0, 34, .inl (fun _ => 0)))] := hD
  refine lv_aload_n hx hb dX3_init_12 rfl (lv_at hl 0 rfl) ?_
  refine lv_bipush (v := 34) hx hb dX3_init_13 (by decide) ?_
  refine va_newa (atype := .int) (ty := .int) (N' := 34) (a0 := (34, .inl (fun _ => 0))) hx hb (hts (.arrayClass .int) (List.mem_of_getElem? (i := 4) rfl)) rfl hK hP hD hS hA (fun cA => rfl) (by decide) (by decide) (by decide) (Nat.le_of_ble_eq_true rfl) (Nat.le_of_ble_eq_true rfl) dX3_init_15 (fun q2 cA H hK1 hP hD hS => ?_)
  obtain rfl : cA = k 0 := ty_same0 hK1 hK
  replace hP : va_P G vwCl [(h0, .inr (2, [.ref q1, .null, .null, .null, .int 0, .int 0])), (q1, .inl (k 0, 34, .inl (fun _ => 0))), (q2, .inl (k 0, 34, .inl (fun _ => 0)))] H := hP
  replace hD : va_D A [(h0, .inr (2, [.ref q1, .null, .null, .null, .int 0, .int 0])), (q1, .inl (k 0, 34, .inl (fun _ => 0))), (q2, .inl (k 0, 34, .inl (fun _ => 0)))] := hD
  refine va_putF (D := G) (ci := 2) (v := .ref q2) (ty := (.array .int)) (C := RX3) (T := TX3) (N := 6) hx hb hts i_c_X3_init_X3 tyX3 tyX3_ok nmX3 hown hK hP hD hS 0 rfl rfl 1 (by decide) (hts (.fieldLink RX3 15 "TileHouse$Tiles" "all" "[I") (List.mem_of_getElem? (i := 6) rfl)) (fun _ h9 => h9) rfl hin rfl (by decide +kernel) rfl rfl (Nat.le_of_ble_eq_true rfl) dX3_init_17 (fun H locs hP hD hS => ?_)
  replace hP : va_P G vwCl [(h0, .inr (2, [.ref q1, .ref q2, .null, .null, .int 0, .int 0])), (q1, .inl (k 0, 34, .inl (fun _ => 0))), (q2, .inl (k 0, 34, .inl (fun _ => 0)))] H := hP
  replace hD : va_D A [(h0, .inr (2, [.ref q1, .ref q2, .null, .null, .int 0, .int 0])), (q1, .inl (k 0, 34, .inl (fun _ => 0))), (q2, .inl (k 0, 34, .inl (fun _ => 0)))] := hD
  refine lv_aload_n hx hb dX3_init_20 rfl (lv_at hl 0 rfl) ?_
  refine lv_iconst (v := 4) hx hb dX3_init_21 (by decide) ?_
  refine va_newa (atype := .int) (ty := .int) (N' := 4) (a0 := (4, .inl (fun _ => 0))) hx hb (hts (.arrayClass .int) (List.mem_of_getElem? (i := 4) rfl)) rfl hK hP hD hS hA (fun cA => rfl) (by decide) (by decide) (by decide) (Nat.le_of_ble_eq_true rfl) (Nat.le_of_ble_eq_true rfl) dX3_init_22 (fun q3 cA H hK1 hP hD hS => ?_)
  obtain rfl : cA = k 0 := ty_same0 hK1 hK
  replace hP : va_P G vwCl [(h0, .inr (2, [.ref q1, .ref q2, .null, .null, .int 0, .int 0])), (q1, .inl (k 0, 34, .inl (fun _ => 0))), (q2, .inl (k 0, 34, .inl (fun _ => 0))), (q3, .inl (k 0, 4, .inl (fun _ => 0)))] H := hP
  replace hD : va_D A [(h0, .inr (2, [.ref q1, .ref q2, .null, .null, .int 0, .int 0])), (q1, .inl (k 0, 34, .inl (fun _ => 0))), (q2, .inl (k 0, 34, .inl (fun _ => 0))), (q3, .inl (k 0, 4, .inl (fun _ => 0)))] := hD
  refine va_putF (D := G) (ci := 2) (v := .ref q3) (ty := (.array .int)) (C := RX3) (T := TX3) (N := 6) hx hb hts i_c_X3_init_X3 tyX3 tyX3_ok nmX3 hown hK hP hD hS 0 rfl rfl 2 (by decide) (hts (.fieldLink RX3 18 "TileHouse$Tiles" "sort" "[I") (List.mem_of_getElem? (i := 7) rfl)) (fun _ h9 => h9) rfl hin rfl (by decide +kernel) rfl rfl (Nat.le_of_ble_eq_true rfl) dX3_init_24 (fun H locs hP hD hS => ?_)
  replace hP : va_P G vwCl [(h0, .inr (2, [.ref q1, .ref q2, .ref q3, .null, .int 0, .int 0])), (q1, .inl (k 0, 34, .inl (fun _ => 0))), (q2, .inl (k 0, 34, .inl (fun _ => 0))), (q3, .inl (k 0, 4, .inl (fun _ => 0)))] H := hP
  replace hD : va_D A [(h0, .inr (2, [.ref q1, .ref q2, .ref q3, .null, .int 0, .int 0])), (q1, .inl (k 0, 34, .inl (fun _ => 0))), (q2, .inl (k 0, 34, .inl (fun _ => 0))), (q3, .inl (k 0, 4, .inl (fun _ => 0)))] := hD
  refine lv_aload_n hx hb dX3_init_27 rfl (lv_at hl 0 rfl) ?_
  refine lv_iconst (v := 4) hx hb dX3_init_28 (by decide) ?_
  refine va_newa (atype := .int) (ty := .int) (N' := 4) (a0 := (4, .inl (fun _ => 0))) hx hb (hts (.arrayClass .int) (List.mem_of_getElem? (i := 4) rfl)) rfl hK hP hD hS hA (fun cA => rfl) (by decide) (by decide) (by decide) (Nat.le_of_ble_eq_true rfl) (Nat.le_of_ble_eq_true rfl) dX3_init_29 (fun q4 cA H hK1 hP hD hS => ?_)
  obtain rfl : cA = k 0 := ty_same0 hK1 hK
  replace hP : va_P G vwCl [(h0, .inr (2, [.ref q1, .ref q2, .ref q3, .null, .int 0, .int 0])), (q1, .inl (k 0, 34, .inl (fun _ => 0))), (q2, .inl (k 0, 34, .inl (fun _ => 0))), (q3, .inl (k 0, 4, .inl (fun _ => 0))), (q4, .inl (k 0, 4, .inl (fun _ => 0)))] H := hP
  replace hD : va_D A [(h0, .inr (2, [.ref q1, .ref q2, .ref q3, .null, .int 0, .int 0])), (q1, .inl (k 0, 34, .inl (fun _ => 0))), (q2, .inl (k 0, 34, .inl (fun _ => 0))), (q3, .inl (k 0, 4, .inl (fun _ => 0))), (q4, .inl (k 0, 4, .inl (fun _ => 0)))] := hD
  refine va_putF (D := G) (ci := 2) (v := .ref q4) (ty := (.array .int)) (C := RX3) (T := TX3) (N := 6) hx hb hts i_c_X3_init_X3 tyX3 tyX3_ok nmX3 hown hK hP hD hS 0 rfl rfl 3 (by decide) (hts (.fieldLink RX3 21 "TileHouse$Tiles" "low" "[I") (List.mem_of_getElem? (i := 8) rfl)) (fun _ h9 => h9) rfl hin rfl (by decide +kernel) rfl rfl (Nat.le_of_ble_eq_true rfl) dX3_init_31 (fun H locs hP hD hS => ?_)
  replace hP : va_P G vwCl [(h0, .inr (2, [.ref q1, .ref q2, .ref q3, .ref q4, .int 0, .int 0])), (q1, .inl (k 0, 34, .inl (fun _ => 0))), (q2, .inl (k 0, 34, .inl (fun _ => 0))), (q3, .inl (k 0, 4, .inl (fun _ => 0))), (q4, .inl (k 0, 4, .inl (fun _ => 0)))] H := hP
  replace hD : va_D A [(h0, .inr (2, [.ref q1, .ref q2, .ref q3, .ref q4, .int 0, .int 0])), (q1, .inl (k 0, 34, .inl (fun _ => 0))), (q2, .inl (k 0, 34, .inl (fun _ => 0))), (q3, .inl (k 0, 4, .inl (fun _ => 0))), (q4, .inl (k 0, 4, .inl (fun _ => 0)))] := hD
  refine W.widen (k := 4) (n := 76) (Nat.le_of_ble_eq_true rfl) (Nat.le_of_ble_eq_true rfl) ?_
  exact W.vret hx hb hr (fun t ht hW => ⟨⟨(fun i => ([q1, q2, q3, q4] : List Nat).getD i 0), rfl, trivial, ⟨by rw [ht]; exact hP.sub [0, 1, 2, 3, 4] rfl, hD.sub [0, 1, 2, 3, 4] (by decide) rfl⟩⟩, hS.F ht⟩) hS.2.2 dX3_init_34
noncomputable def v_c_X4_init : List Cond := .code yX4_init cX4_init 1 none :: ([.methodLink RX4 3 objectInit, .instanceMethod objectInit, .code objectInit ⟨#[0xb1]⟩ 1 none, .arrayClass .int, .fieldLink RX4 11 "TileHouse$Wall" "kinds" "[I"] ++ (wsX40 ++ ([])))
theorem vg_c_X4_init : ∀ w ∈ v_c_X4_init, goodWord w = true := vg_c (c := .code yX4_init cX4_init 1 none) (l := [.methodLink RX4 3 objectInit, .instanceMethod objectInit, .code objectInit ⟨#[0xb1]⟩ 1 none, .arrayClass .int, .fieldLink RX4 11 "TileHouse$Wall" "kinds" "[I"]) (by decide +kernel) (vg_a vgX4 (vg_nil))
theorem i_c_X4_init_X4 : ∀ w ∈ u_ws RX4 TX4 4, w ∈ v_c_X4_init := fun _ h => List.mem_cons_of_mem _ (List.mem_append_right _ (List.mem_append_left _ h))
set_option maxHeartbeats 4000000 in
set_option maxRecDepth 100000 in
theorem c_X4_init (l : Launch) (G : va_G) (k : Nat → ClassId) (sz : Nat) (h0 : Nat) : Met l yX4_init v_c_X4_init ({ frames := 1, cells := 1, slots := 136, locals := 12 }) (va_Pc [.ref h0] (pq G k [(h0, .inr (3, [.null, .int 0, .int 0, .int 0]))] sz)) (va_Qv (fun _ : Nat → Nat => True) (fun u => pt G (va_A [(h0, .inr (3, [.null, .int 0, .int 0, .int 0]))] sz) [(h0, .inr (3, [.ref (u 0), .int 0, .int 0, .int 0])), ((u 0), .inl (k 0, 136, .inl (fun _ => 0)))]) (va_A [(h0, .inr (3, [.null, .int 0, .int 0, .int 0]))] sz)) 1 136 (va_A [(h0, .inr (3, [.null, .int 0, .int 0, .int 0]))] sz) := by
  refine Met.ofW (cc := cX4_init) (maxL := 1) (ret := none) (by decide) rfl ?_
  intro p e s m args below meth c s₁ B hml hv
  obtain ⟨rfl, hsz, ⟨hP, hK, hN⟩, hD0⟩ := hv
  have hx := B.exec
  have hb := B.bytes
  have hr := B.returns
  have hts := atoms_spec (ws := v_c_X4_init) B.pre
  have hown : s.vm.findClass RX4 = some m.cls := findClass_of_methodNamed B.named
  have hlocks := B.notSynchronized
  have hin : meth.name = "<init>" := (name_of_methodNamed B.named B.method).1
  subst hsz
  have hD := hD0.self (sz := s.heap.size)
  generalize hAe : va_A [(h0, .inr (3, [.null, .int 0, .int 0, .int 0]))] s.heap.size = A at hD ⊢
  have hA : ∀ q : Nat, s.heap.size ≤ q → A q := fun q h => by rw [← hAe]; exact Or.inr h
  have hS : va_S A s.heap s.heap [] := va_S.rf
  have hP : va_P G vwCl [(h0, .inr (3, [.null, .int 0, .int 0, .int 0]))] s.heap := hP
  have hl := lv_entry ([.ref h0]) (n := 1) (Nat.le_of_ble_eq_true rfl)
  rw [lg_entry_eq]
  generalize (lg_sl ([.ref h0]) ++ List.replicate (1 - (lg_sl ([.ref h0])).length) Slot.unset).toArray = ls at hl ⊢
  have hl : lv_has ls 1 [(0, .ref h0)] := hl
  refine lv_aload_n hx hb dX4_init_0 rfl (lv_at hl 0 rfl) ?_
  refine W.objInit hx hb hown (hts (.methodLink RX4 3 objectInit) (List.mem_of_getElem? (i := 1) rfl)) (hts (.instanceMethod objectInit) (List.mem_of_getElem? (i := 2) rfl)) (hts (.code objectInit ⟨#[0xb1]⟩ 1 none) (List.mem_of_getElem? (i := 3) rfl)) rfl (by rw [hml]; exact hl.1) rfl dX4_init_1 (Nat.le_of_ble_eq_true rfl) (Nat.le_of_ble_eq_true rfl) ?_
  refine W.eq (g2 := F0 m 4 ls []) rfl ?_
  refine lv_aload_n hx hb dX4_init_4 rfl (lv_at hl 0 rfl) ?_
  refine lv_sipush (v := 136) hx hb dX4_init_5 (by decide) ?_
  refine va_newa (atype := .int) (ty := .int) (N' := 136) (a0 := (136, .inl (fun _ => 0))) hx hb (hts (.arrayClass .int) (List.mem_of_getElem? (i := 4) rfl)) rfl hK hP hD hS hA (fun cA => rfl) (by decide) (by decide) (by decide) (Nat.le_of_ble_eq_true rfl) (Nat.le_of_ble_eq_true rfl) dX4_init_8 (fun q1 cA H hK1 hP hD hS => ?_)
  obtain rfl : cA = k 0 := ty_same0 hK1 hK
  replace hP : va_P G vwCl [(h0, .inr (3, [.null, .int 0, .int 0, .int 0])), (q1, .inl (k 0, 136, .inl (fun _ => 0)))] H := hP
  replace hD : va_D A [(h0, .inr (3, [.null, .int 0, .int 0, .int 0])), (q1, .inl (k 0, 136, .inl (fun _ => 0)))] := hD
  refine va_putF (D := G) (ci := 3) (v := .ref q1) (ty := (.array .int)) (C := RX4) (T := TX4) (N := 4) hx hb hts i_c_X4_init_X4 tyX4 tyX4_ok nmX4 hown hK hP hD hS 0 rfl rfl 0 (by decide) (hts (.fieldLink RX4 11 "TileHouse$Wall" "kinds" "[I") (List.mem_of_getElem? (i := 5) rfl)) (fun _ h9 => h9) rfl hin rfl (by decide +kernel) rfl rfl (Nat.le_of_ble_eq_true rfl) dX4_init_10 (fun H locs hP hD hS => ?_)
  replace hP : va_P G vwCl [(h0, .inr (3, [.ref q1, .int 0, .int 0, .int 0])), (q1, .inl (k 0, 136, .inl (fun _ => 0)))] H := hP
  replace hD : va_D A [(h0, .inr (3, [.ref q1, .int 0, .int 0, .int 0])), (q1, .inl (k 0, 136, .inl (fun _ => 0)))] := hD
  refine W.widen (k := 1) (n := 136) (Nat.le_of_ble_eq_true rfl) (Nat.le_of_ble_eq_true rfl) ?_
  exact W.vret hx hb hr (fun t ht hW => ⟨⟨(fun i => ([q1] : List Nat).getD i 0), rfl, trivial, ⟨by rw [ht]; exact hP.sub [0, 1] rfl, hD.sub [0, 1] (by decide) rfl⟩⟩, hS.F ht⟩) hS.2.2 dX4_init_13
noncomputable def v_c_X1_init : List Cond := .code yX1_init cX1_init 1 none :: ([.methodLink RX1 3 objectInit, .instanceMethod objectInit, .code objectInit ⟨#[0xb1]⟩ 1 none, .arrayClass .int, .fieldLink RX1 9 "TileHouse$Judge" "sort" "[I", .fieldLink RX1 15 "TileHouse$Judge" "low" "[I", .fieldLink RX1 18 "TileHouse$Judge" "mayBeThrees" "[I"] ++ (wsX10 ++ ([])))
theorem vg_c_X1_init : ∀ w ∈ v_c_X1_init, goodWord w = true := vg_c (c := .code yX1_init cX1_init 1 none) (l := [.methodLink RX1 3 objectInit, .instanceMethod objectInit, .code objectInit ⟨#[0xb1]⟩ 1 none, .arrayClass .int, .fieldLink RX1 9 "TileHouse$Judge" "sort" "[I", .fieldLink RX1 15 "TileHouse$Judge" "low" "[I", .fieldLink RX1 18 "TileHouse$Judge" "mayBeThrees" "[I"]) (by decide +kernel) (vg_a vgX1 (vg_nil))
theorem i_c_X1_init_X1 : ∀ w ∈ u_ws RX1 TX1 19, w ∈ v_c_X1_init := fun _ h => List.mem_cons_of_mem _ (List.mem_append_right _ (List.mem_append_left _ h))
set_option maxHeartbeats 4000000 in
set_option maxRecDepth 100000 in
theorem c_X1_init (l : Launch) (G : va_G) (k : Nat → ClassId) (sz : Nat) (h0 : Nat) : Met l yX1_init v_c_X1_init ({ frames := 1, cells := 3, slots := 12, locals := 12 }) (va_Pc [.ref h0] (pq G k [(h0, .inr (0, [.int 0, .int 0, .int 0, .long 0, .int 0, .null, .int 0, .int 0, .int 0, .int 0, .int 0, .int 0, .long 0, .null, .null, .int 0, .long 0, .long 0, .null]))] sz)) (va_Qv (fun _ : Nat → Nat => True) (fun u => pt G (va_A [(h0, .inr (0, [.int 0, .int 0, .int 0, .long 0, .int 0, .null, .int 0, .int 0, .int 0, .int 0, .int 0, .int 0, .long 0, .null, .null, .int 0, .long 0, .long 0, .null]))] sz) [(h0, .inr (0, [.int 0, .int 0, .int 0, .long 0, .int 0, .null, .int 0, .int 0, .int 0, .int 0, .int 0, .int 0, .long 0, .ref (u 0), .ref (u 1), .int 0, .long 0, .long 0, .ref (u 2)])), ((u 0), .inl (k 0, 4, .inl (fun _ => 0))), ((u 1), .inl (k 0, 4, .inl (fun _ => 0))), ((u 2), .inl (k 0, 4, .inl (fun _ => 0)))]) (va_A [(h0, .inr (0, [.int 0, .int 0, .int 0, .long 0, .int 0, .null, .int 0, .int 0, .int 0, .int 0, .int 0, .int 0, .long 0, .null, .null, .int 0, .long 0, .long 0, .null]))] sz)) 3 12 (va_A [(h0, .inr (0, [.int 0, .int 0, .int 0, .long 0, .int 0, .null, .int 0, .int 0, .int 0, .int 0, .int 0, .int 0, .long 0, .null, .null, .int 0, .long 0, .long 0, .null]))] sz) := by
  refine Met.ofW (cc := cX1_init) (maxL := 1) (ret := none) (by decide) rfl ?_
  intro p e s m args below meth c s₁ B hml hv
  obtain ⟨rfl, hsz, ⟨hP, hK, hN⟩, hD0⟩ := hv
  have hx := B.exec
  have hb := B.bytes
  have hr := B.returns
  have hts := atoms_spec (ws := v_c_X1_init) B.pre
  have hown : s.vm.findClass RX1 = some m.cls := findClass_of_methodNamed B.named
  have hlocks := B.notSynchronized
  have hin : meth.name = "<init>" := (name_of_methodNamed B.named B.method).1
  subst hsz
  have hD := hD0.self (sz := s.heap.size)
  generalize hAe : va_A [(h0, .inr (0, [.int 0, .int 0, .int 0, .long 0, .int 0, .null, .int 0, .int 0, .int 0, .int 0, .int 0, .int 0, .long 0, .null, .null, .int 0, .long 0, .long 0, .null]))] s.heap.size = A at hD ⊢
  have hA : ∀ q : Nat, s.heap.size ≤ q → A q := fun q h => by rw [← hAe]; exact Or.inr h
  have hS : va_S A s.heap s.heap [] := va_S.rf
  have hP : va_P G vwCl [(h0, .inr (0, [.int 0, .int 0, .int 0, .long 0, .int 0, .null, .int 0, .int 0, .int 0, .int 0, .int 0, .int 0, .long 0, .null, .null, .int 0, .long 0, .long 0, .null]))] s.heap := hP
  have hl := lv_entry ([.ref h0]) (n := 1) (Nat.le_of_ble_eq_true rfl)
  rw [lg_entry_eq]
  generalize (lg_sl ([.ref h0]) ++ List.replicate (1 - (lg_sl ([.ref h0])).length) Slot.unset).toArray = ls at hl ⊢
  have hl : lv_has ls 1 [(0, .ref h0)] := hl
  refine lv_aload_n hx hb dX1_init_0 rfl (lv_at hl 0 rfl) ?_
  refine W.objInit hx hb hown (hts (.methodLink RX1 3 objectInit) (List.mem_of_getElem? (i := 1) rfl)) (hts (.instanceMethod objectInit) (List.mem_of_getElem? (i := 2) rfl)) (hts (.code objectInit ⟨#[0xb1]⟩ 1 none) (List.mem_of_getElem? (i := 3) rfl)) rfl (by rw [hml]; exact hl.1) rfl dX1_init_1 (Nat.le_of_ble_eq_true rfl) (Nat.le_of_ble_eq_true rfl) ?_
  refine W.eq (g2 := F0 m 4 ls []) rfl ?_
  refine lv_aload_n hx hb dX1_init_4 rfl (lv_at hl 0 rfl) ?_
  refine lv_iconst (v := 4) hx hb dX1_init_5 (by decide) ?_
  refine va_newa (atype := .int) (ty := .int) (N' := 4) (a0 := (4, .inl (fun _ => 0))) hx hb (hts (.arrayClass .int) (List.mem_of_getElem? (i := 4) rfl)) rfl hK hP hD hS hA (fun cA => rfl) (by decide) (by decide) (by decide) (Nat.le_of_ble_eq_true rfl) (Nat.le_of_ble_eq_true rfl) dX1_init_6 (fun q1 cA H hK1 hP hD hS => ?_)
  obtain rfl : cA = k 0 := ty_same0 hK1 hK
  replace hP : va_P G vwCl [(h0, .inr (0, [.int 0, .int 0, .int 0, .long 0, .int 0, .null, .int 0, .int 0, .int 0, .int 0, .int 0, .int 0, .long 0, .null, .null, .int 0, .long 0, .long 0, .null])), (q1, .inl (k 0, 4, .inl (fun _ => 0)))] H := hP
  replace hD : va_D A [(h0, .inr (0, [.int 0, .int 0, .int 0, .long 0, .int 0, .null, .int 0, .int 0, .int 0, .int 0, .int 0, .int 0, .long 0, .null, .null, .int 0, .long 0, .long 0, .null])), (q1, .inl (k 0, 4, .inl (fun _ => 0)))] := hD
  refine va_putF (D := G) (ci := 0) (v := .ref q1) (ty := (.array .int)) (C := RX1) (T := TX1) (N := 19) hx hb hts i_c_X1_init_X1 tyX1 tyX1_ok nmX1 hown hK hP hD hS 0 rfl rfl 13 (by decide) (hts (.fieldLink RX1 9 "TileHouse$Judge" "sort" "[I") (List.mem_of_getElem? (i := 5) rfl)) (fun _ h9 => h9) rfl hin rfl (by decide +kernel) rfl rfl (Nat.le_of_ble_eq_true rfl) dX1_init_8 (fun H locs hP hD hS => ?_)
  replace hP : va_P G vwCl [(h0, .inr (0, [.int 0, .int 0, .int 0, .long 0, .int 0, .null, .int 0, .int 0, .int 0, .int 0, .int 0, .int 0, .long 0, .ref q1, .null, .int 0, .long 0, .long 0, .null])), (q1, .inl (k 0, 4, .inl (fun _ => 0)))] H := hP
  replace hD : va_D A [(h0, .inr (0, [.int 0, .int 0, .int 0, .long 0, .int 0, .null, .int 0, .int 0, .int 0, .int 0, .int 0, .int 0, .long 0, .ref q1, .null, .int 0, .long 0, .long 0, .null])), (q1, .inl (k 0, 4, .inl (fun _ => 0)))] := hD
  refine lv_aload_n hx hb dX1_init_11 rfl (lv_at hl 0 rfl) ?_
  refine lv_iconst (v := 4) hx hb dX1_init_12 (by decide) ?_
  refine va_newa (atype := .int) (ty := .int) (N' := 4) (a0 := (4, .inl (fun _ => 0))) hx hb (hts (.arrayClass .int) (List.mem_of_getElem? (i := 4) rfl)) rfl hK hP hD hS hA (fun cA => rfl) (by decide) (by decide) (by decide) (Nat.le_of_ble_eq_true rfl) (Nat.le_of_ble_eq_true rfl) dX1_init_13 (fun q2 cA H hK1 hP hD hS => ?_)
  obtain rfl : cA = k 0 := ty_same0 hK1 hK
  replace hP : va_P G vwCl [(h0, .inr (0, [.int 0, .int 0, .int 0, .long 0, .int 0, .null, .int 0, .int 0, .int 0, .int 0, .int 0, .int 0, .long 0, .ref q1, .null, .int 0, .long 0, .long 0, .null])), (q1, .inl (k 0, 4, .inl (fun _ => 0))), (q2, .inl (k 0, 4, .inl (fun _ => 0)))] H := hP
  replace hD : va_D A [(h0, .inr (0, [.int 0, .int 0, .int 0, .long 0, .int 0, .null, .int 0, .int 0, .int 0, .int 0, .int 0, .int 0, .long 0, .ref q1, .null, .int 0, .long 0, .long 0, .null])), (q1, .inl (k 0, 4, .inl (fun _ => 0))), (q2, .inl (k 0, 4, .inl (fun _ => 0)))] := hD
  refine va_putF (D := G) (ci := 0) (v := .ref q2) (ty := (.array .int)) (C := RX1) (T := TX1) (N := 19) hx hb hts i_c_X1_init_X1 tyX1 tyX1_ok nmX1 hown hK hP hD hS 0 rfl rfl 14 (by decide) (hts (.fieldLink RX1 15 "TileHouse$Judge" "low" "[I") (List.mem_of_getElem? (i := 6) rfl)) (fun _ h9 => h9) rfl hin rfl (by decide +kernel) rfl rfl (Nat.le_of_ble_eq_true rfl) dX1_init_15 (fun H locs hP hD hS => ?_)
  replace hP : va_P G vwCl [(h0, .inr (0, [.int 0, .int 0, .int 0, .long 0, .int 0, .null, .int 0, .int 0, .int 0, .int 0, .int 0, .int 0, .long 0, .ref q1, .ref q2, .int 0, .long 0, .long 0, .null])), (q1, .inl (k 0, 4, .inl (fun _ => 0))), (q2, .inl (k 0, 4, .inl (fun _ => 0)))] H := hP
  replace hD : va_D A [(h0, .inr (0, [.int 0, .int 0, .int 0, .long 0, .int 0, .null, .int 0, .int 0, .int 0, .int 0, .int 0, .int 0, .long 0, .ref q1, .ref q2, .int 0, .long 0, .long 0, .null])), (q1, .inl (k 0, 4, .inl (fun _ => 0))), (q2, .inl (k 0, 4, .inl (fun _ => 0)))] := hD
  refine lv_aload_n hx hb dX1_init_18 rfl (lv_at hl 0 rfl) ?_
  refine lv_iconst (v := 4) hx hb dX1_init_19 (by decide) ?_
  refine va_newa (atype := .int) (ty := .int) (N' := 4) (a0 := (4, .inl (fun _ => 0))) hx hb (hts (.arrayClass .int) (List.mem_of_getElem? (i := 4) rfl)) rfl hK hP hD hS hA (fun cA => rfl) (by decide) (by decide) (by decide) (Nat.le_of_ble_eq_true rfl) (Nat.le_of_ble_eq_true rfl) dX1_init_20 (fun q3 cA H hK1 hP hD hS => ?_)
  obtain rfl : cA = k 0 := ty_same0 hK1 hK
  replace hP : va_P G vwCl [(h0, .inr (0, [.int 0, .int 0, .int 0, .long 0, .int 0, .null, .int 0, .int 0, .int 0, .int 0, .int 0, .int 0, .long 0, .ref q1, .ref q2, .int 0, .long 0, .long 0, .null])), (q1, .inl (k 0, 4, .inl (fun _ => 0))), (q2, .inl (k 0, 4, .inl (fun _ => 0))), (q3, .inl (k 0, 4, .inl (fun _ => 0)))] H := hP
  replace hD : va_D A [(h0, .inr (0, [.int 0, .int 0, .int 0, .long 0, .int 0, .null, .int 0, .int 0, .int 0, .int 0, .int 0, .int 0, .long 0, .ref q1, .ref q2, .int 0, .long 0, .long 0, .null])), (q1, .inl (k 0, 4, .inl (fun _ => 0))), (q2, .inl (k 0, 4, .inl (fun _ => 0))), (q3, .inl (k 0, 4, .inl (fun _ => 0)))] := hD
  refine va_putF (D := G) (ci := 0) (v := .ref q3) (ty := (.array .int)) (C := RX1) (T := TX1) (N := 19) hx hb hts i_c_X1_init_X1 tyX1 tyX1_ok nmX1 hown hK hP hD hS 0 rfl rfl 18 (by decide) (hts (.fieldLink RX1 18 "TileHouse$Judge" "mayBeThrees" "[I") (List.mem_of_getElem? (i := 7) rfl)) (fun _ h9 => h9) rfl hin rfl (by decide +kernel) rfl rfl (Nat.le_of_ble_eq_true rfl) dX1_init_22 (fun H locs hP hD hS => ?_)
  replace hP : va_P G vwCl [(h0, .inr (0, [.int 0, .int 0, .int 0, .long 0, .int 0, .null, .int 0, .int 0, .int 0, .int 0, .int 0, .int 0, .long 0, .ref q1, .ref q2, .int 0, .long 0, .long 0, .ref q3])), (q1, .inl (k 0, 4, .inl (fun _ => 0))), (q2, .inl (k 0, 4, .inl (fun _ => 0))), (q3, .inl (k 0, 4, .inl (fun _ => 0)))] H := hP
  replace hD : va_D A [(h0, .inr (0, [.int 0, .int 0, .int 0, .long 0, .int 0, .null, .int 0, .int 0, .int 0, .int 0, .int 0, .int 0, .long 0, .ref q1, .ref q2, .int 0, .long 0, .long 0, .ref q3])), (q1, .inl (k 0, 4, .inl (fun _ => 0))), (q2, .inl (k 0, 4, .inl (fun _ => 0))), (q3, .inl (k 0, 4, .inl (fun _ => 0)))] := hD
  refine W.widen (k := 3) (n := 12) (Nat.le_of_ble_eq_true rfl) (Nat.le_of_ble_eq_true rfl) ?_
  exact W.vret hx hb hr (fun t ht hW => ⟨⟨(fun i => ([q1, q2, q3] : List Nat).getD i 0), rfl, trivial, ⟨by rw [ht]; exact hP.sub [0, 1, 2, 3] rfl, hD.sub [0, 1, 2, 3] (by decide) rfl⟩⟩, hS.F ht⟩) hS.2.2 dX1_init_25
noncomputable def v_c_X2_init : List Cond := .code yX2_init cX2_init 1 none :: ([.methodLink RX2 3 objectInit, .instanceMethod objectInit, .code objectInit ⟨#[0xb1]⟩ 1 none, .classLink RX2 9 RX3, .instantiable RX3 6, .initialized RX3, .instanceMethod yX3_init, .fieldLink RX2 12 "TileHouse$Seat" "tiles" "LTileHouse$Tiles;", .arrayClass .int, .fieldLink RX2 18 "TileHouse$Seat" "thrown" "[I", .fieldLink RX2 22 "TileHouse$Seat" "points" "I"] ++ (wsX30 ++ (v_c_X3_init ++ (wsX20 ++ ([])))))
theorem vg_c_X2_init : ∀ w ∈ v_c_X2_init, goodWord w = true := vg_c (c := .code yX2_init cX2_init 1 none) (l := [.methodLink RX2 3 objectInit, .instanceMethod objectInit, .code objectInit ⟨#[0xb1]⟩ 1 none, .classLink RX2 9 RX3, .instantiable RX3 6, .initialized RX3, .instanceMethod yX3_init, .fieldLink RX2 12 "TileHouse$Seat" "tiles" "LTileHouse$Tiles;", .arrayClass .int, .fieldLink RX2 18 "TileHouse$Seat" "thrown" "[I", .fieldLink RX2 22 "TileHouse$Seat" "points" "I"]) (by decide +kernel) (vg_a vgX3 (vg_a vg_c_X3_init (vg_a vgX2 (vg_nil))))
theorem i_c_X2_init_X3 : ∀ w ∈ u_ws RX3 TX3 6, w ∈ v_c_X2_init := fun _ h => List.mem_cons_of_mem _ (List.mem_append_right _ (List.mem_append_left _ h))
theorem i_c_X2_init_X2 : ∀ w ∈ u_ws RX2 TX2 10, w ∈ v_c_X2_init := fun _ h => List.mem_cons_of_mem _ (List.mem_append_right _ (List.mem_append_right _ (List.mem_append_right _ (List.mem_append_left _ h))))
theorem g_c_X2_init_c_X3_init_11 : GoodIn v_c_X2_init (v_c_X3_init) := fun w h => ⟨List.mem_cons_of_mem _ (List.mem_append_right _ (List.mem_append_right _ (List.mem_append_left _ h))), good_of_word (vg_c_X3_init w h)⟩
set_option maxHeartbeats 4000000 in
set_option maxRecDepth 100000 in
theorem c_X2_init (l : Launch) (G : va_G) (k : Nat → ClassId) (sz : Nat) (h0 : Nat) : Met l yX2_init v_c_X2_init ({ frames := 2, cells := 6, slots := 168, locals := 32 }) (va_Pc [.ref h0] (pq G k [(h0, .inr (1, [.null, .null, .int 0, .long 0, .int 0, .int 0, .int 0, .int 0, .int 0, .int 0]))] sz)) (va_Qv (fun _ : Nat → Nat => True) (fun u => pt G (va_A [(h0, .inr (1, [.null, .null, .int 0, .long 0, .int 0, .int 0, .int 0, .int 0, .int 0, .int 0]))] sz) [(h0, .inr (1, [.ref (u 0), .ref (u 5), .int 0, .long 0, .int 25000, .int 0, .int 0, .int 0, .int 0, .int 0])), ((u 0), .inr (2, [.ref (u 1), .ref (u 2), .ref (u 3), .ref (u 4), .int 0, .int 0])), ((u 1), .inl (k 0, 34, .inl (fun _ => 0))), ((u 2), .inl (k 0, 34, .inl (fun _ => 0))), ((u 3), .inl (k 0, 4, .inl (fun _ => 0))), ((u 4), .inl (k 0, 4, .inl (fun _ => 0))), ((u 5), .inl (k 0, 86, .inl (fun _ => 0)))]) (va_A [(h0, .inr (1, [.null, .null, .int 0, .long 0, .int 0, .int 0, .int 0, .int 0, .int 0, .int 0]))] sz)) 6 168 (va_A [(h0, .inr (1, [.null, .null, .int 0, .long 0, .int 0, .int 0, .int 0, .int 0, .int 0, .int 0]))] sz) := by
  refine Met.ofW (cc := cX2_init) (maxL := 1) (ret := none) (by decide) rfl ?_
  intro p e s m args below meth c s₁ B hml hv
  obtain ⟨rfl, hsz, ⟨hP, hK, hN⟩, hD0⟩ := hv
  have hx := B.exec
  have hb := B.bytes
  have hr := B.returns
  have hts := atoms_spec (ws := v_c_X2_init) B.pre
  have hown : s.vm.findClass RX2 = some m.cls := findClass_of_methodNamed B.named
  have hlocks := B.notSynchronized
  have hin : meth.name = "<init>" := (name_of_methodNamed B.named B.method).1
  subst hsz
  have hD := hD0.self (sz := s.heap.size)
  generalize hAe : va_A [(h0, .inr (1, [.null, .null, .int 0, .long 0, .int 0, .int 0, .int 0, .int 0, .int 0, .int 0]))] s.heap.size = A at hD ⊢
  have hA : ∀ q : Nat, s.heap.size ≤ q → A q := fun q h => by rw [← hAe]; exact Or.inr h
  have hS : va_S A s.heap s.heap [] := va_S.rf
  have hP : va_P G vwCl [(h0, .inr (1, [.null, .null, .int 0, .long 0, .int 0, .int 0, .int 0, .int 0, .int 0, .int 0]))] s.heap := hP
  have hl := lv_entry ([.ref h0]) (n := 1) (Nat.le_of_ble_eq_true rfl)
  rw [lg_entry_eq]
  generalize (lg_sl ([.ref h0]) ++ List.replicate (1 - (lg_sl ([.ref h0])).length) Slot.unset).toArray = ls at hl ⊢
  have hl : lv_has ls 1 [(0, .ref h0)] := hl
  refine lv_aload_n hx hb dX2_init_0 rfl (lv_at hl 0 rfl) ?_
  refine W.objInit hx hb hown (hts (.methodLink RX2 3 objectInit) (List.mem_of_getElem? (i := 1) rfl)) (hts (.instanceMethod objectInit) (List.mem_of_getElem? (i := 2) rfl)) (hts (.code objectInit ⟨#[0xb1]⟩ 1 none) (List.mem_of_getElem? (i := 3) rfl)) rfl (by rw [hml]; exact hl.1) rfl dX2_init_1 (Nat.le_of_ble_eq_true rfl) (Nat.le_of_ble_eq_true rfl) ?_
  refine W.eq (g2 := F0 m 4 ls []) rfl ?_
  refine lv_aload_n hx hb dX2_init_4 rfl (lv_at hl 0 rfl) ?_
  refine va_new (ci := 2) (fs := [.null, .null, .null, .null, .int 0, .int 0]) (C := RX3) (T := TX3) (N := 6) hx hb hts i_c_X2_init_X3 tyX3 tyX3_ok hown (hts (.classLink RX2 9 RX3) (List.mem_of_getElem? (i := 4) rfl)) (hts (.instantiable RX3 6) (List.mem_of_getElem? (i := 5) rfl)) (hts (.initialized RX3) (List.mem_of_getElem? (i := 6) rfl)) hK hP hD hS hA rfl (by decide) (Nat.le_of_ble_eq_true rfl) (Nat.le_of_ble_eq_true rfl) dX2_init_5 (fun q1 H hP hD hS => ?_)
  replace hP : va_P G vwCl [(h0, .inr (1, [.null, .null, .int 0, .long 0, .int 0, .int 0, .int 0, .int 0, .int 0, .int 0])), (q1, .inr (2, [.null, .null, .null, .null, .int 0, .int 0]))] H := hP
  replace hD : va_D A [(h0, .inr (1, [.null, .null, .int 0, .long 0, .int 0, .int 0, .int 0, .int 0, .int 0, .int 0])), (q1, .inr (2, [.null, .null, .null, .null, .int 0, .int 0]))] := hD
  refine lv_dup hx hb dX2_init_8 rfl ?_
  have hPc := hP.sub (ws' := [(q1, .inr (2, [.null, .null, .null, .null, .int 0, .int 0]))]) [1] rfl
  have hDc := hD.sub (ws' := [(q1, .inr (2, [.null, .null, .null, .null, .int 0, .int 0]))]) [1] (by decide) rfl
  have hFc := va_free (wc := [(q1, .inr (2, [.null, .null, .null, .null, .int 0, .int 0]))]) hD hS hA [1] rfl
  refine va_callv (va_runIN (As := []) (rest := [.ref q1, .ref h0]) ⟨hx, hb, hml, hown, hts⟩ (c_X3_init l G k H.size q1) ⟨va_cnB 0 hts g_c_X2_init_c_X3_init_11 rfl rfl rfl (nw_X2_11 hN) (hts (.initialized RX3) (List.mem_of_getElem? (i := 6) rfl)) (by decide +kernel) ⟨Nat.le_of_ble_eq_true rfl, Nat.le_of_ble_eq_true rfl⟩, rfl, (hts (.instanceMethod yX3_init) (List.mem_of_getElem? (i := 7) rfl))⟩ ⟨pq_bl, pq_pre hPc hDc hK hN⟩ rfl rfl hl.1 rfl (lv_room (Nat.le_of_ble_eq_true rfl)) dX2_init_9 ⟨Nat.le_of_ble_eq_true rfl, Nat.le_of_ble_eq_true rfl⟩) hS (fun q _ h => hFc q h) hFc (fun ur2 t H1 locs ht hvm hr2 hB hz1 hk1 hS => ?_)
  obtain ⟨hP1, hD1⟩ := hB
  rw [ht] at hP1
  obtain ⟨hP, hD⟩ := va_join (wr := [(h0, .inr (1, [.null, .null, .int 0, .long 0, .int 0, .int 0, .int 0, .int 0, .int 0, .int 0]))]) (w1 := [(q1, .inr (2, [.ref (ur2 0), .ref (ur2 1), .ref (ur2 2), .ref (ur2 3), .int 0, .int 0])), ((ur2 0), .inl (k 0, 34, .inl (fun _ => 0))), ((ur2 1), .inl (k 0, 34, .inl (fun _ => 0))), ((ur2 2), .inl (k 0, 4, .inl (fun _ => 0))), ((ur2 3), .inl (k 0, 4, .inl (fun _ => 0)))]) hP hD [1] [0] rfl rfl (by decide) (by decide) hk1 hFc hP1 hD1
  generalize H1 = H at hP hS ⊢
  replace hP : va_P G vwCl [(h0, .inr (1, [.null, .null, .int 0, .long 0, .int 0, .int 0, .int 0, .int 0, .int 0, .int 0])), (q1, .inr (2, [.ref (ur2 0), .ref (ur2 1), .ref (ur2 2), .ref (ur2 3), .int 0, .int 0])), ((ur2 0), .inl (k 0, 34, .inl (fun _ => 0))), ((ur2 1), .inl (k 0, 34, .inl (fun _ => 0))), ((ur2 2), .inl (k 0, 4, .inl (fun _ => 0))), ((ur2 3), .inl (k 0, 4, .inl (fun _ => 0)))] H := hP
  replace hD : va_D A [(h0, .inr (1, [.null, .null, .int 0, .long 0, .int 0, .int 0, .int 0, .int 0, .int 0, .int 0])), (q1, .inr (2, [.ref (ur2 0), .ref (ur2 1), .ref (ur2 2), .ref (ur2 3), .int 0, .int 0])), ((ur2 0), .inl (k 0, 34, .inl (fun _ => 0))), ((ur2 1), .inl (k 0, 34, .inl (fun _ => 0))), ((ur2 2), .inl (k 0, 4, .inl (fun _ => 0))), ((ur2 3), .inl (k 0, 4, .inl (fun _ => 0)))] := hD
  refine va_putF (D := G) (ci := 1) (v := .ref q1) (ty := (.object "TileHouse$Tiles")) (C := RX2) (T := TX2) (N := 10) hx hb hts i_c_X2_init_X2 tyX2 tyX2_ok nmX2 hown hK hP hD hS 0 rfl rfl 0 (by decide) (hts (.fieldLink RX2 12 "TileHouse$Seat" "tiles" "LTileHouse$Tiles;") (List.mem_of_getElem? (i := 8) rfl)) (fun _ h9 => h9) rfl hin rfl (by decide +kernel) rfl rfl (Nat.le_of_ble_eq_true rfl) dX2_init_12 (fun H locs hP hD hS => ?_)
  replace hP : va_P G vwCl [(h0, .inr (1, [.ref q1, .null, .int 0, .long 0, .int 0, .int 0, .int 0, .int 0, .int 0, .int 0])), (q1, .inr (2, [.ref (ur2 0), .ref (ur2 1), .ref (ur2 2), .ref (ur2 3), .int 0, .int 0])), ((ur2 0), .inl (k 0, 34, .inl (fun _ => 0))), ((ur2 1), .inl (k 0, 34, .inl (fun _ => 0))), ((ur2 2), .inl (k 0, 4, .inl (fun _ => 0))), ((ur2 3), .inl (k 0, 4, .inl (fun _ => 0)))] H := hP
  replace hD : va_D A [(h0, .inr (1, [.ref q1, .null, .int 0, .long 0, .int 0, .int 0, .int 0, .int 0, .int 0, .int 0])), (q1, .inr (2, [.ref (ur2 0), .ref (ur2 1), .ref (ur2 2), .ref (ur2 3), .int 0, .int 0])), ((ur2 0), .inl (k 0, 34, .inl (fun _ => 0))), ((ur2 1), .inl (k 0, 34, .inl (fun _ => 0))), ((ur2 2), .inl (k 0, 4, .inl (fun _ => 0))), ((ur2 3), .inl (k 0, 4, .inl (fun _ => 0)))] := hD
  refine lv_aload_n hx hb dX2_init_15 rfl (lv_at hl 0 rfl) ?_
  refine lv_bipush (v := 86) hx hb dX2_init_16 (by decide) ?_
  refine va_newa (atype := .int) (ty := .int) (N' := 86) (a0 := (86, .inl (fun _ => 0))) hx hb (hts (.arrayClass .int) (List.mem_of_getElem? (i := 9) rfl)) rfl hK hP hD hS hA (fun cA => rfl) (by decide) (by decide) (by decide) (Nat.le_of_ble_eq_true rfl) (Nat.le_of_ble_eq_true rfl) dX2_init_18 (fun q3 cA H hK1 hP hD hS => ?_)
  obtain rfl : cA = k 0 := ty_same0 hK1 hK
  replace hP : va_P G vwCl [(h0, .inr (1, [.ref q1, .null, .int 0, .long 0, .int 0, .int 0, .int 0, .int 0, .int 0, .int 0])), (q1, .inr (2, [.ref (ur2 0), .ref (ur2 1), .ref (ur2 2), .ref (ur2 3), .int 0, .int 0])), ((ur2 0), .inl (k 0, 34, .inl (fun _ => 0))), ((ur2 1), .inl (k 0, 34, .inl (fun _ => 0))), ((ur2 2), .inl (k 0, 4, .inl (fun _ => 0))), ((ur2 3), .inl (k 0, 4, .inl (fun _ => 0))), (q3, .inl (k 0, 86, .inl (fun _ => 0)))] H := hP
  replace hD : va_D A [(h0, .inr (1, [.ref q1, .null, .int 0, .long 0, .int 0, .int 0, .int 0, .int 0, .int 0, .int 0])), (q1, .inr (2, [.ref (ur2 0), .ref (ur2 1), .ref (ur2 2), .ref (ur2 3), .int 0, .int 0])), ((ur2 0), .inl (k 0, 34, .inl (fun _ => 0))), ((ur2 1), .inl (k 0, 34, .inl (fun _ => 0))), ((ur2 2), .inl (k 0, 4, .inl (fun _ => 0))), ((ur2 3), .inl (k 0, 4, .inl (fun _ => 0))), (q3, .inl (k 0, 86, .inl (fun _ => 0)))] := hD
  refine va_putF (D := G) (ci := 1) (v := .ref q3) (ty := (.array .int)) (C := RX2) (T := TX2) (N := 10) hx hb hts i_c_X2_init_X2 tyX2 tyX2_ok nmX2 hown hK hP hD hS 0 rfl rfl 1 (by decide) (hts (.fieldLink RX2 18 "TileHouse$Seat" "thrown" "[I") (List.mem_of_getElem? (i := 10) rfl)) (fun _ h9 => h9) rfl hin rfl (by decide +kernel) rfl rfl (Nat.le_of_ble_eq_true rfl) dX2_init_20 (fun H locs hP hD hS => ?_)
  replace hP : va_P G vwCl [(h0, .inr (1, [.ref q1, .ref q3, .int 0, .long 0, .int 0, .int 0, .int 0, .int 0, .int 0, .int 0])), (q1, .inr (2, [.ref (ur2 0), .ref (ur2 1), .ref (ur2 2), .ref (ur2 3), .int 0, .int 0])), ((ur2 0), .inl (k 0, 34, .inl (fun _ => 0))), ((ur2 1), .inl (k 0, 34, .inl (fun _ => 0))), ((ur2 2), .inl (k 0, 4, .inl (fun _ => 0))), ((ur2 3), .inl (k 0, 4, .inl (fun _ => 0))), (q3, .inl (k 0, 86, .inl (fun _ => 0)))] H := hP
  replace hD : va_D A [(h0, .inr (1, [.ref q1, .ref q3, .int 0, .long 0, .int 0, .int 0, .int 0, .int 0, .int 0, .int 0])), (q1, .inr (2, [.ref (ur2 0), .ref (ur2 1), .ref (ur2 2), .ref (ur2 3), .int 0, .int 0])), ((ur2 0), .inl (k 0, 34, .inl (fun _ => 0))), ((ur2 1), .inl (k 0, 34, .inl (fun _ => 0))), ((ur2 2), .inl (k 0, 4, .inl (fun _ => 0))), ((ur2 3), .inl (k 0, 4, .inl (fun _ => 0))), (q3, .inl (k 0, 86, .inl (fun _ => 0)))] := hD
  refine lv_aload_n hx hb dX2_init_23 rfl (lv_at hl 0 rfl) ?_
  refine lv_sipush (v := 25000) hx hb dX2_init_24 (by decide) ?_
  refine va_put (D := G) (ci := 1) (v := .int 25000) (ty := .int) (C := RX2) (T := TX2) (N := 10) hx hb hts i_c_X2_init_X2 tyX2 tyX2_ok nmX2 hown hK hP hD hS 0 rfl rfl 4 (by decide) (hts (.fieldLink RX2 22 "TileHouse$Seat" "points" "I") (List.mem_of_getElem? (i := 11) rfl)) (fun _ h9 => h9) rfl (by decide +kernel) rfl rfl (Nat.le_of_ble_eq_true rfl) dX2_init_27 (fun H locs hP hD hS => ?_)
  replace hP : va_P G vwCl [(h0, .inr (1, [.ref q1, .ref q3, .int 0, .long 0, .int 25000, .int 0, .int 0, .int 0, .int 0, .int 0])), (q1, .inr (2, [.ref (ur2 0), .ref (ur2 1), .ref (ur2 2), .ref (ur2 3), .int 0, .int 0])), ((ur2 0), .inl (k 0, 34, .inl (fun _ => 0))), ((ur2 1), .inl (k 0, 34, .inl (fun _ => 0))), ((ur2 2), .inl (k 0, 4, .inl (fun _ => 0))), ((ur2 3), .inl (k 0, 4, .inl (fun _ => 0))), (q3, .inl (k 0, 86, .inl (fun _ => 0)))] H := hP
  replace hD : va_D A [(h0, .inr (1, [.ref q1, .ref q3, .int 0, .long 0, .int 25000, .int 0, .int 0, .int 0, .int 0, .int 0])), (q1, .inr (2, [.ref (ur2 0), .ref (ur2 1), .ref (ur2 2), .ref (ur2 3), .int 0, .int 0])), ((ur2 0), .inl (k 0, 34, .inl (fun _ => 0))), ((ur2 1), .inl (k 0, 34, .inl (fun _ => 0))), ((ur2 2), .inl (k 0, 4, .inl (fun _ => 0))), ((ur2 3), .inl (k 0, 4, .inl (fun _ => 0))), (q3, .inl (k 0, 86, .inl (fun _ => 0)))] := hD
  refine W.widen (k := 6) (n := 168) (Nat.le_of_ble_eq_true rfl) (Nat.le_of_ble_eq_true rfl) ?_
  exact W.vret hx hb hr (fun t ht hW => ⟨⟨(fun i => ([q1, (ur2 0), (ur2 1), (ur2 2), (ur2 3), q3] : List Nat).getD i 0), rfl, trivial, ⟨by rw [ht]; exact hP.sub [0, 1, 2, 3, 4, 5, 6] rfl, hD.sub [0, 1, 2, 3, 4, 5, 6] (by decide) rfl⟩⟩, hS.F ht⟩) hS.2.2 dX2_init_30
