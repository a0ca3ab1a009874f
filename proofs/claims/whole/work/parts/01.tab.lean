-- ===== PART A: goes FIRST, ahead of the names: the tables' words, and 'selects' of the private methods out of them =====
/-- a private method of a class that the tables say can be made, by its rows of tables_1 -/
def lw_okq (q : MethodName × Nat) : Prop := (q.1.cls ≠ "java/lang/invoke/MethodHandle" ∧ q.1.cls ≠ "java/lang/invoke/VarHandle") ∧ Cond.instantiable q.1.cls q.2 ∈ tables_1 ∧ Cond.privateMethod q.1 ∈ tables_1 ∧ Cond.instanceMethod q.1 ∈ tables_1
theorem lw_p0 : lw_okq (⟨"HoldingStack$History", "dropOldest", "()V"⟩, 2) := ⟨⟨by decide +kernel, by decide +kernel⟩, List.mem_of_getElem? (i := 144) (by decide +kernel), List.mem_of_getElem? (i := 238) (by decide +kernel), List.mem_of_getElem? (i := 239) (by decide +kernel)⟩
theorem lw_p1 : lw_okq (⟨"HoldingStack", "checkEntry", "(LHoldingStack$Kind;II)I"⟩, 5) := ⟨⟨by decide +kernel, by decide +kernel⟩, List.mem_of_getElem? (i := 13) (by decide +kernel), List.mem_of_getElem? (i := 301) (by decide +kernel), List.mem_of_getElem? (i := 302) (by decide +kernel)⟩
theorem lw_p2 : lw_okq (⟨"HoldingStack$State", "setHolder", "(II)V"⟩, 16) := ⟨⟨by decide +kernel, by decide +kernel⟩, List.mem_of_getElem? (i := 21) (by decide +kernel), List.mem_of_getElem? (i := 329) (by decide +kernel), List.mem_of_getElem? (i := 330) (by decide +kernel)⟩
theorem lw_p3 : lw_okq (⟨"HoldingStack", "checkCall", "(I)I"⟩, 5) := ⟨⟨by decide +kernel, by decide +kernel⟩, List.mem_of_getElem? (i := 13) (by decide +kernel), List.mem_of_getElem? (i := 337) (by decide +kernel), List.mem_of_getElem? (i := 338) (by decide +kernel)⟩
theorem lw_p4 : lw_okq (⟨"HoldingStack$State", "burnAndFly", "()V"⟩, 16) := ⟨⟨by decide +kernel, by decide +kernel⟩, List.mem_of_getElem? (i := 21) (by decide +kernel), List.mem_of_getElem? (i := 362) (by decide +kernel), List.mem_of_getElem? (i := 363) (by decide +kernel)⟩
theorem lw_p5 : lw_okq (⟨"HoldingStack$State", "divertStarved", "()V"⟩, 16) := ⟨⟨by decide +kernel, by decide +kernel⟩, List.mem_of_getElem? (i := 21) (by decide +kernel), List.mem_of_getElem? (i := 381) (by decide +kernel), List.mem_of_getElem? (i := 382) (by decide +kernel)⟩
theorem lw_p6 : lw_okq (⟨"HoldingStack$State", "leave", "(LHoldingStack$Aircraft;I)V"⟩, 16) := ⟨⟨by decide +kernel, by decide +kernel⟩, List.mem_of_getElem? (i := 21) (by decide +kernel), List.mem_of_getElem? (i := 389) (by decide +kernel), List.mem_of_getElem? (i := 390) (by decide +kernel)⟩
theorem lw_p7 : lw_okq (⟨"HoldingStack$State", "landOne", "()I"⟩, 16) := ⟨⟨by decide +kernel, by decide +kernel⟩, List.mem_of_getElem? (i := 21) (by decide +kernel), List.mem_of_getElem? (i := 393) (by decide +kernel), List.mem_of_getElem? (i := 394) (by decide +kernel)⟩
theorem lw_p8 : lw_okq (⟨"HoldingStack$State", "nextToLand", "()LHoldingStack$Aircraft;"⟩, 16) := ⟨⟨by decide +kernel, by decide +kernel⟩, List.mem_of_getElem? (i := 21) (by decide +kernel), List.mem_of_getElem? (i := 397) (by decide +kernel), List.mem_of_getElem? (i := 398) (by decide +kernel)⟩
theorem lw_p9 : lw_okq (⟨"HoldingStack$State", "goDownLadder", "()V"⟩, 16) := ⟨⟨by decide +kernel, by decide +kernel⟩, List.mem_of_getElem? (i := 21) (by decide +kernel), List.mem_of_getElem? (i := 409) (by decide +kernel), List.mem_of_getElem? (i := 410) (by decide +kernel)⟩
theorem lw_p10 : lw_okq (⟨"HoldingStack", "tellNumberOfAircraft", "(I)I"⟩, 5) := ⟨⟨by decide +kernel, by decide +kernel⟩, List.mem_of_getElem? (i := 13) (by decide +kernel), List.mem_of_getElem? (i := 430) (by decide +kernel), List.mem_of_getElem? (i := 431) (by decide +kernel)⟩
theorem lw_p11 : lw_okq (⟨"HoldingStack", "tellFuel", "(I)I"⟩, 5) := ⟨⟨by decide +kernel, by decide +kernel⟩, List.mem_of_getElem? (i := 13) (by decide +kernel), List.mem_of_getElem? (i := 435) (by decide +kernel), List.mem_of_getElem? (i := 436) (by decide +kernel)⟩
theorem lw_p12 : lw_okq (⟨"HoldingStack", "forecast", "()V"⟩, 5) := ⟨⟨by decide +kernel, by decide +kernel⟩, List.mem_of_getElem? (i := 13) (by decide +kernel), List.mem_of_getElem? (i := 449) (by decide +kernel), List.mem_of_getElem? (i := 450) (by decide +kernel)⟩
theorem lw_p13 : lw_okq (⟨"HoldingStack", "forecastMinutes", "(I)I"⟩, 5) := ⟨⟨by decide +kernel, by decide +kernel⟩, List.mem_of_getElem? (i := 13) (by decide +kernel), List.mem_of_getElem? (i := 459) (by decide +kernel), List.mem_of_getElem? (i := 460) (by decide +kernel)⟩
theorem lw_p14 : lw_okq (⟨"HoldingStack$Strips", "peek", "()C"⟩, 8) := ⟨⟨by decide +kernel, by decide +kernel⟩, List.mem_of_getElem? (i := 177) (by decide +kernel), List.mem_of_getElem? (i := 516) (by decide +kernel), List.mem_of_getElem? (i := 517) (by decide +kernel)⟩
theorem lw_p15 : lw_okq (⟨"HoldingStack$Strips", "readEntry", "()V"⟩, 8) := ⟨⟨by decide +kernel, by decide +kernel⟩, List.mem_of_getElem? (i := 177) (by decide +kernel), List.mem_of_getElem? (i := 520) (by decide +kernel), List.mem_of_getElem? (i := 521) (by decide +kernel)⟩
def lw_privs_1 : List (MethodName × Nat) := [(⟨"HoldingStack$History", "dropOldest", "()V"⟩, 2), (⟨"HoldingStack", "checkEntry", "(LHoldingStack$Kind;II)I"⟩, 5), (⟨"HoldingStack$State", "setHolder", "(II)V"⟩, 16), (⟨"HoldingStack", "checkCall", "(I)I"⟩, 5), (⟨"HoldingStack$State", "burnAndFly", "()V"⟩, 16), (⟨"HoldingStack$State", "divertStarved", "()V"⟩, 16), (⟨"HoldingStack$State", "leave", "(LHoldingStack$Aircraft;I)V"⟩, 16), (⟨"HoldingStack$State", "landOne", "()I"⟩, 16), (⟨"HoldingStack$State", "nextToLand", "()LHoldingStack$Aircraft;"⟩, 16), (⟨"HoldingStack$State", "goDownLadder", "()V"⟩, 16), (⟨"HoldingStack", "tellNumberOfAircraft", "(I)I"⟩, 5), (⟨"HoldingStack", "tellFuel", "(I)I"⟩, 5), (⟨"HoldingStack", "forecast", "()V"⟩, 5), (⟨"HoldingStack", "forecastMinutes", "(I)I"⟩, 5), (⟨"HoldingStack$Strips", "peek", "()C"⟩, 8), (⟨"HoldingStack$Strips", "readEntry", "()V"⟩, 8)]
theorem lw_r1 : ∀ q ∈ lw_privs_1, lw_okq q := List.forall_mem_cons.mpr ⟨lw_p0, List.forall_mem_cons.mpr ⟨lw_p1, List.forall_mem_cons.mpr ⟨lw_p2, List.forall_mem_cons.mpr ⟨lw_p3, List.forall_mem_cons.mpr ⟨lw_p4, List.forall_mem_cons.mpr ⟨lw_p5, List.forall_mem_cons.mpr ⟨lw_p6, List.forall_mem_cons.mpr ⟨lw_p7, List.forall_mem_cons.mpr ⟨lw_p8, List.forall_mem_cons.mpr ⟨lw_p9, List.forall_mem_cons.mpr ⟨lw_p10, List.forall_mem_cons.mpr ⟨lw_p11, List.forall_mem_cons.mpr ⟨lw_p12, List.forall_mem_cons.mpr ⟨lw_p13, List.forall_mem_cons.mpr ⟨lw_p14, List.forall_mem_cons.mpr ⟨lw_p15, fun _ h => absurd h List.not_mem_nil⟩⟩⟩⟩⟩⟩⟩⟩⟩⟩⟩⟩⟩⟩⟩⟩
theorem lw_p16 : lw_okq (⟨"HoldingStack$Strips", "readKind", "()LHoldingStack$Kind;"⟩, 8) := ⟨⟨by decide +kernel, by decide +kernel⟩, List.mem_of_getElem? (i := 177) (by decide +kernel), List.mem_of_getElem? (i := 524) (by decide +kernel), List.mem_of_getElem? (i := 525) (by decide +kernel)⟩
theorem lw_p17 : lw_okq (⟨"HoldingStack$Strips", "fail", "(I)V"⟩, 8) := ⟨⟨by decide +kernel, by decide +kernel⟩, List.mem_of_getElem? (i := 177) (by decide +kernel), List.mem_of_getElem? (i := 528) (by decide +kernel), List.mem_of_getElem? (i := 529) (by decide +kernel)⟩
theorem lw_p18 : lw_okq (⟨"HoldingStack$Strips", "readNumber", "(II)I"⟩, 8) := ⟨⟨by decide +kernel, by decide +kernel⟩, List.mem_of_getElem? (i := 177) (by decide +kernel), List.mem_of_getElem? (i := 535) (by decide +kernel), List.mem_of_getElem? (i := 536) (by decide +kernel)⟩
theorem lw_p19 : lw_okq (⟨"HoldingStack$Strips", "expect", "(C)V"⟩, 8) := ⟨⟨by decide +kernel, by decide +kernel⟩, List.mem_of_getElem? (i := 177) (by decide +kernel), List.mem_of_getElem? (i := 542) (by decide +kernel), List.mem_of_getElem? (i := 543) (by decide +kernel)⟩
theorem lw_p20 : lw_okq (⟨"HoldingStack", "carryOutStrip", "()I"⟩, 5) := ⟨⟨by decide +kernel, by decide +kernel⟩, List.mem_of_getElem? (i := 13) (by decide +kernel), List.mem_of_getElem? (i := 552) (by decide +kernel), List.mem_of_getElem? (i := 553) (by decide +kernel)⟩
theorem lw_p21 : lw_okq (⟨"HoldingStack$Slots", "has", "(I)Z"⟩, 2) := ⟨⟨by decide +kernel, by decide +kernel⟩, List.mem_of_getElem? (i := 161) (by decide +kernel), List.mem_of_getElem? (i := 572) (by decide +kernel), List.mem_of_getElem? (i := 573) (by decide +kernel)⟩
theorem lw_p22 : lw_okq (⟨"HoldingStackModel", "records", "()V"⟩, 15) := ⟨⟨by decide +kernel, by decide +kernel⟩, List.mem_of_getElem? (i := 595) (by decide +kernel), List.mem_of_getElem? (i := 654) (by decide +kernel), List.mem_of_getElem? (i := 655) (by decide +kernel)⟩
theorem lw_p23 : lw_okq (⟨"HoldingStackModel", "puts", "(II)I"⟩, 15) := ⟨⟨by decide +kernel, by decide +kernel⟩, List.mem_of_getElem? (i := 595) (by decide +kernel), List.mem_of_getElem? (i := 665) (by decide +kernel), List.mem_of_getElem? (i := 666) (by decide +kernel)⟩
theorem lw_p24 : lw_okq (⟨"HoldingStackModel", "opens", "(Z)I"⟩, 15) := ⟨⟨by decide +kernel, by decide +kernel⟩, List.mem_of_getElem? (i := 595) (by decide +kernel), List.mem_of_getElem? (i := 677) (by decide +kernel), List.mem_of_getElem? (i := 678) (by decide +kernel)⟩
theorem lw_p25 : lw_okq (⟨"HoldingStackModel", "enterWrong", "(III)I"⟩, 15) := ⟨⟨by decide +kernel, by decide +kernel⟩, List.mem_of_getElem? (i := 595) (by decide +kernel), List.mem_of_getElem? (i := 689) (by decide +kernel), List.mem_of_getElem? (i := 690) (by decide +kernel)⟩
theorem lw_p26 : lw_okq (⟨"HoldingStackModel", "isLevel", "(I)Z"⟩, 15) := ⟨⟨by decide +kernel, by decide +kernel⟩, List.mem_of_getElem? (i := 595) (by decide +kernel), List.mem_of_getElem? (i := 693) (by decide +kernel), List.mem_of_getElem? (i := 694) (by decide +kernel)⟩
theorem lw_p27 : lw_okq (⟨"HoldingStackModel", "refusal", "(III)I"⟩, 15) := ⟨⟨by decide +kernel, by decide +kernel⟩, List.mem_of_getElem? (i := 595) (by decide +kernel), List.mem_of_getElem? (i := 697) (by decide +kernel), List.mem_of_getElem? (i := 698) (by decide +kernel)⟩
theorem lw_p28 : lw_okq (⟨"HoldingStackModel", "on", "(I)I"⟩, 15) := ⟨⟨by decide +kernel, by decide +kernel⟩, List.mem_of_getElem? (i := 595) (by decide +kernel), List.mem_of_getElem? (i := 701) (by decide +kernel), List.mem_of_getElem? (i := 702) (by decide +kernel)⟩
theorem lw_p29 : lw_okq (⟨"HoldingStackModel", "holding", "()I"⟩, 15) := ⟨⟨by decide +kernel, by decide +kernel⟩, List.mem_of_getElem? (i := 595) (by decide +kernel), List.mem_of_getElem? (i := 705) (by decide +kernel), List.mem_of_getElem? (i := 706) (by decide +kernel)⟩
theorem lw_p30 : lw_okq (⟨"HoldingStackModel", "enters", "(III)I"⟩, 15) := ⟨⟨by decide +kernel, by decide +kernel⟩, List.mem_of_getElem? (i := 595) (by decide +kernel), List.mem_of_getElem? (i := 709) (by decide +kernel), List.mem_of_getElem? (i := 710) (by decide +kernel)⟩
theorem lw_p31 : lw_okq (⟨"HoldingStackModel", "callWrong", "(I)I"⟩, 15) := ⟨⟨by decide +kernel, by decide +kernel⟩, List.mem_of_getElem? (i := 595) (by decide +kernel), List.mem_of_getElem? (i := 717) (by decide +kernel), List.mem_of_getElem? (i := 718) (by decide +kernel)⟩
def lw_privs_2 : List (MethodName × Nat) := [(⟨"HoldingStack$Strips", "readKind", "()LHoldingStack$Kind;"⟩, 8), (⟨"HoldingStack$Strips", "fail", "(I)V"⟩, 8), (⟨"HoldingStack$Strips", "readNumber", "(II)I"⟩, 8), (⟨"HoldingStack$Strips", "expect", "(C)V"⟩, 8), (⟨"HoldingStack", "carryOutStrip", "()I"⟩, 5), (⟨"HoldingStack$Slots", "has", "(I)Z"⟩, 2), (⟨"HoldingStackModel", "records", "()V"⟩, 15), (⟨"HoldingStackModel", "puts", "(II)I"⟩, 15), (⟨"HoldingStackModel", "opens", "(Z)I"⟩, 15), (⟨"HoldingStackModel", "enterWrong", "(III)I"⟩, 15), (⟨"HoldingStackModel", "isLevel", "(I)Z"⟩, 15), (⟨"HoldingStackModel", "refusal", "(III)I"⟩, 15), (⟨"HoldingStackModel", "on", "(I)I"⟩, 15), (⟨"HoldingStackModel", "holding", "()I"⟩, 15), (⟨"HoldingStackModel", "enters", "(III)I"⟩, 15), (⟨"HoldingStackModel", "callWrong", "(I)I"⟩, 15)]
theorem lw_r2 : ∀ q ∈ lw_privs_2, lw_okq q := List.forall_mem_cons.mpr ⟨lw_p16, List.forall_mem_cons.mpr ⟨lw_p17, List.forall_mem_cons.mpr ⟨lw_p18, List.forall_mem_cons.mpr ⟨lw_p19, List.forall_mem_cons.mpr ⟨lw_p20, List.forall_mem_cons.mpr ⟨lw_p21, List.forall_mem_cons.mpr ⟨lw_p22, List.forall_mem_cons.mpr ⟨lw_p23, List.forall_mem_cons.mpr ⟨lw_p24, List.forall_mem_cons.mpr ⟨lw_p25, List.forall_mem_cons.mpr ⟨lw_p26, List.forall_mem_cons.mpr ⟨lw_p27, List.forall_mem_cons.mpr ⟨lw_p28, List.forall_mem_cons.mpr ⟨lw_p29, List.forall_mem_cons.mpr ⟨lw_p30, List.forall_mem_cons.mpr ⟨lw_p31, fun _ h => absurd h List.not_mem_nil⟩⟩⟩⟩⟩⟩⟩⟩⟩⟩⟩⟩⟩⟩⟩⟩
theorem lw_p32 : lw_okq (⟨"HoldingStackModel", "isCraft", "(I)Z"⟩, 15) := ⟨⟨by decide +kernel, by decide +kernel⟩, List.mem_of_getElem? (i := 595) (by decide +kernel), List.mem_of_getElem? (i := 721) (by decide +kernel), List.mem_of_getElem? (i := 722) (by decide +kernel)⟩
theorem lw_p33 : lw_okq (⟨"HoldingStackModel", "minutesPass", "(I)I"⟩, 15) := ⟨⟨by decide +kernel, by decide +kernel⟩, List.mem_of_getElem? (i := 595) (by decide +kernel), List.mem_of_getElem? (i := 729) (by decide +kernel), List.mem_of_getElem? (i := 730) (by decide +kernel)⟩
theorem lw_p34 : lw_okq (⟨"HoldingStackModel", "passes", "()I"⟩, 15) := ⟨⟨by decide +kernel, by decide +kernel⟩, List.mem_of_getElem? (i := 595) (by decide +kernel), List.mem_of_getElem? (i := 733) (by decide +kernel), List.mem_of_getElem? (i := 734) (by decide +kernel)⟩
theorem lw_p35 : lw_okq (⟨"HoldingStackModel", "burns", "()V"⟩, 15) := ⟨⟨by decide +kernel, by decide +kernel⟩, List.mem_of_getElem? (i := 595) (by decide +kernel), List.mem_of_getElem? (i := 737) (by decide +kernel), List.mem_of_getElem? (i := 738) (by decide +kernel)⟩
theorem lw_p36 : lw_okq (⟨"HoldingStackModel", "burn", "(II)I"⟩, 15) := ⟨⟨by decide +kernel, by decide +kernel⟩, List.mem_of_getElem? (i := 595) (by decide +kernel), List.mem_of_getElem? (i := 741) (by decide +kernel), List.mem_of_getElem? (i := 742) (by decide +kernel)⟩
theorem lw_p37 : lw_okq (⟨"HoldingStackModel", "leaves", "(II)V"⟩, 15) := ⟨⟨by decide +kernel, by decide +kernel⟩, List.mem_of_getElem? (i := 595) (by decide +kernel), List.mem_of_getElem? (i := 745) (by decide +kernel), List.mem_of_getElem? (i := 746) (by decide +kernel)⟩
theorem lw_p38 : lw_okq (⟨"HoldingStackModel", "lander", "()I"⟩, 15) := ⟨⟨by decide +kernel, by decide +kernel⟩, List.mem_of_getElem? (i := 595) (by decide +kernel), List.mem_of_getElem? (i := 749) (by decide +kernel), List.mem_of_getElem? (i := 750) (by decide +kernel)⟩
theorem lw_p39 : lw_okq (⟨"HoldingStackModel", "isOver", "(I)Z"⟩, 15) := ⟨⟨by decide +kernel, by decide +kernel⟩, List.mem_of_getElem? (i := 595) (by decide +kernel), List.mem_of_getElem? (i := 753) (by decide +kernel), List.mem_of_getElem? (i := 754) (by decide +kernel)⟩
theorem lw_p40 : lw_okq (⟨"HoldingStackModel", "isShort", "(I)Z"⟩, 15) := ⟨⟨by decide +kernel, by decide +kernel⟩, List.mem_of_getElem? (i := 595) (by decide +kernel), List.mem_of_getElem? (i := 757) (by decide +kernel), List.mem_of_getElem? (i := 758) (by decide +kernel)⟩
theorem lw_p41 : lw_okq (⟨"HoldingStackModel", "craftTells", "(II)I"⟩, 15) := ⟨⟨by decide +kernel, by decide +kernel⟩, List.mem_of_getElem? (i := 595) (by decide +kernel), List.mem_of_getElem? (i := 769) (by decide +kernel), List.mem_of_getElem? (i := 770) (by decide +kernel)⟩
theorem lw_p42 : lw_okq (⟨"HoldingStackModel", "tells", "(I)I"⟩, 15) := ⟨⟨by decide +kernel, by decide +kernel⟩, List.mem_of_getElem? (i := 595) (by decide +kernel), List.mem_of_getElem? (i := 777) (by decide +kernel), List.mem_of_getElem? (i := 778) (by decide +kernel)⟩
theorem lw_p43 : lw_okq (⟨"HoldingStackModel", "many", "(I)I"⟩, 15) := ⟨⟨by decide +kernel, by decide +kernel⟩, List.mem_of_getElem? (i := 595) (by decide +kernel), List.mem_of_getElem? (i := 781) (by decide +kernel), List.mem_of_getElem? (i := 782) (by decide +kernel)⟩
theorem lw_p44 : lw_okq (⟨"HoldingStackModel", "whyOf", "(I)I"⟩, 15) := ⟨⟨by decide +kernel, by decide +kernel⟩, List.mem_of_getElem? (i := 595) (by decide +kernel), List.mem_of_getElem? (i := 789) (by decide +kernel), List.mem_of_getElem? (i := 790) (by decide +kernel)⟩
theorem lw_p45 : lw_okq (⟨"HoldingStackModel", "minutesOf", "(I)I"⟩, 15) := ⟨⟨by decide +kernel, by decide +kernel⟩, List.mem_of_getElem? (i := 595) (by decide +kernel), List.mem_of_getElem? (i := 797) (by decide +kernel), List.mem_of_getElem? (i := 798) (by decide +kernel)⟩
theorem lw_p46 : lw_okq (⟨"HoldingStackModel", "forecasts", "(I)V"⟩, 15) := ⟨⟨by decide +kernel, by decide +kernel⟩, List.mem_of_getElem? (i := 595) (by decide +kernel), List.mem_of_getElem? (i := 801) (by decide +kernel), List.mem_of_getElem? (i := 802) (by decide +kernel)⟩
theorem lw_p47 : lw_okq (⟨"HoldingStackModel", "keeps", "([I)V"⟩, 15) := ⟨⟨by decide +kernel, by decide +kernel⟩, List.mem_of_getElem? (i := 595) (by decide +kernel), List.mem_of_getElem? (i := 805) (by decide +kernel), List.mem_of_getElem? (i := 806) (by decide +kernel)⟩
def lw_privs_3 : List (MethodName × Nat) := [(⟨"HoldingStackModel", "isCraft", "(I)Z"⟩, 15), (⟨"HoldingStackModel", "minutesPass", "(I)I"⟩, 15), (⟨"HoldingStackModel", "passes", "()I"⟩, 15), (⟨"HoldingStackModel", "burns", "()V"⟩, 15), (⟨"HoldingStackModel", "burn", "(II)I"⟩, 15), (⟨"HoldingStackModel", "leaves", "(II)V"⟩, 15), (⟨"HoldingStackModel", "lander", "()I"⟩, 15), (⟨"HoldingStackModel", "isOver", "(I)Z"⟩, 15), (⟨"HoldingStackModel", "isShort", "(I)Z"⟩, 15), (⟨"HoldingStackModel", "craftTells", "(II)I"⟩, 15), (⟨"HoldingStackModel", "tells", "(I)I"⟩, 15), (⟨"HoldingStackModel", "many", "(I)I"⟩, 15), (⟨"HoldingStackModel", "whyOf", "(I)I"⟩, 15), (⟨"HoldingStackModel", "minutesOf", "(I)I"⟩, 15), (⟨"HoldingStackModel", "forecasts", "(I)V"⟩, 15), (⟨"HoldingStackModel", "keeps", "([I)V"⟩, 15)]
theorem lw_r3 : ∀ q ∈ lw_privs_3, lw_okq q := List.forall_mem_cons.mpr ⟨lw_p32, List.forall_mem_cons.mpr ⟨lw_p33, List.forall_mem_cons.mpr ⟨lw_p34, List.forall_mem_cons.mpr ⟨lw_p35, List.forall_mem_cons.mpr ⟨lw_p36, List.forall_mem_cons.mpr ⟨lw_p37, List.forall_mem_cons.mpr ⟨lw_p38, List.forall_mem_cons.mpr ⟨lw_p39, List.forall_mem_cons.mpr ⟨lw_p40, List.forall_mem_cons.mpr ⟨lw_p41, List.forall_mem_cons.mpr ⟨lw_p42, List.forall_mem_cons.mpr ⟨lw_p43, List.forall_mem_cons.mpr ⟨lw_p44, List.forall_mem_cons.mpr ⟨lw_p45, List.forall_mem_cons.mpr ⟨lw_p46, List.forall_mem_cons.mpr ⟨lw_p47, fun _ h => absurd h List.not_mem_nil⟩⟩⟩⟩⟩⟩⟩⟩⟩⟩⟩⟩⟩⟩⟩⟩
theorem lw_p48 : lw_okq (⟨"HoldingStackModel", "landsLater", "(I)V"⟩, 15) := ⟨⟨by decide +kernel, by decide +kernel⟩, List.mem_of_getElem? (i := 595) (by decide +kernel), List.mem_of_getElem? (i := 809) (by decide +kernel), List.mem_of_getElem? (i := 810) (by decide +kernel)⟩
theorem lw_p49 : lw_okq (⟨"HoldingStackModel", "comesBack", "()V"⟩, 15) := ⟨⟨by decide +kernel, by decide +kernel⟩, List.mem_of_getElem? (i := 595) (by decide +kernel), List.mem_of_getElem? (i := 813) (by decide +kernel), List.mem_of_getElem? (i := 814) (by decide +kernel)⟩
theorem lw_p50 : lw_okq (⟨"HoldingStackModel", "isText", "()Z"⟩, 15) := ⟨⟨by decide +kernel, by decide +kernel⟩, List.mem_of_getElem? (i := 595) (by decide +kernel), List.mem_of_getElem? (i := 845) (by decide +kernel), List.mem_of_getElem? (i := 846) (by decide +kernel)⟩
theorem lw_p51 : lw_okq (⟨"HoldingStackModel", "isStrip", "()Z"⟩, 15) := ⟨⟨by decide +kernel, by decide +kernel⟩, List.mem_of_getElem? (i := 595) (by decide +kernel), List.mem_of_getElem? (i := 849) (by decide +kernel), List.mem_of_getElem? (i := 850) (by decide +kernel)⟩
theorem lw_p52 : lw_okq (⟨"HoldingStackModel", "takes", "(I)Z"⟩, 15) := ⟨⟨by decide +kernel, by decide +kernel⟩, List.mem_of_getElem? (i := 595) (by decide +kernel), List.mem_of_getElem? (i := 853) (by decide +kernel), List.mem_of_getElem? (i := 854) (by decide +kernel)⟩
theorem lw_p53 : lw_okq (⟨"HoldingStackModel", "here", "()I"⟩, 15) := ⟨⟨by decide +kernel, by decide +kernel⟩, List.mem_of_getElem? (i := 595) (by decide +kernel), List.mem_of_getElem? (i := 857) (by decide +kernel), List.mem_of_getElem? (i := 858) (by decide +kernel)⟩
theorem lw_p54 : lw_okq (⟨"HoldingStackModel", "isNumber", "(III)Z"⟩, 15) := ⟨⟨by decide +kernel, by decide +kernel⟩, List.mem_of_getElem? (i := 595) (by decide +kernel), List.mem_of_getElem? (i := 861) (by decide +kernel), List.mem_of_getElem? (i := 862) (by decide +kernel)⟩
theorem lw_p55 : lw_okq (⟨"HoldingStackModel", "digit", "()I"⟩, 15) := ⟨⟨by decide +kernel, by decide +kernel⟩, List.mem_of_getElem? (i := 595) (by decide +kernel), List.mem_of_getElem? (i := 865) (by decide +kernel), List.mem_of_getElem? (i := 866) (by decide +kernel)⟩
theorem lw_p56 : lw_okq (⟨"HoldingStackModel", "carriesOut", "()Z"⟩, 15) := ⟨⟨by decide +kernel, by decide +kernel⟩, List.mem_of_getElem? (i := 595) (by decide +kernel), List.mem_of_getElem? (i := 873) (by decide +kernel), List.mem_of_getElem? (i := 874) (by decide +kernel)⟩
def lw_privs_4 : List (MethodName × Nat) := [(⟨"HoldingStackModel", "landsLater", "(I)V"⟩, 15), (⟨"HoldingStackModel", "comesBack", "()V"⟩, 15), (⟨"HoldingStackModel", "isText", "()Z"⟩, 15), (⟨"HoldingStackModel", "isStrip", "()Z"⟩, 15), (⟨"HoldingStackModel", "takes", "(I)Z"⟩, 15), (⟨"HoldingStackModel", "here", "()I"⟩, 15), (⟨"HoldingStackModel", "isNumber", "(III)Z"⟩, 15), (⟨"HoldingStackModel", "digit", "()I"⟩, 15), (⟨"HoldingStackModel", "carriesOut", "()Z"⟩, 15)]
theorem lw_r4 : ∀ q ∈ lw_privs_4, lw_okq q := List.forall_mem_cons.mpr ⟨lw_p48, List.forall_mem_cons.mpr ⟨lw_p49, List.forall_mem_cons.mpr ⟨lw_p50, List.forall_mem_cons.mpr ⟨lw_p51, List.forall_mem_cons.mpr ⟨lw_p52, List.forall_mem_cons.mpr ⟨lw_p53, List.forall_mem_cons.mpr ⟨lw_p54, List.forall_mem_cons.mpr ⟨lw_p55, List.forall_mem_cons.mpr ⟨lw_p56, fun _ h => absurd h List.not_mem_nil⟩⟩⟩⟩⟩⟩⟩⟩⟩
def lw_privs : List (MethodName × Nat) := lw_privs_1 ++ (lw_privs_2 ++ (lw_privs_3 ++ (lw_privs_4)))
def lw_tbl : List Cond := k2_sels lw_privs ++ tables_1
theorem lw_privs_ok : ∀ q ∈ lw_privs, lw_okq q := by
  show ∀ q ∈ lw_privs_1 ++ (lw_privs_2 ++ (lw_privs_3 ++ (lw_privs_4))), lw_okq q
  exact List.forall_mem_append.mpr ⟨lw_r1, List.forall_mem_append.mpr ⟨lw_r2, List.forall_mem_append.mpr ⟨lw_r3, lw_r4⟩⟩⟩

def RX0 : String := "HoldingStack$Aircraft"
def TX0 : u_T := fun k => match k with
  | 0 => ("HoldingStack$Aircraft", "number", "I", true)
  | 1 => ("HoldingStack$Aircraft", "kind", "LHoldingStack$Kind;", false)
  | 2 => ("HoldingStack$Aircraft", "fuel", "I", false)
  | 3 => ("HoldingStack$Aircraft", "status", "I", false)
  | 4 => ("HoldingStack$Aircraft", "level", "I", false)
  | 5 => ("HoldingStack$Aircraft", "place", "I", false)
  | 6 => ("HoldingStack$Aircraft", "called", "Z", false)
  | _ => ("HoldingStack$Aircraft", "endTime", "I", false)
def tyX0 : Nat → FieldType := fun k => match k with
  | 0 => .int
  | 1 => .object "HoldingStack$Kind"
  | 2 => .int
  | 3 => .int
  | 4 => .int
  | 5 => .int
  | 6 => .boolean
  | _ => .int
abbrev wsX00 : List Cond := u_ws RX0 TX0 8
theorem nmX0 : ∀ a, a < 8 → ∀ b, b < 8 → a ≠ b → (TX0 a).2.1 ≠ (TX0 b).2.1 := by decide +kernel
theorem tyX0_ok : ∀ k, k < 8 → parseFieldDescriptor (TX0 k).2.2.1 = some (tyX0 k) := by decide +kernel
abbrev cX0_init : ByteArray := prog_2_method_1_code
def yX0_init : MethodName := ⟨RX0, "<init>", "(I)V"⟩
abbrev cX0_copyFrom : ByteArray := prog_2_method_2_code
def yX0_copyFrom : MethodName := ⟨RX0, "copyFrom", "(LHoldingStack$Aircraft;)V"⟩
abbrev cX0_isHolding : ByteArray := prog_2_method_3_code
def yX0_isHolding : MethodName := ⟨RX0, "isHolding", "()Z"⟩
abbrev cX0_isOverFix : ByteArray := prog_2_method_4_code
def yX0_isOverFix : MethodName := ⟨RX0, "isOverFix", "()Z"⟩
abbrev cX0_isShort : ByteArray := prog_2_method_5_code
def yX0_isShort : MethodName := ⟨RX0, "isShort", "()Z"⟩
abbrev cX0_mustDivert : ByteArray := prog_2_method_6_code
def yX0_mustDivert : MethodName := ⟨RX0, "mustDivert", "()Z"⟩
abbrev cX0_burnPerMinute : ByteArray := prog_2_method_7_code
def yX0_burnPerMinute : MethodName := ⟨RX0, "burnPerMinute", "()I"⟩
abbrev cX0_minutesUntilShort : ByteArray := prog_2_method_8_code
def yX0_minutesUntilShort : MethodName := ⟨RX0, "minutesUntilShort", "()I"⟩
abbrev cX0_burnForMinute : ByteArray := prog_2_method_9_code
def yX0_burnForMinute : MethodName := ⟨RX0, "burnForMinute", "()I"⟩
abbrev cX0_flyMinute : ByteArray := prog_2_method_10_code
def yX0_flyMinute : MethodName := ⟨RX0, "flyMinute", "(I)V"⟩
def RX1 : String := "HoldingStack$History"
def TX1 : u_T := fun k => match k with
  | 0 => ("HoldingStack$History", "states", "[LHoldingStack$State;", true)
  | _ => ("HoldingStack$History", "size", "I", false)
def tyX1 : Nat → FieldType := fun k => match k with
  | 0 => .array (.object "HoldingStack$State")
  | _ => .int
abbrev wsX10 : List Cond := u_ws RX1 TX1 2
theorem nmX1 : ∀ a, a < 2 → ∀ b, b < 2 → a ≠ b → (TX1 a).2.1 ≠ (TX1 b).2.1 := by decide +kernel
theorem tyX1_ok : ∀ k, k < 2 → parseFieldDescriptor (TX1 k).2.2.1 = some (tyX1 k) := by decide +kernel
abbrev cX1_init : ByteArray := prog_3_method_1_code
def yX1_init : MethodName := ⟨RX1, "<init>", "()V"⟩
abbrev cX1_push : ByteArray := prog_3_method_2_code
def yX1_push : MethodName := ⟨RX1, "push", "(LHoldingStack$State;)V"⟩
abbrev cX1_dropOldest : ByteArray := prog_3_method_3_code
def yX1_dropOldest : MethodName := ⟨RX1, "dropOldest", "()V"⟩
abbrev cX1_popInto : ByteArray := prog_3_method_4_code
def yX1_popInto : MethodName := ⟨RX1, "popInto", "(LHoldingStack$State;)Z"⟩
def RX2 : String := "HoldingStack$Kind"
def TX2 : u_T := fun k => match k with
  | _ => ("", "", "", false)
def tyX2 : Nat → FieldType := fun k => match k with
  | _ => .int
abbrev wsX20 : List Cond := u_ws RX2 TX2 0
theorem nmX2 : ∀ a, a < 0 → ∀ b, b < 0 → a ≠ b → (TX2 a).2.1 ≠ (TX2 b).2.1 := by decide +kernel
theorem tyX2_ok : ∀ k, k < 0 → parseFieldDescriptor (TX2 k).2.2.1 = some (tyX2 k) := by decide +kernel
abbrev cX2_of : ByteArray := prog_4_method_4_code
def yX2_of : MethodName := ⟨RX2, "of", "(I)LHoldingStack$Kind;"⟩
def RX3 : String := "HoldingStack$Slots"
def TX3 : u_T := fun k => match k with
  | 0 => ("HoldingStack$Slots", "states", "[LHoldingStack$State;", true)
  | _ => ("HoldingStack$Slots", "filled", "[Z", true)
def tyX3 : Nat → FieldType := fun k => match k with
  | 0 => .array (.object "HoldingStack$State")
  | _ => .array .boolean
abbrev wsX30 : List Cond := u_ws RX3 TX3 2
theorem nmX3 : ∀ a, a < 2 → ∀ b, b < 2 → a ≠ b → (TX3 a).2.1 ≠ (TX3 b).2.1 := by decide +kernel
theorem tyX3_ok : ∀ k, k < 2 → parseFieldDescriptor (TX3 k).2.2.1 = some (tyX3 k) := by decide +kernel
abbrev cX3_init : ByteArray := prog_5_method_1_code
def yX3_init : MethodName := ⟨RX3, "<init>", "()V"⟩
abbrev cX3_has : ByteArray := prog_5_method_2_code
def yX3_has : MethodName := ⟨RX3, "has", "(I)Z"⟩
abbrev cX3_put : ByteArray := prog_5_method_3_code
def yX3_put : MethodName := ⟨RX3, "put", "(ILHoldingStack$State;)Z"⟩
abbrev cX3_get : ByteArray := prog_5_method_4_code
def yX3_get : MethodName := ⟨RX3, "get", "(I)LHoldingStack$State;"⟩
def RX4 : String := "HoldingStack$State"
def TX4 : u_T := fun k => match k with
  | 0 => ("HoldingStack$State", "aircraft", "[LHoldingStack$Aircraft;", true)
  | 1 => ("HoldingStack$State", "holders", "[I", true)
  | 2 => ("HoldingStack$State", "count", "I", false)
  | 3 => ("HoldingStack$State", "levels", "I", false)
  | 4 => ("HoldingStack$State", "lap", "I", false)
  | 5 => ("HoldingStack$State", "limit", "I", false)
  | 6 => ("HoldingStack$State", "runwayOpen", "Z", false)
  | 7 => ("HoldingStack$State", "ladderAutomatic", "Z", false)
  | 8 => ("HoldingStack$State", "wait", "I", false)
  | 9 => ("HoldingStack$State", "time", "I", false)
  | 10 => ("HoldingStack$State", "steps", "I", false)
  | 11 => ("HoldingStack$State", "fuelEntered", "I", false)
  | 12 => ("HoldingStack$State", "fuelBurned", "I", false)
  | 13 => ("HoldingStack$State", "fuelLanded", "I", false)
  | 14 => ("HoldingStack$State", "fuelDiverted", "I", false)
  | _ => ("HoldingStack$State", "reason", "I", false)
def tyX4 : Nat → FieldType := fun k => match k with
  | 0 => .array (.object "HoldingStack$Aircraft")
  | 1 => .array .int
  | 2 => .int
  | 3 => .int
  | 4 => .int
  | 5 => .int
  | 6 => .boolean
  | 7 => .boolean
  | 8 => .int
  | 9 => .int
  | 10 => .int
  | 11 => .int
  | 12 => .int
  | 13 => .int
  | 14 => .int
  | _ => .int
abbrev wsX40 : List Cond := u_ws RX4 TX4 16
theorem nmX4 : ∀ a, a < 16 → ∀ b, b < 16 → a ≠ b → (TX4 a).2.1 ≠ (TX4 b).2.1 := by decide +kernel
theorem tyX4_ok : ∀ k, k < 16 → parseFieldDescriptor (TX4 k).2.2.1 = some (tyX4 k) := by decide +kernel
abbrev cX4_init : ByteArray := prog_6_method_1_code
def yX4_init : MethodName := ⟨RX4, "<init>", "()V"⟩
abbrev cX4_copyFrom : ByteArray := prog_6_method_2_code
def yX4_copyFrom : MethodName := ⟨RX4, "copyFrom", "(LHoldingStack$State;)V"⟩
abbrev cX4_beginAnew : ByteArray := prog_6_method_3_code
def yX4_beginAnew : MethodName := ⟨RX4, "beginAnew", "(I)V"⟩
abbrev cX4_changeLap : ByteArray := prog_6_method_4_code
def yX4_changeLap : MethodName := ⟨RX4, "changeLap", "(I)V"⟩
abbrev cX4_hasLevel : ByteArray := prog_6_method_5_code
def yX4_hasLevel : MethodName := ⟨RX4, "hasLevel", "(I)Z"⟩
abbrev cX4_isFull : ByteArray := prog_6_method_6_code
def yX4_isFull : MethodName := ⟨RX4, "isFull", "()Z"⟩
abbrev cX4_numbered : ByteArray := prog_6_method_7_code
def yX4_numbered : MethodName := ⟨RX4, "numbered", "(I)LHoldingStack$Aircraft;"⟩
abbrev cX4_holderOf : ByteArray := prog_6_method_8_code
def yX4_holderOf : MethodName := ⟨RX4, "holderOf", "(I)LHoldingStack$Aircraft;"⟩
abbrev cX4_isFree : ByteArray := prog_6_method_9_code
def yX4_isFree : MethodName := ⟨RX4, "isFree", "(I)Z"⟩
abbrev cX4_setHolder : ByteArray := prog_6_method_10_code
def yX4_setHolder : MethodName := ⟨RX4, "setHolder", "(II)V"⟩
abbrev cX4_countOf : ByteArray := prog_6_method_11_code
def yX4_countOf : MethodName := ⟨RX4, "countOf", "(I)I"⟩
abbrev cX4_refusal : ByteArray := prog_6_method_12_code
def yX4_refusal : MethodName := ⟨RX4, "refusal", "(LHoldingStack$Kind;II)I"⟩
abbrev cX4_admit : ByteArray := prog_6_method_13_code
/-- the method that a word of the Statement's table speaks of -/
def nm_of_word : Cond → MethodName
  | .instanceMethod y => y
  | _ => ⟨"", "", ""⟩
/-- its name is taken out of the Statement's own table -/
def yX4_admit : MethodName := ⟨RX4, (nm_of_word (tables_1_2.getD 85 (.initialized ""))).name, "(LHoldingStack$Kind;II)I"⟩
abbrev cX4_markCalled : ByteArray := prog_6_method_14_code
def yX4_markCalled : MethodName := ⟨RX4, "markCalled", "(I)I"⟩
abbrev cX4_passMinutes : ByteArray := prog_6_method_15_code
def yX4_passMinutes : MethodName := ⟨RX4, "passMinutes", "(I)I"⟩
abbrev cX4_minutesToLanding : ByteArray := prog_6_method_16_code
def yX4_minutesToLanding : MethodName := ⟨RX4, "minutesToLanding", "(II)I"⟩
abbrev cX4_mayLand : ByteArray := prog_6_method_17_code
def yX4_mayLand : MethodName := ⟨RX4, "mayLand", "()Z"⟩
abbrev cX4_passMinute : ByteArray := prog_6_method_18_code
def yX4_passMinute : MethodName := ⟨RX4, "passMinute", "()I"⟩
abbrev cX4_burnAndFly : ByteArray := prog_6_method_19_code
def yX4_burnAndFly : MethodName := ⟨RX4, "burnAndFly", "()V"⟩
abbrev cX4_divertStarved : ByteArray := prog_6_method_20_code
def yX4_divertStarved : MethodName := ⟨RX4, "divertStarved", "()V"⟩
abbrev cX4_landOne : ByteArray := prog_6_method_21_code
def yX4_landOne : MethodName := ⟨RX4, "landOne", "()I"⟩
abbrev cX4_nextToLand : ByteArray := prog_6_method_22_code
def yX4_nextToLand : MethodName := ⟨RX4, "nextToLand", "()LHoldingStack$Aircraft;"⟩
abbrev cX4_leave : ByteArray := prog_6_method_23_code
def yX4_leave : MethodName := ⟨RX4, "leave", "(LHoldingStack$Aircraft;I)V"⟩
abbrev cX4_goDownLadder : ByteArray := prog_6_method_24_code
def yX4_goDownLadder : MethodName := ⟨RX4, "goDownLadder", "()V"⟩
def RX5 : String := "HoldingStack$Strips"
def TX5 : u_T := fun k => match k with
  | 0 => ("HoldingStack$Strips", "text", "[C", true)
  | 1 => ("HoldingStack$Strips", "length", "I", false)
  | 2 => ("HoldingStack$Strips", "position", "I", false)
  | 3 => ("HoldingStack$Strips", "fault", "I", false)
  | 4 => ("HoldingStack$Strips", "letter", "C", false)
  | 5 => ("HoldingStack$Strips", "kind", "LHoldingStack$Kind;", false)
  | 6 => ("HoldingStack$Strips", "fuel", "I", false)
  | _ => ("HoldingStack$Strips", "number", "I", false)
def tyX5 : Nat → FieldType := fun k => match k with
  | 0 => .array .char
  | 1 => .int
  | 2 => .int
  | 3 => .int
  | 4 => .char
  | 5 => .object "HoldingStack$Kind"
  | 6 => .int
  | _ => .int
abbrev wsX50 : List Cond := u_ws RX5 TX5 8
theorem nmX5 : ∀ a, a < 8 → ∀ b, b < 8 → a ≠ b → (TX5 a).2.1 ≠ (TX5 b).2.1 := by decide +kernel
theorem tyX5_ok : ∀ k, k < 8 → parseFieldDescriptor (TX5 k).2.2.1 = some (tyX5 k) := by decide +kernel
abbrev cX5_init : ByteArray := prog_7_method_1_code
def yX5_init : MethodName := ⟨RX5, "<init>", "()V"⟩
abbrev cX5_add : ByteArray := prog_7_method_2_code
def yX5_add : MethodName := ⟨RX5, "add", "(C)Z"⟩
abbrev cX5_restart : ByteArray := prog_7_method_3_code
def yX5_restart : MethodName := ⟨RX5, "restart", "()V"⟩
abbrev cX5_findFault : ByteArray := prog_7_method_4_code
def yX5_findFault : MethodName := ⟨RX5, "findFault", "()I"⟩
abbrev cX5_readStrip : ByteArray := prog_7_method_5_code
def yX5_readStrip : MethodName := ⟨RX5, "readStrip", "()Z"⟩
abbrev cX5_readEntry : ByteArray := prog_7_method_6_code
def yX5_readEntry : MethodName := ⟨RX5, "readEntry", "()V"⟩
abbrev cX5_readKind : ByteArray := prog_7_method_7_code
def yX5_readKind : MethodName := ⟨RX5, "readKind", "()LHoldingStack$Kind;"⟩
abbrev cX5_readNumber : ByteArray := prog_7_method_8_code
def yX5_readNumber : MethodName := ⟨RX5, "readNumber", "(II)I"⟩
abbrev cX5_expect : ByteArray := prog_7_method_9_code
def yX5_expect : MethodName := ⟨RX5, "expect", "(C)V"⟩
abbrev cX5_fail : ByteArray := prog_7_method_10_code
def yX5_fail : MethodName := ⟨RX5, "fail", "(I)V"⟩
abbrev cX5_peek : ByteArray := prog_7_method_11_code
def yX5_peek : MethodName := ⟨RX5, "peek", "()C"⟩
abbrev cX5_isDigit : ByteArray := prog_7_method_12_code
def yX5_isDigit : MethodName := ⟨RX5, "isDigit", "(C)Z"⟩
def RX6 : String := "HoldingStack"
def TX6 : u_T := fun k => match k with
  | 0 => ("HoldingStack", "now", "LHoldingStack$State;", true)
  | 1 => ("HoldingStack", "ahead", "LHoldingStack$State;", true)
  | 2 => ("HoldingStack", "history", "LHoldingStack$History;", true)
  | 3 => ("HoldingStack", "slots", "LHoldingStack$Slots;", true)
  | _ => ("HoldingStack", "strips", "LHoldingStack$Strips;", true)
def tyX6 : Nat → FieldType := fun k => match k with
  | 0 => .object "HoldingStack$State"
  | 1 => .object "HoldingStack$State"
  | 2 => .object "HoldingStack$History"
  | 3 => .object "HoldingStack$Slots"
  | _ => .object "HoldingStack$Strips"
abbrev wsX60 : List Cond := u_ws RX6 TX6 5
theorem nmX6 : ∀ a, a < 5 → ∀ b, b < 5 → a ≠ b → (TX6 a).2.1 ≠ (TX6 b).2.1 := by decide +kernel
theorem tyX6_ok : ∀ k, k < 5 → parseFieldDescriptor (TX6 k).2.2.1 = some (tyX6 k) := by decide +kernel
abbrev cX6_init : ByteArray := prog_1_method_1_code
def yX6_init : MethodName := ⟨RX6, "<init>", "()V"⟩
abbrev cX6_begin : ByteArray := prog_1_method_2_code
def yX6_begin : MethodName := ⟨RX6, "begin", "(I)I"⟩
abbrev cX6_setLap : ByteArray := prog_1_method_3_code
def yX6_setLap : MethodName := ⟨RX6, "setLap", "(I)I"⟩
abbrev cX6_setLimit : ByteArray := prog_1_method_4_code
def yX6_setLimit : MethodName := ⟨RX6, "setLimit", "(I)I"⟩
abbrev cX6_setRunway : ByteArray := prog_1_method_5_code
def yX6_setRunway : MethodName := ⟨RX6, "setRunway", "(Z)I"⟩
abbrev cX6_setLadder : ByteArray := prog_1_method_6_code
def yX6_setLadder : MethodName := ⟨RX6, "setLadder", "(Z)I"⟩
abbrev cX6_enter : ByteArray := prog_1_method_7_code
def yX6_enter : MethodName := ⟨RX6, "enter", "(III)I"⟩
abbrev cX6_call : ByteArray := prog_1_method_8_code
def yX6_call : MethodName := ⟨RX6, "call", "(I)I"⟩
abbrev cX6_pass : ByteArray := prog_1_method_9_code
def yX6_pass : MethodName := ⟨RX6, "pass", "(I)I"⟩
abbrev cX6_level : ByteArray := prog_1_method_10_code
def yX6_level : MethodName := ⟨RX6, "level", "(I)I"⟩
abbrev cX6_aircraft : ByteArray := prog_1_method_11_code
def yX6_aircraft : MethodName := ⟨RX6, "aircraft", "(II)I"⟩
abbrev cX6_tell : ByteArray := prog_1_method_12_code
def yX6_tell : MethodName := ⟨RX6, "tell", "(I)I"⟩
abbrev cX6_why : ByteArray := prog_1_method_13_code
def yX6_why : MethodName := ⟨RX6, "why", "(I)I"⟩
abbrev cX6_minutesLeft : ByteArray := prog_1_method_14_code
def yX6_minutesLeft : MethodName := ⟨RX6, "minutesLeft", "(I)I"⟩
abbrev cX6_landsWith : ByteArray := prog_1_method_15_code
def yX6_landsWith : MethodName := ⟨RX6, "landsWith", "(I)I"⟩
abbrev cX6_endurance : ByteArray := prog_1_method_16_code
def yX6_endurance : MethodName := ⟨RX6, "endurance", "(I)I"⟩
abbrev cX6_bestLevel : ByteArray := prog_1_method_17_code
def yX6_bestLevel : MethodName := ⟨RX6, "bestLevel", "(II)I"⟩
abbrev cX6_lands : ByteArray := prog_1_method_18_code
def yX6_lands : MethodName := ⟨RX6, "lands", "(I)I"⟩
abbrev cX6_append : ByteArray := prog_1_method_19_code
def yX6_append : MethodName := ⟨RX6, "append", "(I)I"⟩
abbrev cX6_clearText : ByteArray := prog_1_method_20_code
def yX6_clearText : MethodName := ⟨RX6, "clearText", "()I"⟩
abbrev cX6_faultPosition : ByteArray := prog_1_method_21_code
def yX6_faultPosition : MethodName := ⟨RX6, "faultPosition", "()I"⟩
abbrev cX6_run : ByteArray := prog_1_method_22_code
def yX6_run : MethodName := ⟨RX6, "run", "()I"⟩
abbrev cX6_undo : ByteArray := prog_1_method_23_code
def yX6_undo : MethodName := ⟨RX6, "undo", "()I"⟩
abbrev cX6_keep : ByteArray := prog_1_method_24_code
def yX6_keep : MethodName := ⟨RX6, "keep", "(I)I"⟩
abbrev cX6_restore : ByteArray := prog_1_method_25_code
def yX6_restore : MethodName := ⟨RX6, "restore", "(I)I"⟩
abbrev cX6_checksum : ByteArray := prog_1_method_26_code
def yX6_checksum : MethodName := ⟨RX6, "checksum", "()J"⟩
abbrev cX6_asNumber : ByteArray := prog_1_method_27_code
def yX6_asNumber : MethodName := ⟨RX6, "asNumber", "(Z)I"⟩
abbrev cX6_isFuel : ByteArray := prog_1_method_28_code
def yX6_isFuel : MethodName := ⟨RX6, "isFuel", "(I)Z"⟩
abbrev cX6_tellHolding : ByteArray := prog_1_method_29_code
def yX6_tellHolding : MethodName := ⟨RX6, "tellHolding", "(LHoldingStack$Aircraft;I)I"⟩
abbrev cX6_tellNumberOfAircraft : ByteArray := prog_1_method_30_code
def yX6_tellNumberOfAircraft : MethodName := ⟨RX6, "tellNumberOfAircraft", "(I)I"⟩
abbrev cX6_tellFuel : ByteArray := prog_1_method_31_code
def yX6_tellFuel : MethodName := ⟨RX6, "tellFuel", "(I)I"⟩
abbrev cX6_checkEntry : ByteArray := prog_1_method_32_code
def yX6_checkEntry : MethodName := ⟨RX6, "checkEntry", "(LHoldingStack$Kind;II)I"⟩
abbrev cX6_checkCall : ByteArray := prog_1_method_33_code
def yX6_checkCall : MethodName := ⟨RX6, "checkCall", "(I)I"⟩
abbrev cX6_carryOutStrip : ByteArray := prog_1_method_34_code
def yX6_carryOutStrip : MethodName := ⟨RX6, "carryOutStrip", "()I"⟩
abbrev cX6_forecast : ByteArray := prog_1_method_35_code
def yX6_forecast : MethodName := ⟨RX6, "forecast", "()V"⟩
abbrev cX6_forecastMinutes : ByteArray := prog_1_method_36_code
def yX6_forecastMinutes : MethodName := ⟨RX6, "forecastMinutes", "(I)I"⟩
def RX7 : String := "HoldingStackModel"
def TX7 : u_T := fun k => match k with
  | 0 => ("HoldingStackModel", "v", "[I", true)
  | 1 => ("HoldingStackModel", "past", "[I", true)
  | 2 => ("HoldingStackModel", "pasts", "I", false)
  | 3 => ("HoldingStackModel", "spare", "[I", true)
  | 4 => ("HoldingStackModel", "kept", "[I", true)
  | 5 => ("HoldingStackModel", "isKept", "[Z", true)
  | 6 => ("HoldingStackModel", "text", "[I", true)
  | 7 => ("HoldingStackModel", "length", "I", false)
  | 8 => ("HoldingStackModel", "place", "I", false)
  | 9 => ("HoldingStackModel", "told", "[I", true)
  | 10 => ("HoldingStackModel", "rates", "[I", true)
  | 11 => ("HoldingStackModel", "reserves", "[I", true)
  | 12 => ("HoldingStackModel", "wakes", "[I", true)
  | 13 => ("HoldingStackModel", "minutes", "I", false)
  | _ => ("HoldingStackModel", "fuelLeft", "I", false)
def tyX7 : Nat → FieldType := fun k => match k with
  | 0 => .array .int
  | 1 => .array .int
  | 2 => .int
  | 3 => .array .int
  | 4 => .array .int
  | 5 => .array .boolean
  | 6 => .array .int
  | 7 => .int
  | 8 => .int
  | 9 => .array .int
  | 10 => .array .int
  | 11 => .array .int
  | 12 => .array .int
  | 13 => .int
  | _ => .int
abbrev wsX70 : List Cond := u_ws RX7 TX7 15
theorem nmX7 : ∀ a, a < 15 → ∀ b, b < 15 → a ≠ b → (TX7 a).2.1 ≠ (TX7 b).2.1 := by decide +kernel
theorem tyX7_ok : ∀ k, k < 15 → parseFieldDescriptor (TX7 k).2.2.1 = some (tyX7 k) := by decide +kernel
abbrev cX7_init : ByteArray := prog_9_method_1_code
def yX7_init : MethodName := ⟨RX7, "<init>", "()V"⟩
abbrev cX7_in : ByteArray := prog_9_method_3_code
def yX7_in : MethodName := ⟨RX7, "in", "(III)Z"⟩
abbrev cX7_at : ByteArray := prog_9_method_4_code
def yX7_at : MethodName := ⟨RX7, "at", "(I)I"⟩
abbrev cX7_isLevel : ByteArray := prog_9_method_5_code
def yX7_isLevel : MethodName := ⟨RX7, "isLevel", "(I)Z"⟩
abbrev cX7_isCraft : ByteArray := prog_9_method_6_code
def yX7_isCraft : MethodName := ⟨RX7, "isCraft", "(I)Z"⟩
abbrev cX7_puts : ByteArray := prog_9_method_7_code
def yX7_puts : MethodName := ⟨RX7, "puts", "(II)I"⟩
abbrev cX7_records : ByteArray := prog_9_method_8_code
def yX7_records : MethodName := ⟨RX7, "records", "()V"⟩
abbrev cX7_begin : ByteArray := prog_9_method_9_code
def yX7_begin : MethodName := ⟨RX7, "begin", "(I)I"⟩
abbrev cX7_setLap : ByteArray := prog_9_method_10_code
def yX7_setLap : MethodName := ⟨RX7, "setLap", "(I)I"⟩
abbrev cX7_setLimit : ByteArray := prog_9_method_11_code
def yX7_setLimit : MethodName := ⟨RX7, "setLimit", "(I)I"⟩
abbrev cX7_opens : ByteArray := prog_9_method_12_code
def yX7_opens : MethodName := ⟨RX7, "opens", "(Z)I"⟩
abbrev cX7_setRunway : ByteArray := prog_9_method_13_code
def yX7_setRunway : MethodName := ⟨RX7, "setRunway", "(Z)I"⟩
abbrev cX7_setLadder : ByteArray := prog_9_method_14_code
def yX7_setLadder : MethodName := ⟨RX7, "setLadder", "(Z)I"⟩
abbrev cX7_on : ByteArray := prog_9_method_15_code
def yX7_on : MethodName := ⟨RX7, "on", "(I)I"⟩
abbrev cX7_holding : ByteArray := prog_9_method_16_code
def yX7_holding : MethodName := ⟨RX7, "holding", "()I"⟩
abbrev cX7_enterWrong : ByteArray := prog_9_method_17_code
def yX7_enterWrong : MethodName := ⟨RX7, "enterWrong", "(III)I"⟩
abbrev cX7_refusal : ByteArray := prog_9_method_18_code
def yX7_refusal : MethodName := ⟨RX7, "refusal", "(III)I"⟩
abbrev cX7_enters : ByteArray := prog_9_method_19_code
def yX7_enters : MethodName := ⟨RX7, "enters", "(III)I"⟩
abbrev cX7_enter : ByteArray := prog_9_method_20_code
def yX7_enter : MethodName := ⟨RX7, "enter", "(III)I"⟩
abbrev cX7_callWrong : ByteArray := prog_9_method_21_code
def yX7_callWrong : MethodName := ⟨RX7, "callWrong", "(I)I"⟩
abbrev cX7_call : ByteArray := prog_9_method_22_code
def yX7_call : MethodName := ⟨RX7, "call", "(I)I"⟩
abbrev cX7_burn : ByteArray := prog_9_method_23_code
def yX7_burn : MethodName := ⟨RX7, "burn", "(II)I"⟩
abbrev cX7_isShort : ByteArray := prog_9_method_24_code
def yX7_isShort : MethodName := ⟨RX7, "isShort", "(I)Z"⟩
abbrev cX7_isOver : ByteArray := prog_9_method_25_code
def yX7_isOver : MethodName := ⟨RX7, "isOver", "(I)Z"⟩
abbrev cX7_leaves : ByteArray := prog_9_method_26_code
def yX7_leaves : MethodName := ⟨RX7, "leaves", "(II)V"⟩
abbrev cX7_burns : ByteArray := prog_9_method_27_code
def yX7_burns : MethodName := ⟨RX7, "burns", "()V"⟩
abbrev cX7_lander : ByteArray := prog_9_method_28_code
def yX7_lander : MethodName := ⟨RX7, "lander", "()I"⟩
abbrev cX7_passes : ByteArray := prog_9_method_29_code
def yX7_passes : MethodName := ⟨RX7, "passes", "()I"⟩
abbrev cX7_minutesPass : ByteArray := prog_9_method_30_code
def yX7_minutesPass : MethodName := ⟨RX7, "minutesPass", "(I)I"⟩
abbrev cX7_pass : ByteArray := prog_9_method_31_code
def yX7_pass : MethodName := ⟨RX7, "pass", "(I)I"⟩
abbrev cX7_level : ByteArray := prog_9_method_32_code
def yX7_level : MethodName := ⟨RX7, "level", "(I)I"⟩
abbrev cX7_craftTells : ByteArray := prog_9_method_33_code
def yX7_craftTells : MethodName := ⟨RX7, "craftTells", "(II)I"⟩
abbrev cX7_aircraft : ByteArray := prog_9_method_34_code
def yX7_aircraft : MethodName := ⟨RX7, "aircraft", "(II)I"⟩
abbrev cX7_many : ByteArray := prog_9_method_35_code
def yX7_many : MethodName := ⟨RX7, "many", "(I)I"⟩
abbrev cX7_tells : ByteArray := prog_9_method_36_code
def yX7_tells : MethodName := ⟨RX7, "tells", "(I)I"⟩
abbrev cX7_tell : ByteArray := prog_9_method_37_code
def yX7_tell : MethodName := ⟨RX7, "tell", "(I)I"⟩
abbrev cX7_whyOf : ByteArray := prog_9_method_38_code
def yX7_whyOf : MethodName := ⟨RX7, "whyOf", "(I)I"⟩
abbrev cX7_why : ByteArray := prog_9_method_39_code
def yX7_why : MethodName := ⟨RX7, "why", "(I)I"⟩
abbrev cX7_keeps : ByteArray := prog_9_method_40_code
def yX7_keeps : MethodName := ⟨RX7, "keeps", "([I)V"⟩
abbrev cX7_comesBack : ByteArray := prog_9_method_41_code
def yX7_comesBack : MethodName := ⟨RX7, "comesBack", "()V"⟩
abbrev cX7_landsLater : ByteArray := prog_9_method_42_code
def yX7_landsLater : MethodName := ⟨RX7, "landsLater", "(I)V"⟩
abbrev cX7_forecasts : ByteArray := prog_9_method_43_code
def yX7_forecasts : MethodName := ⟨RX7, "forecasts", "(I)V"⟩
abbrev cX7_minutesOf : ByteArray := prog_9_method_44_code
def yX7_minutesOf : MethodName := ⟨RX7, "minutesOf", "(I)I"⟩
abbrev cX7_minutesLeft : ByteArray := prog_9_method_45_code
def yX7_minutesLeft : MethodName := ⟨RX7, "minutesLeft", "(I)I"⟩
abbrev cX7_landsWith : ByteArray := prog_9_method_46_code
def yX7_landsWith : MethodName := ⟨RX7, "landsWith", "(I)I"⟩
abbrev cX7_endurance : ByteArray := prog_9_method_47_code
def yX7_endurance : MethodName := ⟨RX7, "endurance", "(I)I"⟩
abbrev cX7_bestLevel : ByteArray := prog_9_method_48_code
def yX7_bestLevel : MethodName := ⟨RX7, "bestLevel", "(II)I"⟩
abbrev cX7_lands : ByteArray := prog_9_method_49_code
def yX7_lands : MethodName := ⟨RX7, "lands", "(I)I"⟩
abbrev cX7_append : ByteArray := prog_9_method_50_code
def yX7_append : MethodName := ⟨RX7, "append", "(I)I"⟩
abbrev cX7_clearText : ByteArray := prog_9_method_51_code
def yX7_clearText : MethodName := ⟨RX7, "clearText", "()I"⟩
abbrev cX7_here : ByteArray := prog_9_method_52_code
def yX7_here : MethodName := ⟨RX7, "here", "()I"⟩
abbrev cX7_takes : ByteArray := prog_9_method_53_code
def yX7_takes : MethodName := ⟨RX7, "takes", "(I)Z"⟩
abbrev cX7_digit : ByteArray := prog_9_method_54_code
def yX7_digit : MethodName := ⟨RX7, "digit", "()I"⟩
abbrev cX7_isNumber : ByteArray := prog_9_method_55_code
def yX7_isNumber : MethodName := ⟨RX7, "isNumber", "(III)Z"⟩
abbrev cX7_isStrip : ByteArray := prog_9_method_56_code
def yX7_isStrip : MethodName := ⟨RX7, "isStrip", "()Z"⟩
abbrev cX7_isText : ByteArray := prog_9_method_57_code
def yX7_isText : MethodName := ⟨RX7, "isText", "()Z"⟩
abbrev cX7_faultPosition : ByteArray := prog_9_method_58_code
def yX7_faultPosition : MethodName := ⟨RX7, "faultPosition", "()I"⟩
abbrev cX7_carriesOut : ByteArray := prog_9_method_59_code
def yX7_carriesOut : MethodName := ⟨RX7, "carriesOut", "()Z"⟩
abbrev cX7_run : ByteArray := prog_9_method_60_code
def yX7_run : MethodName := ⟨RX7, "run", "()I"⟩
abbrev cX7_undo : ByteArray := prog_9_method_61_code
def yX7_undo : MethodName := ⟨RX7, "undo", "()I"⟩
abbrev cX7_keep : ByteArray := prog_9_method_62_code
def yX7_keep : MethodName := ⟨RX7, "keep", "(I)I"⟩
abbrev cX7_restore : ByteArray := prog_9_method_63_code
def yX7_restore : MethodName := ⟨RX7, "restore", "(I)I"⟩
abbrev cX7_more : ByteArray := prog_9_method_64_code
def yX7_more : MethodName := ⟨RX7, "more", "(JI)J"⟩
abbrev cX7_checksum : ByteArray := prog_9_method_65_code
def yX7_checksum : MethodName := ⟨RX7, "checksum", "()J"⟩
def RJx29ce0 : String := "java/lang/Enum"
def TJx29ce0 : u_T := fun k => match k with
  | _ => ("", "", "", false)
def tyJx29ce0 : Nat → FieldType := fun k => match k with
  | _ => .int
abbrev wsJx29ce00 : List Cond := u_ws RJx29ce0 TJx29ce0 0
theorem nmJx29ce0 : ∀ a, a < 0 → ∀ b, b < 0 → a ≠ b → (TJx29ce0 a).2.1 ≠ (TJx29ce0 b).2.1 := by decide +kernel
theorem tyJx29ce0_ok : ∀ k, k < 0 → parseFieldDescriptor (TJx29ce0 k).2.2.1 = some (tyJx29ce0 k) := by decide +kernel
def RJ9 : String := "java/lang/Math"
def TJ9 : u_T := fun k => match k with
  | _ => ("", "", "", false)
def tyJ9 : Nat → FieldType := fun k => match k with
  | _ => .int
abbrev wsJ90 : List Cond := u_ws RJ9 TJ9 0
theorem nmJ9 : ∀ a, a < 0 → ∀ b, b < 0 → a ≠ b → (TJ9 a).2.1 ≠ (TJ9 b).2.1 := by decide +kernel
theorem tyJ9_ok : ∀ k, k < 0 → parseFieldDescriptor (TJ9 k).2.2.1 = some (tyJ9 k) := by decide +kernel
abbrev cJ9_min_7cf53 : ByteArray := prog_11_method_69_code
def yJ9_min_7cf53 : MethodName := ⟨RJ9, "min", "(II)I"⟩
def RJ7 : String := "java/util/Arrays"
def TJ7 : u_T := fun k => match k with
  | _ => ("", "", "", false)
def tyJ7 : Nat → FieldType := fun k => match k with
  | _ => .int
abbrev wsJ70 : List Cond := u_ws RJ7 TJ7 0
theorem nmJ7 : ∀ a, a < 0 → ∀ b, b < 0 → a ≠ b → (TJ7 a).2.1 ≠ (TJ7 b).2.1 := by decide +kernel
theorem tyJ7_ok : ∀ k, k < 0 → parseFieldDescriptor (TJ7 k).2.2.1 = some (tyJ7 k) := by decide +kernel
abbrev cJ7_fill_53178 : ByteArray := prog_12_method_103_code
def yJ7_fill_53178 : MethodName := ⟨RJ7, "fill", "([II)V"⟩
def RL : String := "HoldingStackLaw"
abbrev cL_law : ByteArray := code
def yL_law : MethodName := ⟨RL, "law", "([I)Z"⟩
