section
-- ===== PART A: goes FIRST, ahead of the names: the tables' words, and 'selects' of the private methods out of them =====
/-- a private method of a class that the tables say can be made, by its rows of tables_1 -/
def lw_okq (q : MethodName × Nat) : Prop := (q.1.cls ≠ "java/lang/invoke/MethodHandle" ∧ q.1.cls ≠ "java/lang/invoke/VarHandle") ∧ Cond.instantiable q.1.cls q.2 ∈ tables_1 ∧ Cond.privateMethod q.1 ∈ tables_1 ∧ Cond.instanceMethod q.1 ∈ tables_1
theorem lw_p0 : lw_okq (⟨"HoldingStack$History", "dropOldest", "()V"⟩, 2) := ⟨⟨by decide +kernel, by decide +kernel⟩, List.mem_of_getElem? (i := 144) (by decide +kernel), List.mem_of_getElem? (i := 238) (by decide +kernel), List.mem_of_getElem? (i := 239) (by decide +kernel)⟩
theorem lw_p1 : lw_okq (⟨"HoldingStack", "checkEntry", "(LHoldingStack$Kind;II)I"⟩, 5) := ⟨⟨by decide +kernel, by decide +kernel⟩, List.mem_of_getElem? (i := 13) (by decide +kernel), List.mem_of_getElem? (i := 301) (by decide +kernel), List.mem_of_getElem? (i := 302) (by decide +kernel)⟩
theorem lw_p2 : lw_okq (⟨"HoldingStack$State", "setHolder", "(II)V"⟩, 16) := ⟨⟨by decide +kernel, by decide +kernel⟩, List.mem_of_getElem? (i := 21) (by decide +kernel), List.mem_of_getElem? (i := 330) (by decide +kernel), List.mem_of_getElem? (i := 331) (by decide +kernel)⟩
theorem lw_p3 : lw_okq (⟨"HoldingStack", "checkCall", "(I)I"⟩, 5) := ⟨⟨by decide +kernel, by decide +kernel⟩, List.mem_of_getElem? (i := 13) (by decide +kernel), List.mem_of_getElem? (i := 338) (by decide +kernel), List.mem_of_getElem? (i := 339) (by decide +kernel)⟩
theorem lw_p4 : lw_okq (⟨"HoldingStack$State", "burnAndFly", "()V"⟩, 16) := ⟨⟨by decide +kernel, by decide +kernel⟩, List.mem_of_getElem? (i := 21) (by decide +kernel), List.mem_of_getElem? (i := 363) (by decide +kernel), List.mem_of_getElem? (i := 364) (by decide +kernel)⟩
theorem lw_p5 : lw_okq (⟨"HoldingStack$State", "divertStarved", "()V"⟩, 16) := ⟨⟨by decide +kernel, by decide +kernel⟩, List.mem_of_getElem? (i := 21) (by decide +kernel), List.mem_of_getElem? (i := 382) (by decide +kernel), List.mem_of_getElem? (i := 383) (by decide +kernel)⟩
theorem lw_p6 : lw_okq (⟨"HoldingStack$State", "leave", "(LHoldingStack$Aircraft;I)V"⟩, 16) := ⟨⟨by decide +kernel, by decide +kernel⟩, List.mem_of_getElem? (i := 21) (by decide +kernel), List.mem_of_getElem? (i := 390) (by decide +kernel), List.mem_of_getElem? (i := 391) (by decide +kernel)⟩
theorem lw_p7 : lw_okq (⟨"HoldingStack$State", "landOne", "()I"⟩, 16) := ⟨⟨by decide +kernel, by decide +kernel⟩, List.mem_of_getElem? (i := 21) (by decide +kernel), List.mem_of_getElem? (i := 394) (by decide +kernel), List.mem_of_getElem? (i := 395) (by decide +kernel)⟩
theorem lw_p8 : lw_okq (⟨"HoldingStack$State", "nextToLand", "()LHoldingStack$Aircraft;"⟩, 16) := ⟨⟨by decide +kernel, by decide +kernel⟩, List.mem_of_getElem? (i := 21) (by decide +kernel), List.mem_of_getElem? (i := 398) (by decide +kernel), List.mem_of_getElem? (i := 399) (by decide +kernel)⟩
theorem lw_p9 : lw_okq (⟨"HoldingStack$State", "goDownLadder", "()V"⟩, 16) := ⟨⟨by decide +kernel, by decide +kernel⟩, List.mem_of_getElem? (i := 21) (by decide +kernel), List.mem_of_getElem? (i := 410) (by decide +kernel), List.mem_of_getElem? (i := 411) (by decide +kernel)⟩
theorem lw_p10 : lw_okq (⟨"HoldingStack", "tellNumberOfAircraft", "(I)I"⟩, 5) := ⟨⟨by decide +kernel, by decide +kernel⟩, List.mem_of_getElem? (i := 13) (by decide +kernel), List.mem_of_getElem? (i := 431) (by decide +kernel), List.mem_of_getElem? (i := 432) (by decide +kernel)⟩
theorem lw_p11 : lw_okq (⟨"HoldingStack", "tellFuel", "(I)I"⟩, 5) := ⟨⟨by decide +kernel, by decide +kernel⟩, List.mem_of_getElem? (i := 13) (by decide +kernel), List.mem_of_getElem? (i := 436) (by decide +kernel), List.mem_of_getElem? (i := 437) (by decide +kernel)⟩
theorem lw_p12 : lw_okq (⟨"HoldingStack", "forecast", "()V"⟩, 5) := ⟨⟨by decide +kernel, by decide +kernel⟩, List.mem_of_getElem? (i := 13) (by decide +kernel), List.mem_of_getElem? (i := 450) (by decide +kernel), List.mem_of_getElem? (i := 451) (by decide +kernel)⟩
theorem lw_p13 : lw_okq (⟨"HoldingStack", "forecastMinutes", "(I)I"⟩, 5) := ⟨⟨by decide +kernel, by decide +kernel⟩, List.mem_of_getElem? (i := 13) (by decide +kernel), List.mem_of_getElem? (i := 460) (by decide +kernel), List.mem_of_getElem? (i := 461) (by decide +kernel)⟩
theorem lw_p14 : lw_okq (⟨"HoldingStack$Strips", "peek", "()C"⟩, 8) := ⟨⟨by decide +kernel, by decide +kernel⟩, List.mem_of_getElem? (i := 177) (by decide +kernel), List.mem_of_getElem? (i := 517) (by decide +kernel), List.mem_of_getElem? (i := 518) (by decide +kernel)⟩
theorem lw_p15 : lw_okq (⟨"HoldingStack$Strips", "readEntry", "()V"⟩, 8) := ⟨⟨by decide +kernel, by decide +kernel⟩, List.mem_of_getElem? (i := 177) (by decide +kernel), List.mem_of_getElem? (i := 521) (by decide +kernel), List.mem_of_getElem? (i := 522) (by decide +kernel)⟩
def lw_privs_1 : List (MethodName × Nat) := [(⟨"HoldingStack$History", "dropOldest", "()V"⟩, 2), (⟨"HoldingStack", "checkEntry", "(LHoldingStack$Kind;II)I"⟩, 5), (⟨"HoldingStack$State", "setHolder", "(II)V"⟩, 16), (⟨"HoldingStack", "checkCall", "(I)I"⟩, 5), (⟨"HoldingStack$State", "burnAndFly", "()V"⟩, 16), (⟨"HoldingStack$State", "divertStarved", "()V"⟩, 16), (⟨"HoldingStack$State", "leave", "(LHoldingStack$Aircraft;I)V"⟩, 16), (⟨"HoldingStack$State", "landOne", "()I"⟩, 16), (⟨"HoldingStack$State", "nextToLand", "()LHoldingStack$Aircraft;"⟩, 16), (⟨"HoldingStack$State", "goDownLadder", "()V"⟩, 16), (⟨"HoldingStack", "tellNumberOfAircraft", "(I)I"⟩, 5), (⟨"HoldingStack", "tellFuel", "(I)I"⟩, 5), (⟨"HoldingStack", "forecast", "()V"⟩, 5), (⟨"HoldingStack", "forecastMinutes", "(I)I"⟩, 5), (⟨"HoldingStack$Strips", "peek", "()C"⟩, 8), (⟨"HoldingStack$Strips", "readEntry", "()V"⟩, 8)]
theorem lw_r1 : ∀ q ∈ lw_privs_1, lw_okq q := List.forall_mem_cons.mpr ⟨lw_p0, List.forall_mem_cons.mpr ⟨lw_p1, List.forall_mem_cons.mpr ⟨lw_p2, List.forall_mem_cons.mpr ⟨lw_p3, List.forall_mem_cons.mpr ⟨lw_p4, List.forall_mem_cons.mpr ⟨lw_p5, List.forall_mem_cons.mpr ⟨lw_p6, List.forall_mem_cons.mpr ⟨lw_p7, List.forall_mem_cons.mpr ⟨lw_p8, List.forall_mem_cons.mpr ⟨lw_p9, List.forall_mem_cons.mpr ⟨lw_p10, List.forall_mem_cons.mpr ⟨lw_p11, List.forall_mem_cons.mpr ⟨lw_p12, List.forall_mem_cons.mpr ⟨lw_p13, List.forall_mem_cons.mpr ⟨lw_p14, List.forall_mem_cons.mpr ⟨lw_p15, fun _ h => absurd h List.not_mem_nil⟩⟩⟩⟩⟩⟩⟩⟩⟩⟩⟩⟩⟩⟩⟩⟩
theorem lw_p16 : lw_okq (⟨"HoldingStack$Strips", "readKind", "()LHoldingStack$Kind;"⟩, 8) := ⟨⟨by decide +kernel, by decide +kernel⟩, List.mem_of_getElem? (i := 177) (by decide +kernel), List.mem_of_getElem? (i := 525) (by decide +kernel), List.mem_of_getElem? (i := 526) (by decide +kernel)⟩
theorem lw_p17 : lw_okq (⟨"HoldingStack$Strips", "fail", "(I)V"⟩, 8) := ⟨⟨by decide +kernel, by decide +kernel⟩, List.mem_of_getElem? (i := 177) (by decide +kernel), List.mem_of_getElem? (i := 529) (by decide +kernel), List.mem_of_getElem? (i := 530) (by decide +kernel)⟩
theorem lw_p18 : lw_okq (⟨"HoldingStack$Strips", "readNumber", "(II)I"⟩, 8) := ⟨⟨by decide +kernel, by decide +kernel⟩, List.mem_of_getElem? (i := 177) (by decide +kernel), List.mem_of_getElem? (i := 536) (by decide +kernel), List.mem_of_getElem? (i := 537) (by decide +kernel)⟩
theorem lw_p19 : lw_okq (⟨"HoldingStack$Strips", "expect", "(C)V"⟩, 8) := ⟨⟨by decide +kernel, by decide +kernel⟩, List.mem_of_getElem? (i := 177) (by decide +kernel), List.mem_of_getElem? (i := 543) (by decide +kernel), List.mem_of_getElem? (i := 544) (by decide +kernel)⟩
theorem lw_p20 : lw_okq (⟨"HoldingStack", "carryOutStrip", "()I"⟩, 5) := ⟨⟨by decide +kernel, by decide +kernel⟩, List.mem_of_getElem? (i := 13) (by decide +kernel), List.mem_of_getElem? (i := 553) (by decide +kernel), List.mem_of_getElem? (i := 554) (by decide +kernel)⟩
theorem lw_p21 : lw_okq (⟨"HoldingStack$Slots", "has", "(I)Z"⟩, 2) := ⟨⟨by decide +kernel, by decide +kernel⟩, List.mem_of_getElem? (i := 161) (by decide +kernel), List.mem_of_getElem? (i := 573) (by decide +kernel), List.mem_of_getElem? (i := 574) (by decide +kernel)⟩
theorem lw_p22 : lw_okq (⟨"HoldingStackModel", "records", "()V"⟩, 15) := ⟨⟨by decide +kernel, by decide +kernel⟩, List.mem_of_getElem? (i := 596) (by decide +kernel), List.mem_of_getElem? (i := 655) (by decide +kernel), List.mem_of_getElem? (i := 656) (by decide +kernel)⟩
theorem lw_p23 : lw_okq (⟨"HoldingStackModel", "puts", "(II)I"⟩, 15) := ⟨⟨by decide +kernel, by decide +kernel⟩, List.mem_of_getElem? (i := 596) (by decide +kernel), List.mem_of_getElem? (i := 666) (by decide +kernel), List.mem_of_getElem? (i := 667) (by decide +kernel)⟩
theorem lw_p24 : lw_okq (⟨"HoldingStackModel", "opens", "(Z)I"⟩, 15) := ⟨⟨by decide +kernel, by decide +kernel⟩, List.mem_of_getElem? (i := 596) (by decide +kernel), List.mem_of_getElem? (i := 678) (by decide +kernel), List.mem_of_getElem? (i := 679) (by decide +kernel)⟩
theorem lw_p25 : lw_okq (⟨"HoldingStackModel", "enterWrong", "(III)I"⟩, 15) := ⟨⟨by decide +kernel, by decide +kernel⟩, List.mem_of_getElem? (i := 596) (by decide +kernel), List.mem_of_getElem? (i := 690) (by decide +kernel), List.mem_of_getElem? (i := 691) (by decide +kernel)⟩
theorem lw_p26 : lw_okq (⟨"HoldingStackModel", "isLevel", "(I)Z"⟩, 15) := ⟨⟨by decide +kernel, by decide +kernel⟩, List.mem_of_getElem? (i := 596) (by decide +kernel), List.mem_of_getElem? (i := 694) (by decide +kernel), List.mem_of_getElem? (i := 695) (by decide +kernel)⟩
theorem lw_p27 : lw_okq (⟨"HoldingStackModel", "refusal", "(III)I"⟩, 15) := ⟨⟨by decide +kernel, by decide +kernel⟩, List.mem_of_getElem? (i := 596) (by decide +kernel), List.mem_of_getElem? (i := 698) (by decide +kernel), List.mem_of_getElem? (i := 699) (by decide +kernel)⟩
theorem lw_p28 : lw_okq (⟨"HoldingStackModel", "on", "(I)I"⟩, 15) := ⟨⟨by decide +kernel, by decide +kernel⟩, List.mem_of_getElem? (i := 596) (by decide +kernel), List.mem_of_getElem? (i := 702) (by decide +kernel), List.mem_of_getElem? (i := 703) (by decide +kernel)⟩
theorem lw_p29 : lw_okq (⟨"HoldingStackModel", "holding", "()I"⟩, 15) := ⟨⟨by decide +kernel, by decide +kernel⟩, List.mem_of_getElem? (i := 596) (by decide +kernel), List.mem_of_getElem? (i := 706) (by decide +kernel), List.mem_of_getElem? (i := 707) (by decide +kernel)⟩
theorem lw_p30 : lw_okq (⟨"HoldingStackModel", "enters", "(III)I"⟩, 15) := ⟨⟨by decide +kernel, by decide +kernel⟩, List.mem_of_getElem? (i := 596) (by decide +kernel), List.mem_of_getElem? (i := 710) (by decide +kernel), List.mem_of_getElem? (i := 711) (by decide +kernel)⟩
theorem lw_p31 : lw_okq (⟨"HoldingStackModel", "callWrong", "(I)I"⟩, 15) := ⟨⟨by decide +kernel, by decide +kernel⟩, List.mem_of_getElem? (i := 596) (by decide +kernel), List.mem_of_getElem? (i := 718) (by decide +kernel), List.mem_of_getElem? (i := 719) (by decide +kernel)⟩
def lw_privs_2 : List (MethodName × Nat) := [(⟨"HoldingStack$Strips", "readKind", "()LHoldingStack$Kind;"⟩, 8), (⟨"HoldingStack$Strips", "fail", "(I)V"⟩, 8), (⟨"HoldingStack$Strips", "readNumber", "(II)I"⟩, 8), (⟨"HoldingStack$Strips", "expect", "(C)V"⟩, 8), (⟨"HoldingStack", "carryOutStrip", "()I"⟩, 5), (⟨"HoldingStack$Slots", "has", "(I)Z"⟩, 2), (⟨"HoldingStackModel", "records", "()V"⟩, 15), (⟨"HoldingStackModel", "puts", "(II)I"⟩, 15), (⟨"HoldingStackModel", "opens", "(Z)I"⟩, 15), (⟨"HoldingStackModel", "enterWrong", "(III)I"⟩, 15), (⟨"HoldingStackModel", "isLevel", "(I)Z"⟩, 15), (⟨"HoldingStackModel", "refusal", "(III)I"⟩, 15), (⟨"HoldingStackModel", "on", "(I)I"⟩, 15), (⟨"HoldingStackModel", "holding", "()I"⟩, 15), (⟨"HoldingStackModel", "enters", "(III)I"⟩, 15), (⟨"HoldingStackModel", "callWrong", "(I)I"⟩, 15)]
theorem lw_r2 : ∀ q ∈ lw_privs_2, lw_okq q := List.forall_mem_cons.mpr ⟨lw_p16, List.forall_mem_cons.mpr ⟨lw_p17, List.forall_mem_cons.mpr ⟨lw_p18, List.forall_mem_cons.mpr ⟨lw_p19, List.forall_mem_cons.mpr ⟨lw_p20, List.forall_mem_cons.mpr ⟨lw_p21, List.forall_mem_cons.mpr ⟨lw_p22, List.forall_mem_cons.mpr ⟨lw_p23, List.forall_mem_cons.mpr ⟨lw_p24, List.forall_mem_cons.mpr ⟨lw_p25, List.forall_mem_cons.mpr ⟨lw_p26, List.forall_mem_cons.mpr ⟨lw_p27, List.forall_mem_cons.mpr ⟨lw_p28, List.forall_mem_cons.mpr ⟨lw_p29, List.forall_mem_cons.mpr ⟨lw_p30, List.forall_mem_cons.mpr ⟨lw_p31, fun _ h => absurd h List.not_mem_nil⟩⟩⟩⟩⟩⟩⟩⟩⟩⟩⟩⟩⟩⟩⟩⟩
theorem lw_p32 : lw_okq (⟨"HoldingStackModel", "isCraft", "(I)Z"⟩, 15) := ⟨⟨by decide +kernel, by decide +kernel⟩, List.mem_of_getElem? (i := 596) (by decide +kernel), List.mem_of_getElem? (i := 722) (by decide +kernel), List.mem_of_getElem? (i := 723) (by decide +kernel)⟩
theorem lw_p33 : lw_okq (⟨"HoldingStackModel", "minutesPass", "(I)I"⟩, 15) := ⟨⟨by decide +kernel, by decide +kernel⟩, List.mem_of_getElem? (i := 596) (by decide +kernel), List.mem_of_getElem? (i := 730) (by decide +kernel), List.mem_of_getElem? (i := 731) (by decide +kernel)⟩
theorem lw_p34 : lw_okq (⟨"HoldingStackModel", "passes", "()I"⟩, 15) := ⟨⟨by decide +kernel, by decide +kernel⟩, List.mem_of_getElem? (i := 596) (by decide +kernel), List.mem_of_getElem? (i := 734) (by decide +kernel), List.mem_of_getElem? (i := 735) (by decide +kernel)⟩
theorem lw_p35 : lw_okq (⟨"HoldingStackModel", "burns", "()V"⟩, 15) := ⟨⟨by decide +kernel, by decide +kernel⟩, List.mem_of_getElem? (i := 596) (by decide +kernel), List.mem_of_getElem? (i := 738) (by decide +kernel), List.mem_of_getElem? (i := 739) (by decide +kernel)⟩
theorem lw_p36 : lw_okq (⟨"HoldingStackModel", "burn", "(II)I"⟩, 15) := ⟨⟨by decide +kernel, by decide +kernel⟩, List.mem_of_getElem? (i := 596) (by decide +kernel), List.mem_of_getElem? (i := 742) (by decide +kernel), List.mem_of_getElem? (i := 743) (by decide +kernel)⟩
theorem lw_p37 : lw_okq (⟨"HoldingStackModel", "leaves", "(II)V"⟩, 15) := ⟨⟨by decide +kernel, by decide +kernel⟩, List.mem_of_getElem? (i := 596) (by decide +kernel), List.mem_of_getElem? (i := 746) (by decide +kernel), List.mem_of_getElem? (i := 747) (by decide +kernel)⟩
theorem lw_p38 : lw_okq (⟨"HoldingStackModel", "lander", "()I"⟩, 15) := ⟨⟨by decide +kernel, by decide +kernel⟩, List.mem_of_getElem? (i := 596) (by decide +kernel), List.mem_of_getElem? (i := 750) (by decide +kernel), List.mem_of_getElem? (i := 751) (by decide +kernel)⟩
theorem lw_p39 : lw_okq (⟨"HoldingStackModel", "isOver", "(I)Z"⟩, 15) := ⟨⟨by decide +kernel, by decide +kernel⟩, List.mem_of_getElem? (i := 596) (by decide +kernel), List.mem_of_getElem? (i := 754) (by decide +kernel), List.mem_of_getElem? (i := 755) (by decide +kernel)⟩
theorem lw_p40 : lw_okq (⟨"HoldingStackModel", "isShort", "(I)Z"⟩, 15) := ⟨⟨by decide +kernel, by decide +kernel⟩, List.mem_of_getElem? (i := 596) (by decide +kernel), List.mem_of_getElem? (i := 758) (by decide +kernel), List.mem_of_getElem? (i := 759) (by decide +kernel)⟩
theorem lw_p41 : lw_okq (⟨"HoldingStackModel", "craftTells", "(II)I"⟩, 15) := ⟨⟨by decide +kernel, by decide +kernel⟩, List.mem_of_getElem? (i := 596) (by decide +kernel), List.mem_of_getElem? (i := 770) (by decide +kernel), List.mem_of_getElem? (i := 771) (by decide +kernel)⟩
theorem lw_p42 : lw_okq (⟨"HoldingStackModel", "tells", "(I)I"⟩, 15) := ⟨⟨by decide +kernel, by decide +kernel⟩, List.mem_of_getElem? (i := 596) (by decide +kernel), List.mem_of_getElem? (i := 778) (by decide +kernel), List.mem_of_getElem? (i := 779) (by decide +kernel)⟩
theorem lw_p43 : lw_okq (⟨"HoldingStackModel", "many", "(I)I"⟩, 15) := ⟨⟨by decide +kernel, by decide +kernel⟩, List.mem_of_getElem? (i := 596) (by decide +kernel), List.mem_of_getElem? (i := 782) (by decide +kernel), List.mem_of_getElem? (i := 783) (by decide +kernel)⟩
theorem lw_p44 : lw_okq (⟨"HoldingStackModel", "whyOf", "(I)I"⟩, 15) := ⟨⟨by decide +kernel, by decide +kernel⟩, List.mem_of_getElem? (i := 596) (by decide +kernel), List.mem_of_getElem? (i := 790) (by decide +kernel), List.mem_of_getElem? (i := 791) (by decide +kernel)⟩
theorem lw_p45 : lw_okq (⟨"HoldingStackModel", "minutesOf", "(I)I"⟩, 15) := ⟨⟨by decide +kernel, by decide +kernel⟩, List.mem_of_getElem? (i := 596) (by decide +kernel), List.mem_of_getElem? (i := 798) (by decide +kernel), List.mem_of_getElem? (i := 799) (by decide +kernel)⟩
theorem lw_p46 : lw_okq (⟨"HoldingStackModel", "forecasts", "(I)V"⟩, 15) := ⟨⟨by decide +kernel, by decide +kernel⟩, List.mem_of_getElem? (i := 596) (by decide +kernel), List.mem_of_getElem? (i := 802) (by decide +kernel), List.mem_of_getElem? (i := 803) (by decide +kernel)⟩
theorem lw_p47 : lw_okq (⟨"HoldingStackModel", "keeps", "([I)V"⟩, 15) := ⟨⟨by decide +kernel, by decide +kernel⟩, List.mem_of_getElem? (i := 596) (by decide +kernel), List.mem_of_getElem? (i := 806) (by decide +kernel), List.mem_of_getElem? (i := 807) (by decide +kernel)⟩
def lw_privs_3 : List (MethodName × Nat) := [(⟨"HoldingStackModel", "isCraft", "(I)Z"⟩, 15), (⟨"HoldingStackModel", "minutesPass", "(I)I"⟩, 15), (⟨"HoldingStackModel", "passes", "()I"⟩, 15), (⟨"HoldingStackModel", "burns", "()V"⟩, 15), (⟨"HoldingStackModel", "burn", "(II)I"⟩, 15), (⟨"HoldingStackModel", "leaves", "(II)V"⟩, 15), (⟨"HoldingStackModel", "lander", "()I"⟩, 15), (⟨"HoldingStackModel", "isOver", "(I)Z"⟩, 15), (⟨"HoldingStackModel", "isShort", "(I)Z"⟩, 15), (⟨"HoldingStackModel", "craftTells", "(II)I"⟩, 15), (⟨"HoldingStackModel", "tells", "(I)I"⟩, 15), (⟨"HoldingStackModel", "many", "(I)I"⟩, 15), (⟨"HoldingStackModel", "whyOf", "(I)I"⟩, 15), (⟨"HoldingStackModel", "minutesOf", "(I)I"⟩, 15), (⟨"HoldingStackModel", "forecasts", "(I)V"⟩, 15), (⟨"HoldingStackModel", "keeps", "([I)V"⟩, 15)]
theorem lw_r3 : ∀ q ∈ lw_privs_3, lw_okq q := List.forall_mem_cons.mpr ⟨lw_p32, List.forall_mem_cons.mpr ⟨lw_p33, List.forall_mem_cons.mpr ⟨lw_p34, List.forall_mem_cons.mpr ⟨lw_p35, List.forall_mem_cons.mpr ⟨lw_p36, List.forall_mem_cons.mpr ⟨lw_p37, List.forall_mem_cons.mpr ⟨lw_p38, List.forall_mem_cons.mpr ⟨lw_p39, List.forall_mem_cons.mpr ⟨lw_p40, List.forall_mem_cons.mpr ⟨lw_p41, List.forall_mem_cons.mpr ⟨lw_p42, List.forall_mem_cons.mpr ⟨lw_p43, List.forall_mem_cons.mpr ⟨lw_p44, List.forall_mem_cons.mpr ⟨lw_p45, List.forall_mem_cons.mpr ⟨lw_p46, List.forall_mem_cons.mpr ⟨lw_p47, fun _ h => absurd h List.not_mem_nil⟩⟩⟩⟩⟩⟩⟩⟩⟩⟩⟩⟩⟩⟩⟩⟩
theorem lw_p48 : lw_okq (⟨"HoldingStackModel", "landsLater", "(I)V"⟩, 15) := ⟨⟨by decide +kernel, by decide +kernel⟩, List.mem_of_getElem? (i := 596) (by decide +kernel), List.mem_of_getElem? (i := 810) (by decide +kernel), List.mem_of_getElem? (i := 811) (by decide +kernel)⟩
theorem lw_p49 : lw_okq (⟨"HoldingStackModel", "comesBack", "()V"⟩, 15) := ⟨⟨by decide +kernel, by decide +kernel⟩, List.mem_of_getElem? (i := 596) (by decide +kernel), List.mem_of_getElem? (i := 814) (by decide +kernel), List.mem_of_getElem? (i := 815) (by decide +kernel)⟩
theorem lw_p50 : lw_okq (⟨"HoldingStackModel", "isText", "()Z"⟩, 15) := ⟨⟨by decide +kernel, by decide +kernel⟩, List.mem_of_getElem? (i := 596) (by decide +kernel), List.mem_of_getElem? (i := 846) (by decide +kernel), List.mem_of_getElem? (i := 847) (by decide +kernel)⟩
theorem lw_p51 : lw_okq (⟨"HoldingStackModel", "isStrip", "()Z"⟩, 15) := ⟨⟨by decide +kernel, by decide +kernel⟩, List.mem_of_getElem? (i := 596) (by decide +kernel), List.mem_of_getElem? (i := 850) (by decide +kernel), List.mem_of_getElem? (i := 851) (by decide +kernel)⟩
theorem lw_p52 : lw_okq (⟨"HoldingStackModel", "takes", "(I)Z"⟩, 15) := ⟨⟨by decide +kernel, by decide +kernel⟩, List.mem_of_getElem? (i := 596) (by decide +kernel), List.mem_of_getElem? (i := 854) (by decide +kernel), List.mem_of_getElem? (i := 855) (by decide +kernel)⟩
theorem lw_p53 : lw_okq (⟨"HoldingStackModel", "here", "()I"⟩, 15) := ⟨⟨by decide +kernel, by decide +kernel⟩, List.mem_of_getElem? (i := 596) (by decide +kernel), List.mem_of_getElem? (i := 858) (by decide +kernel), List.mem_of_getElem? (i := 859) (by decide +kernel)⟩
theorem lw_p54 : lw_okq (⟨"HoldingStackModel", "isNumber", "(III)Z"⟩, 15) := ⟨⟨by decide +kernel, by decide +kernel⟩, List.mem_of_getElem? (i := 596) (by decide +kernel), List.mem_of_getElem? (i := 862) (by decide +kernel), List.mem_of_getElem? (i := 863) (by decide +kernel)⟩
theorem lw_p55 : lw_okq (⟨"HoldingStackModel", "digit", "()I"⟩, 15) := ⟨⟨by decide +kernel, by decide +kernel⟩, List.mem_of_getElem? (i := 596) (by decide +kernel), List.mem_of_getElem? (i := 866) (by decide +kernel), List.mem_of_getElem? (i := 867) (by decide +kernel)⟩
theorem lw_p56 : lw_okq (⟨"HoldingStackModel", "carriesOut", "()Z"⟩, 15) := ⟨⟨by decide +kernel, by decide +kernel⟩, List.mem_of_getElem? (i := 596) (by decide +kernel), List.mem_of_getElem? (i := 874) (by decide +kernel), List.mem_of_getElem? (i := 875) (by decide +kernel)⟩
def lw_privs_4 : List (MethodName × Nat) := [(⟨"HoldingStackModel", "landsLater", "(I)V"⟩, 15), (⟨"HoldingStackModel", "comesBack", "()V"⟩, 15), (⟨"HoldingStackModel", "isText", "()Z"⟩, 15), (⟨"HoldingStackModel", "isStrip", "()Z"⟩, 15), (⟨"HoldingStackModel", "takes", "(I)Z"⟩, 15), (⟨"HoldingStackModel", "here", "()I"⟩, 15), (⟨"HoldingStackModel", "isNumber", "(III)Z"⟩, 15), (⟨"HoldingStackModel", "digit", "()I"⟩, 15), (⟨"HoldingStackModel", "carriesOut", "()Z"⟩, 15)]
theorem lw_r4 : ∀ q ∈ lw_privs_4, lw_okq q := List.forall_mem_cons.mpr ⟨lw_p48, List.forall_mem_cons.mpr ⟨lw_p49, List.forall_mem_cons.mpr ⟨lw_p50, List.forall_mem_cons.mpr ⟨lw_p51, List.forall_mem_cons.mpr ⟨lw_p52, List.forall_mem_cons.mpr ⟨lw_p53, List.forall_mem_cons.mpr ⟨lw_p54, List.forall_mem_cons.mpr ⟨lw_p55, List.forall_mem_cons.mpr ⟨lw_p56, fun _ h => absurd h List.not_mem_nil⟩⟩⟩⟩⟩⟩⟩⟩⟩
def lw_privs : List (MethodName × Nat) := lw_privs_1 ++ (lw_privs_2 ++ (lw_privs_3 ++ (lw_privs_4)))
def lw_tbl : List Cond := k2_sels lw_privs ++ tables_1
theorem lw_privs_ok : ∀ q ∈ lw_privs, lw_okq q := by
  show ∀ q ∈ lw_privs_1 ++ (lw_privs_2 ++ (lw_privs_3 ++ (lw_privs_4))), lw_okq q
  exact List.forall_mem_append.mpr ⟨lw_r1, List.forall_mem_append.mpr ⟨lw_r2, List.forall_mem_append.mpr ⟨lw_r3, lw_r4⟩⟩⟩

def RX0 : String := "HoldingStack$Aircraft"
def TX0 : u_T := fun k => match k with
  | 0 => ("HoldingStack$Aircraft", "number", "I", true)
  | 1 => ("HoldingStack$Aircraft", "kind", "LHoldingStack$Kind;", false)
  | 2 => ("HoldingStack$Aircraft", "fuel", "I", false)
  | 3 => ("HoldingStack$Aircraft", "status", "I", false)
  | 4 => ("HoldingStack$Aircraft", "level", "I", false)
  | 5 => ("HoldingStack$Aircraft", "place", "I", false)
  | 6 => ("HoldingStack$Aircraft", "called", "Z", false)
  | _ => ("HoldingStack$Aircraft", "endTime", "I", false)
def tyX0 : Nat → FieldType := fun k => match k with
  | 0 => .int
  | 1 => .object "HoldingStack$Kind"
  | 2 => .int
  | 3 => .int
  | 4 => .int
  | 5 => .int
  | 6 => .boolean
  | _ => .int
abbrev wsX00 : List Cond := u_ws RX0 TX0 8
theorem nmX0 : ∀ a, a < 8 → ∀ b, b < 8 → a ≠ b → (TX0 a).2.1 ≠ (TX0 b).2.1 := by decide +kernel
theorem tyX0_ok : ∀ k, k < 8 → parseFieldDescriptor (TX0 k).2.2.1 = some (tyX0 k) := by decide +kernel
abbrev cX0_init : ByteArray := prog_2_method_1_code
def yX0_init : MethodName := ⟨RX0, "<init>", "(I)V"⟩
abbrev cX0_copyFrom : ByteArray := prog_2_method_2_code
def yX0_copyFrom : MethodName := ⟨RX0, "copyFrom", "(LHoldingStack$Aircraft;)V"⟩
abbrev cX0_isHolding : ByteArray := prog_2_method_3_code
def yX0_isHolding : MethodName := ⟨RX0, "isHolding", "()Z"⟩
abbrev cX0_isOverFix : ByteArray := prog_2_method_4_code
def yX0_isOverFix : MethodName := ⟨RX0, "isOverFix", "()Z"⟩
abbrev cX0_isShort : ByteArray := prog_2_method_5_code
def yX0_isShort : MethodName := ⟨RX0, "isShort", "()Z"⟩
abbrev cX0_mustDivert : ByteArray := prog_2_method_6_code
def yX0_mustDivert : MethodName := ⟨RX0, "mustDivert", "()Z"⟩
abbrev cX0_burnPerMinute : ByteArray := prog_2_method_7_code
def yX0_burnPerMinute : MethodName := ⟨RX0, "burnPerMinute", "()I"⟩
abbrev cX0_minutesUntilShort : ByteArray := prog_2_method_8_code
def yX0_minutesUntilShort : MethodName := ⟨RX0, "minutesUntilShort", "()I"⟩
abbrev cX0_burnForMinute : ByteArray := prog_2_method_9_code
def yX0_burnForMinute : MethodName := ⟨RX0, "burnForMinute", "()I"⟩
abbrev cX0_flyMinute : ByteArray := prog_2_method_10_code
def yX0_flyMinute : MethodName := ⟨RX0, "flyMinute", "(I)V"⟩
def RX1 : String := "HoldingStack$History"
def TX1 : u_T := fun k => match k with
  | 0 => ("HoldingStack$History", "states", "[LHoldingStack$State;", true)
  | _ => ("HoldingStack$History", "size", "I", false)
def tyX1 : Nat → FieldType := fun k => match k with
  | 0 => .array (.object "HoldingStack$State")
  | _ => .int
abbrev wsX10 : List Cond := u_ws RX1 TX1 2
theorem nmX1 : ∀ a, a < 2 → ∀ b, b < 2 → a ≠ b → (TX1 a).2.1 ≠ (TX1 b).2.1 := by decide +kernel
theorem tyX1_ok : ∀ k, k < 2 → parseFieldDescriptor (TX1 k).2.2.1 = some (tyX1 k) := by decide +kernel
abbrev cX1_init : ByteArray := prog_3_method_1_code
def yX1_init : MethodName := ⟨RX1, "<init>", "()V"⟩
abbrev cX1_push : ByteArray := prog_3_method_2_code
def yX1_push : MethodName := ⟨RX1, "push", "(LHoldingStack$State;)V"⟩
abbrev cX1_dropOldest : ByteArray := prog_3_method_3_code
def yX1_dropOldest : MethodName := ⟨RX1, "dropOldest", "()V"⟩
abbrev cX1_popInto : ByteArray := prog_3_method_4_code
def yX1_popInto : MethodName := ⟨RX1, "popInto", "(LHoldingStack$State;)Z"⟩
def RX2 : String := "HoldingStack$Kind"
def TX2 : u_T := fun k => match k with
  | _ => ("", "", "", false)
def tyX2 : Nat → FieldType := fun k => match k with
  | _ => .int
abbrev wsX20 : List Cond := u_ws RX2 TX2 0
theorem nmX2 : ∀ a, a < 0 → ∀ b, b < 0 → a ≠ b → (TX2 a).2.1 ≠ (TX2 b).2.1 := by decide +kernel
theorem tyX2_ok : ∀ k, k < 0 → parseFieldDescriptor (TX2 k).2.2.1 = some (tyX2 k) := by decide +kernel
abbrev cX2_of : ByteArray := prog_4_method_4_code
def yX2_of : MethodName := ⟨RX2, "of", "(I)LHoldingStack$Kind;"⟩
def RX3 : String := "HoldingStack$Slots"
def TX3 : u_T := fun k => match k with
  | 0 => ("HoldingStack$Slots", "states", "[LHoldingStack$State;", true)
  | _ => ("HoldingStack$Slots", "filled", "[Z", true)
def tyX3 : Nat → FieldType := fun k => match k with
  | 0 => .array (.object "HoldingStack$State")
  | _ => .array .boolean
abbrev wsX30 : List Cond := u_ws RX3 TX3 2
theorem nmX3 : ∀ a, a < 2 → ∀ b, b < 2 → a ≠ b → (TX3 a).2.1 ≠ (TX3 b).2.1 := by decide +kernel
theorem tyX3_ok : ∀ k, k < 2 → parseFieldDescriptor (TX3 k).2.2.1 = some (tyX3 k) := by decide +kernel
abbrev cX3_init : ByteArray := prog_5_method_1_code
def yX3_init : MethodName := ⟨RX3, "<init>", "()V"⟩
abbrev cX3_has : ByteArray := prog_5_method_2_code
def yX3_has : MethodName := ⟨RX3, "has", "(I)Z"⟩
abbrev cX3_put : ByteArray := prog_5_method_3_code
def yX3_put : MethodName := ⟨RX3, "put", "(ILHoldingStack$State;)Z"⟩
abbrev cX3_get : ByteArray := prog_5_method_4_code
def yX3_get : MethodName := ⟨RX3, "get", "(I)LHoldingStack$State;"⟩
def RX4 : String := "HoldingStack$State"
def TX4 : u_T := fun k => match k with
  | 0 => ("HoldingStack$State", "aircraft", "[LHoldingStack$Aircraft;", true)
  | 1 => ("HoldingStack$State", "holders", "[I", true)
  | 2 => ("HoldingStack$State", "count", "I", false)
  | 3 => ("HoldingStack$State", "levels", "I", false)
  | 4 => ("HoldingStack$State", "lap", "I", false)
  | 5 => ("HoldingStack$State", "limit", "I", false)
  | 6 => ("HoldingStack$State", "runwayOpen", "Z", false)
  | 7 => ("HoldingStack$State", "ladderAutomatic", "Z", false)
  | 8 => ("HoldingStack$State", "wait", "I", false)
  | 9 => ("HoldingStack$State", "time", "I", false)
  | 10 => ("HoldingStack$State", "steps", "I", false)
  | 11 => ("HoldingStack$State", "fuelEntered", "I", false)
  | 12 => ("HoldingStack$State", "fuelBurned", "I", false)
  | 13 => ("HoldingStack$State", "fuelLanded", "I", false)
  | 14 => ("HoldingStack$State", "fuelDiverted", "I", false)
  | _ => ("HoldingStack$State", "reason", "I", false)
def tyX4 : Nat → FieldType := fun k => match k with
  | 0 => .array (.object "HoldingStack$Aircraft")
  | 1 => .array .int
  | 2 => .int
  | 3 => .int
  | 4 => .int
  | 5 => .int
  | 6 => .boolean
  | 7 => .boolean
  | 8 => .int
  | 9 => .int
  | 10 => .int
  | 11 => .int
  | 12 => .int
  | 13 => .int
  | 14 => .int
  | _ => .int
abbrev wsX40 : List Cond := u_ws RX4 TX4 16
theorem nmX4 : ∀ a, a < 16 → ∀ b, b < 16 → a ≠ b → (TX4 a).2.1 ≠ (TX4 b).2.1 := by decide +kernel
theorem tyX4_ok : ∀ k, k < 16 → parseFieldDescriptor (TX4 k).2.2.1 = some (tyX4 k) := by decide +kernel
abbrev cX4_init : ByteArray := prog_6_method_1_code
def yX4_init : MethodName := ⟨RX4, "<init>", "()V"⟩
abbrev cX4_copyFrom : ByteArray := prog_6_method_2_code
def yX4_copyFrom : MethodName := ⟨RX4, "copyFrom", "(LHoldingStack$State;)V"⟩
abbrev cX4_beginAnew : ByteArray := prog_6_method_3_code
def yX4_beginAnew : MethodName := ⟨RX4, "beginAnew", "(I)V"⟩
abbrev cX4_changeLap : ByteArray := prog_6_method_4_code
def yX4_changeLap : MethodName := ⟨RX4, "changeLap", "(I)V"⟩
abbrev cX4_hasLevel : ByteArray := prog_6_method_5_code
def yX4_hasLevel : MethodName := ⟨RX4, "hasLevel", "(I)Z"⟩
abbrev cX4_isFull : ByteArray := prog_6_method_6_code
def yX4_isFull : MethodName := ⟨RX4, "isFull", "()Z"⟩
abbrev cX4_numbered : ByteArray := prog_6_method_7_code
def yX4_numbered : MethodName := ⟨RX4, "numbered", "(I)LHoldingStack$Aircraft;"⟩
abbrev cX4_holderOf : ByteArray := prog_6_method_8_code
def yX4_holderOf : MethodName := ⟨RX4, "holderOf", "(I)LHoldingStack$Aircraft;"⟩
abbrev cX4_isFree : ByteArray := prog_6_method_9_code
def yX4_isFree : MethodName := ⟨RX4, "isFree", "(I)Z"⟩
abbrev cX4_setHolder : ByteArray := prog_6_method_10_code
def yX4_setHolder : MethodName := ⟨RX4, "setHolder", "(II)V"⟩
abbrev cX4_countOf : ByteArray := prog_6_method_11_code
def yX4_countOf : MethodName := ⟨RX4, "countOf", "(I)I"⟩
abbrev cX4_refusal : ByteArray := prog_6_method_12_code
def yX4_refusal : MethodName := ⟨RX4, "refusal", "(LHoldingStack$Kind;II)I"⟩
abbrev cX4_admit : ByteArray := prog_6_method_13_code
def yX4_admit : MethodName := ⟨RX4, "admit", "(LHoldingStack$Kind;II)I"⟩
abbrev cX4_markCalled : ByteArray := prog_6_method_14_code
def yX4_markCalled : MethodName := ⟨RX4, "markCalled", "(I)I"⟩
abbrev cX4_passMinutes : ByteArray := prog_6_method_15_code
def yX4_passMinutes : MethodName := ⟨RX4, "passMinutes", "(I)I"⟩
abbrev cX4_minutesToLanding : ByteArray := prog_6_method_16_code
def yX4_minutesToLanding : MethodName := ⟨RX4, "minutesToLanding", "(II)I"⟩
abbrev cX4_mayLand : ByteArray := prog_6_method_17_code
def yX4_mayLand : MethodName := ⟨RX4, "mayLand", "()Z"⟩
abbrev cX4_passMinute : ByteArray := prog_6_method_18_code
def yX4_passMinute : MethodName := ⟨RX4, "passMinute", "()I"⟩
abbrev cX4_burnAndFly : ByteArray := prog_6_method_19_code
def yX4_burnAndFly : MethodName := ⟨RX4, "burnAndFly", "()V"⟩
abbrev cX4_divertStarved : ByteArray := prog_6_method_20_code
def yX4_divertStarved : MethodName := ⟨RX4, "divertStarved", "()V"⟩
abbrev cX4_landOne : ByteArray := prog_6_method_21_code
def yX4_landOne : MethodName := ⟨RX4, "landOne", "()I"⟩
abbrev cX4_nextToLand : ByteArray := prog_6_method_22_code
def yX4_nextToLand : MethodName := ⟨RX4, "nextToLand", "()LHoldingStack$Aircraft;"⟩
abbrev cX4_leave : ByteArray := prog_6_method_23_code
def yX4_leave : MethodName := ⟨RX4, "leave", "(LHoldingStack$Aircraft;I)V"⟩
abbrev cX4_goDownLadder : ByteArray := prog_6_method_24_code
def yX4_goDownLadder : MethodName := ⟨RX4, "goDownLadder", "()V"⟩
def RX5 : String := "HoldingStack$Strips"
def TX5 : u_T := fun k => match k with
  | 0 => ("HoldingStack$Strips", "text", "[C", true)
  | 1 => ("HoldingStack$Strips", "length", "I", false)
  | 2 => ("HoldingStack$Strips", "position", "I", false)
  | 3 => ("HoldingStack$Strips", "fault", "I", false)
  | 4 => ("HoldingStack$Strips", "letter", "C", false)
  | 5 => ("HoldingStack$Strips", "kind", "LHoldingStack$Kind;", false)
  | 6 => ("HoldingStack$Strips", "fuel", "I", false)
  | _ => ("HoldingStack$Strips", "number", "I", false)
def tyX5 : Nat → FieldType := fun k => match k with
  | 0 => .array .char
  | 1 => .int
  | 2 => .int
  | 3 => .int
  | 4 => .char
  | 5 => .object "HoldingStack$Kind"
  | 6 => .int
  | _ => .int
abbrev wsX50 : List Cond := u_ws RX5 TX5 8
theorem nmX5 : ∀ a, a < 8 → ∀ b, b < 8 → a ≠ b → (TX5 a).2.1 ≠ (TX5 b).2.1 := by decide +kernel
theorem tyX5_ok : ∀ k, k < 8 → parseFieldDescriptor (TX5 k).2.2.1 = some (tyX5 k) := by decide +kernel
abbrev cX5_init : ByteArray := prog_7_method_1_code
def yX5_init : MethodName := ⟨RX5, "<init>", "()V"⟩
abbrev cX5_add : ByteArray := prog_7_method_2_code
def yX5_add : MethodName := ⟨RX5, "add", "(C)Z"⟩
abbrev cX5_restart : ByteArray := prog_7_method_3_code
def yX5_restart : MethodName := ⟨RX5, "restart", "()V"⟩
abbrev cX5_findFault : ByteArray := prog_7_method_4_code
def yX5_findFault : MethodName := ⟨RX5, "findFault", "()I"⟩
abbrev cX5_readStrip : ByteArray := prog_7_method_5_code
def yX5_readStrip : MethodName := ⟨RX5, "readStrip", "()Z"⟩
abbrev cX5_readEntry : ByteArray := prog_7_method_6_code
def yX5_readEntry : MethodName := ⟨RX5, "readEntry", "()V"⟩
abbrev cX5_readKind : ByteArray := prog_7_method_7_code
def yX5_readKind : MethodName := ⟨RX5, "readKind", "()LHoldingStack$Kind;"⟩
abbrev cX5_readNumber : ByteArray := prog_7_method_8_code
def yX5_readNumber : MethodName := ⟨RX5, "readNumber", "(II)I"⟩
abbrev cX5_expect : ByteArray := prog_7_method_9_code
def yX5_expect : MethodName := ⟨RX5, "expect", "(C)V"⟩
abbrev cX5_fail : ByteArray := prog_7_method_10_code
def yX5_fail : MethodName := ⟨RX5, "fail", "(I)V"⟩
abbrev cX5_peek : ByteArray := prog_7_method_11_code
def yX5_peek : MethodName := ⟨RX5, "peek", "()C"⟩
abbrev cX5_isDigit : ByteArray := prog_7_method_12_code
def yX5_isDigit : MethodName := ⟨RX5, "isDigit", "(C)Z"⟩
def RX6 : String := "HoldingStack"
def TX6 : u_T := fun k => match k with
  | 0 => ("HoldingStack", "now", "LHoldingStack$State;", true)
  | 1 => ("HoldingStack", "ahead", "LHoldingStack$State;", true)
  | 2 => ("HoldingStack", "history", "LHoldingStack$History;", true)
  | 3 => ("HoldingStack", "slots", "LHoldingStack$Slots;", true)
  | _ => ("HoldingStack", "strips", "LHoldingStack$Strips;", true)
def tyX6 : Nat → FieldType := fun k => match k with
  | 0 => .object "HoldingStack$State"
  | 1 => .object "HoldingStack$State"
  | 2 => .object "HoldingStack$History"
  | 3 => .object "HoldingStack$Slots"
  | _ => .object "HoldingStack$Strips"
abbrev wsX60 : List Cond := u_ws RX6 TX6 5
theorem nmX6 : ∀ a, a < 5 → ∀ b, b < 5 → a ≠ b → (TX6 a).2.1 ≠ (TX6 b).2.1 := by decide +kernel
theorem tyX6_ok : ∀ k, k < 5 → parseFieldDescriptor (TX6 k).2.2.1 = some (tyX6 k) := by decide +kernel
abbrev cX6_init : ByteArray := prog_1_method_1_code
def yX6_init : MethodName := ⟨RX6, "<init>", "()V"⟩
abbrev cX6_begin : ByteArray := prog_1_method_2_code
def yX6_begin : MethodName := ⟨RX6, "begin", "(I)I"⟩
abbrev cX6_setLap : ByteArray := prog_1_method_3_code
def yX6_setLap : MethodName := ⟨RX6, "setLap", "(I)I"⟩
abbrev cX6_setLimit : ByteArray := prog_1_method_4_code
def yX6_setLimit : MethodName := ⟨RX6, "setLimit", "(I)I"⟩
abbrev cX6_setRunway : ByteArray := prog_1_method_5_code
def yX6_setRunway : MethodName := ⟨RX6, "setRunway", "(Z)I"⟩
abbrev cX6_setLadder : ByteArray := prog_1_method_6_code
def yX6_setLadder : MethodName := ⟨RX6, "setLadder", "(Z)I"⟩
abbrev cX6_enter : ByteArray := prog_1_method_7_code
def yX6_enter : MethodName := ⟨RX6, "enter", "(III)I"⟩
abbrev cX6_call : ByteArray := prog_1_method_8_code
def yX6_call : MethodName := ⟨RX6, "call", "(I)I"⟩
abbrev cX6_pass : ByteArray := prog_1_method_9_code
def yX6_pass : MethodName := ⟨RX6, "pass", "(I)I"⟩
abbrev cX6_level : ByteArray := prog_1_method_10_code
def yX6_level : MethodName := ⟨RX6, "level", "(I)I"⟩
abbrev cX6_aircraft : ByteArray := prog_1_method_11_code
def yX6_aircraft : MethodName := ⟨RX6, "aircraft", "(II)I"⟩
abbrev cX6_tell : ByteArray := prog_1_method_12_code
def yX6_tell : MethodName := ⟨RX6, "tell", "(I)I"⟩
abbrev cX6_why : ByteArray := prog_1_method_13_code
def yX6_why : MethodName := ⟨RX6, "why", "(I)I"⟩
abbrev cX6_minutesLeft : ByteArray := prog_1_method_14_code
def yX6_minutesLeft : MethodName := ⟨RX6, "minutesLeft", "(I)I"⟩
abbrev cX6_landsWith : ByteArray := prog_1_method_15_code
def yX6_landsWith : MethodName := ⟨RX6, "landsWith", "(I)I"⟩
abbrev cX6_endurance : ByteArray := prog_1_method_16_code
def yX6_endurance : MethodName := ⟨RX6, "endurance", "(I)I"⟩
abbrev cX6_bestLevel : ByteArray := prog_1_method_17_code
def yX6_bestLevel : MethodName := ⟨RX6, "bestLevel", "(II)I"⟩
abbrev cX6_lands : ByteArray := prog_1_method_18_code
def yX6_lands : MethodName := ⟨RX6, "lands", "(I)I"⟩
abbrev cX6_append : ByteArray := prog_1_method_19_code
def yX6_append : MethodName := ⟨RX6, "append", "(I)I"⟩
abbrev cX6_clearText : ByteArray := prog_1_method_20_code
def yX6_clearText : MethodName := ⟨RX6, "clearText", "()I"⟩
abbrev cX6_faultPosition : ByteArray := prog_1_method_21_code
def yX6_faultPosition : MethodName := ⟨RX6, "faultPosition", "()I"⟩
abbrev cX6_run : ByteArray := prog_1_method_22_code
def yX6_run : MethodName := ⟨RX6, "run", "()I"⟩
abbrev cX6_undo : ByteArray := prog_1_method_23_code
def yX6_undo : MethodName := ⟨RX6, "undo", "()I"⟩
abbrev cX6_keep : ByteArray := prog_1_method_24_code
def yX6_keep : MethodName := ⟨RX6, "keep", "(I)I"⟩
abbrev cX6_restore : ByteArray := prog_1_method_25_code
def yX6_restore : MethodName := ⟨RX6, "restore", "(I)I"⟩
abbrev cX6_checksum : ByteArray := prog_1_method_26_code
def yX6_checksum : MethodName := ⟨RX6, "checksum", "()J"⟩
abbrev cX6_asNumber : ByteArray := prog_1_method_27_code
def yX6_asNumber : MethodName := ⟨RX6, "asNumber", "(Z)I"⟩
abbrev cX6_isFuel : ByteArray := prog_1_method_28_code
def yX6_isFuel : MethodName := ⟨RX6, "isFuel", "(I)Z"⟩
abbrev cX6_tellHolding : ByteArray := prog_1_method_29_code
def yX6_tellHolding : MethodName := ⟨RX6, "tellHolding", "(LHoldingStack$Aircraft;I)I"⟩
abbrev cX6_tellNumberOfAircraft : ByteArray := prog_1_method_30_code
def yX6_tellNumberOfAircraft : MethodName := ⟨RX6, "tellNumberOfAircraft", "(I)I"⟩
abbrev cX6_tellFuel : ByteArray := prog_1_method_31_code
def yX6_tellFuel : MethodName := ⟨RX6, "tellFuel", "(I)I"⟩
abbrev cX6_checkEntry : ByteArray := prog_1_method_32_code
def yX6_checkEntry : MethodName := ⟨RX6, "checkEntry", "(LHoldingStack$Kind;II)I"⟩
abbrev cX6_checkCall : ByteArray := prog_1_method_33_code
def yX6_checkCall : MethodName := ⟨RX6, "checkCall", "(I)I"⟩
abbrev cX6_carryOutStrip : ByteArray := prog_1_method_34_code
def yX6_carryOutStrip : MethodName := ⟨RX6, "carryOutStrip", "()I"⟩
abbrev cX6_forecast : ByteArray := prog_1_method_35_code
def yX6_forecast : MethodName := ⟨RX6, "forecast", "()V"⟩
abbrev cX6_forecastMinutes : ByteArray := prog_1_method_36_code
def yX6_forecastMinutes : MethodName := ⟨RX6, "forecastMinutes", "(I)I"⟩
def RX7 : String := "HoldingStackModel"
def TX7 : u_T := fun k => match k with
  | 0 => ("HoldingStackModel", "v", "[I", true)
  | 1 => ("HoldingStackModel", "past", "[I", true)
  | 2 => ("HoldingStackModel", "pasts", "I", false)
  | 3 => ("HoldingStackModel", "spare", "[I", true)
  | 4 => ("HoldingStackModel", "kept", "[I", true)
  | 5 => ("HoldingStackModel", "isKept", "[Z", true)
  | 6 => ("HoldingStackModel", "text", "[I", true)
  | 7 => ("HoldingStackModel", "length", "I", false)
  | 8 => ("HoldingStackModel", "place", "I", false)
  | 9 => ("HoldingStackModel", "told", "[I", true)
  | 10 => ("HoldingStackModel", "rates", "[I", true)
  | 11 => ("HoldingStackModel", "reserves", "[I", true)
  | 12 => ("HoldingStackModel", "wakes", "[I", true)
  | 13 => ("HoldingStackModel", "minutes", "I", false)
  | _ => ("HoldingStackModel", "fuelLeft", "I", false)
def tyX7 : Nat → FieldType := fun k => match k with
  | 0 => .array .int
  | 1 => .array .int
  | 2 => .int
  | 3 => .array .int
  | 4 => .array .int
  | 5 => .array .boolean
  | 6 => .array .int
  | 7 => .int
  | 8 => .int
  | 9 => .array .int
  | 10 => .array .int
  | 11 => .array .int
  | 12 => .array .int
  | 13 => .int
  | _ => .int
abbrev wsX70 : List Cond := u_ws RX7 TX7 15
theorem nmX7 : ∀ a, a < 15 → ∀ b, b < 15 → a ≠ b → (TX7 a).2.1 ≠ (TX7 b).2.1 := by decide +kernel
theorem tyX7_ok : ∀ k, k < 15 → parseFieldDescriptor (TX7 k).2.2.1 = some (tyX7 k) := by decide +kernel
abbrev cX7_init : ByteArray := prog_9_method_1_code
def yX7_init : MethodName := ⟨RX7, "<init>", "()V"⟩
abbrev cX7_in : ByteArray := prog_9_method_3_code
def yX7_in : MethodName := ⟨RX7, "in", "(III)Z"⟩
abbrev cX7_at : ByteArray := prog_9_method_4_code
def yX7_at : MethodName := ⟨RX7, "at", "(I)I"⟩
abbrev cX7_isLevel : ByteArray := prog_9_method_5_code
def yX7_isLevel : MethodName := ⟨RX7, "isLevel", "(I)Z"⟩
abbrev cX7_isCraft : ByteArray := prog_9_method_6_code
def yX7_isCraft : MethodName := ⟨RX7, "isCraft", "(I)Z"⟩
abbrev cX7_puts : ByteArray := prog_9_method_7_code
def yX7_puts : MethodName := ⟨RX7, "puts", "(II)I"⟩
abbrev cX7_records : ByteArray := prog_9_method_8_code
def yX7_records : MethodName := ⟨RX7, "records", "()V"⟩
abbrev cX7_begin : ByteArray := prog_9_method_9_code
def yX7_begin : MethodName := ⟨RX7, "begin", "(I)I"⟩
abbrev cX7_setLap : ByteArray := prog_9_method_10_code
def yX7_setLap : MethodName := ⟨RX7, "setLap", "(I)I"⟩
abbrev cX7_setLimit : ByteArray := prog_9_method_11_code
def yX7_setLimit : MethodName := ⟨RX7, "setLimit", "(I)I"⟩
abbrev cX7_opens : ByteArray := prog_9_method_12_code
def yX7_opens : MethodName := ⟨RX7, "opens", "(Z)I"⟩
abbrev cX7_setRunway : ByteArray := prog_9_method_13_code
def yX7_setRunway : MethodName := ⟨RX7, "setRunway", "(Z)I"⟩
abbrev cX7_setLadder : ByteArray := prog_9_method_14_code
def yX7_setLadder : MethodName := ⟨RX7, "setLadder", "(Z)I"⟩
abbrev cX7_on : ByteArray := prog_9_method_15_code
def yX7_on : MethodName := ⟨RX7, "on", "(I)I"⟩
abbrev cX7_holding : ByteArray := prog_9_method_16_code
def yX7_holding : MethodName := ⟨RX7, "holding", "()I"⟩
abbrev cX7_enterWrong : ByteArray := prog_9_method_17_code
def yX7_enterWrong : MethodName := ⟨RX7, "enterWrong", "(III)I"⟩
abbrev cX7_refusal : ByteArray := prog_9_method_18_code
def yX7_refusal : MethodName := ⟨RX7, "refusal", "(III)I"⟩
abbrev cX7_enters : ByteArray := prog_9_method_19_code
def yX7_enters : MethodName := ⟨RX7, "enters", "(III)I"⟩
abbrev cX7_enter : ByteArray := prog_9_method_20_code
def yX7_enter : MethodName := ⟨RX7, "enter", "(III)I"⟩
abbrev cX7_callWrong : ByteArray := prog_9_method_21_code
def yX7_callWrong : MethodName := ⟨RX7, "callWrong", "(I)I"⟩
abbrev cX7_call : ByteArray := prog_9_method_22_code
def yX7_call : MethodName := ⟨RX7, "call", "(I)I"⟩
abbrev cX7_burn : ByteArray := prog_9_method_23_code
def yX7_burn : MethodName := ⟨RX7, "burn", "(II)I"⟩
abbrev cX7_isShort : ByteArray := prog_9_method_24_code
def yX7_isShort : MethodName := ⟨RX7, "isShort", "(I)Z"⟩
abbrev cX7_isOver : ByteArray := prog_9_method_25_code
def yX7_isOver : MethodName := ⟨RX7, "isOver", "(I)Z"⟩
abbrev cX7_leaves : ByteArray := prog_9_method_26_code
def yX7_leaves : MethodName := ⟨RX7, "leaves", "(II)V"⟩
abbrev cX7_burns : ByteArray := prog_9_method_27_code
def yX7_burns : MethodName := ⟨RX7, "burns", "()V"⟩
abbrev cX7_lander : ByteArray := prog_9_method_28_code
def yX7_lander : MethodName := ⟨RX7, "lander", "()I"⟩
abbrev cX7_passes : ByteArray := prog_9_method_29_code
def yX7_passes : MethodName := ⟨RX7, "passes", "()I"⟩
abbrev cX7_minutesPass : ByteArray := prog_9_method_30_code
def yX7_minutesPass : MethodName := ⟨RX7, "minutesPass", "(I)I"⟩
abbrev cX7_pass : ByteArray := prog_9_method_31_code
def yX7_pass : MethodName := ⟨RX7, "pass", "(I)I"⟩
abbrev cX7_level : ByteArray := prog_9_method_32_code
def yX7_level : MethodName := ⟨RX7, "level", "(I)I"⟩
abbrev cX7_craftTells : ByteArray := prog_9_method_33_code
def yX7_craftTells : MethodName := ⟨RX7, "craftTells", "(II)I"⟩
abbrev cX7_aircraft : ByteArray := prog_9_method_34_code
def yX7_aircraft : MethodName := ⟨RX7, "aircraft", "(II)I"⟩
abbrev cX7_many : ByteArray := prog_9_method_35_code
def yX7_many : MethodName := ⟨RX7, "many", "(I)I"⟩
abbrev cX7_tells : ByteArray := prog_9_method_36_code
def yX7_tells : MethodName := ⟨RX7, "tells", "(I)I"⟩
abbrev cX7_tell : ByteArray := prog_9_method_37_code
def yX7_tell : MethodName := ⟨RX7, "tell", "(I)I"⟩
abbrev cX7_whyOf : ByteArray := prog_9_method_38_code
def yX7_whyOf : MethodName := ⟨RX7, "whyOf", "(I)I"⟩
abbrev cX7_why : ByteArray := prog_9_method_39_code
def yX7_why : MethodName := ⟨RX7, "why", "(I)I"⟩
abbrev cX7_keeps : ByteArray := prog_9_method_40_code
def yX7_keeps : MethodName := ⟨RX7, "keeps", "([I)V"⟩
abbrev cX7_comesBack : ByteArray := prog_9_method_41_code
def yX7_comesBack : MethodName := ⟨RX7, "comesBack", "()V"⟩
abbrev cX7_landsLater : ByteArray := prog_9_method_42_code
def yX7_landsLater : MethodName := ⟨RX7, "landsLater", "(I)V"⟩
abbrev cX7_forecasts : ByteArray := prog_9_method_43_code
def yX7_forecasts : MethodName := ⟨RX7, "forecasts", "(I)V"⟩
abbrev cX7_minutesOf : ByteArray := prog_9_method_44_code
def yX7_minutesOf : MethodName := ⟨RX7, "minutesOf", "(I)I"⟩
abbrev cX7_minutesLeft : ByteArray := prog_9_method_45_code
def yX7_minutesLeft : MethodName := ⟨RX7, "minutesLeft", "(I)I"⟩
abbrev cX7_landsWith : ByteArray := prog_9_method_46_code
def yX7_landsWith : MethodName := ⟨RX7, "landsWith", "(I)I"⟩
abbrev cX7_endurance : ByteArray := prog_9_method_47_code
def yX7_endurance : MethodName := ⟨RX7, "endurance", "(I)I"⟩
abbrev cX7_bestLevel : ByteArray := prog_9_method_48_code
def yX7_bestLevel : MethodName := ⟨RX7, "bestLevel", "(II)I"⟩
abbrev cX7_lands : ByteArray := prog_9_method_49_code
def yX7_lands : MethodName := ⟨RX7, "lands", "(I)I"⟩
abbrev cX7_append : ByteArray := prog_9_method_50_code
def yX7_append : MethodName := ⟨RX7, "append", "(I)I"⟩
abbrev cX7_clearText : ByteArray := prog_9_method_51_code
def yX7_clearText : MethodName := ⟨RX7, "clearText", "()I"⟩
abbrev cX7_here : ByteArray := prog_9_method_52_code
def yX7_here : MethodName := ⟨RX7, "here", "()I"⟩
abbrev cX7_takes : ByteArray := prog_9_method_53_code
def yX7_takes : MethodName := ⟨RX7, "takes", "(I)Z"⟩
abbrev cX7_digit : ByteArray := prog_9_method_54_code
def yX7_digit : MethodName := ⟨RX7, "digit", "()I"⟩
abbrev cX7_isNumber : ByteArray := prog_9_method_55_code
def yX7_isNumber : MethodName := ⟨RX7, "isNumber", "(III)Z"⟩
abbrev cX7_isStrip : ByteArray := prog_9_method_56_code
def yX7_isStrip : MethodName := ⟨RX7, "isStrip", "()Z"⟩
abbrev cX7_isText : ByteArray := prog_9_method_57_code
def yX7_isText : MethodName := ⟨RX7, "isText", "()Z"⟩
abbrev cX7_faultPosition : ByteArray := prog_9_method_58_code
def yX7_faultPosition : MethodName := ⟨RX7, "faultPosition", "()I"⟩
abbrev cX7_carriesOut : ByteArray := prog_9_method_59_code
def yX7_carriesOut : MethodName := ⟨RX7, "carriesOut", "()Z"⟩
abbrev cX7_run : ByteArray := prog_9_method_60_code
def yX7_run : MethodName := ⟨RX7, "run", "()I"⟩
abbrev cX7_undo : ByteArray := prog_9_method_61_code
def yX7_undo : MethodName := ⟨RX7, "undo", "()I"⟩
abbrev cX7_keep : ByteArray := prog_9_method_62_code
def yX7_keep : MethodName := ⟨RX7, "keep", "(I)I"⟩
abbrev cX7_restore : ByteArray := prog_9_method_63_code
def yX7_restore : MethodName := ⟨RX7, "restore", "(I)I"⟩
abbrev cX7_more : ByteArray := prog_9_method_64_code
def yX7_more : MethodName := ⟨RX7, "more", "(JI)J"⟩
abbrev cX7_checksum : ByteArray := prog_9_method_65_code
def yX7_checksum : MethodName := ⟨RX7, "checksum", "()J"⟩
def RJx29ce0 : String := "java/lang/Enum"
def TJx29ce0 : u_T := fun k => match k with
  | _ => ("", "", "", false)
def tyJx29ce0 : Nat → FieldType := fun k => match k with
  | _ => .int
abbrev wsJx29ce00 : List Cond := u_ws RJx29ce0 TJx29ce0 0
theorem nmJx29ce0 : ∀ a, a < 0 → ∀ b, b < 0 → a ≠ b → (TJx29ce0 a).2.1 ≠ (TJx29ce0 b).2.1 := by decide +kernel
theorem tyJx29ce0_ok : ∀ k, k < 0 → parseFieldDescriptor (TJx29ce0 k).2.2.1 = some (tyJx29ce0 k) := by decide +kernel
def RJ9 : String := "java/lang/Math"
def TJ9 : u_T := fun k => match k with
  | _ => ("", "", "", false)
def tyJ9 : Nat → FieldType := fun k => match k with
  | _ => .int
abbrev wsJ90 : List Cond := u_ws RJ9 TJ9 0
theorem nmJ9 : ∀ a, a < 0 → ∀ b, b < 0 → a ≠ b → (TJ9 a).2.1 ≠ (TJ9 b).2.1 := by decide +kernel
theorem tyJ9_ok : ∀ k, k < 0 → parseFieldDescriptor (TJ9 k).2.2.1 = some (tyJ9 k) := by decide +kernel
abbrev cJ9_min_7cf53 : ByteArray := prog_11_method_69_code
def yJ9_min_7cf53 : MethodName := ⟨RJ9, "min", "(II)I"⟩
def RJ7 : String := "java/util/Arrays"
def TJ7 : u_T := fun k => match k with
  | _ => ("", "", "", false)
def tyJ7 : Nat → FieldType := fun k => match k with
  | _ => .int
abbrev wsJ70 : List Cond := u_ws RJ7 TJ7 0
theorem nmJ7 : ∀ a, a < 0 → ∀ b, b < 0 → a ≠ b → (TJ7 a).2.1 ≠ (TJ7 b).2.1 := by decide +kernel
theorem tyJ7_ok : ∀ k, k < 0 → parseFieldDescriptor (TJ7 k).2.2.1 = some (tyJ7 k) := by decide +kernel
abbrev cJ7_fill_53178 : ByteArray := prog_12_method_103_code
def yJ7_fill_53178 : MethodName := ⟨RJ7, "fill", "([II)V"⟩
def RL : String := "HoldingStackLaw"
abbrev cL_law : ByteArray := code
def yL_law : MethodName := ⟨RL, "law", "([I)Z"⟩
end
section
theorem dX0_init_0 : decode cX0_init 0 = .ok (.aload_n 0, 1) := by decide +kernel
theorem dX0_init_1 : decode cX0_init 1 = .ok (.invokespecial 3, 3) := by decide +kernel
theorem dX0_init_4 : decode cX0_init 4 = .ok (.aload_n 0, 1) := by decide +kernel
theorem dX0_init_5 : decode cX0_init 5 = .ok (.getstatic 9, 3) := by decide +kernel
theorem dX0_init_8 : decode cX0_init 8 = .ok (.putfield 15, 3) := by decide +kernel
theorem dX0_init_11 : decode cX0_init 11 = .ok (.aload_n 0, 1) := by decide +kernel
theorem dX0_init_12 : decode cX0_init 12 = .ok (.iload_n 1, 1) := by decide +kernel
theorem dX0_init_13 : decode cX0_init 13 = .ok (.putfield 20, 3) := by decide +kernel
theorem dX0_init_16 : decode cX0_init 16 = .ok (.return_, 1) := by decide +kernel
theorem dX0_copyFrom_0 : decode cX0_copyFrom 0 = .ok (.aload_n 0, 1) := by decide +kernel
theorem dX0_copyFrom_1 : decode cX0_copyFrom 1 = .ok (.aload_n 1, 1) := by decide +kernel
theorem dX0_copyFrom_2 : decode cX0_copyFrom 2 = .ok (.getfield 15, 3) := by decide +kernel
theorem dX0_copyFrom_5 : decode cX0_copyFrom 5 = .ok (.putfield 15, 3) := by decide +kernel
theorem dX0_copyFrom_8 : decode cX0_copyFrom 8 = .ok (.aload_n 0, 1) := by decide +kernel
theorem dX0_copyFrom_9 : decode cX0_copyFrom 9 = .ok (.aload_n 1, 1) := by decide +kernel
theorem dX0_copyFrom_10 : decode cX0_copyFrom 10 = .ok (.getfield 24, 3) := by decide +kernel
theorem dX0_copyFrom_13 : decode cX0_copyFrom 13 = .ok (.putfield 24, 3) := by decide +kernel
theorem dX0_copyFrom_16 : decode cX0_copyFrom 16 = .ok (.aload_n 0, 1) := by decide +kernel
theorem dX0_copyFrom_17 : decode cX0_copyFrom 17 = .ok (.aload_n 1, 1) := by decide +kernel
theorem dX0_copyFrom_18 : decode cX0_copyFrom 18 = .ok (.getfield 27, 3) := by decide +kernel
theorem dX0_copyFrom_21 : decode cX0_copyFrom 21 = .ok (.putfield 27, 3) := by decide +kernel
theorem dX0_copyFrom_24 : decode cX0_copyFrom 24 = .ok (.aload_n 0, 1) := by decide +kernel
theorem dX0_copyFrom_25 : decode cX0_copyFrom 25 = .ok (.aload_n 1, 1) := by decide +kernel
theorem dX0_copyFrom_26 : decode cX0_copyFrom 26 = .ok (.getfield 30, 3) := by decide +kernel
theorem dX0_copyFrom_29 : decode cX0_copyFrom 29 = .ok (.putfield 30, 3) := by decide +kernel
theorem dX0_copyFrom_32 : decode cX0_copyFrom 32 = .ok (.aload_n 0, 1) := by decide +kernel
theorem dX0_copyFrom_33 : decode cX0_copyFrom 33 = .ok (.aload_n 1, 1) := by decide +kernel
theorem dX0_copyFrom_34 : decode cX0_copyFrom 34 = .ok (.getfield 33, 3) := by decide +kernel
theorem dX0_copyFrom_37 : decode cX0_copyFrom 37 = .ok (.putfield 33, 3) := by decide +kernel
theorem dX0_copyFrom_40 : decode cX0_copyFrom 40 = .ok (.aload_n 0, 1) := by decide +kernel
theorem dX0_copyFrom_41 : decode cX0_copyFrom 41 = .ok (.aload_n 1, 1) := by decide +kernel
theorem dX0_copyFrom_42 : decode cX0_copyFrom 42 = .ok (.getfield 36, 3) := by decide +kernel
theorem dX0_copyFrom_45 : decode cX0_copyFrom 45 = .ok (.putfield 36, 3) := by decide +kernel
theorem dX0_copyFrom_48 : decode cX0_copyFrom 48 = .ok (.aload_n 0, 1) := by decide +kernel
theorem dX0_copyFrom_49 : decode cX0_copyFrom 49 = .ok (.aload_n 1, 1) := by decide +kernel
theorem dX0_copyFrom_50 : decode cX0_copyFrom 50 = .ok (.getfield 40, 3) := by decide +kernel
theorem dX0_copyFrom_53 : decode cX0_copyFrom 53 = .ok (.putfield 40, 3) := by decide +kernel
theorem dX0_copyFrom_56 : decode cX0_copyFrom 56 = .ok (.return_, 1) := by decide +kernel
theorem dX0_isHolding_0 : decode cX0_isHolding 0 = .ok (.aload_n 0, 1) := by decide +kernel
theorem dX0_isHolding_1 : decode cX0_isHolding 1 = .ok (.getfield 27, 3) := by decide +kernel
theorem dX0_isHolding_4 : decode cX0_isHolding 4 = .ok (.ifCond .ne 7, 3) := by decide +kernel
theorem dX0_isHolding_7 : decode cX0_isHolding 7 = .ok (.iconst 1, 1) := by decide +kernel
theorem dX0_isHolding_8 : decode cX0_isHolding 8 = .ok (.goto 4, 3) := by decide +kernel
theorem dX0_isHolding_11 : decode cX0_isHolding 11 = .ok (.iconst 0, 1) := by decide +kernel
theorem dX0_isHolding_12 : decode cX0_isHolding 12 = .ok (.ireturn, 1) := by decide +kernel
theorem dX0_isOverFix_0 : decode cX0_isOverFix 0 = .ok (.aload_n 0, 1) := by decide +kernel
theorem dX0_isOverFix_1 : decode cX0_isOverFix 1 = .ok (.getfield 33, 3) := by decide +kernel
theorem dX0_isOverFix_4 : decode cX0_isOverFix 4 = .ok (.ifCond .ne 7, 3) := by decide +kernel
theorem dX0_isOverFix_7 : decode cX0_isOverFix 7 = .ok (.iconst 1, 1) := by decide +kernel
theorem dX0_isOverFix_8 : decode cX0_isOverFix 8 = .ok (.goto 4, 3) := by decide +kernel
theorem dX0_isOverFix_11 : decode cX0_isOverFix 11 = .ok (.iconst 0, 1) := by decide +kernel
theorem dX0_isOverFix_12 : decode cX0_isOverFix 12 = .ok (.ireturn, 1) := by decide +kernel
theorem dX0_isShort_0 : decode cX0_isShort 0 = .ok (.aload_n 0, 1) := by decide +kernel
theorem dX0_isShort_1 : decode cX0_isShort 1 = .ok (.getfield 24, 3) := by decide +kernel
theorem dX0_isShort_4 : decode cX0_isShort 4 = .ok (.aload_n 0, 1) := by decide +kernel
theorem dX0_isShort_5 : decode cX0_isShort 5 = .ok (.getfield 15, 3) := by decide +kernel
theorem dX0_isShort_8 : decode cX0_isShort 8 = .ok (.getfield 43, 3) := by decide +kernel
theorem dX0_isShort_11 : decode cX0_isShort 11 = .ok (.if_icmp .gt 7, 3) := by decide +kernel
theorem dX0_isShort_14 : decode cX0_isShort 14 = .ok (.iconst 1, 1) := by decide +kernel
theorem dX0_isShort_15 : decode cX0_isShort 15 = .ok (.goto 4, 3) := by decide +kernel
theorem dX0_isShort_18 : decode cX0_isShort 18 = .ok (.iconst 0, 1) := by decide +kernel
theorem dX0_isShort_19 : decode cX0_isShort 19 = .ok (.ireturn, 1) := by decide +kernel
theorem dX0_mustDivert_0 : decode cX0_mustDivert 0 = .ok (.iconst 2, 1) := by decide +kernel
theorem dX0_mustDivert_1 : decode cX0_mustDivert 1 = .ok (.aload_n 0, 1) := by decide +kernel
theorem dX0_mustDivert_2 : decode cX0_mustDivert 2 = .ok (.getfield 24, 3) := by decide +kernel
theorem dX0_mustDivert_5 : decode cX0_mustDivert 5 = .ok (.imul, 1) := by decide +kernel
theorem dX0_mustDivert_6 : decode cX0_mustDivert 6 = .ok (.aload_n 0, 1) := by decide +kernel
theorem dX0_mustDivert_7 : decode cX0_mustDivert 7 = .ok (.getfield 15, 3) := by decide +kernel
theorem dX0_mustDivert_10 : decode cX0_mustDivert 10 = .ok (.getfield 43, 3) := by decide +kernel
theorem dX0_mustDivert_13 : decode cX0_mustDivert 13 = .ok (.if_icmp .ge 7, 3) := by decide +kernel
theorem dX0_mustDivert_16 : decode cX0_mustDivert 16 = .ok (.iconst 1, 1) := by decide +kernel
theorem dX0_mustDivert_17 : decode cX0_mustDivert 17 = .ok (.goto 4, 3) := by decide +kernel
theorem dX0_mustDivert_20 : decode cX0_mustDivert 20 = .ok (.iconst 0, 1) := by decide +kernel
theorem dX0_mustDivert_21 : decode cX0_mustDivert 21 = .ok (.ireturn, 1) := by decide +kernel
theorem dX0_burnPerMinute_0 : decode cX0_burnPerMinute 0 = .ok (.aload_n 0, 1) := by decide +kernel
theorem dX0_burnPerMinute_1 : decode cX0_burnPerMinute 1 = .ok (.getfield 15, 3) := by decide +kernel
theorem dX0_burnPerMinute_4 : decode cX0_burnPerMinute 4 = .ok (.getfield 46, 3) := by decide +kernel
theorem dX0_burnPerMinute_7 : decode cX0_burnPerMinute 7 = .ok (.aload_n 0, 1) := by decide +kernel
theorem dX0_burnPerMinute_8 : decode cX0_burnPerMinute 8 = .ok (.getfield 15, 3) := by decide +kernel
theorem dX0_burnPerMinute_11 : decode cX0_burnPerMinute 11 = .ok (.getfield 46, 3) := by decide +kernel
theorem dX0_burnPerMinute_14 : decode cX0_burnPerMinute 14 = .ok (.aload_n 0, 1) := by decide +kernel
theorem dX0_burnPerMinute_15 : decode cX0_burnPerMinute 15 = .ok (.getfield 30, 3) := by decide +kernel
theorem dX0_burnPerMinute_18 : decode cX0_burnPerMinute 18 = .ok (.imul, 1) := by decide +kernel
theorem dX0_burnPerMinute_19 : decode cX0_burnPerMinute 19 = .ok (.bipush 40, 2) := by decide +kernel
theorem dX0_burnPerMinute_21 : decode cX0_burnPerMinute 21 = .ok (.idiv, 1) := by decide +kernel
theorem dX0_burnPerMinute_22 : decode cX0_burnPerMinute 22 = .ok (.isub, 1) := by decide +kernel
theorem dX0_burnPerMinute_23 : decode cX0_burnPerMinute 23 = .ok (.ireturn, 1) := by decide +kernel
theorem dX0_minutesUntilShort_0 : decode cX0_minutesUntilShort 0 = .ok (.aload_n 0, 1) := by decide +kernel
theorem dX0_minutesUntilShort_1 : decode cX0_minutesUntilShort 1 = .ok (.getfield 24, 3) := by decide +kernel
theorem dX0_minutesUntilShort_4 : decode cX0_minutesUntilShort 4 = .ok (.aload_n 0, 1) := by decide +kernel
theorem dX0_minutesUntilShort_5 : decode cX0_minutesUntilShort 5 = .ok (.getfield 15, 3) := by decide +kernel
theorem dX0_minutesUntilShort_8 : decode cX0_minutesUntilShort 8 = .ok (.getfield 43, 3) := by decide +kernel
theorem dX0_minutesUntilShort_11 : decode cX0_minutesUntilShort 11 = .ok (.isub, 1) := by decide +kernel
theorem dX0_minutesUntilShort_12 : decode cX0_minutesUntilShort 12 = .ok (.istore_n 1, 1) := by decide +kernel
theorem dX0_minutesUntilShort_13 : decode cX0_minutesUntilShort 13 = .ok (.aload_n 0, 1) := by decide +kernel
theorem dX0_minutesUntilShort_14 : decode cX0_minutesUntilShort 14 = .ok (.invokevirtual 49, 3) := by decide +kernel
theorem dX0_minutesUntilShort_17 : decode cX0_minutesUntilShort 17 = .ok (.istore_n 2, 1) := by decide +kernel
theorem dX0_minutesUntilShort_18 : decode cX0_minutesUntilShort 18 = .ok (.iload_n 1, 1) := by decide +kernel
theorem dX0_minutesUntilShort_19 : decode cX0_minutesUntilShort 19 = .ok (.ifCond .le 7, 3) := by decide +kernel
theorem dX0_minutesUntilShort_22 : decode cX0_minutesUntilShort 22 = .ok (.iload_n 2, 1) := by decide +kernel
theorem dX0_minutesUntilShort_23 : decode cX0_minutesUntilShort 23 = .ok (.ifCond .gt 7, 3) := by decide +kernel
theorem dX0_minutesUntilShort_26 : decode cX0_minutesUntilShort 26 = .ok (.iconst 0, 1) := by decide +kernel
theorem dX0_minutesUntilShort_27 : decode cX0_minutesUntilShort 27 = .ok (.goto 10, 3) := by decide +kernel
theorem dX0_minutesUntilShort_30 : decode cX0_minutesUntilShort 30 = .ok (.iload_n 1, 1) := by decide +kernel
theorem dX0_minutesUntilShort_31 : decode cX0_minutesUntilShort 31 = .ok (.iload_n 2, 1) := by decide +kernel
theorem dX0_minutesUntilShort_32 : decode cX0_minutesUntilShort 32 = .ok (.iadd, 1) := by decide +kernel
theorem dX0_minutesUntilShort_33 : decode cX0_minutesUntilShort 33 = .ok (.iconst 1, 1) := by decide +kernel
theorem dX0_minutesUntilShort_34 : decode cX0_minutesUntilShort 34 = .ok (.isub, 1) := by decide +kernel
theorem dX0_minutesUntilShort_35 : decode cX0_minutesUntilShort 35 = .ok (.iload_n 2, 1) := by decide +kernel
theorem dX0_minutesUntilShort_36 : decode cX0_minutesUntilShort 36 = .ok (.idiv, 1) := by decide +kernel
theorem dX0_minutesUntilShort_37 : decode cX0_minutesUntilShort 37 = .ok (.ireturn, 1) := by decide +kernel
theorem dX0_burnForMinute_0 : decode cX0_burnForMinute 0 = .ok (.aload_n 0, 1) := by decide +kernel
theorem dX0_burnForMinute_1 : decode cX0_burnForMinute 1 = .ok (.invokevirtual 49, 3) := by decide +kernel
theorem dX0_burnForMinute_4 : decode cX0_burnForMinute 4 = .ok (.aload_n 0, 1) := by decide +kernel
theorem dX0_burnForMinute_5 : decode cX0_burnForMinute 5 = .ok (.getfield 24, 3) := by decide +kernel
theorem dX0_burnForMinute_8 : decode cX0_burnForMinute 8 = .ok (.invokestatic 53, 3) := by decide +kernel
theorem dX0_burnForMinute_11 : decode cX0_burnForMinute 11 = .ok (.istore_n 1, 1) := by decide +kernel
theorem dX0_burnForMinute_12 : decode cX0_burnForMinute 12 = .ok (.aload_n 0, 1) := by decide +kernel
theorem dX0_burnForMinute_13 : decode cX0_burnForMinute 13 = .ok (.dup, 1) := by decide +kernel
theorem dX0_burnForMinute_14 : decode cX0_burnForMinute 14 = .ok (.getfield 24, 3) := by decide +kernel
theorem dX0_burnForMinute_17 : decode cX0_burnForMinute 17 = .ok (.iload_n 1, 1) := by decide +kernel
theorem dX0_burnForMinute_18 : decode cX0_burnForMinute 18 = .ok (.isub, 1) := by decide +kernel
theorem dX0_burnForMinute_19 : decode cX0_burnForMinute 19 = .ok (.putfield 24, 3) := by decide +kernel
theorem dX0_burnForMinute_22 : decode cX0_burnForMinute 22 = .ok (.iload_n 1, 1) := by decide +kernel
theorem dX0_burnForMinute_23 : decode cX0_burnForMinute 23 = .ok (.ireturn, 1) := by decide +kernel
theorem dX0_flyMinute_0 : decode cX0_flyMinute 0 = .ok (.aload_n 0, 1) := by decide +kernel
theorem dX0_flyMinute_1 : decode cX0_flyMinute 1 = .ok (.aload_n 0, 1) := by decide +kernel
theorem dX0_flyMinute_2 : decode cX0_flyMinute 2 = .ok (.getfield 33, 3) := by decide +kernel
theorem dX0_flyMinute_5 : decode cX0_flyMinute 5 = .ok (.iconst 1, 1) := by decide +kernel
theorem dX0_flyMinute_6 : decode cX0_flyMinute 6 = .ok (.iadd, 1) := by decide +kernel
theorem dX0_flyMinute_7 : decode cX0_flyMinute 7 = .ok (.iload_n 1, 1) := by decide +kernel
theorem dX0_flyMinute_8 : decode cX0_flyMinute 8 = .ok (.if_icmp .lt 7, 3) := by decide +kernel
theorem dX0_flyMinute_11 : decode cX0_flyMinute 11 = .ok (.iconst 0, 1) := by decide +kernel
theorem dX0_flyMinute_12 : decode cX0_flyMinute 12 = .ok (.goto 9, 3) := by decide +kernel
theorem dX0_flyMinute_15 : decode cX0_flyMinute 15 = .ok (.aload_n 0, 1) := by decide +kernel
theorem dX0_flyMinute_16 : decode cX0_flyMinute 16 = .ok (.getfield 33, 3) := by decide +kernel
theorem dX0_flyMinute_19 : decode cX0_flyMinute 19 = .ok (.iconst 1, 1) := by decide +kernel
theorem dX0_flyMinute_20 : decode cX0_flyMinute 20 = .ok (.iadd, 1) := by decide +kernel
theorem dX0_flyMinute_21 : decode cX0_flyMinute 21 = .ok (.putfield 33, 3) := by decide +kernel
theorem dX0_flyMinute_24 : decode cX0_flyMinute 24 = .ok (.return_, 1) := by decide +kernel
theorem dX1_init_0 : decode cX1_init 0 = .ok (.aload_n 0, 1) := by decide +kernel
theorem dX1_init_1 : decode cX1_init 1 = .ok (.invokespecial 3, 3) := by decide +kernel
theorem dX1_init_4 : decode cX1_init 4 = .ok (.aload_n 0, 1) := by decide +kernel
theorem dX1_init_5 : decode cX1_init 5 = .ok (.iconst 5, 1) := by decide +kernel
theorem dX1_init_6 : decode cX1_init 6 = .ok (.anewarray 9, 3) := by decide +kernel
theorem dX1_init_9 : decode cX1_init 9 = .ok (.putfield 11, 3) := by decide +kernel
theorem dX1_init_12 : decode cX1_init 12 = .ok (.iconst 0, 1) := by decide +kernel
theorem dX1_init_13 : decode cX1_init 13 = .ok (.istore_n 1, 1) := by decide +kernel
theorem dX1_init_14 : decode cX1_init 14 = .ok (.iload_n 1, 1) := by decide +kernel
theorem dX1_init_15 : decode cX1_init 15 = .ok (.aload_n 0, 1) := by decide +kernel
theorem dX1_init_16 : decode cX1_init 16 = .ok (.getfield 11, 3) := by decide +kernel
theorem dX1_init_19 : decode cX1_init 19 = .ok (.arraylength, 1) := by decide +kernel
theorem dX1_init_20 : decode cX1_init 20 = .ok (.if_icmp .ge 22, 3) := by decide +kernel
theorem dX1_init_23 : decode cX1_init 23 = .ok (.aload_n 0, 1) := by decide +kernel
theorem dX1_init_24 : decode cX1_init 24 = .ok (.getfield 11, 3) := by decide +kernel
theorem dX1_init_27 : decode cX1_init 27 = .ok (.iload_n 1, 1) := by decide +kernel
theorem dX1_init_28 : decode cX1_init 28 = .ok (.new 9, 3) := by decide +kernel
theorem dX1_init_31 : decode cX1_init 31 = .ok (.dup, 1) := by decide +kernel
theorem dX1_init_32 : decode cX1_init 32 = .ok (.invokespecial 17, 3) := by decide +kernel
theorem dX1_init_35 : decode cX1_init 35 = .ok (.aastore, 1) := by decide +kernel
theorem dX1_init_36 : decode cX1_init 36 = .ok (.iinc 1 1, 3) := by decide +kernel
theorem dX1_init_39 : decode cX1_init 39 = .ok (.goto (-25), 3) := by decide +kernel
theorem dX1_init_42 : decode cX1_init 42 = .ok (.return_, 1) := by decide +kernel
theorem dX1_push_0 : decode cX1_push 0 = .ok (.aload_n 0, 1) := by decide +kernel
theorem dX1_push_1 : decode cX1_push 1 = .ok (.getfield 18, 3) := by decide +kernel
theorem dX1_push_4 : decode cX1_push 4 = .ok (.aload_n 0, 1) := by decide +kernel
theorem dX1_push_5 : decode cX1_push 5 = .ok (.getfield 11, 3) := by decide +kernel
theorem dX1_push_8 : decode cX1_push 8 = .ok (.arraylength, 1) := by decide +kernel
theorem dX1_push_9 : decode cX1_push 9 = .ok (.if_icmp .lt 7, 3) := by decide +kernel
theorem dX1_push_12 : decode cX1_push 12 = .ok (.aload_n 0, 1) := by decide +kernel
theorem dX1_push_13 : decode cX1_push 13 = .ok (.invokevirtual 22, 3) := by decide +kernel
theorem dX1_push_16 : decode cX1_push 16 = .ok (.aload_n 0, 1) := by decide +kernel
theorem dX1_push_17 : decode cX1_push 17 = .ok (.getfield 11, 3) := by decide +kernel
theorem dX1_push_20 : decode cX1_push 20 = .ok (.aload_n 0, 1) := by decide +kernel
theorem dX1_push_21 : decode cX1_push 21 = .ok (.getfield 18, 3) := by decide +kernel
theorem dX1_push_24 : decode cX1_push 24 = .ok (.aaload, 1) := by decide +kernel
theorem dX1_push_25 : decode cX1_push 25 = .ok (.aload_n 1, 1) := by decide +kernel
theorem dX1_push_26 : decode cX1_push 26 = .ok (.invokevirtual 25, 3) := by decide +kernel
theorem dX1_push_29 : decode cX1_push 29 = .ok (.aload_n 0, 1) := by decide +kernel
theorem dX1_push_30 : decode cX1_push 30 = .ok (.dup, 1) := by decide +kernel
theorem dX1_push_31 : decode cX1_push 31 = .ok (.getfield 18, 3) := by decide +kernel
theorem dX1_push_34 : decode cX1_push 34 = .ok (.iconst 1, 1) := by decide +kernel
theorem dX1_push_35 : decode cX1_push 35 = .ok (.iadd, 1) := by decide +kernel
theorem dX1_push_36 : decode cX1_push 36 = .ok (.putfield 18, 3) := by decide +kernel
theorem dX1_push_39 : decode cX1_push 39 = .ok (.return_, 1) := by decide +kernel
theorem dX1_dropOldest_0 : decode cX1_dropOldest 0 = .ok (.aload_n 0, 1) := by decide +kernel
theorem dX1_dropOldest_1 : decode cX1_dropOldest 1 = .ok (.getfield 11, 3) := by decide +kernel
theorem dX1_dropOldest_4 : decode cX1_dropOldest 4 = .ok (.iconst 0, 1) := by decide +kernel
theorem dX1_dropOldest_5 : decode cX1_dropOldest 5 = .ok (.aaload, 1) := by decide +kernel
theorem dX1_dropOldest_6 : decode cX1_dropOldest 6 = .ok (.astore_n 1, 1) := by decide +kernel
theorem dX1_dropOldest_7 : decode cX1_dropOldest 7 = .ok (.iconst 1, 1) := by decide +kernel
theorem dX1_dropOldest_8 : decode cX1_dropOldest 8 = .ok (.istore_n 2, 1) := by decide +kernel
theorem dX1_dropOldest_9 : decode cX1_dropOldest 9 = .ok (.iload_n 2, 1) := by decide +kernel
theorem dX1_dropOldest_10 : decode cX1_dropOldest 10 = .ok (.aload_n 0, 1) := by decide +kernel
theorem dX1_dropOldest_11 : decode cX1_dropOldest 11 = .ok (.getfield 11, 3) := by decide +kernel
theorem dX1_dropOldest_14 : decode cX1_dropOldest 14 = .ok (.arraylength, 1) := by decide +kernel
theorem dX1_dropOldest_15 : decode cX1_dropOldest 15 = .ok (.if_icmp .ge 23, 3) := by decide +kernel
theorem dX1_dropOldest_18 : decode cX1_dropOldest 18 = .ok (.aload_n 0, 1) := by decide +kernel
theorem dX1_dropOldest_19 : decode cX1_dropOldest 19 = .ok (.getfield 11, 3) := by decide +kernel
theorem dX1_dropOldest_22 : decode cX1_dropOldest 22 = .ok (.iload_n 2, 1) := by decide +kernel
theorem dX1_dropOldest_23 : decode cX1_dropOldest 23 = .ok (.iconst 1, 1) := by decide +kernel
theorem dX1_dropOldest_24 : decode cX1_dropOldest 24 = .ok (.isub, 1) := by decide +kernel
theorem dX1_dropOldest_25 : decode cX1_dropOldest 25 = .ok (.aload_n 0, 1) := by decide +kernel
theorem dX1_dropOldest_26 : decode cX1_dropOldest 26 = .ok (.getfield 11, 3) := by decide +kernel
theorem dX1_dropOldest_29 : decode cX1_dropOldest 29 = .ok (.iload_n 2, 1) := by decide +kernel
theorem dX1_dropOldest_30 : decode cX1_dropOldest 30 = .ok (.aaload, 1) := by decide +kernel
theorem dX1_dropOldest_31 : decode cX1_dropOldest 31 = .ok (.aastore, 1) := by decide +kernel
theorem dX1_dropOldest_32 : decode cX1_dropOldest 32 = .ok (.iinc 2 1, 3) := by decide +kernel
theorem dX1_dropOldest_35 : decode cX1_dropOldest 35 = .ok (.goto (-26), 3) := by decide +kernel
theorem dX1_dropOldest_38 : decode cX1_dropOldest 38 = .ok (.aload_n 0, 1) := by decide +kernel
theorem dX1_dropOldest_39 : decode cX1_dropOldest 39 = .ok (.getfield 11, 3) := by decide +kernel
theorem dX1_dropOldest_42 : decode cX1_dropOldest 42 = .ok (.aload_n 0, 1) := by decide +kernel
theorem dX1_dropOldest_43 : decode cX1_dropOldest 43 = .ok (.getfield 11, 3) := by decide +kernel
theorem dX1_dropOldest_46 : decode cX1_dropOldest 46 = .ok (.arraylength, 1) := by decide +kernel
theorem dX1_dropOldest_47 : decode cX1_dropOldest 47 = .ok (.iconst 1, 1) := by decide +kernel
theorem dX1_dropOldest_48 : decode cX1_dropOldest 48 = .ok (.isub, 1) := by decide +kernel
theorem dX1_dropOldest_49 : decode cX1_dropOldest 49 = .ok (.aload_n 1, 1) := by decide +kernel
theorem dX1_dropOldest_50 : decode cX1_dropOldest 50 = .ok (.aastore, 1) := by decide +kernel
theorem dX1_dropOldest_51 : decode cX1_dropOldest 51 = .ok (.aload_n 0, 1) := by decide +kernel
theorem dX1_dropOldest_52 : decode cX1_dropOldest 52 = .ok (.aload_n 0, 1) := by decide +kernel
theorem dX1_dropOldest_53 : decode cX1_dropOldest 53 = .ok (.getfield 11, 3) := by decide +kernel
theorem dX1_dropOldest_56 : decode cX1_dropOldest 56 = .ok (.arraylength, 1) := by decide +kernel
theorem dX1_dropOldest_57 : decode cX1_dropOldest 57 = .ok (.iconst 1, 1) := by decide +kernel
theorem dX1_dropOldest_58 : decode cX1_dropOldest 58 = .ok (.isub, 1) := by decide +kernel
theorem dX1_dropOldest_59 : decode cX1_dropOldest 59 = .ok (.putfield 18, 3) := by decide +kernel
theorem dX1_dropOldest_62 : decode cX1_dropOldest 62 = .ok (.return_, 1) := by decide +kernel
theorem dX1_popInto_0 : decode cX1_popInto 0 = .ok (.aload_n 0, 1) := by decide +kernel
theorem dX1_popInto_1 : decode cX1_popInto 1 = .ok (.getfield 18, 3) := by decide +kernel
theorem dX1_popInto_4 : decode cX1_popInto 4 = .ok (.ifCond .le 15, 3) := by decide +kernel
theorem dX1_popInto_7 : decode cX1_popInto 7 = .ok (.aload_n 0, 1) := by decide +kernel
theorem dX1_popInto_8 : decode cX1_popInto 8 = .ok (.getfield 18, 3) := by decide +kernel
theorem dX1_popInto_11 : decode cX1_popInto 11 = .ok (.aload_n 0, 1) := by decide +kernel
theorem dX1_popInto_12 : decode cX1_popInto 12 = .ok (.getfield 11, 3) := by decide +kernel
theorem dX1_popInto_15 : decode cX1_popInto 15 = .ok (.arraylength, 1) := by decide +kernel
theorem dX1_popInto_16 : decode cX1_popInto 16 = .ok (.if_icmp .le 5, 3) := by decide +kernel
theorem dX1_popInto_19 : decode cX1_popInto 19 = .ok (.iconst 0, 1) := by decide +kernel
theorem dX1_popInto_20 : decode cX1_popInto 20 = .ok (.ireturn, 1) := by decide +kernel
theorem dX1_popInto_21 : decode cX1_popInto 21 = .ok (.aload_n 0, 1) := by decide +kernel
theorem dX1_popInto_22 : decode cX1_popInto 22 = .ok (.dup, 1) := by decide +kernel
theorem dX1_popInto_23 : decode cX1_popInto 23 = .ok (.getfield 18, 3) := by decide +kernel
theorem dX1_popInto_26 : decode cX1_popInto 26 = .ok (.iconst 1, 1) := by decide +kernel
theorem dX1_popInto_27 : decode cX1_popInto 27 = .ok (.isub, 1) := by decide +kernel
theorem dX1_popInto_28 : decode cX1_popInto 28 = .ok (.putfield 18, 3) := by decide +kernel
theorem dX1_popInto_31 : decode cX1_popInto 31 = .ok (.aload_n 1, 1) := by decide +kernel
theorem dX1_popInto_32 : decode cX1_popInto 32 = .ok (.aload_n 0, 1) := by decide +kernel
theorem dX1_popInto_33 : decode cX1_popInto 33 = .ok (.getfield 11, 3) := by decide +kernel
theorem dX1_popInto_36 : decode cX1_popInto 36 = .ok (.aload_n 0, 1) := by decide +kernel
theorem dX1_popInto_37 : decode cX1_popInto 37 = .ok (.getfield 18, 3) := by decide +kernel
theorem dX1_popInto_40 : decode cX1_popInto 40 = .ok (.aaload, 1) := by decide +kernel
theorem dX1_popInto_41 : decode cX1_popInto 41 = .ok (.invokevirtual 25, 3) := by decide +kernel
theorem dX1_popInto_44 : decode cX1_popInto 44 = .ok (.iconst 1, 1) := by decide +kernel
theorem dX1_popInto_45 : decode cX1_popInto 45 = .ok (.ireturn, 1) := by decide +kernel
theorem dX2_of_0 : decode cX2_of 0 = .ok (.iload_n 0, 1) := by decide +kernel
theorem dX2_of_1 : decode cX2_of 1 = .ok (.tableswitch 39 0 2 #[27, 31, 35], 27) := by decide +kernel
theorem dX2_of_28 : decode cX2_of 28 = .ok (.getstatic 3, 3) := by decide +kernel
theorem dX2_of_31 : decode cX2_of 31 = .ok (.areturn, 1) := by decide +kernel
theorem dX2_of_32 : decode cX2_of 32 = .ok (.getstatic 7, 3) := by decide +kernel
theorem dX2_of_35 : decode cX2_of 35 = .ok (.areturn, 1) := by decide +kernel
theorem dX2_of_36 : decode cX2_of 36 = .ok (.getstatic 10, 3) := by decide +kernel
theorem dX2_of_39 : decode cX2_of 39 = .ok (.areturn, 1) := by decide +kernel
theorem dX2_of_40 : decode cX2_of 40 = .ok (.aconst_null, 1) := by decide +kernel
theorem dX2_of_41 : decode cX2_of 41 = .ok (.areturn, 1) := by decide +kernel
theorem dX3_init_0 : decode cX3_init 0 = .ok (.aload_n 0, 1) := by decide +kernel
theorem dX3_init_1 : decode cX3_init 1 = .ok (.invokespecial 3, 3) := by decide +kernel
theorem dX3_init_4 : decode cX3_init 4 = .ok (.aload_n 0, 1) := by decide +kernel
theorem dX3_init_5 : decode cX3_init 5 = .ok (.iconst 2, 1) := by decide +kernel
theorem dX3_init_6 : decode cX3_init 6 = .ok (.anewarray 9, 3) := by decide +kernel
theorem dX3_init_9 : decode cX3_init 9 = .ok (.putfield 11, 3) := by decide +kernel
theorem dX3_init_12 : decode cX3_init 12 = .ok (.aload_n 0, 1) := by decide +kernel
theorem dX3_init_13 : decode cX3_init 13 = .ok (.iconst 2, 1) := by decide +kernel
theorem dX3_init_14 : decode cX3_init 14 = .ok (.newarray .boolean, 2) := by decide +kernel
theorem dX3_init_16 : decode cX3_init 16 = .ok (.putfield 17, 3) := by decide +kernel
theorem dX3_init_19 : decode cX3_init 19 = .ok (.iconst 0, 1) := by decide +kernel
theorem dX3_init_20 : decode cX3_init 20 = .ok (.istore_n 1, 1) := by decide +kernel
theorem dX3_init_21 : decode cX3_init 21 = .ok (.iload_n 1, 1) := by decide +kernel
theorem dX3_init_22 : decode cX3_init 22 = .ok (.aload_n 0, 1) := by decide +kernel
theorem dX3_init_23 : decode cX3_init 23 = .ok (.getfield 11, 3) := by decide +kernel
theorem dX3_init_26 : decode cX3_init 26 = .ok (.arraylength, 1) := by decide +kernel
theorem dX3_init_27 : decode cX3_init 27 = .ok (.if_icmp .ge 22, 3) := by decide +kernel
theorem dX3_init_30 : decode cX3_init 30 = .ok (.aload_n 0, 1) := by decide +kernel
theorem dX3_init_31 : decode cX3_init 31 = .ok (.getfield 11, 3) := by decide +kernel
theorem dX3_init_34 : decode cX3_init 34 = .ok (.iload_n 1, 1) := by decide +kernel
theorem dX3_init_35 : decode cX3_init 35 = .ok (.new 9, 3) := by decide +kernel
theorem dX3_init_38 : decode cX3_init 38 = .ok (.dup, 1) := by decide +kernel
theorem dX3_init_39 : decode cX3_init 39 = .ok (.invokespecial 21, 3) := by decide +kernel
theorem dX3_init_42 : decode cX3_init 42 = .ok (.aastore, 1) := by decide +kernel
theorem dX3_init_43 : decode cX3_init 43 = .ok (.iinc 1 1, 3) := by decide +kernel
theorem dX3_init_46 : decode cX3_init 46 = .ok (.goto (-25), 3) := by decide +kernel
theorem dX3_init_49 : decode cX3_init 49 = .ok (.return_, 1) := by decide +kernel
theorem dX3_has_0 : decode cX3_has 0 = .ok (.iload_n 1, 1) := by decide +kernel
theorem dX3_has_1 : decode cX3_has 1 = .ok (.ifCond .lt 25, 3) := by decide +kernel
theorem dX3_has_4 : decode cX3_has 4 = .ok (.iload_n 1, 1) := by decide +kernel
theorem dX3_has_5 : decode cX3_has 5 = .ok (.aload_n 0, 1) := by decide +kernel
theorem dX3_has_6 : decode cX3_has 6 = .ok (.getfield 11, 3) := by decide +kernel
theorem dX3_has_9 : decode cX3_has 9 = .ok (.arraylength, 1) := by decide +kernel
theorem dX3_has_10 : decode cX3_has 10 = .ok (.if_icmp .ge 16, 3) := by decide +kernel
theorem dX3_has_13 : decode cX3_has 13 = .ok (.iload_n 1, 1) := by decide +kernel
theorem dX3_has_14 : decode cX3_has 14 = .ok (.aload_n 0, 1) := by decide +kernel
theorem dX3_has_15 : decode cX3_has 15 = .ok (.getfield 17, 3) := by decide +kernel
theorem dX3_has_18 : decode cX3_has 18 = .ok (.arraylength, 1) := by decide +kernel
theorem dX3_has_19 : decode cX3_has 19 = .ok (.if_icmp .ge 7, 3) := by decide +kernel
theorem dX3_has_22 : decode cX3_has 22 = .ok (.iconst 1, 1) := by decide +kernel
theorem dX3_has_23 : decode cX3_has 23 = .ok (.goto 4, 3) := by decide +kernel
theorem dX3_has_26 : decode cX3_has 26 = .ok (.iconst 0, 1) := by decide +kernel
theorem dX3_has_27 : decode cX3_has 27 = .ok (.ireturn, 1) := by decide +kernel
theorem dX3_put_0 : decode cX3_put 0 = .ok (.aload_n 0, 1) := by decide +kernel
theorem dX3_put_1 : decode cX3_put 1 = .ok (.iload_n 1, 1) := by decide +kernel
theorem dX3_put_2 : decode cX3_put 2 = .ok (.invokevirtual 22, 3) := by decide +kernel
theorem dX3_put_5 : decode cX3_put 5 = .ok (.ifCond .ne 5, 3) := by decide +kernel
theorem dX3_put_8 : decode cX3_put 8 = .ok (.iconst 0, 1) := by decide +kernel
theorem dX3_put_9 : decode cX3_put 9 = .ok (.ireturn, 1) := by decide +kernel
theorem dX3_put_10 : decode cX3_put 10 = .ok (.aload_n 0, 1) := by decide +kernel
theorem dX3_put_11 : decode cX3_put 11 = .ok (.getfield 11, 3) := by decide +kernel
theorem dX3_put_14 : decode cX3_put 14 = .ok (.iload_n 1, 1) := by decide +kernel
theorem dX3_put_15 : decode cX3_put 15 = .ok (.aaload, 1) := by decide +kernel
theorem dX3_put_16 : decode cX3_put 16 = .ok (.aload_n 2, 1) := by decide +kernel
theorem dX3_put_17 : decode cX3_put 17 = .ok (.invokevirtual 26, 3) := by decide +kernel
theorem dX3_put_20 : decode cX3_put 20 = .ok (.aload_n 0, 1) := by decide +kernel
theorem dX3_put_21 : decode cX3_put 21 = .ok (.getfield 17, 3) := by decide +kernel
theorem dX3_put_24 : decode cX3_put 24 = .ok (.iload_n 1, 1) := by decide +kernel
theorem dX3_put_25 : decode cX3_put 25 = .ok (.iconst 1, 1) := by decide +kernel
theorem dX3_put_26 : decode cX3_put 26 = .ok (.bastore, 1) := by decide +kernel
theorem dX3_put_27 : decode cX3_put 27 = .ok (.iconst 1, 1) := by decide +kernel
theorem dX3_put_28 : decode cX3_put 28 = .ok (.ireturn, 1) := by decide +kernel
theorem dX3_get_0 : decode cX3_get 0 = .ok (.aload_n 0, 1) := by decide +kernel
theorem dX3_get_1 : decode cX3_get 1 = .ok (.iload_n 1, 1) := by decide +kernel
theorem dX3_get_2 : decode cX3_get 2 = .ok (.invokevirtual 22, 3) := by decide +kernel
theorem dX3_get_5 : decode cX3_get 5 = .ok (.ifCond .eq 21, 3) := by decide +kernel
theorem dX3_get_8 : decode cX3_get 8 = .ok (.aload_n 0, 1) := by decide +kernel
theorem dX3_get_9 : decode cX3_get 9 = .ok (.getfield 17, 3) := by decide +kernel
theorem dX3_get_12 : decode cX3_get 12 = .ok (.iload_n 1, 1) := by decide +kernel
theorem dX3_get_13 : decode cX3_get 13 = .ok (.baload, 1) := by decide +kernel
theorem dX3_get_14 : decode cX3_get 14 = .ok (.ifCond .eq 12, 3) := by decide +kernel
theorem dX3_get_17 : decode cX3_get 17 = .ok (.aload_n 0, 1) := by decide +kernel
theorem dX3_get_18 : decode cX3_get 18 = .ok (.getfield 11, 3) := by decide +kernel
theorem dX3_get_21 : decode cX3_get 21 = .ok (.iload_n 1, 1) := by decide +kernel
theorem dX3_get_22 : decode cX3_get 22 = .ok (.aaload, 1) := by decide +kernel
theorem dX3_get_23 : decode cX3_get 23 = .ok (.goto 4, 3) := by decide +kernel
theorem dX3_get_26 : decode cX3_get 26 = .ok (.aconst_null, 1) := by decide +kernel
theorem dX3_get_27 : decode cX3_get 27 = .ok (.areturn, 1) := by decide +kernel
theorem dX5_init_0 : decode cX5_init 0 = .ok (.aload_n 0, 1) := by decide +kernel
theorem dX5_init_1 : decode cX5_init 1 = .ok (.invokespecial 3, 3) := by decide +kernel
theorem dX5_init_4 : decode cX5_init 4 = .ok (.aload_n 0, 1) := by decide +kernel
theorem dX5_init_5 : decode cX5_init 5 = .ok (.bipush 80, 2) := by decide +kernel
theorem dX5_init_7 : decode cX5_init 7 = .ok (.newarray .char, 2) := by decide +kernel
theorem dX5_init_9 : decode cX5_init 9 = .ok (.putfield 9, 3) := by decide +kernel
theorem dX5_init_12 : decode cX5_init 12 = .ok (.aload_n 0, 1) := by decide +kernel
theorem dX5_init_13 : decode cX5_init 13 = .ok (.bipush (-6), 2) := by decide +kernel
theorem dX5_init_15 : decode cX5_init 15 = .ok (.putfield 15, 3) := by decide +kernel
theorem dX5_init_18 : decode cX5_init 18 = .ok (.return_, 1) := by decide +kernel
theorem dX5_add_0 : decode cX5_add 0 = .ok (.aload_n 0, 1) := by decide +kernel
theorem dX5_add_1 : decode cX5_add 1 = .ok (.getfield 19, 3) := by decide +kernel
theorem dX5_add_4 : decode cX5_add 4 = .ok (.ifCond .lt 15, 3) := by decide +kernel
theorem dX5_add_7 : decode cX5_add 7 = .ok (.aload_n 0, 1) := by decide +kernel
theorem dX5_add_8 : decode cX5_add 8 = .ok (.getfield 19, 3) := by decide +kernel
theorem dX5_add_11 : decode cX5_add 11 = .ok (.aload_n 0, 1) := by decide +kernel
theorem dX5_add_12 : decode cX5_add 12 = .ok (.getfield 9, 3) := by decide +kernel
theorem dX5_add_15 : decode cX5_add 15 = .ok (.arraylength, 1) := by decide +kernel
theorem dX5_add_16 : decode cX5_add 16 = .ok (.if_icmp .lt 5, 3) := by decide +kernel
theorem dX5_add_19 : decode cX5_add 19 = .ok (.iconst 0, 1) := by decide +kernel
theorem dX5_add_20 : decode cX5_add 20 = .ok (.ireturn, 1) := by decide +kernel
theorem dX5_add_21 : decode cX5_add 21 = .ok (.aload_n 0, 1) := by decide +kernel
theorem dX5_add_22 : decode cX5_add 22 = .ok (.getfield 9, 3) := by decide +kernel
theorem dX5_add_25 : decode cX5_add 25 = .ok (.aload_n 0, 1) := by decide +kernel
theorem dX5_add_26 : decode cX5_add 26 = .ok (.getfield 19, 3) := by decide +kernel
theorem dX5_add_29 : decode cX5_add 29 = .ok (.iload_n 1, 1) := by decide +kernel
theorem dX5_add_30 : decode cX5_add 30 = .ok (.castore, 1) := by decide +kernel
theorem dX5_add_31 : decode cX5_add 31 = .ok (.aload_n 0, 1) := by decide +kernel
theorem dX5_add_32 : decode cX5_add 32 = .ok (.dup, 1) := by decide +kernel
theorem dX5_add_33 : decode cX5_add 33 = .ok (.getfield 19, 3) := by decide +kernel
theorem dX5_add_36 : decode cX5_add 36 = .ok (.iconst 1, 1) := by decide +kernel
theorem dX5_add_37 : decode cX5_add 37 = .ok (.iadd, 1) := by decide +kernel
theorem dX5_add_38 : decode cX5_add 38 = .ok (.putfield 19, 3) := by decide +kernel
theorem dX5_add_41 : decode cX5_add 41 = .ok (.iconst 1, 1) := by decide +kernel
theorem dX5_add_42 : decode cX5_add 42 = .ok (.ireturn, 1) := by decide +kernel
theorem dX5_restart_0 : decode cX5_restart 0 = .ok (.aload_n 0, 1) := by decide +kernel
theorem dX5_restart_1 : decode cX5_restart 1 = .ok (.iconst 0, 1) := by decide +kernel
theorem dX5_restart_2 : decode cX5_restart 2 = .ok (.putfield 22, 3) := by decide +kernel
theorem dX5_restart_5 : decode cX5_restart 5 = .ok (.aload_n 0, 1) := by decide +kernel
theorem dX5_restart_6 : decode cX5_restart 6 = .ok (.bipush (-6), 2) := by decide +kernel
theorem dX5_restart_8 : decode cX5_restart 8 = .ok (.putfield 15, 3) := by decide +kernel
theorem dX5_restart_11 : decode cX5_restart 11 = .ok (.return_, 1) := by decide +kernel
theorem dX5_findFault_0 : decode cX5_findFault 0 = .ok (.aload_n 0, 1) := by decide +kernel
theorem dX5_findFault_1 : decode cX5_findFault 1 = .ok (.invokevirtual 25, 3) := by decide +kernel
theorem dX5_findFault_4 : decode cX5_findFault 4 = .ok (.iconst 1, 1) := by decide +kernel
theorem dX5_findFault_5 : decode cX5_findFault 5 = .ok (.istore_n 1, 1) := by decide +kernel
theorem dX5_findFault_6 : decode cX5_findFault 6 = .ok (.iconst 0, 1) := by decide +kernel
theorem dX5_findFault_7 : decode cX5_findFault 7 = .ok (.istore_n 2, 1) := by decide +kernel
theorem dX5_findFault_8 : decode cX5_findFault 8 = .ok (.iload_n 2, 1) := by decide +kernel
theorem dX5_findFault_9 : decode cX5_findFault 9 = .ok (.bipush 80, 2) := by decide +kernel
theorem dX5_findFault_11 : decode cX5_findFault 11 = .ok (.if_icmp .ge 18, 3) := by decide +kernel
theorem dX5_findFault_14 : decode cX5_findFault 14 = .ok (.iload_n 1, 1) := by decide +kernel
theorem dX5_findFault_15 : decode cX5_findFault 15 = .ok (.ifCond .eq 14, 3) := by decide +kernel
theorem dX5_findFault_18 : decode cX5_findFault 18 = .ok (.aload_n 0, 1) := by decide +kernel
theorem dX5_findFault_19 : decode cX5_findFault 19 = .ok (.invokevirtual 28, 3) := by decide +kernel
theorem dX5_findFault_22 : decode cX5_findFault 22 = .ok (.istore_n 1, 1) := by decide +kernel
theorem dX5_findFault_23 : decode cX5_findFault 23 = .ok (.iinc 2 1, 3) := by decide +kernel
theorem dX5_findFault_26 : decode cX5_findFault 26 = .ok (.goto (-18), 3) := by decide +kernel
theorem dX5_findFault_29 : decode cX5_findFault 29 = .ok (.aload_n 0, 1) := by decide +kernel
theorem dX5_findFault_30 : decode cX5_findFault 30 = .ok (.getfield 15, 3) := by decide +kernel
theorem dX5_findFault_33 : decode cX5_findFault 33 = .ok (.ireturn, 1) := by decide +kernel
theorem dX5_readStrip_0 : decode cX5_readStrip 0 = .ok (.aload_n 0, 1) := by decide +kernel
theorem dX5_readStrip_1 : decode cX5_readStrip 1 = .ok (.getfield 15, 3) := by decide +kernel
theorem dX5_readStrip_4 : decode cX5_readStrip 4 = .ok (.bipush (-6), 2) := by decide +kernel
theorem dX5_readStrip_6 : decode cX5_readStrip 6 = .ok (.if_icmp .ne 14, 3) := by decide +kernel
theorem dX5_readStrip_9 : decode cX5_readStrip 9 = .ok (.aload_n 0, 1) := by decide +kernel
theorem dX5_readStrip_10 : decode cX5_readStrip 10 = .ok (.getfield 22, 3) := by decide +kernel
theorem dX5_readStrip_13 : decode cX5_readStrip 13 = .ok (.aload_n 0, 1) := by decide +kernel
theorem dX5_readStrip_14 : decode cX5_readStrip 14 = .ok (.getfield 19, 3) := by decide +kernel
theorem dX5_readStrip_17 : decode cX5_readStrip 17 = .ok (.if_icmp .lt 5, 3) := by decide +kernel
theorem dX5_readStrip_20 : decode cX5_readStrip 20 = .ok (.iconst 0, 1) := by decide +kernel
theorem dX5_readStrip_21 : decode cX5_readStrip 21 = .ok (.ireturn, 1) := by decide +kernel
theorem dX5_readStrip_22 : decode cX5_readStrip 22 = .ok (.aload_n 0, 1) := by decide +kernel
theorem dX5_readStrip_23 : decode cX5_readStrip 23 = .ok (.aload_n 0, 1) := by decide +kernel
theorem dX5_readStrip_24 : decode cX5_readStrip 24 = .ok (.invokevirtual 32, 3) := by decide +kernel
theorem dX5_readStrip_27 : decode cX5_readStrip 27 = .ok (.putfield 36, 3) := by decide +kernel
theorem dX5_readStrip_30 : decode cX5_readStrip 30 = .ok (.aload_n 0, 1) := by decide +kernel
theorem dX5_readStrip_31 : decode cX5_readStrip 31 = .ok (.dup, 1) := by decide +kernel
theorem dX5_readStrip_32 : decode cX5_readStrip 32 = .ok (.getfield 22, 3) := by decide +kernel
theorem dX5_readStrip_35 : decode cX5_readStrip 35 = .ok (.iconst 1, 1) := by decide +kernel
theorem dX5_readStrip_36 : decode cX5_readStrip 36 = .ok (.iadd, 1) := by decide +kernel
theorem dX5_readStrip_37 : decode cX5_readStrip 37 = .ok (.putfield 22, 3) := by decide +kernel
theorem dX5_readStrip_40 : decode cX5_readStrip 40 = .ok (.aload_n 0, 1) := by decide +kernel
theorem dX5_readStrip_41 : decode cX5_readStrip 41 = .ok (.getfield 36, 3) := by decide +kernel
theorem dX5_readStrip_44 : decode cX5_readStrip 44 = .ok (.lookupswitch 90 #[(43, 52), (99, 59), (111, 87), (116, 73), (120, 87)], 52) := by decide +kernel
theorem dX5_readStrip_96 : decode cX5_readStrip 96 = .ok (.aload_n 0, 1) := by decide +kernel
theorem dX5_readStrip_97 : decode cX5_readStrip 97 = .ok (.invokevirtual 40, 3) := by decide +kernel
theorem dX5_readStrip_100 : decode cX5_readStrip 100 = .ok (.goto 44, 3) := by decide +kernel
theorem dX5_readStrip_103 : decode cX5_readStrip 103 = .ok (.aload_n 0, 1) := by decide +kernel
theorem dX5_readStrip_104 : decode cX5_readStrip 104 = .ok (.aload_n 0, 1) := by decide +kernel
theorem dX5_readStrip_105 : decode cX5_readStrip 105 = .ok (.iconst 0, 1) := by decide +kernel
theorem dX5_readStrip_106 : decode cX5_readStrip 106 = .ok (.bipush 19, 2) := by decide +kernel
theorem dX5_readStrip_108 : decode cX5_readStrip 108 = .ok (.invokevirtual 43, 3) := by decide +kernel
theorem dX5_readStrip_111 : decode cX5_readStrip 111 = .ok (.putfield 47, 3) := by decide +kernel
theorem dX5_readStrip_114 : decode cX5_readStrip 114 = .ok (.goto 30, 3) := by decide +kernel
theorem dX5_readStrip_117 : decode cX5_readStrip 117 = .ok (.aload_n 0, 1) := by decide +kernel
theorem dX5_readStrip_118 : decode cX5_readStrip 118 = .ok (.aload_n 0, 1) := by decide +kernel
theorem dX5_readStrip_119 : decode cX5_readStrip 119 = .ok (.iconst 1, 1) := by decide +kernel
theorem dX5_readStrip_120 : decode cX5_readStrip 120 = .ok (.bipush 99, 2) := by decide +kernel
theorem dX5_readStrip_122 : decode cX5_readStrip 122 = .ok (.invokevirtual 43, 3) := by decide +kernel
theorem dX5_readStrip_125 : decode cX5_readStrip 125 = .ok (.putfield 47, 3) := by decide +kernel
theorem dX5_readStrip_128 : decode cX5_readStrip 128 = .ok (.goto 16, 3) := by decide +kernel
theorem dX5_readStrip_131 : decode cX5_readStrip 131 = .ok (.goto 13, 3) := by decide +kernel
theorem dX5_readStrip_134 : decode cX5_readStrip 134 = .ok (.aload_n 0, 1) := by decide +kernel
theorem dX5_readStrip_135 : decode cX5_readStrip 135 = .ok (.aload_n 0, 1) := by decide +kernel
theorem dX5_readStrip_136 : decode cX5_readStrip 136 = .ok (.getfield 22, 3) := by decide +kernel
theorem dX5_readStrip_139 : decode cX5_readStrip 139 = .ok (.iconst 1, 1) := by decide +kernel
theorem dX5_readStrip_140 : decode cX5_readStrip 140 = .ok (.isub, 1) := by decide +kernel
theorem dX5_readStrip_141 : decode cX5_readStrip 141 = .ok (.invokevirtual 50, 3) := by decide +kernel
theorem dX5_readStrip_144 : decode cX5_readStrip 144 = .ok (.aload_n 0, 1) := by decide +kernel
theorem dX5_readStrip_145 : decode cX5_readStrip 145 = .ok (.bipush 59, 2) := by decide +kernel
theorem dX5_readStrip_147 : decode cX5_readStrip 147 = .ok (.invokevirtual 54, 3) := by decide +kernel
theorem dX5_readStrip_150 : decode cX5_readStrip 150 = .ok (.aload_n 0, 1) := by decide +kernel
theorem dX5_readStrip_151 : decode cX5_readStrip 151 = .ok (.getfield 15, 3) := by decide +kernel
theorem dX5_readStrip_154 : decode cX5_readStrip 154 = .ok (.bipush (-6), 2) := by decide +kernel
theorem dX5_readStrip_156 : decode cX5_readStrip 156 = .ok (.if_icmp .ne 7, 3) := by decide +kernel
theorem dX5_readStrip_159 : decode cX5_readStrip 159 = .ok (.iconst 1, 1) := by decide +kernel
theorem dX5_readStrip_160 : decode cX5_readStrip 160 = .ok (.goto 4, 3) := by decide +kernel
theorem dX5_readStrip_163 : decode cX5_readStrip 163 = .ok (.iconst 0, 1) := by decide +kernel
theorem dX5_readStrip_164 : decode cX5_readStrip 164 = .ok (.ireturn, 1) := by decide +kernel
theorem dX5_readEntry_0 : decode cX5_readEntry 0 = .ok (.aload_n 0, 1) := by decide +kernel
theorem dX5_readEntry_1 : decode cX5_readEntry 1 = .ok (.aload_n 0, 1) := by decide +kernel
theorem dX5_readEntry_2 : decode cX5_readEntry 2 = .ok (.invokevirtual 58, 3) := by decide +kernel
theorem dX5_readEntry_5 : decode cX5_readEntry 5 = .ok (.putfield 62, 3) := by decide +kernel
theorem dX5_readEntry_8 : decode cX5_readEntry 8 = .ok (.aload_n 0, 1) := by decide +kernel
theorem dX5_readEntry_9 : decode cX5_readEntry 9 = .ok (.aload_n 0, 1) := by decide +kernel
theorem dX5_readEntry_10 : decode cX5_readEntry 10 = .ok (.iconst 1, 1) := by decide +kernel
theorem dX5_readEntry_11 : decode cX5_readEntry 11 = .ok (.sipush 9999, 3) := by decide +kernel
theorem dX5_readEntry_14 : decode cX5_readEntry 14 = .ok (.invokevirtual 43, 3) := by decide +kernel
theorem dX5_readEntry_17 : decode cX5_readEntry 17 = .ok (.putfield 66, 3) := by decide +kernel
theorem dX5_readEntry_20 : decode cX5_readEntry 20 = .ok (.aload_n 0, 1) := by decide +kernel
theorem dX5_readEntry_21 : decode cX5_readEntry 21 = .ok (.bipush 64, 2) := by decide +kernel
theorem dX5_readEntry_23 : decode cX5_readEntry 23 = .ok (.invokevirtual 54, 3) := by decide +kernel
theorem dX5_readEntry_26 : decode cX5_readEntry 26 = .ok (.aload_n 0, 1) := by decide +kernel
theorem dX5_readEntry_27 : decode cX5_readEntry 27 = .ok (.aload_n 0, 1) := by decide +kernel
theorem dX5_readEntry_28 : decode cX5_readEntry 28 = .ok (.iconst 0, 1) := by decide +kernel
theorem dX5_readEntry_29 : decode cX5_readEntry 29 = .ok (.bipush 15, 2) := by decide +kernel
theorem dX5_readEntry_31 : decode cX5_readEntry 31 = .ok (.invokevirtual 43, 3) := by decide +kernel
theorem dX5_readEntry_34 : decode cX5_readEntry 34 = .ok (.putfield 47, 3) := by decide +kernel
theorem dX5_readEntry_37 : decode cX5_readEntry 37 = .ok (.return_, 1) := by decide +kernel
theorem dX5_readKind_0 : decode cX5_readKind 0 = .ok (.aload_n 0, 1) := by decide +kernel
theorem dX5_readKind_1 : decode cX5_readKind 1 = .ok (.invokevirtual 32, 3) := by decide +kernel
theorem dX5_readKind_4 : decode cX5_readKind 4 = .ok (.istore_n 1, 1) := by decide +kernel
theorem dX5_readKind_5 : decode cX5_readKind 5 = .ok (.iload_n 1, 1) := by decide +kernel
theorem dX5_readKind_6 : decode cX5_readKind 6 = .ok (.bipush 108, 2) := by decide +kernel
theorem dX5_readKind_8 : decode cX5_readKind 8 = .ok (.if_icmp .eq 23, 3) := by decide +kernel
theorem dX5_readKind_11 : decode cX5_readKind 11 = .ok (.iload_n 1, 1) := by decide +kernel
theorem dX5_readKind_12 : decode cX5_readKind 12 = .ok (.bipush 109, 2) := by decide +kernel
theorem dX5_readKind_14 : decode cX5_readKind 14 = .ok (.if_icmp .eq 17, 3) := by decide +kernel
theorem dX5_readKind_17 : decode cX5_readKind 17 = .ok (.iload_n 1, 1) := by decide +kernel
theorem dX5_readKind_18 : decode cX5_readKind 18 = .ok (.bipush 104, 2) := by decide +kernel
theorem dX5_readKind_20 : decode cX5_readKind 20 = .ok (.if_icmp .eq 11, 3) := by decide +kernel
theorem dX5_readKind_23 : decode cX5_readKind 23 = .ok (.aload_n 0, 1) := by decide +kernel
theorem dX5_readKind_24 : decode cX5_readKind 24 = .ok (.aload_n 0, 1) := by decide +kernel
theorem dX5_readKind_25 : decode cX5_readKind 25 = .ok (.getfield 22, 3) := by decide +kernel
theorem dX5_readKind_28 : decode cX5_readKind 28 = .ok (.invokevirtual 50, 3) := by decide +kernel
theorem dX5_readKind_31 : decode cX5_readKind 31 = .ok (.aload_n 0, 1) := by decide +kernel
theorem dX5_readKind_32 : decode cX5_readKind 32 = .ok (.dup, 1) := by decide +kernel
theorem dX5_readKind_33 : decode cX5_readKind 33 = .ok (.getfield 22, 3) := by decide +kernel
theorem dX5_readKind_36 : decode cX5_readKind 36 = .ok (.iconst 1, 1) := by decide +kernel
theorem dX5_readKind_37 : decode cX5_readKind 37 = .ok (.iadd, 1) := by decide +kernel
theorem dX5_readKind_38 : decode cX5_readKind 38 = .ok (.putfield 22, 3) := by decide +kernel
theorem dX5_readKind_41 : decode cX5_readKind 41 = .ok (.iload_n 1, 1) := by decide +kernel
theorem dX5_readKind_42 : decode cX5_readKind 42 = .ok (.bipush 108, 2) := by decide +kernel
theorem dX5_readKind_44 : decode cX5_readKind 44 = .ok (.if_icmp .ne 9, 3) := by decide +kernel
theorem dX5_readKind_47 : decode cX5_readKind 47 = .ok (.getstatic 69, 3) := by decide +kernel
theorem dX5_readKind_50 : decode cX5_readKind 50 = .ok (.goto 18, 3) := by decide +kernel
theorem dX5_readKind_53 : decode cX5_readKind 53 = .ok (.iload_n 1, 1) := by decide +kernel
theorem dX5_readKind_54 : decode cX5_readKind 54 = .ok (.bipush 109, 2) := by decide +kernel
theorem dX5_readKind_56 : decode cX5_readKind 56 = .ok (.if_icmp .ne 9, 3) := by decide +kernel
theorem dX5_readKind_59 : decode cX5_readKind 59 = .ok (.getstatic 74, 3) := by decide +kernel
theorem dX5_readKind_62 : decode cX5_readKind 62 = .ok (.goto 6, 3) := by decide +kernel
theorem dX5_readKind_65 : decode cX5_readKind 65 = .ok (.getstatic 77, 3) := by decide +kernel
theorem dX5_readKind_68 : decode cX5_readKind 68 = .ok (.areturn, 1) := by decide +kernel
theorem dX5_readNumber_0 : decode cX5_readNumber 0 = .ok (.aload_n 0, 1) := by decide +kernel
theorem dX5_readNumber_1 : decode cX5_readNumber 1 = .ok (.getfield 22, 3) := by decide +kernel
theorem dX5_readNumber_4 : decode cX5_readNumber 4 = .ok (.istore_n 3, 1) := by decide +kernel
theorem dX5_readNumber_5 : decode cX5_readNumber 5 = .ok (.aload_n 0, 1) := by decide +kernel
theorem dX5_readNumber_6 : decode cX5_readNumber 6 = .ok (.invokevirtual 32, 3) := by decide +kernel
theorem dX5_readNumber_9 : decode cX5_readNumber 9 = .ok (.bipush 48, 2) := by decide +kernel
theorem dX5_readNumber_11 : decode cX5_readNumber 11 = .ok (.if_icmp .ne 7, 3) := by decide +kernel
theorem dX5_readNumber_14 : decode cX5_readNumber 14 = .ok (.iconst 1, 1) := by decide +kernel
theorem dX5_readNumber_15 : decode cX5_readNumber 15 = .ok (.goto 4, 3) := by decide +kernel
theorem dX5_readNumber_18 : decode cX5_readNumber 18 = .ok (.iconst 4, 1) := by decide +kernel
theorem dX5_readNumber_19 : decode cX5_readNumber 19 = .ok (.istore 4, 2) := by decide +kernel
theorem dX5_readNumber_21 : decode cX5_readNumber 21 = .ok (.iconst 0, 1) := by decide +kernel
theorem dX5_readNumber_22 : decode cX5_readNumber 22 = .ok (.istore 5, 2) := by decide +kernel
theorem dX5_readNumber_24 : decode cX5_readNumber 24 = .ok (.iconst 0, 1) := by decide +kernel
theorem dX5_readNumber_25 : decode cX5_readNumber 25 = .ok (.istore 6, 2) := by decide +kernel
theorem dX5_readNumber_27 : decode cX5_readNumber 27 = .ok (.iload 6, 2) := by decide +kernel
theorem dX5_readNumber_29 : decode cX5_readNumber 29 = .ok (.iload 4, 2) := by decide +kernel
theorem dX5_readNumber_31 : decode cX5_readNumber 31 = .ok (.if_icmp .ge 44, 3) := by decide +kernel
theorem dX5_readNumber_34 : decode cX5_readNumber 34 = .ok (.aload_n 0, 1) := by decide +kernel
theorem dX5_readNumber_35 : decode cX5_readNumber 35 = .ok (.invokevirtual 32, 3) := by decide +kernel
theorem dX5_readNumber_38 : decode cX5_readNumber 38 = .ok (.invokestatic 80, 3) := by decide +kernel
theorem dX5_readNumber_41 : decode cX5_readNumber 41 = .ok (.ifCond .eq 34, 3) := by decide +kernel
theorem dX5_readNumber_44 : decode cX5_readNumber 44 = .ok (.bipush 10, 2) := by decide +kernel
theorem dX5_readNumber_46 : decode cX5_readNumber 46 = .ok (.iload 5, 2) := by decide +kernel
theorem dX5_readNumber_48 : decode cX5_readNumber 48 = .ok (.imul, 1) := by decide +kernel
theorem dX5_readNumber_49 : decode cX5_readNumber 49 = .ok (.aload_n 0, 1) := by decide +kernel
theorem dX5_readNumber_50 : decode cX5_readNumber 50 = .ok (.invokevirtual 32, 3) := by decide +kernel
theorem dX5_readNumber_53 : decode cX5_readNumber 53 = .ok (.bipush 48, 2) := by decide +kernel
theorem dX5_readNumber_55 : decode cX5_readNumber 55 = .ok (.isub, 1) := by decide +kernel
theorem dX5_readNumber_56 : decode cX5_readNumber 56 = .ok (.iadd, 1) := by decide +kernel
theorem dX5_readNumber_57 : decode cX5_readNumber 57 = .ok (.istore 5, 2) := by decide +kernel
theorem dX5_readNumber_59 : decode cX5_readNumber 59 = .ok (.aload_n 0, 1) := by decide +kernel
theorem dX5_readNumber_60 : decode cX5_readNumber 60 = .ok (.dup, 1) := by decide +kernel
theorem dX5_readNumber_61 : decode cX5_readNumber 61 = .ok (.getfield 22, 3) := by decide +kernel
theorem dX5_readNumber_64 : decode cX5_readNumber 64 = .ok (.iconst 1, 1) := by decide +kernel
theorem dX5_readNumber_65 : decode cX5_readNumber 65 = .ok (.iadd, 1) := by decide +kernel
theorem dX5_readNumber_66 : decode cX5_readNumber 66 = .ok (.putfield 22, 3) := by decide +kernel
theorem dX5_readNumber_69 : decode cX5_readNumber 69 = .ok (.iinc 6 1, 3) := by decide +kernel
theorem dX5_readNumber_72 : decode cX5_readNumber 72 = .ok (.goto (-45), 3) := by decide +kernel
theorem dX5_readNumber_75 : decode cX5_readNumber 75 = .ok (.aload_n 0, 1) := by decide +kernel
theorem dX5_readNumber_76 : decode cX5_readNumber 76 = .ok (.getfield 22, 3) := by decide +kernel
theorem dX5_readNumber_79 : decode cX5_readNumber 79 = .ok (.iload_n 3, 1) := by decide +kernel
theorem dX5_readNumber_80 : decode cX5_readNumber 80 = .ok (.if_icmp .eq 15, 3) := by decide +kernel
theorem dX5_readNumber_83 : decode cX5_readNumber 83 = .ok (.iload 5, 2) := by decide +kernel
theorem dX5_readNumber_85 : decode cX5_readNumber 85 = .ok (.iload_n 1, 1) := by decide +kernel
theorem dX5_readNumber_86 : decode cX5_readNumber 86 = .ok (.if_icmp .lt 9, 3) := by decide +kernel
theorem dX5_readNumber_89 : decode cX5_readNumber 89 = .ok (.iload 5, 2) := by decide +kernel
theorem dX5_readNumber_91 : decode cX5_readNumber 91 = .ok (.iload_n 2, 1) := by decide +kernel
theorem dX5_readNumber_92 : decode cX5_readNumber 92 = .ok (.if_icmp .le 8, 3) := by decide +kernel
theorem dX5_readNumber_95 : decode cX5_readNumber 95 = .ok (.aload_n 0, 1) := by decide +kernel
theorem dX5_readNumber_96 : decode cX5_readNumber 96 = .ok (.iload_n 3, 1) := by decide +kernel
theorem dX5_readNumber_97 : decode cX5_readNumber 97 = .ok (.invokevirtual 50, 3) := by decide +kernel
theorem dX5_readNumber_100 : decode cX5_readNumber 100 = .ok (.iload 5, 2) := by decide +kernel
theorem dX5_readNumber_102 : decode cX5_readNumber 102 = .ok (.ireturn, 1) := by decide +kernel
theorem dX5_expect_0 : decode cX5_expect 0 = .ok (.aload_n 0, 1) := by decide +kernel
theorem dX5_expect_1 : decode cX5_expect 1 = .ok (.invokevirtual 32, 3) := by decide +kernel
theorem dX5_expect_4 : decode cX5_expect 4 = .ok (.iload_n 1, 1) := by decide +kernel
theorem dX5_expect_5 : decode cX5_expect 5 = .ok (.if_icmp .ne 16, 3) := by decide +kernel
theorem dX5_expect_8 : decode cX5_expect 8 = .ok (.aload_n 0, 1) := by decide +kernel
theorem dX5_expect_9 : decode cX5_expect 9 = .ok (.dup, 1) := by decide +kernel
theorem dX5_expect_10 : decode cX5_expect 10 = .ok (.getfield 22, 3) := by decide +kernel
theorem dX5_expect_13 : decode cX5_expect 13 = .ok (.iconst 1, 1) := by decide +kernel
theorem dX5_expect_14 : decode cX5_expect 14 = .ok (.iadd, 1) := by decide +kernel
theorem dX5_expect_15 : decode cX5_expect 15 = .ok (.putfield 22, 3) := by decide +kernel
theorem dX5_expect_18 : decode cX5_expect 18 = .ok (.goto 11, 3) := by decide +kernel
theorem dX5_expect_21 : decode cX5_expect 21 = .ok (.aload_n 0, 1) := by decide +kernel
theorem dX5_expect_22 : decode cX5_expect 22 = .ok (.aload_n 0, 1) := by decide +kernel
theorem dX5_expect_23 : decode cX5_expect 23 = .ok (.getfield 22, 3) := by decide +kernel
theorem dX5_expect_26 : decode cX5_expect 26 = .ok (.invokevirtual 50, 3) := by decide +kernel
theorem dX5_expect_29 : decode cX5_expect 29 = .ok (.return_, 1) := by decide +kernel
theorem dX5_fail_0 : decode cX5_fail 0 = .ok (.aload_n 0, 1) := by decide +kernel
theorem dX5_fail_1 : decode cX5_fail 1 = .ok (.getfield 15, 3) := by decide +kernel
theorem dX5_fail_4 : decode cX5_fail 4 = .ok (.bipush (-6), 2) := by decide +kernel
theorem dX5_fail_6 : decode cX5_fail 6 = .ok (.if_icmp .ne 8, 3) := by decide +kernel
theorem dX5_fail_9 : decode cX5_fail 9 = .ok (.aload_n 0, 1) := by decide +kernel
theorem dX5_fail_10 : decode cX5_fail 10 = .ok (.iload_n 1, 1) := by decide +kernel
theorem dX5_fail_11 : decode cX5_fail 11 = .ok (.putfield 15, 3) := by decide +kernel
theorem dX5_fail_14 : decode cX5_fail 14 = .ok (.return_, 1) := by decide +kernel
theorem dX5_peek_0 : decode cX5_peek 0 = .ok (.aload_n 0, 1) := by decide +kernel
theorem dX5_peek_1 : decode cX5_peek 1 = .ok (.getfield 22, 3) := by decide +kernel
theorem dX5_peek_4 : decode cX5_peek 4 = .ok (.ifCond .lt 38, 3) := by decide +kernel
theorem dX5_peek_7 : decode cX5_peek 7 = .ok (.aload_n 0, 1) := by decide +kernel
theorem dX5_peek_8 : decode cX5_peek 8 = .ok (.getfield 22, 3) := by decide +kernel
theorem dX5_peek_11 : decode cX5_peek 11 = .ok (.aload_n 0, 1) := by decide +kernel
theorem dX5_peek_12 : decode cX5_peek 12 = .ok (.getfield 19, 3) := by decide +kernel
theorem dX5_peek_15 : decode cX5_peek 15 = .ok (.if_icmp .ge 27, 3) := by decide +kernel
theorem dX5_peek_18 : decode cX5_peek 18 = .ok (.aload_n 0, 1) := by decide +kernel
theorem dX5_peek_19 : decode cX5_peek 19 = .ok (.getfield 22, 3) := by decide +kernel
theorem dX5_peek_22 : decode cX5_peek 22 = .ok (.aload_n 0, 1) := by decide +kernel
theorem dX5_peek_23 : decode cX5_peek 23 = .ok (.getfield 9, 3) := by decide +kernel
theorem dX5_peek_26 : decode cX5_peek 26 = .ok (.arraylength, 1) := by decide +kernel
theorem dX5_peek_27 : decode cX5_peek 27 = .ok (.if_icmp .ge 15, 3) := by decide +kernel
theorem dX5_peek_30 : decode cX5_peek 30 = .ok (.aload_n 0, 1) := by decide +kernel
theorem dX5_peek_31 : decode cX5_peek 31 = .ok (.getfield 9, 3) := by decide +kernel
theorem dX5_peek_34 : decode cX5_peek 34 = .ok (.aload_n 0, 1) := by decide +kernel
theorem dX5_peek_35 : decode cX5_peek 35 = .ok (.getfield 22, 3) := by decide +kernel
theorem dX5_peek_38 : decode cX5_peek 38 = .ok (.caload, 1) := by decide +kernel
theorem dX5_peek_39 : decode cX5_peek 39 = .ok (.goto 4, 3) := by decide +kernel
theorem dX5_peek_42 : decode cX5_peek 42 = .ok (.iconst 0, 1) := by decide +kernel
theorem dX5_peek_43 : decode cX5_peek 43 = .ok (.ireturn, 1) := by decide +kernel
theorem dX5_isDigit_0 : decode cX5_isDigit 0 = .ok (.iload_n 0, 1) := by decide +kernel
theorem dX5_isDigit_1 : decode cX5_isDigit 1 = .ok (.bipush 48, 2) := by decide +kernel
theorem dX5_isDigit_3 : decode cX5_isDigit 3 = .ok (.if_icmp .lt 13, 3) := by decide +kernel
theorem dX5_isDigit_6 : decode cX5_isDigit 6 = .ok (.iload_n 0, 1) := by decide +kernel
theorem dX5_isDigit_7 : decode cX5_isDigit 7 = .ok (.bipush 57, 2) := by decide +kernel
theorem dX5_isDigit_9 : decode cX5_isDigit 9 = .ok (.if_icmp .gt 7, 3) := by decide +kernel
theorem dX5_isDigit_12 : decode cX5_isDigit 12 = .ok (.iconst 1, 1) := by decide +kernel
theorem dX5_isDigit_13 : decode cX5_isDigit 13 = .ok (.goto 4, 3) := by decide +kernel
theorem dX5_isDigit_16 : decode cX5_isDigit 16 = .ok (.iconst 0, 1) := by decide +kernel
theorem dX5_isDigit_17 : decode cX5_isDigit 17 = .ok (.ireturn, 1) := by decide +kernel
theorem dJ9_min_7cf53_0 : decode cJ9_min_7cf53 0 = .ok (.iload_n 0, 1) := by decide +kernel
theorem dJ9_min_7cf53_1 : decode cJ9_min_7cf53 1 = .ok (.iload_n 1, 1) := by decide +kernel
theorem dJ9_min_7cf53_2 : decode cJ9_min_7cf53 2 = .ok (.if_icmp .gt 7, 3) := by decide +kernel
theorem dJ9_min_7cf53_5 : decode cJ9_min_7cf53 5 = .ok (.iload_n 0, 1) := by decide +kernel
theorem dJ9_min_7cf53_6 : decode cJ9_min_7cf53 6 = .ok (.goto 4, 3) := by decide +kernel
theorem dJ9_min_7cf53_9 : decode cJ9_min_7cf53 9 = .ok (.iload_n 1, 1) := by decide +kernel
theorem dJ9_min_7cf53_10 : decode cJ9_min_7cf53 10 = .ok (.ireturn, 1) := by decide +kernel
theorem dJ7_fill_53178_0 : decode cJ7_fill_53178 0 = .ok (.iconst 0, 1) := by decide +kernel
theorem dJ7_fill_53178_1 : decode cJ7_fill_53178 1 = .ok (.istore_n 2, 1) := by decide +kernel
theorem dJ7_fill_53178_2 : decode cJ7_fill_53178 2 = .ok (.aload_n 0, 1) := by decide +kernel
theorem dJ7_fill_53178_3 : decode cJ7_fill_53178 3 = .ok (.arraylength, 1) := by decide +kernel
theorem dJ7_fill_53178_4 : decode cJ7_fill_53178 4 = .ok (.istore_n 3, 1) := by decide +kernel
theorem dJ7_fill_53178_5 : decode cJ7_fill_53178 5 = .ok (.iload_n 2, 1) := by decide +kernel
theorem dJ7_fill_53178_6 : decode cJ7_fill_53178 6 = .ok (.iload_n 3, 1) := by decide +kernel
theorem dJ7_fill_53178_7 : decode cJ7_fill_53178 7 = .ok (.if_icmp .ge 13, 3) := by decide +kernel
theorem dJ7_fill_53178_10 : decode cJ7_fill_53178 10 = .ok (.aload_n 0, 1) := by decide +kernel
theorem dJ7_fill_53178_11 : decode cJ7_fill_53178 11 = .ok (.iload_n 2, 1) := by decide +kernel
theorem dJ7_fill_53178_12 : decode cJ7_fill_53178 12 = .ok (.iload_n 1, 1) := by decide +kernel
theorem dJ7_fill_53178_13 : decode cJ7_fill_53178 13 = .ok (.iastore, 1) := by decide +kernel
theorem dJ7_fill_53178_14 : decode cJ7_fill_53178 14 = .ok (.iinc 2 1, 3) := by decide +kernel
theorem dJ7_fill_53178_17 : decode cJ7_fill_53178 17 = .ok (.goto (-12), 3) := by decide +kernel
theorem dJ7_fill_53178_20 : decode cJ7_fill_53178 20 = .ok (.return_, 1) := by decide +kernel
end
section
theorem dX4_init_0 : decode cX4_init 0 = .ok (.aload_n 0, 1) := by decide +kernel
theorem dX4_init_1 : decode cX4_init 1 = .ok (.invokespecial 3, 3) := by decide +kernel
theorem dX4_init_4 : decode cX4_init 4 = .ok (.aload_n 0, 1) := by decide +kernel
theorem dX4_init_5 : decode cX4_init 5 = .ok (.bipush 20, 2) := by decide +kernel
theorem dX4_init_7 : decode cX4_init 7 = .ok (.anewarray 9, 3) := by decide +kernel
theorem dX4_init_10 : decode cX4_init 10 = .ok (.putfield 11, 3) := by decide +kernel
theorem dX4_init_13 : decode cX4_init 13 = .ok (.aload_n 0, 1) := by decide +kernel
theorem dX4_init_14 : decode cX4_init 14 = .ok (.bipush 16, 2) := by decide +kernel
theorem dX4_init_16 : decode cX4_init 16 = .ok (.newarray .int, 2) := by decide +kernel
theorem dX4_init_18 : decode cX4_init 18 = .ok (.putfield 17, 3) := by decide +kernel
theorem dX4_init_21 : decode cX4_init 21 = .ok (.aload_n 0, 1) := by decide +kernel
theorem dX4_init_22 : decode cX4_init 22 = .ok (.bipush 10, 2) := by decide +kernel
theorem dX4_init_24 : decode cX4_init 24 = .ok (.putfield 21, 3) := by decide +kernel
theorem dX4_init_27 : decode cX4_init 27 = .ok (.aload_n 0, 1) := by decide +kernel
theorem dX4_init_28 : decode cX4_init 28 = .ok (.iconst 4, 1) := by decide +kernel
theorem dX4_init_29 : decode cX4_init 29 = .ok (.putfield 25, 3) := by decide +kernel
theorem dX4_init_32 : decode cX4_init 32 = .ok (.aload_n 0, 1) := by decide +kernel
theorem dX4_init_33 : decode cX4_init 33 = .ok (.bipush 16, 2) := by decide +kernel
theorem dX4_init_35 : decode cX4_init 35 = .ok (.putfield 28, 3) := by decide +kernel
theorem dX4_init_38 : decode cX4_init 38 = .ok (.aload_n 0, 1) := by decide +kernel
theorem dX4_init_39 : decode cX4_init 39 = .ok (.iconst 1, 1) := by decide +kernel
theorem dX4_init_40 : decode cX4_init 40 = .ok (.putfield 31, 3) := by decide +kernel
theorem dX4_init_43 : decode cX4_init 43 = .ok (.aload_n 0, 1) := by decide +kernel
theorem dX4_init_44 : decode cX4_init 44 = .ok (.iconst 1, 1) := by decide +kernel
theorem dX4_init_45 : decode cX4_init 45 = .ok (.putfield 35, 3) := by decide +kernel
theorem dX4_init_48 : decode cX4_init 48 = .ok (.iconst 0, 1) := by decide +kernel
theorem dX4_init_49 : decode cX4_init 49 = .ok (.istore_n 1, 1) := by decide +kernel
theorem dX4_init_50 : decode cX4_init 50 = .ok (.iload_n 1, 1) := by decide +kernel
theorem dX4_init_51 : decode cX4_init 51 = .ok (.aload_n 0, 1) := by decide +kernel
theorem dX4_init_52 : decode cX4_init 52 = .ok (.getfield 11, 3) := by decide +kernel
theorem dX4_init_55 : decode cX4_init 55 = .ok (.arraylength, 1) := by decide +kernel
theorem dX4_init_56 : decode cX4_init 56 = .ok (.if_icmp .ge 23, 3) := by decide +kernel
theorem dX4_init_59 : decode cX4_init 59 = .ok (.aload_n 0, 1) := by decide +kernel
theorem dX4_init_60 : decode cX4_init 60 = .ok (.getfield 11, 3) := by decide +kernel
theorem dX4_init_63 : decode cX4_init 63 = .ok (.iload_n 1, 1) := by decide +kernel
theorem dX4_init_64 : decode cX4_init 64 = .ok (.new 9, 3) := by decide +kernel
theorem dX4_init_67 : decode cX4_init 67 = .ok (.dup, 1) := by decide +kernel
theorem dX4_init_68 : decode cX4_init 68 = .ok (.iload_n 1, 1) := by decide +kernel
theorem dX4_init_69 : decode cX4_init 69 = .ok (.invokespecial 38, 3) := by decide +kernel
theorem dX4_init_72 : decode cX4_init 72 = .ok (.aastore, 1) := by decide +kernel
theorem dX4_init_73 : decode cX4_init 73 = .ok (.iinc 1 1, 3) := by decide +kernel
theorem dX4_init_76 : decode cX4_init 76 = .ok (.goto (-26), 3) := by decide +kernel
theorem dX4_init_79 : decode cX4_init 79 = .ok (.aload_n 0, 1) := by decide +kernel
theorem dX4_init_80 : decode cX4_init 80 = .ok (.getfield 17, 3) := by decide +kernel
theorem dX4_init_83 : decode cX4_init 83 = .ok (.bipush (-6), 2) := by decide +kernel
theorem dX4_init_85 : decode cX4_init 85 = .ok (.invokestatic 41, 3) := by decide +kernel
theorem dX4_init_88 : decode cX4_init 88 = .ok (.return_, 1) := by decide +kernel
theorem dX4_copyFrom_0 : decode cX4_copyFrom 0 = .ok (.aload_n 0, 1) := by decide +kernel
theorem dX4_copyFrom_1 : decode cX4_copyFrom 1 = .ok (.aload_n 1, 1) := by decide +kernel
theorem dX4_copyFrom_2 : decode cX4_copyFrom 2 = .ok (.getfield 47, 3) := by decide +kernel
theorem dX4_copyFrom_5 : decode cX4_copyFrom 5 = .ok (.putfield 47, 3) := by decide +kernel
theorem dX4_copyFrom_8 : decode cX4_copyFrom 8 = .ok (.aload_n 0, 1) := by decide +kernel
theorem dX4_copyFrom_9 : decode cX4_copyFrom 9 = .ok (.aload_n 1, 1) := by decide +kernel
theorem dX4_copyFrom_10 : decode cX4_copyFrom 10 = .ok (.getfield 21, 3) := by decide +kernel
theorem dX4_copyFrom_13 : decode cX4_copyFrom 13 = .ok (.putfield 21, 3) := by decide +kernel
theorem dX4_copyFrom_16 : decode cX4_copyFrom 16 = .ok (.aload_n 0, 1) := by decide +kernel
theorem dX4_copyFrom_17 : decode cX4_copyFrom 17 = .ok (.aload_n 1, 1) := by decide +kernel
theorem dX4_copyFrom_18 : decode cX4_copyFrom 18 = .ok (.getfield 25, 3) := by decide +kernel
theorem dX4_copyFrom_21 : decode cX4_copyFrom 21 = .ok (.putfield 25, 3) := by decide +kernel
theorem dX4_copyFrom_24 : decode cX4_copyFrom 24 = .ok (.aload_n 0, 1) := by decide +kernel
theorem dX4_copyFrom_25 : decode cX4_copyFrom 25 = .ok (.aload_n 1, 1) := by decide +kernel
theorem dX4_copyFrom_26 : decode cX4_copyFrom 26 = .ok (.getfield 28, 3) := by decide +kernel
theorem dX4_copyFrom_29 : decode cX4_copyFrom 29 = .ok (.putfield 28, 3) := by decide +kernel
theorem dX4_copyFrom_32 : decode cX4_copyFrom 32 = .ok (.aload_n 0, 1) := by decide +kernel
theorem dX4_copyFrom_33 : decode cX4_copyFrom 33 = .ok (.aload_n 1, 1) := by decide +kernel
theorem dX4_copyFrom_34 : decode cX4_copyFrom 34 = .ok (.getfield 31, 3) := by decide +kernel
theorem dX4_copyFrom_37 : decode cX4_copyFrom 37 = .ok (.putfield 31, 3) := by decide +kernel
theorem dX4_copyFrom_40 : decode cX4_copyFrom 40 = .ok (.aload_n 0, 1) := by decide +kernel
theorem dX4_copyFrom_41 : decode cX4_copyFrom 41 = .ok (.aload_n 1, 1) := by decide +kernel
theorem dX4_copyFrom_42 : decode cX4_copyFrom 42 = .ok (.getfield 35, 3) := by decide +kernel
theorem dX4_copyFrom_45 : decode cX4_copyFrom 45 = .ok (.putfield 35, 3) := by decide +kernel
theorem dX4_copyFrom_48 : decode cX4_copyFrom 48 = .ok (.aload_n 0, 1) := by decide +kernel
theorem dX4_copyFrom_49 : decode cX4_copyFrom 49 = .ok (.aload_n 1, 1) := by decide +kernel
theorem dX4_copyFrom_50 : decode cX4_copyFrom 50 = .ok (.getfield 50, 3) := by decide +kernel
theorem dX4_copyFrom_53 : decode cX4_copyFrom 53 = .ok (.putfield 50, 3) := by decide +kernel
theorem dX4_copyFrom_56 : decode cX4_copyFrom 56 = .ok (.aload_n 0, 1) := by decide +kernel
theorem dX4_copyFrom_57 : decode cX4_copyFrom 57 = .ok (.aload_n 1, 1) := by decide +kernel
theorem dX4_copyFrom_58 : decode cX4_copyFrom 58 = .ok (.getfield 53, 3) := by decide +kernel
theorem dX4_copyFrom_61 : decode cX4_copyFrom 61 = .ok (.putfield 53, 3) := by decide +kernel
theorem dX4_copyFrom_64 : decode cX4_copyFrom 64 = .ok (.aload_n 0, 1) := by decide +kernel
theorem dX4_copyFrom_65 : decode cX4_copyFrom 65 = .ok (.aload_n 1, 1) := by decide +kernel
theorem dX4_copyFrom_66 : decode cX4_copyFrom 66 = .ok (.getfield 56, 3) := by decide +kernel
theorem dX4_copyFrom_69 : decode cX4_copyFrom 69 = .ok (.putfield 56, 3) := by decide +kernel
theorem dX4_copyFrom_72 : decode cX4_copyFrom 72 = .ok (.aload_n 0, 1) := by decide +kernel
theorem dX4_copyFrom_73 : decode cX4_copyFrom 73 = .ok (.aload_n 1, 1) := by decide +kernel
theorem dX4_copyFrom_74 : decode cX4_copyFrom 74 = .ok (.getfield 59, 3) := by decide +kernel
theorem dX4_copyFrom_77 : decode cX4_copyFrom 77 = .ok (.putfield 59, 3) := by decide +kernel
theorem dX4_copyFrom_80 : decode cX4_copyFrom 80 = .ok (.aload_n 0, 1) := by decide +kernel
theorem dX4_copyFrom_81 : decode cX4_copyFrom 81 = .ok (.aload_n 1, 1) := by decide +kernel
theorem dX4_copyFrom_82 : decode cX4_copyFrom 82 = .ok (.getfield 62, 3) := by decide +kernel
theorem dX4_copyFrom_85 : decode cX4_copyFrom 85 = .ok (.putfield 62, 3) := by decide +kernel
theorem dX4_copyFrom_88 : decode cX4_copyFrom 88 = .ok (.aload_n 0, 1) := by decide +kernel
theorem dX4_copyFrom_89 : decode cX4_copyFrom 89 = .ok (.aload_n 1, 1) := by decide +kernel
theorem dX4_copyFrom_90 : decode cX4_copyFrom 90 = .ok (.getfield 65, 3) := by decide +kernel
theorem dX4_copyFrom_93 : decode cX4_copyFrom 93 = .ok (.putfield 65, 3) := by decide +kernel
theorem dX4_copyFrom_96 : decode cX4_copyFrom 96 = .ok (.aload_n 0, 1) := by decide +kernel
theorem dX4_copyFrom_97 : decode cX4_copyFrom 97 = .ok (.aload_n 1, 1) := by decide +kernel
theorem dX4_copyFrom_98 : decode cX4_copyFrom 98 = .ok (.getfield 68, 3) := by decide +kernel
theorem dX4_copyFrom_101 : decode cX4_copyFrom 101 = .ok (.putfield 68, 3) := by decide +kernel
theorem dX4_copyFrom_104 : decode cX4_copyFrom 104 = .ok (.aload_n 0, 1) := by decide +kernel
theorem dX4_copyFrom_105 : decode cX4_copyFrom 105 = .ok (.aload_n 1, 1) := by decide +kernel
theorem dX4_copyFrom_106 : decode cX4_copyFrom 106 = .ok (.getfield 71, 3) := by decide +kernel
theorem dX4_copyFrom_109 : decode cX4_copyFrom 109 = .ok (.putfield 71, 3) := by decide +kernel
theorem dX4_copyFrom_112 : decode cX4_copyFrom 112 = .ok (.iconst 0, 1) := by decide +kernel
theorem dX4_copyFrom_113 : decode cX4_copyFrom 113 = .ok (.istore_n 2, 1) := by decide +kernel
theorem dX4_copyFrom_114 : decode cX4_copyFrom 114 = .ok (.iload_n 2, 1) := by decide +kernel
theorem dX4_copyFrom_115 : decode cX4_copyFrom 115 = .ok (.aload_n 0, 1) := by decide +kernel
theorem dX4_copyFrom_116 : decode cX4_copyFrom 116 = .ok (.getfield 11, 3) := by decide +kernel
theorem dX4_copyFrom_119 : decode cX4_copyFrom 119 = .ok (.arraylength, 1) := by decide +kernel
theorem dX4_copyFrom_120 : decode cX4_copyFrom 120 = .ok (.if_icmp .ge 32, 3) := by decide +kernel
theorem dX4_copyFrom_123 : decode cX4_copyFrom 123 = .ok (.iload_n 2, 1) := by decide +kernel
theorem dX4_copyFrom_124 : decode cX4_copyFrom 124 = .ok (.aload_n 0, 1) := by decide +kernel
theorem dX4_copyFrom_125 : decode cX4_copyFrom 125 = .ok (.getfield 47, 3) := by decide +kernel
theorem dX4_copyFrom_128 : decode cX4_copyFrom 128 = .ok (.if_icmp .ge 24, 3) := by decide +kernel
theorem dX4_copyFrom_131 : decode cX4_copyFrom 131 = .ok (.aload_n 0, 1) := by decide +kernel
theorem dX4_copyFrom_132 : decode cX4_copyFrom 132 = .ok (.getfield 11, 3) := by decide +kernel
theorem dX4_copyFrom_135 : decode cX4_copyFrom 135 = .ok (.iload_n 2, 1) := by decide +kernel
theorem dX4_copyFrom_136 : decode cX4_copyFrom 136 = .ok (.aaload, 1) := by decide +kernel
theorem dX4_copyFrom_137 : decode cX4_copyFrom 137 = .ok (.aload_n 1, 1) := by decide +kernel
theorem dX4_copyFrom_138 : decode cX4_copyFrom 138 = .ok (.getfield 11, 3) := by decide +kernel
theorem dX4_copyFrom_141 : decode cX4_copyFrom 141 = .ok (.iload_n 2, 1) := by decide +kernel
theorem dX4_copyFrom_142 : decode cX4_copyFrom 142 = .ok (.aaload, 1) := by decide +kernel
theorem dX4_copyFrom_143 : decode cX4_copyFrom 143 = .ok (.invokevirtual 74, 3) := by decide +kernel
theorem dX4_copyFrom_146 : decode cX4_copyFrom 146 = .ok (.iinc 2 1, 3) := by decide +kernel
theorem dX4_copyFrom_149 : decode cX4_copyFrom 149 = .ok (.goto (-35), 3) := by decide +kernel
theorem dX4_copyFrom_152 : decode cX4_copyFrom 152 = .ok (.iconst 0, 1) := by decide +kernel
theorem dX4_copyFrom_153 : decode cX4_copyFrom 153 = .ok (.istore_n 2, 1) := by decide +kernel
theorem dX4_copyFrom_154 : decode cX4_copyFrom 154 = .ok (.iload_n 2, 1) := by decide +kernel
theorem dX4_copyFrom_155 : decode cX4_copyFrom 155 = .ok (.aload_n 0, 1) := by decide +kernel
theorem dX4_copyFrom_156 : decode cX4_copyFrom 156 = .ok (.getfield 17, 3) := by decide +kernel
theorem dX4_copyFrom_159 : decode cX4_copyFrom 159 = .ok (.arraylength, 1) := by decide +kernel
theorem dX4_copyFrom_160 : decode cX4_copyFrom 160 = .ok (.if_icmp .ge 21, 3) := by decide +kernel
theorem dX4_copyFrom_163 : decode cX4_copyFrom 163 = .ok (.aload_n 0, 1) := by decide +kernel
theorem dX4_copyFrom_164 : decode cX4_copyFrom 164 = .ok (.getfield 17, 3) := by decide +kernel
theorem dX4_copyFrom_167 : decode cX4_copyFrom 167 = .ok (.iload_n 2, 1) := by decide +kernel
theorem dX4_copyFrom_168 : decode cX4_copyFrom 168 = .ok (.aload_n 1, 1) := by decide +kernel
theorem dX4_copyFrom_169 : decode cX4_copyFrom 169 = .ok (.getfield 17, 3) := by decide +kernel
theorem dX4_copyFrom_172 : decode cX4_copyFrom 172 = .ok (.iload_n 2, 1) := by decide +kernel
theorem dX4_copyFrom_173 : decode cX4_copyFrom 173 = .ok (.iaload, 1) := by decide +kernel
theorem dX4_copyFrom_174 : decode cX4_copyFrom 174 = .ok (.iastore, 1) := by decide +kernel
theorem dX4_copyFrom_175 : decode cX4_copyFrom 175 = .ok (.iinc 2 1, 3) := by decide +kernel
theorem dX4_copyFrom_178 : decode cX4_copyFrom 178 = .ok (.goto (-24), 3) := by decide +kernel
theorem dX4_copyFrom_181 : decode cX4_copyFrom 181 = .ok (.return_, 1) := by decide +kernel
theorem dX4_beginAnew_0 : decode cX4_beginAnew 0 = .ok (.aload_n 0, 1) := by decide +kernel
theorem dX4_beginAnew_1 : decode cX4_beginAnew 1 = .ok (.iload_n 1, 1) := by decide +kernel
theorem dX4_beginAnew_2 : decode cX4_beginAnew 2 = .ok (.putfield 21, 3) := by decide +kernel
theorem dX4_beginAnew_5 : decode cX4_beginAnew 5 = .ok (.aload_n 0, 1) := by decide +kernel
theorem dX4_beginAnew_6 : decode cX4_beginAnew 6 = .ok (.iconst 0, 1) := by decide +kernel
theorem dX4_beginAnew_7 : decode cX4_beginAnew 7 = .ok (.putfield 47, 3) := by decide +kernel
theorem dX4_beginAnew_10 : decode cX4_beginAnew 10 = .ok (.aload_n 0, 1) := by decide +kernel
theorem dX4_beginAnew_11 : decode cX4_beginAnew 11 = .ok (.getfield 17, 3) := by decide +kernel
theorem dX4_beginAnew_14 : decode cX4_beginAnew 14 = .ok (.bipush (-6), 2) := by decide +kernel
theorem dX4_beginAnew_16 : decode cX4_beginAnew 16 = .ok (.invokestatic 41, 3) := by decide +kernel
theorem dX4_beginAnew_19 : decode cX4_beginAnew 19 = .ok (.aload_n 0, 1) := by decide +kernel
theorem dX4_beginAnew_20 : decode cX4_beginAnew 20 = .ok (.iconst 0, 1) := by decide +kernel
theorem dX4_beginAnew_21 : decode cX4_beginAnew 21 = .ok (.putfield 50, 3) := by decide +kernel
theorem dX4_beginAnew_24 : decode cX4_beginAnew 24 = .ok (.aload_n 0, 1) := by decide +kernel
theorem dX4_beginAnew_25 : decode cX4_beginAnew 25 = .ok (.iconst 0, 1) := by decide +kernel
theorem dX4_beginAnew_26 : decode cX4_beginAnew 26 = .ok (.putfield 53, 3) := by decide +kernel
theorem dX4_beginAnew_29 : decode cX4_beginAnew 29 = .ok (.aload_n 0, 1) := by decide +kernel
theorem dX4_beginAnew_30 : decode cX4_beginAnew 30 = .ok (.iconst 0, 1) := by decide +kernel
theorem dX4_beginAnew_31 : decode cX4_beginAnew 31 = .ok (.putfield 56, 3) := by decide +kernel
theorem dX4_beginAnew_34 : decode cX4_beginAnew 34 = .ok (.aload_n 0, 1) := by decide +kernel
theorem dX4_beginAnew_35 : decode cX4_beginAnew 35 = .ok (.iconst 0, 1) := by decide +kernel
theorem dX4_beginAnew_36 : decode cX4_beginAnew 36 = .ok (.putfield 59, 3) := by decide +kernel
theorem dX4_beginAnew_39 : decode cX4_beginAnew 39 = .ok (.aload_n 0, 1) := by decide +kernel
theorem dX4_beginAnew_40 : decode cX4_beginAnew 40 = .ok (.iconst 0, 1) := by decide +kernel
theorem dX4_beginAnew_41 : decode cX4_beginAnew 41 = .ok (.putfield 62, 3) := by decide +kernel
theorem dX4_beginAnew_44 : decode cX4_beginAnew 44 = .ok (.aload_n 0, 1) := by decide +kernel
theorem dX4_beginAnew_45 : decode cX4_beginAnew 45 = .ok (.iconst 0, 1) := by decide +kernel
theorem dX4_beginAnew_46 : decode cX4_beginAnew 46 = .ok (.putfield 65, 3) := by decide +kernel
theorem dX4_beginAnew_49 : decode cX4_beginAnew 49 = .ok (.aload_n 0, 1) := by decide +kernel
theorem dX4_beginAnew_50 : decode cX4_beginAnew 50 = .ok (.iconst 0, 1) := by decide +kernel
theorem dX4_beginAnew_51 : decode cX4_beginAnew 51 = .ok (.putfield 68, 3) := by decide +kernel
theorem dX4_beginAnew_54 : decode cX4_beginAnew 54 = .ok (.aload_n 0, 1) := by decide +kernel
theorem dX4_beginAnew_55 : decode cX4_beginAnew 55 = .ok (.iconst 0, 1) := by decide +kernel
theorem dX4_beginAnew_56 : decode cX4_beginAnew 56 = .ok (.putfield 71, 3) := by decide +kernel
theorem dX4_beginAnew_59 : decode cX4_beginAnew 59 = .ok (.return_, 1) := by decide +kernel
theorem dX4_changeLap_0 : decode cX4_changeLap 0 = .ok (.aload_n 0, 1) := by decide +kernel
theorem dX4_changeLap_1 : decode cX4_changeLap 1 = .ok (.iload_n 1, 1) := by decide +kernel
theorem dX4_changeLap_2 : decode cX4_changeLap 2 = .ok (.putfield 25, 3) := by decide +kernel
theorem dX4_changeLap_5 : decode cX4_changeLap 5 = .ok (.iconst 0, 1) := by decide +kernel
theorem dX4_changeLap_6 : decode cX4_changeLap 6 = .ok (.istore_n 2, 1) := by decide +kernel
theorem dX4_changeLap_7 : decode cX4_changeLap 7 = .ok (.iload_n 2, 1) := by decide +kernel
theorem dX4_changeLap_8 : decode cX4_changeLap 8 = .ok (.aload_n 0, 1) := by decide +kernel
theorem dX4_changeLap_9 : decode cX4_changeLap 9 = .ok (.getfield 21, 3) := by decide +kernel
theorem dX4_changeLap_12 : decode cX4_changeLap 12 = .ok (.if_icmp .ge 35, 3) := by decide +kernel
theorem dX4_changeLap_15 : decode cX4_changeLap 15 = .ok (.aload_n 0, 1) := by decide +kernel
theorem dX4_changeLap_16 : decode cX4_changeLap 16 = .ok (.iload_n 2, 1) := by decide +kernel
theorem dX4_changeLap_17 : decode cX4_changeLap 17 = .ok (.invokevirtual 78, 3) := by decide +kernel
theorem dX4_changeLap_20 : decode cX4_changeLap 20 = .ok (.astore_n 3, 1) := by decide +kernel
theorem dX4_changeLap_21 : decode cX4_changeLap 21 = .ok (.aload_n 3, 1) := by decide +kernel
theorem dX4_changeLap_22 : decode cX4_changeLap 22 = .ok (.ifnull 19, 3) := by decide +kernel
theorem dX4_changeLap_25 : decode cX4_changeLap 25 = .ok (.aload_n 3, 1) := by decide +kernel
theorem dX4_changeLap_26 : decode cX4_changeLap 26 = .ok (.getfield 82, 3) := by decide +kernel
theorem dX4_changeLap_29 : decode cX4_changeLap 29 = .ok (.aload_n 0, 1) := by decide +kernel
theorem dX4_changeLap_30 : decode cX4_changeLap 30 = .ok (.getfield 25, 3) := by decide +kernel
theorem dX4_changeLap_33 : decode cX4_changeLap 33 = .ok (.if_icmp .lt 8, 3) := by decide +kernel
theorem dX4_changeLap_36 : decode cX4_changeLap 36 = .ok (.aload_n 3, 1) := by decide +kernel
theorem dX4_changeLap_37 : decode cX4_changeLap 37 = .ok (.iconst 0, 1) := by decide +kernel
theorem dX4_changeLap_38 : decode cX4_changeLap 38 = .ok (.putfield 82, 3) := by decide +kernel
theorem dX4_changeLap_41 : decode cX4_changeLap 41 = .ok (.iinc 2 1, 3) := by decide +kernel
theorem dX4_changeLap_44 : decode cX4_changeLap 44 = .ok (.goto (-37), 3) := by decide +kernel
theorem dX4_changeLap_47 : decode cX4_changeLap 47 = .ok (.return_, 1) := by decide +kernel
theorem dX4_hasLevel_0 : decode cX4_hasLevel 0 = .ok (.iload_n 1, 1) := by decide +kernel
theorem dX4_hasLevel_1 : decode cX4_hasLevel 1 = .ok (.ifCond .lt 24, 3) := by decide +kernel
theorem dX4_hasLevel_4 : decode cX4_hasLevel 4 = .ok (.iload_n 1, 1) := by decide +kernel
theorem dX4_hasLevel_5 : decode cX4_hasLevel 5 = .ok (.aload_n 0, 1) := by decide +kernel
theorem dX4_hasLevel_6 : decode cX4_hasLevel 6 = .ok (.getfield 21, 3) := by decide +kernel
theorem dX4_hasLevel_9 : decode cX4_hasLevel 9 = .ok (.if_icmp .ge 16, 3) := by decide +kernel
theorem dX4_hasLevel_12 : decode cX4_hasLevel 12 = .ok (.iload_n 1, 1) := by decide +kernel
theorem dX4_hasLevel_13 : decode cX4_hasLevel 13 = .ok (.aload_n 0, 1) := by decide +kernel
theorem dX4_hasLevel_14 : decode cX4_hasLevel 14 = .ok (.getfield 17, 3) := by decide +kernel
theorem dX4_hasLevel_17 : decode cX4_hasLevel 17 = .ok (.arraylength, 1) := by decide +kernel
theorem dX4_hasLevel_18 : decode cX4_hasLevel 18 = .ok (.if_icmp .ge 7, 3) := by decide +kernel
theorem dX4_hasLevel_21 : decode cX4_hasLevel 21 = .ok (.iconst 1, 1) := by decide +kernel
theorem dX4_hasLevel_22 : decode cX4_hasLevel 22 = .ok (.goto 4, 3) := by decide +kernel
theorem dX4_hasLevel_25 : decode cX4_hasLevel 25 = .ok (.iconst 0, 1) := by decide +kernel
theorem dX4_hasLevel_26 : decode cX4_hasLevel 26 = .ok (.ireturn, 1) := by decide +kernel
theorem dX4_isFull_0 : decode cX4_isFull 0 = .ok (.aload_n 0, 1) := by decide +kernel
theorem dX4_isFull_1 : decode cX4_isFull 1 = .ok (.getfield 47, 3) := by decide +kernel
theorem dX4_isFull_4 : decode cX4_isFull 4 = .ok (.aload_n 0, 1) := by decide +kernel
theorem dX4_isFull_5 : decode cX4_isFull 5 = .ok (.getfield 11, 3) := by decide +kernel
theorem dX4_isFull_8 : decode cX4_isFull 8 = .ok (.arraylength, 1) := by decide +kernel
theorem dX4_isFull_9 : decode cX4_isFull 9 = .ok (.if_icmp .lt 7, 3) := by decide +kernel
theorem dX4_isFull_12 : decode cX4_isFull 12 = .ok (.iconst 1, 1) := by decide +kernel
theorem dX4_isFull_13 : decode cX4_isFull 13 = .ok (.goto 4, 3) := by decide +kernel
theorem dX4_isFull_16 : decode cX4_isFull 16 = .ok (.iconst 0, 1) := by decide +kernel
theorem dX4_isFull_17 : decode cX4_isFull 17 = .ok (.ireturn, 1) := by decide +kernel
theorem dX4_numbered_0 : decode cX4_numbered 0 = .ok (.iload_n 1, 1) := by decide +kernel
theorem dX4_numbered_1 : decode cX4_numbered 1 = .ok (.ifCond .lt 29, 3) := by decide +kernel
theorem dX4_numbered_4 : decode cX4_numbered 4 = .ok (.iload_n 1, 1) := by decide +kernel
theorem dX4_numbered_5 : decode cX4_numbered 5 = .ok (.aload_n 0, 1) := by decide +kernel
theorem dX4_numbered_6 : decode cX4_numbered 6 = .ok (.getfield 47, 3) := by decide +kernel
theorem dX4_numbered_9 : decode cX4_numbered 9 = .ok (.if_icmp .ge 21, 3) := by decide +kernel
theorem dX4_numbered_12 : decode cX4_numbered 12 = .ok (.iload_n 1, 1) := by decide +kernel
theorem dX4_numbered_13 : decode cX4_numbered 13 = .ok (.aload_n 0, 1) := by decide +kernel
theorem dX4_numbered_14 : decode cX4_numbered 14 = .ok (.getfield 11, 3) := by decide +kernel
theorem dX4_numbered_17 : decode cX4_numbered 17 = .ok (.arraylength, 1) := by decide +kernel
theorem dX4_numbered_18 : decode cX4_numbered 18 = .ok (.if_icmp .ge 12, 3) := by decide +kernel
theorem dX4_numbered_21 : decode cX4_numbered 21 = .ok (.aload_n 0, 1) := by decide +kernel
theorem dX4_numbered_22 : decode cX4_numbered 22 = .ok (.getfield 11, 3) := by decide +kernel
theorem dX4_numbered_25 : decode cX4_numbered 25 = .ok (.iload_n 1, 1) := by decide +kernel
theorem dX4_numbered_26 : decode cX4_numbered 26 = .ok (.aaload, 1) := by decide +kernel
theorem dX4_numbered_27 : decode cX4_numbered 27 = .ok (.goto 4, 3) := by decide +kernel
theorem dX4_numbered_30 : decode cX4_numbered 30 = .ok (.aconst_null, 1) := by decide +kernel
theorem dX4_numbered_31 : decode cX4_numbered 31 = .ok (.areturn, 1) := by decide +kernel
theorem dX4_holderOf_0 : decode cX4_holderOf 0 = .ok (.aload_n 0, 1) := by decide +kernel
theorem dX4_holderOf_1 : decode cX4_holderOf 1 = .ok (.iload_n 1, 1) := by decide +kernel
theorem dX4_holderOf_2 : decode cX4_holderOf 2 = .ok (.invokevirtual 85, 3) := by decide +kernel
theorem dX4_holderOf_5 : decode cX4_holderOf 5 = .ok (.ifCond .eq 16, 3) := by decide +kernel
theorem dX4_holderOf_8 : decode cX4_holderOf 8 = .ok (.aload_n 0, 1) := by decide +kernel
theorem dX4_holderOf_9 : decode cX4_holderOf 9 = .ok (.aload_n 0, 1) := by decide +kernel
theorem dX4_holderOf_10 : decode cX4_holderOf 10 = .ok (.getfield 17, 3) := by decide +kernel
theorem dX4_holderOf_13 : decode cX4_holderOf 13 = .ok (.iload_n 1, 1) := by decide +kernel
theorem dX4_holderOf_14 : decode cX4_holderOf 14 = .ok (.iaload, 1) := by decide +kernel
theorem dX4_holderOf_15 : decode cX4_holderOf 15 = .ok (.invokevirtual 89, 3) := by decide +kernel
theorem dX4_holderOf_18 : decode cX4_holderOf 18 = .ok (.goto 4, 3) := by decide +kernel
theorem dX4_holderOf_21 : decode cX4_holderOf 21 = .ok (.aconst_null, 1) := by decide +kernel
theorem dX4_holderOf_22 : decode cX4_holderOf 22 = .ok (.areturn, 1) := by decide +kernel
theorem dX4_isFree_0 : decode cX4_isFree 0 = .ok (.aload_n 0, 1) := by decide +kernel
theorem dX4_isFree_1 : decode cX4_isFree 1 = .ok (.iload_n 1, 1) := by decide +kernel
theorem dX4_isFree_2 : decode cX4_isFree 2 = .ok (.invokevirtual 85, 3) := by decide +kernel
theorem dX4_isFree_5 : decode cX4_isFree 5 = .ok (.ifCond .eq 18, 3) := by decide +kernel
theorem dX4_isFree_8 : decode cX4_isFree 8 = .ok (.aload_n 0, 1) := by decide +kernel
theorem dX4_isFree_9 : decode cX4_isFree 9 = .ok (.getfield 17, 3) := by decide +kernel
theorem dX4_isFree_12 : decode cX4_isFree 12 = .ok (.iload_n 1, 1) := by decide +kernel
theorem dX4_isFree_13 : decode cX4_isFree 13 = .ok (.iaload, 1) := by decide +kernel
theorem dX4_isFree_14 : decode cX4_isFree 14 = .ok (.bipush (-6), 2) := by decide +kernel
theorem dX4_isFree_16 : decode cX4_isFree 16 = .ok (.if_icmp .ne 7, 3) := by decide +kernel
theorem dX4_isFree_19 : decode cX4_isFree 19 = .ok (.iconst 1, 1) := by decide +kernel
theorem dX4_isFree_20 : decode cX4_isFree 20 = .ok (.goto 4, 3) := by decide +kernel
theorem dX4_isFree_23 : decode cX4_isFree 23 = .ok (.iconst 0, 1) := by decide +kernel
theorem dX4_isFree_24 : decode cX4_isFree 24 = .ok (.ireturn, 1) := by decide +kernel
theorem dX4_setHolder_0 : decode cX4_setHolder 0 = .ok (.iload_n 1, 1) := by decide +kernel
theorem dX4_setHolder_1 : decode cX4_setHolder 1 = .ok (.ifCond .lt 19, 3) := by decide +kernel
theorem dX4_setHolder_4 : decode cX4_setHolder 4 = .ok (.iload_n 1, 1) := by decide +kernel
theorem dX4_setHolder_5 : decode cX4_setHolder 5 = .ok (.aload_n 0, 1) := by decide +kernel
theorem dX4_setHolder_6 : decode cX4_setHolder 6 = .ok (.getfield 17, 3) := by decide +kernel
theorem dX4_setHolder_9 : decode cX4_setHolder 9 = .ok (.arraylength, 1) := by decide +kernel
theorem dX4_setHolder_10 : decode cX4_setHolder 10 = .ok (.if_icmp .ge 10, 3) := by decide +kernel
theorem dX4_setHolder_13 : decode cX4_setHolder 13 = .ok (.aload_n 0, 1) := by decide +kernel
theorem dX4_setHolder_14 : decode cX4_setHolder 14 = .ok (.getfield 17, 3) := by decide +kernel
theorem dX4_setHolder_17 : decode cX4_setHolder 17 = .ok (.iload_n 1, 1) := by decide +kernel
theorem dX4_setHolder_18 : decode cX4_setHolder 18 = .ok (.iload_n 2, 1) := by decide +kernel
theorem dX4_setHolder_19 : decode cX4_setHolder 19 = .ok (.iastore, 1) := by decide +kernel
theorem dX4_setHolder_20 : decode cX4_setHolder 20 = .ok (.return_, 1) := by decide +kernel
theorem dX4_countOf_0 : decode cX4_countOf 0 = .ok (.iconst 0, 1) := by decide +kernel
theorem dX4_countOf_1 : decode cX4_countOf 1 = .ok (.istore_n 2, 1) := by decide +kernel
theorem dX4_countOf_2 : decode cX4_countOf 2 = .ok (.iconst 0, 1) := by decide +kernel
theorem dX4_countOf_3 : decode cX4_countOf 3 = .ok (.istore_n 3, 1) := by decide +kernel
theorem dX4_countOf_4 : decode cX4_countOf 4 = .ok (.iload_n 3, 1) := by decide +kernel
theorem dX4_countOf_5 : decode cX4_countOf 5 = .ok (.aload_n 0, 1) := by decide +kernel
theorem dX4_countOf_6 : decode cX4_countOf 6 = .ok (.getfield 11, 3) := by decide +kernel
theorem dX4_countOf_9 : decode cX4_countOf 9 = .ok (.arraylength, 1) := by decide +kernel
theorem dX4_countOf_10 : decode cX4_countOf 10 = .ok (.if_icmp .ge 33, 3) := by decide +kernel
theorem dX4_countOf_13 : decode cX4_countOf 13 = .ok (.iload_n 3, 1) := by decide +kernel
theorem dX4_countOf_14 : decode cX4_countOf 14 = .ok (.aload_n 0, 1) := by decide +kernel
theorem dX4_countOf_15 : decode cX4_countOf 15 = .ok (.getfield 47, 3) := by decide +kernel
theorem dX4_countOf_18 : decode cX4_countOf 18 = .ok (.if_icmp .ge 25, 3) := by decide +kernel
theorem dX4_countOf_21 : decode cX4_countOf 21 = .ok (.aload_n 0, 1) := by decide +kernel
theorem dX4_countOf_22 : decode cX4_countOf 22 = .ok (.getfield 11, 3) := by decide +kernel
theorem dX4_countOf_25 : decode cX4_countOf 25 = .ok (.iload_n 3, 1) := by decide +kernel
theorem dX4_countOf_26 : decode cX4_countOf 26 = .ok (.aaload, 1) := by decide +kernel
theorem dX4_countOf_27 : decode cX4_countOf 27 = .ok (.getfield 92, 3) := by decide +kernel
theorem dX4_countOf_30 : decode cX4_countOf 30 = .ok (.iload_n 1, 1) := by decide +kernel
theorem dX4_countOf_31 : decode cX4_countOf 31 = .ok (.if_icmp .ne 6, 3) := by decide +kernel
theorem dX4_countOf_34 : decode cX4_countOf 34 = .ok (.iinc 2 1, 3) := by decide +kernel
theorem dX4_countOf_37 : decode cX4_countOf 37 = .ok (.iinc 3 1, 3) := by decide +kernel
theorem dX4_countOf_40 : decode cX4_countOf 40 = .ok (.goto (-36), 3) := by decide +kernel
theorem dX4_countOf_43 : decode cX4_countOf 43 = .ok (.iload_n 2, 1) := by decide +kernel
theorem dX4_countOf_44 : decode cX4_countOf 44 = .ok (.ireturn, 1) := by decide +kernel
theorem dX4_refusal_0 : decode cX4_refusal 0 = .ok (.aload_n 0, 1) := by decide +kernel
theorem dX4_refusal_1 : decode cX4_refusal 1 = .ok (.iload_n 3, 1) := by decide +kernel
theorem dX4_refusal_2 : decode cX4_refusal 2 = .ok (.invokevirtual 95, 3) := by decide +kernel
theorem dX4_refusal_5 : decode cX4_refusal 5 = .ok (.ifCond .ne 5, 3) := by decide +kernel
theorem dX4_refusal_8 : decode cX4_refusal 8 = .ok (.iconst 1, 1) := by decide +kernel
theorem dX4_refusal_9 : decode cX4_refusal 9 = .ok (.ireturn, 1) := by decide +kernel
theorem dX4_refusal_10 : decode cX4_refusal 10 = .ok (.iload_n 2, 1) := by decide +kernel
theorem dX4_refusal_11 : decode cX4_refusal 11 = .ok (.aload_n 1, 1) := by decide +kernel
theorem dX4_refusal_12 : decode cX4_refusal 12 = .ok (.getfield 98, 3) := by decide +kernel
theorem dX4_refusal_15 : decode cX4_refusal 15 = .ok (.if_icmp .gt 5, 3) := by decide +kernel
theorem dX4_refusal_18 : decode cX4_refusal 18 = .ok (.iconst 2, 1) := by decide +kernel
theorem dX4_refusal_19 : decode cX4_refusal 19 = .ok (.ireturn, 1) := by decide +kernel
theorem dX4_refusal_20 : decode cX4_refusal 20 = .ok (.aload_n 0, 1) := by decide +kernel
theorem dX4_refusal_21 : decode cX4_refusal 21 = .ok (.iconst 0, 1) := by decide +kernel
theorem dX4_refusal_22 : decode cX4_refusal 22 = .ok (.invokevirtual 103, 3) := by decide +kernel
theorem dX4_refusal_25 : decode cX4_refusal 25 = .ok (.aload_n 0, 1) := by decide +kernel
theorem dX4_refusal_26 : decode cX4_refusal 26 = .ok (.getfield 28, 3) := by decide +kernel
theorem dX4_refusal_29 : decode cX4_refusal 29 = .ok (.if_icmp .lt 7, 3) := by decide +kernel
theorem dX4_refusal_32 : decode cX4_refusal 32 = .ok (.iconst 3, 1) := by decide +kernel
theorem dX4_refusal_33 : decode cX4_refusal 33 = .ok (.goto 4, 3) := by decide +kernel
theorem dX4_refusal_36 : decode cX4_refusal 36 = .ok (.iconst 0, 1) := by decide +kernel
theorem dX4_refusal_37 : decode cX4_refusal 37 = .ok (.ireturn, 1) := by decide +kernel
theorem dX4_admit_0 : decode cX4_admit 0 = .ok (.aload_n 0, 1) := by decide +kernel
theorem dX4_admit_1 : decode cX4_admit 1 = .ok (.invokevirtual 107, 3) := by decide +kernel
theorem dX4_admit_4 : decode cX4_admit 4 = .ok (.ifCond .eq 6, 3) := by decide +kernel
theorem dX4_admit_7 : decode cX4_admit 7 = .ok (.bipush (-4), 2) := by decide +kernel
theorem dX4_admit_9 : decode cX4_admit 9 = .ok (.ireturn, 1) := by decide +kernel
theorem dX4_admit_10 : decode cX4_admit 10 = .ok (.aload_n 0, 1) := by decide +kernel
theorem dX4_admit_11 : decode cX4_admit 11 = .ok (.getfield 11, 3) := by decide +kernel
theorem dX4_admit_14 : decode cX4_admit 14 = .ok (.aload_n 0, 1) := by decide +kernel
theorem dX4_admit_15 : decode cX4_admit 15 = .ok (.getfield 47, 3) := by decide +kernel
theorem dX4_admit_18 : decode cX4_admit 18 = .ok (.aaload, 1) := by decide +kernel
theorem dX4_admit_19 : decode cX4_admit 19 = .ok (.astore 4, 2) := by decide +kernel
theorem dX4_admit_21 : decode cX4_admit 21 = .ok (.aload_n 0, 1) := by decide +kernel
theorem dX4_admit_22 : decode cX4_admit 22 = .ok (.dup, 1) := by decide +kernel
theorem dX4_admit_23 : decode cX4_admit 23 = .ok (.getfield 47, 3) := by decide +kernel
theorem dX4_admit_26 : decode cX4_admit 26 = .ok (.iconst 1, 1) := by decide +kernel
theorem dX4_admit_27 : decode cX4_admit 27 = .ok (.iadd, 1) := by decide +kernel
theorem dX4_admit_28 : decode cX4_admit 28 = .ok (.putfield 47, 3) := by decide +kernel
theorem dX4_admit_31 : decode cX4_admit 31 = .ok (.aload 4, 2) := by decide +kernel
theorem dX4_admit_33 : decode cX4_admit 33 = .ok (.aload_n 1, 1) := by decide +kernel
theorem dX4_admit_34 : decode cX4_admit 34 = .ok (.putfield 111, 3) := by decide +kernel
theorem dX4_admit_37 : decode cX4_admit 37 = .ok (.aload 4, 2) := by decide +kernel
theorem dX4_admit_39 : decode cX4_admit 39 = .ok (.iload_n 2, 1) := by decide +kernel
theorem dX4_admit_40 : decode cX4_admit 40 = .ok (.putfield 115, 3) := by decide +kernel
theorem dX4_admit_43 : decode cX4_admit 43 = .ok (.aload 4, 2) := by decide +kernel
theorem dX4_admit_45 : decode cX4_admit 45 = .ok (.iconst 0, 1) := by decide +kernel
theorem dX4_admit_46 : decode cX4_admit 46 = .ok (.putfield 92, 3) := by decide +kernel
theorem dX4_admit_49 : decode cX4_admit 49 = .ok (.aload 4, 2) := by decide +kernel
theorem dX4_admit_51 : decode cX4_admit 51 = .ok (.iload_n 3, 1) := by decide +kernel
theorem dX4_admit_52 : decode cX4_admit 52 = .ok (.putfield 118, 3) := by decide +kernel
theorem dX4_admit_55 : decode cX4_admit 55 = .ok (.aload 4, 2) := by decide +kernel
theorem dX4_admit_57 : decode cX4_admit 57 = .ok (.iconst 1, 1) := by decide +kernel
theorem dX4_admit_58 : decode cX4_admit 58 = .ok (.putfield 82, 3) := by decide +kernel
theorem dX4_admit_61 : decode cX4_admit 61 = .ok (.aload 4, 2) := by decide +kernel
theorem dX4_admit_63 : decode cX4_admit 63 = .ok (.iconst 0, 1) := by decide +kernel
theorem dX4_admit_64 : decode cX4_admit 64 = .ok (.putfield 121, 3) := by decide +kernel
theorem dX4_admit_67 : decode cX4_admit 67 = .ok (.aload_n 0, 1) := by decide +kernel
theorem dX4_admit_68 : decode cX4_admit 68 = .ok (.iload_n 3, 1) := by decide +kernel
theorem dX4_admit_69 : decode cX4_admit 69 = .ok (.aload 4, 2) := by decide +kernel
theorem dX4_admit_71 : decode cX4_admit 71 = .ok (.getfield 124, 3) := by decide +kernel
theorem dX4_admit_74 : decode cX4_admit 74 = .ok (.invokevirtual 127, 3) := by decide +kernel
theorem dX4_admit_77 : decode cX4_admit 77 = .ok (.aload_n 0, 1) := by decide +kernel
theorem dX4_admit_78 : decode cX4_admit 78 = .ok (.dup, 1) := by decide +kernel
theorem dX4_admit_79 : decode cX4_admit 79 = .ok (.getfield 59, 3) := by decide +kernel
theorem dX4_admit_82 : decode cX4_admit 82 = .ok (.iload_n 2, 1) := by decide +kernel
theorem dX4_admit_83 : decode cX4_admit 83 = .ok (.iadd, 1) := by decide +kernel
theorem dX4_admit_84 : decode cX4_admit 84 = .ok (.putfield 59, 3) := by decide +kernel
theorem dX4_admit_87 : decode cX4_admit 87 = .ok (.aload_n 0, 1) := by decide +kernel
theorem dX4_admit_88 : decode cX4_admit 88 = .ok (.iconst 0, 1) := by decide +kernel
theorem dX4_admit_89 : decode cX4_admit 89 = .ok (.putfield 71, 3) := by decide +kernel
theorem dX4_admit_92 : decode cX4_admit 92 = .ok (.aload 4, 2) := by decide +kernel
theorem dX4_admit_94 : decode cX4_admit 94 = .ok (.getfield 124, 3) := by decide +kernel
theorem dX4_admit_97 : decode cX4_admit 97 = .ok (.ireturn, 1) := by decide +kernel
theorem dX4_markCalled_0 : decode cX4_markCalled 0 = .ok (.aload_n 0, 1) := by decide +kernel
theorem dX4_markCalled_1 : decode cX4_markCalled 1 = .ok (.iload_n 1, 1) := by decide +kernel
theorem dX4_markCalled_2 : decode cX4_markCalled 2 = .ok (.invokevirtual 89, 3) := by decide +kernel
theorem dX4_markCalled_5 : decode cX4_markCalled 5 = .ok (.astore_n 2, 1) := by decide +kernel
theorem dX4_markCalled_6 : decode cX4_markCalled 6 = .ok (.aload_n 2, 1) := by decide +kernel
theorem dX4_markCalled_7 : decode cX4_markCalled 7 = .ok (.ifnonnull 5, 3) := by decide +kernel
theorem dX4_markCalled_10 : decode cX4_markCalled 10 = .ok (.iconst (-1), 1) := by decide +kernel
theorem dX4_markCalled_11 : decode cX4_markCalled 11 = .ok (.ireturn, 1) := by decide +kernel
theorem dX4_markCalled_12 : decode cX4_markCalled 12 = .ok (.aload_n 2, 1) := by decide +kernel
theorem dX4_markCalled_13 : decode cX4_markCalled 13 = .ok (.iconst 1, 1) := by decide +kernel
theorem dX4_markCalled_14 : decode cX4_markCalled 14 = .ok (.putfield 121, 3) := by decide +kernel
theorem dX4_markCalled_17 : decode cX4_markCalled 17 = .ok (.aload_n 2, 1) := by decide +kernel
theorem dX4_markCalled_18 : decode cX4_markCalled 18 = .ok (.getfield 118, 3) := by decide +kernel
theorem dX4_markCalled_21 : decode cX4_markCalled 21 = .ok (.ireturn, 1) := by decide +kernel
theorem dX4_passMinutes_0 : decode cX4_passMinutes 0 = .ok (.iconst 0, 1) := by decide +kernel
theorem dX4_passMinutes_1 : decode cX4_passMinutes 1 = .ok (.istore_n 2, 1) := by decide +kernel
theorem dX4_passMinutes_2 : decode cX4_passMinutes 2 = .ok (.iconst 0, 1) := by decide +kernel
theorem dX4_passMinutes_3 : decode cX4_passMinutes 3 = .ok (.istore_n 3, 1) := by decide +kernel
theorem dX4_passMinutes_4 : decode cX4_passMinutes 4 = .ok (.iload_n 3, 1) := by decide +kernel
theorem dX4_passMinutes_5 : decode cX4_passMinutes 5 = .ok (.iload_n 1, 1) := by decide +kernel
theorem dX4_passMinutes_6 : decode cX4_passMinutes 6 = .ok (.if_icmp .ge 21, 3) := by decide +kernel
theorem dX4_passMinutes_9 : decode cX4_passMinutes 9 = .ok (.aload_n 0, 1) := by decide +kernel
theorem dX4_passMinutes_10 : decode cX4_passMinutes 10 = .ok (.invokevirtual 131, 3) := by decide +kernel
theorem dX4_passMinutes_13 : decode cX4_passMinutes 13 = .ok (.bipush (-6), 2) := by decide +kernel
theorem dX4_passMinutes_15 : decode cX4_passMinutes 15 = .ok (.if_icmp .eq 6, 3) := by decide +kernel
theorem dX4_passMinutes_18 : decode cX4_passMinutes 18 = .ok (.iinc 2 1, 3) := by decide +kernel
theorem dX4_passMinutes_21 : decode cX4_passMinutes 21 = .ok (.iinc 3 1, 3) := by decide +kernel
theorem dX4_passMinutes_24 : decode cX4_passMinutes 24 = .ok (.goto (-20), 3) := by decide +kernel
theorem dX4_passMinutes_27 : decode cX4_passMinutes 27 = .ok (.iload_n 2, 1) := by decide +kernel
theorem dX4_passMinutes_28 : decode cX4_passMinutes 28 = .ok (.ireturn, 1) := by decide +kernel
theorem dX4_minutesToLanding_0 : decode cX4_minutesToLanding 0 = .ok (.iconst 1, 1) := by decide +kernel
theorem dX4_minutesToLanding_1 : decode cX4_minutesToLanding 1 = .ok (.istore_n 3, 1) := by decide +kernel
theorem dX4_minutesToLanding_2 : decode cX4_minutesToLanding 2 = .ok (.iload_n 3, 1) := by decide +kernel
theorem dX4_minutesToLanding_3 : decode cX4_minutesToLanding 3 = .ok (.iload_n 2, 1) := by decide +kernel
theorem dX4_minutesToLanding_4 : decode cX4_minutesToLanding 4 = .ok (.if_icmp .gt 26, 3) := by decide +kernel
theorem dX4_minutesToLanding_7 : decode cX4_minutesToLanding 7 = .ok (.aload_n 0, 1) := by decide +kernel
theorem dX4_minutesToLanding_8 : decode cX4_minutesToLanding 8 = .ok (.invokevirtual 135, 3) := by decide +kernel
theorem dX4_minutesToLanding_11 : decode cX4_minutesToLanding 11 = .ok (.ifCond .eq 19, 3) := by decide +kernel
theorem dX4_minutesToLanding_14 : decode cX4_minutesToLanding 14 = .ok (.aload_n 0, 1) := by decide +kernel
theorem dX4_minutesToLanding_15 : decode cX4_minutesToLanding 15 = .ok (.invokevirtual 131, 3) := by decide +kernel
theorem dX4_minutesToLanding_18 : decode cX4_minutesToLanding 18 = .ok (.iload_n 1, 1) := by decide +kernel
theorem dX4_minutesToLanding_19 : decode cX4_minutesToLanding 19 = .ok (.if_icmp .ne 5, 3) := by decide +kernel
theorem dX4_minutesToLanding_22 : decode cX4_minutesToLanding 22 = .ok (.iload_n 3, 1) := by decide +kernel
theorem dX4_minutesToLanding_23 : decode cX4_minutesToLanding 23 = .ok (.ireturn, 1) := by decide +kernel
theorem dX4_minutesToLanding_24 : decode cX4_minutesToLanding 24 = .ok (.iinc 3 1, 3) := by decide +kernel
theorem dX4_minutesToLanding_27 : decode cX4_minutesToLanding 27 = .ok (.goto (-25), 3) := by decide +kernel
theorem dX4_minutesToLanding_30 : decode cX4_minutesToLanding 30 = .ok (.bipush (-6), 2) := by decide +kernel
theorem dX4_minutesToLanding_32 : decode cX4_minutesToLanding 32 = .ok (.ireturn, 1) := by decide +kernel
theorem dX4_mayLand_0 : decode cX4_mayLand 0 = .ok (.aload_n 0, 1) := by decide +kernel
theorem dX4_mayLand_1 : decode cX4_mayLand 1 = .ok (.getfield 31, 3) := by decide +kernel
theorem dX4_mayLand_4 : decode cX4_mayLand 4 = .ok (.ifCond .eq 15, 3) := by decide +kernel
theorem dX4_mayLand_7 : decode cX4_mayLand 7 = .ok (.aload_n 0, 1) := by decide +kernel
theorem dX4_mayLand_8 : decode cX4_mayLand 8 = .ok (.iconst 0, 1) := by decide +kernel
theorem dX4_mayLand_9 : decode cX4_mayLand 9 = .ok (.invokevirtual 103, 3) := by decide +kernel
theorem dX4_mayLand_12 : decode cX4_mayLand 12 = .ok (.ifCond .le 7, 3) := by decide +kernel
theorem dX4_mayLand_15 : decode cX4_mayLand 15 = .ok (.iconst 1, 1) := by decide +kernel
theorem dX4_mayLand_16 : decode cX4_mayLand 16 = .ok (.goto 4, 3) := by decide +kernel
theorem dX4_mayLand_19 : decode cX4_mayLand 19 = .ok (.iconst 0, 1) := by decide +kernel
theorem dX4_mayLand_20 : decode cX4_mayLand 20 = .ok (.ireturn, 1) := by decide +kernel
theorem dX4_passMinute_0 : decode cX4_passMinute 0 = .ok (.aload_n 0, 1) := by decide +kernel
theorem dX4_passMinute_1 : decode cX4_passMinute 1 = .ok (.invokevirtual 138, 3) := by decide +kernel
theorem dX4_passMinute_4 : decode cX4_passMinute 4 = .ok (.aload_n 0, 1) := by decide +kernel
theorem dX4_passMinute_5 : decode cX4_passMinute 5 = .ok (.invokevirtual 141, 3) := by decide +kernel
theorem dX4_passMinute_8 : decode cX4_passMinute 8 = .ok (.aload_n 0, 1) := by decide +kernel
theorem dX4_passMinute_9 : decode cX4_passMinute 9 = .ok (.invokevirtual 144, 3) := by decide +kernel
theorem dX4_passMinute_12 : decode cX4_passMinute 12 = .ok (.istore_n 1, 1) := by decide +kernel
theorem dX4_passMinute_13 : decode cX4_passMinute 13 = .ok (.aload_n 0, 1) := by decide +kernel
theorem dX4_passMinute_14 : decode cX4_passMinute 14 = .ok (.invokevirtual 147, 3) := by decide +kernel
theorem dX4_passMinute_17 : decode cX4_passMinute 17 = .ok (.aload_n 0, 1) := by decide +kernel
theorem dX4_passMinute_18 : decode cX4_passMinute 18 = .ok (.dup, 1) := by decide +kernel
theorem dX4_passMinute_19 : decode cX4_passMinute 19 = .ok (.getfield 53, 3) := by decide +kernel
theorem dX4_passMinute_22 : decode cX4_passMinute 22 = .ok (.iconst 1, 1) := by decide +kernel
theorem dX4_passMinute_23 : decode cX4_passMinute 23 = .ok (.iadd, 1) := by decide +kernel
theorem dX4_passMinute_24 : decode cX4_passMinute 24 = .ok (.putfield 53, 3) := by decide +kernel
theorem dX4_passMinute_27 : decode cX4_passMinute 27 = .ok (.iload_n 1, 1) := by decide +kernel
theorem dX4_passMinute_28 : decode cX4_passMinute 28 = .ok (.ireturn, 1) := by decide +kernel
theorem dX4_burnAndFly_0 : decode cX4_burnAndFly 0 = .ok (.iconst 0, 1) := by decide +kernel
theorem dX4_burnAndFly_1 : decode cX4_burnAndFly 1 = .ok (.istore_n 1, 1) := by decide +kernel
theorem dX4_burnAndFly_2 : decode cX4_burnAndFly 2 = .ok (.iload_n 1, 1) := by decide +kernel
theorem dX4_burnAndFly_3 : decode cX4_burnAndFly 3 = .ok (.aload_n 0, 1) := by decide +kernel
theorem dX4_burnAndFly_4 : decode cX4_burnAndFly 4 = .ok (.getfield 21, 3) := by decide +kernel
theorem dX4_burnAndFly_7 : decode cX4_burnAndFly 7 = .ok (.if_icmp .ge 40, 3) := by decide +kernel
theorem dX4_burnAndFly_10 : decode cX4_burnAndFly 10 = .ok (.aload_n 0, 1) := by decide +kernel
theorem dX4_burnAndFly_11 : decode cX4_burnAndFly 11 = .ok (.iload_n 1, 1) := by decide +kernel
theorem dX4_burnAndFly_12 : decode cX4_burnAndFly 12 = .ok (.invokevirtual 78, 3) := by decide +kernel
theorem dX4_burnAndFly_15 : decode cX4_burnAndFly 15 = .ok (.astore_n 2, 1) := by decide +kernel
theorem dX4_burnAndFly_16 : decode cX4_burnAndFly 16 = .ok (.aload_n 2, 1) := by decide +kernel
theorem dX4_burnAndFly_17 : decode cX4_burnAndFly 17 = .ok (.ifnull 24, 3) := by decide +kernel
theorem dX4_burnAndFly_20 : decode cX4_burnAndFly 20 = .ok (.aload_n 0, 1) := by decide +kernel
theorem dX4_burnAndFly_21 : decode cX4_burnAndFly 21 = .ok (.dup, 1) := by decide +kernel
theorem dX4_burnAndFly_22 : decode cX4_burnAndFly 22 = .ok (.getfield 62, 3) := by decide +kernel
theorem dX4_burnAndFly_25 : decode cX4_burnAndFly 25 = .ok (.aload_n 2, 1) := by decide +kernel
theorem dX4_burnAndFly_26 : decode cX4_burnAndFly 26 = .ok (.invokevirtual 150, 3) := by decide +kernel
theorem dX4_burnAndFly_29 : decode cX4_burnAndFly 29 = .ok (.iadd, 1) := by decide +kernel
theorem dX4_burnAndFly_30 : decode cX4_burnAndFly 30 = .ok (.putfield 62, 3) := by decide +kernel
theorem dX4_burnAndFly_33 : decode cX4_burnAndFly 33 = .ok (.aload_n 2, 1) := by decide +kernel
theorem dX4_burnAndFly_34 : decode cX4_burnAndFly 34 = .ok (.aload_n 0, 1) := by decide +kernel
theorem dX4_burnAndFly_35 : decode cX4_burnAndFly 35 = .ok (.getfield 25, 3) := by decide +kernel
theorem dX4_burnAndFly_38 : decode cX4_burnAndFly 38 = .ok (.invokevirtual 153, 3) := by decide +kernel
theorem dX4_burnAndFly_41 : decode cX4_burnAndFly 41 = .ok (.iinc 1 1, 3) := by decide +kernel
theorem dX4_burnAndFly_44 : decode cX4_burnAndFly 44 = .ok (.goto (-42), 3) := by decide +kernel
theorem dX4_burnAndFly_47 : decode cX4_burnAndFly 47 = .ok (.return_, 1) := by decide +kernel
theorem dX4_divertStarved_0 : decode cX4_divertStarved 0 = .ok (.iconst 0, 1) := by decide +kernel
theorem dX4_divertStarved_1 : decode cX4_divertStarved 1 = .ok (.istore_n 1, 1) := by decide +kernel
theorem dX4_divertStarved_2 : decode cX4_divertStarved 2 = .ok (.iload_n 1, 1) := by decide +kernel
theorem dX4_divertStarved_3 : decode cX4_divertStarved 3 = .ok (.aload_n 0, 1) := by decide +kernel
theorem dX4_divertStarved_4 : decode cX4_divertStarved 4 = .ok (.getfield 21, 3) := by decide +kernel
theorem dX4_divertStarved_7 : decode cX4_divertStarved 7 = .ok (.if_icmp .ge 45, 3) := by decide +kernel
theorem dX4_divertStarved_10 : decode cX4_divertStarved 10 = .ok (.aload_n 0, 1) := by decide +kernel
theorem dX4_divertStarved_11 : decode cX4_divertStarved 11 = .ok (.iload_n 1, 1) := by decide +kernel
theorem dX4_divertStarved_12 : decode cX4_divertStarved 12 = .ok (.invokevirtual 78, 3) := by decide +kernel
theorem dX4_divertStarved_15 : decode cX4_divertStarved 15 = .ok (.astore_n 2, 1) := by decide +kernel
theorem dX4_divertStarved_16 : decode cX4_divertStarved 16 = .ok (.aload_n 2, 1) := by decide +kernel
theorem dX4_divertStarved_17 : decode cX4_divertStarved 17 = .ok (.ifnull 29, 3) := by decide +kernel
theorem dX4_divertStarved_20 : decode cX4_divertStarved 20 = .ok (.aload_n 2, 1) := by decide +kernel
theorem dX4_divertStarved_21 : decode cX4_divertStarved 21 = .ok (.invokevirtual 156, 3) := by decide +kernel
theorem dX4_divertStarved_24 : decode cX4_divertStarved 24 = .ok (.ifCond .eq 22, 3) := by decide +kernel
theorem dX4_divertStarved_27 : decode cX4_divertStarved 27 = .ok (.aload_n 0, 1) := by decide +kernel
theorem dX4_divertStarved_28 : decode cX4_divertStarved 28 = .ok (.aload_n 2, 1) := by decide +kernel
theorem dX4_divertStarved_29 : decode cX4_divertStarved 29 = .ok (.iconst 2, 1) := by decide +kernel
theorem dX4_divertStarved_30 : decode cX4_divertStarved 30 = .ok (.invokevirtual 159, 3) := by decide +kernel
theorem dX4_divertStarved_33 : decode cX4_divertStarved 33 = .ok (.aload_n 0, 1) := by decide +kernel
theorem dX4_divertStarved_34 : decode cX4_divertStarved 34 = .ok (.dup, 1) := by decide +kernel
theorem dX4_divertStarved_35 : decode cX4_divertStarved 35 = .ok (.getfield 68, 3) := by decide +kernel
theorem dX4_divertStarved_38 : decode cX4_divertStarved 38 = .ok (.aload_n 2, 1) := by decide +kernel
theorem dX4_divertStarved_39 : decode cX4_divertStarved 39 = .ok (.getfield 115, 3) := by decide +kernel
theorem dX4_divertStarved_42 : decode cX4_divertStarved 42 = .ok (.iadd, 1) := by decide +kernel
theorem dX4_divertStarved_43 : decode cX4_divertStarved 43 = .ok (.putfield 68, 3) := by decide +kernel
theorem dX4_divertStarved_46 : decode cX4_divertStarved 46 = .ok (.iinc 1 1, 3) := by decide +kernel
theorem dX4_divertStarved_49 : decode cX4_divertStarved 49 = .ok (.goto (-47), 3) := by decide +kernel
theorem dX4_divertStarved_52 : decode cX4_divertStarved 52 = .ok (.return_, 1) := by decide +kernel
theorem dX4_landOne_0 : decode cX4_landOne 0 = .ok (.aload_n 0, 1) := by decide +kernel
theorem dX4_landOne_1 : decode cX4_landOne 1 = .ok (.getfield 50, 3) := by decide +kernel
theorem dX4_landOne_4 : decode cX4_landOne 4 = .ok (.ifCond .le 13, 3) := by decide +kernel
theorem dX4_landOne_7 : decode cX4_landOne 7 = .ok (.aload_n 0, 1) := by decide +kernel
theorem dX4_landOne_8 : decode cX4_landOne 8 = .ok (.dup, 1) := by decide +kernel
theorem dX4_landOne_9 : decode cX4_landOne 9 = .ok (.getfield 50, 3) := by decide +kernel
theorem dX4_landOne_12 : decode cX4_landOne 12 = .ok (.iconst 1, 1) := by decide +kernel
theorem dX4_landOne_13 : decode cX4_landOne 13 = .ok (.isub, 1) := by decide +kernel
theorem dX4_landOne_14 : decode cX4_landOne 14 = .ok (.putfield 50, 3) := by decide +kernel
theorem dX4_landOne_17 : decode cX4_landOne 17 = .ok (.aload_n 0, 1) := by decide +kernel
theorem dX4_landOne_18 : decode cX4_landOne 18 = .ok (.getfield 31, 3) := by decide +kernel
theorem dX4_landOne_21 : decode cX4_landOne 21 = .ok (.ifCond .eq 10, 3) := by decide +kernel
theorem dX4_landOne_24 : decode cX4_landOne 24 = .ok (.aload_n 0, 1) := by decide +kernel
theorem dX4_landOne_25 : decode cX4_landOne 25 = .ok (.getfield 50, 3) := by decide +kernel
theorem dX4_landOne_28 : decode cX4_landOne 28 = .ok (.ifCond .le 6, 3) := by decide +kernel
theorem dX4_landOne_31 : decode cX4_landOne 31 = .ok (.bipush (-6), 2) := by decide +kernel
theorem dX4_landOne_33 : decode cX4_landOne 33 = .ok (.ireturn, 1) := by decide +kernel
theorem dX4_landOne_34 : decode cX4_landOne 34 = .ok (.aload_n 0, 1) := by decide +kernel
theorem dX4_landOne_35 : decode cX4_landOne 35 = .ok (.invokevirtual 163, 3) := by decide +kernel
theorem dX4_landOne_38 : decode cX4_landOne 38 = .ok (.astore_n 1, 1) := by decide +kernel
theorem dX4_landOne_39 : decode cX4_landOne 39 = .ok (.aload_n 1, 1) := by decide +kernel
theorem dX4_landOne_40 : decode cX4_landOne 40 = .ok (.ifnonnull 6, 3) := by decide +kernel
theorem dX4_landOne_43 : decode cX4_landOne 43 = .ok (.bipush (-6), 2) := by decide +kernel
theorem dX4_landOne_45 : decode cX4_landOne 45 = .ok (.ireturn, 1) := by decide +kernel
theorem dX4_landOne_46 : decode cX4_landOne 46 = .ok (.aload_n 0, 1) := by decide +kernel
theorem dX4_landOne_47 : decode cX4_landOne 47 = .ok (.aload_n 1, 1) := by decide +kernel
theorem dX4_landOne_48 : decode cX4_landOne 48 = .ok (.iconst 1, 1) := by decide +kernel
theorem dX4_landOne_49 : decode cX4_landOne 49 = .ok (.invokevirtual 159, 3) := by decide +kernel
theorem dX4_landOne_52 : decode cX4_landOne 52 = .ok (.aload_n 0, 1) := by decide +kernel
theorem dX4_landOne_53 : decode cX4_landOne 53 = .ok (.dup, 1) := by decide +kernel
theorem dX4_landOne_54 : decode cX4_landOne 54 = .ok (.getfield 65, 3) := by decide +kernel
theorem dX4_landOne_57 : decode cX4_landOne 57 = .ok (.aload_n 1, 1) := by decide +kernel
theorem dX4_landOne_58 : decode cX4_landOne 58 = .ok (.getfield 115, 3) := by decide +kernel
theorem dX4_landOne_61 : decode cX4_landOne 61 = .ok (.iadd, 1) := by decide +kernel
theorem dX4_landOne_62 : decode cX4_landOne 62 = .ok (.putfield 65, 3) := by decide +kernel
theorem dX4_landOne_65 : decode cX4_landOne 65 = .ok (.aload_n 0, 1) := by decide +kernel
theorem dX4_landOne_66 : decode cX4_landOne 66 = .ok (.aload_n 1, 1) := by decide +kernel
theorem dX4_landOne_67 : decode cX4_landOne 67 = .ok (.getfield 111, 3) := by decide +kernel
theorem dX4_landOne_70 : decode cX4_landOne 70 = .ok (.getfield 167, 3) := by decide +kernel
theorem dX4_landOne_73 : decode cX4_landOne 73 = .ok (.putfield 50, 3) := by decide +kernel
theorem dX4_landOne_76 : decode cX4_landOne 76 = .ok (.aload_n 1, 1) := by decide +kernel
theorem dX4_landOne_77 : decode cX4_landOne 77 = .ok (.getfield 124, 3) := by decide +kernel
theorem dX4_landOne_80 : decode cX4_landOne 80 = .ok (.ireturn, 1) := by decide +kernel
theorem dX4_nextToLand_0 : decode cX4_nextToLand 0 = .ok (.aconst_null, 1) := by decide +kernel
theorem dX4_nextToLand_1 : decode cX4_nextToLand 1 = .ok (.astore_n 1, 1) := by decide +kernel
theorem dX4_nextToLand_2 : decode cX4_nextToLand 2 = .ok (.iconst 0, 1) := by decide +kernel
theorem dX4_nextToLand_3 : decode cX4_nextToLand 3 = .ok (.istore_n 2, 1) := by decide +kernel
theorem dX4_nextToLand_4 : decode cX4_nextToLand 4 = .ok (.iload_n 2, 1) := by decide +kernel
theorem dX4_nextToLand_5 : decode cX4_nextToLand 5 = .ok (.aload_n 0, 1) := by decide +kernel
theorem dX4_nextToLand_6 : decode cX4_nextToLand 6 = .ok (.getfield 21, 3) := by decide +kernel
theorem dX4_nextToLand_9 : decode cX4_nextToLand 9 = .ok (.if_icmp .ge 50, 3) := by decide +kernel
theorem dX4_nextToLand_12 : decode cX4_nextToLand 12 = .ok (.aload_n 0, 1) := by decide +kernel
theorem dX4_nextToLand_13 : decode cX4_nextToLand 13 = .ok (.iload_n 2, 1) := by decide +kernel
theorem dX4_nextToLand_14 : decode cX4_nextToLand 14 = .ok (.invokevirtual 78, 3) := by decide +kernel
theorem dX4_nextToLand_17 : decode cX4_nextToLand 17 = .ok (.astore_n 3, 1) := by decide +kernel
theorem dX4_nextToLand_18 : decode cX4_nextToLand 18 = .ok (.aload_n 3, 1) := by decide +kernel
theorem dX4_nextToLand_19 : decode cX4_nextToLand 19 = .ok (.ifnull 34, 3) := by decide +kernel
theorem dX4_nextToLand_22 : decode cX4_nextToLand 22 = .ok (.aload_n 3, 1) := by decide +kernel
theorem dX4_nextToLand_23 : decode cX4_nextToLand 23 = .ok (.invokevirtual 170, 3) := by decide +kernel
theorem dX4_nextToLand_26 : decode cX4_nextToLand 26 = .ok (.ifCond .eq 27, 3) := by decide +kernel
theorem dX4_nextToLand_29 : decode cX4_nextToLand 29 = .ok (.aload_n 3, 1) := by decide +kernel
theorem dX4_nextToLand_30 : decode cX4_nextToLand 30 = .ok (.invokevirtual 173, 3) := by decide +kernel
theorem dX4_nextToLand_33 : decode cX4_nextToLand 33 = .ok (.ifCond .eq 20, 3) := by decide +kernel
theorem dX4_nextToLand_36 : decode cX4_nextToLand 36 = .ok (.aload_n 1, 1) := by decide +kernel
theorem dX4_nextToLand_37 : decode cX4_nextToLand 37 = .ok (.ifnull 14, 3) := by decide +kernel
theorem dX4_nextToLand_40 : decode cX4_nextToLand 40 = .ok (.aload_n 3, 1) := by decide +kernel
theorem dX4_nextToLand_41 : decode cX4_nextToLand 41 = .ok (.getfield 115, 3) := by decide +kernel
theorem dX4_nextToLand_44 : decode cX4_nextToLand 44 = .ok (.aload_n 1, 1) := by decide +kernel
theorem dX4_nextToLand_45 : decode cX4_nextToLand 45 = .ok (.getfield 115, 3) := by decide +kernel
theorem dX4_nextToLand_48 : decode cX4_nextToLand 48 = .ok (.if_icmp .ge 5, 3) := by decide +kernel
theorem dX4_nextToLand_51 : decode cX4_nextToLand 51 = .ok (.aload_n 3, 1) := by decide +kernel
theorem dX4_nextToLand_52 : decode cX4_nextToLand 52 = .ok (.astore_n 1, 1) := by decide +kernel
theorem dX4_nextToLand_53 : decode cX4_nextToLand 53 = .ok (.iinc 2 1, 3) := by decide +kernel
theorem dX4_nextToLand_56 : decode cX4_nextToLand 56 = .ok (.goto (-52), 3) := by decide +kernel
theorem dX4_nextToLand_59 : decode cX4_nextToLand 59 = .ok (.aload_n 1, 1) := by decide +kernel
theorem dX4_nextToLand_60 : decode cX4_nextToLand 60 = .ok (.ifnull 5, 3) := by decide +kernel
theorem dX4_nextToLand_63 : decode cX4_nextToLand 63 = .ok (.aload_n 1, 1) := by decide +kernel
theorem dX4_nextToLand_64 : decode cX4_nextToLand 64 = .ok (.areturn, 1) := by decide +kernel
theorem dX4_nextToLand_65 : decode cX4_nextToLand 65 = .ok (.aload_n 0, 1) := by decide +kernel
theorem dX4_nextToLand_66 : decode cX4_nextToLand 66 = .ok (.iconst 0, 1) := by decide +kernel
theorem dX4_nextToLand_67 : decode cX4_nextToLand 67 = .ok (.invokevirtual 78, 3) := by decide +kernel
theorem dX4_nextToLand_70 : decode cX4_nextToLand 70 = .ok (.astore_n 2, 1) := by decide +kernel
theorem dX4_nextToLand_71 : decode cX4_nextToLand 71 = .ok (.aload_n 2, 1) := by decide +kernel
theorem dX4_nextToLand_72 : decode cX4_nextToLand 72 = .ok (.ifnull 14, 3) := by decide +kernel
theorem dX4_nextToLand_75 : decode cX4_nextToLand 75 = .ok (.aload_n 2, 1) := by decide +kernel
theorem dX4_nextToLand_76 : decode cX4_nextToLand 76 = .ok (.invokevirtual 170, 3) := by decide +kernel
theorem dX4_nextToLand_79 : decode cX4_nextToLand 79 = .ok (.ifCond .eq 7, 3) := by decide +kernel
theorem dX4_nextToLand_82 : decode cX4_nextToLand 82 = .ok (.aload_n 2, 1) := by decide +kernel
theorem dX4_nextToLand_83 : decode cX4_nextToLand 83 = .ok (.goto 4, 3) := by decide +kernel
theorem dX4_nextToLand_86 : decode cX4_nextToLand 86 = .ok (.aconst_null, 1) := by decide +kernel
theorem dX4_nextToLand_87 : decode cX4_nextToLand 87 = .ok (.areturn, 1) := by decide +kernel
theorem dX4_leave_0 : decode cX4_leave 0 = .ok (.aload_n 0, 1) := by decide +kernel
theorem dX4_leave_1 : decode cX4_leave 1 = .ok (.aload_n 1, 1) := by decide +kernel
theorem dX4_leave_2 : decode cX4_leave 2 = .ok (.getfield 118, 3) := by decide +kernel
theorem dX4_leave_5 : decode cX4_leave 5 = .ok (.bipush (-6), 2) := by decide +kernel
theorem dX4_leave_7 : decode cX4_leave 7 = .ok (.invokevirtual 127, 3) := by decide +kernel
theorem dX4_leave_10 : decode cX4_leave 10 = .ok (.aload_n 1, 1) := by decide +kernel
theorem dX4_leave_11 : decode cX4_leave 11 = .ok (.iload_n 2, 1) := by decide +kernel
theorem dX4_leave_12 : decode cX4_leave 12 = .ok (.putfield 92, 3) := by decide +kernel
theorem dX4_leave_15 : decode cX4_leave 15 = .ok (.aload_n 1, 1) := by decide +kernel
theorem dX4_leave_16 : decode cX4_leave 16 = .ok (.aload_n 0, 1) := by decide +kernel
theorem dX4_leave_17 : decode cX4_leave 17 = .ok (.getfield 53, 3) := by decide +kernel
theorem dX4_leave_20 : decode cX4_leave 20 = .ok (.putfield 176, 3) := by decide +kernel
theorem dX4_leave_23 : decode cX4_leave 23 = .ok (.return_, 1) := by decide +kernel
theorem dX4_goDownLadder_0 : decode cX4_goDownLadder 0 = .ok (.iconst 1, 1) := by decide +kernel
theorem dX4_goDownLadder_1 : decode cX4_goDownLadder 1 = .ok (.istore_n 1, 1) := by decide +kernel
theorem dX4_goDownLadder_2 : decode cX4_goDownLadder 2 = .ok (.iload_n 1, 1) := by decide +kernel
theorem dX4_goDownLadder_3 : decode cX4_goDownLadder 3 = .ok (.aload_n 0, 1) := by decide +kernel
theorem dX4_goDownLadder_4 : decode cX4_goDownLadder 4 = .ok (.getfield 21, 3) := by decide +kernel
theorem dX4_goDownLadder_7 : decode cX4_goDownLadder 7 = .ok (.if_icmp .ge 90, 3) := by decide +kernel
theorem dX4_goDownLadder_10 : decode cX4_goDownLadder 10 = .ok (.aload_n 0, 1) := by decide +kernel
theorem dX4_goDownLadder_11 : decode cX4_goDownLadder 11 = .ok (.iload_n 1, 1) := by decide +kernel
theorem dX4_goDownLadder_12 : decode cX4_goDownLadder 12 = .ok (.invokevirtual 78, 3) := by decide +kernel
theorem dX4_goDownLadder_15 : decode cX4_goDownLadder 15 = .ok (.astore_n 2, 1) := by decide +kernel
theorem dX4_goDownLadder_16 : decode cX4_goDownLadder 16 = .ok (.aload_n 2, 1) := by decide +kernel
theorem dX4_goDownLadder_17 : decode cX4_goDownLadder 17 = .ok (.ifnull 74, 3) := by decide +kernel
theorem dX4_goDownLadder_20 : decode cX4_goDownLadder 20 = .ok (.aload_n 2, 1) := by decide +kernel
theorem dX4_goDownLadder_21 : decode cX4_goDownLadder 21 = .ok (.invokevirtual 170, 3) := by decide +kernel
theorem dX4_goDownLadder_24 : decode cX4_goDownLadder 24 = .ok (.ifCond .eq 67, 3) := by decide +kernel
theorem dX4_goDownLadder_27 : decode cX4_goDownLadder 27 = .ok (.aload_n 0, 1) := by decide +kernel
theorem dX4_goDownLadder_28 : decode cX4_goDownLadder 28 = .ok (.iload_n 1, 1) := by decide +kernel
theorem dX4_goDownLadder_29 : decode cX4_goDownLadder 29 = .ok (.iconst 1, 1) := by decide +kernel
theorem dX4_goDownLadder_30 : decode cX4_goDownLadder 30 = .ok (.isub, 1) := by decide +kernel
theorem dX4_goDownLadder_31 : decode cX4_goDownLadder 31 = .ok (.invokevirtual 95, 3) := by decide +kernel
theorem dX4_goDownLadder_34 : decode cX4_goDownLadder 34 = .ok (.ifCond .eq 57, 3) := by decide +kernel
theorem dX4_goDownLadder_37 : decode cX4_goDownLadder 37 = .ok (.aload_n 0, 1) := by decide +kernel
theorem dX4_goDownLadder_38 : decode cX4_goDownLadder 38 = .ok (.getfield 35, 3) := by decide +kernel
theorem dX4_goDownLadder_41 : decode cX4_goDownLadder 41 = .ok (.ifCond .ne 10, 3) := by decide +kernel
theorem dX4_goDownLadder_44 : decode cX4_goDownLadder 44 = .ok (.aload_n 2, 1) := by decide +kernel
theorem dX4_goDownLadder_45 : decode cX4_goDownLadder 45 = .ok (.getfield 121, 3) := by decide +kernel
theorem dX4_goDownLadder_48 : decode cX4_goDownLadder 48 = .ok (.ifCond .eq 43, 3) := by decide +kernel
theorem dX4_goDownLadder_51 : decode cX4_goDownLadder 51 = .ok (.aload_n 0, 1) := by decide +kernel
theorem dX4_goDownLadder_52 : decode cX4_goDownLadder 52 = .ok (.iload_n 1, 1) := by decide +kernel
theorem dX4_goDownLadder_53 : decode cX4_goDownLadder 53 = .ok (.bipush (-6), 2) := by decide +kernel
theorem dX4_goDownLadder_55 : decode cX4_goDownLadder 55 = .ok (.invokevirtual 127, 3) := by decide +kernel
theorem dX4_goDownLadder_58 : decode cX4_goDownLadder 58 = .ok (.aload_n 0, 1) := by decide +kernel
theorem dX4_goDownLadder_59 : decode cX4_goDownLadder 59 = .ok (.iload_n 1, 1) := by decide +kernel
theorem dX4_goDownLadder_60 : decode cX4_goDownLadder 60 = .ok (.iconst 1, 1) := by decide +kernel
theorem dX4_goDownLadder_61 : decode cX4_goDownLadder 61 = .ok (.isub, 1) := by decide +kernel
theorem dX4_goDownLadder_62 : decode cX4_goDownLadder 62 = .ok (.aload_n 2, 1) := by decide +kernel
theorem dX4_goDownLadder_63 : decode cX4_goDownLadder 63 = .ok (.getfield 124, 3) := by decide +kernel
theorem dX4_goDownLadder_66 : decode cX4_goDownLadder 66 = .ok (.invokevirtual 127, 3) := by decide +kernel
theorem dX4_goDownLadder_69 : decode cX4_goDownLadder 69 = .ok (.aload_n 2, 1) := by decide +kernel
theorem dX4_goDownLadder_70 : decode cX4_goDownLadder 70 = .ok (.iload_n 1, 1) := by decide +kernel
theorem dX4_goDownLadder_71 : decode cX4_goDownLadder 71 = .ok (.iconst 1, 1) := by decide +kernel
theorem dX4_goDownLadder_72 : decode cX4_goDownLadder 72 = .ok (.isub, 1) := by decide +kernel
theorem dX4_goDownLadder_73 : decode cX4_goDownLadder 73 = .ok (.putfield 118, 3) := by decide +kernel
theorem dX4_goDownLadder_76 : decode cX4_goDownLadder 76 = .ok (.aload_n 2, 1) := by decide +kernel
theorem dX4_goDownLadder_77 : decode cX4_goDownLadder 77 = .ok (.iconst 0, 1) := by decide +kernel
theorem dX4_goDownLadder_78 : decode cX4_goDownLadder 78 = .ok (.putfield 121, 3) := by decide +kernel
theorem dX4_goDownLadder_81 : decode cX4_goDownLadder 81 = .ok (.aload_n 0, 1) := by decide +kernel
theorem dX4_goDownLadder_82 : decode cX4_goDownLadder 82 = .ok (.dup, 1) := by decide +kernel
theorem dX4_goDownLadder_83 : decode cX4_goDownLadder 83 = .ok (.getfield 56, 3) := by decide +kernel
theorem dX4_goDownLadder_86 : decode cX4_goDownLadder 86 = .ok (.iconst 1, 1) := by decide +kernel
theorem dX4_goDownLadder_87 : decode cX4_goDownLadder 87 = .ok (.iadd, 1) := by decide +kernel
theorem dX4_goDownLadder_88 : decode cX4_goDownLadder 88 = .ok (.putfield 56, 3) := by decide +kernel
theorem dX4_goDownLadder_91 : decode cX4_goDownLadder 91 = .ok (.iinc 1 1, 3) := by decide +kernel
theorem dX4_goDownLadder_94 : decode cX4_goDownLadder 94 = .ok (.goto (-92), 3) := by decide +kernel
theorem dX4_goDownLadder_97 : decode cX4_goDownLadder 97 = .ok (.return_, 1) := by decide +kernel
end
section
theorem dX6_init_0 : decode cX6_init 0 = .ok (.aload_n 0, 1) := by decide +kernel
theorem dX6_init_1 : decode cX6_init 1 = .ok (.invokespecial 1, 3) := by decide +kernel
theorem dX6_init_4 : decode cX6_init 4 = .ok (.aload_n 0, 1) := by decide +kernel
theorem dX6_init_5 : decode cX6_init 5 = .ok (.new 7, 3) := by decide +kernel
theorem dX6_init_8 : decode cX6_init 8 = .ok (.dup, 1) := by decide +kernel
theorem dX6_init_9 : decode cX6_init 9 = .ok (.invokespecial 9, 3) := by decide +kernel
theorem dX6_init_12 : decode cX6_init 12 = .ok (.putfield 10, 3) := by decide +kernel
theorem dX6_init_15 : decode cX6_init 15 = .ok (.aload_n 0, 1) := by decide +kernel
theorem dX6_init_16 : decode cX6_init 16 = .ok (.new 7, 3) := by decide +kernel
theorem dX6_init_19 : decode cX6_init 19 = .ok (.dup, 1) := by decide +kernel
theorem dX6_init_20 : decode cX6_init 20 = .ok (.invokespecial 9, 3) := by decide +kernel
theorem dX6_init_23 : decode cX6_init 23 = .ok (.putfield 16, 3) := by decide +kernel
theorem dX6_init_26 : decode cX6_init 26 = .ok (.aload_n 0, 1) := by decide +kernel
theorem dX6_init_27 : decode cX6_init 27 = .ok (.new 19, 3) := by decide +kernel
theorem dX6_init_30 : decode cX6_init 30 = .ok (.dup, 1) := by decide +kernel
theorem dX6_init_31 : decode cX6_init 31 = .ok (.invokespecial 21, 3) := by decide +kernel
theorem dX6_init_34 : decode cX6_init 34 = .ok (.putfield 22, 3) := by decide +kernel
theorem dX6_init_37 : decode cX6_init 37 = .ok (.aload_n 0, 1) := by decide +kernel
theorem dX6_init_38 : decode cX6_init 38 = .ok (.new 26, 3) := by decide +kernel
theorem dX6_init_41 : decode cX6_init 41 = .ok (.dup, 1) := by decide +kernel
theorem dX6_init_42 : decode cX6_init 42 = .ok (.invokespecial 28, 3) := by decide +kernel
theorem dX6_init_45 : decode cX6_init 45 = .ok (.putfield 29, 3) := by decide +kernel
theorem dX6_init_48 : decode cX6_init 48 = .ok (.aload_n 0, 1) := by decide +kernel
theorem dX6_init_49 : decode cX6_init 49 = .ok (.new 33, 3) := by decide +kernel
theorem dX6_init_52 : decode cX6_init 52 = .ok (.dup, 1) := by decide +kernel
theorem dX6_init_53 : decode cX6_init 53 = .ok (.invokespecial 35, 3) := by decide +kernel
theorem dX6_init_56 : decode cX6_init 56 = .ok (.putfield 36, 3) := by decide +kernel
theorem dX6_init_59 : decode cX6_init 59 = .ok (.return_, 1) := by decide +kernel
theorem dX6_begin_0 : decode cX6_begin 0 = .ok (.iload_n 1, 1) := by decide +kernel
theorem dX6_begin_1 : decode cX6_begin 1 = .ok (.iconst 4, 1) := by decide +kernel
theorem dX6_begin_2 : decode cX6_begin 2 = .ok (.if_icmp .lt 9, 3) := by decide +kernel
theorem dX6_begin_5 : decode cX6_begin 5 = .ok (.iload_n 1, 1) := by decide +kernel
theorem dX6_begin_6 : decode cX6_begin 6 = .ok (.bipush 16, 2) := by decide +kernel
theorem dX6_begin_8 : decode cX6_begin 8 = .ok (.if_icmp .le 6, 3) := by decide +kernel
theorem dX6_begin_11 : decode cX6_begin 11 = .ok (.bipush (-2), 2) := by decide +kernel
theorem dX6_begin_13 : decode cX6_begin 13 = .ok (.ireturn, 1) := by decide +kernel
theorem dX6_begin_14 : decode cX6_begin 14 = .ok (.aload_n 0, 1) := by decide +kernel
theorem dX6_begin_15 : decode cX6_begin 15 = .ok (.getfield 22, 3) := by decide +kernel
theorem dX6_begin_18 : decode cX6_begin 18 = .ok (.aload_n 0, 1) := by decide +kernel
theorem dX6_begin_19 : decode cX6_begin 19 = .ok (.getfield 10, 3) := by decide +kernel
theorem dX6_begin_22 : decode cX6_begin 22 = .ok (.invokevirtual 40, 3) := by decide +kernel
theorem dX6_begin_25 : decode cX6_begin 25 = .ok (.aload_n 0, 1) := by decide +kernel
theorem dX6_begin_26 : decode cX6_begin 26 = .ok (.getfield 10, 3) := by decide +kernel
theorem dX6_begin_29 : decode cX6_begin 29 = .ok (.getfield 44, 3) := by decide +kernel
theorem dX6_begin_32 : decode cX6_begin 32 = .ok (.istore_n 2, 1) := by decide +kernel
theorem dX6_begin_33 : decode cX6_begin 33 = .ok (.aload_n 0, 1) := by decide +kernel
theorem dX6_begin_34 : decode cX6_begin 34 = .ok (.getfield 10, 3) := by decide +kernel
theorem dX6_begin_37 : decode cX6_begin 37 = .ok (.iload_n 1, 1) := by decide +kernel
theorem dX6_begin_38 : decode cX6_begin 38 = .ok (.invokevirtual 48, 3) := by decide +kernel
theorem dX6_begin_41 : decode cX6_begin 41 = .ok (.iload_n 2, 1) := by decide +kernel
theorem dX6_begin_42 : decode cX6_begin 42 = .ok (.ireturn, 1) := by decide +kernel
theorem dX6_setLap_0 : decode cX6_setLap 0 = .ok (.iload_n 1, 1) := by decide +kernel
theorem dX6_setLap_1 : decode cX6_setLap 1 = .ok (.iconst 2, 1) := by decide +kernel
theorem dX6_setLap_2 : decode cX6_setLap 2 = .ok (.if_icmp .lt 9, 3) := by decide +kernel
theorem dX6_setLap_5 : decode cX6_setLap 5 = .ok (.iload_n 1, 1) := by decide +kernel
theorem dX6_setLap_6 : decode cX6_setLap 6 = .ok (.bipush 8, 2) := by decide +kernel
theorem dX6_setLap_8 : decode cX6_setLap 8 = .ok (.if_icmp .le 6, 3) := by decide +kernel
theorem dX6_setLap_11 : decode cX6_setLap 11 = .ok (.bipush (-2), 2) := by decide +kernel
theorem dX6_setLap_13 : decode cX6_setLap 13 = .ok (.ireturn, 1) := by decide +kernel
theorem dX6_setLap_14 : decode cX6_setLap 14 = .ok (.aload_n 0, 1) := by decide +kernel
theorem dX6_setLap_15 : decode cX6_setLap 15 = .ok (.getfield 22, 3) := by decide +kernel
theorem dX6_setLap_18 : decode cX6_setLap 18 = .ok (.aload_n 0, 1) := by decide +kernel
theorem dX6_setLap_19 : decode cX6_setLap 19 = .ok (.getfield 10, 3) := by decide +kernel
theorem dX6_setLap_22 : decode cX6_setLap 22 = .ok (.invokevirtual 40, 3) := by decide +kernel
theorem dX6_setLap_25 : decode cX6_setLap 25 = .ok (.aload_n 0, 1) := by decide +kernel
theorem dX6_setLap_26 : decode cX6_setLap 26 = .ok (.getfield 10, 3) := by decide +kernel
theorem dX6_setLap_29 : decode cX6_setLap 29 = .ok (.getfield 52, 3) := by decide +kernel
theorem dX6_setLap_32 : decode cX6_setLap 32 = .ok (.istore_n 2, 1) := by decide +kernel
theorem dX6_setLap_33 : decode cX6_setLap 33 = .ok (.aload_n 0, 1) := by decide +kernel
theorem dX6_setLap_34 : decode cX6_setLap 34 = .ok (.getfield 10, 3) := by decide +kernel
theorem dX6_setLap_37 : decode cX6_setLap 37 = .ok (.iload_n 1, 1) := by decide +kernel
theorem dX6_setLap_38 : decode cX6_setLap 38 = .ok (.invokevirtual 55, 3) := by decide +kernel
theorem dX6_setLap_41 : decode cX6_setLap 41 = .ok (.iload_n 2, 1) := by decide +kernel
theorem dX6_setLap_42 : decode cX6_setLap 42 = .ok (.ireturn, 1) := by decide +kernel
theorem dX6_setLimit_0 : decode cX6_setLimit 0 = .ok (.iload_n 1, 1) := by decide +kernel
theorem dX6_setLimit_1 : decode cX6_setLimit 1 = .ok (.iconst 1, 1) := by decide +kernel
theorem dX6_setLimit_2 : decode cX6_setLimit 2 = .ok (.if_icmp .lt 9, 3) := by decide +kernel
theorem dX6_setLimit_5 : decode cX6_setLimit 5 = .ok (.iload_n 1, 1) := by decide +kernel
theorem dX6_setLimit_6 : decode cX6_setLimit 6 = .ok (.bipush 16, 2) := by decide +kernel
theorem dX6_setLimit_8 : decode cX6_setLimit 8 = .ok (.if_icmp .le 6, 3) := by decide +kernel
theorem dX6_setLimit_11 : decode cX6_setLimit 11 = .ok (.bipush (-2), 2) := by decide +kernel
theorem dX6_setLimit_13 : decode cX6_setLimit 13 = .ok (.ireturn, 1) := by decide +kernel
theorem dX6_setLimit_14 : decode cX6_setLimit 14 = .ok (.aload_n 0, 1) := by decide +kernel
theorem dX6_setLimit_15 : decode cX6_setLimit 15 = .ok (.getfield 22, 3) := by decide +kernel
theorem dX6_setLimit_18 : decode cX6_setLimit 18 = .ok (.aload_n 0, 1) := by decide +kernel
theorem dX6_setLimit_19 : decode cX6_setLimit 19 = .ok (.getfield 10, 3) := by decide +kernel
theorem dX6_setLimit_22 : decode cX6_setLimit 22 = .ok (.invokevirtual 40, 3) := by decide +kernel
theorem dX6_setLimit_25 : decode cX6_setLimit 25 = .ok (.aload_n 0, 1) := by decide +kernel
theorem dX6_setLimit_26 : decode cX6_setLimit 26 = .ok (.getfield 10, 3) := by decide +kernel
theorem dX6_setLimit_29 : decode cX6_setLimit 29 = .ok (.getfield 58, 3) := by decide +kernel
theorem dX6_setLimit_32 : decode cX6_setLimit 32 = .ok (.istore_n 2, 1) := by decide +kernel
theorem dX6_setLimit_33 : decode cX6_setLimit 33 = .ok (.aload_n 0, 1) := by decide +kernel
theorem dX6_setLimit_34 : decode cX6_setLimit 34 = .ok (.getfield 10, 3) := by decide +kernel
theorem dX6_setLimit_37 : decode cX6_setLimit 37 = .ok (.iload_n 1, 1) := by decide +kernel
theorem dX6_setLimit_38 : decode cX6_setLimit 38 = .ok (.putfield 58, 3) := by decide +kernel
theorem dX6_setLimit_41 : decode cX6_setLimit 41 = .ok (.iload_n 2, 1) := by decide +kernel
theorem dX6_setLimit_42 : decode cX6_setLimit 42 = .ok (.ireturn, 1) := by decide +kernel
theorem dX6_setRunway_0 : decode cX6_setRunway 0 = .ok (.aload_n 0, 1) := by decide +kernel
theorem dX6_setRunway_1 : decode cX6_setRunway 1 = .ok (.getfield 22, 3) := by decide +kernel
theorem dX6_setRunway_4 : decode cX6_setRunway 4 = .ok (.aload_n 0, 1) := by decide +kernel
theorem dX6_setRunway_5 : decode cX6_setRunway 5 = .ok (.getfield 10, 3) := by decide +kernel
theorem dX6_setRunway_8 : decode cX6_setRunway 8 = .ok (.invokevirtual 40, 3) := by decide +kernel
theorem dX6_setRunway_11 : decode cX6_setRunway 11 = .ok (.aload_n 0, 1) := by decide +kernel
theorem dX6_setRunway_12 : decode cX6_setRunway 12 = .ok (.getfield 10, 3) := by decide +kernel
theorem dX6_setRunway_15 : decode cX6_setRunway 15 = .ok (.getfield 61, 3) := by decide +kernel
theorem dX6_setRunway_18 : decode cX6_setRunway 18 = .ok (.invokestatic 65, 3) := by decide +kernel
theorem dX6_setRunway_21 : decode cX6_setRunway 21 = .ok (.istore_n 2, 1) := by decide +kernel
theorem dX6_setRunway_22 : decode cX6_setRunway 22 = .ok (.aload_n 0, 1) := by decide +kernel
theorem dX6_setRunway_23 : decode cX6_setRunway 23 = .ok (.getfield 10, 3) := by decide +kernel
theorem dX6_setRunway_26 : decode cX6_setRunway 26 = .ok (.iload_n 1, 1) := by decide +kernel
theorem dX6_setRunway_27 : decode cX6_setRunway 27 = .ok (.putfield 61, 3) := by decide +kernel
theorem dX6_setRunway_30 : decode cX6_setRunway 30 = .ok (.iload_n 2, 1) := by decide +kernel
theorem dX6_setRunway_31 : decode cX6_setRunway 31 = .ok (.ireturn, 1) := by decide +kernel
theorem dX6_setLadder_0 : decode cX6_setLadder 0 = .ok (.aload_n 0, 1) := by decide +kernel
theorem dX6_setLadder_1 : decode cX6_setLadder 1 = .ok (.getfield 22, 3) := by decide +kernel
theorem dX6_setLadder_4 : decode cX6_setLadder 4 = .ok (.aload_n 0, 1) := by decide +kernel
theorem dX6_setLadder_5 : decode cX6_setLadder 5 = .ok (.getfield 10, 3) := by decide +kernel
theorem dX6_setLadder_8 : decode cX6_setLadder 8 = .ok (.invokevirtual 40, 3) := by decide +kernel
theorem dX6_setLadder_11 : decode cX6_setLadder 11 = .ok (.aload_n 0, 1) := by decide +kernel
theorem dX6_setLadder_12 : decode cX6_setLadder 12 = .ok (.getfield 10, 3) := by decide +kernel
theorem dX6_setLadder_15 : decode cX6_setLadder 15 = .ok (.getfield 69, 3) := by decide +kernel
theorem dX6_setLadder_18 : decode cX6_setLadder 18 = .ok (.invokestatic 65, 3) := by decide +kernel
theorem dX6_setLadder_21 : decode cX6_setLadder 21 = .ok (.istore_n 2, 1) := by decide +kernel
theorem dX6_setLadder_22 : decode cX6_setLadder 22 = .ok (.aload_n 0, 1) := by decide +kernel
theorem dX6_setLadder_23 : decode cX6_setLadder 23 = .ok (.getfield 10, 3) := by decide +kernel
theorem dX6_setLadder_26 : decode cX6_setLadder 26 = .ok (.iload_n 1, 1) := by decide +kernel
theorem dX6_setLadder_27 : decode cX6_setLadder 27 = .ok (.putfield 69, 3) := by decide +kernel
theorem dX6_setLadder_30 : decode cX6_setLadder 30 = .ok (.iload_n 2, 1) := by decide +kernel
theorem dX6_setLadder_31 : decode cX6_setLadder 31 = .ok (.ireturn, 1) := by decide +kernel
theorem dX6_enter_0 : decode cX6_enter 0 = .ok (.iload_n 1, 1) := by decide +kernel
theorem dX6_enter_1 : decode cX6_enter 1 = .ok (.invokestatic 72, 3) := by decide +kernel
theorem dX6_enter_4 : decode cX6_enter 4 = .ok (.astore 4, 2) := by decide +kernel
theorem dX6_enter_6 : decode cX6_enter 6 = .ok (.aload_n 0, 1) := by decide +kernel
theorem dX6_enter_7 : decode cX6_enter 7 = .ok (.aload 4, 2) := by decide +kernel
theorem dX6_enter_9 : decode cX6_enter 9 = .ok (.iload_n 2, 1) := by decide +kernel
theorem dX6_enter_10 : decode cX6_enter 10 = .ok (.iload_n 3, 1) := by decide +kernel
theorem dX6_enter_11 : decode cX6_enter 11 = .ok (.invokevirtual 78, 3) := by decide +kernel
theorem dX6_enter_14 : decode cX6_enter 14 = .ok (.istore 5, 2) := by decide +kernel
theorem dX6_enter_16 : decode cX6_enter 16 = .ok (.iload 5, 2) := by decide +kernel
theorem dX6_enter_18 : decode cX6_enter 18 = .ok (.ifCond .eq 6, 3) := by decide +kernel
theorem dX6_enter_21 : decode cX6_enter 21 = .ok (.iload 5, 2) := by decide +kernel
theorem dX6_enter_23 : decode cX6_enter 23 = .ok (.ireturn, 1) := by decide +kernel
theorem dX6_enter_24 : decode cX6_enter 24 = .ok (.aload_n 0, 1) := by decide +kernel
theorem dX6_enter_25 : decode cX6_enter 25 = .ok (.getfield 22, 3) := by decide +kernel
theorem dX6_enter_28 : decode cX6_enter 28 = .ok (.aload_n 0, 1) := by decide +kernel
theorem dX6_enter_29 : decode cX6_enter 29 = .ok (.getfield 10, 3) := by decide +kernel
theorem dX6_enter_32 : decode cX6_enter 32 = .ok (.invokevirtual 40, 3) := by decide +kernel
theorem dX6_enter_35 : decode cX6_enter 35 = .ok (.aload_n 0, 1) := by decide +kernel
theorem dX6_enter_36 : decode cX6_enter 36 = .ok (.getfield 10, 3) := by decide +kernel
theorem dX6_enter_39 : decode cX6_enter 39 = .ok (.aload 4, 2) := by decide +kernel
theorem dX6_enter_41 : decode cX6_enter 41 = .ok (.iload_n 2, 1) := by decide +kernel
theorem dX6_enter_42 : decode cX6_enter 42 = .ok (.iload_n 3, 1) := by decide +kernel
theorem dX6_enter_43 : decode cX6_enter 43 = .ok (.invokevirtual 82, 3) := by decide +kernel
theorem dX6_enter_46 : decode cX6_enter 46 = .ok (.ireturn, 1) := by decide +kernel
theorem dX6_call_0 : decode cX6_call 0 = .ok (.aload_n 0, 1) := by decide +kernel
theorem dX6_call_1 : decode cX6_call 1 = .ok (.iload_n 1, 1) := by decide +kernel
theorem dX6_call_2 : decode cX6_call 2 = .ok (.invokevirtual 85, 3) := by decide +kernel
theorem dX6_call_5 : decode cX6_call 5 = .ok (.istore_n 2, 1) := by decide +kernel
theorem dX6_call_6 : decode cX6_call 6 = .ok (.iload_n 2, 1) := by decide +kernel
theorem dX6_call_7 : decode cX6_call 7 = .ok (.ifCond .eq 5, 3) := by decide +kernel
theorem dX6_call_10 : decode cX6_call 10 = .ok (.iload_n 2, 1) := by decide +kernel
theorem dX6_call_11 : decode cX6_call 11 = .ok (.ireturn, 1) := by decide +kernel
theorem dX6_call_12 : decode cX6_call 12 = .ok (.aload_n 0, 1) := by decide +kernel
theorem dX6_call_13 : decode cX6_call 13 = .ok (.getfield 22, 3) := by decide +kernel
theorem dX6_call_16 : decode cX6_call 16 = .ok (.aload_n 0, 1) := by decide +kernel
theorem dX6_call_17 : decode cX6_call 17 = .ok (.getfield 10, 3) := by decide +kernel
theorem dX6_call_20 : decode cX6_call 20 = .ok (.invokevirtual 40, 3) := by decide +kernel
theorem dX6_call_23 : decode cX6_call 23 = .ok (.aload_n 0, 1) := by decide +kernel
theorem dX6_call_24 : decode cX6_call 24 = .ok (.getfield 10, 3) := by decide +kernel
theorem dX6_call_27 : decode cX6_call 27 = .ok (.iload_n 1, 1) := by decide +kernel
theorem dX6_call_28 : decode cX6_call 28 = .ok (.invokevirtual 89, 3) := by decide +kernel
theorem dX6_call_31 : decode cX6_call 31 = .ok (.ireturn, 1) := by decide +kernel
theorem dX6_pass_0 : decode cX6_pass 0 = .ok (.iload_n 1, 1) := by decide +kernel
theorem dX6_pass_1 : decode cX6_pass 1 = .ok (.iconst 1, 1) := by decide +kernel
theorem dX6_pass_2 : decode cX6_pass 2 = .ok (.if_icmp .lt 9, 3) := by decide +kernel
theorem dX6_pass_5 : decode cX6_pass 5 = .ok (.iload_n 1, 1) := by decide +kernel
theorem dX6_pass_6 : decode cX6_pass 6 = .ok (.bipush 99, 2) := by decide +kernel
theorem dX6_pass_8 : decode cX6_pass 8 = .ok (.if_icmp .le 6, 3) := by decide +kernel
theorem dX6_pass_11 : decode cX6_pass 11 = .ok (.bipush (-2), 2) := by decide +kernel
theorem dX6_pass_13 : decode cX6_pass 13 = .ok (.ireturn, 1) := by decide +kernel
theorem dX6_pass_14 : decode cX6_pass 14 = .ok (.aload_n 0, 1) := by decide +kernel
theorem dX6_pass_15 : decode cX6_pass 15 = .ok (.getfield 22, 3) := by decide +kernel
theorem dX6_pass_18 : decode cX6_pass 18 = .ok (.aload_n 0, 1) := by decide +kernel
theorem dX6_pass_19 : decode cX6_pass 19 = .ok (.getfield 10, 3) := by decide +kernel
theorem dX6_pass_22 : decode cX6_pass 22 = .ok (.invokevirtual 40, 3) := by decide +kernel
theorem dX6_pass_25 : decode cX6_pass 25 = .ok (.aload_n 0, 1) := by decide +kernel
theorem dX6_pass_26 : decode cX6_pass 26 = .ok (.getfield 10, 3) := by decide +kernel
theorem dX6_pass_29 : decode cX6_pass 29 = .ok (.iload_n 1, 1) := by decide +kernel
theorem dX6_pass_30 : decode cX6_pass 30 = .ok (.invokevirtual 92, 3) := by decide +kernel
theorem dX6_pass_33 : decode cX6_pass 33 = .ok (.ireturn, 1) := by decide +kernel
theorem dX6_level_0 : decode cX6_level 0 = .ok (.aload_n 0, 1) := by decide +kernel
theorem dX6_level_1 : decode cX6_level 1 = .ok (.getfield 10, 3) := by decide +kernel
theorem dX6_level_4 : decode cX6_level 4 = .ok (.iload_n 1, 1) := by decide +kernel
theorem dX6_level_5 : decode cX6_level 5 = .ok (.invokevirtual 95, 3) := by decide +kernel
theorem dX6_level_8 : decode cX6_level 8 = .ok (.ifCond .ne 5, 3) := by decide +kernel
theorem dX6_level_11 : decode cX6_level 11 = .ok (.iconst (-1), 1) := by decide +kernel
theorem dX6_level_12 : decode cX6_level 12 = .ok (.ireturn, 1) := by decide +kernel
theorem dX6_level_13 : decode cX6_level 13 = .ok (.aload_n 0, 1) := by decide +kernel
theorem dX6_level_14 : decode cX6_level 14 = .ok (.getfield 10, 3) := by decide +kernel
theorem dX6_level_17 : decode cX6_level 17 = .ok (.iload_n 1, 1) := by decide +kernel
theorem dX6_level_18 : decode cX6_level 18 = .ok (.invokevirtual 99, 3) := by decide +kernel
theorem dX6_level_21 : decode cX6_level 21 = .ok (.astore_n 2, 1) := by decide +kernel
theorem dX6_level_22 : decode cX6_level 22 = .ok (.aload_n 2, 1) := by decide +kernel
theorem dX6_level_23 : decode cX6_level 23 = .ok (.ifnonnull 8, 3) := by decide +kernel
theorem dX6_level_26 : decode cX6_level 26 = .ok (.bipush (-6), 2) := by decide +kernel
theorem dX6_level_28 : decode cX6_level 28 = .ok (.goto 7, 3) := by decide +kernel
theorem dX6_level_31 : decode cX6_level 31 = .ok (.aload_n 2, 1) := by decide +kernel
theorem dX6_level_32 : decode cX6_level 32 = .ok (.getfield 103, 3) := by decide +kernel
theorem dX6_level_35 : decode cX6_level 35 = .ok (.ireturn, 1) := by decide +kernel
theorem dX6_aircraft_0 : decode cX6_aircraft 0 = .ok (.aload_n 0, 1) := by decide +kernel
theorem dX6_aircraft_1 : decode cX6_aircraft 1 = .ok (.getfield 10, 3) := by decide +kernel
theorem dX6_aircraft_4 : decode cX6_aircraft 4 = .ok (.iload_n 1, 1) := by decide +kernel
theorem dX6_aircraft_5 : decode cX6_aircraft 5 = .ok (.invokevirtual 108, 3) := by decide +kernel
theorem dX6_aircraft_8 : decode cX6_aircraft 8 = .ok (.astore_n 3, 1) := by decide +kernel
theorem dX6_aircraft_9 : decode cX6_aircraft 9 = .ok (.aload_n 3, 1) := by decide +kernel
theorem dX6_aircraft_10 : decode cX6_aircraft 10 = .ok (.ifnull 13, 3) := by decide +kernel
theorem dX6_aircraft_13 : decode cX6_aircraft 13 = .ok (.iload_n 2, 1) := by decide +kernel
theorem dX6_aircraft_14 : decode cX6_aircraft 14 = .ok (.ifCond .lt 9, 3) := by decide +kernel
theorem dX6_aircraft_17 : decode cX6_aircraft 17 = .ok (.iload_n 2, 1) := by decide +kernel
theorem dX6_aircraft_18 : decode cX6_aircraft 18 = .ok (.bipush 8, 2) := by decide +kernel
theorem dX6_aircraft_20 : decode cX6_aircraft 20 = .ok (.if_icmp .lt 5, 3) := by decide +kernel
theorem dX6_aircraft_23 : decode cX6_aircraft 23 = .ok (.iconst (-1), 1) := by decide +kernel
theorem dX6_aircraft_24 : decode cX6_aircraft 24 = .ok (.ireturn, 1) := by decide +kernel
theorem dX6_aircraft_25 : decode cX6_aircraft 25 = .ok (.iload_n 2, 1) := by decide +kernel
theorem dX6_aircraft_26 : decode cX6_aircraft 26 = .ok (.tableswitch 89 0 7 #[46, 54, 59, 89, 89, 89, 64, 72], 46) := by decide +kernel
theorem dX6_aircraft_72 : decode cX6_aircraft 72 = .ok (.aload_n 3, 1) := by decide +kernel
theorem dX6_aircraft_73 : decode cX6_aircraft 73 = .ok (.getfield 111, 3) := by decide +kernel
theorem dX6_aircraft_76 : decode cX6_aircraft 76 = .ok (.getfield 115, 3) := by decide +kernel
theorem dX6_aircraft_79 : decode cX6_aircraft 79 = .ok (.ireturn, 1) := by decide +kernel
theorem dX6_aircraft_80 : decode cX6_aircraft 80 = .ok (.aload_n 3, 1) := by decide +kernel
theorem dX6_aircraft_81 : decode cX6_aircraft 81 = .ok (.getfield 116, 3) := by decide +kernel
theorem dX6_aircraft_84 : decode cX6_aircraft 84 = .ok (.ireturn, 1) := by decide +kernel
theorem dX6_aircraft_85 : decode cX6_aircraft 85 = .ok (.aload_n 3, 1) := by decide +kernel
theorem dX6_aircraft_86 : decode cX6_aircraft 86 = .ok (.getfield 119, 3) := by decide +kernel
theorem dX6_aircraft_89 : decode cX6_aircraft 89 = .ok (.ireturn, 1) := by decide +kernel
theorem dX6_aircraft_90 : decode cX6_aircraft 90 = .ok (.aload_n 3, 1) := by decide +kernel
theorem dX6_aircraft_91 : decode cX6_aircraft 91 = .ok (.invokevirtual 122, 3) := by decide +kernel
theorem dX6_aircraft_94 : decode cX6_aircraft 94 = .ok (.invokestatic 65, 3) := by decide +kernel
theorem dX6_aircraft_97 : decode cX6_aircraft 97 = .ok (.ireturn, 1) := by decide +kernel
theorem dX6_aircraft_98 : decode cX6_aircraft 98 = .ok (.aload_n 3, 1) := by decide +kernel
theorem dX6_aircraft_99 : decode cX6_aircraft 99 = .ok (.invokevirtual 126, 3) := by decide +kernel
theorem dX6_aircraft_102 : decode cX6_aircraft 102 = .ok (.ifCond .eq 8, 3) := by decide +kernel
theorem dX6_aircraft_105 : decode cX6_aircraft 105 = .ok (.bipush (-6), 2) := by decide +kernel
theorem dX6_aircraft_107 : decode cX6_aircraft 107 = .ok (.goto 7, 3) := by decide +kernel
theorem dX6_aircraft_110 : decode cX6_aircraft 110 = .ok (.aload_n 3, 1) := by decide +kernel
theorem dX6_aircraft_111 : decode cX6_aircraft 111 = .ok (.getfield 129, 3) := by decide +kernel
theorem dX6_aircraft_114 : decode cX6_aircraft 114 = .ok (.ireturn, 1) := by decide +kernel
theorem dX6_aircraft_115 : decode cX6_aircraft 115 = .ok (.aload_n 3, 1) := by decide +kernel
theorem dX6_aircraft_116 : decode cX6_aircraft 116 = .ok (.invokevirtual 126, 3) := by decide +kernel
theorem dX6_aircraft_119 : decode cX6_aircraft 119 = .ok (.ifCond .eq 11, 3) := by decide +kernel
theorem dX6_aircraft_122 : decode cX6_aircraft 122 = .ok (.aload_n 3, 1) := by decide +kernel
theorem dX6_aircraft_123 : decode cX6_aircraft 123 = .ok (.iload_n 2, 1) := by decide +kernel
theorem dX6_aircraft_124 : decode cX6_aircraft 124 = .ok (.invokestatic 132, 3) := by decide +kernel
theorem dX6_aircraft_127 : decode cX6_aircraft 127 = .ok (.goto 5, 3) := by decide +kernel
theorem dX6_aircraft_130 : decode cX6_aircraft 130 = .ok (.bipush (-6), 2) := by decide +kernel
theorem dX6_aircraft_132 : decode cX6_aircraft 132 = .ok (.ireturn, 1) := by decide +kernel
theorem dX6_tell_0 : decode cX6_tell 0 = .ok (.iload_n 1, 1) := by decide +kernel
theorem dX6_tell_1 : decode cX6_tell 1 = .ok (.ifCond .lt 9, 3) := by decide +kernel
theorem dX6_tell_4 : decode cX6_tell 4 = .ok (.iload_n 1, 1) := by decide +kernel
theorem dX6_tell_5 : decode cX6_tell 5 = .ok (.bipush 18, 2) := by decide +kernel
theorem dX6_tell_7 : decode cX6_tell 7 = .ok (.if_icmp .lt 5, 3) := by decide +kernel
theorem dX6_tell_10 : decode cX6_tell 10 = .ok (.iconst (-1), 1) := by decide +kernel
theorem dX6_tell_11 : decode cX6_tell 11 = .ok (.ireturn, 1) := by decide +kernel
theorem dX6_tell_12 : decode cX6_tell 12 = .ok (.iload_n 1, 1) := by decide +kernel
theorem dX6_tell_13 : decode cX6_tell 13 = .ok (.tableswitch 173 0 17 #[87, 95, 103, 173, 173, 173, 173, 111, 119, 127, 138, 149, 173, 173, 173, 173, 157, 165], 87) := by decide +kernel
theorem dX6_tell_100 : decode cX6_tell 100 = .ok (.aload_n 0, 1) := by decide +kernel
theorem dX6_tell_101 : decode cX6_tell 101 = .ok (.getfield 10, 3) := by decide +kernel
theorem dX6_tell_104 : decode cX6_tell 104 = .ok (.getfield 136, 3) := by decide +kernel
theorem dX6_tell_107 : decode cX6_tell 107 = .ok (.ireturn, 1) := by decide +kernel
theorem dX6_tell_108 : decode cX6_tell 108 = .ok (.aload_n 0, 1) := by decide +kernel
theorem dX6_tell_109 : decode cX6_tell 109 = .ok (.getfield 10, 3) := by decide +kernel
theorem dX6_tell_112 : decode cX6_tell 112 = .ok (.getfield 44, 3) := by decide +kernel
theorem dX6_tell_115 : decode cX6_tell 115 = .ok (.ireturn, 1) := by decide +kernel
theorem dX6_tell_116 : decode cX6_tell 116 = .ok (.aload_n 0, 1) := by decide +kernel
theorem dX6_tell_117 : decode cX6_tell 117 = .ok (.getfield 10, 3) := by decide +kernel
theorem dX6_tell_120 : decode cX6_tell 120 = .ok (.getfield 52, 3) := by decide +kernel
theorem dX6_tell_123 : decode cX6_tell 123 = .ok (.ireturn, 1) := by decide +kernel
theorem dX6_tell_124 : decode cX6_tell 124 = .ok (.aload_n 0, 1) := by decide +kernel
theorem dX6_tell_125 : decode cX6_tell 125 = .ok (.getfield 10, 3) := by decide +kernel
theorem dX6_tell_128 : decode cX6_tell 128 = .ok (.getfield 139, 3) := by decide +kernel
theorem dX6_tell_131 : decode cX6_tell 131 = .ok (.ireturn, 1) := by decide +kernel
theorem dX6_tell_132 : decode cX6_tell 132 = .ok (.aload_n 0, 1) := by decide +kernel
theorem dX6_tell_133 : decode cX6_tell 133 = .ok (.getfield 10, 3) := by decide +kernel
theorem dX6_tell_136 : decode cX6_tell 136 = .ok (.getfield 142, 3) := by decide +kernel
theorem dX6_tell_139 : decode cX6_tell 139 = .ok (.ireturn, 1) := by decide +kernel
theorem dX6_tell_140 : decode cX6_tell 140 = .ok (.aload_n 0, 1) := by decide +kernel
theorem dX6_tell_141 : decode cX6_tell 141 = .ok (.getfield 10, 3) := by decide +kernel
theorem dX6_tell_144 : decode cX6_tell 144 = .ok (.getfield 61, 3) := by decide +kernel
theorem dX6_tell_147 : decode cX6_tell 147 = .ok (.invokestatic 65, 3) := by decide +kernel
theorem dX6_tell_150 : decode cX6_tell 150 = .ok (.ireturn, 1) := by decide +kernel
theorem dX6_tell_151 : decode cX6_tell 151 = .ok (.aload_n 0, 1) := by decide +kernel
theorem dX6_tell_152 : decode cX6_tell 152 = .ok (.getfield 10, 3) := by decide +kernel
theorem dX6_tell_155 : decode cX6_tell 155 = .ok (.getfield 69, 3) := by decide +kernel
theorem dX6_tell_158 : decode cX6_tell 158 = .ok (.invokestatic 65, 3) := by decide +kernel
theorem dX6_tell_161 : decode cX6_tell 161 = .ok (.ireturn, 1) := by decide +kernel
theorem dX6_tell_162 : decode cX6_tell 162 = .ok (.aload_n 0, 1) := by decide +kernel
theorem dX6_tell_163 : decode cX6_tell 163 = .ok (.getfield 10, 3) := by decide +kernel
theorem dX6_tell_166 : decode cX6_tell 166 = .ok (.getfield 58, 3) := by decide +kernel
theorem dX6_tell_169 : decode cX6_tell 169 = .ok (.ireturn, 1) := by decide +kernel
theorem dX6_tell_170 : decode cX6_tell 170 = .ok (.aload_n 0, 1) := by decide +kernel
theorem dX6_tell_171 : decode cX6_tell 171 = .ok (.getfield 10, 3) := by decide +kernel
theorem dX6_tell_174 : decode cX6_tell 174 = .ok (.getfield 145, 3) := by decide +kernel
theorem dX6_tell_177 : decode cX6_tell 177 = .ok (.ireturn, 1) := by decide +kernel
theorem dX6_tell_178 : decode cX6_tell 178 = .ok (.aload_n 0, 1) := by decide +kernel
theorem dX6_tell_179 : decode cX6_tell 179 = .ok (.getfield 22, 3) := by decide +kernel
theorem dX6_tell_182 : decode cX6_tell 182 = .ok (.getfield 148, 3) := by decide +kernel
theorem dX6_tell_185 : decode cX6_tell 185 = .ok (.ireturn, 1) := by decide +kernel
theorem dX6_tell_186 : decode cX6_tell 186 = .ok (.iload_n 1, 1) := by decide +kernel
theorem dX6_tell_187 : decode cX6_tell 187 = .ok (.bipush 7, 2) := by decide +kernel
theorem dX6_tell_189 : decode cX6_tell 189 = .ok (.if_icmp .ge 11, 3) := by decide +kernel
theorem dX6_tell_192 : decode cX6_tell 192 = .ok (.aload_n 0, 1) := by decide +kernel
theorem dX6_tell_193 : decode cX6_tell 193 = .ok (.iload_n 1, 1) := by decide +kernel
theorem dX6_tell_194 : decode cX6_tell 194 = .ok (.invokevirtual 151, 3) := by decide +kernel
theorem dX6_tell_197 : decode cX6_tell 197 = .ok (.goto 8, 3) := by decide +kernel
theorem dX6_tell_200 : decode cX6_tell 200 = .ok (.aload_n 0, 1) := by decide +kernel
theorem dX6_tell_201 : decode cX6_tell 201 = .ok (.iload_n 1, 1) := by decide +kernel
theorem dX6_tell_202 : decode cX6_tell 202 = .ok (.invokevirtual 154, 3) := by decide +kernel
theorem dX6_tell_205 : decode cX6_tell 205 = .ok (.ireturn, 1) := by decide +kernel
theorem dX6_why_0 : decode cX6_why 0 = .ok (.aload_n 0, 1) := by decide +kernel
theorem dX6_why_1 : decode cX6_why 1 = .ok (.getfield 10, 3) := by decide +kernel
theorem dX6_why_4 : decode cX6_why 4 = .ok (.iload_n 1, 1) := by decide +kernel
theorem dX6_why_5 : decode cX6_why 5 = .ok (.invokevirtual 108, 3) := by decide +kernel
theorem dX6_why_8 : decode cX6_why 8 = .ok (.astore_n 2, 1) := by decide +kernel
theorem dX6_why_9 : decode cX6_why 9 = .ok (.aload_n 2, 1) := by decide +kernel
theorem dX6_why_10 : decode cX6_why 10 = .ok (.ifnonnull 5, 3) := by decide +kernel
theorem dX6_why_13 : decode cX6_why 13 = .ok (.iconst (-1), 1) := by decide +kernel
theorem dX6_why_14 : decode cX6_why 14 = .ok (.ireturn, 1) := by decide +kernel
theorem dX6_why_15 : decode cX6_why 15 = .ok (.aload_n 2, 1) := by decide +kernel
theorem dX6_why_16 : decode cX6_why 16 = .ok (.invokevirtual 126, 3) := by decide +kernel
theorem dX6_why_19 : decode cX6_why 19 = .ok (.ifCond .ne 5, 3) := by decide +kernel
theorem dX6_why_22 : decode cX6_why 22 = .ok (.iconst 1, 1) := by decide +kernel
theorem dX6_why_23 : decode cX6_why 23 = .ok (.ireturn, 1) := by decide +kernel
theorem dX6_why_24 : decode cX6_why 24 = .ok (.aload_n 2, 1) := by decide +kernel
theorem dX6_why_25 : decode cX6_why 25 = .ok (.invokevirtual 157, 3) := by decide +kernel
theorem dX6_why_28 : decode cX6_why 28 = .ok (.ifCond .ne 5, 3) := by decide +kernel
theorem dX6_why_31 : decode cX6_why 31 = .ok (.iconst 2, 1) := by decide +kernel
theorem dX6_why_32 : decode cX6_why 32 = .ok (.ireturn, 1) := by decide +kernel
theorem dX6_why_33 : decode cX6_why 33 = .ok (.aload_n 2, 1) := by decide +kernel
theorem dX6_why_34 : decode cX6_why 34 = .ok (.getfield 160, 3) := by decide +kernel
theorem dX6_why_37 : decode cX6_why 37 = .ok (.ifCond .eq 10, 3) := by decide +kernel
theorem dX6_why_40 : decode cX6_why 40 = .ok (.aload_n 2, 1) := by decide +kernel
theorem dX6_why_41 : decode cX6_why 41 = .ok (.invokevirtual 122, 3) := by decide +kernel
theorem dX6_why_44 : decode cX6_why 44 = .ok (.ifCond .eq 29, 3) := by decide +kernel
theorem dX6_why_47 : decode cX6_why 47 = .ok (.aload_n 0, 1) := by decide +kernel
theorem dX6_why_48 : decode cX6_why 48 = .ok (.getfield 10, 3) := by decide +kernel
theorem dX6_why_51 : decode cX6_why 51 = .ok (.getfield 61, 3) := by decide +kernel
theorem dX6_why_54 : decode cX6_why 54 = .ok (.ifCond .eq 17, 3) := by decide +kernel
theorem dX6_why_57 : decode cX6_why 57 = .ok (.aload_n 0, 1) := by decide +kernel
theorem dX6_why_58 : decode cX6_why 58 = .ok (.getfield 10, 3) := by decide +kernel
theorem dX6_why_61 : decode cX6_why 61 = .ok (.getfield 142, 3) := by decide +kernel
theorem dX6_why_64 : decode cX6_why 64 = .ok (.ifCond .ne 7, 3) := by decide +kernel
theorem dX6_why_67 : decode cX6_why 67 = .ok (.iconst 0, 1) := by decide +kernel
theorem dX6_why_68 : decode cX6_why 68 = .ok (.goto 4, 3) := by decide +kernel
theorem dX6_why_71 : decode cX6_why 71 = .ok (.iconst 3, 1) := by decide +kernel
theorem dX6_why_72 : decode cX6_why 72 = .ok (.ireturn, 1) := by decide +kernel
theorem dX6_why_73 : decode cX6_why 73 = .ok (.aload_n 0, 1) := by decide +kernel
theorem dX6_why_74 : decode cX6_why 74 = .ok (.getfield 10, 3) := by decide +kernel
theorem dX6_why_77 : decode cX6_why 77 = .ok (.aload_n 2, 1) := by decide +kernel
theorem dX6_why_78 : decode cX6_why 78 = .ok (.getfield 160, 3) := by decide +kernel
theorem dX6_why_81 : decode cX6_why 81 = .ok (.iconst 1, 1) := by decide +kernel
theorem dX6_why_82 : decode cX6_why 82 = .ok (.isub, 1) := by decide +kernel
theorem dX6_why_83 : decode cX6_why 83 = .ok (.invokevirtual 163, 3) := by decide +kernel
theorem dX6_why_86 : decode cX6_why 86 = .ok (.ifCond .ne 5, 3) := by decide +kernel
theorem dX6_why_89 : decode cX6_why 89 = .ok (.iconst 4, 1) := by decide +kernel
theorem dX6_why_90 : decode cX6_why 90 = .ok (.ireturn, 1) := by decide +kernel
theorem dX6_why_91 : decode cX6_why 91 = .ok (.aload_n 2, 1) := by decide +kernel
theorem dX6_why_92 : decode cX6_why 92 = .ok (.getfield 166, 3) := by decide +kernel
theorem dX6_why_95 : decode cX6_why 95 = .ok (.ifCond .ne 13, 3) := by decide +kernel
theorem dX6_why_98 : decode cX6_why 98 = .ok (.aload_n 0, 1) := by decide +kernel
theorem dX6_why_99 : decode cX6_why 99 = .ok (.getfield 10, 3) := by decide +kernel
theorem dX6_why_102 : decode cX6_why 102 = .ok (.getfield 69, 3) := by decide +kernel
theorem dX6_why_105 : decode cX6_why 105 = .ok (.ifCond .eq 7, 3) := by decide +kernel
theorem dX6_why_108 : decode cX6_why 108 = .ok (.iconst 0, 1) := by decide +kernel
theorem dX6_why_109 : decode cX6_why 109 = .ok (.goto 4, 3) := by decide +kernel
theorem dX6_why_112 : decode cX6_why 112 = .ok (.iconst 5, 1) := by decide +kernel
theorem dX6_why_113 : decode cX6_why 113 = .ok (.ireturn, 1) := by decide +kernel
theorem dX6_minutesLeft_0 : decode cX6_minutesLeft 0 = .ok (.aload_n 0, 1) := by decide +kernel
theorem dX6_minutesLeft_1 : decode cX6_minutesLeft 1 = .ok (.getfield 10, 3) := by decide +kernel
theorem dX6_minutesLeft_4 : decode cX6_minutesLeft 4 = .ok (.iload_n 1, 1) := by decide +kernel
theorem dX6_minutesLeft_5 : decode cX6_minutesLeft 5 = .ok (.invokevirtual 108, 3) := by decide +kernel
theorem dX6_minutesLeft_8 : decode cX6_minutesLeft 8 = .ok (.ifnonnull 5, 3) := by decide +kernel
theorem dX6_minutesLeft_11 : decode cX6_minutesLeft 11 = .ok (.iconst (-1), 1) := by decide +kernel
theorem dX6_minutesLeft_12 : decode cX6_minutesLeft 12 = .ok (.ireturn, 1) := by decide +kernel
theorem dX6_minutesLeft_13 : decode cX6_minutesLeft 13 = .ok (.aload_n 0, 1) := by decide +kernel
theorem dX6_minutesLeft_14 : decode cX6_minutesLeft 14 = .ok (.invokevirtual 169, 3) := by decide +kernel
theorem dX6_minutesLeft_17 : decode cX6_minutesLeft 17 = .ok (.aload_n 0, 1) := by decide +kernel
theorem dX6_minutesLeft_18 : decode cX6_minutesLeft 18 = .ok (.iload_n 1, 1) := by decide +kernel
theorem dX6_minutesLeft_19 : decode cX6_minutesLeft 19 = .ok (.invokevirtual 172, 3) := by decide +kernel
theorem dX6_minutesLeft_22 : decode cX6_minutesLeft 22 = .ok (.ireturn, 1) := by decide +kernel
theorem dX6_landsWith_0 : decode cX6_landsWith 0 = .ok (.aload_n 0, 1) := by decide +kernel
theorem dX6_landsWith_1 : decode cX6_landsWith 1 = .ok (.getfield 10, 3) := by decide +kernel
theorem dX6_landsWith_4 : decode cX6_landsWith 4 = .ok (.iload_n 1, 1) := by decide +kernel
theorem dX6_landsWith_5 : decode cX6_landsWith 5 = .ok (.invokevirtual 108, 3) := by decide +kernel
theorem dX6_landsWith_8 : decode cX6_landsWith 8 = .ok (.ifnonnull 5, 3) := by decide +kernel
theorem dX6_landsWith_11 : decode cX6_landsWith 11 = .ok (.iconst (-1), 1) := by decide +kernel
theorem dX6_landsWith_12 : decode cX6_landsWith 12 = .ok (.ireturn, 1) := by decide +kernel
theorem dX6_landsWith_13 : decode cX6_landsWith 13 = .ok (.aload_n 0, 1) := by decide +kernel
theorem dX6_landsWith_14 : decode cX6_landsWith 14 = .ok (.invokevirtual 169, 3) := by decide +kernel
theorem dX6_landsWith_17 : decode cX6_landsWith 17 = .ok (.aload_n 0, 1) := by decide +kernel
theorem dX6_landsWith_18 : decode cX6_landsWith 18 = .ok (.getfield 16, 3) := by decide +kernel
theorem dX6_landsWith_21 : decode cX6_landsWith 21 = .ok (.iload_n 1, 1) := by decide +kernel
theorem dX6_landsWith_22 : decode cX6_landsWith 22 = .ok (.invokevirtual 108, 3) := by decide +kernel
theorem dX6_landsWith_25 : decode cX6_landsWith 25 = .ok (.astore_n 2, 1) := by decide +kernel
theorem dX6_landsWith_26 : decode cX6_landsWith 26 = .ok (.aload_n 2, 1) := by decide +kernel
theorem dX6_landsWith_27 : decode cX6_landsWith 27 = .ok (.ifnull 18, 3) := by decide +kernel
theorem dX6_landsWith_30 : decode cX6_landsWith 30 = .ok (.aload_n 2, 1) := by decide +kernel
theorem dX6_landsWith_31 : decode cX6_landsWith 31 = .ok (.getfield 119, 3) := by decide +kernel
theorem dX6_landsWith_34 : decode cX6_landsWith 34 = .ok (.iconst 1, 1) := by decide +kernel
theorem dX6_landsWith_35 : decode cX6_landsWith 35 = .ok (.if_icmp .ne 10, 3) := by decide +kernel
theorem dX6_landsWith_38 : decode cX6_landsWith 38 = .ok (.aload_n 2, 1) := by decide +kernel
theorem dX6_landsWith_39 : decode cX6_landsWith 39 = .ok (.getfield 116, 3) := by decide +kernel
theorem dX6_landsWith_42 : decode cX6_landsWith 42 = .ok (.goto 5, 3) := by decide +kernel
theorem dX6_landsWith_45 : decode cX6_landsWith 45 = .ok (.bipush (-6), 2) := by decide +kernel
theorem dX6_landsWith_47 : decode cX6_landsWith 47 = .ok (.ireturn, 1) := by decide +kernel
theorem dX6_endurance_0 : decode cX6_endurance 0 = .ok (.aload_n 0, 1) := by decide +kernel
theorem dX6_endurance_1 : decode cX6_endurance 1 = .ok (.getfield 10, 3) := by decide +kernel
theorem dX6_endurance_4 : decode cX6_endurance 4 = .ok (.iload_n 1, 1) := by decide +kernel
theorem dX6_endurance_5 : decode cX6_endurance 5 = .ok (.invokevirtual 108, 3) := by decide +kernel
theorem dX6_endurance_8 : decode cX6_endurance 8 = .ok (.astore_n 2, 1) := by decide +kernel
theorem dX6_endurance_9 : decode cX6_endurance 9 = .ok (.aload_n 2, 1) := by decide +kernel
theorem dX6_endurance_10 : decode cX6_endurance 10 = .ok (.ifnonnull 5, 3) := by decide +kernel
theorem dX6_endurance_13 : decode cX6_endurance 13 = .ok (.iconst (-1), 1) := by decide +kernel
theorem dX6_endurance_14 : decode cX6_endurance 14 = .ok (.ireturn, 1) := by decide +kernel
theorem dX6_endurance_15 : decode cX6_endurance 15 = .ok (.aload_n 2, 1) := by decide +kernel
theorem dX6_endurance_16 : decode cX6_endurance 16 = .ok (.invokevirtual 126, 3) := by decide +kernel
theorem dX6_endurance_19 : decode cX6_endurance 19 = .ok (.ifCond .eq 10, 3) := by decide +kernel
theorem dX6_endurance_22 : decode cX6_endurance 22 = .ok (.aload_n 2, 1) := by decide +kernel
theorem dX6_endurance_23 : decode cX6_endurance 23 = .ok (.invokevirtual 175, 3) := by decide +kernel
theorem dX6_endurance_26 : decode cX6_endurance 26 = .ok (.goto 5, 3) := by decide +kernel
theorem dX6_endurance_29 : decode cX6_endurance 29 = .ok (.bipush (-3), 2) := by decide +kernel
theorem dX6_endurance_31 : decode cX6_endurance 31 = .ok (.ireturn, 1) := by decide +kernel
theorem dX6_bestLevel_0 : decode cX6_bestLevel 0 = .ok (.iload_n 1, 1) := by decide +kernel
theorem dX6_bestLevel_1 : decode cX6_bestLevel 1 = .ok (.invokestatic 72, 3) := by decide +kernel
theorem dX6_bestLevel_4 : decode cX6_bestLevel 4 = .ok (.astore_n 3, 1) := by decide +kernel
theorem dX6_bestLevel_5 : decode cX6_bestLevel 5 = .ok (.aload_n 3, 1) := by decide +kernel
theorem dX6_bestLevel_6 : decode cX6_bestLevel 6 = .ok (.ifnonnull 5, 3) := by decide +kernel
theorem dX6_bestLevel_9 : decode cX6_bestLevel 9 = .ok (.iconst (-1), 1) := by decide +kernel
theorem dX6_bestLevel_10 : decode cX6_bestLevel 10 = .ok (.ireturn, 1) := by decide +kernel
theorem dX6_bestLevel_11 : decode cX6_bestLevel 11 = .ok (.iload_n 2, 1) := by decide +kernel
theorem dX6_bestLevel_12 : decode cX6_bestLevel 12 = .ok (.invokestatic 179, 3) := by decide +kernel
theorem dX6_bestLevel_15 : decode cX6_bestLevel 15 = .ok (.ifCond .ne 6, 3) := by decide +kernel
theorem dX6_bestLevel_18 : decode cX6_bestLevel 18 = .ok (.bipush (-2), 2) := by decide +kernel
theorem dX6_bestLevel_20 : decode cX6_bestLevel 20 = .ok (.ireturn, 1) := by decide +kernel
theorem dX6_bestLevel_21 : decode cX6_bestLevel 21 = .ok (.aload_n 0, 1) := by decide +kernel
theorem dX6_bestLevel_22 : decode cX6_bestLevel 22 = .ok (.getfield 10, 3) := by decide +kernel
theorem dX6_bestLevel_25 : decode cX6_bestLevel 25 = .ok (.invokevirtual 182, 3) := by decide +kernel
theorem dX6_bestLevel_28 : decode cX6_bestLevel 28 = .ok (.ifCond .eq 6, 3) := by decide +kernel
theorem dX6_bestLevel_31 : decode cX6_bestLevel 31 = .ok (.bipush (-4), 2) := by decide +kernel
theorem dX6_bestLevel_33 : decode cX6_bestLevel 33 = .ok (.ireturn, 1) := by decide +kernel
theorem dX6_bestLevel_34 : decode cX6_bestLevel 34 = .ok (.bipush (-6), 2) := by decide +kernel
theorem dX6_bestLevel_36 : decode cX6_bestLevel 36 = .ok (.istore 4, 2) := by decide +kernel
theorem dX6_bestLevel_38 : decode cX6_bestLevel 38 = .ok (.sipush 601, 3) := by decide +kernel
theorem dX6_bestLevel_41 : decode cX6_bestLevel 41 = .ok (.istore 5, 2) := by decide +kernel
theorem dX6_bestLevel_43 : decode cX6_bestLevel 43 = .ok (.iconst 0, 1) := by decide +kernel
theorem dX6_bestLevel_44 : decode cX6_bestLevel 44 = .ok (.istore 6, 2) := by decide +kernel
theorem dX6_bestLevel_46 : decode cX6_bestLevel 46 = .ok (.iload 6, 2) := by decide +kernel
theorem dX6_bestLevel_48 : decode cX6_bestLevel 48 = .ok (.aload_n 0, 1) := by decide +kernel
theorem dX6_bestLevel_49 : decode cX6_bestLevel 49 = .ok (.getfield 10, 3) := by decide +kernel
theorem dX6_bestLevel_52 : decode cX6_bestLevel 52 = .ok (.getfield 44, 3) := by decide +kernel
theorem dX6_bestLevel_55 : decode cX6_bestLevel 55 = .ok (.if_icmp .ge 77, 3) := by decide +kernel
theorem dX6_bestLevel_58 : decode cX6_bestLevel 58 = .ok (.aload_n 0, 1) := by decide +kernel
theorem dX6_bestLevel_59 : decode cX6_bestLevel 59 = .ok (.getfield 10, 3) := by decide +kernel
theorem dX6_bestLevel_62 : decode cX6_bestLevel 62 = .ok (.aload_n 3, 1) := by decide +kernel
theorem dX6_bestLevel_63 : decode cX6_bestLevel 63 = .ok (.iload_n 2, 1) := by decide +kernel
theorem dX6_bestLevel_64 : decode cX6_bestLevel 64 = .ok (.iload 6, 2) := by decide +kernel
theorem dX6_bestLevel_66 : decode cX6_bestLevel 66 = .ok (.invokevirtual 185, 3) := by decide +kernel
theorem dX6_bestLevel_69 : decode cX6_bestLevel 69 = .ok (.ifCond .ne 57, 3) := by decide +kernel
theorem dX6_bestLevel_72 : decode cX6_bestLevel 72 = .ok (.aload_n 0, 1) := by decide +kernel
theorem dX6_bestLevel_73 : decode cX6_bestLevel 73 = .ok (.getfield 16, 3) := by decide +kernel
theorem dX6_bestLevel_76 : decode cX6_bestLevel 76 = .ok (.aload_n 0, 1) := by decide +kernel
theorem dX6_bestLevel_77 : decode cX6_bestLevel 77 = .ok (.getfield 10, 3) := by decide +kernel
theorem dX6_bestLevel_80 : decode cX6_bestLevel 80 = .ok (.invokevirtual 188, 3) := by decide +kernel
theorem dX6_bestLevel_83 : decode cX6_bestLevel 83 = .ok (.aload_n 0, 1) := by decide +kernel
theorem dX6_bestLevel_84 : decode cX6_bestLevel 84 = .ok (.getfield 16, 3) := by decide +kernel
theorem dX6_bestLevel_87 : decode cX6_bestLevel 87 = .ok (.aload_n 3, 1) := by decide +kernel
theorem dX6_bestLevel_88 : decode cX6_bestLevel 88 = .ok (.iload_n 2, 1) := by decide +kernel
theorem dX6_bestLevel_89 : decode cX6_bestLevel 89 = .ok (.iload 6, 2) := by decide +kernel
theorem dX6_bestLevel_91 : decode cX6_bestLevel 91 = .ok (.invokevirtual 82, 3) := by decide +kernel
theorem dX6_bestLevel_94 : decode cX6_bestLevel 94 = .ok (.istore 7, 2) := by decide +kernel
theorem dX6_bestLevel_96 : decode cX6_bestLevel 96 = .ok (.aload_n 0, 1) := by decide +kernel
theorem dX6_bestLevel_97 : decode cX6_bestLevel 97 = .ok (.getfield 16, 3) := by decide +kernel
theorem dX6_bestLevel_100 : decode cX6_bestLevel 100 = .ok (.iload 7, 2) := by decide +kernel
theorem dX6_bestLevel_102 : decode cX6_bestLevel 102 = .ok (.iload 5, 2) := by decide +kernel
theorem dX6_bestLevel_104 : decode cX6_bestLevel 104 = .ok (.iconst 1, 1) := by decide +kernel
theorem dX6_bestLevel_105 : decode cX6_bestLevel 105 = .ok (.isub, 1) := by decide +kernel
theorem dX6_bestLevel_106 : decode cX6_bestLevel 106 = .ok (.invokevirtual 191, 3) := by decide +kernel
theorem dX6_bestLevel_109 : decode cX6_bestLevel 109 = .ok (.istore 8, 2) := by decide +kernel
theorem dX6_bestLevel_111 : decode cX6_bestLevel 111 = .ok (.iload 8, 2) := by decide +kernel
theorem dX6_bestLevel_113 : decode cX6_bestLevel 113 = .ok (.bipush (-6), 2) := by decide +kernel
theorem dX6_bestLevel_115 : decode cX6_bestLevel 115 = .ok (.if_icmp .eq 11, 3) := by decide +kernel
theorem dX6_bestLevel_118 : decode cX6_bestLevel 118 = .ok (.iload 6, 2) := by decide +kernel
theorem dX6_bestLevel_120 : decode cX6_bestLevel 120 = .ok (.istore 4, 2) := by decide +kernel
theorem dX6_bestLevel_122 : decode cX6_bestLevel 122 = .ok (.iload 8, 2) := by decide +kernel
theorem dX6_bestLevel_124 : decode cX6_bestLevel 124 = .ok (.istore 5, 2) := by decide +kernel
theorem dX6_bestLevel_126 : decode cX6_bestLevel 126 = .ok (.iinc 6 1, 3) := by decide +kernel
theorem dX6_bestLevel_129 : decode cX6_bestLevel 129 = .ok (.goto (-83), 3) := by decide +kernel
theorem dX6_bestLevel_132 : decode cX6_bestLevel 132 = .ok (.iload 4, 2) := by decide +kernel
theorem dX6_bestLevel_134 : decode cX6_bestLevel 134 = .ok (.ireturn, 1) := by decide +kernel
theorem dX6_lands_0 : decode cX6_lands 0 = .ok (.iload_n 1, 1) := by decide +kernel
theorem dX6_lands_1 : decode cX6_lands 1 = .ok (.ifCond .ge 5, 3) := by decide +kernel
theorem dX6_lands_4 : decode cX6_lands 4 = .ok (.iconst (-1), 1) := by decide +kernel
theorem dX6_lands_5 : decode cX6_lands 5 = .ok (.ireturn, 1) := by decide +kernel
theorem dX6_lands_6 : decode cX6_lands 6 = .ok (.aload_n 0, 1) := by decide +kernel
theorem dX6_lands_7 : decode cX6_lands 7 = .ok (.getfield 16, 3) := by decide +kernel
theorem dX6_lands_10 : decode cX6_lands 10 = .ok (.aload_n 0, 1) := by decide +kernel
theorem dX6_lands_11 : decode cX6_lands 11 = .ok (.getfield 10, 3) := by decide +kernel
theorem dX6_lands_14 : decode cX6_lands 14 = .ok (.invokevirtual 188, 3) := by decide +kernel
theorem dX6_lands_17 : decode cX6_lands 17 = .ok (.iconst 0, 1) := by decide +kernel
theorem dX6_lands_18 : decode cX6_lands 18 = .ok (.istore_n 2, 1) := by decide +kernel
theorem dX6_lands_19 : decode cX6_lands 19 = .ok (.iconst 0, 1) := by decide +kernel
theorem dX6_lands_20 : decode cX6_lands 20 = .ok (.istore_n 3, 1) := by decide +kernel
theorem dX6_lands_21 : decode cX6_lands 21 = .ok (.iload_n 3, 1) := by decide +kernel
theorem dX6_lands_22 : decode cX6_lands 22 = .ok (.sipush 600, 3) := by decide +kernel
theorem dX6_lands_25 : decode cX6_lands 25 = .ok (.if_icmp .ge 46, 3) := by decide +kernel
theorem dX6_lands_28 : decode cX6_lands 28 = .ok (.aload_n 0, 1) := by decide +kernel
theorem dX6_lands_29 : decode cX6_lands 29 = .ok (.getfield 16, 3) := by decide +kernel
theorem dX6_lands_32 : decode cX6_lands 32 = .ok (.invokevirtual 195, 3) := by decide +kernel
theorem dX6_lands_35 : decode cX6_lands 35 = .ok (.ifCond .eq 36, 3) := by decide +kernel
theorem dX6_lands_38 : decode cX6_lands 38 = .ok (.aload_n 0, 1) := by decide +kernel
theorem dX6_lands_39 : decode cX6_lands 39 = .ok (.getfield 16, 3) := by decide +kernel
theorem dX6_lands_42 : decode cX6_lands 42 = .ok (.invokevirtual 198, 3) := by decide +kernel
theorem dX6_lands_45 : decode cX6_lands 45 = .ok (.istore 4, 2) := by decide +kernel
theorem dX6_lands_47 : decode cX6_lands 47 = .ok (.iload 4, 2) := by decide +kernel
theorem dX6_lands_49 : decode cX6_lands 49 = .ok (.bipush (-6), 2) := by decide +kernel
theorem dX6_lands_51 : decode cX6_lands 51 = .ok (.if_icmp .eq 14, 3) := by decide +kernel
theorem dX6_lands_54 : decode cX6_lands 54 = .ok (.iload_n 2, 1) := by decide +kernel
theorem dX6_lands_55 : decode cX6_lands 55 = .ok (.iload_n 1, 1) := by decide +kernel
theorem dX6_lands_56 : decode cX6_lands 56 = .ok (.if_icmp .ne 6, 3) := by decide +kernel
theorem dX6_lands_59 : decode cX6_lands 59 = .ok (.iload 4, 2) := by decide +kernel
theorem dX6_lands_61 : decode cX6_lands 61 = .ok (.ireturn, 1) := by decide +kernel
theorem dX6_lands_62 : decode cX6_lands 62 = .ok (.iinc 2 1, 3) := by decide +kernel
theorem dX6_lands_65 : decode cX6_lands 65 = .ok (.iinc 3 1, 3) := by decide +kernel
theorem dX6_lands_68 : decode cX6_lands 68 = .ok (.goto (-47), 3) := by decide +kernel
theorem dX6_lands_71 : decode cX6_lands 71 = .ok (.bipush (-6), 2) := by decide +kernel
theorem dX6_lands_73 : decode cX6_lands 73 = .ok (.ireturn, 1) := by decide +kernel
theorem dX6_append_0 : decode cX6_append 0 = .ok (.iload_n 1, 1) := by decide +kernel
theorem dX6_append_1 : decode cX6_append 1 = .ok (.bipush 32, 2) := by decide +kernel
theorem dX6_append_3 : decode cX6_append 3 = .ok (.if_icmp .lt 9, 3) := by decide +kernel
theorem dX6_append_6 : decode cX6_append 6 = .ok (.iload_n 1, 1) := by decide +kernel
theorem dX6_append_7 : decode cX6_append 7 = .ok (.bipush 126, 2) := by decide +kernel
theorem dX6_append_9 : decode cX6_append 9 = .ok (.if_icmp .le 6, 3) := by decide +kernel
theorem dX6_append_12 : decode cX6_append 12 = .ok (.bipush (-2), 2) := by decide +kernel
theorem dX6_append_14 : decode cX6_append 14 = .ok (.ireturn, 1) := by decide +kernel
theorem dX6_append_15 : decode cX6_append 15 = .ok (.aload_n 0, 1) := by decide +kernel
theorem dX6_append_16 : decode cX6_append 16 = .ok (.getfield 36, 3) := by decide +kernel
theorem dX6_append_19 : decode cX6_append 19 = .ok (.iload_n 1, 1) := by decide +kernel
theorem dX6_append_20 : decode cX6_append 20 = .ok (.i2c, 1) := by decide +kernel
theorem dX6_append_21 : decode cX6_append 21 = .ok (.invokevirtual 201, 3) := by decide +kernel
theorem dX6_append_24 : decode cX6_append 24 = .ok (.ifCond .eq 13, 3) := by decide +kernel
theorem dX6_append_27 : decode cX6_append 27 = .ok (.aload_n 0, 1) := by decide +kernel
theorem dX6_append_28 : decode cX6_append 28 = .ok (.getfield 36, 3) := by decide +kernel
theorem dX6_append_31 : decode cX6_append 31 = .ok (.getfield 205, 3) := by decide +kernel
theorem dX6_append_34 : decode cX6_append 34 = .ok (.goto 5, 3) := by decide +kernel
theorem dX6_append_37 : decode cX6_append 37 = .ok (.bipush (-4), 2) := by decide +kernel
theorem dX6_append_39 : decode cX6_append 39 = .ok (.ireturn, 1) := by decide +kernel
theorem dX6_clearText_0 : decode cX6_clearText 0 = .ok (.aload_n 0, 1) := by decide +kernel
theorem dX6_clearText_1 : decode cX6_clearText 1 = .ok (.getfield 36, 3) := by decide +kernel
theorem dX6_clearText_4 : decode cX6_clearText 4 = .ok (.getfield 205, 3) := by decide +kernel
theorem dX6_clearText_7 : decode cX6_clearText 7 = .ok (.istore_n 1, 1) := by decide +kernel
theorem dX6_clearText_8 : decode cX6_clearText 8 = .ok (.aload_n 0, 1) := by decide +kernel
theorem dX6_clearText_9 : decode cX6_clearText 9 = .ok (.getfield 36, 3) := by decide +kernel
theorem dX6_clearText_12 : decode cX6_clearText 12 = .ok (.iconst 0, 1) := by decide +kernel
theorem dX6_clearText_13 : decode cX6_clearText 13 = .ok (.putfield 205, 3) := by decide +kernel
theorem dX6_clearText_16 : decode cX6_clearText 16 = .ok (.iload_n 1, 1) := by decide +kernel
theorem dX6_clearText_17 : decode cX6_clearText 17 = .ok (.ireturn, 1) := by decide +kernel
theorem dX6_faultPosition_0 : decode cX6_faultPosition 0 = .ok (.aload_n 0, 1) := by decide +kernel
theorem dX6_faultPosition_1 : decode cX6_faultPosition 1 = .ok (.getfield 36, 3) := by decide +kernel
theorem dX6_faultPosition_4 : decode cX6_faultPosition 4 = .ok (.invokevirtual 208, 3) := by decide +kernel
theorem dX6_faultPosition_7 : decode cX6_faultPosition 7 = .ok (.ireturn, 1) := by decide +kernel
theorem dX6_run_0 : decode cX6_run 0 = .ok (.aload_n 0, 1) := by decide +kernel
theorem dX6_run_1 : decode cX6_run 1 = .ok (.getfield 36, 3) := by decide +kernel
theorem dX6_run_4 : decode cX6_run 4 = .ok (.invokevirtual 208, 3) := by decide +kernel
theorem dX6_run_7 : decode cX6_run 7 = .ok (.bipush (-6), 2) := by decide +kernel
theorem dX6_run_9 : decode cX6_run 9 = .ok (.if_icmp .eq 6, 3) := by decide +kernel
theorem dX6_run_12 : decode cX6_run 12 = .ok (.bipush (-3), 2) := by decide +kernel
theorem dX6_run_14 : decode cX6_run 14 = .ok (.ireturn, 1) := by decide +kernel
theorem dX6_run_15 : decode cX6_run 15 = .ok (.aload_n 0, 1) := by decide +kernel
theorem dX6_run_16 : decode cX6_run 16 = .ok (.getfield 22, 3) := by decide +kernel
theorem dX6_run_19 : decode cX6_run 19 = .ok (.aload_n 0, 1) := by decide +kernel
theorem dX6_run_20 : decode cX6_run 20 = .ok (.getfield 10, 3) := by decide +kernel
theorem dX6_run_23 : decode cX6_run 23 = .ok (.invokevirtual 40, 3) := by decide +kernel
theorem dX6_run_26 : decode cX6_run 26 = .ok (.aload_n 0, 1) := by decide +kernel
theorem dX6_run_27 : decode cX6_run 27 = .ok (.getfield 36, 3) := by decide +kernel
theorem dX6_run_30 : decode cX6_run 30 = .ok (.invokevirtual 211, 3) := by decide +kernel
theorem dX6_run_33 : decode cX6_run 33 = .ok (.iconst 0, 1) := by decide +kernel
theorem dX6_run_34 : decode cX6_run 34 = .ok (.istore_n 1, 1) := by decide +kernel
theorem dX6_run_35 : decode cX6_run 35 = .ok (.iload_n 1, 1) := by decide +kernel
theorem dX6_run_36 : decode cX6_run 36 = .ok (.bipush 80, 2) := by decide +kernel
theorem dX6_run_38 : decode cX6_run 38 = .ok (.if_icmp .ge 26, 3) := by decide +kernel
theorem dX6_run_41 : decode cX6_run 41 = .ok (.aload_n 0, 1) := by decide +kernel
theorem dX6_run_42 : decode cX6_run 42 = .ok (.getfield 36, 3) := by decide +kernel
theorem dX6_run_45 : decode cX6_run 45 = .ok (.invokevirtual 214, 3) := by decide +kernel
theorem dX6_run_48 : decode cX6_run 48 = .ok (.ifCond .eq 16, 3) := by decide +kernel
theorem dX6_run_51 : decode cX6_run 51 = .ok (.aload_n 0, 1) := by decide +kernel
theorem dX6_run_52 : decode cX6_run 52 = .ok (.invokevirtual 217, 3) := by decide +kernel
theorem dX6_run_55 : decode cX6_run 55 = .ok (.ifCond .lt 9, 3) := by decide +kernel
theorem dX6_run_58 : decode cX6_run 58 = .ok (.iinc 1 1, 3) := by decide +kernel
theorem dX6_run_61 : decode cX6_run 61 = .ok (.goto (-26), 3) := by decide +kernel
theorem dX6_run_64 : decode cX6_run 64 = .ok (.iload_n 1, 1) := by decide +kernel
theorem dX6_run_65 : decode cX6_run 65 = .ok (.ireturn, 1) := by decide +kernel
theorem dX6_undo_0 : decode cX6_undo 0 = .ok (.aload_n 0, 1) := by decide +kernel
theorem dX6_undo_1 : decode cX6_undo 1 = .ok (.getfield 22, 3) := by decide +kernel
theorem dX6_undo_4 : decode cX6_undo 4 = .ok (.aload_n 0, 1) := by decide +kernel
theorem dX6_undo_5 : decode cX6_undo 5 = .ok (.getfield 10, 3) := by decide +kernel
theorem dX6_undo_8 : decode cX6_undo 8 = .ok (.invokevirtual 220, 3) := by decide +kernel
theorem dX6_undo_11 : decode cX6_undo 11 = .ok (.ifCond .eq 13, 3) := by decide +kernel
theorem dX6_undo_14 : decode cX6_undo 14 = .ok (.aload_n 0, 1) := by decide +kernel
theorem dX6_undo_15 : decode cX6_undo 15 = .ok (.getfield 22, 3) := by decide +kernel
theorem dX6_undo_18 : decode cX6_undo 18 = .ok (.getfield 148, 3) := by decide +kernel
theorem dX6_undo_21 : decode cX6_undo 21 = .ok (.goto 5, 3) := by decide +kernel
theorem dX6_undo_24 : decode cX6_undo 24 = .ok (.bipush (-3), 2) := by decide +kernel
theorem dX6_undo_26 : decode cX6_undo 26 = .ok (.ireturn, 1) := by decide +kernel
theorem dX6_keep_0 : decode cX6_keep 0 = .ok (.aload_n 0, 1) := by decide +kernel
theorem dX6_keep_1 : decode cX6_keep 1 = .ok (.getfield 29, 3) := by decide +kernel
theorem dX6_keep_4 : decode cX6_keep 4 = .ok (.iload_n 1, 1) := by decide +kernel
theorem dX6_keep_5 : decode cX6_keep 5 = .ok (.aload_n 0, 1) := by decide +kernel
theorem dX6_keep_6 : decode cX6_keep 6 = .ok (.getfield 10, 3) := by decide +kernel
theorem dX6_keep_9 : decode cX6_keep 9 = .ok (.invokevirtual 224, 3) := by decide +kernel
theorem dX6_keep_12 : decode cX6_keep 12 = .ok (.ifCond .eq 13, 3) := by decide +kernel
theorem dX6_keep_15 : decode cX6_keep 15 = .ok (.aload_n 0, 1) := by decide +kernel
theorem dX6_keep_16 : decode cX6_keep 16 = .ok (.getfield 10, 3) := by decide +kernel
theorem dX6_keep_19 : decode cX6_keep 19 = .ok (.getfield 136, 3) := by decide +kernel
theorem dX6_keep_22 : decode cX6_keep 22 = .ok (.goto 4, 3) := by decide +kernel
theorem dX6_keep_25 : decode cX6_keep 25 = .ok (.iconst (-1), 1) := by decide +kernel
theorem dX6_keep_26 : decode cX6_keep 26 = .ok (.ireturn, 1) := by decide +kernel
theorem dX6_restore_0 : decode cX6_restore 0 = .ok (.iload_n 1, 1) := by decide +kernel
theorem dX6_restore_1 : decode cX6_restore 1 = .ok (.ifCond .lt 8, 3) := by decide +kernel
theorem dX6_restore_4 : decode cX6_restore 4 = .ok (.iload_n 1, 1) := by decide +kernel
theorem dX6_restore_5 : decode cX6_restore 5 = .ok (.iconst 2, 1) := by decide +kernel
theorem dX6_restore_6 : decode cX6_restore 6 = .ok (.if_icmp .lt 5, 3) := by decide +kernel
theorem dX6_restore_9 : decode cX6_restore 9 = .ok (.iconst (-1), 1) := by decide +kernel
theorem dX6_restore_10 : decode cX6_restore 10 = .ok (.ireturn, 1) := by decide +kernel
theorem dX6_restore_11 : decode cX6_restore 11 = .ok (.aload_n 0, 1) := by decide +kernel
theorem dX6_restore_12 : decode cX6_restore 12 = .ok (.getfield 29, 3) := by decide +kernel
theorem dX6_restore_15 : decode cX6_restore 15 = .ok (.iload_n 1, 1) := by decide +kernel
theorem dX6_restore_16 : decode cX6_restore 16 = .ok (.invokevirtual 228, 3) := by decide +kernel
theorem dX6_restore_19 : decode cX6_restore 19 = .ok (.astore_n 2, 1) := by decide +kernel
theorem dX6_restore_20 : decode cX6_restore 20 = .ok (.aload_n 2, 1) := by decide +kernel
theorem dX6_restore_21 : decode cX6_restore 21 = .ok (.ifnonnull 6, 3) := by decide +kernel
theorem dX6_restore_24 : decode cX6_restore 24 = .ok (.bipush (-3), 2) := by decide +kernel
theorem dX6_restore_26 : decode cX6_restore 26 = .ok (.ireturn, 1) := by decide +kernel
theorem dX6_restore_27 : decode cX6_restore 27 = .ok (.aload_n 0, 1) := by decide +kernel
theorem dX6_restore_28 : decode cX6_restore 28 = .ok (.getfield 22, 3) := by decide +kernel
theorem dX6_restore_31 : decode cX6_restore 31 = .ok (.aload_n 0, 1) := by decide +kernel
theorem dX6_restore_32 : decode cX6_restore 32 = .ok (.getfield 10, 3) := by decide +kernel
theorem dX6_restore_35 : decode cX6_restore 35 = .ok (.invokevirtual 40, 3) := by decide +kernel
theorem dX6_restore_38 : decode cX6_restore 38 = .ok (.aload_n 0, 1) := by decide +kernel
theorem dX6_restore_39 : decode cX6_restore 39 = .ok (.getfield 10, 3) := by decide +kernel
theorem dX6_restore_42 : decode cX6_restore 42 = .ok (.aload_n 2, 1) := by decide +kernel
theorem dX6_restore_43 : decode cX6_restore 43 = .ok (.invokevirtual 188, 3) := by decide +kernel
theorem dX6_restore_46 : decode cX6_restore 46 = .ok (.aload_n 0, 1) := by decide +kernel
theorem dX6_restore_47 : decode cX6_restore 47 = .ok (.getfield 10, 3) := by decide +kernel
theorem dX6_restore_50 : decode cX6_restore 50 = .ok (.getfield 136, 3) := by decide +kernel
theorem dX6_restore_53 : decode cX6_restore 53 = .ok (.ireturn, 1) := by decide +kernel
theorem dX6_checksum_0 : decode cX6_checksum 0 = .ok (.ldc2_w 232, 3) := by decide +kernel
theorem dX6_checksum_3 : decode cX6_checksum 3 = .ok (.lstore_n 1, 1) := by decide +kernel
theorem dX6_checksum_4 : decode cX6_checksum 4 = .ok (.iconst 0, 1) := by decide +kernel
theorem dX6_checksum_5 : decode cX6_checksum 5 = .ok (.istore_n 3, 1) := by decide +kernel
theorem dX6_checksum_6 : decode cX6_checksum 6 = .ok (.iload_n 3, 1) := by decide +kernel
theorem dX6_checksum_7 : decode cX6_checksum 7 = .ok (.bipush 18, 2) := by decide +kernel
theorem dX6_checksum_9 : decode cX6_checksum 9 = .ok (.if_icmp .ge 22, 3) := by decide +kernel
theorem dX6_checksum_12 : decode cX6_checksum 12 = .ok (.ldc2_w 234, 3) := by decide +kernel
theorem dX6_checksum_15 : decode cX6_checksum 15 = .ok (.lload_n 1, 1) := by decide +kernel
theorem dX6_checksum_16 : decode cX6_checksum 16 = .ok (.lmul, 1) := by decide +kernel
theorem dX6_checksum_17 : decode cX6_checksum 17 = .ok (.aload_n 0, 1) := by decide +kernel
theorem dX6_checksum_18 : decode cX6_checksum 18 = .ok (.iload_n 3, 1) := by decide +kernel
theorem dX6_checksum_19 : decode cX6_checksum 19 = .ok (.invokevirtual 236, 3) := by decide +kernel
theorem dX6_checksum_22 : decode cX6_checksum 22 = .ok (.i2l, 1) := by decide +kernel
theorem dX6_checksum_23 : decode cX6_checksum 23 = .ok (.ladd, 1) := by decide +kernel
theorem dX6_checksum_24 : decode cX6_checksum 24 = .ok (.lstore_n 1, 1) := by decide +kernel
theorem dX6_checksum_25 : decode cX6_checksum 25 = .ok (.iinc 3 1, 3) := by decide +kernel
theorem dX6_checksum_28 : decode cX6_checksum 28 = .ok (.goto (-22), 3) := by decide +kernel
theorem dX6_checksum_31 : decode cX6_checksum 31 = .ok (.aload_n 0, 1) := by decide +kernel
theorem dX6_checksum_32 : decode cX6_checksum 32 = .ok (.invokevirtual 169, 3) := by decide +kernel
theorem dX6_checksum_35 : decode cX6_checksum 35 = .ok (.iconst 0, 1) := by decide +kernel
theorem dX6_checksum_36 : decode cX6_checksum 36 = .ok (.istore_n 3, 1) := by decide +kernel
theorem dX6_checksum_37 : decode cX6_checksum 37 = .ok (.iload_n 3, 1) := by decide +kernel
theorem dX6_checksum_38 : decode cX6_checksum 38 = .ok (.aload_n 0, 1) := by decide +kernel
theorem dX6_checksum_39 : decode cX6_checksum 39 = .ok (.getfield 10, 3) := by decide +kernel
theorem dX6_checksum_42 : decode cX6_checksum 42 = .ok (.getfield 239, 3) := by decide +kernel
theorem dX6_checksum_45 : decode cX6_checksum 45 = .ok (.if_icmp .ge 66, 3) := by decide +kernel
theorem dX6_checksum_48 : decode cX6_checksum 48 = .ok (.iconst 0, 1) := by decide +kernel
theorem dX6_checksum_49 : decode cX6_checksum 49 = .ok (.istore 4, 2) := by decide +kernel
theorem dX6_checksum_51 : decode cX6_checksum 51 = .ok (.iload 4, 2) := by decide +kernel
theorem dX6_checksum_53 : decode cX6_checksum 53 = .ok (.bipush 8, 2) := by decide +kernel
theorem dX6_checksum_55 : decode cX6_checksum 55 = .ok (.if_icmp .ge 24, 3) := by decide +kernel
theorem dX6_checksum_58 : decode cX6_checksum 58 = .ok (.ldc2_w 234, 3) := by decide +kernel
theorem dX6_checksum_61 : decode cX6_checksum 61 = .ok (.lload_n 1, 1) := by decide +kernel
theorem dX6_checksum_62 : decode cX6_checksum 62 = .ok (.lmul, 1) := by decide +kernel
theorem dX6_checksum_63 : decode cX6_checksum 63 = .ok (.aload_n 0, 1) := by decide +kernel
theorem dX6_checksum_64 : decode cX6_checksum 64 = .ok (.iload_n 3, 1) := by decide +kernel
theorem dX6_checksum_65 : decode cX6_checksum 65 = .ok (.iload 4, 2) := by decide +kernel
theorem dX6_checksum_67 : decode cX6_checksum 67 = .ok (.invokevirtual 242, 3) := by decide +kernel
theorem dX6_checksum_70 : decode cX6_checksum 70 = .ok (.i2l, 1) := by decide +kernel
theorem dX6_checksum_71 : decode cX6_checksum 71 = .ok (.ladd, 1) := by decide +kernel
theorem dX6_checksum_72 : decode cX6_checksum 72 = .ok (.lstore_n 1, 1) := by decide +kernel
theorem dX6_checksum_73 : decode cX6_checksum 73 = .ok (.iinc 4 1, 3) := by decide +kernel
theorem dX6_checksum_76 : decode cX6_checksum 76 = .ok (.goto (-25), 3) := by decide +kernel
theorem dX6_checksum_79 : decode cX6_checksum 79 = .ok (.ldc2_w 234, 3) := by decide +kernel
theorem dX6_checksum_82 : decode cX6_checksum 82 = .ok (.lload_n 1, 1) := by decide +kernel
theorem dX6_checksum_83 : decode cX6_checksum 83 = .ok (.lmul, 1) := by decide +kernel
theorem dX6_checksum_84 : decode cX6_checksum 84 = .ok (.aload_n 0, 1) := by decide +kernel
theorem dX6_checksum_85 : decode cX6_checksum 85 = .ok (.iload_n 3, 1) := by decide +kernel
theorem dX6_checksum_86 : decode cX6_checksum 86 = .ok (.invokevirtual 245, 3) := by decide +kernel
theorem dX6_checksum_89 : decode cX6_checksum 89 = .ok (.i2l, 1) := by decide +kernel
theorem dX6_checksum_90 : decode cX6_checksum 90 = .ok (.ladd, 1) := by decide +kernel
theorem dX6_checksum_91 : decode cX6_checksum 91 = .ok (.lstore_n 1, 1) := by decide +kernel
theorem dX6_checksum_92 : decode cX6_checksum 92 = .ok (.ldc2_w 234, 3) := by decide +kernel
theorem dX6_checksum_95 : decode cX6_checksum 95 = .ok (.lload_n 1, 1) := by decide +kernel
theorem dX6_checksum_96 : decode cX6_checksum 96 = .ok (.lmul, 1) := by decide +kernel
theorem dX6_checksum_97 : decode cX6_checksum 97 = .ok (.aload_n 0, 1) := by decide +kernel
theorem dX6_checksum_98 : decode cX6_checksum 98 = .ok (.iload_n 3, 1) := by decide +kernel
theorem dX6_checksum_99 : decode cX6_checksum 99 = .ok (.invokevirtual 172, 3) := by decide +kernel
theorem dX6_checksum_102 : decode cX6_checksum 102 = .ok (.i2l, 1) := by decide +kernel
theorem dX6_checksum_103 : decode cX6_checksum 103 = .ok (.ladd, 1) := by decide +kernel
theorem dX6_checksum_104 : decode cX6_checksum 104 = .ok (.lstore_n 1, 1) := by decide +kernel
theorem dX6_checksum_105 : decode cX6_checksum 105 = .ok (.iinc 3 1, 3) := by decide +kernel
theorem dX6_checksum_108 : decode cX6_checksum 108 = .ok (.goto (-71), 3) := by decide +kernel
theorem dX6_checksum_111 : decode cX6_checksum 111 = .ok (.iconst 0, 1) := by decide +kernel
theorem dX6_checksum_112 : decode cX6_checksum 112 = .ok (.istore_n 3, 1) := by decide +kernel
theorem dX6_checksum_113 : decode cX6_checksum 113 = .ok (.iload_n 3, 1) := by decide +kernel
theorem dX6_checksum_114 : decode cX6_checksum 114 = .ok (.aload_n 0, 1) := by decide +kernel
theorem dX6_checksum_115 : decode cX6_checksum 115 = .ok (.getfield 10, 3) := by decide +kernel
theorem dX6_checksum_118 : decode cX6_checksum 118 = .ok (.getfield 44, 3) := by decide +kernel
theorem dX6_checksum_121 : decode cX6_checksum 121 = .ok (.if_icmp .ge 22, 3) := by decide +kernel
theorem dX6_checksum_124 : decode cX6_checksum 124 = .ok (.ldc2_w 234, 3) := by decide +kernel
theorem dX6_checksum_127 : decode cX6_checksum 127 = .ok (.lload_n 1, 1) := by decide +kernel
theorem dX6_checksum_128 : decode cX6_checksum 128 = .ok (.lmul, 1) := by decide +kernel
theorem dX6_checksum_129 : decode cX6_checksum 129 = .ok (.aload_n 0, 1) := by decide +kernel
theorem dX6_checksum_130 : decode cX6_checksum 130 = .ok (.iload_n 3, 1) := by decide +kernel
theorem dX6_checksum_131 : decode cX6_checksum 131 = .ok (.invokevirtual 248, 3) := by decide +kernel
theorem dX6_checksum_134 : decode cX6_checksum 134 = .ok (.i2l, 1) := by decide +kernel
theorem dX6_checksum_135 : decode cX6_checksum 135 = .ok (.ladd, 1) := by decide +kernel
theorem dX6_checksum_136 : decode cX6_checksum 136 = .ok (.lstore_n 1, 1) := by decide +kernel
theorem dX6_checksum_137 : decode cX6_checksum 137 = .ok (.iinc 3 1, 3) := by decide +kernel
theorem dX6_checksum_140 : decode cX6_checksum 140 = .ok (.goto (-27), 3) := by decide +kernel
theorem dX6_checksum_143 : decode cX6_checksum 143 = .ok (.lload_n 1, 1) := by decide +kernel
theorem dX6_checksum_144 : decode cX6_checksum 144 = .ok (.lreturn, 1) := by decide +kernel
theorem dX6_asNumber_0 : decode cX6_asNumber 0 = .ok (.iload_n 0, 1) := by decide +kernel
theorem dX6_asNumber_1 : decode cX6_asNumber 1 = .ok (.ifCond .eq 7, 3) := by decide +kernel
theorem dX6_asNumber_4 : decode cX6_asNumber 4 = .ok (.iconst 1, 1) := by decide +kernel
theorem dX6_asNumber_5 : decode cX6_asNumber 5 = .ok (.goto 4, 3) := by decide +kernel
theorem dX6_asNumber_8 : decode cX6_asNumber 8 = .ok (.iconst 0, 1) := by decide +kernel
theorem dX6_asNumber_9 : decode cX6_asNumber 9 = .ok (.ireturn, 1) := by decide +kernel
theorem dX6_isFuel_0 : decode cX6_isFuel 0 = .ok (.iload_n 0, 1) := by decide +kernel
theorem dX6_isFuel_1 : decode cX6_isFuel 1 = .ok (.iconst 1, 1) := by decide +kernel
theorem dX6_isFuel_2 : decode cX6_isFuel 2 = .ok (.if_icmp .lt 14, 3) := by decide +kernel
theorem dX6_isFuel_5 : decode cX6_isFuel 5 = .ok (.iload_n 0, 1) := by decide +kernel
theorem dX6_isFuel_6 : decode cX6_isFuel 6 = .ok (.sipush 9999, 3) := by decide +kernel
theorem dX6_isFuel_9 : decode cX6_isFuel 9 = .ok (.if_icmp .gt 7, 3) := by decide +kernel
theorem dX6_isFuel_12 : decode cX6_isFuel 12 = .ok (.iconst 1, 1) := by decide +kernel
theorem dX6_isFuel_13 : decode cX6_isFuel 13 = .ok (.goto 4, 3) := by decide +kernel
theorem dX6_isFuel_16 : decode cX6_isFuel 16 = .ok (.iconst 0, 1) := by decide +kernel
theorem dX6_isFuel_17 : decode cX6_isFuel 17 = .ok (.ireturn, 1) := by decide +kernel
theorem dX6_tellHolding_0 : decode cX6_tellHolding 0 = .ok (.iload_n 1, 1) := by decide +kernel
theorem dX6_tellHolding_1 : decode cX6_tellHolding 1 = .ok (.iconst 3, 1) := by decide +kernel
theorem dX6_tellHolding_2 : decode cX6_tellHolding 2 = .ok (.if_icmp .ne 8, 3) := by decide +kernel
theorem dX6_tellHolding_5 : decode cX6_tellHolding 5 = .ok (.aload_n 0, 1) := by decide +kernel
theorem dX6_tellHolding_6 : decode cX6_tellHolding 6 = .ok (.getfield 160, 3) := by decide +kernel
theorem dX6_tellHolding_9 : decode cX6_tellHolding 9 = .ok (.ireturn, 1) := by decide +kernel
theorem dX6_tellHolding_10 : decode cX6_tellHolding 10 = .ok (.iload_n 1, 1) := by decide +kernel
theorem dX6_tellHolding_11 : decode cX6_tellHolding 11 = .ok (.iconst 4, 1) := by decide +kernel
theorem dX6_tellHolding_12 : decode cX6_tellHolding 12 = .ok (.if_icmp .ne 10, 3) := by decide +kernel
theorem dX6_tellHolding_15 : decode cX6_tellHolding 15 = .ok (.aload_n 0, 1) := by decide +kernel
theorem dX6_tellHolding_16 : decode cX6_tellHolding 16 = .ok (.getfield 250, 3) := by decide +kernel
theorem dX6_tellHolding_19 : decode cX6_tellHolding 19 = .ok (.goto 10, 3) := by decide +kernel
theorem dX6_tellHolding_22 : decode cX6_tellHolding 22 = .ok (.aload_n 0, 1) := by decide +kernel
theorem dX6_tellHolding_23 : decode cX6_tellHolding 23 = .ok (.getfield 166, 3) := by decide +kernel
theorem dX6_tellHolding_26 : decode cX6_tellHolding 26 = .ok (.invokestatic 65, 3) := by decide +kernel
theorem dX6_tellHolding_29 : decode cX6_tellHolding 29 = .ok (.ireturn, 1) := by decide +kernel
theorem dX6_tellNumberOfAircraft_0 : decode cX6_tellNumberOfAircraft 0 = .ok (.iload_n 1, 1) := by decide +kernel
theorem dX6_tellNumberOfAircraft_1 : decode cX6_tellNumberOfAircraft 1 = .ok (.iconst 3, 1) := by decide +kernel
theorem dX6_tellNumberOfAircraft_2 : decode cX6_tellNumberOfAircraft 2 = .ok (.if_icmp .ne 11, 3) := by decide +kernel
theorem dX6_tellNumberOfAircraft_5 : decode cX6_tellNumberOfAircraft 5 = .ok (.aload_n 0, 1) := by decide +kernel
theorem dX6_tellNumberOfAircraft_6 : decode cX6_tellNumberOfAircraft 6 = .ok (.getfield 10, 3) := by decide +kernel
theorem dX6_tellNumberOfAircraft_9 : decode cX6_tellNumberOfAircraft 9 = .ok (.getfield 239, 3) := by decide +kernel
theorem dX6_tellNumberOfAircraft_12 : decode cX6_tellNumberOfAircraft 12 = .ok (.ireturn, 1) := by decide +kernel
theorem dX6_tellNumberOfAircraft_13 : decode cX6_tellNumberOfAircraft 13 = .ok (.aload_n 0, 1) := by decide +kernel
theorem dX6_tellNumberOfAircraft_14 : decode cX6_tellNumberOfAircraft 14 = .ok (.getfield 10, 3) := by decide +kernel
theorem dX6_tellNumberOfAircraft_17 : decode cX6_tellNumberOfAircraft 17 = .ok (.iload_n 1, 1) := by decide +kernel
theorem dX6_tellNumberOfAircraft_18 : decode cX6_tellNumberOfAircraft 18 = .ok (.iconst 4, 1) := by decide +kernel
theorem dX6_tellNumberOfAircraft_19 : decode cX6_tellNumberOfAircraft 19 = .ok (.if_icmp .ne 7, 3) := by decide +kernel
theorem dX6_tellNumberOfAircraft_22 : decode cX6_tellNumberOfAircraft 22 = .ok (.iconst 0, 1) := by decide +kernel
theorem dX6_tellNumberOfAircraft_23 : decode cX6_tellNumberOfAircraft 23 = .ok (.goto 13, 3) := by decide +kernel
theorem dX6_tellNumberOfAircraft_26 : decode cX6_tellNumberOfAircraft 26 = .ok (.iload_n 1, 1) := by decide +kernel
theorem dX6_tellNumberOfAircraft_27 : decode cX6_tellNumberOfAircraft 27 = .ok (.iconst 5, 1) := by decide +kernel
theorem dX6_tellNumberOfAircraft_28 : decode cX6_tellNumberOfAircraft 28 = .ok (.if_icmp .ne 7, 3) := by decide +kernel
theorem dX6_tellNumberOfAircraft_31 : decode cX6_tellNumberOfAircraft 31 = .ok (.iconst 1, 1) := by decide +kernel
theorem dX6_tellNumberOfAircraft_32 : decode cX6_tellNumberOfAircraft 32 = .ok (.goto 4, 3) := by decide +kernel
theorem dX6_tellNumberOfAircraft_35 : decode cX6_tellNumberOfAircraft 35 = .ok (.iconst 2, 1) := by decide +kernel
theorem dX6_tellNumberOfAircraft_36 : decode cX6_tellNumberOfAircraft 36 = .ok (.invokevirtual 253, 3) := by decide +kernel
theorem dX6_tellNumberOfAircraft_39 : decode cX6_tellNumberOfAircraft 39 = .ok (.ireturn, 1) := by decide +kernel
theorem dX6_tellFuel_0 : decode cX6_tellFuel 0 = .ok (.iload_n 1, 1) := by decide +kernel
theorem dX6_tellFuel_1 : decode cX6_tellFuel 1 = .ok (.bipush 12, 2) := by decide +kernel
theorem dX6_tellFuel_3 : decode cX6_tellFuel 3 = .ok (.if_icmp .ne 11, 3) := by decide +kernel
theorem dX6_tellFuel_6 : decode cX6_tellFuel 6 = .ok (.aload_n 0, 1) := by decide +kernel
theorem dX6_tellFuel_7 : decode cX6_tellFuel 7 = .ok (.getfield 10, 3) := by decide +kernel
theorem dX6_tellFuel_10 : decode cX6_tellFuel 10 = .ok (.getfield 256, 3) := by decide +kernel
theorem dX6_tellFuel_13 : decode cX6_tellFuel 13 = .ok (.ireturn, 1) := by decide +kernel
theorem dX6_tellFuel_14 : decode cX6_tellFuel 14 = .ok (.iload_n 1, 1) := by decide +kernel
theorem dX6_tellFuel_15 : decode cX6_tellFuel 15 = .ok (.bipush 13, 2) := by decide +kernel
theorem dX6_tellFuel_17 : decode cX6_tellFuel 17 = .ok (.if_icmp .ne 11, 3) := by decide +kernel
theorem dX6_tellFuel_20 : decode cX6_tellFuel 20 = .ok (.aload_n 0, 1) := by decide +kernel
theorem dX6_tellFuel_21 : decode cX6_tellFuel 21 = .ok (.getfield 10, 3) := by decide +kernel
theorem dX6_tellFuel_24 : decode cX6_tellFuel 24 = .ok (.getfield 259, 3) := by decide +kernel
theorem dX6_tellFuel_27 : decode cX6_tellFuel 27 = .ok (.ireturn, 1) := by decide +kernel
theorem dX6_tellFuel_28 : decode cX6_tellFuel 28 = .ok (.iload_n 1, 1) := by decide +kernel
theorem dX6_tellFuel_29 : decode cX6_tellFuel 29 = .ok (.bipush 14, 2) := by decide +kernel
theorem dX6_tellFuel_31 : decode cX6_tellFuel 31 = .ok (.if_icmp .ne 13, 3) := by decide +kernel
theorem dX6_tellFuel_34 : decode cX6_tellFuel 34 = .ok (.aload_n 0, 1) := by decide +kernel
theorem dX6_tellFuel_35 : decode cX6_tellFuel 35 = .ok (.getfield 10, 3) := by decide +kernel
theorem dX6_tellFuel_38 : decode cX6_tellFuel 38 = .ok (.getfield 262, 3) := by decide +kernel
theorem dX6_tellFuel_41 : decode cX6_tellFuel 41 = .ok (.goto 10, 3) := by decide +kernel
theorem dX6_tellFuel_44 : decode cX6_tellFuel 44 = .ok (.aload_n 0, 1) := by decide +kernel
theorem dX6_tellFuel_45 : decode cX6_tellFuel 45 = .ok (.getfield 10, 3) := by decide +kernel
theorem dX6_tellFuel_48 : decode cX6_tellFuel 48 = .ok (.getfield 265, 3) := by decide +kernel
theorem dX6_tellFuel_51 : decode cX6_tellFuel 51 = .ok (.ireturn, 1) := by decide +kernel
theorem dX6_checkEntry_0 : decode cX6_checkEntry 0 = .ok (.aload_n 1, 1) := by decide +kernel
theorem dX6_checkEntry_1 : decode cX6_checkEntry 1 = .ok (.ifnull 14, 3) := by decide +kernel
theorem dX6_checkEntry_4 : decode cX6_checkEntry 4 = .ok (.aload_n 0, 1) := by decide +kernel
theorem dX6_checkEntry_5 : decode cX6_checkEntry 5 = .ok (.getfield 10, 3) := by decide +kernel
theorem dX6_checkEntry_8 : decode cX6_checkEntry 8 = .ok (.iload_n 3, 1) := by decide +kernel
theorem dX6_checkEntry_9 : decode cX6_checkEntry 9 = .ok (.invokevirtual 95, 3) := by decide +kernel
theorem dX6_checkEntry_12 : decode cX6_checkEntry 12 = .ok (.ifCond .ne 5, 3) := by decide +kernel
theorem dX6_checkEntry_15 : decode cX6_checkEntry 15 = .ok (.iconst (-1), 1) := by decide +kernel
theorem dX6_checkEntry_16 : decode cX6_checkEntry 16 = .ok (.ireturn, 1) := by decide +kernel
theorem dX6_checkEntry_17 : decode cX6_checkEntry 17 = .ok (.iload_n 2, 1) := by decide +kernel
theorem dX6_checkEntry_18 : decode cX6_checkEntry 18 = .ok (.invokestatic 179, 3) := by decide +kernel
theorem dX6_checkEntry_21 : decode cX6_checkEntry 21 = .ok (.ifCond .ne 6, 3) := by decide +kernel
theorem dX6_checkEntry_24 : decode cX6_checkEntry 24 = .ok (.bipush (-2), 2) := by decide +kernel
theorem dX6_checkEntry_26 : decode cX6_checkEntry 26 = .ok (.ireturn, 1) := by decide +kernel
theorem dX6_checkEntry_27 : decode cX6_checkEntry 27 = .ok (.aload_n 0, 1) := by decide +kernel
theorem dX6_checkEntry_28 : decode cX6_checkEntry 28 = .ok (.getfield 10, 3) := by decide +kernel
theorem dX6_checkEntry_31 : decode cX6_checkEntry 31 = .ok (.invokevirtual 182, 3) := by decide +kernel
theorem dX6_checkEntry_34 : decode cX6_checkEntry 34 = .ok (.ifCond .eq 6, 3) := by decide +kernel
theorem dX6_checkEntry_37 : decode cX6_checkEntry 37 = .ok (.bipush (-4), 2) := by decide +kernel
theorem dX6_checkEntry_39 : decode cX6_checkEntry 39 = .ok (.ireturn, 1) := by decide +kernel
theorem dX6_checkEntry_40 : decode cX6_checkEntry 40 = .ok (.aload_n 0, 1) := by decide +kernel
theorem dX6_checkEntry_41 : decode cX6_checkEntry 41 = .ok (.getfield 10, 3) := by decide +kernel
theorem dX6_checkEntry_44 : decode cX6_checkEntry 44 = .ok (.aload_n 1, 1) := by decide +kernel
theorem dX6_checkEntry_45 : decode cX6_checkEntry 45 = .ok (.iload_n 2, 1) := by decide +kernel
theorem dX6_checkEntry_46 : decode cX6_checkEntry 46 = .ok (.iload_n 3, 1) := by decide +kernel
theorem dX6_checkEntry_47 : decode cX6_checkEntry 47 = .ok (.invokevirtual 185, 3) := by decide +kernel
theorem dX6_checkEntry_50 : decode cX6_checkEntry 50 = .ok (.istore 4, 2) := by decide +kernel
theorem dX6_checkEntry_52 : decode cX6_checkEntry 52 = .ok (.iload 4, 2) := by decide +kernel
theorem dX6_checkEntry_54 : decode cX6_checkEntry 54 = .ok (.ifCond .ne 5, 3) := by decide +kernel
theorem dX6_checkEntry_57 : decode cX6_checkEntry 57 = .ok (.iconst 0, 1) := by decide +kernel
theorem dX6_checkEntry_58 : decode cX6_checkEntry 58 = .ok (.ireturn, 1) := by decide +kernel
theorem dX6_checkEntry_59 : decode cX6_checkEntry 59 = .ok (.aload_n 0, 1) := by decide +kernel
theorem dX6_checkEntry_60 : decode cX6_checkEntry 60 = .ok (.getfield 10, 3) := by decide +kernel
theorem dX6_checkEntry_63 : decode cX6_checkEntry 63 = .ok (.iload 4, 2) := by decide +kernel
theorem dX6_checkEntry_65 : decode cX6_checkEntry 65 = .ok (.putfield 145, 3) := by decide +kernel
theorem dX6_checkEntry_68 : decode cX6_checkEntry 68 = .ok (.bipush (-5), 2) := by decide +kernel
theorem dX6_checkEntry_70 : decode cX6_checkEntry 70 = .ok (.ireturn, 1) := by decide +kernel
theorem dX6_checkCall_0 : decode cX6_checkCall 0 = .ok (.aload_n 0, 1) := by decide +kernel
theorem dX6_checkCall_1 : decode cX6_checkCall 1 = .ok (.getfield 10, 3) := by decide +kernel
theorem dX6_checkCall_4 : decode cX6_checkCall 4 = .ok (.iload_n 1, 1) := by decide +kernel
theorem dX6_checkCall_5 : decode cX6_checkCall 5 = .ok (.invokevirtual 108, 3) := by decide +kernel
theorem dX6_checkCall_8 : decode cX6_checkCall 8 = .ok (.astore_n 2, 1) := by decide +kernel
theorem dX6_checkCall_9 : decode cX6_checkCall 9 = .ok (.aload_n 2, 1) := by decide +kernel
theorem dX6_checkCall_10 : decode cX6_checkCall 10 = .ok (.ifnonnull 5, 3) := by decide +kernel
theorem dX6_checkCall_13 : decode cX6_checkCall 13 = .ok (.iconst (-1), 1) := by decide +kernel
theorem dX6_checkCall_14 : decode cX6_checkCall 14 = .ok (.ireturn, 1) := by decide +kernel
theorem dX6_checkCall_15 : decode cX6_checkCall 15 = .ok (.aload_n 2, 1) := by decide +kernel
theorem dX6_checkCall_16 : decode cX6_checkCall 16 = .ok (.invokevirtual 126, 3) := by decide +kernel
theorem dX6_checkCall_19 : decode cX6_checkCall 19 = .ok (.ifCond .eq 21, 3) := by decide +kernel
theorem dX6_checkCall_22 : decode cX6_checkCall 22 = .ok (.aload_n 2, 1) := by decide +kernel
theorem dX6_checkCall_23 : decode cX6_checkCall 23 = .ok (.getfield 160, 3) := by decide +kernel
theorem dX6_checkCall_26 : decode cX6_checkCall 26 = .ok (.ifCond .le 14, 3) := by decide +kernel
theorem dX6_checkCall_29 : decode cX6_checkCall 29 = .ok (.aload_n 2, 1) := by decide +kernel
theorem dX6_checkCall_30 : decode cX6_checkCall 30 = .ok (.getfield 166, 3) := by decide +kernel
theorem dX6_checkCall_33 : decode cX6_checkCall 33 = .ok (.ifCond .ne 7, 3) := by decide +kernel
theorem dX6_checkCall_36 : decode cX6_checkCall 36 = .ok (.iconst 0, 1) := by decide +kernel
theorem dX6_checkCall_37 : decode cX6_checkCall 37 = .ok (.goto 5, 3) := by decide +kernel
theorem dX6_checkCall_40 : decode cX6_checkCall 40 = .ok (.bipush (-3), 2) := by decide +kernel
theorem dX6_checkCall_42 : decode cX6_checkCall 42 = .ok (.ireturn, 1) := by decide +kernel
theorem dX6_carryOutStrip_0 : decode cX6_carryOutStrip 0 = .ok (.aload_n 0, 1) := by decide +kernel
theorem dX6_carryOutStrip_1 : decode cX6_carryOutStrip 1 = .ok (.getfield 36, 3) := by decide +kernel
theorem dX6_carryOutStrip_4 : decode cX6_carryOutStrip 4 = .ok (.getfield 268, 3) := by decide +kernel
theorem dX6_carryOutStrip_7 : decode cX6_carryOutStrip 7 = .ok (.lookupswitch 146 #[(43, 33), (99, 96), (116, 131)], 33) := by decide +kernel
theorem dX6_carryOutStrip_40 : decode cX6_carryOutStrip 40 = .ok (.aload_n 0, 1) := by decide +kernel
theorem dX6_carryOutStrip_41 : decode cX6_carryOutStrip 41 = .ok (.aload_n 0, 1) := by decide +kernel
theorem dX6_carryOutStrip_42 : decode cX6_carryOutStrip 42 = .ok (.getfield 36, 3) := by decide +kernel
theorem dX6_carryOutStrip_45 : decode cX6_carryOutStrip 45 = .ok (.getfield 272, 3) := by decide +kernel
theorem dX6_carryOutStrip_48 : decode cX6_carryOutStrip 48 = .ok (.aload_n 0, 1) := by decide +kernel
theorem dX6_carryOutStrip_49 : decode cX6_carryOutStrip 49 = .ok (.getfield 36, 3) := by decide +kernel
theorem dX6_carryOutStrip_52 : decode cX6_carryOutStrip 52 = .ok (.getfield 273, 3) := by decide +kernel
theorem dX6_carryOutStrip_55 : decode cX6_carryOutStrip 55 = .ok (.aload_n 0, 1) := by decide +kernel
theorem dX6_carryOutStrip_56 : decode cX6_carryOutStrip 56 = .ok (.getfield 36, 3) := by decide +kernel
theorem dX6_carryOutStrip_59 : decode cX6_carryOutStrip 59 = .ok (.getfield 274, 3) := by decide +kernel
theorem dX6_carryOutStrip_62 : decode cX6_carryOutStrip 62 = .ok (.invokevirtual 78, 3) := by decide +kernel
theorem dX6_carryOutStrip_65 : decode cX6_carryOutStrip 65 = .ok (.istore_n 1, 1) := by decide +kernel
theorem dX6_carryOutStrip_66 : decode cX6_carryOutStrip 66 = .ok (.iload_n 1, 1) := by decide +kernel
theorem dX6_carryOutStrip_67 : decode cX6_carryOutStrip 67 = .ok (.ifCond .eq 7, 3) := by decide +kernel
theorem dX6_carryOutStrip_70 : decode cX6_carryOutStrip 70 = .ok (.iload_n 1, 1) := by decide +kernel
theorem dX6_carryOutStrip_71 : decode cX6_carryOutStrip 71 = .ok (.goto 31, 3) := by decide +kernel
theorem dX6_carryOutStrip_74 : decode cX6_carryOutStrip 74 = .ok (.aload_n 0, 1) := by decide +kernel
theorem dX6_carryOutStrip_75 : decode cX6_carryOutStrip 75 = .ok (.getfield 10, 3) := by decide +kernel
theorem dX6_carryOutStrip_78 : decode cX6_carryOutStrip 78 = .ok (.aload_n 0, 1) := by decide +kernel
theorem dX6_carryOutStrip_79 : decode cX6_carryOutStrip 79 = .ok (.getfield 36, 3) := by decide +kernel
theorem dX6_carryOutStrip_82 : decode cX6_carryOutStrip 82 = .ok (.getfield 272, 3) := by decide +kernel
theorem dX6_carryOutStrip_85 : decode cX6_carryOutStrip 85 = .ok (.aload_n 0, 1) := by decide +kernel
theorem dX6_carryOutStrip_86 : decode cX6_carryOutStrip 86 = .ok (.getfield 36, 3) := by decide +kernel
theorem dX6_carryOutStrip_89 : decode cX6_carryOutStrip 89 = .ok (.getfield 273, 3) := by decide +kernel
theorem dX6_carryOutStrip_92 : decode cX6_carryOutStrip 92 = .ok (.aload_n 0, 1) := by decide +kernel
theorem dX6_carryOutStrip_93 : decode cX6_carryOutStrip 93 = .ok (.getfield 36, 3) := by decide +kernel
theorem dX6_carryOutStrip_96 : decode cX6_carryOutStrip 96 = .ok (.getfield 274, 3) := by decide +kernel
theorem dX6_carryOutStrip_99 : decode cX6_carryOutStrip 99 = .ok (.invokevirtual 82, 3) := by decide +kernel
theorem dX6_carryOutStrip_102 : decode cX6_carryOutStrip 102 = .ok (.ireturn, 1) := by decide +kernel
theorem dX6_carryOutStrip_103 : decode cX6_carryOutStrip 103 = .ok (.aload_n 0, 1) := by decide +kernel
theorem dX6_carryOutStrip_104 : decode cX6_carryOutStrip 104 = .ok (.aload_n 0, 1) := by decide +kernel
theorem dX6_carryOutStrip_105 : decode cX6_carryOutStrip 105 = .ok (.getfield 36, 3) := by decide +kernel
theorem dX6_carryOutStrip_108 : decode cX6_carryOutStrip 108 = .ok (.getfield 274, 3) := by decide +kernel
theorem dX6_carryOutStrip_111 : decode cX6_carryOutStrip 111 = .ok (.invokevirtual 85, 3) := by decide +kernel
theorem dX6_carryOutStrip_114 : decode cX6_carryOutStrip 114 = .ok (.istore_n 1, 1) := by decide +kernel
theorem dX6_carryOutStrip_115 : decode cX6_carryOutStrip 115 = .ok (.iload_n 1, 1) := by decide +kernel
theorem dX6_carryOutStrip_116 : decode cX6_carryOutStrip 116 = .ok (.ifCond .eq 7, 3) := by decide +kernel
theorem dX6_carryOutStrip_119 : decode cX6_carryOutStrip 119 = .ok (.iload_n 1, 1) := by decide +kernel
theorem dX6_carryOutStrip_120 : decode cX6_carryOutStrip 120 = .ok (.goto 17, 3) := by decide +kernel
theorem dX6_carryOutStrip_123 : decode cX6_carryOutStrip 123 = .ok (.aload_n 0, 1) := by decide +kernel
theorem dX6_carryOutStrip_124 : decode cX6_carryOutStrip 124 = .ok (.getfield 10, 3) := by decide +kernel
theorem dX6_carryOutStrip_127 : decode cX6_carryOutStrip 127 = .ok (.aload_n 0, 1) := by decide +kernel
theorem dX6_carryOutStrip_128 : decode cX6_carryOutStrip 128 = .ok (.getfield 36, 3) := by decide +kernel
theorem dX6_carryOutStrip_131 : decode cX6_carryOutStrip 131 = .ok (.getfield 274, 3) := by decide +kernel
theorem dX6_carryOutStrip_134 : decode cX6_carryOutStrip 134 = .ok (.invokevirtual 89, 3) := by decide +kernel
theorem dX6_carryOutStrip_137 : decode cX6_carryOutStrip 137 = .ok (.ireturn, 1) := by decide +kernel
theorem dX6_carryOutStrip_138 : decode cX6_carryOutStrip 138 = .ok (.aload_n 0, 1) := by decide +kernel
theorem dX6_carryOutStrip_139 : decode cX6_carryOutStrip 139 = .ok (.getfield 10, 3) := by decide +kernel
theorem dX6_carryOutStrip_142 : decode cX6_carryOutStrip 142 = .ok (.aload_n 0, 1) := by decide +kernel
theorem dX6_carryOutStrip_143 : decode cX6_carryOutStrip 143 = .ok (.getfield 36, 3) := by decide +kernel
theorem dX6_carryOutStrip_146 : decode cX6_carryOutStrip 146 = .ok (.getfield 274, 3) := by decide +kernel
theorem dX6_carryOutStrip_149 : decode cX6_carryOutStrip 149 = .ok (.invokevirtual 92, 3) := by decide +kernel
theorem dX6_carryOutStrip_152 : decode cX6_carryOutStrip 152 = .ok (.ireturn, 1) := by decide +kernel
theorem dX6_carryOutStrip_153 : decode cX6_carryOutStrip 153 = .ok (.aload_n 0, 1) := by decide +kernel
theorem dX6_carryOutStrip_154 : decode cX6_carryOutStrip 154 = .ok (.getfield 10, 3) := by decide +kernel
theorem dX6_carryOutStrip_157 : decode cX6_carryOutStrip 157 = .ok (.aload_n 0, 1) := by decide +kernel
theorem dX6_carryOutStrip_158 : decode cX6_carryOutStrip 158 = .ok (.getfield 36, 3) := by decide +kernel
theorem dX6_carryOutStrip_161 : decode cX6_carryOutStrip 161 = .ok (.getfield 268, 3) := by decide +kernel
theorem dX6_carryOutStrip_164 : decode cX6_carryOutStrip 164 = .ok (.bipush 111, 2) := by decide +kernel
theorem dX6_carryOutStrip_166 : decode cX6_carryOutStrip 166 = .ok (.if_icmp .ne 7, 3) := by decide +kernel
theorem dX6_carryOutStrip_169 : decode cX6_carryOutStrip 169 = .ok (.iconst 1, 1) := by decide +kernel
theorem dX6_carryOutStrip_170 : decode cX6_carryOutStrip 170 = .ok (.goto 4, 3) := by decide +kernel
theorem dX6_carryOutStrip_173 : decode cX6_carryOutStrip 173 = .ok (.iconst 0, 1) := by decide +kernel
theorem dX6_carryOutStrip_174 : decode cX6_carryOutStrip 174 = .ok (.putfield 61, 3) := by decide +kernel
theorem dX6_carryOutStrip_177 : decode cX6_carryOutStrip 177 = .ok (.iconst 0, 1) := by decide +kernel
theorem dX6_carryOutStrip_178 : decode cX6_carryOutStrip 178 = .ok (.ireturn, 1) := by decide +kernel
theorem dX6_forecast_0 : decode cX6_forecast 0 = .ok (.aload_n 0, 1) := by decide +kernel
theorem dX6_forecast_1 : decode cX6_forecast 1 = .ok (.getfield 16, 3) := by decide +kernel
theorem dX6_forecast_4 : decode cX6_forecast 4 = .ok (.aload_n 0, 1) := by decide +kernel
theorem dX6_forecast_5 : decode cX6_forecast 5 = .ok (.getfield 10, 3) := by decide +kernel
theorem dX6_forecast_8 : decode cX6_forecast 8 = .ok (.invokevirtual 188, 3) := by decide +kernel
theorem dX6_forecast_11 : decode cX6_forecast 11 = .ok (.iconst 0, 1) := by decide +kernel
theorem dX6_forecast_12 : decode cX6_forecast 12 = .ok (.istore_n 1, 1) := by decide +kernel
theorem dX6_forecast_13 : decode cX6_forecast 13 = .ok (.iload_n 1, 1) := by decide +kernel
theorem dX6_forecast_14 : decode cX6_forecast 14 = .ok (.sipush 600, 3) := by decide +kernel
theorem dX6_forecast_17 : decode cX6_forecast 17 = .ok (.if_icmp .ge 27, 3) := by decide +kernel
theorem dX6_forecast_20 : decode cX6_forecast 20 = .ok (.aload_n 0, 1) := by decide +kernel
theorem dX6_forecast_21 : decode cX6_forecast 21 = .ok (.getfield 16, 3) := by decide +kernel
theorem dX6_forecast_24 : decode cX6_forecast 24 = .ok (.invokevirtual 195, 3) := by decide +kernel
theorem dX6_forecast_27 : decode cX6_forecast 27 = .ok (.ifCond .eq 17, 3) := by decide +kernel
theorem dX6_forecast_30 : decode cX6_forecast 30 = .ok (.aload_n 0, 1) := by decide +kernel
theorem dX6_forecast_31 : decode cX6_forecast 31 = .ok (.getfield 16, 3) := by decide +kernel
theorem dX6_forecast_34 : decode cX6_forecast 34 = .ok (.invokevirtual 198, 3) := by decide +kernel
theorem dX6_forecast_37 : decode cX6_forecast 37 = .ok (.pop, 1) := by decide +kernel
theorem dX6_forecast_38 : decode cX6_forecast 38 = .ok (.iinc 1 1, 3) := by decide +kernel
theorem dX6_forecast_41 : decode cX6_forecast 41 = .ok (.goto (-28), 3) := by decide +kernel
theorem dX6_forecast_44 : decode cX6_forecast 44 = .ok (.return_, 1) := by decide +kernel
theorem dX6_forecastMinutes_0 : decode cX6_forecastMinutes 0 = .ok (.aload_n 0, 1) := by decide +kernel
theorem dX6_forecastMinutes_1 : decode cX6_forecastMinutes 1 = .ok (.getfield 10, 3) := by decide +kernel
theorem dX6_forecastMinutes_4 : decode cX6_forecastMinutes 4 = .ok (.iload_n 1, 1) := by decide +kernel
theorem dX6_forecastMinutes_5 : decode cX6_forecastMinutes 5 = .ok (.invokevirtual 108, 3) := by decide +kernel
theorem dX6_forecastMinutes_8 : decode cX6_forecastMinutes 8 = .ok (.astore_n 2, 1) := by decide +kernel
theorem dX6_forecastMinutes_9 : decode cX6_forecastMinutes 9 = .ok (.aload_n 0, 1) := by decide +kernel
theorem dX6_forecastMinutes_10 : decode cX6_forecastMinutes 10 = .ok (.getfield 16, 3) := by decide +kernel
theorem dX6_forecastMinutes_13 : decode cX6_forecastMinutes 13 = .ok (.iload_n 1, 1) := by decide +kernel
theorem dX6_forecastMinutes_14 : decode cX6_forecastMinutes 14 = .ok (.invokevirtual 108, 3) := by decide +kernel
theorem dX6_forecastMinutes_17 : decode cX6_forecastMinutes 17 = .ok (.astore_n 3, 1) := by decide +kernel
theorem dX6_forecastMinutes_18 : decode cX6_forecastMinutes 18 = .ok (.aload_n 2, 1) := by decide +kernel
theorem dX6_forecastMinutes_19 : decode cX6_forecastMinutes 19 = .ok (.ifnull 15, 3) := by decide +kernel
theorem dX6_forecastMinutes_22 : decode cX6_forecastMinutes 22 = .ok (.aload_n 3, 1) := by decide +kernel
theorem dX6_forecastMinutes_23 : decode cX6_forecastMinutes 23 = .ok (.ifnull 11, 3) := by decide +kernel
theorem dX6_forecastMinutes_26 : decode cX6_forecastMinutes 26 = .ok (.aload_n 3, 1) := by decide +kernel
theorem dX6_forecastMinutes_27 : decode cX6_forecastMinutes 27 = .ok (.getfield 119, 3) := by decide +kernel
theorem dX6_forecastMinutes_30 : decode cX6_forecastMinutes 30 = .ok (.iconst 1, 1) := by decide +kernel
theorem dX6_forecastMinutes_31 : decode cX6_forecastMinutes 31 = .ok (.if_icmp .eq 6, 3) := by decide +kernel
theorem dX6_forecastMinutes_34 : decode cX6_forecastMinutes 34 = .ok (.bipush (-6), 2) := by decide +kernel
theorem dX6_forecastMinutes_36 : decode cX6_forecastMinutes 36 = .ok (.ireturn, 1) := by decide +kernel
theorem dX6_forecastMinutes_37 : decode cX6_forecastMinutes 37 = .ok (.aload_n 2, 1) := by decide +kernel
theorem dX6_forecastMinutes_38 : decode cX6_forecastMinutes 38 = .ok (.getfield 119, 3) := by decide +kernel
theorem dX6_forecastMinutes_41 : decode cX6_forecastMinutes 41 = .ok (.iconst 1, 1) := by decide +kernel
theorem dX6_forecastMinutes_42 : decode cX6_forecastMinutes 42 = .ok (.if_icmp .ne 7, 3) := by decide +kernel
theorem dX6_forecastMinutes_45 : decode cX6_forecastMinutes 45 = .ok (.iconst 0, 1) := by decide +kernel
theorem dX6_forecastMinutes_46 : decode cX6_forecastMinutes 46 = .ok (.goto 17, 3) := by decide +kernel
theorem dX6_forecastMinutes_49 : decode cX6_forecastMinutes 49 = .ok (.aload_n 3, 1) := by decide +kernel
theorem dX6_forecastMinutes_50 : decode cX6_forecastMinutes 50 = .ok (.getfield 129, 3) := by decide +kernel
theorem dX6_forecastMinutes_53 : decode cX6_forecastMinutes 53 = .ok (.aload_n 0, 1) := by decide +kernel
theorem dX6_forecastMinutes_54 : decode cX6_forecastMinutes 54 = .ok (.getfield 10, 3) := by decide +kernel
theorem dX6_forecastMinutes_57 : decode cX6_forecastMinutes 57 = .ok (.getfield 136, 3) := by decide +kernel
theorem dX6_forecastMinutes_60 : decode cX6_forecastMinutes 60 = .ok (.isub, 1) := by decide +kernel
theorem dX6_forecastMinutes_61 : decode cX6_forecastMinutes 61 = .ok (.iconst 1, 1) := by decide +kernel
theorem dX6_forecastMinutes_62 : decode cX6_forecastMinutes 62 = .ok (.iadd, 1) := by decide +kernel
theorem dX6_forecastMinutes_63 : decode cX6_forecastMinutes 63 = .ok (.ireturn, 1) := by decide +kernel
end
section
theorem dX7_init_0 : decode cX7_init 0 = .ok (.aload_n 0, 1) := by decide +kernel
theorem dX7_init_1 : decode cX7_init 1 = .ok (.invokespecial 1, 3) := by decide +kernel
theorem dX7_init_4 : decode cX7_init 4 = .ok (.aload_n 0, 1) := by decide +kernel
theorem dX7_init_5 : decode cX7_init 5 = .ok (.sipush 154, 3) := by decide +kernel
theorem dX7_init_8 : decode cX7_init 8 = .ok (.newarray .int, 2) := by decide +kernel
theorem dX7_init_10 : decode cX7_init 10 = .ok (.putfield 7, 3) := by decide +kernel
theorem dX7_init_13 : decode cX7_init 13 = .ok (.aload_n 0, 1) := by decide +kernel
theorem dX7_init_14 : decode cX7_init 14 = .ok (.sipush 770, 3) := by decide +kernel
theorem dX7_init_17 : decode cX7_init 17 = .ok (.newarray .int, 2) := by decide +kernel
theorem dX7_init_19 : decode cX7_init 19 = .ok (.putfield 13, 3) := by decide +kernel
theorem dX7_init_22 : decode cX7_init 22 = .ok (.aload_n 0, 1) := by decide +kernel
theorem dX7_init_23 : decode cX7_init 23 = .ok (.sipush 154, 3) := by decide +kernel
theorem dX7_init_26 : decode cX7_init 26 = .ok (.newarray .int, 2) := by decide +kernel
theorem dX7_init_28 : decode cX7_init 28 = .ok (.putfield 16, 3) := by decide +kernel
theorem dX7_init_31 : decode cX7_init 31 = .ok (.aload_n 0, 1) := by decide +kernel
theorem dX7_init_32 : decode cX7_init 32 = .ok (.sipush 308, 3) := by decide +kernel
theorem dX7_init_35 : decode cX7_init 35 = .ok (.newarray .int, 2) := by decide +kernel
theorem dX7_init_37 : decode cX7_init 37 = .ok (.putfield 19, 3) := by decide +kernel
theorem dX7_init_40 : decode cX7_init 40 = .ok (.aload_n 0, 1) := by decide +kernel
theorem dX7_init_41 : decode cX7_init 41 = .ok (.iconst 2, 1) := by decide +kernel
theorem dX7_init_42 : decode cX7_init 42 = .ok (.newarray .boolean, 2) := by decide +kernel
theorem dX7_init_44 : decode cX7_init 44 = .ok (.putfield 22, 3) := by decide +kernel
theorem dX7_init_47 : decode cX7_init 47 = .ok (.aload_n 0, 1) := by decide +kernel
theorem dX7_init_48 : decode cX7_init 48 = .ok (.bipush 80, 2) := by decide +kernel
theorem dX7_init_50 : decode cX7_init 50 = .ok (.newarray .int, 2) := by decide +kernel
theorem dX7_init_52 : decode cX7_init 52 = .ok (.putfield 26, 3) := by decide +kernel
theorem dX7_init_55 : decode cX7_init 55 = .ok (.aload_n 0, 1) := by decide +kernel
theorem dX7_init_56 : decode cX7_init 56 = .ok (.iconst 4, 1) := by decide +kernel
theorem dX7_init_57 : decode cX7_init 57 = .ok (.newarray .int, 2) := by decide +kernel
theorem dX7_init_59 : decode cX7_init 59 = .ok (.putfield 29, 3) := by decide +kernel
theorem dX7_init_62 : decode cX7_init 62 = .ok (.aload_n 0, 1) := by decide +kernel
theorem dX7_init_63 : decode cX7_init 63 = .ok (.iconst 3, 1) := by decide +kernel
theorem dX7_init_64 : decode cX7_init 64 = .ok (.newarray .int, 2) := by decide +kernel
theorem dX7_init_66 : decode cX7_init 66 = .ok (.dup, 1) := by decide +kernel
theorem dX7_init_67 : decode cX7_init 67 = .ok (.iconst 0, 1) := by decide +kernel
theorem dX7_init_68 : decode cX7_init 68 = .ok (.iconst 4, 1) := by decide +kernel
theorem dX7_init_69 : decode cX7_init 69 = .ok (.iastore, 1) := by decide +kernel
theorem dX7_init_70 : decode cX7_init 70 = .ok (.dup, 1) := by decide +kernel
theorem dX7_init_71 : decode cX7_init 71 = .ok (.iconst 1, 1) := by decide +kernel
theorem dX7_init_72 : decode cX7_init 72 = .ok (.bipush 9, 2) := by decide +kernel
theorem dX7_init_74 : decode cX7_init 74 = .ok (.iastore, 1) := by decide +kernel
theorem dX7_init_75 : decode cX7_init 75 = .ok (.dup, 1) := by decide +kernel
theorem dX7_init_76 : decode cX7_init 76 = .ok (.iconst 2, 1) := by decide +kernel
theorem dX7_init_77 : decode cX7_init 77 = .ok (.bipush 18, 2) := by decide +kernel
theorem dX7_init_79 : decode cX7_init 79 = .ok (.iastore, 1) := by decide +kernel
theorem dX7_init_80 : decode cX7_init 80 = .ok (.putfield 32, 3) := by decide +kernel
theorem dX7_init_83 : decode cX7_init 83 = .ok (.aload_n 0, 1) := by decide +kernel
theorem dX7_init_84 : decode cX7_init 84 = .ok (.iconst 3, 1) := by decide +kernel
theorem dX7_init_85 : decode cX7_init 85 = .ok (.newarray .int, 2) := by decide +kernel
theorem dX7_init_87 : decode cX7_init 87 = .ok (.dup, 1) := by decide +kernel
theorem dX7_init_88 : decode cX7_init 88 = .ok (.iconst 0, 1) := by decide +kernel
theorem dX7_init_89 : decode cX7_init 89 = .ok (.bipush 40, 2) := by decide +kernel
theorem dX7_init_91 : decode cX7_init 91 = .ok (.iastore, 1) := by decide +kernel
theorem dX7_init_92 : decode cX7_init 92 = .ok (.dup, 1) := by decide +kernel
theorem dX7_init_93 : decode cX7_init 93 = .ok (.iconst 1, 1) := by decide +kernel
theorem dX7_init_94 : decode cX7_init 94 = .ok (.bipush 100, 2) := by decide +kernel
theorem dX7_init_96 : decode cX7_init 96 = .ok (.iastore, 1) := by decide +kernel
theorem dX7_init_97 : decode cX7_init 97 = .ok (.dup, 1) := by decide +kernel
theorem dX7_init_98 : decode cX7_init 98 = .ok (.iconst 2, 1) := by decide +kernel
theorem dX7_init_99 : decode cX7_init 99 = .ok (.sipush 220, 3) := by decide +kernel
theorem dX7_init_102 : decode cX7_init 102 = .ok (.iastore, 1) := by decide +kernel
theorem dX7_init_103 : decode cX7_init 103 = .ok (.putfield 35, 3) := by decide +kernel
theorem dX7_init_106 : decode cX7_init 106 = .ok (.aload_n 0, 1) := by decide +kernel
theorem dX7_init_107 : decode cX7_init 107 = .ok (.iconst 3, 1) := by decide +kernel
theorem dX7_init_108 : decode cX7_init 108 = .ok (.newarray .int, 2) := by decide +kernel
theorem dX7_init_110 : decode cX7_init 110 = .ok (.dup, 1) := by decide +kernel
theorem dX7_init_111 : decode cX7_init 111 = .ok (.iconst 0, 1) := by decide +kernel
theorem dX7_init_112 : decode cX7_init 112 = .ok (.iconst 2, 1) := by decide +kernel
theorem dX7_init_113 : decode cX7_init 113 = .ok (.iastore, 1) := by decide +kernel
theorem dX7_init_114 : decode cX7_init 114 = .ok (.dup, 1) := by decide +kernel
theorem dX7_init_115 : decode cX7_init 115 = .ok (.iconst 1, 1) := by decide +kernel
theorem dX7_init_116 : decode cX7_init 116 = .ok (.iconst 3, 1) := by decide +kernel
theorem dX7_init_117 : decode cX7_init 117 = .ok (.iastore, 1) := by decide +kernel
theorem dX7_init_118 : decode cX7_init 118 = .ok (.dup, 1) := by decide +kernel
theorem dX7_init_119 : decode cX7_init 119 = .ok (.iconst 2, 1) := by decide +kernel
theorem dX7_init_120 : decode cX7_init 120 = .ok (.iconst 4, 1) := by decide +kernel
theorem dX7_init_121 : decode cX7_init 121 = .ok (.iastore, 1) := by decide +kernel
theorem dX7_init_122 : decode cX7_init 122 = .ok (.putfield 38, 3) := by decide +kernel
theorem dX7_init_125 : decode cX7_init 125 = .ok (.aload_n 0, 1) := by decide +kernel
theorem dX7_init_126 : decode cX7_init 126 = .ok (.getfield 7, 3) := by decide +kernel
theorem dX7_init_129 : decode cX7_init 129 = .ok (.iconst 1, 1) := by decide +kernel
theorem dX7_init_130 : decode cX7_init 130 = .ok (.bipush 10, 2) := by decide +kernel
theorem dX7_init_132 : decode cX7_init 132 = .ok (.iastore, 1) := by decide +kernel
theorem dX7_init_133 : decode cX7_init 133 = .ok (.aload_n 0, 1) := by decide +kernel
theorem dX7_init_134 : decode cX7_init 134 = .ok (.getfield 7, 3) := by decide +kernel
theorem dX7_init_137 : decode cX7_init 137 = .ok (.iconst 2, 1) := by decide +kernel
theorem dX7_init_138 : decode cX7_init 138 = .ok (.iconst 4, 1) := by decide +kernel
theorem dX7_init_139 : decode cX7_init 139 = .ok (.iastore, 1) := by decide +kernel
theorem dX7_init_140 : decode cX7_init 140 = .ok (.aload_n 0, 1) := by decide +kernel
theorem dX7_init_141 : decode cX7_init 141 = .ok (.getfield 7, 3) := by decide +kernel
theorem dX7_init_144 : decode cX7_init 144 = .ok (.iconst 5, 1) := by decide +kernel
theorem dX7_init_145 : decode cX7_init 145 = .ok (.iconst 1, 1) := by decide +kernel
theorem dX7_init_146 : decode cX7_init 146 = .ok (.iastore, 1) := by decide +kernel
theorem dX7_init_147 : decode cX7_init 147 = .ok (.aload_n 0, 1) := by decide +kernel
theorem dX7_init_148 : decode cX7_init 148 = .ok (.getfield 7, 3) := by decide +kernel
theorem dX7_init_151 : decode cX7_init 151 = .ok (.bipush 6, 2) := by decide +kernel
theorem dX7_init_153 : decode cX7_init 153 = .ok (.iconst 1, 1) := by decide +kernel
theorem dX7_init_154 : decode cX7_init 154 = .ok (.iastore, 1) := by decide +kernel
theorem dX7_init_155 : decode cX7_init 155 = .ok (.aload_n 0, 1) := by decide +kernel
theorem dX7_init_156 : decode cX7_init 156 = .ok (.getfield 7, 3) := by decide +kernel
theorem dX7_init_159 : decode cX7_init 159 = .ok (.bipush 7, 2) := by decide +kernel
theorem dX7_init_161 : decode cX7_init 161 = .ok (.bipush 16, 2) := by decide +kernel
theorem dX7_init_163 : decode cX7_init 163 = .ok (.iastore, 1) := by decide +kernel
theorem dX7_init_164 : decode cX7_init 164 = .ok (.return_, 1) := by decide +kernel
theorem dX7_in_0 : decode cX7_in 0 = .ok (.iload_n 0, 1) := by decide +kernel
theorem dX7_in_1 : decode cX7_in 1 = .ok (.iload_n 1, 1) := by decide +kernel
theorem dX7_in_2 : decode cX7_in 2 = .ok (.if_icmp .lt 12, 3) := by decide +kernel
theorem dX7_in_5 : decode cX7_in 5 = .ok (.iload_n 0, 1) := by decide +kernel
theorem dX7_in_6 : decode cX7_in 6 = .ok (.iload_n 2, 1) := by decide +kernel
theorem dX7_in_7 : decode cX7_in 7 = .ok (.if_icmp .gt 7, 3) := by decide +kernel
theorem dX7_in_10 : decode cX7_in 10 = .ok (.iconst 1, 1) := by decide +kernel
theorem dX7_in_11 : decode cX7_in 11 = .ok (.goto 4, 3) := by decide +kernel
theorem dX7_in_14 : decode cX7_in 14 = .ok (.iconst 0, 1) := by decide +kernel
theorem dX7_in_15 : decode cX7_in 15 = .ok (.ireturn, 1) := by decide +kernel
theorem dX7_at_0 : decode cX7_at 0 = .ok (.bipush 14, 2) := by decide +kernel
theorem dX7_at_2 : decode cX7_at 2 = .ok (.bipush 7, 2) := by decide +kernel
theorem dX7_at_4 : decode cX7_at 4 = .ok (.iload_n 0, 1) := by decide +kernel
theorem dX7_at_5 : decode cX7_at 5 = .ok (.imul, 1) := by decide +kernel
theorem dX7_at_6 : decode cX7_at 6 = .ok (.iadd, 1) := by decide +kernel
theorem dX7_at_7 : decode cX7_at 7 = .ok (.ireturn, 1) := by decide +kernel
theorem dX7_isLevel_0 : decode cX7_isLevel 0 = .ok (.iload_n 1, 1) := by decide +kernel
theorem dX7_isLevel_1 : decode cX7_isLevel 1 = .ok (.iconst 0, 1) := by decide +kernel
theorem dX7_isLevel_2 : decode cX7_isLevel 2 = .ok (.aload_n 0, 1) := by decide +kernel
theorem dX7_isLevel_3 : decode cX7_isLevel 3 = .ok (.getfield 7, 3) := by decide +kernel
theorem dX7_isLevel_6 : decode cX7_isLevel 6 = .ok (.iconst 1, 1) := by decide +kernel
theorem dX7_isLevel_7 : decode cX7_isLevel 7 = .ok (.iaload, 1) := by decide +kernel
theorem dX7_isLevel_8 : decode cX7_isLevel 8 = .ok (.iconst 1, 1) := by decide +kernel
theorem dX7_isLevel_9 : decode cX7_isLevel 9 = .ok (.isub, 1) := by decide +kernel
theorem dX7_isLevel_10 : decode cX7_isLevel 10 = .ok (.invokestatic 41, 3) := by decide +kernel
theorem dX7_isLevel_13 : decode cX7_isLevel 13 = .ok (.ireturn, 1) := by decide +kernel
theorem dX7_isCraft_0 : decode cX7_isCraft 0 = .ok (.iload_n 1, 1) := by decide +kernel
theorem dX7_isCraft_1 : decode cX7_isCraft 1 = .ok (.iconst 0, 1) := by decide +kernel
theorem dX7_isCraft_2 : decode cX7_isCraft 2 = .ok (.aload_n 0, 1) := by decide +kernel
theorem dX7_isCraft_3 : decode cX7_isCraft 3 = .ok (.getfield 7, 3) := by decide +kernel
theorem dX7_isCraft_6 : decode cX7_isCraft 6 = .ok (.iconst 3, 1) := by decide +kernel
theorem dX7_isCraft_7 : decode cX7_isCraft 7 = .ok (.iaload, 1) := by decide +kernel
theorem dX7_isCraft_8 : decode cX7_isCraft 8 = .ok (.iconst 1, 1) := by decide +kernel
theorem dX7_isCraft_9 : decode cX7_isCraft 9 = .ok (.isub, 1) := by decide +kernel
theorem dX7_isCraft_10 : decode cX7_isCraft 10 = .ok (.invokestatic 41, 3) := by decide +kernel
theorem dX7_isCraft_13 : decode cX7_isCraft 13 = .ok (.ireturn, 1) := by decide +kernel
theorem dX7_puts_0 : decode cX7_puts 0 = .ok (.aload_n 0, 1) := by decide +kernel
theorem dX7_puts_1 : decode cX7_puts 1 = .ok (.getfield 7, 3) := by decide +kernel
theorem dX7_puts_4 : decode cX7_puts 4 = .ok (.iload_n 1, 1) := by decide +kernel
theorem dX7_puts_5 : decode cX7_puts 5 = .ok (.iaload, 1) := by decide +kernel
theorem dX7_puts_6 : decode cX7_puts 6 = .ok (.istore_n 3, 1) := by decide +kernel
theorem dX7_puts_7 : decode cX7_puts 7 = .ok (.aload_n 0, 1) := by decide +kernel
theorem dX7_puts_8 : decode cX7_puts 8 = .ok (.getfield 7, 3) := by decide +kernel
theorem dX7_puts_11 : decode cX7_puts 11 = .ok (.iload_n 1, 1) := by decide +kernel
theorem dX7_puts_12 : decode cX7_puts 12 = .ok (.iload_n 2, 1) := by decide +kernel
theorem dX7_puts_13 : decode cX7_puts 13 = .ok (.iastore, 1) := by decide +kernel
theorem dX7_puts_14 : decode cX7_puts 14 = .ok (.iload_n 3, 1) := by decide +kernel
theorem dX7_puts_15 : decode cX7_puts 15 = .ok (.ireturn, 1) := by decide +kernel
theorem dX7_records_0 : decode cX7_records 0 = .ok (.aload_n 0, 1) := by decide +kernel
theorem dX7_records_1 : decode cX7_records 1 = .ok (.getfield 45, 3) := by decide +kernel
theorem dX7_records_4 : decode cX7_records 4 = .ok (.iconst 5, 1) := by decide +kernel
theorem dX7_records_5 : decode cX7_records 5 = .ok (.if_icmp .ne 39, 3) := by decide +kernel
theorem dX7_records_8 : decode cX7_records 8 = .ok (.iconst 0, 1) := by decide +kernel
theorem dX7_records_9 : decode cX7_records 9 = .ok (.istore_n 1, 1) := by decide +kernel
theorem dX7_records_10 : decode cX7_records 10 = .ok (.iload_n 1, 1) := by decide +kernel
theorem dX7_records_11 : decode cX7_records 11 = .ok (.sipush 616, 3) := by decide +kernel
theorem dX7_records_14 : decode cX7_records 14 = .ok (.if_icmp .ge 25, 3) := by decide +kernel
theorem dX7_records_17 : decode cX7_records 17 = .ok (.aload_n 0, 1) := by decide +kernel
theorem dX7_records_18 : decode cX7_records 18 = .ok (.getfield 13, 3) := by decide +kernel
theorem dX7_records_21 : decode cX7_records 21 = .ok (.iload_n 1, 1) := by decide +kernel
theorem dX7_records_22 : decode cX7_records 22 = .ok (.aload_n 0, 1) := by decide +kernel
theorem dX7_records_23 : decode cX7_records 23 = .ok (.getfield 13, 3) := by decide +kernel
theorem dX7_records_26 : decode cX7_records 26 = .ok (.iload_n 1, 1) := by decide +kernel
theorem dX7_records_27 : decode cX7_records 27 = .ok (.sipush 154, 3) := by decide +kernel
theorem dX7_records_30 : decode cX7_records 30 = .ok (.iadd, 1) := by decide +kernel
theorem dX7_records_31 : decode cX7_records 31 = .ok (.iaload, 1) := by decide +kernel
theorem dX7_records_32 : decode cX7_records 32 = .ok (.iastore, 1) := by decide +kernel
theorem dX7_records_33 : decode cX7_records 33 = .ok (.iinc 1 1, 3) := by decide +kernel
theorem dX7_records_36 : decode cX7_records 36 = .ok (.goto (-26), 3) := by decide +kernel
theorem dX7_records_39 : decode cX7_records 39 = .ok (.aload_n 0, 1) := by decide +kernel
theorem dX7_records_40 : decode cX7_records 40 = .ok (.iconst 4, 1) := by decide +kernel
theorem dX7_records_41 : decode cX7_records 41 = .ok (.putfield 45, 3) := by decide +kernel
theorem dX7_records_44 : decode cX7_records 44 = .ok (.iconst 0, 1) := by decide +kernel
theorem dX7_records_45 : decode cX7_records 45 = .ok (.istore_n 1, 1) := by decide +kernel
theorem dX7_records_46 : decode cX7_records 46 = .ok (.iload_n 1, 1) := by decide +kernel
theorem dX7_records_47 : decode cX7_records 47 = .ok (.sipush 154, 3) := by decide +kernel
theorem dX7_records_50 : decode cX7_records 50 = .ok (.if_icmp .ge 30, 3) := by decide +kernel
theorem dX7_records_53 : decode cX7_records 53 = .ok (.aload_n 0, 1) := by decide +kernel
theorem dX7_records_54 : decode cX7_records 54 = .ok (.getfield 13, 3) := by decide +kernel
theorem dX7_records_57 : decode cX7_records 57 = .ok (.sipush 154, 3) := by decide +kernel
theorem dX7_records_60 : decode cX7_records 60 = .ok (.aload_n 0, 1) := by decide +kernel
theorem dX7_records_61 : decode cX7_records 61 = .ok (.getfield 45, 3) := by decide +kernel
theorem dX7_records_64 : decode cX7_records 64 = .ok (.imul, 1) := by decide +kernel
theorem dX7_records_65 : decode cX7_records 65 = .ok (.iload_n 1, 1) := by decide +kernel
theorem dX7_records_66 : decode cX7_records 66 = .ok (.iadd, 1) := by decide +kernel
theorem dX7_records_67 : decode cX7_records 67 = .ok (.aload_n 0, 1) := by decide +kernel
theorem dX7_records_68 : decode cX7_records 68 = .ok (.getfield 7, 3) := by decide +kernel
theorem dX7_records_71 : decode cX7_records 71 = .ok (.iload_n 1, 1) := by decide +kernel
theorem dX7_records_72 : decode cX7_records 72 = .ok (.iaload, 1) := by decide +kernel
theorem dX7_records_73 : decode cX7_records 73 = .ok (.iastore, 1) := by decide +kernel
theorem dX7_records_74 : decode cX7_records 74 = .ok (.iinc 1 1, 3) := by decide +kernel
theorem dX7_records_77 : decode cX7_records 77 = .ok (.goto (-31), 3) := by decide +kernel
theorem dX7_records_80 : decode cX7_records 80 = .ok (.aload_n 0, 1) := by decide +kernel
theorem dX7_records_81 : decode cX7_records 81 = .ok (.dup, 1) := by decide +kernel
theorem dX7_records_82 : decode cX7_records 82 = .ok (.getfield 45, 3) := by decide +kernel
theorem dX7_records_85 : decode cX7_records 85 = .ok (.iconst 1, 1) := by decide +kernel
theorem dX7_records_86 : decode cX7_records 86 = .ok (.iadd, 1) := by decide +kernel
theorem dX7_records_87 : decode cX7_records 87 = .ok (.putfield 45, 3) := by decide +kernel
theorem dX7_records_90 : decode cX7_records 90 = .ok (.return_, 1) := by decide +kernel
theorem dX7_begin_0 : decode cX7_begin 0 = .ok (.iload_n 1, 1) := by decide +kernel
theorem dX7_begin_1 : decode cX7_begin 1 = .ok (.iconst 4, 1) := by decide +kernel
theorem dX7_begin_2 : decode cX7_begin 2 = .ok (.bipush 16, 2) := by decide +kernel
theorem dX7_begin_4 : decode cX7_begin 4 = .ok (.invokestatic 41, 3) := by decide +kernel
theorem dX7_begin_7 : decode cX7_begin 7 = .ok (.ifCond .ne 6, 3) := by decide +kernel
theorem dX7_begin_10 : decode cX7_begin 10 = .ok (.bipush (-2), 2) := by decide +kernel
theorem dX7_begin_12 : decode cX7_begin 12 = .ok (.ireturn, 1) := by decide +kernel
theorem dX7_begin_13 : decode cX7_begin 13 = .ok (.aload_n 0, 1) := by decide +kernel
theorem dX7_begin_14 : decode cX7_begin 14 = .ok (.invokevirtual 49, 3) := by decide +kernel
theorem dX7_begin_17 : decode cX7_begin 17 = .ok (.aload_n 0, 1) := by decide +kernel
theorem dX7_begin_18 : decode cX7_begin 18 = .ok (.getfield 7, 3) := by decide +kernel
theorem dX7_begin_21 : decode cX7_begin 21 = .ok (.iconst 1, 1) := by decide +kernel
theorem dX7_begin_22 : decode cX7_begin 22 = .ok (.iaload, 1) := by decide +kernel
theorem dX7_begin_23 : decode cX7_begin 23 = .ok (.istore_n 2, 1) := by decide +kernel
theorem dX7_begin_24 : decode cX7_begin 24 = .ok (.aload_n 0, 1) := by decide +kernel
theorem dX7_begin_25 : decode cX7_begin 25 = .ok (.getfield 7, 3) := by decide +kernel
theorem dX7_begin_28 : decode cX7_begin 28 = .ok (.iconst 0, 1) := by decide +kernel
theorem dX7_begin_29 : decode cX7_begin 29 = .ok (.iconst 0, 1) := by decide +kernel
theorem dX7_begin_30 : decode cX7_begin 30 = .ok (.iastore, 1) := by decide +kernel
theorem dX7_begin_31 : decode cX7_begin 31 = .ok (.aload_n 0, 1) := by decide +kernel
theorem dX7_begin_32 : decode cX7_begin 32 = .ok (.getfield 7, 3) := by decide +kernel
theorem dX7_begin_35 : decode cX7_begin 35 = .ok (.iconst 3, 1) := by decide +kernel
theorem dX7_begin_36 : decode cX7_begin 36 = .ok (.iconst 0, 1) := by decide +kernel
theorem dX7_begin_37 : decode cX7_begin 37 = .ok (.iastore, 1) := by decide +kernel
theorem dX7_begin_38 : decode cX7_begin 38 = .ok (.aload_n 0, 1) := by decide +kernel
theorem dX7_begin_39 : decode cX7_begin 39 = .ok (.getfield 7, 3) := by decide +kernel
theorem dX7_begin_42 : decode cX7_begin 42 = .ok (.iconst 4, 1) := by decide +kernel
theorem dX7_begin_43 : decode cX7_begin 43 = .ok (.iconst 0, 1) := by decide +kernel
theorem dX7_begin_44 : decode cX7_begin 44 = .ok (.iastore, 1) := by decide +kernel
theorem dX7_begin_45 : decode cX7_begin 45 = .ok (.bipush 8, 2) := by decide +kernel
theorem dX7_begin_47 : decode cX7_begin 47 = .ok (.istore_n 3, 1) := by decide +kernel
theorem dX7_begin_48 : decode cX7_begin 48 = .ok (.iload_n 3, 1) := by decide +kernel
theorem dX7_begin_49 : decode cX7_begin 49 = .ok (.sipush 154, 3) := by decide +kernel
theorem dX7_begin_52 : decode cX7_begin 52 = .ok (.if_icmp .ge 16, 3) := by decide +kernel
theorem dX7_begin_55 : decode cX7_begin 55 = .ok (.aload_n 0, 1) := by decide +kernel
theorem dX7_begin_56 : decode cX7_begin 56 = .ok (.getfield 7, 3) := by decide +kernel
theorem dX7_begin_59 : decode cX7_begin 59 = .ok (.iload_n 3, 1) := by decide +kernel
theorem dX7_begin_60 : decode cX7_begin 60 = .ok (.iconst 0, 1) := by decide +kernel
theorem dX7_begin_61 : decode cX7_begin 61 = .ok (.iastore, 1) := by decide +kernel
theorem dX7_begin_62 : decode cX7_begin 62 = .ok (.iinc 3 1, 3) := by decide +kernel
theorem dX7_begin_65 : decode cX7_begin 65 = .ok (.goto (-17), 3) := by decide +kernel
theorem dX7_begin_68 : decode cX7_begin 68 = .ok (.aload_n 0, 1) := by decide +kernel
theorem dX7_begin_69 : decode cX7_begin 69 = .ok (.getfield 7, 3) := by decide +kernel
theorem dX7_begin_72 : decode cX7_begin 72 = .ok (.iconst 1, 1) := by decide +kernel
theorem dX7_begin_73 : decode cX7_begin 73 = .ok (.iload_n 1, 1) := by decide +kernel
theorem dX7_begin_74 : decode cX7_begin 74 = .ok (.iastore, 1) := by decide +kernel
theorem dX7_begin_75 : decode cX7_begin 75 = .ok (.iload_n 2, 1) := by decide +kernel
theorem dX7_begin_76 : decode cX7_begin 76 = .ok (.ireturn, 1) := by decide +kernel
theorem dX7_setLap_0 : decode cX7_setLap 0 = .ok (.iload_n 1, 1) := by decide +kernel
theorem dX7_setLap_1 : decode cX7_setLap 1 = .ok (.iconst 2, 1) := by decide +kernel
theorem dX7_setLap_2 : decode cX7_setLap 2 = .ok (.bipush 8, 2) := by decide +kernel
theorem dX7_setLap_4 : decode cX7_setLap 4 = .ok (.invokestatic 41, 3) := by decide +kernel
theorem dX7_setLap_7 : decode cX7_setLap 7 = .ok (.ifCond .ne 6, 3) := by decide +kernel
theorem dX7_setLap_10 : decode cX7_setLap 10 = .ok (.bipush (-2), 2) := by decide +kernel
theorem dX7_setLap_12 : decode cX7_setLap 12 = .ok (.ireturn, 1) := by decide +kernel
theorem dX7_setLap_13 : decode cX7_setLap 13 = .ok (.aload_n 0, 1) := by decide +kernel
theorem dX7_setLap_14 : decode cX7_setLap 14 = .ok (.invokevirtual 49, 3) := by decide +kernel
theorem dX7_setLap_17 : decode cX7_setLap 17 = .ok (.iconst 0, 1) := by decide +kernel
theorem dX7_setLap_18 : decode cX7_setLap 18 = .ok (.istore_n 2, 1) := by decide +kernel
theorem dX7_setLap_19 : decode cX7_setLap 19 = .ok (.iload_n 2, 1) := by decide +kernel
theorem dX7_setLap_20 : decode cX7_setLap 20 = .ok (.aload_n 0, 1) := by decide +kernel
theorem dX7_setLap_21 : decode cX7_setLap 21 = .ok (.getfield 7, 3) := by decide +kernel
theorem dX7_setLap_24 : decode cX7_setLap 24 = .ok (.iconst 3, 1) := by decide +kernel
theorem dX7_setLap_25 : decode cX7_setLap 25 = .ok (.iaload, 1) := by decide +kernel
theorem dX7_setLap_26 : decode cX7_setLap 26 = .ok (.if_icmp .ge 50, 3) := by decide +kernel
theorem dX7_setLap_29 : decode cX7_setLap 29 = .ok (.aload_n 0, 1) := by decide +kernel
theorem dX7_setLap_30 : decode cX7_setLap 30 = .ok (.getfield 7, 3) := by decide +kernel
theorem dX7_setLap_33 : decode cX7_setLap 33 = .ok (.iload_n 2, 1) := by decide +kernel
theorem dX7_setLap_34 : decode cX7_setLap 34 = .ok (.invokestatic 52, 3) := by decide +kernel
theorem dX7_setLap_37 : decode cX7_setLap 37 = .ok (.iconst 4, 1) := by decide +kernel
theorem dX7_setLap_38 : decode cX7_setLap 38 = .ok (.iadd, 1) := by decide +kernel
theorem dX7_setLap_39 : decode cX7_setLap 39 = .ok (.aload_n 0, 1) := by decide +kernel
theorem dX7_setLap_40 : decode cX7_setLap 40 = .ok (.getfield 7, 3) := by decide +kernel
theorem dX7_setLap_43 : decode cX7_setLap 43 = .ok (.iload_n 2, 1) := by decide +kernel
theorem dX7_setLap_44 : decode cX7_setLap 44 = .ok (.invokestatic 52, 3) := by decide +kernel
theorem dX7_setLap_47 : decode cX7_setLap 47 = .ok (.iconst 4, 1) := by decide +kernel
theorem dX7_setLap_48 : decode cX7_setLap 48 = .ok (.iadd, 1) := by decide +kernel
theorem dX7_setLap_49 : decode cX7_setLap 49 = .ok (.iaload, 1) := by decide +kernel
theorem dX7_setLap_50 : decode cX7_setLap 50 = .ok (.iload_n 1, 1) := by decide +kernel
theorem dX7_setLap_51 : decode cX7_setLap 51 = .ok (.if_icmp .ge 17, 3) := by decide +kernel
theorem dX7_setLap_54 : decode cX7_setLap 54 = .ok (.aload_n 0, 1) := by decide +kernel
theorem dX7_setLap_55 : decode cX7_setLap 55 = .ok (.getfield 7, 3) := by decide +kernel
theorem dX7_setLap_58 : decode cX7_setLap 58 = .ok (.iload_n 2, 1) := by decide +kernel
theorem dX7_setLap_59 : decode cX7_setLap 59 = .ok (.invokestatic 52, 3) := by decide +kernel
theorem dX7_setLap_62 : decode cX7_setLap 62 = .ok (.iconst 4, 1) := by decide +kernel
theorem dX7_setLap_63 : decode cX7_setLap 63 = .ok (.iadd, 1) := by decide +kernel
theorem dX7_setLap_64 : decode cX7_setLap 64 = .ok (.iaload, 1) := by decide +kernel
theorem dX7_setLap_65 : decode cX7_setLap 65 = .ok (.goto 4, 3) := by decide +kernel
theorem dX7_setLap_68 : decode cX7_setLap 68 = .ok (.iconst 0, 1) := by decide +kernel
theorem dX7_setLap_69 : decode cX7_setLap 69 = .ok (.iastore, 1) := by decide +kernel
theorem dX7_setLap_70 : decode cX7_setLap 70 = .ok (.iinc 2 1, 3) := by decide +kernel
theorem dX7_setLap_73 : decode cX7_setLap 73 = .ok (.goto (-54), 3) := by decide +kernel
theorem dX7_setLap_76 : decode cX7_setLap 76 = .ok (.aload_n 0, 1) := by decide +kernel
theorem dX7_setLap_77 : decode cX7_setLap 77 = .ok (.iconst 2, 1) := by decide +kernel
theorem dX7_setLap_78 : decode cX7_setLap 78 = .ok (.iload_n 1, 1) := by decide +kernel
theorem dX7_setLap_79 : decode cX7_setLap 79 = .ok (.invokevirtual 56, 3) := by decide +kernel
theorem dX7_setLap_82 : decode cX7_setLap 82 = .ok (.ireturn, 1) := by decide +kernel
theorem dX7_setLimit_0 : decode cX7_setLimit 0 = .ok (.iload_n 1, 1) := by decide +kernel
theorem dX7_setLimit_1 : decode cX7_setLimit 1 = .ok (.iconst 1, 1) := by decide +kernel
theorem dX7_setLimit_2 : decode cX7_setLimit 2 = .ok (.bipush 16, 2) := by decide +kernel
theorem dX7_setLimit_4 : decode cX7_setLimit 4 = .ok (.invokestatic 41, 3) := by decide +kernel
theorem dX7_setLimit_7 : decode cX7_setLimit 7 = .ok (.ifCond .ne 6, 3) := by decide +kernel
theorem dX7_setLimit_10 : decode cX7_setLimit 10 = .ok (.bipush (-2), 2) := by decide +kernel
theorem dX7_setLimit_12 : decode cX7_setLimit 12 = .ok (.ireturn, 1) := by decide +kernel
theorem dX7_setLimit_13 : decode cX7_setLimit 13 = .ok (.aload_n 0, 1) := by decide +kernel
theorem dX7_setLimit_14 : decode cX7_setLimit 14 = .ok (.invokevirtual 49, 3) := by decide +kernel
theorem dX7_setLimit_17 : decode cX7_setLimit 17 = .ok (.aload_n 0, 1) := by decide +kernel
theorem dX7_setLimit_18 : decode cX7_setLimit 18 = .ok (.bipush 7, 2) := by decide +kernel
theorem dX7_setLimit_20 : decode cX7_setLimit 20 = .ok (.iload_n 1, 1) := by decide +kernel
theorem dX7_setLimit_21 : decode cX7_setLimit 21 = .ok (.invokevirtual 56, 3) := by decide +kernel
theorem dX7_setLimit_24 : decode cX7_setLimit 24 = .ok (.ireturn, 1) := by decide +kernel
theorem dX7_opens_0 : decode cX7_opens 0 = .ok (.aload_n 0, 1) := by decide +kernel
theorem dX7_opens_1 : decode cX7_opens 1 = .ok (.iconst 5, 1) := by decide +kernel
theorem dX7_opens_2 : decode cX7_opens 2 = .ok (.iload_n 1, 1) := by decide +kernel
theorem dX7_opens_3 : decode cX7_opens 3 = .ok (.ifCond .eq 7, 3) := by decide +kernel
theorem dX7_opens_6 : decode cX7_opens 6 = .ok (.iconst 1, 1) := by decide +kernel
theorem dX7_opens_7 : decode cX7_opens 7 = .ok (.goto 4, 3) := by decide +kernel
theorem dX7_opens_10 : decode cX7_opens 10 = .ok (.iconst 0, 1) := by decide +kernel
theorem dX7_opens_11 : decode cX7_opens 11 = .ok (.invokevirtual 56, 3) := by decide +kernel
theorem dX7_opens_14 : decode cX7_opens 14 = .ok (.ireturn, 1) := by decide +kernel
theorem dX7_setRunway_0 : decode cX7_setRunway 0 = .ok (.aload_n 0, 1) := by decide +kernel
theorem dX7_setRunway_1 : decode cX7_setRunway 1 = .ok (.invokevirtual 49, 3) := by decide +kernel
theorem dX7_setRunway_4 : decode cX7_setRunway 4 = .ok (.aload_n 0, 1) := by decide +kernel
theorem dX7_setRunway_5 : decode cX7_setRunway 5 = .ok (.iload_n 1, 1) := by decide +kernel
theorem dX7_setRunway_6 : decode cX7_setRunway 6 = .ok (.invokevirtual 60, 3) := by decide +kernel
theorem dX7_setRunway_9 : decode cX7_setRunway 9 = .ok (.ireturn, 1) := by decide +kernel
theorem dX7_setLadder_0 : decode cX7_setLadder 0 = .ok (.aload_n 0, 1) := by decide +kernel
theorem dX7_setLadder_1 : decode cX7_setLadder 1 = .ok (.invokevirtual 49, 3) := by decide +kernel
theorem dX7_setLadder_4 : decode cX7_setLadder 4 = .ok (.aload_n 0, 1) := by decide +kernel
theorem dX7_setLadder_5 : decode cX7_setLadder 5 = .ok (.bipush 6, 2) := by decide +kernel
theorem dX7_setLadder_7 : decode cX7_setLadder 7 = .ok (.iload_n 1, 1) := by decide +kernel
theorem dX7_setLadder_8 : decode cX7_setLadder 8 = .ok (.ifCond .eq 7, 3) := by decide +kernel
theorem dX7_setLadder_11 : decode cX7_setLadder 11 = .ok (.iconst 1, 1) := by decide +kernel
theorem dX7_setLadder_12 : decode cX7_setLadder 12 = .ok (.goto 4, 3) := by decide +kernel
theorem dX7_setLadder_15 : decode cX7_setLadder 15 = .ok (.iconst 0, 1) := by decide +kernel
theorem dX7_setLadder_16 : decode cX7_setLadder 16 = .ok (.invokevirtual 56, 3) := by decide +kernel
theorem dX7_setLadder_19 : decode cX7_setLadder 19 = .ok (.ireturn, 1) := by decide +kernel
theorem dX7_on_0 : decode cX7_on 0 = .ok (.iconst 0, 1) := by decide +kernel
theorem dX7_on_1 : decode cX7_on 1 = .ok (.istore_n 2, 1) := by decide +kernel
theorem dX7_on_2 : decode cX7_on 2 = .ok (.iload_n 2, 1) := by decide +kernel
theorem dX7_on_3 : decode cX7_on 3 = .ok (.aload_n 0, 1) := by decide +kernel
theorem dX7_on_4 : decode cX7_on 4 = .ok (.getfield 7, 3) := by decide +kernel
theorem dX7_on_7 : decode cX7_on 7 = .ok (.iconst 3, 1) := by decide +kernel
theorem dX7_on_8 : decode cX7_on 8 = .ok (.iaload, 1) := by decide +kernel
theorem dX7_on_9 : decode cX7_on 9 = .ok (.if_icmp .ge 40, 3) := by decide +kernel
theorem dX7_on_12 : decode cX7_on 12 = .ok (.aload_n 0, 1) := by decide +kernel
theorem dX7_on_13 : decode cX7_on 13 = .ok (.getfield 7, 3) := by decide +kernel
theorem dX7_on_16 : decode cX7_on 16 = .ok (.iload_n 2, 1) := by decide +kernel
theorem dX7_on_17 : decode cX7_on 17 = .ok (.invokestatic 52, 3) := by decide +kernel
theorem dX7_on_20 : decode cX7_on 20 = .ok (.iconst 2, 1) := by decide +kernel
theorem dX7_on_21 : decode cX7_on 21 = .ok (.iadd, 1) := by decide +kernel
theorem dX7_on_22 : decode cX7_on 22 = .ok (.iaload, 1) := by decide +kernel
theorem dX7_on_23 : decode cX7_on 23 = .ok (.ifCond .ne 20, 3) := by decide +kernel
theorem dX7_on_26 : decode cX7_on 26 = .ok (.aload_n 0, 1) := by decide +kernel
theorem dX7_on_27 : decode cX7_on 27 = .ok (.getfield 7, 3) := by decide +kernel
theorem dX7_on_30 : decode cX7_on 30 = .ok (.iload_n 2, 1) := by decide +kernel
theorem dX7_on_31 : decode cX7_on 31 = .ok (.invokestatic 52, 3) := by decide +kernel
theorem dX7_on_34 : decode cX7_on 34 = .ok (.iconst 3, 1) := by decide +kernel
theorem dX7_on_35 : decode cX7_on 35 = .ok (.iadd, 1) := by decide +kernel
theorem dX7_on_36 : decode cX7_on 36 = .ok (.iaload, 1) := by decide +kernel
theorem dX7_on_37 : decode cX7_on 37 = .ok (.iload_n 1, 1) := by decide +kernel
theorem dX7_on_38 : decode cX7_on 38 = .ok (.if_icmp .ne 5, 3) := by decide +kernel
theorem dX7_on_41 : decode cX7_on 41 = .ok (.iload_n 2, 1) := by decide +kernel
theorem dX7_on_42 : decode cX7_on 42 = .ok (.ireturn, 1) := by decide +kernel
theorem dX7_on_43 : decode cX7_on 43 = .ok (.iinc 2 1, 3) := by decide +kernel
theorem dX7_on_46 : decode cX7_on 46 = .ok (.goto (-44), 3) := by decide +kernel
theorem dX7_on_49 : decode cX7_on 49 = .ok (.bipush (-6), 2) := by decide +kernel
theorem dX7_on_51 : decode cX7_on 51 = .ok (.ireturn, 1) := by decide +kernel
theorem dX7_holding_0 : decode cX7_holding 0 = .ok (.iconst 0, 1) := by decide +kernel
theorem dX7_holding_1 : decode cX7_holding 1 = .ok (.istore_n 1, 1) := by decide +kernel
theorem dX7_holding_2 : decode cX7_holding 2 = .ok (.iconst 0, 1) := by decide +kernel
theorem dX7_holding_3 : decode cX7_holding 3 = .ok (.istore_n 2, 1) := by decide +kernel
theorem dX7_holding_4 : decode cX7_holding 4 = .ok (.iload_n 2, 1) := by decide +kernel
theorem dX7_holding_5 : decode cX7_holding 5 = .ok (.aload_n 0, 1) := by decide +kernel
theorem dX7_holding_6 : decode cX7_holding 6 = .ok (.getfield 7, 3) := by decide +kernel
theorem dX7_holding_9 : decode cX7_holding 9 = .ok (.iconst 3, 1) := by decide +kernel
theorem dX7_holding_10 : decode cX7_holding 10 = .ok (.iaload, 1) := by decide +kernel
theorem dX7_holding_11 : decode cX7_holding 11 = .ok (.if_icmp .ge 31, 3) := by decide +kernel
theorem dX7_holding_14 : decode cX7_holding 14 = .ok (.iload_n 1, 1) := by decide +kernel
theorem dX7_holding_15 : decode cX7_holding 15 = .ok (.aload_n 0, 1) := by decide +kernel
theorem dX7_holding_16 : decode cX7_holding 16 = .ok (.getfield 7, 3) := by decide +kernel
theorem dX7_holding_19 : decode cX7_holding 19 = .ok (.iload_n 2, 1) := by decide +kernel
theorem dX7_holding_20 : decode cX7_holding 20 = .ok (.invokestatic 52, 3) := by decide +kernel
theorem dX7_holding_23 : decode cX7_holding 23 = .ok (.iconst 2, 1) := by decide +kernel
theorem dX7_holding_24 : decode cX7_holding 24 = .ok (.iadd, 1) := by decide +kernel
theorem dX7_holding_25 : decode cX7_holding 25 = .ok (.iaload, 1) := by decide +kernel
theorem dX7_holding_26 : decode cX7_holding 26 = .ok (.ifCond .ne 7, 3) := by decide +kernel
theorem dX7_holding_29 : decode cX7_holding 29 = .ok (.iconst 1, 1) := by decide +kernel
theorem dX7_holding_30 : decode cX7_holding 30 = .ok (.goto 4, 3) := by decide +kernel
theorem dX7_holding_33 : decode cX7_holding 33 = .ok (.iconst 0, 1) := by decide +kernel
theorem dX7_holding_34 : decode cX7_holding 34 = .ok (.iadd, 1) := by decide +kernel
theorem dX7_holding_35 : decode cX7_holding 35 = .ok (.istore_n 1, 1) := by decide +kernel
theorem dX7_holding_36 : decode cX7_holding 36 = .ok (.iinc 2 1, 3) := by decide +kernel
theorem dX7_holding_39 : decode cX7_holding 39 = .ok (.goto (-35), 3) := by decide +kernel
theorem dX7_holding_42 : decode cX7_holding 42 = .ok (.iload_n 1, 1) := by decide +kernel
theorem dX7_holding_43 : decode cX7_holding 43 = .ok (.ireturn, 1) := by decide +kernel
theorem dX7_enterWrong_0 : decode cX7_enterWrong 0 = .ok (.iload_n 1, 1) := by decide +kernel
theorem dX7_enterWrong_1 : decode cX7_enterWrong 1 = .ok (.iconst 0, 1) := by decide +kernel
theorem dX7_enterWrong_2 : decode cX7_enterWrong 2 = .ok (.iconst 2, 1) := by decide +kernel
theorem dX7_enterWrong_3 : decode cX7_enterWrong 3 = .ok (.invokestatic 41, 3) := by decide +kernel
theorem dX7_enterWrong_6 : decode cX7_enterWrong 6 = .ok (.ifCond .eq 11, 3) := by decide +kernel
theorem dX7_enterWrong_9 : decode cX7_enterWrong 9 = .ok (.aload_n 0, 1) := by decide +kernel
theorem dX7_enterWrong_10 : decode cX7_enterWrong 10 = .ok (.iload_n 3, 1) := by decide +kernel
theorem dX7_enterWrong_11 : decode cX7_enterWrong 11 = .ok (.invokevirtual 64, 3) := by decide +kernel
theorem dX7_enterWrong_14 : decode cX7_enterWrong 14 = .ok (.ifCond .ne 5, 3) := by decide +kernel
theorem dX7_enterWrong_17 : decode cX7_enterWrong 17 = .ok (.iconst (-1), 1) := by decide +kernel
theorem dX7_enterWrong_18 : decode cX7_enterWrong 18 = .ok (.ireturn, 1) := by decide +kernel
theorem dX7_enterWrong_19 : decode cX7_enterWrong 19 = .ok (.iload_n 2, 1) := by decide +kernel
theorem dX7_enterWrong_20 : decode cX7_enterWrong 20 = .ok (.iconst 1, 1) := by decide +kernel
theorem dX7_enterWrong_21 : decode cX7_enterWrong 21 = .ok (.sipush 9999, 3) := by decide +kernel
theorem dX7_enterWrong_24 : decode cX7_enterWrong 24 = .ok (.invokestatic 41, 3) := by decide +kernel
theorem dX7_enterWrong_27 : decode cX7_enterWrong 27 = .ok (.ifCond .ne 8, 3) := by decide +kernel
theorem dX7_enterWrong_30 : decode cX7_enterWrong 30 = .ok (.bipush (-2), 2) := by decide +kernel
theorem dX7_enterWrong_32 : decode cX7_enterWrong 32 = .ok (.goto 20, 3) := by decide +kernel
theorem dX7_enterWrong_35 : decode cX7_enterWrong 35 = .ok (.aload_n 0, 1) := by decide +kernel
theorem dX7_enterWrong_36 : decode cX7_enterWrong 36 = .ok (.getfield 7, 3) := by decide +kernel
theorem dX7_enterWrong_39 : decode cX7_enterWrong 39 = .ok (.iconst 3, 1) := by decide +kernel
theorem dX7_enterWrong_40 : decode cX7_enterWrong 40 = .ok (.iaload, 1) := by decide +kernel
theorem dX7_enterWrong_41 : decode cX7_enterWrong 41 = .ok (.bipush 20, 2) := by decide +kernel
theorem dX7_enterWrong_43 : decode cX7_enterWrong 43 = .ok (.if_icmp .ne 8, 3) := by decide +kernel
theorem dX7_enterWrong_46 : decode cX7_enterWrong 46 = .ok (.bipush (-4), 2) := by decide +kernel
theorem dX7_enterWrong_48 : decode cX7_enterWrong 48 = .ok (.goto 4, 3) := by decide +kernel
theorem dX7_enterWrong_51 : decode cX7_enterWrong 51 = .ok (.iconst 0, 1) := by decide +kernel
theorem dX7_enterWrong_52 : decode cX7_enterWrong 52 = .ok (.ireturn, 1) := by decide +kernel
theorem dX7_refusal_0 : decode cX7_refusal 0 = .ok (.aload_n 0, 1) := by decide +kernel
theorem dX7_refusal_1 : decode cX7_refusal 1 = .ok (.iload_n 3, 1) := by decide +kernel
theorem dX7_refusal_2 : decode cX7_refusal 2 = .ok (.invokevirtual 68, 3) := by decide +kernel
theorem dX7_refusal_5 : decode cX7_refusal 5 = .ok (.bipush (-6), 2) := by decide +kernel
theorem dX7_refusal_7 : decode cX7_refusal 7 = .ok (.if_icmp .eq 5, 3) := by decide +kernel
theorem dX7_refusal_10 : decode cX7_refusal 10 = .ok (.iconst 1, 1) := by decide +kernel
theorem dX7_refusal_11 : decode cX7_refusal 11 = .ok (.ireturn, 1) := by decide +kernel
theorem dX7_refusal_12 : decode cX7_refusal 12 = .ok (.iload_n 2, 1) := by decide +kernel
theorem dX7_refusal_13 : decode cX7_refusal 13 = .ok (.aload_n 0, 1) := by decide +kernel
theorem dX7_refusal_14 : decode cX7_refusal 14 = .ok (.getfield 35, 3) := by decide +kernel
theorem dX7_refusal_17 : decode cX7_refusal 17 = .ok (.iload_n 1, 1) := by decide +kernel
theorem dX7_refusal_18 : decode cX7_refusal 18 = .ok (.iaload, 1) := by decide +kernel
theorem dX7_refusal_19 : decode cX7_refusal 19 = .ok (.if_icmp .gt 7, 3) := by decide +kernel
theorem dX7_refusal_22 : decode cX7_refusal 22 = .ok (.iconst 2, 1) := by decide +kernel
theorem dX7_refusal_23 : decode cX7_refusal 23 = .ok (.goto 22, 3) := by decide +kernel
theorem dX7_refusal_26 : decode cX7_refusal 26 = .ok (.aload_n 0, 1) := by decide +kernel
theorem dX7_refusal_27 : decode cX7_refusal 27 = .ok (.invokevirtual 71, 3) := by decide +kernel
theorem dX7_refusal_30 : decode cX7_refusal 30 = .ok (.aload_n 0, 1) := by decide +kernel
theorem dX7_refusal_31 : decode cX7_refusal 31 = .ok (.getfield 7, 3) := by decide +kernel
theorem dX7_refusal_34 : decode cX7_refusal 34 = .ok (.bipush 7, 2) := by decide +kernel
theorem dX7_refusal_36 : decode cX7_refusal 36 = .ok (.iaload, 1) := by decide +kernel
theorem dX7_refusal_37 : decode cX7_refusal 37 = .ok (.if_icmp .lt 7, 3) := by decide +kernel
theorem dX7_refusal_40 : decode cX7_refusal 40 = .ok (.iconst 3, 1) := by decide +kernel
theorem dX7_refusal_41 : decode cX7_refusal 41 = .ok (.goto 4, 3) := by decide +kernel
theorem dX7_refusal_44 : decode cX7_refusal 44 = .ok (.iconst 0, 1) := by decide +kernel
theorem dX7_refusal_45 : decode cX7_refusal 45 = .ok (.ireturn, 1) := by decide +kernel
theorem dX7_enters_0 : decode cX7_enters 0 = .ok (.aload_n 0, 1) := by decide +kernel
theorem dX7_enters_1 : decode cX7_enters 1 = .ok (.getfield 7, 3) := by decide +kernel
theorem dX7_enters_4 : decode cX7_enters 4 = .ok (.iconst 3, 1) := by decide +kernel
theorem dX7_enters_5 : decode cX7_enters 5 = .ok (.iaload, 1) := by decide +kernel
theorem dX7_enters_6 : decode cX7_enters 6 = .ok (.istore 4, 2) := by decide +kernel
theorem dX7_enters_8 : decode cX7_enters 8 = .ok (.aload_n 0, 1) := by decide +kernel
theorem dX7_enters_9 : decode cX7_enters 9 = .ok (.getfield 7, 3) := by decide +kernel
theorem dX7_enters_12 : decode cX7_enters 12 = .ok (.iload 4, 2) := by decide +kernel
theorem dX7_enters_14 : decode cX7_enters 14 = .ok (.invokestatic 52, 3) := by decide +kernel
theorem dX7_enters_17 : decode cX7_enters 17 = .ok (.iload_n 1, 1) := by decide +kernel
theorem dX7_enters_18 : decode cX7_enters 18 = .ok (.iastore, 1) := by decide +kernel
theorem dX7_enters_19 : decode cX7_enters 19 = .ok (.aload_n 0, 1) := by decide +kernel
theorem dX7_enters_20 : decode cX7_enters 20 = .ok (.getfield 7, 3) := by decide +kernel
theorem dX7_enters_23 : decode cX7_enters 23 = .ok (.iload 4, 2) := by decide +kernel
theorem dX7_enters_25 : decode cX7_enters 25 = .ok (.invokestatic 52, 3) := by decide +kernel
theorem dX7_enters_28 : decode cX7_enters 28 = .ok (.iconst 1, 1) := by decide +kernel
theorem dX7_enters_29 : decode cX7_enters 29 = .ok (.iadd, 1) := by decide +kernel
theorem dX7_enters_30 : decode cX7_enters 30 = .ok (.iload_n 2, 1) := by decide +kernel
theorem dX7_enters_31 : decode cX7_enters 31 = .ok (.iastore, 1) := by decide +kernel
theorem dX7_enters_32 : decode cX7_enters 32 = .ok (.aload_n 0, 1) := by decide +kernel
theorem dX7_enters_33 : decode cX7_enters 33 = .ok (.getfield 7, 3) := by decide +kernel
theorem dX7_enters_36 : decode cX7_enters 36 = .ok (.iload 4, 2) := by decide +kernel
theorem dX7_enters_38 : decode cX7_enters 38 = .ok (.invokestatic 52, 3) := by decide +kernel
theorem dX7_enters_41 : decode cX7_enters 41 = .ok (.iconst 2, 1) := by decide +kernel
theorem dX7_enters_42 : decode cX7_enters 42 = .ok (.iadd, 1) := by decide +kernel
theorem dX7_enters_43 : decode cX7_enters 43 = .ok (.iconst 0, 1) := by decide +kernel
theorem dX7_enters_44 : decode cX7_enters 44 = .ok (.iastore, 1) := by decide +kernel
theorem dX7_enters_45 : decode cX7_enters 45 = .ok (.aload_n 0, 1) := by decide +kernel
theorem dX7_enters_46 : decode cX7_enters 46 = .ok (.getfield 7, 3) := by decide +kernel
theorem dX7_enters_49 : decode cX7_enters 49 = .ok (.iload 4, 2) := by decide +kernel
theorem dX7_enters_51 : decode cX7_enters 51 = .ok (.invokestatic 52, 3) := by decide +kernel
theorem dX7_enters_54 : decode cX7_enters 54 = .ok (.iconst 3, 1) := by decide +kernel
theorem dX7_enters_55 : decode cX7_enters 55 = .ok (.iadd, 1) := by decide +kernel
theorem dX7_enters_56 : decode cX7_enters 56 = .ok (.iload_n 3, 1) := by decide +kernel
theorem dX7_enters_57 : decode cX7_enters 57 = .ok (.iastore, 1) := by decide +kernel
theorem dX7_enters_58 : decode cX7_enters 58 = .ok (.aload_n 0, 1) := by decide +kernel
theorem dX7_enters_59 : decode cX7_enters 59 = .ok (.getfield 7, 3) := by decide +kernel
theorem dX7_enters_62 : decode cX7_enters 62 = .ok (.iload 4, 2) := by decide +kernel
theorem dX7_enters_64 : decode cX7_enters 64 = .ok (.invokestatic 52, 3) := by decide +kernel
theorem dX7_enters_67 : decode cX7_enters 67 = .ok (.iconst 4, 1) := by decide +kernel
theorem dX7_enters_68 : decode cX7_enters 68 = .ok (.iadd, 1) := by decide +kernel
theorem dX7_enters_69 : decode cX7_enters 69 = .ok (.iconst 1, 1) := by decide +kernel
theorem dX7_enters_70 : decode cX7_enters 70 = .ok (.iastore, 1) := by decide +kernel
theorem dX7_enters_71 : decode cX7_enters 71 = .ok (.aload_n 0, 1) := by decide +kernel
theorem dX7_enters_72 : decode cX7_enters 72 = .ok (.getfield 7, 3) := by decide +kernel
theorem dX7_enters_75 : decode cX7_enters 75 = .ok (.iload 4, 2) := by decide +kernel
theorem dX7_enters_77 : decode cX7_enters 77 = .ok (.invokestatic 52, 3) := by decide +kernel
theorem dX7_enters_80 : decode cX7_enters 80 = .ok (.iconst 5, 1) := by decide +kernel
theorem dX7_enters_81 : decode cX7_enters 81 = .ok (.iadd, 1) := by decide +kernel
theorem dX7_enters_82 : decode cX7_enters 82 = .ok (.iconst 0, 1) := by decide +kernel
theorem dX7_enters_83 : decode cX7_enters 83 = .ok (.iastore, 1) := by decide +kernel
theorem dX7_enters_84 : decode cX7_enters 84 = .ok (.aload_n 0, 1) := by decide +kernel
theorem dX7_enters_85 : decode cX7_enters 85 = .ok (.getfield 7, 3) := by decide +kernel
theorem dX7_enters_88 : decode cX7_enters 88 = .ok (.iload 4, 2) := by decide +kernel
theorem dX7_enters_90 : decode cX7_enters 90 = .ok (.invokestatic 52, 3) := by decide +kernel
theorem dX7_enters_93 : decode cX7_enters 93 = .ok (.bipush 6, 2) := by decide +kernel
theorem dX7_enters_95 : decode cX7_enters 95 = .ok (.iadd, 1) := by decide +kernel
theorem dX7_enters_96 : decode cX7_enters 96 = .ok (.iconst 0, 1) := by decide +kernel
theorem dX7_enters_97 : decode cX7_enters 97 = .ok (.iastore, 1) := by decide +kernel
theorem dX7_enters_98 : decode cX7_enters 98 = .ok (.aload_n 0, 1) := by decide +kernel
theorem dX7_enters_99 : decode cX7_enters 99 = .ok (.getfield 7, 3) := by decide +kernel
theorem dX7_enters_102 : decode cX7_enters 102 = .ok (.iconst 3, 1) := by decide +kernel
theorem dX7_enters_103 : decode cX7_enters 103 = .ok (.dup2, 1) := by decide +kernel
theorem dX7_enters_104 : decode cX7_enters 104 = .ok (.iaload, 1) := by decide +kernel
theorem dX7_enters_105 : decode cX7_enters 105 = .ok (.iconst 1, 1) := by decide +kernel
theorem dX7_enters_106 : decode cX7_enters 106 = .ok (.iadd, 1) := by decide +kernel
theorem dX7_enters_107 : decode cX7_enters 107 = .ok (.iastore, 1) := by decide +kernel
theorem dX7_enters_108 : decode cX7_enters 108 = .ok (.aload_n 0, 1) := by decide +kernel
theorem dX7_enters_109 : decode cX7_enters 109 = .ok (.getfield 7, 3) := by decide +kernel
theorem dX7_enters_112 : decode cX7_enters 112 = .ok (.bipush 9, 2) := by decide +kernel
theorem dX7_enters_114 : decode cX7_enters 114 = .ok (.dup2, 1) := by decide +kernel
theorem dX7_enters_115 : decode cX7_enters 115 = .ok (.iaload, 1) := by decide +kernel
theorem dX7_enters_116 : decode cX7_enters 116 = .ok (.iload_n 2, 1) := by decide +kernel
theorem dX7_enters_117 : decode cX7_enters 117 = .ok (.iadd, 1) := by decide +kernel
theorem dX7_enters_118 : decode cX7_enters 118 = .ok (.iastore, 1) := by decide +kernel
theorem dX7_enters_119 : decode cX7_enters 119 = .ok (.aload_n 0, 1) := by decide +kernel
theorem dX7_enters_120 : decode cX7_enters 120 = .ok (.getfield 7, 3) := by decide +kernel
theorem dX7_enters_123 : decode cX7_enters 123 = .ok (.bipush 13, 2) := by decide +kernel
theorem dX7_enters_125 : decode cX7_enters 125 = .ok (.iconst 0, 1) := by decide +kernel
theorem dX7_enters_126 : decode cX7_enters 126 = .ok (.iastore, 1) := by decide +kernel
theorem dX7_enters_127 : decode cX7_enters 127 = .ok (.iload 4, 2) := by decide +kernel
theorem dX7_enters_129 : decode cX7_enters 129 = .ok (.ireturn, 1) := by decide +kernel
theorem dX7_enter_0 : decode cX7_enter 0 = .ok (.aload_n 0, 1) := by decide +kernel
theorem dX7_enter_1 : decode cX7_enter 1 = .ok (.iload_n 1, 1) := by decide +kernel
theorem dX7_enter_2 : decode cX7_enter 2 = .ok (.iload_n 2, 1) := by decide +kernel
theorem dX7_enter_3 : decode cX7_enter 3 = .ok (.iload_n 3, 1) := by decide +kernel
theorem dX7_enter_4 : decode cX7_enter 4 = .ok (.invokevirtual 75, 3) := by decide +kernel
theorem dX7_enter_7 : decode cX7_enter 7 = .ok (.istore 4, 2) := by decide +kernel
theorem dX7_enter_9 : decode cX7_enter 9 = .ok (.iload 4, 2) := by decide +kernel
theorem dX7_enter_11 : decode cX7_enter 11 = .ok (.ifCond .ge 6, 3) := by decide +kernel
theorem dX7_enter_14 : decode cX7_enter 14 = .ok (.iload 4, 2) := by decide +kernel
theorem dX7_enter_16 : decode cX7_enter 16 = .ok (.ireturn, 1) := by decide +kernel
theorem dX7_enter_17 : decode cX7_enter 17 = .ok (.aload_n 0, 1) := by decide +kernel
theorem dX7_enter_18 : decode cX7_enter 18 = .ok (.iload_n 1, 1) := by decide +kernel
theorem dX7_enter_19 : decode cX7_enter 19 = .ok (.iload_n 2, 1) := by decide +kernel
theorem dX7_enter_20 : decode cX7_enter 20 = .ok (.iload_n 3, 1) := by decide +kernel
theorem dX7_enter_21 : decode cX7_enter 21 = .ok (.invokevirtual 79, 3) := by decide +kernel
theorem dX7_enter_24 : decode cX7_enter 24 = .ok (.istore 5, 2) := by decide +kernel
theorem dX7_enter_26 : decode cX7_enter 26 = .ok (.iload 5, 2) := by decide +kernel
theorem dX7_enter_28 : decode cX7_enter 28 = .ok (.ifCond .le 15, 3) := by decide +kernel
theorem dX7_enter_31 : decode cX7_enter 31 = .ok (.aload_n 0, 1) := by decide +kernel
theorem dX7_enter_32 : decode cX7_enter 32 = .ok (.getfield 7, 3) := by decide +kernel
theorem dX7_enter_35 : decode cX7_enter 35 = .ok (.bipush 13, 2) := by decide +kernel
theorem dX7_enter_37 : decode cX7_enter 37 = .ok (.iload 5, 2) := by decide +kernel
theorem dX7_enter_39 : decode cX7_enter 39 = .ok (.iastore, 1) := by decide +kernel
theorem dX7_enter_40 : decode cX7_enter 40 = .ok (.bipush (-5), 2) := by decide +kernel
theorem dX7_enter_42 : decode cX7_enter 42 = .ok (.ireturn, 1) := by decide +kernel
theorem dX7_enter_43 : decode cX7_enter 43 = .ok (.aload_n 0, 1) := by decide +kernel
theorem dX7_enter_44 : decode cX7_enter 44 = .ok (.invokevirtual 49, 3) := by decide +kernel
theorem dX7_enter_47 : decode cX7_enter 47 = .ok (.aload_n 0, 1) := by decide +kernel
theorem dX7_enter_48 : decode cX7_enter 48 = .ok (.iload_n 1, 1) := by decide +kernel
theorem dX7_enter_49 : decode cX7_enter 49 = .ok (.iload_n 2, 1) := by decide +kernel
theorem dX7_enter_50 : decode cX7_enter 50 = .ok (.iload_n 3, 1) := by decide +kernel
theorem dX7_enter_51 : decode cX7_enter 51 = .ok (.invokevirtual 82, 3) := by decide +kernel
theorem dX7_enter_54 : decode cX7_enter 54 = .ok (.ireturn, 1) := by decide +kernel
theorem dX7_callWrong_0 : decode cX7_callWrong 0 = .ok (.aload_n 0, 1) := by decide +kernel
theorem dX7_callWrong_1 : decode cX7_callWrong 1 = .ok (.iload_n 1, 1) := by decide +kernel
theorem dX7_callWrong_2 : decode cX7_callWrong 2 = .ok (.invokevirtual 85, 3) := by decide +kernel
theorem dX7_callWrong_5 : decode cX7_callWrong 5 = .ok (.ifCond .ne 5, 3) := by decide +kernel
theorem dX7_callWrong_8 : decode cX7_callWrong 8 = .ok (.iconst (-1), 1) := by decide +kernel
theorem dX7_callWrong_9 : decode cX7_callWrong 9 = .ok (.ireturn, 1) := by decide +kernel
theorem dX7_callWrong_10 : decode cX7_callWrong 10 = .ok (.aload_n 0, 1) := by decide +kernel
theorem dX7_callWrong_11 : decode cX7_callWrong 11 = .ok (.getfield 7, 3) := by decide +kernel
theorem dX7_callWrong_14 : decode cX7_callWrong 14 = .ok (.iload_n 1, 1) := by decide +kernel
theorem dX7_callWrong_15 : decode cX7_callWrong 15 = .ok (.invokestatic 52, 3) := by decide +kernel
theorem dX7_callWrong_18 : decode cX7_callWrong 18 = .ok (.iconst 2, 1) := by decide +kernel
theorem dX7_callWrong_19 : decode cX7_callWrong 19 = .ok (.iadd, 1) := by decide +kernel
theorem dX7_callWrong_20 : decode cX7_callWrong 20 = .ok (.iaload, 1) := by decide +kernel
theorem dX7_callWrong_21 : decode cX7_callWrong 21 = .ok (.ifCond .ne 32, 3) := by decide +kernel
theorem dX7_callWrong_24 : decode cX7_callWrong 24 = .ok (.aload_n 0, 1) := by decide +kernel
theorem dX7_callWrong_25 : decode cX7_callWrong 25 = .ok (.getfield 7, 3) := by decide +kernel
theorem dX7_callWrong_28 : decode cX7_callWrong 28 = .ok (.iload_n 1, 1) := by decide +kernel
theorem dX7_callWrong_29 : decode cX7_callWrong 29 = .ok (.invokestatic 52, 3) := by decide +kernel
theorem dX7_callWrong_32 : decode cX7_callWrong 32 = .ok (.iconst 3, 1) := by decide +kernel
theorem dX7_callWrong_33 : decode cX7_callWrong 33 = .ok (.iadd, 1) := by decide +kernel
theorem dX7_callWrong_34 : decode cX7_callWrong 34 = .ok (.iaload, 1) := by decide +kernel
theorem dX7_callWrong_35 : decode cX7_callWrong 35 = .ok (.ifCond .eq 18, 3) := by decide +kernel
theorem dX7_callWrong_38 : decode cX7_callWrong 38 = .ok (.aload_n 0, 1) := by decide +kernel
theorem dX7_callWrong_39 : decode cX7_callWrong 39 = .ok (.getfield 7, 3) := by decide +kernel
theorem dX7_callWrong_42 : decode cX7_callWrong 42 = .ok (.iload_n 1, 1) := by decide +kernel
theorem dX7_callWrong_43 : decode cX7_callWrong 43 = .ok (.invokestatic 52, 3) := by decide +kernel
theorem dX7_callWrong_46 : decode cX7_callWrong 46 = .ok (.iconst 5, 1) := by decide +kernel
theorem dX7_callWrong_47 : decode cX7_callWrong 47 = .ok (.iadd, 1) := by decide +kernel
theorem dX7_callWrong_48 : decode cX7_callWrong 48 = .ok (.iaload, 1) := by decide +kernel
theorem dX7_callWrong_49 : decode cX7_callWrong 49 = .ok (.iconst 1, 1) := by decide +kernel
theorem dX7_callWrong_50 : decode cX7_callWrong 50 = .ok (.if_icmp .ne 8, 3) := by decide +kernel
theorem dX7_callWrong_53 : decode cX7_callWrong 53 = .ok (.bipush (-3), 2) := by decide +kernel
theorem dX7_callWrong_55 : decode cX7_callWrong 55 = .ok (.goto 4, 3) := by decide +kernel
theorem dX7_callWrong_58 : decode cX7_callWrong 58 = .ok (.iconst 0, 1) := by decide +kernel
theorem dX7_callWrong_59 : decode cX7_callWrong 59 = .ok (.ireturn, 1) := by decide +kernel
theorem dX7_call_0 : decode cX7_call 0 = .ok (.aload_n 0, 1) := by decide +kernel
theorem dX7_call_1 : decode cX7_call 1 = .ok (.iload_n 1, 1) := by decide +kernel
theorem dX7_call_2 : decode cX7_call 2 = .ok (.invokevirtual 88, 3) := by decide +kernel
theorem dX7_call_5 : decode cX7_call 5 = .ok (.istore_n 2, 1) := by decide +kernel
theorem dX7_call_6 : decode cX7_call 6 = .ok (.iload_n 2, 1) := by decide +kernel
theorem dX7_call_7 : decode cX7_call 7 = .ok (.ifCond .ge 5, 3) := by decide +kernel
theorem dX7_call_10 : decode cX7_call 10 = .ok (.iload_n 2, 1) := by decide +kernel
theorem dX7_call_11 : decode cX7_call 11 = .ok (.ireturn, 1) := by decide +kernel
theorem dX7_call_12 : decode cX7_call 12 = .ok (.aload_n 0, 1) := by decide +kernel
theorem dX7_call_13 : decode cX7_call 13 = .ok (.invokevirtual 49, 3) := by decide +kernel
theorem dX7_call_16 : decode cX7_call 16 = .ok (.aload_n 0, 1) := by decide +kernel
theorem dX7_call_17 : decode cX7_call 17 = .ok (.getfield 7, 3) := by decide +kernel
theorem dX7_call_20 : decode cX7_call 20 = .ok (.iload_n 1, 1) := by decide +kernel
theorem dX7_call_21 : decode cX7_call 21 = .ok (.invokestatic 52, 3) := by decide +kernel
theorem dX7_call_24 : decode cX7_call 24 = .ok (.iconst 5, 1) := by decide +kernel
theorem dX7_call_25 : decode cX7_call 25 = .ok (.iadd, 1) := by decide +kernel
theorem dX7_call_26 : decode cX7_call 26 = .ok (.iconst 1, 1) := by decide +kernel
theorem dX7_call_27 : decode cX7_call 27 = .ok (.iastore, 1) := by decide +kernel
theorem dX7_call_28 : decode cX7_call 28 = .ok (.aload_n 0, 1) := by decide +kernel
theorem dX7_call_29 : decode cX7_call 29 = .ok (.getfield 7, 3) := by decide +kernel
theorem dX7_call_32 : decode cX7_call 32 = .ok (.iload_n 1, 1) := by decide +kernel
theorem dX7_call_33 : decode cX7_call 33 = .ok (.invokestatic 52, 3) := by decide +kernel
theorem dX7_call_36 : decode cX7_call 36 = .ok (.iconst 3, 1) := by decide +kernel
theorem dX7_call_37 : decode cX7_call 37 = .ok (.iadd, 1) := by decide +kernel
theorem dX7_call_38 : decode cX7_call 38 = .ok (.iaload, 1) := by decide +kernel
theorem dX7_call_39 : decode cX7_call 39 = .ok (.ireturn, 1) := by decide +kernel
theorem dX7_burn_0 : decode cX7_burn 0 = .ok (.aload_n 0, 1) := by decide +kernel
theorem dX7_burn_1 : decode cX7_burn 1 = .ok (.getfield 32, 3) := by decide +kernel
theorem dX7_burn_4 : decode cX7_burn 4 = .ok (.aload_n 0, 1) := by decide +kernel
theorem dX7_burn_5 : decode cX7_burn 5 = .ok (.getfield 7, 3) := by decide +kernel
theorem dX7_burn_8 : decode cX7_burn 8 = .ok (.iload_n 1, 1) := by decide +kernel
theorem dX7_burn_9 : decode cX7_burn 9 = .ok (.invokestatic 52, 3) := by decide +kernel
theorem dX7_burn_12 : decode cX7_burn 12 = .ok (.iaload, 1) := by decide +kernel
theorem dX7_burn_13 : decode cX7_burn 13 = .ok (.iaload, 1) := by decide +kernel
theorem dX7_burn_14 : decode cX7_burn 14 = .ok (.istore_n 3, 1) := by decide +kernel
theorem dX7_burn_15 : decode cX7_burn 15 = .ok (.iload_n 3, 1) := by decide +kernel
theorem dX7_burn_16 : decode cX7_burn 16 = .ok (.iload_n 3, 1) := by decide +kernel
theorem dX7_burn_17 : decode cX7_burn 17 = .ok (.iload_n 2, 1) := by decide +kernel
theorem dX7_burn_18 : decode cX7_burn 18 = .ok (.imul, 1) := by decide +kernel
theorem dX7_burn_19 : decode cX7_burn 19 = .ok (.bipush 40, 2) := by decide +kernel
theorem dX7_burn_21 : decode cX7_burn 21 = .ok (.idiv, 1) := by decide +kernel
theorem dX7_burn_22 : decode cX7_burn 22 = .ok (.isub, 1) := by decide +kernel
theorem dX7_burn_23 : decode cX7_burn 23 = .ok (.ireturn, 1) := by decide +kernel
theorem dX7_isShort_0 : decode cX7_isShort 0 = .ok (.aload_n 0, 1) := by decide +kernel
theorem dX7_isShort_1 : decode cX7_isShort 1 = .ok (.getfield 7, 3) := by decide +kernel
theorem dX7_isShort_4 : decode cX7_isShort 4 = .ok (.iload_n 1, 1) := by decide +kernel
theorem dX7_isShort_5 : decode cX7_isShort 5 = .ok (.invokestatic 52, 3) := by decide +kernel
theorem dX7_isShort_8 : decode cX7_isShort 8 = .ok (.iconst 1, 1) := by decide +kernel
theorem dX7_isShort_9 : decode cX7_isShort 9 = .ok (.iadd, 1) := by decide +kernel
theorem dX7_isShort_10 : decode cX7_isShort 10 = .ok (.iaload, 1) := by decide +kernel
theorem dX7_isShort_11 : decode cX7_isShort 11 = .ok (.aload_n 0, 1) := by decide +kernel
theorem dX7_isShort_12 : decode cX7_isShort 12 = .ok (.getfield 35, 3) := by decide +kernel
theorem dX7_isShort_15 : decode cX7_isShort 15 = .ok (.aload_n 0, 1) := by decide +kernel
theorem dX7_isShort_16 : decode cX7_isShort 16 = .ok (.getfield 7, 3) := by decide +kernel
theorem dX7_isShort_19 : decode cX7_isShort 19 = .ok (.iload_n 1, 1) := by decide +kernel
theorem dX7_isShort_20 : decode cX7_isShort 20 = .ok (.invokestatic 52, 3) := by decide +kernel
theorem dX7_isShort_23 : decode cX7_isShort 23 = .ok (.iaload, 1) := by decide +kernel
theorem dX7_isShort_24 : decode cX7_isShort 24 = .ok (.iaload, 1) := by decide +kernel
theorem dX7_isShort_25 : decode cX7_isShort 25 = .ok (.if_icmp .gt 7, 3) := by decide +kernel
theorem dX7_isShort_28 : decode cX7_isShort 28 = .ok (.iconst 1, 1) := by decide +kernel
theorem dX7_isShort_29 : decode cX7_isShort 29 = .ok (.goto 4, 3) := by decide +kernel
theorem dX7_isShort_32 : decode cX7_isShort 32 = .ok (.iconst 0, 1) := by decide +kernel
theorem dX7_isShort_33 : decode cX7_isShort 33 = .ok (.ireturn, 1) := by decide +kernel
theorem dX7_isOver_0 : decode cX7_isOver 0 = .ok (.aload_n 0, 1) := by decide +kernel
theorem dX7_isOver_1 : decode cX7_isOver 1 = .ok (.getfield 7, 3) := by decide +kernel
theorem dX7_isOver_4 : decode cX7_isOver 4 = .ok (.iload_n 1, 1) := by decide +kernel
theorem dX7_isOver_5 : decode cX7_isOver 5 = .ok (.invokestatic 52, 3) := by decide +kernel
theorem dX7_isOver_8 : decode cX7_isOver 8 = .ok (.iconst 2, 1) := by decide +kernel
theorem dX7_isOver_9 : decode cX7_isOver 9 = .ok (.iadd, 1) := by decide +kernel
theorem dX7_isOver_10 : decode cX7_isOver 10 = .ok (.iaload, 1) := by decide +kernel
theorem dX7_isOver_11 : decode cX7_isOver 11 = .ok (.ifCond .ne 21, 3) := by decide +kernel
theorem dX7_isOver_14 : decode cX7_isOver 14 = .ok (.aload_n 0, 1) := by decide +kernel
theorem dX7_isOver_15 : decode cX7_isOver 15 = .ok (.getfield 7, 3) := by decide +kernel
theorem dX7_isOver_18 : decode cX7_isOver 18 = .ok (.iload_n 1, 1) := by decide +kernel
theorem dX7_isOver_19 : decode cX7_isOver 19 = .ok (.invokestatic 52, 3) := by decide +kernel
theorem dX7_isOver_22 : decode cX7_isOver 22 = .ok (.iconst 4, 1) := by decide +kernel
theorem dX7_isOver_23 : decode cX7_isOver 23 = .ok (.iadd, 1) := by decide +kernel
theorem dX7_isOver_24 : decode cX7_isOver 24 = .ok (.iaload, 1) := by decide +kernel
theorem dX7_isOver_25 : decode cX7_isOver 25 = .ok (.ifCond .ne 7, 3) := by decide +kernel
theorem dX7_isOver_28 : decode cX7_isOver 28 = .ok (.iconst 1, 1) := by decide +kernel
theorem dX7_isOver_29 : decode cX7_isOver 29 = .ok (.goto 4, 3) := by decide +kernel
theorem dX7_isOver_32 : decode cX7_isOver 32 = .ok (.iconst 0, 1) := by decide +kernel
theorem dX7_isOver_33 : decode cX7_isOver 33 = .ok (.ireturn, 1) := by decide +kernel
theorem dX7_leaves_0 : decode cX7_leaves 0 = .ok (.aload_n 0, 1) := by decide +kernel
theorem dX7_leaves_1 : decode cX7_leaves 1 = .ok (.getfield 7, 3) := by decide +kernel
theorem dX7_leaves_4 : decode cX7_leaves 4 = .ok (.iload_n 1, 1) := by decide +kernel
theorem dX7_leaves_5 : decode cX7_leaves 5 = .ok (.invokestatic 52, 3) := by decide +kernel
theorem dX7_leaves_8 : decode cX7_leaves 8 = .ok (.iconst 2, 1) := by decide +kernel
theorem dX7_leaves_9 : decode cX7_leaves 9 = .ok (.iadd, 1) := by decide +kernel
theorem dX7_leaves_10 : decode cX7_leaves 10 = .ok (.iload_n 2, 1) := by decide +kernel
theorem dX7_leaves_11 : decode cX7_leaves 11 = .ok (.iastore, 1) := by decide +kernel
theorem dX7_leaves_12 : decode cX7_leaves 12 = .ok (.aload_n 0, 1) := by decide +kernel
theorem dX7_leaves_13 : decode cX7_leaves 13 = .ok (.getfield 7, 3) := by decide +kernel
theorem dX7_leaves_16 : decode cX7_leaves 16 = .ok (.iload_n 1, 1) := by decide +kernel
theorem dX7_leaves_17 : decode cX7_leaves 17 = .ok (.invokestatic 52, 3) := by decide +kernel
theorem dX7_leaves_20 : decode cX7_leaves 20 = .ok (.bipush 6, 2) := by decide +kernel
theorem dX7_leaves_22 : decode cX7_leaves 22 = .ok (.iadd, 1) := by decide +kernel
theorem dX7_leaves_23 : decode cX7_leaves 23 = .ok (.aload_n 0, 1) := by decide +kernel
theorem dX7_leaves_24 : decode cX7_leaves 24 = .ok (.getfield 7, 3) := by decide +kernel
theorem dX7_leaves_27 : decode cX7_leaves 27 = .ok (.iconst 0, 1) := by decide +kernel
theorem dX7_leaves_28 : decode cX7_leaves 28 = .ok (.iaload, 1) := by decide +kernel
theorem dX7_leaves_29 : decode cX7_leaves 29 = .ok (.iastore, 1) := by decide +kernel
theorem dX7_leaves_30 : decode cX7_leaves 30 = .ok (.aload_n 0, 1) := by decide +kernel
theorem dX7_leaves_31 : decode cX7_leaves 31 = .ok (.getfield 7, 3) := by decide +kernel
theorem dX7_leaves_34 : decode cX7_leaves 34 = .ok (.iload_n 2, 1) := by decide +kernel
theorem dX7_leaves_35 : decode cX7_leaves 35 = .ok (.iconst 1, 1) := by decide +kernel
theorem dX7_leaves_36 : decode cX7_leaves 36 = .ok (.if_icmp .ne 8, 3) := by decide +kernel
theorem dX7_leaves_39 : decode cX7_leaves 39 = .ok (.bipush 11, 2) := by decide +kernel
theorem dX7_leaves_41 : decode cX7_leaves 41 = .ok (.goto 5, 3) := by decide +kernel
theorem dX7_leaves_44 : decode cX7_leaves 44 = .ok (.bipush 12, 2) := by decide +kernel
theorem dX7_leaves_46 : decode cX7_leaves 46 = .ok (.dup2, 1) := by decide +kernel
theorem dX7_leaves_47 : decode cX7_leaves 47 = .ok (.iaload, 1) := by decide +kernel
theorem dX7_leaves_48 : decode cX7_leaves 48 = .ok (.aload_n 0, 1) := by decide +kernel
theorem dX7_leaves_49 : decode cX7_leaves 49 = .ok (.getfield 7, 3) := by decide +kernel
theorem dX7_leaves_52 : decode cX7_leaves 52 = .ok (.iload_n 1, 1) := by decide +kernel
theorem dX7_leaves_53 : decode cX7_leaves 53 = .ok (.invokestatic 52, 3) := by decide +kernel
theorem dX7_leaves_56 : decode cX7_leaves 56 = .ok (.iconst 1, 1) := by decide +kernel
theorem dX7_leaves_57 : decode cX7_leaves 57 = .ok (.iadd, 1) := by decide +kernel
theorem dX7_leaves_58 : decode cX7_leaves 58 = .ok (.iaload, 1) := by decide +kernel
theorem dX7_leaves_59 : decode cX7_leaves 59 = .ok (.iadd, 1) := by decide +kernel
theorem dX7_leaves_60 : decode cX7_leaves 60 = .ok (.iastore, 1) := by decide +kernel
theorem dX7_leaves_61 : decode cX7_leaves 61 = .ok (.return_, 1) := by decide +kernel
theorem dX7_burns_0 : decode cX7_burns 0 = .ok (.iconst 0, 1) := by decide +kernel
theorem dX7_burns_1 : decode cX7_burns 1 = .ok (.istore_n 1, 1) := by decide +kernel
theorem dX7_burns_2 : decode cX7_burns 2 = .ok (.iload_n 1, 1) := by decide +kernel
theorem dX7_burns_3 : decode cX7_burns 3 = .ok (.aload_n 0, 1) := by decide +kernel
theorem dX7_burns_4 : decode cX7_burns 4 = .ok (.getfield 7, 3) := by decide +kernel
theorem dX7_burns_7 : decode cX7_burns 7 = .ok (.iconst 3, 1) := by decide +kernel
theorem dX7_burns_8 : decode cX7_burns 8 = .ok (.iaload, 1) := by decide +kernel
theorem dX7_burns_9 : decode cX7_burns 9 = .ok (.if_icmp .ge 128, 3) := by decide +kernel
theorem dX7_burns_12 : decode cX7_burns 12 = .ok (.iload_n 1, 1) := by decide +kernel
theorem dX7_burns_13 : decode cX7_burns 13 = .ok (.invokestatic 52, 3) := by decide +kernel
theorem dX7_burns_16 : decode cX7_burns 16 = .ok (.istore_n 2, 1) := by decide +kernel
theorem dX7_burns_17 : decode cX7_burns 17 = .ok (.aload_n 0, 1) := by decide +kernel
theorem dX7_burns_18 : decode cX7_burns 18 = .ok (.getfield 7, 3) := by decide +kernel
theorem dX7_burns_21 : decode cX7_burns 21 = .ok (.iload_n 2, 1) := by decide +kernel
theorem dX7_burns_22 : decode cX7_burns 22 = .ok (.iconst 2, 1) := by decide +kernel
theorem dX7_burns_23 : decode cX7_burns 23 = .ok (.iadd, 1) := by decide +kernel
theorem dX7_burns_24 : decode cX7_burns 24 = .ok (.iaload, 1) := by decide +kernel
theorem dX7_burns_25 : decode cX7_burns 25 = .ok (.ifCond .ne 106, 3) := by decide +kernel
theorem dX7_burns_28 : decode cX7_burns 28 = .ok (.aload_n 0, 1) := by decide +kernel
theorem dX7_burns_29 : decode cX7_burns 29 = .ok (.iload_n 1, 1) := by decide +kernel
theorem dX7_burns_30 : decode cX7_burns 30 = .ok (.aload_n 0, 1) := by decide +kernel
theorem dX7_burns_31 : decode cX7_burns 31 = .ok (.getfield 7, 3) := by decide +kernel
theorem dX7_burns_34 : decode cX7_burns 34 = .ok (.iload_n 2, 1) := by decide +kernel
theorem dX7_burns_35 : decode cX7_burns 35 = .ok (.iconst 3, 1) := by decide +kernel
theorem dX7_burns_36 : decode cX7_burns 36 = .ok (.iadd, 1) := by decide +kernel
theorem dX7_burns_37 : decode cX7_burns 37 = .ok (.iaload, 1) := by decide +kernel
theorem dX7_burns_38 : decode cX7_burns 38 = .ok (.invokevirtual 91, 3) := by decide +kernel
theorem dX7_burns_41 : decode cX7_burns 41 = .ok (.istore_n 3, 1) := by decide +kernel
theorem dX7_burns_42 : decode cX7_burns 42 = .ok (.iload_n 3, 1) := by decide +kernel
theorem dX7_burns_43 : decode cX7_burns 43 = .ok (.aload_n 0, 1) := by decide +kernel
theorem dX7_burns_44 : decode cX7_burns 44 = .ok (.getfield 7, 3) := by decide +kernel
theorem dX7_burns_47 : decode cX7_burns 47 = .ok (.iload_n 2, 1) := by decide +kernel
theorem dX7_burns_48 : decode cX7_burns 48 = .ok (.iconst 1, 1) := by decide +kernel
theorem dX7_burns_49 : decode cX7_burns 49 = .ok (.iadd, 1) := by decide +kernel
theorem dX7_burns_50 : decode cX7_burns 50 = .ok (.iaload, 1) := by decide +kernel
theorem dX7_burns_51 : decode cX7_burns 51 = .ok (.if_icmp .ge 7, 3) := by decide +kernel
theorem dX7_burns_54 : decode cX7_burns 54 = .ok (.iload_n 3, 1) := by decide +kernel
theorem dX7_burns_55 : decode cX7_burns 55 = .ok (.goto 11, 3) := by decide +kernel
theorem dX7_burns_58 : decode cX7_burns 58 = .ok (.aload_n 0, 1) := by decide +kernel
theorem dX7_burns_59 : decode cX7_burns 59 = .ok (.getfield 7, 3) := by decide +kernel
theorem dX7_burns_62 : decode cX7_burns 62 = .ok (.iload_n 2, 1) := by decide +kernel
theorem dX7_burns_63 : decode cX7_burns 63 = .ok (.iconst 1, 1) := by decide +kernel
theorem dX7_burns_64 : decode cX7_burns 64 = .ok (.iadd, 1) := by decide +kernel
theorem dX7_burns_65 : decode cX7_burns 65 = .ok (.iaload, 1) := by decide +kernel
theorem dX7_burns_66 : decode cX7_burns 66 = .ok (.istore_n 3, 1) := by decide +kernel
theorem dX7_burns_67 : decode cX7_burns 67 = .ok (.aload_n 0, 1) := by decide +kernel
theorem dX7_burns_68 : decode cX7_burns 68 = .ok (.getfield 7, 3) := by decide +kernel
theorem dX7_burns_71 : decode cX7_burns 71 = .ok (.iload_n 2, 1) := by decide +kernel
theorem dX7_burns_72 : decode cX7_burns 72 = .ok (.iconst 1, 1) := by decide +kernel
theorem dX7_burns_73 : decode cX7_burns 73 = .ok (.iadd, 1) := by decide +kernel
theorem dX7_burns_74 : decode cX7_burns 74 = .ok (.dup2, 1) := by decide +kernel
theorem dX7_burns_75 : decode cX7_burns 75 = .ok (.iaload, 1) := by decide +kernel
theorem dX7_burns_76 : decode cX7_burns 76 = .ok (.iload_n 3, 1) := by decide +kernel
theorem dX7_burns_77 : decode cX7_burns 77 = .ok (.isub, 1) := by decide +kernel
theorem dX7_burns_78 : decode cX7_burns 78 = .ok (.iastore, 1) := by decide +kernel
theorem dX7_burns_79 : decode cX7_burns 79 = .ok (.aload_n 0, 1) := by decide +kernel
theorem dX7_burns_80 : decode cX7_burns 80 = .ok (.getfield 7, 3) := by decide +kernel
theorem dX7_burns_83 : decode cX7_burns 83 = .ok (.bipush 10, 2) := by decide +kernel
theorem dX7_burns_85 : decode cX7_burns 85 = .ok (.dup2, 1) := by decide +kernel
theorem dX7_burns_86 : decode cX7_burns 86 = .ok (.iaload, 1) := by decide +kernel
theorem dX7_burns_87 : decode cX7_burns 87 = .ok (.iload_n 3, 1) := by decide +kernel
theorem dX7_burns_88 : decode cX7_burns 88 = .ok (.iadd, 1) := by decide +kernel
theorem dX7_burns_89 : decode cX7_burns 89 = .ok (.iastore, 1) := by decide +kernel
theorem dX7_burns_90 : decode cX7_burns 90 = .ok (.aload_n 0, 1) := by decide +kernel
theorem dX7_burns_91 : decode cX7_burns 91 = .ok (.getfield 7, 3) := by decide +kernel
theorem dX7_burns_94 : decode cX7_burns 94 = .ok (.iload_n 2, 1) := by decide +kernel
theorem dX7_burns_95 : decode cX7_burns 95 = .ok (.iconst 4, 1) := by decide +kernel
theorem dX7_burns_96 : decode cX7_burns 96 = .ok (.iadd, 1) := by decide +kernel
theorem dX7_burns_97 : decode cX7_burns 97 = .ok (.aload_n 0, 1) := by decide +kernel
theorem dX7_burns_98 : decode cX7_burns 98 = .ok (.getfield 7, 3) := by decide +kernel
theorem dX7_burns_101 : decode cX7_burns 101 = .ok (.iload_n 2, 1) := by decide +kernel
theorem dX7_burns_102 : decode cX7_burns 102 = .ok (.iconst 4, 1) := by decide +kernel
theorem dX7_burns_103 : decode cX7_burns 103 = .ok (.iadd, 1) := by decide +kernel
theorem dX7_burns_104 : decode cX7_burns 104 = .ok (.iaload, 1) := by decide +kernel
theorem dX7_burns_105 : decode cX7_burns 105 = .ok (.iconst 1, 1) := by decide +kernel
theorem dX7_burns_106 : decode cX7_burns 106 = .ok (.iadd, 1) := by decide +kernel
theorem dX7_burns_107 : decode cX7_burns 107 = .ok (.aload_n 0, 1) := by decide +kernel
theorem dX7_burns_108 : decode cX7_burns 108 = .ok (.getfield 7, 3) := by decide +kernel
theorem dX7_burns_111 : decode cX7_burns 111 = .ok (.iconst 2, 1) := by decide +kernel
theorem dX7_burns_112 : decode cX7_burns 112 = .ok (.iaload, 1) := by decide +kernel
theorem dX7_burns_113 : decode cX7_burns 113 = .ok (.if_icmp .ne 7, 3) := by decide +kernel
theorem dX7_burns_116 : decode cX7_burns 116 = .ok (.iconst 0, 1) := by decide +kernel
theorem dX7_burns_117 : decode cX7_burns 117 = .ok (.goto 13, 3) := by decide +kernel
theorem dX7_burns_120 : decode cX7_burns 120 = .ok (.aload_n 0, 1) := by decide +kernel
theorem dX7_burns_121 : decode cX7_burns 121 = .ok (.getfield 7, 3) := by decide +kernel
theorem dX7_burns_124 : decode cX7_burns 124 = .ok (.iload_n 2, 1) := by decide +kernel
theorem dX7_burns_125 : decode cX7_burns 125 = .ok (.iconst 4, 1) := by decide +kernel
theorem dX7_burns_126 : decode cX7_burns 126 = .ok (.iadd, 1) := by decide +kernel
theorem dX7_burns_127 : decode cX7_burns 127 = .ok (.iaload, 1) := by decide +kernel
theorem dX7_burns_128 : decode cX7_burns 128 = .ok (.iconst 1, 1) := by decide +kernel
theorem dX7_burns_129 : decode cX7_burns 129 = .ok (.iadd, 1) := by decide +kernel
theorem dX7_burns_130 : decode cX7_burns 130 = .ok (.iastore, 1) := by decide +kernel
theorem dX7_burns_131 : decode cX7_burns 131 = .ok (.iinc 1 1, 3) := by decide +kernel
theorem dX7_burns_134 : decode cX7_burns 134 = .ok (.goto (-132), 3) := by decide +kernel
theorem dX7_burns_137 : decode cX7_burns 137 = .ok (.iconst 0, 1) := by decide +kernel
theorem dX7_burns_138 : decode cX7_burns 138 = .ok (.istore_n 1, 1) := by decide +kernel
theorem dX7_burns_139 : decode cX7_burns 139 = .ok (.iload_n 1, 1) := by decide +kernel
theorem dX7_burns_140 : decode cX7_burns 140 = .ok (.aload_n 0, 1) := by decide +kernel
theorem dX7_burns_141 : decode cX7_burns 141 = .ok (.getfield 7, 3) := by decide +kernel
theorem dX7_burns_144 : decode cX7_burns 144 = .ok (.iconst 3, 1) := by decide +kernel
theorem dX7_burns_145 : decode cX7_burns 145 = .ok (.iaload, 1) := by decide +kernel
theorem dX7_burns_146 : decode cX7_burns 146 = .ok (.if_icmp .ge 59, 3) := by decide +kernel
theorem dX7_burns_149 : decode cX7_burns 149 = .ok (.aload_n 0, 1) := by decide +kernel
theorem dX7_burns_150 : decode cX7_burns 150 = .ok (.getfield 7, 3) := by decide +kernel
theorem dX7_burns_153 : decode cX7_burns 153 = .ok (.iload_n 1, 1) := by decide +kernel
theorem dX7_burns_154 : decode cX7_burns 154 = .ok (.invokestatic 52, 3) := by decide +kernel
theorem dX7_burns_157 : decode cX7_burns 157 = .ok (.iconst 2, 1) := by decide +kernel
theorem dX7_burns_158 : decode cX7_burns 158 = .ok (.iadd, 1) := by decide +kernel
theorem dX7_burns_159 : decode cX7_burns 159 = .ok (.iaload, 1) := by decide +kernel
theorem dX7_burns_160 : decode cX7_burns 160 = .ok (.ifCond .ne 39, 3) := by decide +kernel
theorem dX7_burns_163 : decode cX7_burns 163 = .ok (.iconst 2, 1) := by decide +kernel
theorem dX7_burns_164 : decode cX7_burns 164 = .ok (.aload_n 0, 1) := by decide +kernel
theorem dX7_burns_165 : decode cX7_burns 165 = .ok (.getfield 7, 3) := by decide +kernel
theorem dX7_burns_168 : decode cX7_burns 168 = .ok (.iload_n 1, 1) := by decide +kernel
theorem dX7_burns_169 : decode cX7_burns 169 = .ok (.invokestatic 52, 3) := by decide +kernel
theorem dX7_burns_172 : decode cX7_burns 172 = .ok (.iconst 1, 1) := by decide +kernel
theorem dX7_burns_173 : decode cX7_burns 173 = .ok (.iadd, 1) := by decide +kernel
theorem dX7_burns_174 : decode cX7_burns 174 = .ok (.iaload, 1) := by decide +kernel
theorem dX7_burns_175 : decode cX7_burns 175 = .ok (.imul, 1) := by decide +kernel
theorem dX7_burns_176 : decode cX7_burns 176 = .ok (.aload_n 0, 1) := by decide +kernel
theorem dX7_burns_177 : decode cX7_burns 177 = .ok (.getfield 35, 3) := by decide +kernel
theorem dX7_burns_180 : decode cX7_burns 180 = .ok (.aload_n 0, 1) := by decide +kernel
theorem dX7_burns_181 : decode cX7_burns 181 = .ok (.getfield 7, 3) := by decide +kernel
theorem dX7_burns_184 : decode cX7_burns 184 = .ok (.iload_n 1, 1) := by decide +kernel
theorem dX7_burns_185 : decode cX7_burns 185 = .ok (.invokestatic 52, 3) := by decide +kernel
theorem dX7_burns_188 : decode cX7_burns 188 = .ok (.iaload, 1) := by decide +kernel
theorem dX7_burns_189 : decode cX7_burns 189 = .ok (.iaload, 1) := by decide +kernel
theorem dX7_burns_190 : decode cX7_burns 190 = .ok (.if_icmp .ge 9, 3) := by decide +kernel
theorem dX7_burns_193 : decode cX7_burns 193 = .ok (.aload_n 0, 1) := by decide +kernel
theorem dX7_burns_194 : decode cX7_burns 194 = .ok (.iload_n 1, 1) := by decide +kernel
theorem dX7_burns_195 : decode cX7_burns 195 = .ok (.iconst 2, 1) := by decide +kernel
theorem dX7_burns_196 : decode cX7_burns 196 = .ok (.invokevirtual 94, 3) := by decide +kernel
theorem dX7_burns_199 : decode cX7_burns 199 = .ok (.iinc 1 1, 3) := by decide +kernel
theorem dX7_burns_202 : decode cX7_burns 202 = .ok (.goto (-63), 3) := by decide +kernel
theorem dX7_burns_205 : decode cX7_burns 205 = .ok (.return_, 1) := by decide +kernel
theorem dX7_lander_0 : decode cX7_lander 0 = .ok (.bipush (-6), 2) := by decide +kernel
theorem dX7_lander_2 : decode cX7_lander 2 = .ok (.istore_n 1, 1) := by decide +kernel
theorem dX7_lander_3 : decode cX7_lander 3 = .ok (.iconst 0, 1) := by decide +kernel
theorem dX7_lander_4 : decode cX7_lander 4 = .ok (.istore_n 2, 1) := by decide +kernel
theorem dX7_lander_5 : decode cX7_lander 5 = .ok (.iload_n 2, 1) := by decide +kernel
theorem dX7_lander_6 : decode cX7_lander 6 = .ok (.aload_n 0, 1) := by decide +kernel
theorem dX7_lander_7 : decode cX7_lander 7 = .ok (.getfield 7, 3) := by decide +kernel
theorem dX7_lander_10 : decode cX7_lander 10 = .ok (.iconst 3, 1) := by decide +kernel
theorem dX7_lander_11 : decode cX7_lander 11 = .ok (.iaload, 1) := by decide +kernel
theorem dX7_lander_12 : decode cX7_lander 12 = .ok (.if_icmp .ge 96, 3) := by decide +kernel
theorem dX7_lander_15 : decode cX7_lander 15 = .ok (.aload_n 0, 1) := by decide +kernel
theorem dX7_lander_16 : decode cX7_lander 16 = .ok (.iload_n 2, 1) := by decide +kernel
theorem dX7_lander_17 : decode cX7_lander 17 = .ok (.invokevirtual 98, 3) := by decide +kernel
theorem dX7_lander_20 : decode cX7_lander 20 = .ok (.ifCond .eq 82, 3) := by decide +kernel
theorem dX7_lander_23 : decode cX7_lander 23 = .ok (.aload_n 0, 1) := by decide +kernel
theorem dX7_lander_24 : decode cX7_lander 24 = .ok (.iload_n 2, 1) := by decide +kernel
theorem dX7_lander_25 : decode cX7_lander 25 = .ok (.invokevirtual 101, 3) := by decide +kernel
theorem dX7_lander_28 : decode cX7_lander 28 = .ok (.ifCond .eq 74, 3) := by decide +kernel
theorem dX7_lander_31 : decode cX7_lander 31 = .ok (.iload_n 1, 1) := by decide +kernel
theorem dX7_lander_32 : decode cX7_lander 32 = .ok (.ifCond .ge 7, 3) := by decide +kernel
theorem dX7_lander_35 : decode cX7_lander 35 = .ok (.iconst (-1), 1) := by decide +kernel
theorem dX7_lander_36 : decode cX7_lander 36 = .ok (.goto 26, 3) := by decide +kernel
theorem dX7_lander_39 : decode cX7_lander 39 = .ok (.aload_n 0, 1) := by decide +kernel
theorem dX7_lander_40 : decode cX7_lander 40 = .ok (.getfield 7, 3) := by decide +kernel
theorem dX7_lander_43 : decode cX7_lander 43 = .ok (.iload_n 2, 1) := by decide +kernel
theorem dX7_lander_44 : decode cX7_lander 44 = .ok (.invokestatic 52, 3) := by decide +kernel
theorem dX7_lander_47 : decode cX7_lander 47 = .ok (.iconst 1, 1) := by decide +kernel
theorem dX7_lander_48 : decode cX7_lander 48 = .ok (.iadd, 1) := by decide +kernel
theorem dX7_lander_49 : decode cX7_lander 49 = .ok (.iaload, 1) := by decide +kernel
theorem dX7_lander_50 : decode cX7_lander 50 = .ok (.aload_n 0, 1) := by decide +kernel
theorem dX7_lander_51 : decode cX7_lander 51 = .ok (.getfield 7, 3) := by decide +kernel
theorem dX7_lander_54 : decode cX7_lander 54 = .ok (.iload_n 1, 1) := by decide +kernel
theorem dX7_lander_55 : decode cX7_lander 55 = .ok (.invokestatic 52, 3) := by decide +kernel
theorem dX7_lander_58 : decode cX7_lander 58 = .ok (.iconst 1, 1) := by decide +kernel
theorem dX7_lander_59 : decode cX7_lander 59 = .ok (.iadd, 1) := by decide +kernel
theorem dX7_lander_60 : decode cX7_lander 60 = .ok (.iaload, 1) := by decide +kernel
theorem dX7_lander_61 : decode cX7_lander 61 = .ok (.isub, 1) := by decide +kernel
theorem dX7_lander_62 : decode cX7_lander 62 = .ok (.istore_n 3, 1) := by decide +kernel
theorem dX7_lander_63 : decode cX7_lander 63 = .ok (.iload_n 3, 1) := by decide +kernel
theorem dX7_lander_64 : decode cX7_lander 64 = .ok (.ifCond .lt 32, 3) := by decide +kernel
theorem dX7_lander_67 : decode cX7_lander 67 = .ok (.iload_n 3, 1) := by decide +kernel
theorem dX7_lander_68 : decode cX7_lander 68 = .ok (.ifCond .ne 32, 3) := by decide +kernel
theorem dX7_lander_71 : decode cX7_lander 71 = .ok (.aload_n 0, 1) := by decide +kernel
theorem dX7_lander_72 : decode cX7_lander 72 = .ok (.getfield 7, 3) := by decide +kernel
theorem dX7_lander_75 : decode cX7_lander 75 = .ok (.iload_n 2, 1) := by decide +kernel
theorem dX7_lander_76 : decode cX7_lander 76 = .ok (.invokestatic 52, 3) := by decide +kernel
theorem dX7_lander_79 : decode cX7_lander 79 = .ok (.iconst 3, 1) := by decide +kernel
theorem dX7_lander_80 : decode cX7_lander 80 = .ok (.iadd, 1) := by decide +kernel
theorem dX7_lander_81 : decode cX7_lander 81 = .ok (.iaload, 1) := by decide +kernel
theorem dX7_lander_82 : decode cX7_lander 82 = .ok (.aload_n 0, 1) := by decide +kernel
theorem dX7_lander_83 : decode cX7_lander 83 = .ok (.getfield 7, 3) := by decide +kernel
theorem dX7_lander_86 : decode cX7_lander 86 = .ok (.iload_n 1, 1) := by decide +kernel
theorem dX7_lander_87 : decode cX7_lander 87 = .ok (.invokestatic 52, 3) := by decide +kernel
theorem dX7_lander_90 : decode cX7_lander 90 = .ok (.iconst 3, 1) := by decide +kernel
theorem dX7_lander_91 : decode cX7_lander 91 = .ok (.iadd, 1) := by decide +kernel
theorem dX7_lander_92 : decode cX7_lander 92 = .ok (.iaload, 1) := by decide +kernel
theorem dX7_lander_93 : decode cX7_lander 93 = .ok (.if_icmp .ge 7, 3) := by decide +kernel
theorem dX7_lander_96 : decode cX7_lander 96 = .ok (.iload_n 2, 1) := by decide +kernel
theorem dX7_lander_97 : decode cX7_lander 97 = .ok (.goto 4, 3) := by decide +kernel
theorem dX7_lander_100 : decode cX7_lander 100 = .ok (.iload_n 1, 1) := by decide +kernel
theorem dX7_lander_101 : decode cX7_lander 101 = .ok (.istore_n 1, 1) := by decide +kernel
theorem dX7_lander_102 : decode cX7_lander 102 = .ok (.iinc 2 1, 3) := by decide +kernel
theorem dX7_lander_105 : decode cX7_lander 105 = .ok (.goto (-100), 3) := by decide +kernel
theorem dX7_lander_108 : decode cX7_lander 108 = .ok (.aload_n 0, 1) := by decide +kernel
theorem dX7_lander_109 : decode cX7_lander 109 = .ok (.iconst 0, 1) := by decide +kernel
theorem dX7_lander_110 : decode cX7_lander 110 = .ok (.invokevirtual 68, 3) := by decide +kernel
theorem dX7_lander_113 : decode cX7_lander 113 = .ok (.istore_n 2, 1) := by decide +kernel
theorem dX7_lander_114 : decode cX7_lander 114 = .ok (.iload_n 1, 1) := by decide +kernel
theorem dX7_lander_115 : decode cX7_lander 115 = .ok (.ifCond .lt 7, 3) := by decide +kernel
theorem dX7_lander_118 : decode cX7_lander 118 = .ok (.iload_n 1, 1) := by decide +kernel
theorem dX7_lander_119 : decode cX7_lander 119 = .ok (.goto 21, 3) := by decide +kernel
theorem dX7_lander_122 : decode cX7_lander 122 = .ok (.iload_n 2, 1) := by decide +kernel
theorem dX7_lander_123 : decode cX7_lander 123 = .ok (.ifCond .lt 15, 3) := by decide +kernel
theorem dX7_lander_126 : decode cX7_lander 126 = .ok (.aload_n 0, 1) := by decide +kernel
theorem dX7_lander_127 : decode cX7_lander 127 = .ok (.iload_n 2, 1) := by decide +kernel
theorem dX7_lander_128 : decode cX7_lander 128 = .ok (.invokevirtual 98, 3) := by decide +kernel
theorem dX7_lander_131 : decode cX7_lander 131 = .ok (.ifCond .eq 7, 3) := by decide +kernel
theorem dX7_lander_134 : decode cX7_lander 134 = .ok (.iload_n 2, 1) := by decide +kernel
theorem dX7_lander_135 : decode cX7_lander 135 = .ok (.goto 5, 3) := by decide +kernel
theorem dX7_lander_138 : decode cX7_lander 138 = .ok (.bipush (-6), 2) := by decide +kernel
theorem dX7_lander_140 : decode cX7_lander 140 = .ok (.ireturn, 1) := by decide +kernel
theorem dX7_passes_0 : decode cX7_passes 0 = .ok (.aload_n 0, 1) := by decide +kernel
theorem dX7_passes_1 : decode cX7_passes 1 = .ok (.invokevirtual 104, 3) := by decide +kernel
theorem dX7_passes_4 : decode cX7_passes 4 = .ok (.aload_n 0, 1) := by decide +kernel
theorem dX7_passes_5 : decode cX7_passes 5 = .ok (.getfield 7, 3) := by decide +kernel
theorem dX7_passes_8 : decode cX7_passes 8 = .ok (.iconst 4, 1) := by decide +kernel
theorem dX7_passes_9 : decode cX7_passes 9 = .ok (.dup2, 1) := by decide +kernel
theorem dX7_passes_10 : decode cX7_passes 10 = .ok (.iaload, 1) := by decide +kernel
theorem dX7_passes_11 : decode cX7_passes 11 = .ok (.aload_n 0, 1) := by decide +kernel
theorem dX7_passes_12 : decode cX7_passes 12 = .ok (.getfield 7, 3) := by decide +kernel
theorem dX7_passes_15 : decode cX7_passes 15 = .ok (.iconst 4, 1) := by decide +kernel
theorem dX7_passes_16 : decode cX7_passes 16 = .ok (.iaload, 1) := by decide +kernel
theorem dX7_passes_17 : decode cX7_passes 17 = .ok (.ifCond .le 7, 3) := by decide +kernel
theorem dX7_passes_20 : decode cX7_passes 20 = .ok (.iconst 1, 1) := by decide +kernel
theorem dX7_passes_21 : decode cX7_passes 21 = .ok (.goto 4, 3) := by decide +kernel
theorem dX7_passes_24 : decode cX7_passes 24 = .ok (.iconst 0, 1) := by decide +kernel
theorem dX7_passes_25 : decode cX7_passes 25 = .ok (.isub, 1) := by decide +kernel
theorem dX7_passes_26 : decode cX7_passes 26 = .ok (.iastore, 1) := by decide +kernel
theorem dX7_passes_27 : decode cX7_passes 27 = .ok (.aload_n 0, 1) := by decide +kernel
theorem dX7_passes_28 : decode cX7_passes 28 = .ok (.getfield 7, 3) := by decide +kernel
theorem dX7_passes_31 : decode cX7_passes 31 = .ok (.iconst 5, 1) := by decide +kernel
theorem dX7_passes_32 : decode cX7_passes 32 = .ok (.iaload, 1) := by decide +kernel
theorem dX7_passes_33 : decode cX7_passes 33 = .ok (.iconst 1, 1) := by decide +kernel
theorem dX7_passes_34 : decode cX7_passes 34 = .ok (.if_icmp .ne 19, 3) := by decide +kernel
theorem dX7_passes_37 : decode cX7_passes 37 = .ok (.aload_n 0, 1) := by decide +kernel
theorem dX7_passes_38 : decode cX7_passes 38 = .ok (.getfield 7, 3) := by decide +kernel
theorem dX7_passes_41 : decode cX7_passes 41 = .ok (.iconst 4, 1) := by decide +kernel
theorem dX7_passes_42 : decode cX7_passes 42 = .ok (.iaload, 1) := by decide +kernel
theorem dX7_passes_43 : decode cX7_passes 43 = .ok (.ifCond .ne 10, 3) := by decide +kernel
theorem dX7_passes_46 : decode cX7_passes 46 = .ok (.aload_n 0, 1) := by decide +kernel
theorem dX7_passes_47 : decode cX7_passes 47 = .ok (.invokevirtual 107, 3) := by decide +kernel
theorem dX7_passes_50 : decode cX7_passes 50 = .ok (.goto 5, 3) := by decide +kernel
theorem dX7_passes_53 : decode cX7_passes 53 = .ok (.bipush (-6), 2) := by decide +kernel
theorem dX7_passes_55 : decode cX7_passes 55 = .ok (.istore_n 1, 1) := by decide +kernel
theorem dX7_passes_56 : decode cX7_passes 56 = .ok (.iload_n 1, 1) := by decide +kernel
theorem dX7_passes_57 : decode cX7_passes 57 = .ok (.ifCond .lt 29, 3) := by decide +kernel
theorem dX7_passes_60 : decode cX7_passes 60 = .ok (.aload_n 0, 1) := by decide +kernel
theorem dX7_passes_61 : decode cX7_passes 61 = .ok (.iload_n 1, 1) := by decide +kernel
theorem dX7_passes_62 : decode cX7_passes 62 = .ok (.iconst 1, 1) := by decide +kernel
theorem dX7_passes_63 : decode cX7_passes 63 = .ok (.invokevirtual 94, 3) := by decide +kernel
theorem dX7_passes_66 : decode cX7_passes 66 = .ok (.aload_n 0, 1) := by decide +kernel
theorem dX7_passes_67 : decode cX7_passes 67 = .ok (.getfield 7, 3) := by decide +kernel
theorem dX7_passes_70 : decode cX7_passes 70 = .ok (.iconst 4, 1) := by decide +kernel
theorem dX7_passes_71 : decode cX7_passes 71 = .ok (.aload_n 0, 1) := by decide +kernel
theorem dX7_passes_72 : decode cX7_passes 72 = .ok (.getfield 38, 3) := by decide +kernel
theorem dX7_passes_75 : decode cX7_passes 75 = .ok (.aload_n 0, 1) := by decide +kernel
theorem dX7_passes_76 : decode cX7_passes 76 = .ok (.getfield 7, 3) := by decide +kernel
theorem dX7_passes_79 : decode cX7_passes 79 = .ok (.iload_n 1, 1) := by decide +kernel
theorem dX7_passes_80 : decode cX7_passes 80 = .ok (.invokestatic 52, 3) := by decide +kernel
theorem dX7_passes_83 : decode cX7_passes 83 = .ok (.iaload, 1) := by decide +kernel
theorem dX7_passes_84 : decode cX7_passes 84 = .ok (.iaload, 1) := by decide +kernel
theorem dX7_passes_85 : decode cX7_passes 85 = .ok (.iastore, 1) := by decide +kernel
theorem dX7_passes_86 : decode cX7_passes 86 = .ok (.iconst 1, 1) := by decide +kernel
theorem dX7_passes_87 : decode cX7_passes 87 = .ok (.istore_n 2, 1) := by decide +kernel
theorem dX7_passes_88 : decode cX7_passes 88 = .ok (.iload_n 2, 1) := by decide +kernel
theorem dX7_passes_89 : decode cX7_passes 89 = .ok (.aload_n 0, 1) := by decide +kernel
theorem dX7_passes_90 : decode cX7_passes 90 = .ok (.getfield 7, 3) := by decide +kernel
theorem dX7_passes_93 : decode cX7_passes 93 = .ok (.iconst 1, 1) := by decide +kernel
theorem dX7_passes_94 : decode cX7_passes 94 = .ok (.iaload, 1) := by decide +kernel
theorem dX7_passes_95 : decode cX7_passes 95 = .ok (.if_icmp .ge 102, 3) := by decide +kernel
theorem dX7_passes_98 : decode cX7_passes 98 = .ok (.aload_n 0, 1) := by decide +kernel
theorem dX7_passes_99 : decode cX7_passes 99 = .ok (.iload_n 2, 1) := by decide +kernel
theorem dX7_passes_100 : decode cX7_passes 100 = .ok (.invokevirtual 68, 3) := by decide +kernel
theorem dX7_passes_103 : decode cX7_passes 103 = .ok (.istore_n 3, 1) := by decide +kernel
theorem dX7_passes_104 : decode cX7_passes 104 = .ok (.iload_n 3, 1) := by decide +kernel
theorem dX7_passes_105 : decode cX7_passes 105 = .ok (.ifCond .lt 86, 3) := by decide +kernel
theorem dX7_passes_108 : decode cX7_passes 108 = .ok (.aload_n 0, 1) := by decide +kernel
theorem dX7_passes_109 : decode cX7_passes 109 = .ok (.iload_n 3, 1) := by decide +kernel
theorem dX7_passes_110 : decode cX7_passes 110 = .ok (.invokevirtual 98, 3) := by decide +kernel
theorem dX7_passes_113 : decode cX7_passes 113 = .ok (.ifCond .eq 78, 3) := by decide +kernel
theorem dX7_passes_116 : decode cX7_passes 116 = .ok (.aload_n 0, 1) := by decide +kernel
theorem dX7_passes_117 : decode cX7_passes 117 = .ok (.iload_n 2, 1) := by decide +kernel
theorem dX7_passes_118 : decode cX7_passes 118 = .ok (.iconst 1, 1) := by decide +kernel
theorem dX7_passes_119 : decode cX7_passes 119 = .ok (.isub, 1) := by decide +kernel
theorem dX7_passes_120 : decode cX7_passes 120 = .ok (.invokevirtual 68, 3) := by decide +kernel
theorem dX7_passes_123 : decode cX7_passes 123 = .ok (.bipush (-6), 2) := by decide +kernel
theorem dX7_passes_125 : decode cX7_passes 125 = .ok (.if_icmp .ne 66, 3) := by decide +kernel
theorem dX7_passes_128 : decode cX7_passes 128 = .ok (.aload_n 0, 1) := by decide +kernel
theorem dX7_passes_129 : decode cX7_passes 129 = .ok (.getfield 7, 3) := by decide +kernel
theorem dX7_passes_132 : decode cX7_passes 132 = .ok (.bipush 6, 2) := by decide +kernel
theorem dX7_passes_134 : decode cX7_passes 134 = .ok (.iaload, 1) := by decide +kernel
theorem dX7_passes_135 : decode cX7_passes 135 = .ok (.iconst 1, 1) := by decide +kernel
theorem dX7_passes_136 : decode cX7_passes 136 = .ok (.if_icmp .eq 18, 3) := by decide +kernel
theorem dX7_passes_139 : decode cX7_passes 139 = .ok (.aload_n 0, 1) := by decide +kernel
theorem dX7_passes_140 : decode cX7_passes 140 = .ok (.getfield 7, 3) := by decide +kernel
theorem dX7_passes_143 : decode cX7_passes 143 = .ok (.iload_n 3, 1) := by decide +kernel
theorem dX7_passes_144 : decode cX7_passes 144 = .ok (.invokestatic 52, 3) := by decide +kernel
theorem dX7_passes_147 : decode cX7_passes 147 = .ok (.iconst 5, 1) := by decide +kernel
theorem dX7_passes_148 : decode cX7_passes 148 = .ok (.iadd, 1) := by decide +kernel
theorem dX7_passes_149 : decode cX7_passes 149 = .ok (.iaload, 1) := by decide +kernel
theorem dX7_passes_150 : decode cX7_passes 150 = .ok (.iconst 1, 1) := by decide +kernel
theorem dX7_passes_151 : decode cX7_passes 151 = .ok (.if_icmp .ne 40, 3) := by decide +kernel
theorem dX7_passes_154 : decode cX7_passes 154 = .ok (.aload_n 0, 1) := by decide +kernel
theorem dX7_passes_155 : decode cX7_passes 155 = .ok (.getfield 7, 3) := by decide +kernel
theorem dX7_passes_158 : decode cX7_passes 158 = .ok (.iload_n 3, 1) := by decide +kernel
theorem dX7_passes_159 : decode cX7_passes 159 = .ok (.invokestatic 52, 3) := by decide +kernel
theorem dX7_passes_162 : decode cX7_passes 162 = .ok (.iconst 3, 1) := by decide +kernel
theorem dX7_passes_163 : decode cX7_passes 163 = .ok (.iadd, 1) := by decide +kernel
theorem dX7_passes_164 : decode cX7_passes 164 = .ok (.iload_n 2, 1) := by decide +kernel
theorem dX7_passes_165 : decode cX7_passes 165 = .ok (.iconst 1, 1) := by decide +kernel
theorem dX7_passes_166 : decode cX7_passes 166 = .ok (.isub, 1) := by decide +kernel
theorem dX7_passes_167 : decode cX7_passes 167 = .ok (.iastore, 1) := by decide +kernel
theorem dX7_passes_168 : decode cX7_passes 168 = .ok (.aload_n 0, 1) := by decide +kernel
theorem dX7_passes_169 : decode cX7_passes 169 = .ok (.getfield 7, 3) := by decide +kernel
theorem dX7_passes_172 : decode cX7_passes 172 = .ok (.iload_n 3, 1) := by decide +kernel
theorem dX7_passes_173 : decode cX7_passes 173 = .ok (.invokestatic 52, 3) := by decide +kernel
theorem dX7_passes_176 : decode cX7_passes 176 = .ok (.iconst 5, 1) := by decide +kernel
theorem dX7_passes_177 : decode cX7_passes 177 = .ok (.iadd, 1) := by decide +kernel
theorem dX7_passes_178 : decode cX7_passes 178 = .ok (.iconst 0, 1) := by decide +kernel
theorem dX7_passes_179 : decode cX7_passes 179 = .ok (.iastore, 1) := by decide +kernel
theorem dX7_passes_180 : decode cX7_passes 180 = .ok (.aload_n 0, 1) := by decide +kernel
theorem dX7_passes_181 : decode cX7_passes 181 = .ok (.getfield 7, 3) := by decide +kernel
theorem dX7_passes_184 : decode cX7_passes 184 = .ok (.bipush 8, 2) := by decide +kernel
theorem dX7_passes_186 : decode cX7_passes 186 = .ok (.dup2, 1) := by decide +kernel
theorem dX7_passes_187 : decode cX7_passes 187 = .ok (.iaload, 1) := by decide +kernel
theorem dX7_passes_188 : decode cX7_passes 188 = .ok (.iconst 1, 1) := by decide +kernel
theorem dX7_passes_189 : decode cX7_passes 189 = .ok (.iadd, 1) := by decide +kernel
theorem dX7_passes_190 : decode cX7_passes 190 = .ok (.iastore, 1) := by decide +kernel
theorem dX7_passes_191 : decode cX7_passes 191 = .ok (.iinc 2 1, 3) := by decide +kernel
theorem dX7_passes_194 : decode cX7_passes 194 = .ok (.goto (-106), 3) := by decide +kernel
theorem dX7_passes_197 : decode cX7_passes 197 = .ok (.aload_n 0, 1) := by decide +kernel
theorem dX7_passes_198 : decode cX7_passes 198 = .ok (.getfield 7, 3) := by decide +kernel
theorem dX7_passes_201 : decode cX7_passes 201 = .ok (.iconst 0, 1) := by decide +kernel
theorem dX7_passes_202 : decode cX7_passes 202 = .ok (.dup2, 1) := by decide +kernel
theorem dX7_passes_203 : decode cX7_passes 203 = .ok (.iaload, 1) := by decide +kernel
theorem dX7_passes_204 : decode cX7_passes 204 = .ok (.iconst 1, 1) := by decide +kernel
theorem dX7_passes_205 : decode cX7_passes 205 = .ok (.iadd, 1) := by decide +kernel
theorem dX7_passes_206 : decode cX7_passes 206 = .ok (.iastore, 1) := by decide +kernel
theorem dX7_passes_207 : decode cX7_passes 207 = .ok (.iload_n 1, 1) := by decide +kernel
theorem dX7_passes_208 : decode cX7_passes 208 = .ok (.ireturn, 1) := by decide +kernel
theorem dX7_minutesPass_0 : decode cX7_minutesPass 0 = .ok (.iconst 0, 1) := by decide +kernel
theorem dX7_minutesPass_1 : decode cX7_minutesPass 1 = .ok (.istore_n 2, 1) := by decide +kernel
theorem dX7_minutesPass_2 : decode cX7_minutesPass 2 = .ok (.iconst 0, 1) := by decide +kernel
theorem dX7_minutesPass_3 : decode cX7_minutesPass 3 = .ok (.istore_n 3, 1) := by decide +kernel
theorem dX7_minutesPass_4 : decode cX7_minutesPass 4 = .ok (.iload_n 3, 1) := by decide +kernel
theorem dX7_minutesPass_5 : decode cX7_minutesPass 5 = .ok (.iload_n 1, 1) := by decide +kernel
theorem dX7_minutesPass_6 : decode cX7_minutesPass 6 = .ok (.if_icmp .ge 24, 3) := by decide +kernel
theorem dX7_minutesPass_9 : decode cX7_minutesPass 9 = .ok (.iload_n 2, 1) := by decide +kernel
theorem dX7_minutesPass_10 : decode cX7_minutesPass 10 = .ok (.aload_n 0, 1) := by decide +kernel
theorem dX7_minutesPass_11 : decode cX7_minutesPass 11 = .ok (.invokevirtual 110, 3) := by decide +kernel
theorem dX7_minutesPass_14 : decode cX7_minutesPass 14 = .ok (.ifCond .lt 7, 3) := by decide +kernel
theorem dX7_minutesPass_17 : decode cX7_minutesPass 17 = .ok (.iconst 1, 1) := by decide +kernel
theorem dX7_minutesPass_18 : decode cX7_minutesPass 18 = .ok (.goto 4, 3) := by decide +kernel
theorem dX7_minutesPass_21 : decode cX7_minutesPass 21 = .ok (.iconst 0, 1) := by decide +kernel
theorem dX7_minutesPass_22 : decode cX7_minutesPass 22 = .ok (.iadd, 1) := by decide +kernel
theorem dX7_minutesPass_23 : decode cX7_minutesPass 23 = .ok (.istore_n 2, 1) := by decide +kernel
theorem dX7_minutesPass_24 : decode cX7_minutesPass 24 = .ok (.iinc 3 1, 3) := by decide +kernel
theorem dX7_minutesPass_27 : decode cX7_minutesPass 27 = .ok (.goto (-23), 3) := by decide +kernel
theorem dX7_minutesPass_30 : decode cX7_minutesPass 30 = .ok (.iload_n 2, 1) := by decide +kernel
theorem dX7_minutesPass_31 : decode cX7_minutesPass 31 = .ok (.ireturn, 1) := by decide +kernel
theorem dX7_pass_0 : decode cX7_pass 0 = .ok (.iload_n 1, 1) := by decide +kernel
theorem dX7_pass_1 : decode cX7_pass 1 = .ok (.iconst 1, 1) := by decide +kernel
theorem dX7_pass_2 : decode cX7_pass 2 = .ok (.bipush 99, 2) := by decide +kernel
theorem dX7_pass_4 : decode cX7_pass 4 = .ok (.invokestatic 41, 3) := by decide +kernel
theorem dX7_pass_7 : decode cX7_pass 7 = .ok (.ifCond .ne 6, 3) := by decide +kernel
theorem dX7_pass_10 : decode cX7_pass 10 = .ok (.bipush (-2), 2) := by decide +kernel
theorem dX7_pass_12 : decode cX7_pass 12 = .ok (.ireturn, 1) := by decide +kernel
theorem dX7_pass_13 : decode cX7_pass 13 = .ok (.aload_n 0, 1) := by decide +kernel
theorem dX7_pass_14 : decode cX7_pass 14 = .ok (.invokevirtual 49, 3) := by decide +kernel
theorem dX7_pass_17 : decode cX7_pass 17 = .ok (.aload_n 0, 1) := by decide +kernel
theorem dX7_pass_18 : decode cX7_pass 18 = .ok (.iload_n 1, 1) := by decide +kernel
theorem dX7_pass_19 : decode cX7_pass 19 = .ok (.invokevirtual 113, 3) := by decide +kernel
theorem dX7_pass_22 : decode cX7_pass 22 = .ok (.ireturn, 1) := by decide +kernel
theorem dX7_level_0 : decode cX7_level 0 = .ok (.aload_n 0, 1) := by decide +kernel
theorem dX7_level_1 : decode cX7_level 1 = .ok (.iload_n 1, 1) := by decide +kernel
theorem dX7_level_2 : decode cX7_level 2 = .ok (.invokevirtual 64, 3) := by decide +kernel
theorem dX7_level_5 : decode cX7_level 5 = .ok (.ifCond .eq 11, 3) := by decide +kernel
theorem dX7_level_8 : decode cX7_level 8 = .ok (.aload_n 0, 1) := by decide +kernel
theorem dX7_level_9 : decode cX7_level 9 = .ok (.iload_n 1, 1) := by decide +kernel
theorem dX7_level_10 : decode cX7_level 10 = .ok (.invokevirtual 68, 3) := by decide +kernel
theorem dX7_level_13 : decode cX7_level 13 = .ok (.goto 4, 3) := by decide +kernel
theorem dX7_level_16 : decode cX7_level 16 = .ok (.iconst (-1), 1) := by decide +kernel
theorem dX7_level_17 : decode cX7_level 17 = .ok (.ireturn, 1) := by decide +kernel
theorem dX7_craftTells_0 : decode cX7_craftTells 0 = .ok (.iload_n 1, 1) := by decide +kernel
theorem dX7_craftTells_1 : decode cX7_craftTells 1 = .ok (.invokestatic 52, 3) := by decide +kernel
theorem dX7_craftTells_4 : decode cX7_craftTells 4 = .ok (.istore_n 3, 1) := by decide +kernel
theorem dX7_craftTells_5 : decode cX7_craftTells 5 = .ok (.aload_n 0, 1) := by decide +kernel
theorem dX7_craftTells_6 : decode cX7_craftTells 6 = .ok (.getfield 7, 3) := by decide +kernel
theorem dX7_craftTells_9 : decode cX7_craftTells 9 = .ok (.iload_n 3, 1) := by decide +kernel
theorem dX7_craftTells_10 : decode cX7_craftTells 10 = .ok (.iconst 2, 1) := by decide +kernel
theorem dX7_craftTells_11 : decode cX7_craftTells 11 = .ok (.iadd, 1) := by decide +kernel
theorem dX7_craftTells_12 : decode cX7_craftTells 12 = .ok (.iaload, 1) := by decide +kernel
theorem dX7_craftTells_13 : decode cX7_craftTells 13 = .ok (.ifCond .ne 7, 3) := by decide +kernel
theorem dX7_craftTells_16 : decode cX7_craftTells 16 = .ok (.iconst 1, 1) := by decide +kernel
theorem dX7_craftTells_17 : decode cX7_craftTells 17 = .ok (.goto 4, 3) := by decide +kernel
theorem dX7_craftTells_20 : decode cX7_craftTells 20 = .ok (.iconst 0, 1) := by decide +kernel
theorem dX7_craftTells_21 : decode cX7_craftTells 21 = .ok (.istore 4, 2) := by decide +kernel
theorem dX7_craftTells_23 : decode cX7_craftTells 23 = .ok (.iload_n 2, 1) := by decide +kernel
theorem dX7_craftTells_24 : decode cX7_craftTells 24 = .ok (.iconst 3, 1) := by decide +kernel
theorem dX7_craftTells_25 : decode cX7_craftTells 25 = .ok (.if_icmp .ge 12, 3) := by decide +kernel
theorem dX7_craftTells_28 : decode cX7_craftTells 28 = .ok (.aload_n 0, 1) := by decide +kernel
theorem dX7_craftTells_29 : decode cX7_craftTells 29 = .ok (.getfield 7, 3) := by decide +kernel
theorem dX7_craftTells_32 : decode cX7_craftTells 32 = .ok (.iload_n 3, 1) := by decide +kernel
theorem dX7_craftTells_33 : decode cX7_craftTells 33 = .ok (.iload_n 2, 1) := by decide +kernel
theorem dX7_craftTells_34 : decode cX7_craftTells 34 = .ok (.iadd, 1) := by decide +kernel
theorem dX7_craftTells_35 : decode cX7_craftTells 35 = .ok (.iaload, 1) := by decide +kernel
theorem dX7_craftTells_36 : decode cX7_craftTells 36 = .ok (.ireturn, 1) := by decide +kernel
theorem dX7_craftTells_37 : decode cX7_craftTells 37 = .ok (.iload_n 2, 1) := by decide +kernel
theorem dX7_craftTells_38 : decode cX7_craftTells 38 = .ok (.bipush 6, 2) := by decide +kernel
theorem dX7_craftTells_40 : decode cX7_craftTells 40 = .ok (.if_icmp .ne 17, 3) := by decide +kernel
theorem dX7_craftTells_43 : decode cX7_craftTells 43 = .ok (.aload_n 0, 1) := by decide +kernel
theorem dX7_craftTells_44 : decode cX7_craftTells 44 = .ok (.iload_n 1, 1) := by decide +kernel
theorem dX7_craftTells_45 : decode cX7_craftTells 45 = .ok (.invokevirtual 101, 3) := by decide +kernel
theorem dX7_craftTells_48 : decode cX7_craftTells 48 = .ok (.ifCond .eq 7, 3) := by decide +kernel
theorem dX7_craftTells_51 : decode cX7_craftTells 51 = .ok (.iconst 1, 1) := by decide +kernel
theorem dX7_craftTells_52 : decode cX7_craftTells 52 = .ok (.goto 4, 3) := by decide +kernel
theorem dX7_craftTells_55 : decode cX7_craftTells 55 = .ok (.iconst 0, 1) := by decide +kernel
theorem dX7_craftTells_56 : decode cX7_craftTells 56 = .ok (.ireturn, 1) := by decide +kernel
theorem dX7_craftTells_57 : decode cX7_craftTells 57 = .ok (.iload_n 2, 1) := by decide +kernel
theorem dX7_craftTells_58 : decode cX7_craftTells 58 = .ok (.bipush 7, 2) := by decide +kernel
end
section
theorem dX7_craftTells_60 : decode cX7_craftTells 60 = .ok (.if_icmp .ne 25, 3) := by decide +kernel
theorem dX7_craftTells_63 : decode cX7_craftTells 63 = .ok (.iload 4, 2) := by decide +kernel
theorem dX7_craftTells_65 : decode cX7_craftTells 65 = .ok (.ifCond .eq 8, 3) := by decide +kernel
theorem dX7_craftTells_68 : decode cX7_craftTells 68 = .ok (.bipush (-6), 2) := by decide +kernel
theorem dX7_craftTells_70 : decode cX7_craftTells 70 = .ok (.goto 33, 3) := by decide +kernel
theorem dX7_craftTells_73 : decode cX7_craftTells 73 = .ok (.aload_n 0, 1) := by decide +kernel
theorem dX7_craftTells_74 : decode cX7_craftTells 74 = .ok (.getfield 7, 3) := by decide +kernel
theorem dX7_craftTells_77 : decode cX7_craftTells 77 = .ok (.iload_n 3, 1) := by decide +kernel
theorem dX7_craftTells_78 : decode cX7_craftTells 78 = .ok (.bipush 6, 2) := by decide +kernel
theorem dX7_craftTells_80 : decode cX7_craftTells 80 = .ok (.iadd, 1) := by decide +kernel
theorem dX7_craftTells_81 : decode cX7_craftTells 81 = .ok (.iaload, 1) := by decide +kernel
theorem dX7_craftTells_82 : decode cX7_craftTells 82 = .ok (.goto 21, 3) := by decide +kernel
theorem dX7_craftTells_85 : decode cX7_craftTells 85 = .ok (.iload 4, 2) := by decide +kernel
theorem dX7_craftTells_87 : decode cX7_craftTells 87 = .ok (.ifCond .eq 14, 3) := by decide +kernel
theorem dX7_craftTells_90 : decode cX7_craftTells 90 = .ok (.aload_n 0, 1) := by decide +kernel
theorem dX7_craftTells_91 : decode cX7_craftTells 91 = .ok (.getfield 7, 3) := by decide +kernel
theorem dX7_craftTells_94 : decode cX7_craftTells 94 = .ok (.iload_n 3, 1) := by decide +kernel
theorem dX7_craftTells_95 : decode cX7_craftTells 95 = .ok (.iload_n 2, 1) := by decide +kernel
theorem dX7_craftTells_96 : decode cX7_craftTells 96 = .ok (.iadd, 1) := by decide +kernel
theorem dX7_craftTells_97 : decode cX7_craftTells 97 = .ok (.iaload, 1) := by decide +kernel
theorem dX7_craftTells_98 : decode cX7_craftTells 98 = .ok (.goto 5, 3) := by decide +kernel
theorem dX7_craftTells_101 : decode cX7_craftTells 101 = .ok (.bipush (-6), 2) := by decide +kernel
theorem dX7_craftTells_103 : decode cX7_craftTells 103 = .ok (.ireturn, 1) := by decide +kernel
theorem dX7_aircraft_0 : decode cX7_aircraft 0 = .ok (.aload_n 0, 1) := by decide +kernel
theorem dX7_aircraft_1 : decode cX7_aircraft 1 = .ok (.iload_n 1, 1) := by decide +kernel
theorem dX7_aircraft_2 : decode cX7_aircraft 2 = .ok (.invokevirtual 85, 3) := by decide +kernel
theorem dX7_aircraft_5 : decode cX7_aircraft 5 = .ok (.ifCond .eq 22, 3) := by decide +kernel
theorem dX7_aircraft_8 : decode cX7_aircraft 8 = .ok (.iload_n 2, 1) := by decide +kernel
theorem dX7_aircraft_9 : decode cX7_aircraft 9 = .ok (.iconst 0, 1) := by decide +kernel
theorem dX7_aircraft_10 : decode cX7_aircraft 10 = .ok (.bipush 7, 2) := by decide +kernel
theorem dX7_aircraft_12 : decode cX7_aircraft 12 = .ok (.invokestatic 41, 3) := by decide +kernel
theorem dX7_aircraft_15 : decode cX7_aircraft 15 = .ok (.ifCond .eq 12, 3) := by decide +kernel
theorem dX7_aircraft_18 : decode cX7_aircraft 18 = .ok (.aload_n 0, 1) := by decide +kernel
theorem dX7_aircraft_19 : decode cX7_aircraft 19 = .ok (.iload_n 1, 1) := by decide +kernel
theorem dX7_aircraft_20 : decode cX7_aircraft 20 = .ok (.iload_n 2, 1) := by decide +kernel
theorem dX7_aircraft_21 : decode cX7_aircraft 21 = .ok (.invokevirtual 116, 3) := by decide +kernel
theorem dX7_aircraft_24 : decode cX7_aircraft 24 = .ok (.goto 4, 3) := by decide +kernel
theorem dX7_aircraft_27 : decode cX7_aircraft 27 = .ok (.iconst (-1), 1) := by decide +kernel
theorem dX7_aircraft_28 : decode cX7_aircraft 28 = .ok (.ireturn, 1) := by decide +kernel
theorem dX7_many_0 : decode cX7_many 0 = .ok (.iconst 0, 1) := by decide +kernel
theorem dX7_many_1 : decode cX7_many 1 = .ok (.istore_n 2, 1) := by decide +kernel
theorem dX7_many_2 : decode cX7_many 2 = .ok (.iconst 0, 1) := by decide +kernel
theorem dX7_many_3 : decode cX7_many 3 = .ok (.istore_n 3, 1) := by decide +kernel
theorem dX7_many_4 : decode cX7_many 4 = .ok (.iload_n 3, 1) := by decide +kernel
theorem dX7_many_5 : decode cX7_many 5 = .ok (.aload_n 0, 1) := by decide +kernel
theorem dX7_many_6 : decode cX7_many 6 = .ok (.getfield 7, 3) := by decide +kernel
theorem dX7_many_9 : decode cX7_many 9 = .ok (.iconst 3, 1) := by decide +kernel
theorem dX7_many_10 : decode cX7_many 10 = .ok (.iaload, 1) := by decide +kernel
theorem dX7_many_11 : decode cX7_many 11 = .ok (.if_icmp .ge 32, 3) := by decide +kernel
theorem dX7_many_14 : decode cX7_many 14 = .ok (.iload_n 2, 1) := by decide +kernel
theorem dX7_many_15 : decode cX7_many 15 = .ok (.aload_n 0, 1) := by decide +kernel
theorem dX7_many_16 : decode cX7_many 16 = .ok (.getfield 7, 3) := by decide +kernel
theorem dX7_many_19 : decode cX7_many 19 = .ok (.iload_n 3, 1) := by decide +kernel
theorem dX7_many_20 : decode cX7_many 20 = .ok (.invokestatic 52, 3) := by decide +kernel
theorem dX7_many_23 : decode cX7_many 23 = .ok (.iconst 2, 1) := by decide +kernel
theorem dX7_many_24 : decode cX7_many 24 = .ok (.iadd, 1) := by decide +kernel
theorem dX7_many_25 : decode cX7_many 25 = .ok (.iaload, 1) := by decide +kernel
theorem dX7_many_26 : decode cX7_many 26 = .ok (.iload_n 1, 1) := by decide +kernel
theorem dX7_many_27 : decode cX7_many 27 = .ok (.if_icmp .ne 7, 3) := by decide +kernel
theorem dX7_many_30 : decode cX7_many 30 = .ok (.iconst 1, 1) := by decide +kernel
theorem dX7_many_31 : decode cX7_many 31 = .ok (.goto 4, 3) := by decide +kernel
theorem dX7_many_34 : decode cX7_many 34 = .ok (.iconst 0, 1) := by decide +kernel
theorem dX7_many_35 : decode cX7_many 35 = .ok (.iadd, 1) := by decide +kernel
theorem dX7_many_36 : decode cX7_many 36 = .ok (.istore_n 2, 1) := by decide +kernel
theorem dX7_many_37 : decode cX7_many 37 = .ok (.iinc 3 1, 3) := by decide +kernel
theorem dX7_many_40 : decode cX7_many 40 = .ok (.goto (-36), 3) := by decide +kernel
theorem dX7_many_43 : decode cX7_many 43 = .ok (.iload_n 2, 1) := by decide +kernel
theorem dX7_many_44 : decode cX7_many 44 = .ok (.ireturn, 1) := by decide +kernel
theorem dX7_tells_0 : decode cX7_tells 0 = .ok (.iload_n 1, 1) := by decide +kernel
theorem dX7_tells_1 : decode cX7_tells 1 = .ok (.tableswitch 131 0 16 #[83, 83, 83, 83, 90, 90, 90, 98, 106, 106, 106, 106, 118, 118, 118, 118, 118], 83) := by decide +kernel
theorem dX7_tells_84 : decode cX7_tells 84 = .ok (.aload_n 0, 1) := by decide +kernel
theorem dX7_tells_85 : decode cX7_tells 85 = .ok (.getfield 7, 3) := by decide +kernel
theorem dX7_tells_88 : decode cX7_tells 88 = .ok (.iload_n 1, 1) := by decide +kernel
theorem dX7_tells_89 : decode cX7_tells 89 = .ok (.iaload, 1) := by decide +kernel
theorem dX7_tells_90 : decode cX7_tells 90 = .ok (.ireturn, 1) := by decide +kernel
theorem dX7_tells_91 : decode cX7_tells 91 = .ok (.aload_n 0, 1) := by decide +kernel
theorem dX7_tells_92 : decode cX7_tells 92 = .ok (.iload_n 1, 1) := by decide +kernel
theorem dX7_tells_93 : decode cX7_tells 93 = .ok (.iconst 4, 1) := by decide +kernel
theorem dX7_tells_94 : decode cX7_tells 94 = .ok (.isub, 1) := by decide +kernel
theorem dX7_tells_95 : decode cX7_tells 95 = .ok (.invokevirtual 119, 3) := by decide +kernel
theorem dX7_tells_98 : decode cX7_tells 98 = .ok (.ireturn, 1) := by decide +kernel
theorem dX7_tells_99 : decode cX7_tells 99 = .ok (.aload_n 0, 1) := by decide +kernel
theorem dX7_tells_100 : decode cX7_tells 100 = .ok (.getfield 7, 3) := by decide +kernel
theorem dX7_tells_103 : decode cX7_tells 103 = .ok (.bipush 8, 2) := by decide +kernel
theorem dX7_tells_105 : decode cX7_tells 105 = .ok (.iaload, 1) := by decide +kernel
theorem dX7_tells_106 : decode cX7_tells 106 = .ok (.ireturn, 1) := by decide +kernel
theorem dX7_tells_107 : decode cX7_tells 107 = .ok (.aload_n 0, 1) := by decide +kernel
theorem dX7_tells_108 : decode cX7_tells 108 = .ok (.getfield 7, 3) := by decide +kernel
theorem dX7_tells_111 : decode cX7_tells 111 = .ok (.iconst 4, 1) := by decide +kernel
theorem dX7_tells_112 : decode cX7_tells 112 = .ok (.iload_n 1, 1) := by decide +kernel
theorem dX7_tells_113 : decode cX7_tells 113 = .ok (.iadd, 1) := by decide +kernel
theorem dX7_tells_114 : decode cX7_tells 114 = .ok (.bipush 8, 2) := by decide +kernel
theorem dX7_tells_116 : decode cX7_tells 116 = .ok (.isub, 1) := by decide +kernel
theorem dX7_tells_117 : decode cX7_tells 117 = .ok (.iaload, 1) := by decide +kernel
theorem dX7_tells_118 : decode cX7_tells 118 = .ok (.ireturn, 1) := by decide +kernel
theorem dX7_tells_119 : decode cX7_tells 119 = .ok (.aload_n 0, 1) := by decide +kernel
theorem dX7_tells_120 : decode cX7_tells 120 = .ok (.getfield 7, 3) := by decide +kernel
theorem dX7_tells_123 : decode cX7_tells 123 = .ok (.bipush 9, 2) := by decide +kernel
theorem dX7_tells_125 : decode cX7_tells 125 = .ok (.iload_n 1, 1) := by decide +kernel
theorem dX7_tells_126 : decode cX7_tells 126 = .ok (.iadd, 1) := by decide +kernel
theorem dX7_tells_127 : decode cX7_tells 127 = .ok (.bipush 12, 2) := by decide +kernel
theorem dX7_tells_129 : decode cX7_tells 129 = .ok (.isub, 1) := by decide +kernel
theorem dX7_tells_130 : decode cX7_tells 130 = .ok (.iaload, 1) := by decide +kernel
theorem dX7_tells_131 : decode cX7_tells 131 = .ok (.ireturn, 1) := by decide +kernel
theorem dX7_tells_132 : decode cX7_tells 132 = .ok (.aload_n 0, 1) := by decide +kernel
theorem dX7_tells_133 : decode cX7_tells 133 = .ok (.getfield 45, 3) := by decide +kernel
theorem dX7_tells_136 : decode cX7_tells 136 = .ok (.ireturn, 1) := by decide +kernel
theorem dX7_tell_0 : decode cX7_tell 0 = .ok (.iload_n 1, 1) := by decide +kernel
theorem dX7_tell_1 : decode cX7_tell 1 = .ok (.iconst 0, 1) := by decide +kernel
theorem dX7_tell_2 : decode cX7_tell 2 = .ok (.bipush 17, 2) := by decide +kernel
theorem dX7_tell_4 : decode cX7_tell 4 = .ok (.invokestatic 41, 3) := by decide +kernel
theorem dX7_tell_7 : decode cX7_tell 7 = .ok (.ifCond .eq 11, 3) := by decide +kernel
theorem dX7_tell_10 : decode cX7_tell 10 = .ok (.aload_n 0, 1) := by decide +kernel
theorem dX7_tell_11 : decode cX7_tell 11 = .ok (.iload_n 1, 1) := by decide +kernel
theorem dX7_tell_12 : decode cX7_tell 12 = .ok (.invokevirtual 122, 3) := by decide +kernel
theorem dX7_tell_15 : decode cX7_tell 15 = .ok (.goto 4, 3) := by decide +kernel
theorem dX7_tell_18 : decode cX7_tell 18 = .ok (.iconst (-1), 1) := by decide +kernel
theorem dX7_tell_19 : decode cX7_tell 19 = .ok (.ireturn, 1) := by decide +kernel
theorem dX7_whyOf_0 : decode cX7_whyOf 0 = .ok (.aload_n 0, 1) := by decide +kernel
theorem dX7_whyOf_1 : decode cX7_whyOf 1 = .ok (.getfield 7, 3) := by decide +kernel
theorem dX7_whyOf_4 : decode cX7_whyOf 4 = .ok (.iload_n 1, 1) := by decide +kernel
theorem dX7_whyOf_5 : decode cX7_whyOf 5 = .ok (.invokestatic 52, 3) := by decide +kernel
theorem dX7_whyOf_8 : decode cX7_whyOf 8 = .ok (.iconst 2, 1) := by decide +kernel
theorem dX7_whyOf_9 : decode cX7_whyOf 9 = .ok (.iadd, 1) := by decide +kernel
theorem dX7_whyOf_10 : decode cX7_whyOf 10 = .ok (.iaload, 1) := by decide +kernel
theorem dX7_whyOf_11 : decode cX7_whyOf 11 = .ok (.ifCond .eq 5, 3) := by decide +kernel
theorem dX7_whyOf_14 : decode cX7_whyOf 14 = .ok (.iconst 1, 1) := by decide +kernel
theorem dX7_whyOf_15 : decode cX7_whyOf 15 = .ok (.ireturn, 1) := by decide +kernel
theorem dX7_whyOf_16 : decode cX7_whyOf 16 = .ok (.aload_n 0, 1) := by decide +kernel
theorem dX7_whyOf_17 : decode cX7_whyOf 17 = .ok (.iload_n 1, 1) := by decide +kernel
theorem dX7_whyOf_18 : decode cX7_whyOf 18 = .ok (.invokevirtual 98, 3) := by decide +kernel
theorem dX7_whyOf_21 : decode cX7_whyOf 21 = .ok (.ifCond .ne 5, 3) := by decide +kernel
theorem dX7_whyOf_24 : decode cX7_whyOf 24 = .ok (.iconst 2, 1) := by decide +kernel
theorem dX7_whyOf_25 : decode cX7_whyOf 25 = .ok (.ireturn, 1) := by decide +kernel
theorem dX7_whyOf_26 : decode cX7_whyOf 26 = .ok (.aload_n 0, 1) := by decide +kernel
theorem dX7_whyOf_27 : decode cX7_whyOf 27 = .ok (.getfield 7, 3) := by decide +kernel
theorem dX7_whyOf_30 : decode cX7_whyOf 30 = .ok (.iload_n 1, 1) := by decide +kernel
theorem dX7_whyOf_31 : decode cX7_whyOf 31 = .ok (.invokestatic 52, 3) := by decide +kernel
theorem dX7_whyOf_34 : decode cX7_whyOf 34 = .ok (.iconst 3, 1) := by decide +kernel
theorem dX7_whyOf_35 : decode cX7_whyOf 35 = .ok (.iadd, 1) := by decide +kernel
theorem dX7_whyOf_36 : decode cX7_whyOf 36 = .ok (.iaload, 1) := by decide +kernel
theorem dX7_whyOf_37 : decode cX7_whyOf 37 = .ok (.istore_n 2, 1) := by decide +kernel
theorem dX7_whyOf_38 : decode cX7_whyOf 38 = .ok (.iload_n 2, 1) := by decide +kernel
theorem dX7_whyOf_39 : decode cX7_whyOf 39 = .ok (.ifCond .eq 11, 3) := by decide +kernel
theorem dX7_whyOf_42 : decode cX7_whyOf 42 = .ok (.aload_n 0, 1) := by decide +kernel
theorem dX7_whyOf_43 : decode cX7_whyOf 43 = .ok (.iload_n 1, 1) := by decide +kernel
theorem dX7_whyOf_44 : decode cX7_whyOf 44 = .ok (.invokevirtual 101, 3) := by decide +kernel
theorem dX7_whyOf_47 : decode cX7_whyOf 47 = .ok (.ifCond .eq 27, 3) := by decide +kernel
theorem dX7_whyOf_50 : decode cX7_whyOf 50 = .ok (.aload_n 0, 1) := by decide +kernel
theorem dX7_whyOf_51 : decode cX7_whyOf 51 = .ok (.getfield 7, 3) := by decide +kernel
theorem dX7_whyOf_54 : decode cX7_whyOf 54 = .ok (.iconst 5, 1) := by decide +kernel
theorem dX7_whyOf_55 : decode cX7_whyOf 55 = .ok (.iaload, 1) := by decide +kernel
theorem dX7_whyOf_56 : decode cX7_whyOf 56 = .ok (.ifCond .eq 12, 3) := by decide +kernel
theorem dX7_whyOf_59 : decode cX7_whyOf 59 = .ok (.aload_n 0, 1) := by decide +kernel
theorem dX7_whyOf_60 : decode cX7_whyOf 60 = .ok (.getfield 7, 3) := by decide +kernel
theorem dX7_whyOf_63 : decode cX7_whyOf 63 = .ok (.iconst 4, 1) := by decide +kernel
theorem dX7_whyOf_64 : decode cX7_whyOf 64 = .ok (.iaload, 1) := by decide +kernel
theorem dX7_whyOf_65 : decode cX7_whyOf 65 = .ok (.ifCond .le 7, 3) := by decide +kernel
theorem dX7_whyOf_68 : decode cX7_whyOf 68 = .ok (.iconst 3, 1) := by decide +kernel
theorem dX7_whyOf_69 : decode cX7_whyOf 69 = .ok (.goto 4, 3) := by decide +kernel
theorem dX7_whyOf_72 : decode cX7_whyOf 72 = .ok (.iconst 0, 1) := by decide +kernel
theorem dX7_whyOf_73 : decode cX7_whyOf 73 = .ok (.ireturn, 1) := by decide +kernel
theorem dX7_whyOf_74 : decode cX7_whyOf 74 = .ok (.aload_n 0, 1) := by decide +kernel
theorem dX7_whyOf_75 : decode cX7_whyOf 75 = .ok (.iload_n 2, 1) := by decide +kernel
theorem dX7_whyOf_76 : decode cX7_whyOf 76 = .ok (.iconst 1, 1) := by decide +kernel
theorem dX7_whyOf_77 : decode cX7_whyOf 77 = .ok (.isub, 1) := by decide +kernel
theorem dX7_whyOf_78 : decode cX7_whyOf 78 = .ok (.invokevirtual 68, 3) := by decide +kernel
theorem dX7_whyOf_81 : decode cX7_whyOf 81 = .ok (.bipush (-6), 2) := by decide +kernel
theorem dX7_whyOf_83 : decode cX7_whyOf 83 = .ok (.if_icmp .eq 7, 3) := by decide +kernel
theorem dX7_whyOf_86 : decode cX7_whyOf 86 = .ok (.iconst 4, 1) := by decide +kernel
theorem dX7_whyOf_87 : decode cX7_whyOf 87 = .ok (.goto 32, 3) := by decide +kernel
theorem dX7_whyOf_90 : decode cX7_whyOf 90 = .ok (.aload_n 0, 1) := by decide +kernel
theorem dX7_whyOf_91 : decode cX7_whyOf 91 = .ok (.getfield 7, 3) := by decide +kernel
theorem dX7_whyOf_94 : decode cX7_whyOf 94 = .ok (.iload_n 1, 1) := by decide +kernel
theorem dX7_whyOf_95 : decode cX7_whyOf 95 = .ok (.invokestatic 52, 3) := by decide +kernel
theorem dX7_whyOf_98 : decode cX7_whyOf 98 = .ok (.iconst 5, 1) := by decide +kernel
theorem dX7_whyOf_99 : decode cX7_whyOf 99 = .ok (.iadd, 1) := by decide +kernel
theorem dX7_whyOf_100 : decode cX7_whyOf 100 = .ok (.iaload, 1) := by decide +kernel
theorem dX7_whyOf_101 : decode cX7_whyOf 101 = .ok (.ifCond .ne 17, 3) := by decide +kernel
theorem dX7_whyOf_104 : decode cX7_whyOf 104 = .ok (.aload_n 0, 1) := by decide +kernel
theorem dX7_whyOf_105 : decode cX7_whyOf 105 = .ok (.getfield 7, 3) := by decide +kernel
theorem dX7_whyOf_108 : decode cX7_whyOf 108 = .ok (.bipush 6, 2) := by decide +kernel
theorem dX7_whyOf_110 : decode cX7_whyOf 110 = .ok (.iaload, 1) := by decide +kernel
theorem dX7_whyOf_111 : decode cX7_whyOf 111 = .ok (.ifCond .ne 7, 3) := by decide +kernel
theorem dX7_whyOf_114 : decode cX7_whyOf 114 = .ok (.iconst 5, 1) := by decide +kernel
theorem dX7_whyOf_115 : decode cX7_whyOf 115 = .ok (.goto 4, 3) := by decide +kernel
theorem dX7_whyOf_118 : decode cX7_whyOf 118 = .ok (.iconst 0, 1) := by decide +kernel
theorem dX7_whyOf_119 : decode cX7_whyOf 119 = .ok (.ireturn, 1) := by decide +kernel
theorem dX7_why_0 : decode cX7_why 0 = .ok (.aload_n 0, 1) := by decide +kernel
theorem dX7_why_1 : decode cX7_why 1 = .ok (.iload_n 1, 1) := by decide +kernel
theorem dX7_why_2 : decode cX7_why 2 = .ok (.invokevirtual 85, 3) := by decide +kernel
theorem dX7_why_5 : decode cX7_why 5 = .ok (.ifCond .eq 11, 3) := by decide +kernel
theorem dX7_why_8 : decode cX7_why 8 = .ok (.aload_n 0, 1) := by decide +kernel
theorem dX7_why_9 : decode cX7_why 9 = .ok (.iload_n 1, 1) := by decide +kernel
theorem dX7_why_10 : decode cX7_why 10 = .ok (.invokevirtual 125, 3) := by decide +kernel
theorem dX7_why_13 : decode cX7_why 13 = .ok (.goto 4, 3) := by decide +kernel
theorem dX7_why_16 : decode cX7_why 16 = .ok (.iconst (-1), 1) := by decide +kernel
theorem dX7_why_17 : decode cX7_why 17 = .ok (.ireturn, 1) := by decide +kernel
theorem dX7_keeps_0 : decode cX7_keeps 0 = .ok (.iconst 0, 1) := by decide +kernel
theorem dX7_keeps_1 : decode cX7_keeps 1 = .ok (.istore_n 2, 1) := by decide +kernel
theorem dX7_keeps_2 : decode cX7_keeps 2 = .ok (.iload_n 2, 1) := by decide +kernel
theorem dX7_keeps_3 : decode cX7_keeps 3 = .ok (.sipush 154, 3) := by decide +kernel
theorem dX7_keeps_6 : decode cX7_keeps 6 = .ok (.if_icmp .ge 18, 3) := by decide +kernel
theorem dX7_keeps_9 : decode cX7_keeps 9 = .ok (.aload_n 1, 1) := by decide +kernel
theorem dX7_keeps_10 : decode cX7_keeps 10 = .ok (.iload_n 2, 1) := by decide +kernel
theorem dX7_keeps_11 : decode cX7_keeps 11 = .ok (.aload_n 0, 1) := by decide +kernel
theorem dX7_keeps_12 : decode cX7_keeps 12 = .ok (.getfield 7, 3) := by decide +kernel
theorem dX7_keeps_15 : decode cX7_keeps 15 = .ok (.iload_n 2, 1) := by decide +kernel
theorem dX7_keeps_16 : decode cX7_keeps 16 = .ok (.iaload, 1) := by decide +kernel
theorem dX7_keeps_17 : decode cX7_keeps 17 = .ok (.iastore, 1) := by decide +kernel
theorem dX7_keeps_18 : decode cX7_keeps 18 = .ok (.iinc 2 1, 3) := by decide +kernel
theorem dX7_keeps_21 : decode cX7_keeps 21 = .ok (.goto (-19), 3) := by decide +kernel
theorem dX7_keeps_24 : decode cX7_keeps 24 = .ok (.return_, 1) := by decide +kernel
theorem dX7_comesBack_0 : decode cX7_comesBack 0 = .ok (.iconst 0, 1) := by decide +kernel
theorem dX7_comesBack_1 : decode cX7_comesBack 1 = .ok (.istore_n 1, 1) := by decide +kernel
theorem dX7_comesBack_2 : decode cX7_comesBack 2 = .ok (.iload_n 1, 1) := by decide +kernel
theorem dX7_comesBack_3 : decode cX7_comesBack 3 = .ok (.sipush 154, 3) := by decide +kernel
theorem dX7_comesBack_6 : decode cX7_comesBack 6 = .ok (.if_icmp .ge 21, 3) := by decide +kernel
theorem dX7_comesBack_9 : decode cX7_comesBack 9 = .ok (.aload_n 0, 1) := by decide +kernel
theorem dX7_comesBack_10 : decode cX7_comesBack 10 = .ok (.getfield 7, 3) := by decide +kernel
theorem dX7_comesBack_13 : decode cX7_comesBack 13 = .ok (.iload_n 1, 1) := by decide +kernel
theorem dX7_comesBack_14 : decode cX7_comesBack 14 = .ok (.aload_n 0, 1) := by decide +kernel
theorem dX7_comesBack_15 : decode cX7_comesBack 15 = .ok (.getfield 16, 3) := by decide +kernel
theorem dX7_comesBack_18 : decode cX7_comesBack 18 = .ok (.iload_n 1, 1) := by decide +kernel
theorem dX7_comesBack_19 : decode cX7_comesBack 19 = .ok (.iaload, 1) := by decide +kernel
theorem dX7_comesBack_20 : decode cX7_comesBack 20 = .ok (.iastore, 1) := by decide +kernel
theorem dX7_comesBack_21 : decode cX7_comesBack 21 = .ok (.iinc 1 1, 3) := by decide +kernel
theorem dX7_comesBack_24 : decode cX7_comesBack 24 = .ok (.goto (-22), 3) := by decide +kernel
theorem dX7_comesBack_27 : decode cX7_comesBack 27 = .ok (.return_, 1) := by decide +kernel
theorem dX7_landsLater_0 : decode cX7_landsLater 0 = .ok (.iconst 0, 1) := by decide +kernel
theorem dX7_landsLater_1 : decode cX7_landsLater 1 = .ok (.istore_n 2, 1) := by decide +kernel
theorem dX7_landsLater_2 : decode cX7_landsLater 2 = .ok (.iload_n 2, 1) := by decide +kernel
theorem dX7_landsLater_3 : decode cX7_landsLater 3 = .ok (.sipush 600, 3) := by decide +kernel
theorem dX7_landsLater_6 : decode cX7_landsLater 6 = .ok (.if_icmp .ge 28, 3) := by decide +kernel
theorem dX7_landsLater_9 : decode cX7_landsLater 9 = .ok (.aload_n 0, 1) := by decide +kernel
theorem dX7_landsLater_10 : decode cX7_landsLater 10 = .ok (.getfield 7, 3) := by decide +kernel
theorem dX7_landsLater_13 : decode cX7_landsLater 13 = .ok (.iload_n 1, 1) := by decide +kernel
theorem dX7_landsLater_14 : decode cX7_landsLater 14 = .ok (.invokestatic 52, 3) := by decide +kernel
theorem dX7_landsLater_17 : decode cX7_landsLater 17 = .ok (.iconst 2, 1) := by decide +kernel
theorem dX7_landsLater_18 : decode cX7_landsLater 18 = .ok (.iadd, 1) := by decide +kernel
theorem dX7_landsLater_19 : decode cX7_landsLater 19 = .ok (.iaload, 1) := by decide +kernel
theorem dX7_landsLater_20 : decode cX7_landsLater 20 = .ok (.ifCond .ne 14, 3) := by decide +kernel
theorem dX7_landsLater_23 : decode cX7_landsLater 23 = .ok (.aload_n 0, 1) := by decide +kernel
theorem dX7_landsLater_24 : decode cX7_landsLater 24 = .ok (.invokevirtual 110, 3) := by decide +kernel
theorem dX7_landsLater_27 : decode cX7_landsLater 27 = .ok (.istore_n 3, 1) := by decide +kernel
theorem dX7_landsLater_28 : decode cX7_landsLater 28 = .ok (.iinc 2 1, 3) := by decide +kernel
theorem dX7_landsLater_31 : decode cX7_landsLater 31 = .ok (.goto (-29), 3) := by decide +kernel
theorem dX7_landsLater_34 : decode cX7_landsLater 34 = .ok (.aload_n 0, 1) := by decide +kernel
theorem dX7_landsLater_35 : decode cX7_landsLater 35 = .ok (.getfield 7, 3) := by decide +kernel
theorem dX7_landsLater_38 : decode cX7_landsLater 38 = .ok (.iload_n 1, 1) := by decide +kernel
theorem dX7_landsLater_39 : decode cX7_landsLater 39 = .ok (.invokestatic 52, 3) := by decide +kernel
theorem dX7_landsLater_42 : decode cX7_landsLater 42 = .ok (.iconst 2, 1) := by decide +kernel
theorem dX7_landsLater_43 : decode cX7_landsLater 43 = .ok (.iadd, 1) := by decide +kernel
theorem dX7_landsLater_44 : decode cX7_landsLater 44 = .ok (.iaload, 1) := by decide +kernel
theorem dX7_landsLater_45 : decode cX7_landsLater 45 = .ok (.iconst 1, 1) := by decide +kernel
theorem dX7_landsLater_46 : decode cX7_landsLater 46 = .ok (.if_icmp .ne 7, 3) := by decide +kernel
theorem dX7_landsLater_49 : decode cX7_landsLater 49 = .ok (.iconst 1, 1) := by decide +kernel
theorem dX7_landsLater_50 : decode cX7_landsLater 50 = .ok (.goto 4, 3) := by decide +kernel
theorem dX7_landsLater_53 : decode cX7_landsLater 53 = .ok (.iconst 0, 1) := by decide +kernel
theorem dX7_landsLater_54 : decode cX7_landsLater 54 = .ok (.istore_n 3, 1) := by decide +kernel
theorem dX7_landsLater_55 : decode cX7_landsLater 55 = .ok (.aload_n 0, 1) := by decide +kernel
theorem dX7_landsLater_56 : decode cX7_landsLater 56 = .ok (.iload_n 3, 1) := by decide +kernel
theorem dX7_landsLater_57 : decode cX7_landsLater 57 = .ok (.ifCond .eq 7, 3) := by decide +kernel
theorem dX7_landsLater_60 : decode cX7_landsLater 60 = .ok (.iload_n 2, 1) := by decide +kernel
theorem dX7_landsLater_61 : decode cX7_landsLater 61 = .ok (.goto 5, 3) := by decide +kernel
theorem dX7_landsLater_64 : decode cX7_landsLater 64 = .ok (.bipush (-6), 2) := by decide +kernel
theorem dX7_landsLater_66 : decode cX7_landsLater 66 = .ok (.putfield 128, 3) := by decide +kernel
theorem dX7_landsLater_69 : decode cX7_landsLater 69 = .ok (.aload_n 0, 1) := by decide +kernel
theorem dX7_landsLater_70 : decode cX7_landsLater 70 = .ok (.iload_n 3, 1) := by decide +kernel
theorem dX7_landsLater_71 : decode cX7_landsLater 71 = .ok (.ifCond .eq 17, 3) := by decide +kernel
theorem dX7_landsLater_74 : decode cX7_landsLater 74 = .ok (.aload_n 0, 1) := by decide +kernel
theorem dX7_landsLater_75 : decode cX7_landsLater 75 = .ok (.getfield 7, 3) := by decide +kernel
theorem dX7_landsLater_78 : decode cX7_landsLater 78 = .ok (.iload_n 1, 1) := by decide +kernel
theorem dX7_landsLater_79 : decode cX7_landsLater 79 = .ok (.invokestatic 52, 3) := by decide +kernel
theorem dX7_landsLater_82 : decode cX7_landsLater 82 = .ok (.iconst 1, 1) := by decide +kernel
theorem dX7_landsLater_83 : decode cX7_landsLater 83 = .ok (.iadd, 1) := by decide +kernel
theorem dX7_landsLater_84 : decode cX7_landsLater 84 = .ok (.iaload, 1) := by decide +kernel
theorem dX7_landsLater_85 : decode cX7_landsLater 85 = .ok (.goto 5, 3) := by decide +kernel
theorem dX7_landsLater_88 : decode cX7_landsLater 88 = .ok (.bipush (-6), 2) := by decide +kernel
theorem dX7_landsLater_90 : decode cX7_landsLater 90 = .ok (.putfield 131, 3) := by decide +kernel
theorem dX7_landsLater_93 : decode cX7_landsLater 93 = .ok (.return_, 1) := by decide +kernel
theorem dX7_forecasts_0 : decode cX7_forecasts 0 = .ok (.aload_n 0, 1) := by decide +kernel
theorem dX7_forecasts_1 : decode cX7_forecasts 1 = .ok (.aload_n 0, 1) := by decide +kernel
theorem dX7_forecasts_2 : decode cX7_forecasts 2 = .ok (.getfield 16, 3) := by decide +kernel
theorem dX7_forecasts_5 : decode cX7_forecasts 5 = .ok (.invokevirtual 134, 3) := by decide +kernel
theorem dX7_forecasts_8 : decode cX7_forecasts 8 = .ok (.aload_n 0, 1) := by decide +kernel
theorem dX7_forecasts_9 : decode cX7_forecasts 9 = .ok (.iload_n 1, 1) := by decide +kernel
theorem dX7_forecasts_10 : decode cX7_forecasts 10 = .ok (.invokevirtual 138, 3) := by decide +kernel
theorem dX7_forecasts_13 : decode cX7_forecasts 13 = .ok (.aload_n 0, 1) := by decide +kernel
theorem dX7_forecasts_14 : decode cX7_forecasts 14 = .ok (.invokevirtual 142, 3) := by decide +kernel
theorem dX7_forecasts_17 : decode cX7_forecasts 17 = .ok (.return_, 1) := by decide +kernel
theorem dX7_minutesOf_0 : decode cX7_minutesOf 0 = .ok (.aload_n 0, 1) := by decide +kernel
theorem dX7_minutesOf_1 : decode cX7_minutesOf 1 = .ok (.iload_n 1, 1) := by decide +kernel
theorem dX7_minutesOf_2 : decode cX7_minutesOf 2 = .ok (.invokevirtual 145, 3) := by decide +kernel
theorem dX7_minutesOf_5 : decode cX7_minutesOf 5 = .ok (.aload_n 0, 1) := by decide +kernel
theorem dX7_minutesOf_6 : decode cX7_minutesOf 6 = .ok (.getfield 128, 3) := by decide +kernel
theorem dX7_minutesOf_9 : decode cX7_minutesOf 9 = .ok (.ireturn, 1) := by decide +kernel
theorem dX7_minutesLeft_0 : decode cX7_minutesLeft 0 = .ok (.aload_n 0, 1) := by decide +kernel
theorem dX7_minutesLeft_1 : decode cX7_minutesLeft 1 = .ok (.iload_n 1, 1) := by decide +kernel
theorem dX7_minutesLeft_2 : decode cX7_minutesLeft 2 = .ok (.invokevirtual 85, 3) := by decide +kernel
theorem dX7_minutesLeft_5 : decode cX7_minutesLeft 5 = .ok (.ifCond .eq 11, 3) := by decide +kernel
theorem dX7_minutesLeft_8 : decode cX7_minutesLeft 8 = .ok (.aload_n 0, 1) := by decide +kernel
theorem dX7_minutesLeft_9 : decode cX7_minutesLeft 9 = .ok (.iload_n 1, 1) := by decide +kernel
theorem dX7_minutesLeft_10 : decode cX7_minutesLeft 10 = .ok (.invokevirtual 148, 3) := by decide +kernel
theorem dX7_minutesLeft_13 : decode cX7_minutesLeft 13 = .ok (.goto 4, 3) := by decide +kernel
theorem dX7_minutesLeft_16 : decode cX7_minutesLeft 16 = .ok (.iconst (-1), 1) := by decide +kernel
theorem dX7_minutesLeft_17 : decode cX7_minutesLeft 17 = .ok (.ireturn, 1) := by decide +kernel
theorem dX7_landsWith_0 : decode cX7_landsWith 0 = .ok (.aload_n 0, 1) := by decide +kernel
theorem dX7_landsWith_1 : decode cX7_landsWith 1 = .ok (.iload_n 1, 1) := by decide +kernel
theorem dX7_landsWith_2 : decode cX7_landsWith 2 = .ok (.invokevirtual 85, 3) := by decide +kernel
theorem dX7_landsWith_5 : decode cX7_landsWith 5 = .ok (.ifCond .ne 5, 3) := by decide +kernel
theorem dX7_landsWith_8 : decode cX7_landsWith 8 = .ok (.iconst (-1), 1) := by decide +kernel
theorem dX7_landsWith_9 : decode cX7_landsWith 9 = .ok (.ireturn, 1) := by decide +kernel
theorem dX7_landsWith_10 : decode cX7_landsWith 10 = .ok (.aload_n 0, 1) := by decide +kernel
theorem dX7_landsWith_11 : decode cX7_landsWith 11 = .ok (.iload_n 1, 1) := by decide +kernel
theorem dX7_landsWith_12 : decode cX7_landsWith 12 = .ok (.invokevirtual 145, 3) := by decide +kernel
theorem dX7_landsWith_15 : decode cX7_landsWith 15 = .ok (.aload_n 0, 1) := by decide +kernel
theorem dX7_landsWith_16 : decode cX7_landsWith 16 = .ok (.getfield 131, 3) := by decide +kernel
theorem dX7_landsWith_19 : decode cX7_landsWith 19 = .ok (.ireturn, 1) := by decide +kernel
theorem dX7_endurance_0 : decode cX7_endurance 0 = .ok (.aload_n 0, 1) := by decide +kernel
theorem dX7_endurance_1 : decode cX7_endurance 1 = .ok (.iload_n 1, 1) := by decide +kernel
theorem dX7_endurance_2 : decode cX7_endurance 2 = .ok (.invokevirtual 85, 3) := by decide +kernel
theorem dX7_endurance_5 : decode cX7_endurance 5 = .ok (.ifCond .ne 5, 3) := by decide +kernel
theorem dX7_endurance_8 : decode cX7_endurance 8 = .ok (.iconst (-1), 1) := by decide +kernel
theorem dX7_endurance_9 : decode cX7_endurance 9 = .ok (.ireturn, 1) := by decide +kernel
theorem dX7_endurance_10 : decode cX7_endurance 10 = .ok (.aload_n 0, 1) := by decide +kernel
theorem dX7_endurance_11 : decode cX7_endurance 11 = .ok (.getfield 7, 3) := by decide +kernel
theorem dX7_endurance_14 : decode cX7_endurance 14 = .ok (.iload_n 1, 1) := by decide +kernel
theorem dX7_endurance_15 : decode cX7_endurance 15 = .ok (.invokestatic 52, 3) := by decide +kernel
theorem dX7_endurance_18 : decode cX7_endurance 18 = .ok (.iconst 2, 1) := by decide +kernel
theorem dX7_endurance_19 : decode cX7_endurance 19 = .ok (.iadd, 1) := by decide +kernel
theorem dX7_endurance_20 : decode cX7_endurance 20 = .ok (.iaload, 1) := by decide +kernel
theorem dX7_endurance_21 : decode cX7_endurance 21 = .ok (.ifCond .eq 6, 3) := by decide +kernel
theorem dX7_endurance_24 : decode cX7_endurance 24 = .ok (.bipush (-3), 2) := by decide +kernel
theorem dX7_endurance_26 : decode cX7_endurance 26 = .ok (.ireturn, 1) := by decide +kernel
theorem dX7_endurance_27 : decode cX7_endurance 27 = .ok (.aload_n 0, 1) := by decide +kernel
theorem dX7_endurance_28 : decode cX7_endurance 28 = .ok (.getfield 7, 3) := by decide +kernel
theorem dX7_endurance_31 : decode cX7_endurance 31 = .ok (.iload_n 1, 1) := by decide +kernel
theorem dX7_endurance_32 : decode cX7_endurance 32 = .ok (.invokestatic 52, 3) := by decide +kernel
theorem dX7_endurance_35 : decode cX7_endurance 35 = .ok (.iconst 1, 1) := by decide +kernel
theorem dX7_endurance_36 : decode cX7_endurance 36 = .ok (.iadd, 1) := by decide +kernel
theorem dX7_endurance_37 : decode cX7_endurance 37 = .ok (.iaload, 1) := by decide +kernel
theorem dX7_endurance_38 : decode cX7_endurance 38 = .ok (.aload_n 0, 1) := by decide +kernel
theorem dX7_endurance_39 : decode cX7_endurance 39 = .ok (.getfield 35, 3) := by decide +kernel
theorem dX7_endurance_42 : decode cX7_endurance 42 = .ok (.aload_n 0, 1) := by decide +kernel
theorem dX7_endurance_43 : decode cX7_endurance 43 = .ok (.getfield 7, 3) := by decide +kernel
theorem dX7_endurance_46 : decode cX7_endurance 46 = .ok (.iload_n 1, 1) := by decide +kernel
theorem dX7_endurance_47 : decode cX7_endurance 47 = .ok (.invokestatic 52, 3) := by decide +kernel
theorem dX7_endurance_50 : decode cX7_endurance 50 = .ok (.iaload, 1) := by decide +kernel
theorem dX7_endurance_51 : decode cX7_endurance 51 = .ok (.iaload, 1) := by decide +kernel
theorem dX7_endurance_52 : decode cX7_endurance 52 = .ok (.isub, 1) := by decide +kernel
theorem dX7_endurance_53 : decode cX7_endurance 53 = .ok (.istore_n 2, 1) := by decide +kernel
theorem dX7_endurance_54 : decode cX7_endurance 54 = .ok (.aload_n 0, 1) := by decide +kernel
theorem dX7_endurance_55 : decode cX7_endurance 55 = .ok (.iload_n 1, 1) := by decide +kernel
theorem dX7_endurance_56 : decode cX7_endurance 56 = .ok (.aload_n 0, 1) := by decide +kernel
theorem dX7_endurance_57 : decode cX7_endurance 57 = .ok (.getfield 7, 3) := by decide +kernel
theorem dX7_endurance_60 : decode cX7_endurance 60 = .ok (.iload_n 1, 1) := by decide +kernel
theorem dX7_endurance_61 : decode cX7_endurance 61 = .ok (.invokestatic 52, 3) := by decide +kernel
theorem dX7_endurance_64 : decode cX7_endurance 64 = .ok (.iconst 3, 1) := by decide +kernel
theorem dX7_endurance_65 : decode cX7_endurance 65 = .ok (.iadd, 1) := by decide +kernel
theorem dX7_endurance_66 : decode cX7_endurance 66 = .ok (.iaload, 1) := by decide +kernel
theorem dX7_endurance_67 : decode cX7_endurance 67 = .ok (.invokevirtual 91, 3) := by decide +kernel
theorem dX7_endurance_70 : decode cX7_endurance 70 = .ok (.istore_n 3, 1) := by decide +kernel
theorem dX7_endurance_71 : decode cX7_endurance 71 = .ok (.iload_n 2, 1) := by decide +kernel
theorem dX7_endurance_72 : decode cX7_endurance 72 = .ok (.ifCond .gt 7, 3) := by decide +kernel
theorem dX7_endurance_75 : decode cX7_endurance 75 = .ok (.iconst 0, 1) := by decide +kernel
theorem dX7_endurance_76 : decode cX7_endurance 76 = .ok (.goto 10, 3) := by decide +kernel
theorem dX7_endurance_79 : decode cX7_endurance 79 = .ok (.iload_n 2, 1) := by decide +kernel
theorem dX7_endurance_80 : decode cX7_endurance 80 = .ok (.iload_n 3, 1) := by decide +kernel
theorem dX7_endurance_81 : decode cX7_endurance 81 = .ok (.iadd, 1) := by decide +kernel
theorem dX7_endurance_82 : decode cX7_endurance 82 = .ok (.iconst 1, 1) := by decide +kernel
theorem dX7_endurance_83 : decode cX7_endurance 83 = .ok (.isub, 1) := by decide +kernel
theorem dX7_endurance_84 : decode cX7_endurance 84 = .ok (.iload_n 3, 1) := by decide +kernel
theorem dX7_endurance_85 : decode cX7_endurance 85 = .ok (.idiv, 1) := by decide +kernel
theorem dX7_endurance_86 : decode cX7_endurance 86 = .ok (.ireturn, 1) := by decide +kernel
theorem dX7_bestLevel_0 : decode cX7_bestLevel 0 = .ok (.iload_n 1, 1) := by decide +kernel
theorem dX7_bestLevel_1 : decode cX7_bestLevel 1 = .ok (.iconst 0, 1) := by decide +kernel
theorem dX7_bestLevel_2 : decode cX7_bestLevel 2 = .ok (.iconst 2, 1) := by decide +kernel
theorem dX7_bestLevel_3 : decode cX7_bestLevel 3 = .ok (.invokestatic 41, 3) := by decide +kernel
theorem dX7_bestLevel_6 : decode cX7_bestLevel 6 = .ok (.ifCond .ne 5, 3) := by decide +kernel
theorem dX7_bestLevel_9 : decode cX7_bestLevel 9 = .ok (.iconst (-1), 1) := by decide +kernel
theorem dX7_bestLevel_10 : decode cX7_bestLevel 10 = .ok (.ireturn, 1) := by decide +kernel
theorem dX7_bestLevel_11 : decode cX7_bestLevel 11 = .ok (.iload_n 2, 1) := by decide +kernel
theorem dX7_bestLevel_12 : decode cX7_bestLevel 12 = .ok (.iconst 1, 1) := by decide +kernel
theorem dX7_bestLevel_13 : decode cX7_bestLevel 13 = .ok (.sipush 9999, 3) := by decide +kernel
theorem dX7_bestLevel_16 : decode cX7_bestLevel 16 = .ok (.invokestatic 41, 3) := by decide +kernel
theorem dX7_bestLevel_19 : decode cX7_bestLevel 19 = .ok (.ifCond .ne 6, 3) := by decide +kernel
theorem dX7_bestLevel_22 : decode cX7_bestLevel 22 = .ok (.bipush (-2), 2) := by decide +kernel
theorem dX7_bestLevel_24 : decode cX7_bestLevel 24 = .ok (.ireturn, 1) := by decide +kernel
theorem dX7_bestLevel_25 : decode cX7_bestLevel 25 = .ok (.aload_n 0, 1) := by decide +kernel
theorem dX7_bestLevel_26 : decode cX7_bestLevel 26 = .ok (.getfield 7, 3) := by decide +kernel
theorem dX7_bestLevel_29 : decode cX7_bestLevel 29 = .ok (.iconst 3, 1) := by decide +kernel
theorem dX7_bestLevel_30 : decode cX7_bestLevel 30 = .ok (.iaload, 1) := by decide +kernel
theorem dX7_bestLevel_31 : decode cX7_bestLevel 31 = .ok (.bipush 20, 2) := by decide +kernel
theorem dX7_bestLevel_33 : decode cX7_bestLevel 33 = .ok (.if_icmp .ne 6, 3) := by decide +kernel
theorem dX7_bestLevel_36 : decode cX7_bestLevel 36 = .ok (.bipush (-4), 2) := by decide +kernel
theorem dX7_bestLevel_38 : decode cX7_bestLevel 38 = .ok (.ireturn, 1) := by decide +kernel
theorem dX7_bestLevel_39 : decode cX7_bestLevel 39 = .ok (.bipush (-6), 2) := by decide +kernel
theorem dX7_bestLevel_41 : decode cX7_bestLevel 41 = .ok (.istore_n 3, 1) := by decide +kernel
theorem dX7_bestLevel_42 : decode cX7_bestLevel 42 = .ok (.iconst 0, 1) := by decide +kernel
theorem dX7_bestLevel_43 : decode cX7_bestLevel 43 = .ok (.istore 4, 2) := by decide +kernel
theorem dX7_bestLevel_45 : decode cX7_bestLevel 45 = .ok (.iconst 0, 1) := by decide +kernel
theorem dX7_bestLevel_46 : decode cX7_bestLevel 46 = .ok (.istore 5, 2) := by decide +kernel
theorem dX7_bestLevel_48 : decode cX7_bestLevel 48 = .ok (.iload 5, 2) := by decide +kernel
theorem dX7_bestLevel_50 : decode cX7_bestLevel 50 = .ok (.aload_n 0, 1) := by decide +kernel
theorem dX7_bestLevel_51 : decode cX7_bestLevel 51 = .ok (.getfield 7, 3) := by decide +kernel
theorem dX7_bestLevel_54 : decode cX7_bestLevel 54 = .ok (.iconst 1, 1) := by decide +kernel
theorem dX7_bestLevel_55 : decode cX7_bestLevel 55 = .ok (.iaload, 1) := by decide +kernel
theorem dX7_bestLevel_56 : decode cX7_bestLevel 56 = .ok (.if_icmp .ge 103, 3) := by decide +kernel
theorem dX7_bestLevel_59 : decode cX7_bestLevel 59 = .ok (.aload_n 0, 1) := by decide +kernel
theorem dX7_bestLevel_60 : decode cX7_bestLevel 60 = .ok (.iload_n 1, 1) := by decide +kernel
theorem dX7_bestLevel_61 : decode cX7_bestLevel 61 = .ok (.iload_n 2, 1) := by decide +kernel
theorem dX7_bestLevel_62 : decode cX7_bestLevel 62 = .ok (.iload 5, 2) := by decide +kernel
theorem dX7_bestLevel_64 : decode cX7_bestLevel 64 = .ok (.invokevirtual 79, 3) := by decide +kernel
theorem dX7_bestLevel_67 : decode cX7_bestLevel 67 = .ok (.ifCond .ne 86, 3) := by decide +kernel
theorem dX7_bestLevel_70 : decode cX7_bestLevel 70 = .ok (.aload_n 0, 1) := by decide +kernel
theorem dX7_bestLevel_71 : decode cX7_bestLevel 71 = .ok (.aload_n 0, 1) := by decide +kernel
theorem dX7_bestLevel_72 : decode cX7_bestLevel 72 = .ok (.getfield 16, 3) := by decide +kernel
theorem dX7_bestLevel_75 : decode cX7_bestLevel 75 = .ok (.invokevirtual 134, 3) := by decide +kernel
theorem dX7_bestLevel_78 : decode cX7_bestLevel 78 = .ok (.aload_n 0, 1) := by decide +kernel
theorem dX7_bestLevel_79 : decode cX7_bestLevel 79 = .ok (.iload_n 1, 1) := by decide +kernel
theorem dX7_bestLevel_80 : decode cX7_bestLevel 80 = .ok (.iload_n 2, 1) := by decide +kernel
theorem dX7_bestLevel_81 : decode cX7_bestLevel 81 = .ok (.iload 5, 2) := by decide +kernel
theorem dX7_bestLevel_83 : decode cX7_bestLevel 83 = .ok (.invokevirtual 82, 3) := by decide +kernel
theorem dX7_bestLevel_86 : decode cX7_bestLevel 86 = .ok (.istore 6, 2) := by decide +kernel
theorem dX7_bestLevel_88 : decode cX7_bestLevel 88 = .ok (.aload_n 0, 1) := by decide +kernel
theorem dX7_bestLevel_89 : decode cX7_bestLevel 89 = .ok (.iload 6, 2) := by decide +kernel
theorem dX7_bestLevel_91 : decode cX7_bestLevel 91 = .ok (.invokevirtual 138, 3) := by decide +kernel
theorem dX7_bestLevel_94 : decode cX7_bestLevel 94 = .ok (.aload_n 0, 1) := by decide +kernel
theorem dX7_bestLevel_95 : decode cX7_bestLevel 95 = .ok (.invokevirtual 142, 3) := by decide +kernel
theorem dX7_bestLevel_98 : decode cX7_bestLevel 98 = .ok (.aload_n 0, 1) := by decide +kernel
theorem dX7_bestLevel_99 : decode cX7_bestLevel 99 = .ok (.getfield 128, 3) := by decide +kernel
theorem dX7_bestLevel_102 : decode cX7_bestLevel 102 = .ok (.ifCond .lt 20, 3) := by decide +kernel
theorem dX7_bestLevel_105 : decode cX7_bestLevel 105 = .ok (.iload_n 3, 1) := by decide +kernel
theorem dX7_bestLevel_106 : decode cX7_bestLevel 106 = .ok (.ifCond .lt 12, 3) := by decide +kernel
theorem dX7_bestLevel_109 : decode cX7_bestLevel 109 = .ok (.aload_n 0, 1) := by decide +kernel
theorem dX7_bestLevel_110 : decode cX7_bestLevel 110 = .ok (.getfield 128, 3) := by decide +kernel
theorem dX7_bestLevel_113 : decode cX7_bestLevel 113 = .ok (.iload 4, 2) := by decide +kernel
theorem dX7_bestLevel_115 : decode cX7_bestLevel 115 = .ok (.if_icmp .ge 7, 3) := by decide +kernel
theorem dX7_bestLevel_118 : decode cX7_bestLevel 118 = .ok (.iconst 1, 1) := by decide +kernel
theorem dX7_bestLevel_119 : decode cX7_bestLevel 119 = .ok (.goto 4, 3) := by decide +kernel
theorem dX7_bestLevel_122 : decode cX7_bestLevel 122 = .ok (.iconst 0, 1) := by decide +kernel
theorem dX7_bestLevel_123 : decode cX7_bestLevel 123 = .ok (.istore 7, 2) := by decide +kernel
theorem dX7_bestLevel_125 : decode cX7_bestLevel 125 = .ok (.iload 7, 2) := by decide +kernel
theorem dX7_bestLevel_127 : decode cX7_bestLevel 127 = .ok (.ifCond .eq 8, 3) := by decide +kernel
theorem dX7_bestLevel_130 : decode cX7_bestLevel 130 = .ok (.iload 5, 2) := by decide +kernel
theorem dX7_bestLevel_132 : decode cX7_bestLevel 132 = .ok (.goto 4, 3) := by decide +kernel
theorem dX7_bestLevel_135 : decode cX7_bestLevel 135 = .ok (.iload_n 3, 1) := by decide +kernel
theorem dX7_bestLevel_136 : decode cX7_bestLevel 136 = .ok (.istore_n 3, 1) := by decide +kernel
theorem dX7_bestLevel_137 : decode cX7_bestLevel 137 = .ok (.iload 7, 2) := by decide +kernel
theorem dX7_bestLevel_139 : decode cX7_bestLevel 139 = .ok (.ifCond .eq 10, 3) := by decide +kernel
theorem dX7_bestLevel_142 : decode cX7_bestLevel 142 = .ok (.aload_n 0, 1) := by decide +kernel
theorem dX7_bestLevel_143 : decode cX7_bestLevel 143 = .ok (.getfield 128, 3) := by decide +kernel
theorem dX7_bestLevel_146 : decode cX7_bestLevel 146 = .ok (.goto 5, 3) := by decide +kernel
theorem dX7_bestLevel_149 : decode cX7_bestLevel 149 = .ok (.iload 4, 2) := by decide +kernel
theorem dX7_bestLevel_151 : decode cX7_bestLevel 151 = .ok (.istore 4, 2) := by decide +kernel
theorem dX7_bestLevel_153 : decode cX7_bestLevel 153 = .ok (.iinc 5 1, 3) := by decide +kernel
theorem dX7_bestLevel_156 : decode cX7_bestLevel 156 = .ok (.goto (-108), 3) := by decide +kernel
theorem dX7_bestLevel_159 : decode cX7_bestLevel 159 = .ok (.iload_n 3, 1) := by decide +kernel
theorem dX7_bestLevel_160 : decode cX7_bestLevel 160 = .ok (.ireturn, 1) := by decide +kernel
theorem dX7_lands_0 : decode cX7_lands 0 = .ok (.iload_n 1, 1) := by decide +kernel
theorem dX7_lands_1 : decode cX7_lands 1 = .ok (.ifCond .ge 5, 3) := by decide +kernel
theorem dX7_lands_4 : decode cX7_lands 4 = .ok (.iconst (-1), 1) := by decide +kernel
theorem dX7_lands_5 : decode cX7_lands 5 = .ok (.ireturn, 1) := by decide +kernel
theorem dX7_lands_6 : decode cX7_lands 6 = .ok (.aload_n 0, 1) := by decide +kernel
theorem dX7_lands_7 : decode cX7_lands 7 = .ok (.aload_n 0, 1) := by decide +kernel
theorem dX7_lands_8 : decode cX7_lands 8 = .ok (.getfield 16, 3) := by decide +kernel
theorem dX7_lands_11 : decode cX7_lands 11 = .ok (.invokevirtual 134, 3) := by decide +kernel
theorem dX7_lands_14 : decode cX7_lands 14 = .ok (.iload_n 1, 1) := by decide +kernel
theorem dX7_lands_15 : decode cX7_lands 15 = .ok (.istore_n 2, 1) := by decide +kernel
theorem dX7_lands_16 : decode cX7_lands 16 = .ok (.bipush (-6), 2) := by decide +kernel
theorem dX7_lands_18 : decode cX7_lands 18 = .ok (.istore_n 3, 1) := by decide +kernel
theorem dX7_lands_19 : decode cX7_lands 19 = .ok (.iconst 0, 1) := by decide +kernel
theorem dX7_lands_20 : decode cX7_lands 20 = .ok (.istore 4, 2) := by decide +kernel
theorem dX7_lands_22 : decode cX7_lands 22 = .ok (.iload 4, 2) := by decide +kernel
theorem dX7_lands_24 : decode cX7_lands 24 = .ok (.sipush 600, 3) := by decide +kernel
theorem dX7_lands_27 : decode cX7_lands 27 = .ok (.if_icmp .ge 49, 3) := by decide +kernel
theorem dX7_lands_30 : decode cX7_lands 30 = .ok (.iload_n 3, 1) := by decide +kernel
theorem dX7_lands_31 : decode cX7_lands 31 = .ok (.ifCond .ge 45, 3) := by decide +kernel
theorem dX7_lands_34 : decode cX7_lands 34 = .ok (.aload_n 0, 1) := by decide +kernel
theorem dX7_lands_35 : decode cX7_lands 35 = .ok (.invokevirtual 110, 3) := by decide +kernel
theorem dX7_lands_38 : decode cX7_lands 38 = .ok (.istore 5, 2) := by decide +kernel
theorem dX7_lands_40 : decode cX7_lands 40 = .ok (.iload 5, 2) := by decide +kernel
theorem dX7_lands_42 : decode cX7_lands 42 = .ok (.ifCond .lt 12, 3) := by decide +kernel
theorem dX7_lands_45 : decode cX7_lands 45 = .ok (.iload_n 2, 1) := by decide +kernel
theorem dX7_lands_46 : decode cX7_lands 46 = .ok (.ifCond .ne 8, 3) := by decide +kernel
theorem dX7_lands_49 : decode cX7_lands 49 = .ok (.iload 5, 2) := by decide +kernel
theorem dX7_lands_51 : decode cX7_lands 51 = .ok (.goto 5, 3) := by decide +kernel
theorem dX7_lands_54 : decode cX7_lands 54 = .ok (.bipush (-6), 2) := by decide +kernel
theorem dX7_lands_56 : decode cX7_lands 56 = .ok (.istore_n 3, 1) := by decide +kernel
theorem dX7_lands_57 : decode cX7_lands 57 = .ok (.iload_n 2, 1) := by decide +kernel
theorem dX7_lands_58 : decode cX7_lands 58 = .ok (.iload 5, 2) := by decide +kernel
theorem dX7_lands_60 : decode cX7_lands 60 = .ok (.ifCond .lt 7, 3) := by decide +kernel
theorem dX7_lands_63 : decode cX7_lands 63 = .ok (.iconst 1, 1) := by decide +kernel
theorem dX7_lands_64 : decode cX7_lands 64 = .ok (.goto 4, 3) := by decide +kernel
theorem dX7_lands_67 : decode cX7_lands 67 = .ok (.iconst 0, 1) := by decide +kernel
theorem dX7_lands_68 : decode cX7_lands 68 = .ok (.isub, 1) := by decide +kernel
theorem dX7_lands_69 : decode cX7_lands 69 = .ok (.istore_n 2, 1) := by decide +kernel
theorem dX7_lands_70 : decode cX7_lands 70 = .ok (.iinc 4 1, 3) := by decide +kernel
theorem dX7_lands_73 : decode cX7_lands 73 = .ok (.goto (-51), 3) := by decide +kernel
theorem dX7_lands_76 : decode cX7_lands 76 = .ok (.aload_n 0, 1) := by decide +kernel
theorem dX7_lands_77 : decode cX7_lands 77 = .ok (.invokevirtual 142, 3) := by decide +kernel
theorem dX7_lands_80 : decode cX7_lands 80 = .ok (.iload_n 3, 1) := by decide +kernel
theorem dX7_lands_81 : decode cX7_lands 81 = .ok (.ireturn, 1) := by decide +kernel
theorem dX7_append_0 : decode cX7_append 0 = .ok (.iload_n 1, 1) := by decide +kernel
theorem dX7_append_1 : decode cX7_append 1 = .ok (.bipush 32, 2) := by decide +kernel
theorem dX7_append_3 : decode cX7_append 3 = .ok (.bipush 126, 2) := by decide +kernel
theorem dX7_append_5 : decode cX7_append 5 = .ok (.invokestatic 41, 3) := by decide +kernel
theorem dX7_append_8 : decode cX7_append 8 = .ok (.ifCond .ne 6, 3) := by decide +kernel
theorem dX7_append_11 : decode cX7_append 11 = .ok (.bipush (-2), 2) := by decide +kernel
theorem dX7_append_13 : decode cX7_append 13 = .ok (.ireturn, 1) := by decide +kernel
theorem dX7_append_14 : decode cX7_append 14 = .ok (.aload_n 0, 1) := by decide +kernel
theorem dX7_append_15 : decode cX7_append 15 = .ok (.getfield 151, 3) := by decide +kernel
theorem dX7_append_18 : decode cX7_append 18 = .ok (.bipush 80, 2) := by decide +kernel
theorem dX7_append_20 : decode cX7_append 20 = .ok (.if_icmp .ne 6, 3) := by decide +kernel
theorem dX7_append_23 : decode cX7_append 23 = .ok (.bipush (-4), 2) := by decide +kernel
theorem dX7_append_25 : decode cX7_append 25 = .ok (.ireturn, 1) := by decide +kernel
theorem dX7_append_26 : decode cX7_append 26 = .ok (.aload_n 0, 1) := by decide +kernel
theorem dX7_append_27 : decode cX7_append 27 = .ok (.getfield 26, 3) := by decide +kernel
theorem dX7_append_30 : decode cX7_append 30 = .ok (.aload_n 0, 1) := by decide +kernel
theorem dX7_append_31 : decode cX7_append 31 = .ok (.getfield 151, 3) := by decide +kernel
theorem dX7_append_34 : decode cX7_append 34 = .ok (.iload_n 1, 1) := by decide +kernel
theorem dX7_append_35 : decode cX7_append 35 = .ok (.iastore, 1) := by decide +kernel
theorem dX7_append_36 : decode cX7_append 36 = .ok (.aload_n 0, 1) := by decide +kernel
theorem dX7_append_37 : decode cX7_append 37 = .ok (.dup, 1) := by decide +kernel
theorem dX7_append_38 : decode cX7_append 38 = .ok (.getfield 151, 3) := by decide +kernel
theorem dX7_append_41 : decode cX7_append 41 = .ok (.iconst 1, 1) := by decide +kernel
theorem dX7_append_42 : decode cX7_append 42 = .ok (.iadd, 1) := by decide +kernel
theorem dX7_append_43 : decode cX7_append 43 = .ok (.putfield 151, 3) := by decide +kernel
theorem dX7_append_46 : decode cX7_append 46 = .ok (.aload_n 0, 1) := by decide +kernel
theorem dX7_append_47 : decode cX7_append 47 = .ok (.getfield 151, 3) := by decide +kernel
theorem dX7_append_50 : decode cX7_append 50 = .ok (.ireturn, 1) := by decide +kernel
theorem dX7_clearText_0 : decode cX7_clearText 0 = .ok (.aload_n 0, 1) := by decide +kernel
theorem dX7_clearText_1 : decode cX7_clearText 1 = .ok (.getfield 151, 3) := by decide +kernel
theorem dX7_clearText_4 : decode cX7_clearText 4 = .ok (.istore_n 1, 1) := by decide +kernel
theorem dX7_clearText_5 : decode cX7_clearText 5 = .ok (.aload_n 0, 1) := by decide +kernel
theorem dX7_clearText_6 : decode cX7_clearText 6 = .ok (.iconst 0, 1) := by decide +kernel
theorem dX7_clearText_7 : decode cX7_clearText 7 = .ok (.putfield 151, 3) := by decide +kernel
theorem dX7_clearText_10 : decode cX7_clearText 10 = .ok (.iload_n 1, 1) := by decide +kernel
theorem dX7_clearText_11 : decode cX7_clearText 11 = .ok (.ireturn, 1) := by decide +kernel
theorem dX7_here_0 : decode cX7_here 0 = .ok (.aload_n 0, 1) := by decide +kernel
theorem dX7_here_1 : decode cX7_here 1 = .ok (.getfield 154, 3) := by decide +kernel
theorem dX7_here_4 : decode cX7_here 4 = .ok (.aload_n 0, 1) := by decide +kernel
theorem dX7_here_5 : decode cX7_here 5 = .ok (.getfield 151, 3) := by decide +kernel
theorem dX7_here_8 : decode cX7_here 8 = .ok (.if_icmp .ge 15, 3) := by decide +kernel
theorem dX7_here_11 : decode cX7_here 11 = .ok (.aload_n 0, 1) := by decide +kernel
theorem dX7_here_12 : decode cX7_here 12 = .ok (.getfield 26, 3) := by decide +kernel
theorem dX7_here_15 : decode cX7_here 15 = .ok (.aload_n 0, 1) := by decide +kernel
theorem dX7_here_16 : decode cX7_here 16 = .ok (.getfield 154, 3) := by decide +kernel
theorem dX7_here_19 : decode cX7_here 19 = .ok (.iaload, 1) := by decide +kernel
theorem dX7_here_20 : decode cX7_here 20 = .ok (.goto 4, 3) := by decide +kernel
theorem dX7_here_23 : decode cX7_here 23 = .ok (.iconst (-1), 1) := by decide +kernel
theorem dX7_here_24 : decode cX7_here 24 = .ok (.ireturn, 1) := by decide +kernel
theorem dX7_takes_0 : decode cX7_takes 0 = .ok (.aload_n 0, 1) := by decide +kernel
theorem dX7_takes_1 : decode cX7_takes 1 = .ok (.invokevirtual 157, 3) := by decide +kernel
theorem dX7_takes_4 : decode cX7_takes 4 = .ok (.iload_n 1, 1) := by decide +kernel
theorem dX7_takes_5 : decode cX7_takes 5 = .ok (.if_icmp .ne 7, 3) := by decide +kernel
theorem dX7_takes_8 : decode cX7_takes 8 = .ok (.iconst 1, 1) := by decide +kernel
theorem dX7_takes_9 : decode cX7_takes 9 = .ok (.goto 4, 3) := by decide +kernel
theorem dX7_takes_12 : decode cX7_takes 12 = .ok (.iconst 0, 1) := by decide +kernel
theorem dX7_takes_13 : decode cX7_takes 13 = .ok (.istore_n 2, 1) := by decide +kernel
theorem dX7_takes_14 : decode cX7_takes 14 = .ok (.aload_n 0, 1) := by decide +kernel
theorem dX7_takes_15 : decode cX7_takes 15 = .ok (.dup, 1) := by decide +kernel
theorem dX7_takes_16 : decode cX7_takes 16 = .ok (.getfield 154, 3) := by decide +kernel
theorem dX7_takes_19 : decode cX7_takes 19 = .ok (.iload_n 2, 1) := by decide +kernel
theorem dX7_takes_20 : decode cX7_takes 20 = .ok (.ifCond .eq 7, 3) := by decide +kernel
theorem dX7_takes_23 : decode cX7_takes 23 = .ok (.iconst 1, 1) := by decide +kernel
theorem dX7_takes_24 : decode cX7_takes 24 = .ok (.goto 4, 3) := by decide +kernel
theorem dX7_takes_27 : decode cX7_takes 27 = .ok (.iconst 0, 1) := by decide +kernel
theorem dX7_takes_28 : decode cX7_takes 28 = .ok (.iadd, 1) := by decide +kernel
theorem dX7_takes_29 : decode cX7_takes 29 = .ok (.putfield 154, 3) := by decide +kernel
theorem dX7_takes_32 : decode cX7_takes 32 = .ok (.iload_n 2, 1) := by decide +kernel
theorem dX7_takes_33 : decode cX7_takes 33 = .ok (.ireturn, 1) := by decide +kernel
theorem dX7_digit_0 : decode cX7_digit 0 = .ok (.aload_n 0, 1) := by decide +kernel
theorem dX7_digit_1 : decode cX7_digit 1 = .ok (.invokevirtual 157, 3) := by decide +kernel
theorem dX7_digit_4 : decode cX7_digit 4 = .ok (.bipush 48, 2) := by decide +kernel
theorem dX7_digit_6 : decode cX7_digit 6 = .ok (.bipush 57, 2) := by decide +kernel
theorem dX7_digit_8 : decode cX7_digit 8 = .ok (.invokestatic 41, 3) := by decide +kernel
theorem dX7_digit_11 : decode cX7_digit 11 = .ok (.ifCond .eq 13, 3) := by decide +kernel
theorem dX7_digit_14 : decode cX7_digit 14 = .ok (.aload_n 0, 1) := by decide +kernel
theorem dX7_digit_15 : decode cX7_digit 15 = .ok (.invokevirtual 157, 3) := by decide +kernel
theorem dX7_digit_18 : decode cX7_digit 18 = .ok (.bipush 48, 2) := by decide +kernel
theorem dX7_digit_20 : decode cX7_digit 20 = .ok (.isub, 1) := by decide +kernel
theorem dX7_digit_21 : decode cX7_digit 21 = .ok (.goto 4, 3) := by decide +kernel
theorem dX7_digit_24 : decode cX7_digit 24 = .ok (.iconst (-1), 1) := by decide +kernel
theorem dX7_digit_25 : decode cX7_digit 25 = .ok (.ireturn, 1) := by decide +kernel
theorem dX7_isNumber_0 : decode cX7_isNumber 0 = .ok (.aload_n 0, 1) := by decide +kernel
theorem dX7_isNumber_1 : decode cX7_isNumber 1 = .ok (.getfield 154, 3) := by decide +kernel
theorem dX7_isNumber_4 : decode cX7_isNumber 4 = .ok (.istore 4, 2) := by decide +kernel
theorem dX7_isNumber_6 : decode cX7_isNumber 6 = .ok (.aload_n 0, 1) := by decide +kernel
theorem dX7_isNumber_7 : decode cX7_isNumber 7 = .ok (.invokevirtual 160, 3) := by decide +kernel
theorem dX7_isNumber_10 : decode cX7_isNumber 10 = .ok (.istore 5, 2) := by decide +kernel
theorem dX7_isNumber_12 : decode cX7_isNumber 12 = .ok (.iload 5, 2) := by decide +kernel
theorem dX7_isNumber_14 : decode cX7_isNumber 14 = .ok (.ifCond .ge 5, 3) := by decide +kernel
theorem dX7_isNumber_17 : decode cX7_isNumber 17 = .ok (.iconst 0, 1) := by decide +kernel
theorem dX7_isNumber_18 : decode cX7_isNumber 18 = .ok (.ireturn, 1) := by decide +kernel
theorem dX7_isNumber_19 : decode cX7_isNumber 19 = .ok (.aload_n 0, 1) := by decide +kernel
theorem dX7_isNumber_20 : decode cX7_isNumber 20 = .ok (.dup, 1) := by decide +kernel
theorem dX7_isNumber_21 : decode cX7_isNumber 21 = .ok (.getfield 154, 3) := by decide +kernel
theorem dX7_isNumber_24 : decode cX7_isNumber 24 = .ok (.iconst 1, 1) := by decide +kernel
theorem dX7_isNumber_25 : decode cX7_isNumber 25 = .ok (.iadd, 1) := by decide +kernel
theorem dX7_isNumber_26 : decode cX7_isNumber 26 = .ok (.putfield 154, 3) := by decide +kernel
theorem dX7_isNumber_29 : decode cX7_isNumber 29 = .ok (.iload 5, 2) := by decide +kernel
theorem dX7_isNumber_31 : decode cX7_isNumber 31 = .ok (.ifCond .ne 7, 3) := by decide +kernel
theorem dX7_isNumber_34 : decode cX7_isNumber 34 = .ok (.iconst 1, 1) := by decide +kernel
theorem dX7_isNumber_35 : decode cX7_isNumber 35 = .ok (.goto 4, 3) := by decide +kernel
theorem dX7_isNumber_38 : decode cX7_isNumber 38 = .ok (.iconst 0, 1) := by decide +kernel
theorem dX7_isNumber_39 : decode cX7_isNumber 39 = .ok (.istore 6, 2) := by decide +kernel
theorem dX7_isNumber_41 : decode cX7_isNumber 41 = .ok (.iload 6, 2) := by decide +kernel
theorem dX7_isNumber_43 : decode cX7_isNumber 43 = .ok (.ifCond .ne 46, 3) := by decide +kernel
theorem dX7_isNumber_46 : decode cX7_isNumber 46 = .ok (.aload_n 0, 1) := by decide +kernel
theorem dX7_isNumber_47 : decode cX7_isNumber 47 = .ok (.invokevirtual 160, 3) := by decide +kernel
theorem dX7_isNumber_50 : decode cX7_isNumber 50 = .ok (.ifCond .lt 39, 3) := by decide +kernel
theorem dX7_isNumber_53 : decode cX7_isNumber 53 = .ok (.aload_n 0, 1) := by decide +kernel
theorem dX7_isNumber_54 : decode cX7_isNumber 54 = .ok (.getfield 154, 3) := by decide +kernel
theorem dX7_isNumber_57 : decode cX7_isNumber 57 = .ok (.iload 4, 2) := by decide +kernel
theorem dX7_isNumber_59 : decode cX7_isNumber 59 = .ok (.iconst 4, 1) := by decide +kernel
theorem dX7_isNumber_60 : decode cX7_isNumber 60 = .ok (.iadd, 1) := by decide +kernel
theorem dX7_isNumber_61 : decode cX7_isNumber 61 = .ok (.if_icmp .ge 28, 3) := by decide +kernel
theorem dX7_isNumber_64 : decode cX7_isNumber 64 = .ok (.bipush 10, 2) := by decide +kernel
theorem dX7_isNumber_66 : decode cX7_isNumber 66 = .ok (.iload 5, 2) := by decide +kernel
theorem dX7_isNumber_68 : decode cX7_isNumber 68 = .ok (.imul, 1) := by decide +kernel
theorem dX7_isNumber_69 : decode cX7_isNumber 69 = .ok (.aload_n 0, 1) := by decide +kernel
theorem dX7_isNumber_70 : decode cX7_isNumber 70 = .ok (.invokevirtual 160, 3) := by decide +kernel
theorem dX7_isNumber_73 : decode cX7_isNumber 73 = .ok (.iadd, 1) := by decide +kernel
theorem dX7_isNumber_74 : decode cX7_isNumber 74 = .ok (.istore 5, 2) := by decide +kernel
theorem dX7_isNumber_76 : decode cX7_isNumber 76 = .ok (.aload_n 0, 1) := by decide +kernel
theorem dX7_isNumber_77 : decode cX7_isNumber 77 = .ok (.dup, 1) := by decide +kernel
theorem dX7_isNumber_78 : decode cX7_isNumber 78 = .ok (.getfield 154, 3) := by decide +kernel
theorem dX7_isNumber_81 : decode cX7_isNumber 81 = .ok (.iconst 1, 1) := by decide +kernel
theorem dX7_isNumber_82 : decode cX7_isNumber 82 = .ok (.iadd, 1) := by decide +kernel
theorem dX7_isNumber_83 : decode cX7_isNumber 83 = .ok (.putfield 154, 3) := by decide +kernel
theorem dX7_isNumber_86 : decode cX7_isNumber 86 = .ok (.goto (-45), 3) := by decide +kernel
theorem dX7_isNumber_89 : decode cX7_isNumber 89 = .ok (.aload_n 0, 1) := by decide +kernel
theorem dX7_isNumber_90 : decode cX7_isNumber 90 = .ok (.getfield 29, 3) := by decide +kernel
theorem dX7_isNumber_93 : decode cX7_isNumber 93 = .ok (.iload_n 3, 1) := by decide +kernel
theorem dX7_isNumber_94 : decode cX7_isNumber 94 = .ok (.iload 5, 2) := by decide +kernel
theorem dX7_isNumber_96 : decode cX7_isNumber 96 = .ok (.iastore, 1) := by decide +kernel
theorem dX7_isNumber_97 : decode cX7_isNumber 97 = .ok (.iload 5, 2) := by decide +kernel
theorem dX7_isNumber_99 : decode cX7_isNumber 99 = .ok (.iload_n 1, 1) := by decide +kernel
theorem dX7_isNumber_100 : decode cX7_isNumber 100 = .ok (.iload_n 2, 1) := by decide +kernel
theorem dX7_isNumber_101 : decode cX7_isNumber 101 = .ok (.invokestatic 41, 3) := by decide +kernel
theorem dX7_isNumber_104 : decode cX7_isNumber 104 = .ok (.istore 7, 2) := by decide +kernel
theorem dX7_isNumber_106 : decode cX7_isNumber 106 = .ok (.aload_n 0, 1) := by decide +kernel
theorem dX7_isNumber_107 : decode cX7_isNumber 107 = .ok (.iload 7, 2) := by decide +kernel
theorem dX7_isNumber_109 : decode cX7_isNumber 109 = .ok (.ifCond .eq 10, 3) := by decide +kernel
theorem dX7_isNumber_112 : decode cX7_isNumber 112 = .ok (.aload_n 0, 1) := by decide +kernel
theorem dX7_isNumber_113 : decode cX7_isNumber 113 = .ok (.getfield 154, 3) := by decide +kernel
theorem dX7_isNumber_116 : decode cX7_isNumber 116 = .ok (.goto 5, 3) := by decide +kernel
theorem dX7_isNumber_119 : decode cX7_isNumber 119 = .ok (.iload 4, 2) := by decide +kernel
theorem dX7_isNumber_121 : decode cX7_isNumber 121 = .ok (.putfield 154, 3) := by decide +kernel
theorem dX7_isNumber_124 : decode cX7_isNumber 124 = .ok (.iload 7, 2) := by decide +kernel
theorem dX7_isNumber_126 : decode cX7_isNumber 126 = .ok (.ireturn, 1) := by decide +kernel
theorem dX7_isStrip_0 : decode cX7_isStrip 0 = .ok (.aload_n 0, 1) := by decide +kernel
theorem dX7_isStrip_1 : decode cX7_isStrip 1 = .ok (.bipush 43, 2) := by decide +kernel
theorem dX7_isStrip_3 : decode cX7_isStrip 3 = .ok (.invokevirtual 163, 3) := by decide +kernel
theorem dX7_isStrip_6 : decode cX7_isStrip 6 = .ok (.ifCond .eq 131, 3) := by decide +kernel
theorem dX7_isStrip_9 : decode cX7_isStrip 9 = .ok (.aload_n 0, 1) := by decide +kernel
theorem dX7_isStrip_10 : decode cX7_isStrip 10 = .ok (.getfield 29, 3) := by decide +kernel
theorem dX7_isStrip_13 : decode cX7_isStrip 13 = .ok (.iconst 0, 1) := by decide +kernel
theorem dX7_isStrip_14 : decode cX7_isStrip 14 = .ok (.iconst 0, 1) := by decide +kernel
theorem dX7_isStrip_15 : decode cX7_isStrip 15 = .ok (.iastore, 1) := by decide +kernel
theorem dX7_isStrip_16 : decode cX7_isStrip 16 = .ok (.aload_n 0, 1) := by decide +kernel
theorem dX7_isStrip_17 : decode cX7_isStrip 17 = .ok (.getfield 29, 3) := by decide +kernel
theorem dX7_isStrip_20 : decode cX7_isStrip 20 = .ok (.iconst 1, 1) := by decide +kernel
theorem dX7_isStrip_21 : decode cX7_isStrip 21 = .ok (.aload_n 0, 1) := by decide +kernel
theorem dX7_isStrip_22 : decode cX7_isStrip 22 = .ok (.invokevirtual 157, 3) := by decide +kernel
theorem dX7_isStrip_25 : decode cX7_isStrip 25 = .ok (.bipush 108, 2) := by decide +kernel
theorem dX7_isStrip_27 : decode cX7_isStrip 27 = .ok (.if_icmp .ne 7, 3) := by decide +kernel
theorem dX7_isStrip_30 : decode cX7_isStrip 30 = .ok (.iconst 0, 1) := by decide +kernel
theorem dX7_isStrip_31 : decode cX7_isStrip 31 = .ok (.goto 31, 3) := by decide +kernel
theorem dX7_isStrip_34 : decode cX7_isStrip 34 = .ok (.aload_n 0, 1) := by decide +kernel
theorem dX7_isStrip_35 : decode cX7_isStrip 35 = .ok (.invokevirtual 157, 3) := by decide +kernel
theorem dX7_isStrip_38 : decode cX7_isStrip 38 = .ok (.bipush 109, 2) := by decide +kernel
theorem dX7_isStrip_40 : decode cX7_isStrip 40 = .ok (.if_icmp .ne 7, 3) := by decide +kernel
theorem dX7_isStrip_43 : decode cX7_isStrip 43 = .ok (.iconst 1, 1) := by decide +kernel
theorem dX7_isStrip_44 : decode cX7_isStrip 44 = .ok (.goto 18, 3) := by decide +kernel
theorem dX7_isStrip_47 : decode cX7_isStrip 47 = .ok (.aload_n 0, 1) := by decide +kernel
theorem dX7_isStrip_48 : decode cX7_isStrip 48 = .ok (.invokevirtual 157, 3) := by decide +kernel
theorem dX7_isStrip_51 : decode cX7_isStrip 51 = .ok (.bipush 104, 2) := by decide +kernel
theorem dX7_isStrip_53 : decode cX7_isStrip 53 = .ok (.if_icmp .ne 7, 3) := by decide +kernel
theorem dX7_isStrip_56 : decode cX7_isStrip 56 = .ok (.iconst 2, 1) := by decide +kernel
theorem dX7_isStrip_57 : decode cX7_isStrip 57 = .ok (.goto 5, 3) := by decide +kernel
theorem dX7_isStrip_60 : decode cX7_isStrip 60 = .ok (.bipush (-6), 2) := by decide +kernel
theorem dX7_isStrip_62 : decode cX7_isStrip 62 = .ok (.iastore, 1) := by decide +kernel
theorem dX7_isStrip_63 : decode cX7_isStrip 63 = .ok (.aload_n 0, 1) := by decide +kernel
theorem dX7_isStrip_64 : decode cX7_isStrip 64 = .ok (.dup, 1) := by decide +kernel
theorem dX7_isStrip_65 : decode cX7_isStrip 65 = .ok (.getfield 154, 3) := by decide +kernel
theorem dX7_isStrip_68 : decode cX7_isStrip 68 = .ok (.aload_n 0, 1) := by decide +kernel
theorem dX7_isStrip_69 : decode cX7_isStrip 69 = .ok (.getfield 29, 3) := by decide +kernel
theorem dX7_isStrip_72 : decode cX7_isStrip 72 = .ok (.iconst 1, 1) := by decide +kernel
theorem dX7_isStrip_73 : decode cX7_isStrip 73 = .ok (.iaload, 1) := by decide +kernel
theorem dX7_isStrip_74 : decode cX7_isStrip 74 = .ok (.bipush (-6), 2) := by decide +kernel
theorem dX7_isStrip_76 : decode cX7_isStrip 76 = .ok (.if_icmp .ne 7, 3) := by decide +kernel
theorem dX7_isStrip_79 : decode cX7_isStrip 79 = .ok (.iconst 0, 1) := by decide +kernel
theorem dX7_isStrip_80 : decode cX7_isStrip 80 = .ok (.goto 4, 3) := by decide +kernel
theorem dX7_isStrip_83 : decode cX7_isStrip 83 = .ok (.iconst 1, 1) := by decide +kernel
theorem dX7_isStrip_84 : decode cX7_isStrip 84 = .ok (.iadd, 1) := by decide +kernel
theorem dX7_isStrip_85 : decode cX7_isStrip 85 = .ok (.putfield 154, 3) := by decide +kernel
theorem dX7_isStrip_88 : decode cX7_isStrip 88 = .ok (.aload_n 0, 1) := by decide +kernel
theorem dX7_isStrip_89 : decode cX7_isStrip 89 = .ok (.getfield 29, 3) := by decide +kernel
theorem dX7_isStrip_92 : decode cX7_isStrip 92 = .ok (.iconst 1, 1) := by decide +kernel
theorem dX7_isStrip_93 : decode cX7_isStrip 93 = .ok (.iaload, 1) := by decide +kernel
theorem dX7_isStrip_94 : decode cX7_isStrip 94 = .ok (.bipush (-6), 2) := by decide +kernel
theorem dX7_isStrip_96 : decode cX7_isStrip 96 = .ok (.if_icmp .eq 39, 3) := by decide +kernel
theorem dX7_isStrip_99 : decode cX7_isStrip 99 = .ok (.aload_n 0, 1) := by decide +kernel
theorem dX7_isStrip_100 : decode cX7_isStrip 100 = .ok (.iconst 1, 1) := by decide +kernel
theorem dX7_isStrip_101 : decode cX7_isStrip 101 = .ok (.sipush 9999, 3) := by decide +kernel
theorem dX7_isStrip_104 : decode cX7_isStrip 104 = .ok (.iconst 2, 1) := by decide +kernel
theorem dX7_isStrip_105 : decode cX7_isStrip 105 = .ok (.invokevirtual 166, 3) := by decide +kernel
theorem dX7_isStrip_108 : decode cX7_isStrip 108 = .ok (.ifCond .eq 27, 3) := by decide +kernel
theorem dX7_isStrip_111 : decode cX7_isStrip 111 = .ok (.aload_n 0, 1) := by decide +kernel
theorem dX7_isStrip_112 : decode cX7_isStrip 112 = .ok (.bipush 64, 2) := by decide +kernel
theorem dX7_isStrip_114 : decode cX7_isStrip 114 = .ok (.invokevirtual 163, 3) := by decide +kernel
theorem dX7_isStrip_117 : decode cX7_isStrip 117 = .ok (.ifCond .eq 18, 3) := by decide +kernel
theorem dX7_isStrip_120 : decode cX7_isStrip 120 = .ok (.aload_n 0, 1) := by decide +kernel
theorem dX7_isStrip_121 : decode cX7_isStrip 121 = .ok (.iconst 0, 1) := by decide +kernel
theorem dX7_isStrip_122 : decode cX7_isStrip 122 = .ok (.bipush 15, 2) := by decide +kernel
theorem dX7_isStrip_124 : decode cX7_isStrip 124 = .ok (.iconst 3, 1) := by decide +kernel
theorem dX7_isStrip_125 : decode cX7_isStrip 125 = .ok (.invokevirtual 166, 3) := by decide +kernel
theorem dX7_isStrip_128 : decode cX7_isStrip 128 = .ok (.ifCond .eq 7, 3) := by decide +kernel
theorem dX7_isStrip_131 : decode cX7_isStrip 131 = .ok (.iconst 1, 1) := by decide +kernel
theorem dX7_isStrip_132 : decode cX7_isStrip 132 = .ok (.goto 4, 3) := by decide +kernel
theorem dX7_isStrip_135 : decode cX7_isStrip 135 = .ok (.iconst 0, 1) := by decide +kernel
theorem dX7_isStrip_136 : decode cX7_isStrip 136 = .ok (.ireturn, 1) := by decide +kernel
theorem dX7_isStrip_137 : decode cX7_isStrip 137 = .ok (.aload_n 0, 1) := by decide +kernel
theorem dX7_isStrip_138 : decode cX7_isStrip 138 = .ok (.bipush 99, 2) := by decide +kernel
theorem dX7_isStrip_140 : decode cX7_isStrip 140 = .ok (.invokevirtual 163, 3) := by decide +kernel
theorem dX7_isStrip_143 : decode cX7_isStrip 143 = .ok (.ifCond .eq 19, 3) := by decide +kernel
theorem dX7_isStrip_146 : decode cX7_isStrip 146 = .ok (.aload_n 0, 1) := by decide +kernel
theorem dX7_isStrip_147 : decode cX7_isStrip 147 = .ok (.getfield 29, 3) := by decide +kernel
theorem dX7_isStrip_150 : decode cX7_isStrip 150 = .ok (.iconst 0, 1) := by decide +kernel
theorem dX7_isStrip_151 : decode cX7_isStrip 151 = .ok (.iconst 1, 1) := by decide +kernel
theorem dX7_isStrip_152 : decode cX7_isStrip 152 = .ok (.iastore, 1) := by decide +kernel
theorem dX7_isStrip_153 : decode cX7_isStrip 153 = .ok (.aload_n 0, 1) := by decide +kernel
theorem dX7_isStrip_154 : decode cX7_isStrip 154 = .ok (.iconst 0, 1) := by decide +kernel
theorem dX7_isStrip_155 : decode cX7_isStrip 155 = .ok (.bipush 19, 2) := by decide +kernel
theorem dX7_isStrip_157 : decode cX7_isStrip 157 = .ok (.iconst 1, 1) := by decide +kernel
theorem dX7_isStrip_158 : decode cX7_isStrip 158 = .ok (.invokevirtual 166, 3) := by decide +kernel
theorem dX7_isStrip_161 : decode cX7_isStrip 161 = .ok (.ireturn, 1) := by decide +kernel
theorem dX7_isStrip_162 : decode cX7_isStrip 162 = .ok (.aload_n 0, 1) := by decide +kernel
theorem dX7_isStrip_163 : decode cX7_isStrip 163 = .ok (.bipush 116, 2) := by decide +kernel
theorem dX7_isStrip_165 : decode cX7_isStrip 165 = .ok (.invokevirtual 163, 3) := by decide +kernel
theorem dX7_isStrip_168 : decode cX7_isStrip 168 = .ok (.ifCond .eq 19, 3) := by decide +kernel
theorem dX7_isStrip_171 : decode cX7_isStrip 171 = .ok (.aload_n 0, 1) := by decide +kernel
theorem dX7_isStrip_172 : decode cX7_isStrip 172 = .ok (.getfield 29, 3) := by decide +kernel
theorem dX7_isStrip_175 : decode cX7_isStrip 175 = .ok (.iconst 0, 1) := by decide +kernel
theorem dX7_isStrip_176 : decode cX7_isStrip 176 = .ok (.iconst 2, 1) := by decide +kernel
theorem dX7_isStrip_177 : decode cX7_isStrip 177 = .ok (.iastore, 1) := by decide +kernel
theorem dX7_isStrip_178 : decode cX7_isStrip 178 = .ok (.aload_n 0, 1) := by decide +kernel
theorem dX7_isStrip_179 : decode cX7_isStrip 179 = .ok (.iconst 1, 1) := by decide +kernel
theorem dX7_isStrip_180 : decode cX7_isStrip 180 = .ok (.bipush 99, 2) := by decide +kernel
theorem dX7_isStrip_182 : decode cX7_isStrip 182 = .ok (.iconst 1, 1) := by decide +kernel
theorem dX7_isStrip_183 : decode cX7_isStrip 183 = .ok (.invokevirtual 166, 3) := by decide +kernel
theorem dX7_isStrip_186 : decode cX7_isStrip 186 = .ok (.ireturn, 1) := by decide +kernel
theorem dX7_isStrip_187 : decode cX7_isStrip 187 = .ok (.aload_n 0, 1) := by decide +kernel
theorem dX7_isStrip_188 : decode cX7_isStrip 188 = .ok (.getfield 29, 3) := by decide +kernel
theorem dX7_isStrip_191 : decode cX7_isStrip 191 = .ok (.iconst 0, 1) := by decide +kernel
theorem dX7_isStrip_192 : decode cX7_isStrip 192 = .ok (.iconst 3, 1) := by decide +kernel
theorem dX7_isStrip_193 : decode cX7_isStrip 193 = .ok (.iastore, 1) := by decide +kernel
theorem dX7_isStrip_194 : decode cX7_isStrip 194 = .ok (.aload_n 0, 1) := by decide +kernel
theorem dX7_isStrip_195 : decode cX7_isStrip 195 = .ok (.getfield 29, 3) := by decide +kernel
theorem dX7_isStrip_198 : decode cX7_isStrip 198 = .ok (.iconst 1, 1) := by decide +kernel
theorem dX7_isStrip_199 : decode cX7_isStrip 199 = .ok (.aload_n 0, 1) := by decide +kernel
theorem dX7_isStrip_200 : decode cX7_isStrip 200 = .ok (.invokevirtual 157, 3) := by decide +kernel
theorem dX7_isStrip_203 : decode cX7_isStrip 203 = .ok (.bipush 111, 2) := by decide +kernel
theorem dX7_isStrip_205 : decode cX7_isStrip 205 = .ok (.if_icmp .ne 7, 3) := by decide +kernel
theorem dX7_isStrip_208 : decode cX7_isStrip 208 = .ok (.iconst 1, 1) := by decide +kernel
theorem dX7_isStrip_209 : decode cX7_isStrip 209 = .ok (.goto 4, 3) := by decide +kernel
theorem dX7_isStrip_212 : decode cX7_isStrip 212 = .ok (.iconst 0, 1) := by decide +kernel
theorem dX7_isStrip_213 : decode cX7_isStrip 213 = .ok (.iastore, 1) := by decide +kernel
theorem dX7_isStrip_214 : decode cX7_isStrip 214 = .ok (.aload_n 0, 1) := by decide +kernel
theorem dX7_isStrip_215 : decode cX7_isStrip 215 = .ok (.bipush 111, 2) := by decide +kernel
theorem dX7_isStrip_217 : decode cX7_isStrip 217 = .ok (.invokevirtual 163, 3) := by decide +kernel
theorem dX7_isStrip_220 : decode cX7_isStrip 220 = .ok (.ifCond .ne 12, 3) := by decide +kernel
theorem dX7_isStrip_223 : decode cX7_isStrip 223 = .ok (.aload_n 0, 1) := by decide +kernel
theorem dX7_isStrip_224 : decode cX7_isStrip 224 = .ok (.bipush 120, 2) := by decide +kernel
theorem dX7_isStrip_226 : decode cX7_isStrip 226 = .ok (.invokevirtual 163, 3) := by decide +kernel
theorem dX7_isStrip_229 : decode cX7_isStrip 229 = .ok (.ifCond .eq 7, 3) := by decide +kernel
theorem dX7_isStrip_232 : decode cX7_isStrip 232 = .ok (.iconst 1, 1) := by decide +kernel
theorem dX7_isStrip_233 : decode cX7_isStrip 233 = .ok (.goto 4, 3) := by decide +kernel
theorem dX7_isStrip_236 : decode cX7_isStrip 236 = .ok (.iconst 0, 1) := by decide +kernel
theorem dX7_isStrip_237 : decode cX7_isStrip 237 = .ok (.ireturn, 1) := by decide +kernel
theorem dX7_isText_0 : decode cX7_isText 0 = .ok (.aload_n 0, 1) := by decide +kernel
theorem dX7_isText_1 : decode cX7_isText 1 = .ok (.iconst 0, 1) := by decide +kernel
theorem dX7_isText_2 : decode cX7_isText 2 = .ok (.putfield 154, 3) := by decide +kernel
theorem dX7_isText_5 : decode cX7_isText 5 = .ok (.iconst 1, 1) := by decide +kernel
theorem dX7_isText_6 : decode cX7_isText 6 = .ok (.istore_n 1, 1) := by decide +kernel
theorem dX7_isText_7 : decode cX7_isText 7 = .ok (.iload_n 1, 1) := by decide +kernel
theorem dX7_isText_8 : decode cX7_isText 8 = .ok (.ifCond .eq 39, 3) := by decide +kernel
theorem dX7_isText_11 : decode cX7_isText 11 = .ok (.aload_n 0, 1) := by decide +kernel
theorem dX7_isText_12 : decode cX7_isText 12 = .ok (.getfield 154, 3) := by decide +kernel
theorem dX7_isText_15 : decode cX7_isText 15 = .ok (.aload_n 0, 1) := by decide +kernel
theorem dX7_isText_16 : decode cX7_isText 16 = .ok (.getfield 151, 3) := by decide +kernel
theorem dX7_isText_19 : decode cX7_isText 19 = .ok (.if_icmp .ge 28, 3) := by decide +kernel
theorem dX7_isText_22 : decode cX7_isText 22 = .ok (.aload_n 0, 1) := by decide +kernel
theorem dX7_isText_23 : decode cX7_isText 23 = .ok (.invokevirtual 169, 3) := by decide +kernel
theorem dX7_isText_26 : decode cX7_isText 26 = .ok (.ifCond .eq 16, 3) := by decide +kernel
theorem dX7_isText_29 : decode cX7_isText 29 = .ok (.aload_n 0, 1) := by decide +kernel
theorem dX7_isText_30 : decode cX7_isText 30 = .ok (.bipush 59, 2) := by decide +kernel
theorem dX7_isText_32 : decode cX7_isText 32 = .ok (.invokevirtual 163, 3) := by decide +kernel
theorem dX7_isText_35 : decode cX7_isText 35 = .ok (.ifCond .eq 7, 3) := by decide +kernel
theorem dX7_isText_38 : decode cX7_isText 38 = .ok (.iconst 1, 1) := by decide +kernel
theorem dX7_isText_39 : decode cX7_isText 39 = .ok (.goto 4, 3) := by decide +kernel
theorem dX7_isText_42 : decode cX7_isText 42 = .ok (.iconst 0, 1) := by decide +kernel
theorem dX7_isText_43 : decode cX7_isText 43 = .ok (.istore_n 1, 1) := by decide +kernel
theorem dX7_isText_44 : decode cX7_isText 44 = .ok (.goto (-37), 3) := by decide +kernel
theorem dX7_isText_47 : decode cX7_isText 47 = .ok (.iload_n 1, 1) := by decide +kernel
theorem dX7_isText_48 : decode cX7_isText 48 = .ok (.ireturn, 1) := by decide +kernel
theorem dX7_faultPosition_0 : decode cX7_faultPosition 0 = .ok (.aload_n 0, 1) := by decide +kernel
theorem dX7_faultPosition_1 : decode cX7_faultPosition 1 = .ok (.invokevirtual 173, 3) := by decide +kernel
theorem dX7_faultPosition_4 : decode cX7_faultPosition 4 = .ok (.ifCond .eq 8, 3) := by decide +kernel
theorem dX7_faultPosition_7 : decode cX7_faultPosition 7 = .ok (.bipush (-6), 2) := by decide +kernel
theorem dX7_faultPosition_9 : decode cX7_faultPosition 9 = .ok (.goto 7, 3) := by decide +kernel
theorem dX7_faultPosition_12 : decode cX7_faultPosition 12 = .ok (.aload_n 0, 1) := by decide +kernel
theorem dX7_faultPosition_13 : decode cX7_faultPosition 13 = .ok (.getfield 154, 3) := by decide +kernel
theorem dX7_faultPosition_16 : decode cX7_faultPosition 16 = .ok (.ireturn, 1) := by decide +kernel
theorem dX7_carriesOut_0 : decode cX7_carriesOut 0 = .ok (.iconst 0, 1) := by decide +kernel
theorem dX7_carriesOut_1 : decode cX7_carriesOut 1 = .ok (.istore_n 1, 1) := by decide +kernel
theorem dX7_carriesOut_2 : decode cX7_carriesOut 2 = .ok (.aload_n 0, 1) := by decide +kernel
theorem dX7_carriesOut_3 : decode cX7_carriesOut 3 = .ok (.getfield 29, 3) := by decide +kernel
theorem dX7_carriesOut_6 : decode cX7_carriesOut 6 = .ok (.iconst 0, 1) := by decide +kernel
theorem dX7_carriesOut_7 : decode cX7_carriesOut 7 = .ok (.iaload, 1) := by decide +kernel
theorem dX7_carriesOut_8 : decode cX7_carriesOut 8 = .ok (.tableswitch 184 0 2 #[28, 137, 171], 28) := by decide +kernel
theorem dX7_carriesOut_36 : decode cX7_carriesOut 36 = .ok (.aload_n 0, 1) := by decide +kernel
theorem dX7_carriesOut_37 : decode cX7_carriesOut 37 = .ok (.aload_n 0, 1) := by decide +kernel
theorem dX7_carriesOut_38 : decode cX7_carriesOut 38 = .ok (.getfield 29, 3) := by decide +kernel
theorem dX7_carriesOut_41 : decode cX7_carriesOut 41 = .ok (.iconst 1, 1) := by decide +kernel
theorem dX7_carriesOut_42 : decode cX7_carriesOut 42 = .ok (.iaload, 1) := by decide +kernel
theorem dX7_carriesOut_43 : decode cX7_carriesOut 43 = .ok (.aload_n 0, 1) := by decide +kernel
theorem dX7_carriesOut_44 : decode cX7_carriesOut 44 = .ok (.getfield 29, 3) := by decide +kernel
theorem dX7_carriesOut_47 : decode cX7_carriesOut 47 = .ok (.iconst 2, 1) := by decide +kernel
theorem dX7_carriesOut_48 : decode cX7_carriesOut 48 = .ok (.iaload, 1) := by decide +kernel
theorem dX7_carriesOut_49 : decode cX7_carriesOut 49 = .ok (.aload_n 0, 1) := by decide +kernel
theorem dX7_carriesOut_50 : decode cX7_carriesOut 50 = .ok (.getfield 29, 3) := by decide +kernel
theorem dX7_carriesOut_53 : decode cX7_carriesOut 53 = .ok (.iconst 3, 1) := by decide +kernel
theorem dX7_carriesOut_54 : decode cX7_carriesOut 54 = .ok (.iaload, 1) := by decide +kernel
theorem dX7_carriesOut_55 : decode cX7_carriesOut 55 = .ok (.invokevirtual 75, 3) := by decide +kernel
theorem dX7_carriesOut_58 : decode cX7_carriesOut 58 = .ok (.ifCond .ge 5, 3) := by decide +kernel
theorem dX7_carriesOut_61 : decode cX7_carriesOut 61 = .ok (.iconst 0, 1) := by decide +kernel
theorem dX7_carriesOut_62 : decode cX7_carriesOut 62 = .ok (.ireturn, 1) := by decide +kernel
theorem dX7_carriesOut_63 : decode cX7_carriesOut 63 = .ok (.aload_n 0, 1) := by decide +kernel
theorem dX7_carriesOut_64 : decode cX7_carriesOut 64 = .ok (.getfield 7, 3) := by decide +kernel
theorem dX7_carriesOut_67 : decode cX7_carriesOut 67 = .ok (.bipush 13, 2) := by decide +kernel
theorem dX7_carriesOut_69 : decode cX7_carriesOut 69 = .ok (.aload_n 0, 1) := by decide +kernel
theorem dX7_carriesOut_70 : decode cX7_carriesOut 70 = .ok (.aload_n 0, 1) := by decide +kernel
theorem dX7_carriesOut_71 : decode cX7_carriesOut 71 = .ok (.getfield 29, 3) := by decide +kernel
theorem dX7_carriesOut_74 : decode cX7_carriesOut 74 = .ok (.iconst 1, 1) := by decide +kernel
theorem dX7_carriesOut_75 : decode cX7_carriesOut 75 = .ok (.iaload, 1) := by decide +kernel
theorem dX7_carriesOut_76 : decode cX7_carriesOut 76 = .ok (.aload_n 0, 1) := by decide +kernel
theorem dX7_carriesOut_77 : decode cX7_carriesOut 77 = .ok (.getfield 29, 3) := by decide +kernel
theorem dX7_carriesOut_80 : decode cX7_carriesOut 80 = .ok (.iconst 2, 1) := by decide +kernel
theorem dX7_carriesOut_81 : decode cX7_carriesOut 81 = .ok (.iaload, 1) := by decide +kernel
theorem dX7_carriesOut_82 : decode cX7_carriesOut 82 = .ok (.aload_n 0, 1) := by decide +kernel
theorem dX7_carriesOut_83 : decode cX7_carriesOut 83 = .ok (.getfield 29, 3) := by decide +kernel
theorem dX7_carriesOut_86 : decode cX7_carriesOut 86 = .ok (.iconst 3, 1) := by decide +kernel
theorem dX7_carriesOut_87 : decode cX7_carriesOut 87 = .ok (.iaload, 1) := by decide +kernel
theorem dX7_carriesOut_88 : decode cX7_carriesOut 88 = .ok (.invokevirtual 79, 3) := by decide +kernel
theorem dX7_carriesOut_91 : decode cX7_carriesOut 91 = .ok (.iastore, 1) := by decide +kernel
theorem dX7_carriesOut_92 : decode cX7_carriesOut 92 = .ok (.aload_n 0, 1) := by decide +kernel
theorem dX7_carriesOut_93 : decode cX7_carriesOut 93 = .ok (.getfield 7, 3) := by decide +kernel
theorem dX7_carriesOut_96 : decode cX7_carriesOut 96 = .ok (.bipush 13, 2) := by decide +kernel
theorem dX7_carriesOut_98 : decode cX7_carriesOut 98 = .ok (.iaload, 1) := by decide +kernel
theorem dX7_carriesOut_99 : decode cX7_carriesOut 99 = .ok (.ifCond .le 7, 3) := by decide +kernel
theorem dX7_carriesOut_102 : decode cX7_carriesOut 102 = .ok (.iconst 0, 1) := by decide +kernel
theorem dX7_carriesOut_103 : decode cX7_carriesOut 103 = .ok (.goto 25, 3) := by decide +kernel
theorem dX7_carriesOut_106 : decode cX7_carriesOut 106 = .ok (.aload_n 0, 1) := by decide +kernel
theorem dX7_carriesOut_107 : decode cX7_carriesOut 107 = .ok (.aload_n 0, 1) := by decide +kernel
theorem dX7_carriesOut_108 : decode cX7_carriesOut 108 = .ok (.getfield 29, 3) := by decide +kernel
theorem dX7_carriesOut_111 : decode cX7_carriesOut 111 = .ok (.iconst 1, 1) := by decide +kernel
theorem dX7_carriesOut_112 : decode cX7_carriesOut 112 = .ok (.iaload, 1) := by decide +kernel
theorem dX7_carriesOut_113 : decode cX7_carriesOut 113 = .ok (.aload_n 0, 1) := by decide +kernel
theorem dX7_carriesOut_114 : decode cX7_carriesOut 114 = .ok (.getfield 29, 3) := by decide +kernel
theorem dX7_carriesOut_117 : decode cX7_carriesOut 117 = .ok (.iconst 2, 1) := by decide +kernel
theorem dX7_carriesOut_118 : decode cX7_carriesOut 118 = .ok (.iaload, 1) := by decide +kernel
theorem dX7_carriesOut_119 : decode cX7_carriesOut 119 = .ok (.aload_n 0, 1) := by decide +kernel
theorem dX7_carriesOut_120 : decode cX7_carriesOut 120 = .ok (.getfield 29, 3) := by decide +kernel
theorem dX7_carriesOut_123 : decode cX7_carriesOut 123 = .ok (.iconst 3, 1) := by decide +kernel
theorem dX7_carriesOut_124 : decode cX7_carriesOut 124 = .ok (.iaload, 1) := by decide +kernel
theorem dX7_carriesOut_125 : decode cX7_carriesOut 125 = .ok (.invokevirtual 82, 3) := by decide +kernel
theorem dX7_carriesOut_128 : decode cX7_carriesOut 128 = .ok (.istore_n 1, 1) := by decide +kernel
theorem dX7_carriesOut_129 : decode cX7_carriesOut 129 = .ok (.aload_n 0, 1) := by decide +kernel
theorem dX7_carriesOut_130 : decode cX7_carriesOut 130 = .ok (.getfield 7, 3) := by decide +kernel
theorem dX7_carriesOut_133 : decode cX7_carriesOut 133 = .ok (.bipush 13, 2) := by decide +kernel
theorem dX7_carriesOut_135 : decode cX7_carriesOut 135 = .ok (.iaload, 1) := by decide +kernel
theorem dX7_carriesOut_136 : decode cX7_carriesOut 136 = .ok (.ifCond .ne 7, 3) := by decide +kernel
theorem dX7_carriesOut_139 : decode cX7_carriesOut 139 = .ok (.iconst 1, 1) := by decide +kernel
theorem dX7_carriesOut_140 : decode cX7_carriesOut 140 = .ok (.goto 4, 3) := by decide +kernel
theorem dX7_carriesOut_143 : decode cX7_carriesOut 143 = .ok (.iconst 0, 1) := by decide +kernel
theorem dX7_carriesOut_144 : decode cX7_carriesOut 144 = .ok (.ireturn, 1) := by decide +kernel
theorem dX7_carriesOut_145 : decode cX7_carriesOut 145 = .ok (.aload_n 0, 1) := by decide +kernel
theorem dX7_carriesOut_146 : decode cX7_carriesOut 146 = .ok (.aload_n 0, 1) := by decide +kernel
theorem dX7_carriesOut_147 : decode cX7_carriesOut 147 = .ok (.getfield 29, 3) := by decide +kernel
theorem dX7_carriesOut_150 : decode cX7_carriesOut 150 = .ok (.iconst 1, 1) := by decide +kernel
theorem dX7_carriesOut_151 : decode cX7_carriesOut 151 = .ok (.iaload, 1) := by decide +kernel
theorem dX7_carriesOut_152 : decode cX7_carriesOut 152 = .ok (.invokevirtual 88, 3) := by decide +kernel
theorem dX7_carriesOut_155 : decode cX7_carriesOut 155 = .ok (.ifCond .ge 5, 3) := by decide +kernel
theorem dX7_carriesOut_158 : decode cX7_carriesOut 158 = .ok (.iconst 0, 1) := by decide +kernel
theorem dX7_carriesOut_159 : decode cX7_carriesOut 159 = .ok (.ireturn, 1) := by decide +kernel
theorem dX7_carriesOut_160 : decode cX7_carriesOut 160 = .ok (.aload_n 0, 1) := by decide +kernel
theorem dX7_carriesOut_161 : decode cX7_carriesOut 161 = .ok (.getfield 7, 3) := by decide +kernel
theorem dX7_carriesOut_164 : decode cX7_carriesOut 164 = .ok (.aload_n 0, 1) := by decide +kernel
theorem dX7_carriesOut_165 : decode cX7_carriesOut 165 = .ok (.getfield 29, 3) := by decide +kernel
theorem dX7_carriesOut_168 : decode cX7_carriesOut 168 = .ok (.iconst 1, 1) := by decide +kernel
theorem dX7_carriesOut_169 : decode cX7_carriesOut 169 = .ok (.iaload, 1) := by decide +kernel
theorem dX7_carriesOut_170 : decode cX7_carriesOut 170 = .ok (.invokestatic 52, 3) := by decide +kernel
theorem dX7_carriesOut_173 : decode cX7_carriesOut 173 = .ok (.iconst 5, 1) := by decide +kernel
theorem dX7_carriesOut_174 : decode cX7_carriesOut 174 = .ok (.iadd, 1) := by decide +kernel
theorem dX7_carriesOut_175 : decode cX7_carriesOut 175 = .ok (.iconst 1, 1) := by decide +kernel
theorem dX7_carriesOut_176 : decode cX7_carriesOut 176 = .ok (.iastore, 1) := by decide +kernel
theorem dX7_carriesOut_177 : decode cX7_carriesOut 177 = .ok (.iconst 1, 1) := by decide +kernel
theorem dX7_carriesOut_178 : decode cX7_carriesOut 178 = .ok (.ireturn, 1) := by decide +kernel
theorem dX7_carriesOut_179 : decode cX7_carriesOut 179 = .ok (.aload_n 0, 1) := by decide +kernel
theorem dX7_carriesOut_180 : decode cX7_carriesOut 180 = .ok (.aload_n 0, 1) := by decide +kernel
theorem dX7_carriesOut_181 : decode cX7_carriesOut 181 = .ok (.getfield 29, 3) := by decide +kernel
theorem dX7_carriesOut_184 : decode cX7_carriesOut 184 = .ok (.iconst 1, 1) := by decide +kernel
theorem dX7_carriesOut_185 : decode cX7_carriesOut 185 = .ok (.iaload, 1) := by decide +kernel
theorem dX7_carriesOut_186 : decode cX7_carriesOut 186 = .ok (.invokevirtual 113, 3) := by decide +kernel
theorem dX7_carriesOut_189 : decode cX7_carriesOut 189 = .ok (.istore_n 1, 1) := by decide +kernel
theorem dX7_carriesOut_190 : decode cX7_carriesOut 190 = .ok (.iconst 1, 1) := by decide +kernel
theorem dX7_carriesOut_191 : decode cX7_carriesOut 191 = .ok (.ireturn, 1) := by decide +kernel
theorem dX7_carriesOut_192 : decode cX7_carriesOut 192 = .ok (.aload_n 0, 1) := by decide +kernel
theorem dX7_carriesOut_193 : decode cX7_carriesOut 193 = .ok (.aload_n 0, 1) := by decide +kernel
theorem dX7_carriesOut_194 : decode cX7_carriesOut 194 = .ok (.getfield 29, 3) := by decide +kernel
theorem dX7_carriesOut_197 : decode cX7_carriesOut 197 = .ok (.iconst 1, 1) := by decide +kernel
theorem dX7_carriesOut_198 : decode cX7_carriesOut 198 = .ok (.iaload, 1) := by decide +kernel
theorem dX7_carriesOut_199 : decode cX7_carriesOut 199 = .ok (.iconst 1, 1) := by decide +kernel
theorem dX7_carriesOut_200 : decode cX7_carriesOut 200 = .ok (.if_icmp .ne 7, 3) := by decide +kernel
theorem dX7_carriesOut_203 : decode cX7_carriesOut 203 = .ok (.iconst 1, 1) := by decide +kernel
theorem dX7_carriesOut_204 : decode cX7_carriesOut 204 = .ok (.goto 4, 3) := by decide +kernel
theorem dX7_carriesOut_207 : decode cX7_carriesOut 207 = .ok (.iconst 0, 1) := by decide +kernel
theorem dX7_carriesOut_208 : decode cX7_carriesOut 208 = .ok (.invokevirtual 60, 3) := by decide +kernel
theorem dX7_carriesOut_211 : decode cX7_carriesOut 211 = .ok (.istore_n 1, 1) := by decide +kernel
theorem dX7_carriesOut_212 : decode cX7_carriesOut 212 = .ok (.iconst 1, 1) := by decide +kernel
theorem dX7_carriesOut_213 : decode cX7_carriesOut 213 = .ok (.ireturn, 1) := by decide +kernel
theorem dX7_run_0 : decode cX7_run 0 = .ok (.aload_n 0, 1) := by decide +kernel
theorem dX7_run_1 : decode cX7_run 1 = .ok (.invokevirtual 173, 3) := by decide +kernel
theorem dX7_run_4 : decode cX7_run 4 = .ok (.ifCond .ne 6, 3) := by decide +kernel
theorem dX7_run_7 : decode cX7_run 7 = .ok (.bipush (-3), 2) := by decide +kernel
theorem dX7_run_9 : decode cX7_run 9 = .ok (.ireturn, 1) := by decide +kernel
theorem dX7_run_10 : decode cX7_run 10 = .ok (.aload_n 0, 1) := by decide +kernel
theorem dX7_run_11 : decode cX7_run 11 = .ok (.invokevirtual 49, 3) := by decide +kernel
theorem dX7_run_14 : decode cX7_run 14 = .ok (.aload_n 0, 1) := by decide +kernel
theorem dX7_run_15 : decode cX7_run 15 = .ok (.iconst 0, 1) := by decide +kernel
theorem dX7_run_16 : decode cX7_run 16 = .ok (.putfield 154, 3) := by decide +kernel
theorem dX7_run_19 : decode cX7_run 19 = .ok (.iconst 0, 1) := by decide +kernel
theorem dX7_run_20 : decode cX7_run 20 = .ok (.istore_n 1, 1) := by decide +kernel
theorem dX7_run_21 : decode cX7_run 21 = .ok (.aload_n 0, 1) := by decide +kernel
theorem dX7_run_22 : decode cX7_run 22 = .ok (.getfield 154, 3) := by decide +kernel
theorem dX7_run_25 : decode cX7_run 25 = .ok (.aload_n 0, 1) := by decide +kernel
theorem dX7_run_26 : decode cX7_run 26 = .ok (.getfield 151, 3) := by decide +kernel
theorem dX7_run_29 : decode cX7_run 29 = .ok (.if_icmp .ge 40, 3) := by decide +kernel
theorem dX7_run_32 : decode cX7_run 32 = .ok (.aload_n 0, 1) := by decide +kernel
theorem dX7_run_33 : decode cX7_run 33 = .ok (.invokevirtual 169, 3) := by decide +kernel
theorem dX7_run_36 : decode cX7_run 36 = .ok (.ifCond .eq 16, 3) := by decide +kernel
theorem dX7_run_39 : decode cX7_run 39 = .ok (.aload_n 0, 1) := by decide +kernel
theorem dX7_run_40 : decode cX7_run 40 = .ok (.bipush 59, 2) := by decide +kernel
theorem dX7_run_42 : decode cX7_run 42 = .ok (.invokevirtual 163, 3) := by decide +kernel
theorem dX7_run_45 : decode cX7_run 45 = .ok (.ifCond .eq 7, 3) := by decide +kernel
theorem dX7_run_48 : decode cX7_run 48 = .ok (.iconst 1, 1) := by decide +kernel
theorem dX7_run_49 : decode cX7_run 49 = .ok (.goto 4, 3) := by decide +kernel
theorem dX7_run_52 : decode cX7_run 52 = .ok (.iconst 0, 1) := by decide +kernel
theorem dX7_run_53 : decode cX7_run 53 = .ok (.istore_n 2, 1) := by decide +kernel
theorem dX7_run_54 : decode cX7_run 54 = .ok (.aload_n 0, 1) := by decide +kernel
theorem dX7_run_55 : decode cX7_run 55 = .ok (.invokevirtual 176, 3) := by decide +kernel
theorem dX7_run_58 : decode cX7_run 58 = .ok (.ifCond .ne 5, 3) := by decide +kernel
theorem dX7_run_61 : decode cX7_run 61 = .ok (.iload_n 1, 1) := by decide +kernel
theorem dX7_run_62 : decode cX7_run 62 = .ok (.ireturn, 1) := by decide +kernel
theorem dX7_run_63 : decode cX7_run 63 = .ok (.iinc 1 1, 3) := by decide +kernel
theorem dX7_run_66 : decode cX7_run 66 = .ok (.goto (-45), 3) := by decide +kernel
theorem dX7_run_69 : decode cX7_run 69 = .ok (.iload_n 1, 1) := by decide +kernel
theorem dX7_run_70 : decode cX7_run 70 = .ok (.ireturn, 1) := by decide +kernel
theorem dX7_undo_0 : decode cX7_undo 0 = .ok (.aload_n 0, 1) := by decide +kernel
theorem dX7_undo_1 : decode cX7_undo 1 = .ok (.getfield 45, 3) := by decide +kernel
theorem dX7_undo_4 : decode cX7_undo 4 = .ok (.ifCond .ne 6, 3) := by decide +kernel
theorem dX7_undo_7 : decode cX7_undo 7 = .ok (.bipush (-3), 2) := by decide +kernel
theorem dX7_undo_9 : decode cX7_undo 9 = .ok (.ireturn, 1) := by decide +kernel
theorem dX7_undo_10 : decode cX7_undo 10 = .ok (.aload_n 0, 1) := by decide +kernel
theorem dX7_undo_11 : decode cX7_undo 11 = .ok (.dup, 1) := by decide +kernel
theorem dX7_undo_12 : decode cX7_undo 12 = .ok (.getfield 45, 3) := by decide +kernel
theorem dX7_undo_15 : decode cX7_undo 15 = .ok (.iconst 1, 1) := by decide +kernel
theorem dX7_undo_16 : decode cX7_undo 16 = .ok (.isub, 1) := by decide +kernel
theorem dX7_undo_17 : decode cX7_undo 17 = .ok (.putfield 45, 3) := by decide +kernel
theorem dX7_undo_20 : decode cX7_undo 20 = .ok (.iconst 0, 1) := by decide +kernel
theorem dX7_undo_21 : decode cX7_undo 21 = .ok (.istore_n 1, 1) := by decide +kernel
theorem dX7_undo_22 : decode cX7_undo 22 = .ok (.iload_n 1, 1) := by decide +kernel
theorem dX7_undo_23 : decode cX7_undo 23 = .ok (.sipush 154, 3) := by decide +kernel
theorem dX7_undo_26 : decode cX7_undo 26 = .ok (.if_icmp .ge 30, 3) := by decide +kernel
theorem dX7_undo_29 : decode cX7_undo 29 = .ok (.aload_n 0, 1) := by decide +kernel
theorem dX7_undo_30 : decode cX7_undo 30 = .ok (.getfield 7, 3) := by decide +kernel
theorem dX7_undo_33 : decode cX7_undo 33 = .ok (.iload_n 1, 1) := by decide +kernel
theorem dX7_undo_34 : decode cX7_undo 34 = .ok (.aload_n 0, 1) := by decide +kernel
theorem dX7_undo_35 : decode cX7_undo 35 = .ok (.getfield 13, 3) := by decide +kernel
theorem dX7_undo_38 : decode cX7_undo 38 = .ok (.sipush 154, 3) := by decide +kernel
theorem dX7_undo_41 : decode cX7_undo 41 = .ok (.aload_n 0, 1) := by decide +kernel
theorem dX7_undo_42 : decode cX7_undo 42 = .ok (.getfield 45, 3) := by decide +kernel
theorem dX7_undo_45 : decode cX7_undo 45 = .ok (.imul, 1) := by decide +kernel
theorem dX7_undo_46 : decode cX7_undo 46 = .ok (.iload_n 1, 1) := by decide +kernel
theorem dX7_undo_47 : decode cX7_undo 47 = .ok (.iadd, 1) := by decide +kernel
theorem dX7_undo_48 : decode cX7_undo 48 = .ok (.iaload, 1) := by decide +kernel
theorem dX7_undo_49 : decode cX7_undo 49 = .ok (.iastore, 1) := by decide +kernel
theorem dX7_undo_50 : decode cX7_undo 50 = .ok (.iinc 1 1, 3) := by decide +kernel
theorem dX7_undo_53 : decode cX7_undo 53 = .ok (.goto (-31), 3) := by decide +kernel
theorem dX7_undo_56 : decode cX7_undo 56 = .ok (.aload_n 0, 1) := by decide +kernel
theorem dX7_undo_57 : decode cX7_undo 57 = .ok (.getfield 45, 3) := by decide +kernel
theorem dX7_undo_60 : decode cX7_undo 60 = .ok (.ireturn, 1) := by decide +kernel
theorem dX7_keep_0 : decode cX7_keep 0 = .ok (.iload_n 1, 1) := by decide +kernel
theorem dX7_keep_1 : decode cX7_keep 1 = .ok (.iconst 0, 1) := by decide +kernel
theorem dX7_keep_2 : decode cX7_keep 2 = .ok (.iconst 1, 1) := by decide +kernel
theorem dX7_keep_3 : decode cX7_keep 3 = .ok (.invokestatic 41, 3) := by decide +kernel
theorem dX7_keep_6 : decode cX7_keep 6 = .ok (.ifCond .ne 5, 3) := by decide +kernel
theorem dX7_keep_9 : decode cX7_keep 9 = .ok (.iconst (-1), 1) := by decide +kernel
theorem dX7_keep_10 : decode cX7_keep 10 = .ok (.ireturn, 1) := by decide +kernel
theorem dX7_keep_11 : decode cX7_keep 11 = .ok (.iconst 0, 1) := by decide +kernel
theorem dX7_keep_12 : decode cX7_keep 12 = .ok (.istore_n 2, 1) := by decide +kernel
theorem dX7_keep_13 : decode cX7_keep 13 = .ok (.iload_n 2, 1) := by decide +kernel
theorem dX7_keep_14 : decode cX7_keep 14 = .ok (.sipush 154, 3) := by decide +kernel
theorem dX7_keep_17 : decode cX7_keep 17 = .ok (.if_icmp .ge 27, 3) := by decide +kernel
theorem dX7_keep_20 : decode cX7_keep 20 = .ok (.aload_n 0, 1) := by decide +kernel
theorem dX7_keep_21 : decode cX7_keep 21 = .ok (.getfield 19, 3) := by decide +kernel
theorem dX7_keep_24 : decode cX7_keep 24 = .ok (.sipush 154, 3) := by decide +kernel
theorem dX7_keep_27 : decode cX7_keep 27 = .ok (.iload_n 1, 1) := by decide +kernel
theorem dX7_keep_28 : decode cX7_keep 28 = .ok (.imul, 1) := by decide +kernel
theorem dX7_keep_29 : decode cX7_keep 29 = .ok (.iload_n 2, 1) := by decide +kernel
theorem dX7_keep_30 : decode cX7_keep 30 = .ok (.iadd, 1) := by decide +kernel
theorem dX7_keep_31 : decode cX7_keep 31 = .ok (.aload_n 0, 1) := by decide +kernel
theorem dX7_keep_32 : decode cX7_keep 32 = .ok (.getfield 7, 3) := by decide +kernel
theorem dX7_keep_35 : decode cX7_keep 35 = .ok (.iload_n 2, 1) := by decide +kernel
theorem dX7_keep_36 : decode cX7_keep 36 = .ok (.iaload, 1) := by decide +kernel
theorem dX7_keep_37 : decode cX7_keep 37 = .ok (.iastore, 1) := by decide +kernel
theorem dX7_keep_38 : decode cX7_keep 38 = .ok (.iinc 2 1, 3) := by decide +kernel
theorem dX7_keep_41 : decode cX7_keep 41 = .ok (.goto (-28), 3) := by decide +kernel
theorem dX7_keep_44 : decode cX7_keep 44 = .ok (.aload_n 0, 1) := by decide +kernel
theorem dX7_keep_45 : decode cX7_keep 45 = .ok (.getfield 22, 3) := by decide +kernel
theorem dX7_keep_48 : decode cX7_keep 48 = .ok (.iload_n 1, 1) := by decide +kernel
theorem dX7_keep_49 : decode cX7_keep 49 = .ok (.iconst 1, 1) := by decide +kernel
theorem dX7_keep_50 : decode cX7_keep 50 = .ok (.bastore, 1) := by decide +kernel
theorem dX7_keep_51 : decode cX7_keep 51 = .ok (.aload_n 0, 1) := by decide +kernel
theorem dX7_keep_52 : decode cX7_keep 52 = .ok (.getfield 7, 3) := by decide +kernel
theorem dX7_keep_55 : decode cX7_keep 55 = .ok (.iconst 0, 1) := by decide +kernel
theorem dX7_keep_56 : decode cX7_keep 56 = .ok (.iaload, 1) := by decide +kernel
theorem dX7_keep_57 : decode cX7_keep 57 = .ok (.ireturn, 1) := by decide +kernel
theorem dX7_restore_0 : decode cX7_restore 0 = .ok (.iload_n 1, 1) := by decide +kernel
theorem dX7_restore_1 : decode cX7_restore 1 = .ok (.iconst 0, 1) := by decide +kernel
theorem dX7_restore_2 : decode cX7_restore 2 = .ok (.iconst 1, 1) := by decide +kernel
theorem dX7_restore_3 : decode cX7_restore 3 = .ok (.invokestatic 41, 3) := by decide +kernel
theorem dX7_restore_6 : decode cX7_restore 6 = .ok (.ifCond .ne 5, 3) := by decide +kernel
theorem dX7_restore_9 : decode cX7_restore 9 = .ok (.iconst (-1), 1) := by decide +kernel
theorem dX7_restore_10 : decode cX7_restore 10 = .ok (.ireturn, 1) := by decide +kernel
theorem dX7_restore_11 : decode cX7_restore 11 = .ok (.aload_n 0, 1) := by decide +kernel
theorem dX7_restore_12 : decode cX7_restore 12 = .ok (.getfield 22, 3) := by decide +kernel
theorem dX7_restore_15 : decode cX7_restore 15 = .ok (.iload_n 1, 1) := by decide +kernel
theorem dX7_restore_16 : decode cX7_restore 16 = .ok (.baload, 1) := by decide +kernel
theorem dX7_restore_17 : decode cX7_restore 17 = .ok (.ifCond .ne 6, 3) := by decide +kernel
theorem dX7_restore_20 : decode cX7_restore 20 = .ok (.bipush (-3), 2) := by decide +kernel
theorem dX7_restore_22 : decode cX7_restore 22 = .ok (.ireturn, 1) := by decide +kernel
theorem dX7_restore_23 : decode cX7_restore 23 = .ok (.aload_n 0, 1) := by decide +kernel
theorem dX7_restore_24 : decode cX7_restore 24 = .ok (.invokevirtual 49, 3) := by decide +kernel
theorem dX7_restore_27 : decode cX7_restore 27 = .ok (.iconst 0, 1) := by decide +kernel
theorem dX7_restore_28 : decode cX7_restore 28 = .ok (.istore_n 2, 1) := by decide +kernel
theorem dX7_restore_29 : decode cX7_restore 29 = .ok (.iload_n 2, 1) := by decide +kernel
theorem dX7_restore_30 : decode cX7_restore 30 = .ok (.sipush 154, 3) := by decide +kernel
theorem dX7_restore_33 : decode cX7_restore 33 = .ok (.if_icmp .ge 27, 3) := by decide +kernel
theorem dX7_restore_36 : decode cX7_restore 36 = .ok (.aload_n 0, 1) := by decide +kernel
theorem dX7_restore_37 : decode cX7_restore 37 = .ok (.getfield 7, 3) := by decide +kernel
theorem dX7_restore_40 : decode cX7_restore 40 = .ok (.iload_n 2, 1) := by decide +kernel
theorem dX7_restore_41 : decode cX7_restore 41 = .ok (.aload_n 0, 1) := by decide +kernel
theorem dX7_restore_42 : decode cX7_restore 42 = .ok (.getfield 19, 3) := by decide +kernel
theorem dX7_restore_45 : decode cX7_restore 45 = .ok (.sipush 154, 3) := by decide +kernel
theorem dX7_restore_48 : decode cX7_restore 48 = .ok (.iload_n 1, 1) := by decide +kernel
theorem dX7_restore_49 : decode cX7_restore 49 = .ok (.imul, 1) := by decide +kernel
theorem dX7_restore_50 : decode cX7_restore 50 = .ok (.iload_n 2, 1) := by decide +kernel
theorem dX7_restore_51 : decode cX7_restore 51 = .ok (.iadd, 1) := by decide +kernel
theorem dX7_restore_52 : decode cX7_restore 52 = .ok (.iaload, 1) := by decide +kernel
theorem dX7_restore_53 : decode cX7_restore 53 = .ok (.iastore, 1) := by decide +kernel
theorem dX7_restore_54 : decode cX7_restore 54 = .ok (.iinc 2 1, 3) := by decide +kernel
theorem dX7_restore_57 : decode cX7_restore 57 = .ok (.goto (-28), 3) := by decide +kernel
theorem dX7_restore_60 : decode cX7_restore 60 = .ok (.aload_n 0, 1) := by decide +kernel
theorem dX7_restore_61 : decode cX7_restore 61 = .ok (.getfield 7, 3) := by decide +kernel
theorem dX7_restore_64 : decode cX7_restore 64 = .ok (.iconst 0, 1) := by decide +kernel
theorem dX7_restore_65 : decode cX7_restore 65 = .ok (.iaload, 1) := by decide +kernel
theorem dX7_restore_66 : decode cX7_restore 66 = .ok (.ireturn, 1) := by decide +kernel
theorem dX7_more_0 : decode cX7_more 0 = .ok (.ldc2_w 179, 3) := by decide +kernel
theorem dX7_more_3 : decode cX7_more 3 = .ok (.lload_n 0, 1) := by decide +kernel
theorem dX7_more_4 : decode cX7_more 4 = .ok (.lmul, 1) := by decide +kernel
theorem dX7_more_5 : decode cX7_more 5 = .ok (.iload_n 2, 1) := by decide +kernel
theorem dX7_more_6 : decode cX7_more 6 = .ok (.i2l, 1) := by decide +kernel
theorem dX7_more_7 : decode cX7_more 7 = .ok (.ladd, 1) := by decide +kernel
theorem dX7_more_8 : decode cX7_more 8 = .ok (.lreturn, 1) := by decide +kernel
theorem dX7_checksum_0 : decode cX7_checksum 0 = .ok (.ldc2_w 181, 3) := by decide +kernel
theorem dX7_checksum_3 : decode cX7_checksum 3 = .ok (.lstore_n 1, 1) := by decide +kernel
theorem dX7_checksum_4 : decode cX7_checksum 4 = .ok (.iconst 0, 1) := by decide +kernel
theorem dX7_checksum_5 : decode cX7_checksum 5 = .ok (.istore_n 3, 1) := by decide +kernel
theorem dX7_checksum_6 : decode cX7_checksum 6 = .ok (.iload_n 3, 1) := by decide +kernel
theorem dX7_checksum_7 : decode cX7_checksum 7 = .ok (.bipush 18, 2) := by decide +kernel
theorem dX7_checksum_9 : decode cX7_checksum 9 = .ok (.if_icmp .ge 19, 3) := by decide +kernel
theorem dX7_checksum_12 : decode cX7_checksum 12 = .ok (.lload_n 1, 1) := by decide +kernel
theorem dX7_checksum_13 : decode cX7_checksum 13 = .ok (.aload_n 0, 1) := by decide +kernel
theorem dX7_checksum_14 : decode cX7_checksum 14 = .ok (.iload_n 3, 1) := by decide +kernel
theorem dX7_checksum_15 : decode cX7_checksum 15 = .ok (.invokevirtual 122, 3) := by decide +kernel
theorem dX7_checksum_18 : decode cX7_checksum 18 = .ok (.invokestatic 183, 3) := by decide +kernel
theorem dX7_checksum_21 : decode cX7_checksum 21 = .ok (.lstore_n 1, 1) := by decide +kernel
theorem dX7_checksum_22 : decode cX7_checksum 22 = .ok (.iinc 3 1, 3) := by decide +kernel
theorem dX7_checksum_25 : decode cX7_checksum 25 = .ok (.goto (-19), 3) := by decide +kernel
theorem dX7_checksum_28 : decode cX7_checksum 28 = .ok (.iconst 0, 1) := by decide +kernel
theorem dX7_checksum_29 : decode cX7_checksum 29 = .ok (.istore_n 3, 1) := by decide +kernel
theorem dX7_checksum_30 : decode cX7_checksum 30 = .ok (.iload_n 3, 1) := by decide +kernel
theorem dX7_checksum_31 : decode cX7_checksum 31 = .ok (.aload_n 0, 1) := by decide +kernel
theorem dX7_checksum_32 : decode cX7_checksum 32 = .ok (.getfield 7, 3) := by decide +kernel
theorem dX7_checksum_35 : decode cX7_checksum 35 = .ok (.iconst 3, 1) := by decide +kernel
theorem dX7_checksum_36 : decode cX7_checksum 36 = .ok (.iaload, 1) := by decide +kernel
theorem dX7_checksum_37 : decode cX7_checksum 37 = .ok (.if_icmp .ge 55, 3) := by decide +kernel
theorem dX7_checksum_40 : decode cX7_checksum 40 = .ok (.iconst 0, 1) := by decide +kernel
theorem dX7_checksum_41 : decode cX7_checksum 41 = .ok (.istore 4, 2) := by decide +kernel
theorem dX7_checksum_43 : decode cX7_checksum 43 = .ok (.iload 4, 2) := by decide +kernel
theorem dX7_checksum_45 : decode cX7_checksum 45 = .ok (.bipush 8, 2) := by decide +kernel
theorem dX7_checksum_47 : decode cX7_checksum 47 = .ok (.if_icmp .ge 21, 3) := by decide +kernel
theorem dX7_checksum_50 : decode cX7_checksum 50 = .ok (.lload_n 1, 1) := by decide +kernel
theorem dX7_checksum_51 : decode cX7_checksum 51 = .ok (.aload_n 0, 1) := by decide +kernel
theorem dX7_checksum_52 : decode cX7_checksum 52 = .ok (.iload_n 3, 1) := by decide +kernel
theorem dX7_checksum_53 : decode cX7_checksum 53 = .ok (.iload 4, 2) := by decide +kernel
theorem dX7_checksum_55 : decode cX7_checksum 55 = .ok (.invokevirtual 116, 3) := by decide +kernel
theorem dX7_checksum_58 : decode cX7_checksum 58 = .ok (.invokestatic 183, 3) := by decide +kernel
theorem dX7_checksum_61 : decode cX7_checksum 61 = .ok (.lstore_n 1, 1) := by decide +kernel
theorem dX7_checksum_62 : decode cX7_checksum 62 = .ok (.iinc 4 1, 3) := by decide +kernel
theorem dX7_checksum_65 : decode cX7_checksum 65 = .ok (.goto (-22), 3) := by decide +kernel
theorem dX7_checksum_68 : decode cX7_checksum 68 = .ok (.lload_n 1, 1) := by decide +kernel
theorem dX7_checksum_69 : decode cX7_checksum 69 = .ok (.aload_n 0, 1) := by decide +kernel
theorem dX7_checksum_70 : decode cX7_checksum 70 = .ok (.iload_n 3, 1) := by decide +kernel
theorem dX7_checksum_71 : decode cX7_checksum 71 = .ok (.invokevirtual 125, 3) := by decide +kernel
theorem dX7_checksum_74 : decode cX7_checksum 74 = .ok (.invokestatic 183, 3) := by decide +kernel
theorem dX7_checksum_77 : decode cX7_checksum 77 = .ok (.aload_n 0, 1) := by decide +kernel
theorem dX7_checksum_78 : decode cX7_checksum 78 = .ok (.iload_n 3, 1) := by decide +kernel
theorem dX7_checksum_79 : decode cX7_checksum 79 = .ok (.invokevirtual 148, 3) := by decide +kernel
theorem dX7_checksum_82 : decode cX7_checksum 82 = .ok (.invokestatic 183, 3) := by decide +kernel
theorem dX7_checksum_85 : decode cX7_checksum 85 = .ok (.lstore_n 1, 1) := by decide +kernel
theorem dX7_checksum_86 : decode cX7_checksum 86 = .ok (.iinc 3 1, 3) := by decide +kernel
theorem dX7_checksum_89 : decode cX7_checksum 89 = .ok (.goto (-59), 3) := by decide +kernel
theorem dX7_checksum_92 : decode cX7_checksum 92 = .ok (.iconst 0, 1) := by decide +kernel
theorem dX7_checksum_93 : decode cX7_checksum 93 = .ok (.istore_n 3, 1) := by decide +kernel
theorem dX7_checksum_94 : decode cX7_checksum 94 = .ok (.iload_n 3, 1) := by decide +kernel
theorem dX7_checksum_95 : decode cX7_checksum 95 = .ok (.aload_n 0, 1) := by decide +kernel
theorem dX7_checksum_96 : decode cX7_checksum 96 = .ok (.getfield 7, 3) := by decide +kernel
theorem dX7_checksum_99 : decode cX7_checksum 99 = .ok (.iconst 1, 1) := by decide +kernel
theorem dX7_checksum_100 : decode cX7_checksum 100 = .ok (.iaload, 1) := by decide +kernel
theorem dX7_checksum_101 : decode cX7_checksum 101 = .ok (.if_icmp .ge 19, 3) := by decide +kernel
theorem dX7_checksum_104 : decode cX7_checksum 104 = .ok (.lload_n 1, 1) := by decide +kernel
theorem dX7_checksum_105 : decode cX7_checksum 105 = .ok (.aload_n 0, 1) := by decide +kernel
theorem dX7_checksum_106 : decode cX7_checksum 106 = .ok (.iload_n 3, 1) := by decide +kernel
theorem dX7_checksum_107 : decode cX7_checksum 107 = .ok (.invokevirtual 68, 3) := by decide +kernel
theorem dX7_checksum_110 : decode cX7_checksum 110 = .ok (.invokestatic 183, 3) := by decide +kernel
theorem dX7_checksum_113 : decode cX7_checksum 113 = .ok (.lstore_n 1, 1) := by decide +kernel
theorem dX7_checksum_114 : decode cX7_checksum 114 = .ok (.iinc 3 1, 3) := by decide +kernel
theorem dX7_checksum_117 : decode cX7_checksum 117 = .ok (.goto (-23), 3) := by decide +kernel
theorem dX7_checksum_120 : decode cX7_checksum 120 = .ok (.lload_n 1, 1) := by decide +kernel
theorem dX7_checksum_121 : decode cX7_checksum 121 = .ok (.lreturn, 1) := by decide +kernel
end
section
theorem dL_law_0 : decode cL_law 0 = .ok (.new 7, 3) := by decide +kernel
theorem dL_law_3 : decode cL_law 3 = .ok (.dup, 1) := by decide +kernel
theorem dL_law_4 : decode cL_law 4 = .ok (.invokespecial 9, 3) := by decide +kernel
theorem dL_law_7 : decode cL_law 7 = .ok (.astore_n 1, 1) := by decide +kernel
theorem dL_law_8 : decode cL_law 8 = .ok (.new 10, 3) := by decide +kernel
theorem dL_law_11 : decode cL_law 11 = .ok (.dup, 1) := by decide +kernel
theorem dL_law_12 : decode cL_law 12 = .ok (.invokespecial 12, 3) := by decide +kernel
theorem dL_law_15 : decode cL_law 15 = .ok (.astore_n 2, 1) := by decide +kernel
theorem dL_law_16 : decode cL_law 16 = .ok (.iconst 0, 1) := by decide +kernel
theorem dL_law_17 : decode cL_law 17 = .ok (.istore_n 3, 1) := by decide +kernel
theorem dL_law_18 : decode cL_law 18 = .ok (.iload_n 3, 1) := by decide +kernel
theorem dL_law_19 : decode cL_law 19 = .ok (.aload_n 0, 1) := by decide +kernel
theorem dL_law_20 : decode cL_law 20 = .ok (.arraylength, 1) := by decide +kernel
theorem dL_law_21 : decode cL_law 21 = .ok (.iconst 4, 1) := by decide +kernel
theorem dL_law_22 : decode cL_law 22 = .ok (.isub, 1) := by decide +kernel
theorem dL_law_23 : decode cL_law 23 = .ok (.if_icmp .gt 729, 3) := by decide +kernel
theorem dL_law_26 : decode cL_law 26 = .ok (.aload_n 0, 1) := by decide +kernel
theorem dL_law_27 : decode cL_law 27 = .ok (.iload_n 3, 1) := by decide +kernel
theorem dL_law_28 : decode cL_law 28 = .ok (.iaload, 1) := by decide +kernel
theorem dL_law_29 : decode cL_law 29 = .ok (.bipush 31, 2) := by decide +kernel
theorem dL_law_31 : decode cL_law 31 = .ok (.iand, 1) := by decide +kernel
theorem dL_law_32 : decode cL_law 32 = .ok (.tableswitch 714 0 24 #[116, 139, 162, 185, 224, 263, 306, 329, 352, 375, 408, 431, 454, 477, 500, 523, 556, 579, 602, 615, 628, 641, 654, 677, 700], 116) := by decide +kernel
theorem dL_law_148 : decode cL_law 148 = .ok (.aload_n 1, 1) := by decide +kernel
theorem dL_law_149 : decode cL_law 149 = .ok (.aload_n 0, 1) := by decide +kernel
theorem dL_law_150 : decode cL_law 150 = .ok (.iload_n 3, 1) := by decide +kernel
theorem dL_law_151 : decode cL_law 151 = .ok (.iconst 1, 1) := by decide +kernel
theorem dL_law_152 : decode cL_law 152 = .ok (.iadd, 1) := by decide +kernel
theorem dL_law_153 : decode cL_law 153 = .ok (.iaload, 1) := by decide +kernel
theorem dL_law_154 : decode cL_law 154 = .ok (.invokevirtual 13, 3) := by decide +kernel
theorem dL_law_157 : decode cL_law 157 = .ok (.aload_n 2, 1) := by decide +kernel
theorem dL_law_158 : decode cL_law 158 = .ok (.aload_n 0, 1) := by decide +kernel
theorem dL_law_159 : decode cL_law 159 = .ok (.iload_n 3, 1) := by decide +kernel
theorem dL_law_160 : decode cL_law 160 = .ok (.iconst 1, 1) := by decide +kernel
theorem dL_law_161 : decode cL_law 161 = .ok (.iadd, 1) := by decide +kernel
theorem dL_law_162 : decode cL_law 162 = .ok (.iaload, 1) := by decide +kernel
theorem dL_law_163 : decode cL_law 163 = .ok (.invokevirtual 17, 3) := by decide +kernel
theorem dL_law_166 : decode cL_law 166 = .ok (.if_icmp .eq 580, 3) := by decide +kernel
theorem dL_law_169 : decode cL_law 169 = .ok (.iconst 0, 1) := by decide +kernel
theorem dL_law_170 : decode cL_law 170 = .ok (.ireturn, 1) := by decide +kernel
theorem dL_law_171 : decode cL_law 171 = .ok (.aload_n 1, 1) := by decide +kernel
theorem dL_law_172 : decode cL_law 172 = .ok (.aload_n 0, 1) := by decide +kernel
theorem dL_law_173 : decode cL_law 173 = .ok (.iload_n 3, 1) := by decide +kernel
theorem dL_law_174 : decode cL_law 174 = .ok (.iconst 1, 1) := by decide +kernel
theorem dL_law_175 : decode cL_law 175 = .ok (.iadd, 1) := by decide +kernel
theorem dL_law_176 : decode cL_law 176 = .ok (.iaload, 1) := by decide +kernel
theorem dL_law_177 : decode cL_law 177 = .ok (.invokevirtual 18, 3) := by decide +kernel
theorem dL_law_180 : decode cL_law 180 = .ok (.aload_n 2, 1) := by decide +kernel
theorem dL_law_181 : decode cL_law 181 = .ok (.aload_n 0, 1) := by decide +kernel
theorem dL_law_182 : decode cL_law 182 = .ok (.iload_n 3, 1) := by decide +kernel
theorem dL_law_183 : decode cL_law 183 = .ok (.iconst 1, 1) := by decide +kernel
theorem dL_law_184 : decode cL_law 184 = .ok (.iadd, 1) := by decide +kernel
theorem dL_law_185 : decode cL_law 185 = .ok (.iaload, 1) := by decide +kernel
theorem dL_law_186 : decode cL_law 186 = .ok (.invokevirtual 21, 3) := by decide +kernel
theorem dL_law_189 : decode cL_law 189 = .ok (.if_icmp .eq 557, 3) := by decide +kernel
theorem dL_law_192 : decode cL_law 192 = .ok (.iconst 0, 1) := by decide +kernel
theorem dL_law_193 : decode cL_law 193 = .ok (.ireturn, 1) := by decide +kernel
theorem dL_law_194 : decode cL_law 194 = .ok (.aload_n 1, 1) := by decide +kernel
theorem dL_law_195 : decode cL_law 195 = .ok (.aload_n 0, 1) := by decide +kernel
theorem dL_law_196 : decode cL_law 196 = .ok (.iload_n 3, 1) := by decide +kernel
theorem dL_law_197 : decode cL_law 197 = .ok (.iconst 1, 1) := by decide +kernel
theorem dL_law_198 : decode cL_law 198 = .ok (.iadd, 1) := by decide +kernel
theorem dL_law_199 : decode cL_law 199 = .ok (.iaload, 1) := by decide +kernel
theorem dL_law_200 : decode cL_law 200 = .ok (.invokevirtual 22, 3) := by decide +kernel
theorem dL_law_203 : decode cL_law 203 = .ok (.aload_n 2, 1) := by decide +kernel
theorem dL_law_204 : decode cL_law 204 = .ok (.aload_n 0, 1) := by decide +kernel
theorem dL_law_205 : decode cL_law 205 = .ok (.iload_n 3, 1) := by decide +kernel
theorem dL_law_206 : decode cL_law 206 = .ok (.iconst 1, 1) := by decide +kernel
theorem dL_law_207 : decode cL_law 207 = .ok (.iadd, 1) := by decide +kernel
theorem dL_law_208 : decode cL_law 208 = .ok (.iaload, 1) := by decide +kernel
theorem dL_law_209 : decode cL_law 209 = .ok (.invokevirtual 25, 3) := by decide +kernel
theorem dL_law_212 : decode cL_law 212 = .ok (.if_icmp .eq 534, 3) := by decide +kernel
theorem dL_law_215 : decode cL_law 215 = .ok (.iconst 0, 1) := by decide +kernel
theorem dL_law_216 : decode cL_law 216 = .ok (.ireturn, 1) := by decide +kernel
theorem dL_law_217 : decode cL_law 217 = .ok (.aload_n 1, 1) := by decide +kernel
theorem dL_law_218 : decode cL_law 218 = .ok (.aload_n 0, 1) := by decide +kernel
theorem dL_law_219 : decode cL_law 219 = .ok (.iload_n 3, 1) := by decide +kernel
theorem dL_law_220 : decode cL_law 220 = .ok (.iconst 1, 1) := by decide +kernel
theorem dL_law_221 : decode cL_law 221 = .ok (.iadd, 1) := by decide +kernel
theorem dL_law_222 : decode cL_law 222 = .ok (.iaload, 1) := by decide +kernel
theorem dL_law_223 : decode cL_law 223 = .ok (.ifCond .eq 7, 3) := by decide +kernel
theorem dL_law_226 : decode cL_law 226 = .ok (.iconst 1, 1) := by decide +kernel
theorem dL_law_227 : decode cL_law 227 = .ok (.goto 4, 3) := by decide +kernel
theorem dL_law_230 : decode cL_law 230 = .ok (.iconst 0, 1) := by decide +kernel
theorem dL_law_231 : decode cL_law 231 = .ok (.invokevirtual 26, 3) := by decide +kernel
theorem dL_law_234 : decode cL_law 234 = .ok (.aload_n 2, 1) := by decide +kernel
theorem dL_law_235 : decode cL_law 235 = .ok (.aload_n 0, 1) := by decide +kernel
theorem dL_law_236 : decode cL_law 236 = .ok (.iload_n 3, 1) := by decide +kernel
theorem dL_law_237 : decode cL_law 237 = .ok (.iconst 1, 1) := by decide +kernel
theorem dL_law_238 : decode cL_law 238 = .ok (.iadd, 1) := by decide +kernel
theorem dL_law_239 : decode cL_law 239 = .ok (.iaload, 1) := by decide +kernel
theorem dL_law_240 : decode cL_law 240 = .ok (.ifCond .eq 7, 3) := by decide +kernel
theorem dL_law_243 : decode cL_law 243 = .ok (.iconst 1, 1) := by decide +kernel
theorem dL_law_244 : decode cL_law 244 = .ok (.goto 4, 3) := by decide +kernel
theorem dL_law_247 : decode cL_law 247 = .ok (.iconst 0, 1) := by decide +kernel
theorem dL_law_248 : decode cL_law 248 = .ok (.invokevirtual 30, 3) := by decide +kernel
theorem dL_law_251 : decode cL_law 251 = .ok (.if_icmp .eq 495, 3) := by decide +kernel
theorem dL_law_254 : decode cL_law 254 = .ok (.iconst 0, 1) := by decide +kernel
theorem dL_law_255 : decode cL_law 255 = .ok (.ireturn, 1) := by decide +kernel
theorem dL_law_256 : decode cL_law 256 = .ok (.aload_n 1, 1) := by decide +kernel
theorem dL_law_257 : decode cL_law 257 = .ok (.aload_n 0, 1) := by decide +kernel
theorem dL_law_258 : decode cL_law 258 = .ok (.iload_n 3, 1) := by decide +kernel
theorem dL_law_259 : decode cL_law 259 = .ok (.iconst 1, 1) := by decide +kernel
theorem dL_law_260 : decode cL_law 260 = .ok (.iadd, 1) := by decide +kernel
theorem dL_law_261 : decode cL_law 261 = .ok (.iaload, 1) := by decide +kernel
theorem dL_law_262 : decode cL_law 262 = .ok (.ifCond .eq 7, 3) := by decide +kernel
theorem dL_law_265 : decode cL_law 265 = .ok (.iconst 1, 1) := by decide +kernel
theorem dL_law_266 : decode cL_law 266 = .ok (.goto 4, 3) := by decide +kernel
theorem dL_law_269 : decode cL_law 269 = .ok (.iconst 0, 1) := by decide +kernel
theorem dL_law_270 : decode cL_law 270 = .ok (.invokevirtual 31, 3) := by decide +kernel
theorem dL_law_273 : decode cL_law 273 = .ok (.aload_n 2, 1) := by decide +kernel
theorem dL_law_274 : decode cL_law 274 = .ok (.aload_n 0, 1) := by decide +kernel
theorem dL_law_275 : decode cL_law 275 = .ok (.iload_n 3, 1) := by decide +kernel
theorem dL_law_276 : decode cL_law 276 = .ok (.iconst 1, 1) := by decide +kernel
theorem dL_law_277 : decode cL_law 277 = .ok (.iadd, 1) := by decide +kernel
theorem dL_law_278 : decode cL_law 278 = .ok (.iaload, 1) := by decide +kernel
theorem dL_law_279 : decode cL_law 279 = .ok (.ifCond .eq 7, 3) := by decide +kernel
theorem dL_law_282 : decode cL_law 282 = .ok (.iconst 1, 1) := by decide +kernel
theorem dL_law_283 : decode cL_law 283 = .ok (.goto 4, 3) := by decide +kernel
theorem dL_law_286 : decode cL_law 286 = .ok (.iconst 0, 1) := by decide +kernel
theorem dL_law_287 : decode cL_law 287 = .ok (.invokevirtual 34, 3) := by decide +kernel
theorem dL_law_290 : decode cL_law 290 = .ok (.if_icmp .eq 456, 3) := by decide +kernel
theorem dL_law_293 : decode cL_law 293 = .ok (.iconst 0, 1) := by decide +kernel
theorem dL_law_294 : decode cL_law 294 = .ok (.ireturn, 1) := by decide +kernel
theorem dL_law_295 : decode cL_law 295 = .ok (.aload_n 1, 1) := by decide +kernel
theorem dL_law_296 : decode cL_law 296 = .ok (.aload_n 0, 1) := by decide +kernel
theorem dL_law_297 : decode cL_law 297 = .ok (.iload_n 3, 1) := by decide +kernel
theorem dL_law_298 : decode cL_law 298 = .ok (.iconst 1, 1) := by decide +kernel
theorem dL_law_299 : decode cL_law 299 = .ok (.iadd, 1) := by decide +kernel
theorem dL_law_300 : decode cL_law 300 = .ok (.iaload, 1) := by decide +kernel
theorem dL_law_301 : decode cL_law 301 = .ok (.aload_n 0, 1) := by decide +kernel
theorem dL_law_302 : decode cL_law 302 = .ok (.iload_n 3, 1) := by decide +kernel
theorem dL_law_303 : decode cL_law 303 = .ok (.iconst 2, 1) := by decide +kernel
theorem dL_law_304 : decode cL_law 304 = .ok (.iadd, 1) := by decide +kernel
theorem dL_law_305 : decode cL_law 305 = .ok (.iaload, 1) := by decide +kernel
theorem dL_law_306 : decode cL_law 306 = .ok (.aload_n 0, 1) := by decide +kernel
theorem dL_law_307 : decode cL_law 307 = .ok (.iload_n 3, 1) := by decide +kernel
theorem dL_law_308 : decode cL_law 308 = .ok (.iconst 3, 1) := by decide +kernel
theorem dL_law_309 : decode cL_law 309 = .ok (.iadd, 1) := by decide +kernel
theorem dL_law_310 : decode cL_law 310 = .ok (.iaload, 1) := by decide +kernel
theorem dL_law_311 : decode cL_law 311 = .ok (.invokevirtual 35, 3) := by decide +kernel
theorem dL_law_314 : decode cL_law 314 = .ok (.aload_n 2, 1) := by decide +kernel
theorem dL_law_315 : decode cL_law 315 = .ok (.aload_n 0, 1) := by decide +kernel
theorem dL_law_316 : decode cL_law 316 = .ok (.iload_n 3, 1) := by decide +kernel
theorem dL_law_317 : decode cL_law 317 = .ok (.iconst 1, 1) := by decide +kernel
theorem dL_law_318 : decode cL_law 318 = .ok (.iadd, 1) := by decide +kernel
theorem dL_law_319 : decode cL_law 319 = .ok (.iaload, 1) := by decide +kernel
theorem dL_law_320 : decode cL_law 320 = .ok (.aload_n 0, 1) := by decide +kernel
theorem dL_law_321 : decode cL_law 321 = .ok (.iload_n 3, 1) := by decide +kernel
theorem dL_law_322 : decode cL_law 322 = .ok (.iconst 2, 1) := by decide +kernel
theorem dL_law_323 : decode cL_law 323 = .ok (.iadd, 1) := by decide +kernel
theorem dL_law_324 : decode cL_law 324 = .ok (.iaload, 1) := by decide +kernel
theorem dL_law_325 : decode cL_law 325 = .ok (.aload_n 0, 1) := by decide +kernel
theorem dL_law_326 : decode cL_law 326 = .ok (.iload_n 3, 1) := by decide +kernel
theorem dL_law_327 : decode cL_law 327 = .ok (.iconst 3, 1) := by decide +kernel
theorem dL_law_328 : decode cL_law 328 = .ok (.iadd, 1) := by decide +kernel
theorem dL_law_329 : decode cL_law 329 = .ok (.iaload, 1) := by decide +kernel
theorem dL_law_330 : decode cL_law 330 = .ok (.invokevirtual 39, 3) := by decide +kernel
theorem dL_law_333 : decode cL_law 333 = .ok (.if_icmp .eq 413, 3) := by decide +kernel
theorem dL_law_336 : decode cL_law 336 = .ok (.iconst 0, 1) := by decide +kernel
theorem dL_law_337 : decode cL_law 337 = .ok (.ireturn, 1) := by decide +kernel
theorem dL_law_338 : decode cL_law 338 = .ok (.aload_n 1, 1) := by decide +kernel
theorem dL_law_339 : decode cL_law 339 = .ok (.aload_n 0, 1) := by decide +kernel
theorem dL_law_340 : decode cL_law 340 = .ok (.iload_n 3, 1) := by decide +kernel
theorem dL_law_341 : decode cL_law 341 = .ok (.iconst 1, 1) := by decide +kernel
theorem dL_law_342 : decode cL_law 342 = .ok (.iadd, 1) := by decide +kernel
theorem dL_law_343 : decode cL_law 343 = .ok (.iaload, 1) := by decide +kernel
theorem dL_law_344 : decode cL_law 344 = .ok (.invokevirtual 40, 3) := by decide +kernel
theorem dL_law_347 : decode cL_law 347 = .ok (.aload_n 2, 1) := by decide +kernel
theorem dL_law_348 : decode cL_law 348 = .ok (.aload_n 0, 1) := by decide +kernel
theorem dL_law_349 : decode cL_law 349 = .ok (.iload_n 3, 1) := by decide +kernel
theorem dL_law_350 : decode cL_law 350 = .ok (.iconst 1, 1) := by decide +kernel
theorem dL_law_351 : decode cL_law 351 = .ok (.iadd, 1) := by decide +kernel
theorem dL_law_352 : decode cL_law 352 = .ok (.iaload, 1) := by decide +kernel
theorem dL_law_353 : decode cL_law 353 = .ok (.invokevirtual 43, 3) := by decide +kernel
theorem dL_law_356 : decode cL_law 356 = .ok (.if_icmp .eq 390, 3) := by decide +kernel
theorem dL_law_359 : decode cL_law 359 = .ok (.iconst 0, 1) := by decide +kernel
theorem dL_law_360 : decode cL_law 360 = .ok (.ireturn, 1) := by decide +kernel
theorem dL_law_361 : decode cL_law 361 = .ok (.aload_n 1, 1) := by decide +kernel
theorem dL_law_362 : decode cL_law 362 = .ok (.aload_n 0, 1) := by decide +kernel
theorem dL_law_363 : decode cL_law 363 = .ok (.iload_n 3, 1) := by decide +kernel
theorem dL_law_364 : decode cL_law 364 = .ok (.iconst 1, 1) := by decide +kernel
theorem dL_law_365 : decode cL_law 365 = .ok (.iadd, 1) := by decide +kernel
theorem dL_law_366 : decode cL_law 366 = .ok (.iaload, 1) := by decide +kernel
theorem dL_law_367 : decode cL_law 367 = .ok (.invokevirtual 44, 3) := by decide +kernel
theorem dL_law_370 : decode cL_law 370 = .ok (.aload_n 2, 1) := by decide +kernel
theorem dL_law_371 : decode cL_law 371 = .ok (.aload_n 0, 1) := by decide +kernel
theorem dL_law_372 : decode cL_law 372 = .ok (.iload_n 3, 1) := by decide +kernel
theorem dL_law_373 : decode cL_law 373 = .ok (.iconst 1, 1) := by decide +kernel
theorem dL_law_374 : decode cL_law 374 = .ok (.iadd, 1) := by decide +kernel
theorem dL_law_375 : decode cL_law 375 = .ok (.iaload, 1) := by decide +kernel
theorem dL_law_376 : decode cL_law 376 = .ok (.invokevirtual 47, 3) := by decide +kernel
theorem dL_law_379 : decode cL_law 379 = .ok (.if_icmp .eq 367, 3) := by decide +kernel
theorem dL_law_382 : decode cL_law 382 = .ok (.iconst 0, 1) := by decide +kernel
theorem dL_law_383 : decode cL_law 383 = .ok (.ireturn, 1) := by decide +kernel
theorem dL_law_384 : decode cL_law 384 = .ok (.aload_n 1, 1) := by decide +kernel
theorem dL_law_385 : decode cL_law 385 = .ok (.aload_n 0, 1) := by decide +kernel
theorem dL_law_386 : decode cL_law 386 = .ok (.iload_n 3, 1) := by decide +kernel
theorem dL_law_387 : decode cL_law 387 = .ok (.iconst 1, 1) := by decide +kernel
theorem dL_law_388 : decode cL_law 388 = .ok (.iadd, 1) := by decide +kernel
theorem dL_law_389 : decode cL_law 389 = .ok (.iaload, 1) := by decide +kernel
theorem dL_law_390 : decode cL_law 390 = .ok (.invokevirtual 48, 3) := by decide +kernel
theorem dL_law_393 : decode cL_law 393 = .ok (.aload_n 2, 1) := by decide +kernel
theorem dL_law_394 : decode cL_law 394 = .ok (.aload_n 0, 1) := by decide +kernel
theorem dL_law_395 : decode cL_law 395 = .ok (.iload_n 3, 1) := by decide +kernel
theorem dL_law_396 : decode cL_law 396 = .ok (.iconst 1, 1) := by decide +kernel
theorem dL_law_397 : decode cL_law 397 = .ok (.iadd, 1) := by decide +kernel
theorem dL_law_398 : decode cL_law 398 = .ok (.iaload, 1) := by decide +kernel
theorem dL_law_399 : decode cL_law 399 = .ok (.invokevirtual 51, 3) := by decide +kernel
theorem dL_law_402 : decode cL_law 402 = .ok (.if_icmp .eq 344, 3) := by decide +kernel
theorem dL_law_405 : decode cL_law 405 = .ok (.iconst 0, 1) := by decide +kernel
theorem dL_law_406 : decode cL_law 406 = .ok (.ireturn, 1) := by decide +kernel
theorem dL_law_407 : decode cL_law 407 = .ok (.aload_n 1, 1) := by decide +kernel
theorem dL_law_408 : decode cL_law 408 = .ok (.aload_n 0, 1) := by decide +kernel
theorem dL_law_409 : decode cL_law 409 = .ok (.iload_n 3, 1) := by decide +kernel
theorem dL_law_410 : decode cL_law 410 = .ok (.iconst 1, 1) := by decide +kernel
theorem dL_law_411 : decode cL_law 411 = .ok (.iadd, 1) := by decide +kernel
theorem dL_law_412 : decode cL_law 412 = .ok (.iaload, 1) := by decide +kernel
theorem dL_law_413 : decode cL_law 413 = .ok (.aload_n 0, 1) := by decide +kernel
theorem dL_law_414 : decode cL_law 414 = .ok (.iload_n 3, 1) := by decide +kernel
theorem dL_law_415 : decode cL_law 415 = .ok (.iconst 2, 1) := by decide +kernel
theorem dL_law_416 : decode cL_law 416 = .ok (.iadd, 1) := by decide +kernel
theorem dL_law_417 : decode cL_law 417 = .ok (.iaload, 1) := by decide +kernel
theorem dL_law_418 : decode cL_law 418 = .ok (.invokevirtual 52, 3) := by decide +kernel
theorem dL_law_421 : decode cL_law 421 = .ok (.aload_n 2, 1) := by decide +kernel
theorem dL_law_422 : decode cL_law 422 = .ok (.aload_n 0, 1) := by decide +kernel
theorem dL_law_423 : decode cL_law 423 = .ok (.iload_n 3, 1) := by decide +kernel
theorem dL_law_424 : decode cL_law 424 = .ok (.iconst 1, 1) := by decide +kernel
theorem dL_law_425 : decode cL_law 425 = .ok (.iadd, 1) := by decide +kernel
theorem dL_law_426 : decode cL_law 426 = .ok (.iaload, 1) := by decide +kernel
theorem dL_law_427 : decode cL_law 427 = .ok (.aload_n 0, 1) := by decide +kernel
theorem dL_law_428 : decode cL_law 428 = .ok (.iload_n 3, 1) := by decide +kernel
theorem dL_law_429 : decode cL_law 429 = .ok (.iconst 2, 1) := by decide +kernel
theorem dL_law_430 : decode cL_law 430 = .ok (.iadd, 1) := by decide +kernel
theorem dL_law_431 : decode cL_law 431 = .ok (.iaload, 1) := by decide +kernel
theorem dL_law_432 : decode cL_law 432 = .ok (.invokevirtual 56, 3) := by decide +kernel
theorem dL_law_435 : decode cL_law 435 = .ok (.if_icmp .eq 311, 3) := by decide +kernel
theorem dL_law_438 : decode cL_law 438 = .ok (.iconst 0, 1) := by decide +kernel
theorem dL_law_439 : decode cL_law 439 = .ok (.ireturn, 1) := by decide +kernel
theorem dL_law_440 : decode cL_law 440 = .ok (.aload_n 1, 1) := by decide +kernel
theorem dL_law_441 : decode cL_law 441 = .ok (.aload_n 0, 1) := by decide +kernel
theorem dL_law_442 : decode cL_law 442 = .ok (.iload_n 3, 1) := by decide +kernel
theorem dL_law_443 : decode cL_law 443 = .ok (.iconst 1, 1) := by decide +kernel
theorem dL_law_444 : decode cL_law 444 = .ok (.iadd, 1) := by decide +kernel
theorem dL_law_445 : decode cL_law 445 = .ok (.iaload, 1) := by decide +kernel
theorem dL_law_446 : decode cL_law 446 = .ok (.invokevirtual 57, 3) := by decide +kernel
theorem dL_law_449 : decode cL_law 449 = .ok (.aload_n 2, 1) := by decide +kernel
theorem dL_law_450 : decode cL_law 450 = .ok (.aload_n 0, 1) := by decide +kernel
theorem dL_law_451 : decode cL_law 451 = .ok (.iload_n 3, 1) := by decide +kernel
theorem dL_law_452 : decode cL_law 452 = .ok (.iconst 1, 1) := by decide +kernel
theorem dL_law_453 : decode cL_law 453 = .ok (.iadd, 1) := by decide +kernel
theorem dL_law_454 : decode cL_law 454 = .ok (.iaload, 1) := by decide +kernel
theorem dL_law_455 : decode cL_law 455 = .ok (.invokevirtual 60, 3) := by decide +kernel
theorem dL_law_458 : decode cL_law 458 = .ok (.if_icmp .eq 288, 3) := by decide +kernel
theorem dL_law_461 : decode cL_law 461 = .ok (.iconst 0, 1) := by decide +kernel
theorem dL_law_462 : decode cL_law 462 = .ok (.ireturn, 1) := by decide +kernel
theorem dL_law_463 : decode cL_law 463 = .ok (.aload_n 1, 1) := by decide +kernel
theorem dL_law_464 : decode cL_law 464 = .ok (.aload_n 0, 1) := by decide +kernel
theorem dL_law_465 : decode cL_law 465 = .ok (.iload_n 3, 1) := by decide +kernel
theorem dL_law_466 : decode cL_law 466 = .ok (.iconst 1, 1) := by decide +kernel
theorem dL_law_467 : decode cL_law 467 = .ok (.iadd, 1) := by decide +kernel
theorem dL_law_468 : decode cL_law 468 = .ok (.iaload, 1) := by decide +kernel
theorem dL_law_469 : decode cL_law 469 = .ok (.invokevirtual 61, 3) := by decide +kernel
theorem dL_law_472 : decode cL_law 472 = .ok (.aload_n 2, 1) := by decide +kernel
theorem dL_law_473 : decode cL_law 473 = .ok (.aload_n 0, 1) := by decide +kernel
theorem dL_law_474 : decode cL_law 474 = .ok (.iload_n 3, 1) := by decide +kernel
theorem dL_law_475 : decode cL_law 475 = .ok (.iconst 1, 1) := by decide +kernel
theorem dL_law_476 : decode cL_law 476 = .ok (.iadd, 1) := by decide +kernel
theorem dL_law_477 : decode cL_law 477 = .ok (.iaload, 1) := by decide +kernel
theorem dL_law_478 : decode cL_law 478 = .ok (.invokevirtual 64, 3) := by decide +kernel
theorem dL_law_481 : decode cL_law 481 = .ok (.if_icmp .eq 265, 3) := by decide +kernel
theorem dL_law_484 : decode cL_law 484 = .ok (.iconst 0, 1) := by decide +kernel
theorem dL_law_485 : decode cL_law 485 = .ok (.ireturn, 1) := by decide +kernel
theorem dL_law_486 : decode cL_law 486 = .ok (.aload_n 1, 1) := by decide +kernel
theorem dL_law_487 : decode cL_law 487 = .ok (.aload_n 0, 1) := by decide +kernel
theorem dL_law_488 : decode cL_law 488 = .ok (.iload_n 3, 1) := by decide +kernel
theorem dL_law_489 : decode cL_law 489 = .ok (.iconst 1, 1) := by decide +kernel
theorem dL_law_490 : decode cL_law 490 = .ok (.iadd, 1) := by decide +kernel
theorem dL_law_491 : decode cL_law 491 = .ok (.iaload, 1) := by decide +kernel
theorem dL_law_492 : decode cL_law 492 = .ok (.invokevirtual 65, 3) := by decide +kernel
theorem dL_law_495 : decode cL_law 495 = .ok (.aload_n 2, 1) := by decide +kernel
theorem dL_law_496 : decode cL_law 496 = .ok (.aload_n 0, 1) := by decide +kernel
theorem dL_law_497 : decode cL_law 497 = .ok (.iload_n 3, 1) := by decide +kernel
theorem dL_law_498 : decode cL_law 498 = .ok (.iconst 1, 1) := by decide +kernel
theorem dL_law_499 : decode cL_law 499 = .ok (.iadd, 1) := by decide +kernel
theorem dL_law_500 : decode cL_law 500 = .ok (.iaload, 1) := by decide +kernel
theorem dL_law_501 : decode cL_law 501 = .ok (.invokevirtual 68, 3) := by decide +kernel
theorem dL_law_504 : decode cL_law 504 = .ok (.if_icmp .eq 242, 3) := by decide +kernel
theorem dL_law_507 : decode cL_law 507 = .ok (.iconst 0, 1) := by decide +kernel
theorem dL_law_508 : decode cL_law 508 = .ok (.ireturn, 1) := by decide +kernel
theorem dL_law_509 : decode cL_law 509 = .ok (.aload_n 1, 1) := by decide +kernel
theorem dL_law_510 : decode cL_law 510 = .ok (.aload_n 0, 1) := by decide +kernel
theorem dL_law_511 : decode cL_law 511 = .ok (.iload_n 3, 1) := by decide +kernel
theorem dL_law_512 : decode cL_law 512 = .ok (.iconst 1, 1) := by decide +kernel
theorem dL_law_513 : decode cL_law 513 = .ok (.iadd, 1) := by decide +kernel
theorem dL_law_514 : decode cL_law 514 = .ok (.iaload, 1) := by decide +kernel
theorem dL_law_515 : decode cL_law 515 = .ok (.invokevirtual 69, 3) := by decide +kernel
theorem dL_law_518 : decode cL_law 518 = .ok (.aload_n 2, 1) := by decide +kernel
theorem dL_law_519 : decode cL_law 519 = .ok (.aload_n 0, 1) := by decide +kernel
theorem dL_law_520 : decode cL_law 520 = .ok (.iload_n 3, 1) := by decide +kernel
theorem dL_law_521 : decode cL_law 521 = .ok (.iconst 1, 1) := by decide +kernel
theorem dL_law_522 : decode cL_law 522 = .ok (.iadd, 1) := by decide +kernel
theorem dL_law_523 : decode cL_law 523 = .ok (.iaload, 1) := by decide +kernel
theorem dL_law_524 : decode cL_law 524 = .ok (.invokevirtual 72, 3) := by decide +kernel
theorem dL_law_527 : decode cL_law 527 = .ok (.if_icmp .eq 219, 3) := by decide +kernel
theorem dL_law_530 : decode cL_law 530 = .ok (.iconst 0, 1) := by decide +kernel
theorem dL_law_531 : decode cL_law 531 = .ok (.ireturn, 1) := by decide +kernel
theorem dL_law_532 : decode cL_law 532 = .ok (.aload_n 1, 1) := by decide +kernel
theorem dL_law_533 : decode cL_law 533 = .ok (.aload_n 0, 1) := by decide +kernel
theorem dL_law_534 : decode cL_law 534 = .ok (.iload_n 3, 1) := by decide +kernel
theorem dL_law_535 : decode cL_law 535 = .ok (.iconst 1, 1) := by decide +kernel
theorem dL_law_536 : decode cL_law 536 = .ok (.iadd, 1) := by decide +kernel
theorem dL_law_537 : decode cL_law 537 = .ok (.iaload, 1) := by decide +kernel
theorem dL_law_538 : decode cL_law 538 = .ok (.invokevirtual 73, 3) := by decide +kernel
theorem dL_law_541 : decode cL_law 541 = .ok (.aload_n 2, 1) := by decide +kernel
theorem dL_law_542 : decode cL_law 542 = .ok (.aload_n 0, 1) := by decide +kernel
theorem dL_law_543 : decode cL_law 543 = .ok (.iload_n 3, 1) := by decide +kernel
theorem dL_law_544 : decode cL_law 544 = .ok (.iconst 1, 1) := by decide +kernel
theorem dL_law_545 : decode cL_law 545 = .ok (.iadd, 1) := by decide +kernel
theorem dL_law_546 : decode cL_law 546 = .ok (.iaload, 1) := by decide +kernel
theorem dL_law_547 : decode cL_law 547 = .ok (.invokevirtual 76, 3) := by decide +kernel
theorem dL_law_550 : decode cL_law 550 = .ok (.if_icmp .eq 196, 3) := by decide +kernel
theorem dL_law_553 : decode cL_law 553 = .ok (.iconst 0, 1) := by decide +kernel
theorem dL_law_554 : decode cL_law 554 = .ok (.ireturn, 1) := by decide +kernel
theorem dL_law_555 : decode cL_law 555 = .ok (.aload_n 1, 1) := by decide +kernel
theorem dL_law_556 : decode cL_law 556 = .ok (.aload_n 0, 1) := by decide +kernel
theorem dL_law_557 : decode cL_law 557 = .ok (.iload_n 3, 1) := by decide +kernel
theorem dL_law_558 : decode cL_law 558 = .ok (.iconst 1, 1) := by decide +kernel
theorem dL_law_559 : decode cL_law 559 = .ok (.iadd, 1) := by decide +kernel
theorem dL_law_560 : decode cL_law 560 = .ok (.iaload, 1) := by decide +kernel
theorem dL_law_561 : decode cL_law 561 = .ok (.aload_n 0, 1) := by decide +kernel
theorem dL_law_562 : decode cL_law 562 = .ok (.iload_n 3, 1) := by decide +kernel
theorem dL_law_563 : decode cL_law 563 = .ok (.iconst 2, 1) := by decide +kernel
theorem dL_law_564 : decode cL_law 564 = .ok (.iadd, 1) := by decide +kernel
theorem dL_law_565 : decode cL_law 565 = .ok (.iaload, 1) := by decide +kernel
theorem dL_law_566 : decode cL_law 566 = .ok (.invokevirtual 77, 3) := by decide +kernel
theorem dL_law_569 : decode cL_law 569 = .ok (.aload_n 2, 1) := by decide +kernel
theorem dL_law_570 : decode cL_law 570 = .ok (.aload_n 0, 1) := by decide +kernel
theorem dL_law_571 : decode cL_law 571 = .ok (.iload_n 3, 1) := by decide +kernel
theorem dL_law_572 : decode cL_law 572 = .ok (.iconst 1, 1) := by decide +kernel
theorem dL_law_573 : decode cL_law 573 = .ok (.iadd, 1) := by decide +kernel
theorem dL_law_574 : decode cL_law 574 = .ok (.iaload, 1) := by decide +kernel
theorem dL_law_575 : decode cL_law 575 = .ok (.aload_n 0, 1) := by decide +kernel
theorem dL_law_576 : decode cL_law 576 = .ok (.iload_n 3, 1) := by decide +kernel
theorem dL_law_577 : decode cL_law 577 = .ok (.iconst 2, 1) := by decide +kernel
theorem dL_law_578 : decode cL_law 578 = .ok (.iadd, 1) := by decide +kernel
theorem dL_law_579 : decode cL_law 579 = .ok (.iaload, 1) := by decide +kernel
theorem dL_law_580 : decode cL_law 580 = .ok (.invokevirtual 80, 3) := by decide +kernel
theorem dL_law_583 : decode cL_law 583 = .ok (.if_icmp .eq 163, 3) := by decide +kernel
theorem dL_law_586 : decode cL_law 586 = .ok (.iconst 0, 1) := by decide +kernel
theorem dL_law_587 : decode cL_law 587 = .ok (.ireturn, 1) := by decide +kernel
theorem dL_law_588 : decode cL_law 588 = .ok (.aload_n 1, 1) := by decide +kernel
theorem dL_law_589 : decode cL_law 589 = .ok (.aload_n 0, 1) := by decide +kernel
theorem dL_law_590 : decode cL_law 590 = .ok (.iload_n 3, 1) := by decide +kernel
theorem dL_law_591 : decode cL_law 591 = .ok (.iconst 1, 1) := by decide +kernel
theorem dL_law_592 : decode cL_law 592 = .ok (.iadd, 1) := by decide +kernel
theorem dL_law_593 : decode cL_law 593 = .ok (.iaload, 1) := by decide +kernel
theorem dL_law_594 : decode cL_law 594 = .ok (.invokevirtual 81, 3) := by decide +kernel
theorem dL_law_597 : decode cL_law 597 = .ok (.aload_n 2, 1) := by decide +kernel
theorem dL_law_598 : decode cL_law 598 = .ok (.aload_n 0, 1) := by decide +kernel
theorem dL_law_599 : decode cL_law 599 = .ok (.iload_n 3, 1) := by decide +kernel
theorem dL_law_600 : decode cL_law 600 = .ok (.iconst 1, 1) := by decide +kernel
theorem dL_law_601 : decode cL_law 601 = .ok (.iadd, 1) := by decide +kernel
theorem dL_law_602 : decode cL_law 602 = .ok (.iaload, 1) := by decide +kernel
theorem dL_law_603 : decode cL_law 603 = .ok (.invokevirtual 84, 3) := by decide +kernel
theorem dL_law_606 : decode cL_law 606 = .ok (.if_icmp .eq 140, 3) := by decide +kernel
theorem dL_law_609 : decode cL_law 609 = .ok (.iconst 0, 1) := by decide +kernel
theorem dL_law_610 : decode cL_law 610 = .ok (.ireturn, 1) := by decide +kernel
theorem dL_law_611 : decode cL_law 611 = .ok (.aload_n 1, 1) := by decide +kernel
theorem dL_law_612 : decode cL_law 612 = .ok (.aload_n 0, 1) := by decide +kernel
theorem dL_law_613 : decode cL_law 613 = .ok (.iload_n 3, 1) := by decide +kernel
theorem dL_law_614 : decode cL_law 614 = .ok (.iconst 1, 1) := by decide +kernel
theorem dL_law_615 : decode cL_law 615 = .ok (.iadd, 1) := by decide +kernel
theorem dL_law_616 : decode cL_law 616 = .ok (.iaload, 1) := by decide +kernel
theorem dL_law_617 : decode cL_law 617 = .ok (.invokevirtual 85, 3) := by decide +kernel
theorem dL_law_620 : decode cL_law 620 = .ok (.aload_n 2, 1) := by decide +kernel
theorem dL_law_621 : decode cL_law 621 = .ok (.aload_n 0, 1) := by decide +kernel
theorem dL_law_622 : decode cL_law 622 = .ok (.iload_n 3, 1) := by decide +kernel
theorem dL_law_623 : decode cL_law 623 = .ok (.iconst 1, 1) := by decide +kernel
theorem dL_law_624 : decode cL_law 624 = .ok (.iadd, 1) := by decide +kernel
theorem dL_law_625 : decode cL_law 625 = .ok (.iaload, 1) := by decide +kernel
theorem dL_law_626 : decode cL_law 626 = .ok (.invokevirtual 88, 3) := by decide +kernel
theorem dL_law_629 : decode cL_law 629 = .ok (.if_icmp .eq 117, 3) := by decide +kernel
theorem dL_law_632 : decode cL_law 632 = .ok (.iconst 0, 1) := by decide +kernel
theorem dL_law_633 : decode cL_law 633 = .ok (.ireturn, 1) := by decide +kernel
theorem dL_law_634 : decode cL_law 634 = .ok (.aload_n 1, 1) := by decide +kernel
theorem dL_law_635 : decode cL_law 635 = .ok (.invokevirtual 89, 3) := by decide +kernel
theorem dL_law_638 : decode cL_law 638 = .ok (.aload_n 2, 1) := by decide +kernel
theorem dL_law_639 : decode cL_law 639 = .ok (.invokevirtual 93, 3) := by decide +kernel
theorem dL_law_642 : decode cL_law 642 = .ok (.if_icmp .eq 104, 3) := by decide +kernel
theorem dL_law_645 : decode cL_law 645 = .ok (.iconst 0, 1) := by decide +kernel
theorem dL_law_646 : decode cL_law 646 = .ok (.ireturn, 1) := by decide +kernel
theorem dL_law_647 : decode cL_law 647 = .ok (.aload_n 1, 1) := by decide +kernel
theorem dL_law_648 : decode cL_law 648 = .ok (.invokevirtual 94, 3) := by decide +kernel
theorem dL_law_651 : decode cL_law 651 = .ok (.aload_n 2, 1) := by decide +kernel
theorem dL_law_652 : decode cL_law 652 = .ok (.invokevirtual 97, 3) := by decide +kernel
theorem dL_law_655 : decode cL_law 655 = .ok (.if_icmp .eq 91, 3) := by decide +kernel
theorem dL_law_658 : decode cL_law 658 = .ok (.iconst 0, 1) := by decide +kernel
theorem dL_law_659 : decode cL_law 659 = .ok (.ireturn, 1) := by decide +kernel
theorem dL_law_660 : decode cL_law 660 = .ok (.aload_n 1, 1) := by decide +kernel
theorem dL_law_661 : decode cL_law 661 = .ok (.invokevirtual 98, 3) := by decide +kernel
theorem dL_law_664 : decode cL_law 664 = .ok (.aload_n 2, 1) := by decide +kernel
theorem dL_law_665 : decode cL_law 665 = .ok (.invokevirtual 101, 3) := by decide +kernel
theorem dL_law_668 : decode cL_law 668 = .ok (.if_icmp .eq 78, 3) := by decide +kernel
theorem dL_law_671 : decode cL_law 671 = .ok (.iconst 0, 1) := by decide +kernel
theorem dL_law_672 : decode cL_law 672 = .ok (.ireturn, 1) := by decide +kernel
theorem dL_law_673 : decode cL_law 673 = .ok (.aload_n 1, 1) := by decide +kernel
theorem dL_law_674 : decode cL_law 674 = .ok (.invokevirtual 102, 3) := by decide +kernel
theorem dL_law_677 : decode cL_law 677 = .ok (.aload_n 2, 1) := by decide +kernel
theorem dL_law_678 : decode cL_law 678 = .ok (.invokevirtual 105, 3) := by decide +kernel
theorem dL_law_681 : decode cL_law 681 = .ok (.if_icmp .eq 65, 3) := by decide +kernel
theorem dL_law_684 : decode cL_law 684 = .ok (.iconst 0, 1) := by decide +kernel
theorem dL_law_685 : decode cL_law 685 = .ok (.ireturn, 1) := by decide +kernel
theorem dL_law_686 : decode cL_law 686 = .ok (.aload_n 1, 1) := by decide +kernel
theorem dL_law_687 : decode cL_law 687 = .ok (.aload_n 0, 1) := by decide +kernel
theorem dL_law_688 : decode cL_law 688 = .ok (.iload_n 3, 1) := by decide +kernel
theorem dL_law_689 : decode cL_law 689 = .ok (.iconst 1, 1) := by decide +kernel
theorem dL_law_690 : decode cL_law 690 = .ok (.iadd, 1) := by decide +kernel
theorem dL_law_691 : decode cL_law 691 = .ok (.iaload, 1) := by decide +kernel
theorem dL_law_692 : decode cL_law 692 = .ok (.invokevirtual 106, 3) := by decide +kernel
theorem dL_law_695 : decode cL_law 695 = .ok (.aload_n 2, 1) := by decide +kernel
theorem dL_law_696 : decode cL_law 696 = .ok (.aload_n 0, 1) := by decide +kernel
theorem dL_law_697 : decode cL_law 697 = .ok (.iload_n 3, 1) := by decide +kernel
theorem dL_law_698 : decode cL_law 698 = .ok (.iconst 1, 1) := by decide +kernel
theorem dL_law_699 : decode cL_law 699 = .ok (.iadd, 1) := by decide +kernel
theorem dL_law_700 : decode cL_law 700 = .ok (.iaload, 1) := by decide +kernel
theorem dL_law_701 : decode cL_law 701 = .ok (.invokevirtual 109, 3) := by decide +kernel
theorem dL_law_704 : decode cL_law 704 = .ok (.if_icmp .eq 42, 3) := by decide +kernel
theorem dL_law_707 : decode cL_law 707 = .ok (.iconst 0, 1) := by decide +kernel
theorem dL_law_708 : decode cL_law 708 = .ok (.ireturn, 1) := by decide +kernel
theorem dL_law_709 : decode cL_law 709 = .ok (.aload_n 1, 1) := by decide +kernel
theorem dL_law_710 : decode cL_law 710 = .ok (.aload_n 0, 1) := by decide +kernel
theorem dL_law_711 : decode cL_law 711 = .ok (.iload_n 3, 1) := by decide +kernel
theorem dL_law_712 : decode cL_law 712 = .ok (.iconst 1, 1) := by decide +kernel
theorem dL_law_713 : decode cL_law 713 = .ok (.iadd, 1) := by decide +kernel
theorem dL_law_714 : decode cL_law 714 = .ok (.iaload, 1) := by decide +kernel
theorem dL_law_715 : decode cL_law 715 = .ok (.invokevirtual 110, 3) := by decide +kernel
theorem dL_law_718 : decode cL_law 718 = .ok (.aload_n 2, 1) := by decide +kernel
theorem dL_law_719 : decode cL_law 719 = .ok (.aload_n 0, 1) := by decide +kernel
theorem dL_law_720 : decode cL_law 720 = .ok (.iload_n 3, 1) := by decide +kernel
theorem dL_law_721 : decode cL_law 721 = .ok (.iconst 1, 1) := by decide +kernel
theorem dL_law_722 : decode cL_law 722 = .ok (.iadd, 1) := by decide +kernel
theorem dL_law_723 : decode cL_law 723 = .ok (.iaload, 1) := by decide +kernel
theorem dL_law_724 : decode cL_law 724 = .ok (.invokevirtual 113, 3) := by decide +kernel
theorem dL_law_727 : decode cL_law 727 = .ok (.if_icmp .eq 19, 3) := by decide +kernel
theorem dL_law_730 : decode cL_law 730 = .ok (.iconst 0, 1) := by decide +kernel
theorem dL_law_731 : decode cL_law 731 = .ok (.ireturn, 1) := by decide +kernel
theorem dL_law_732 : decode cL_law 732 = .ok (.aload_n 1, 1) := by decide +kernel
theorem dL_law_733 : decode cL_law 733 = .ok (.invokevirtual 114, 3) := by decide +kernel
theorem dL_law_736 : decode cL_law 736 = .ok (.aload_n 2, 1) := by decide +kernel
theorem dL_law_737 : decode cL_law 737 = .ok (.invokevirtual 118, 3) := by decide +kernel
theorem dL_law_740 : decode cL_law 740 = .ok (.lcmp, 1) := by decide +kernel
theorem dL_law_741 : decode cL_law 741 = .ok (.ifCond .eq 5, 3) := by decide +kernel
theorem dL_law_744 : decode cL_law 744 = .ok (.iconst 0, 1) := by decide +kernel
theorem dL_law_745 : decode cL_law 745 = .ok (.ireturn, 1) := by decide +kernel
theorem dL_law_746 : decode cL_law 746 = .ok (.iinc 3 4, 3) := by decide +kernel
theorem dL_law_749 : decode cL_law 749 = .ok (.goto (-731), 3) := by decide +kernel
theorem dL_law_752 : decode cL_law 752 = .ok (.iconst 1, 1) := by decide +kernel
theorem dL_law_753 : decode cL_law 753 = .ok (.ireturn, 1) := by decide +kernel
end
section
/-! the base: the heap from an address B on as a memory by offset and slot -/
abbrev hZt : Type := Nat × (Nat → Nat) × va_G × (Nat → ClassId)
abbrev hMem : Type := Nat → Nat → Int32
abbrev hRef : Type := Nat → Nat → Nat
def up2 {α : Type} (M : Nat → Nat → α) (a k : Nat) (x : α) : Nat → Nat → α := fun b j => if b = a ∧ j = k then x else M b j
abbrev hcl : List vw_C := [(RX0, TX0, 8), (RX1, TX1, 2), (RX3, TX3, 2), (RX4, TX4, 16), (RX5, TX5, 8), (RX6, TX6, 5), (RX7, TX7, 15)]
def hN (ci : Nat) : Nat := match ci with
  | 0 => 8
  | 1 => 2
  | 2 => 2
  | 3 => 16
  | 4 => 8
  | 5 => 5
  | _ => 15
/-- what a slot holds: 0 a number, 1 a truth value, 2 a character, 3 a kind, 4 a reference -/
def sty (ci k : Nat) : Nat := match ci, k with
  | 0, 1 => 3
  | 0, 6 => 1
  | 1, 0 => 4
  | 2, _ => 4
  | 3, 0 => 4
  | 3, 1 => 4
  | 3, 6 => 1
  | 3, 7 => 1
  | 4, 0 => 4
  | 4, 4 => 2
  | 4, 5 => 3
  | 5, _ => 4
  | 6, 0 => 4
  | 6, 1 => 4
  | 6, 3 => 4
  | 6, 4 => 4
  | 6, 5 => 4
  | 6, 6 => 4
  | 6, 9 => 4
  | 6, 10 => 4
  | 6, 11 => 4
  | 6, 12 => 4
  | _, _ => 0
def kv (ek : Nat → Nat) (x : Int32) : Value := if x = 0 then .ref (ek 0) else if x = 1 then .ref (ek 1) else if x = 2 then .ref (ek 2) else .null
def rv (B o : Nat) : Value := if o = 0 then .null else .ref (B + o)
def sv (z : hZt) (t : Nat) (x : Int32) (o : Nat) : Value := if t = 4 then rv z.1 o else if t = 3 then kv z.2.1 x else .int x
def obv (z : hZt) (ci : Nat) (f : Nat → Int32) (r : Nat → Nat) : List Value := (List.range (hN ci)).map fun k => sv z (sty ci k) (f k) (r k)
/-- which cell stands at an offset: (0, class), (1, n) ints, (2, n) truth values, (3, n) characters, (4, n) aircraft, (5, n) states -/
def tyS (j : Nat) : Nat × Nat := if j = 0 then (0, 3) else if j = 1 then (4, 20) else if j = 2 then (1, 16) else (0, 0)
def ty (i : Nat) : Nat × Nat :=
  if i = 0 then (0, 5) else if i < 47 then tyS ((i - 1) % 23) else if i = 47 then (0, 1) else if i = 48 then (5, 5)
  else if i < 164 then tyS ((i - 49) % 23) else if i = 164 then (0, 2) else if i = 165 then (5, 2) else if i = 166 then (2, 2)
  else if i < 213 then tyS ((i - 167) % 23) else if i = 213 then (0, 4) else if i = 214 then (3, 80) else if i = 215 then (0, 6)
  else if i = 216 then (1, 154) else if i = 217 then (1, 770) else if i = 218 then (1, 154) else if i = 219 then (1, 308)
  else if i = 220 then (2, 2) else if i = 221 then (1, 80) else if i = 222 then (1, 4) else (1, 3)
def ent (z : hZt) (t : Nat × Nat) (f : Nat → Int32) (r : Nat → Nat) : va_E :=
  if t.1 = 0 then .inr (t.2, obv z t.2 f r)
  else if t.1 ≤ 3 then .inl (z.2.2.2 t.1, t.2, .inl f)
  else .inl (z.2.2.2 t.1, t.2, .inr (.inr (.inr (.inr fun j => if r j = 0 then none else some (z.1 + r j)))))
def wl (z : hZt) (n : Nat) (M : hMem) (R : hRef) : va_W := (List.range n).map fun i => (z.1 + i, ent z (ty i) (M i) (R i))
def Wfc (t : Nat × Nat) (f : Nat → Int32) : Prop :=
  (t.1 = 0 → ∀ k, k < hN t.2 → (sty t.2 k = 1 → f k = 0 ∨ f k = 1) ∧ (sty t.2 k = 2 → ∃ q, q < 65536 ∧ f k = nI q)) ∧
  (t.1 = 2 → ∀ k, k < t.2 → f k = 0 ∨ f k = 1) ∧ (t.1 = 3 → ∀ k, k < t.2 → ∃ q, q < 65536 ∧ f k = nI q)
def Wf (n : Nat) (M : hMem) : Prop := ∀ i, i < n → Wfc (ty i) (M i)
abbrev tyl (z : hZt) : List (ClassId × FieldType) := [(z.2.2.2 1, .int), (z.2.2.2 2, .boolean), (z.2.2.2 3, .char), (z.2.2.2 4, .object RX0), (z.2.2.2 5, .object RX4)]
def kFd : List (String × String × String × List Int32) := [("HoldingStack$Kind", "number", "I", [0, 1, 2]), ("HoldingStack$Kind", "rate", "I", [4, 9, 18]), ("HoldingStack$Kind", "reserve", "I", [40, 100, 220]), ("HoldingStack$Kind", "wake", "I", [2, 3, 4])]
def kNm : List String := ["LIGHT", "MEDIUM", "HEAVY"]
abbrev hA (z : hZt) : Nat → Prop := fun q => z.1 ≤ q
def Fx (z : hZt) (U : State) (H : Heap) : Prop :=
  va_K z.2.2.1 hcl (tyl z) U ∧ va_En "HoldingStack$Kind" "LHoldingStack$Kind;" kNm kFd z.2.1 (hA z) U H ∧ va_Nw (.methodLinkNest RX6 35 yX5_init RX6) U ∧ va_AO RX0 U ∧ va_AO RX4 U
def Hp (z : hZt) (n : Nat) (M : hMem) (R : hRef) (H : Heap) : Prop := va_P z.2.2.1 hcl (wl z n M R) H ∧ H.size = z.1 + n ∧ Wf n M
def Wo (z : hZt) (n : Nat) (M : hMem) (R : hRef) (U : State) : Prop := Fx z U U.heap ∧ Hp z n M R U.heap
def tsz (t : Nat × Nat) : Nat := if t.1 = 0 then hN t.2 else t.2
def slt : Nat → Nat
  | 0 => 0
  | n + 1 => slt n + tsz (ty n)
theorem slt_le (a k : Nat) : slt a ≤ slt (a + k) := by
  induction k with
  | zero => exact Nat.le_refl _
  | succ k ih => exact Nat.le_trans ih (by show _ ≤ slt (a + k) + _; omega)
theorem slt_mono {a b : Nat} (h : a ≤ b) : slt a ≤ slt b := by
  obtain ⟨k, rfl⟩ := Nat.exists_eq_add_of_le h
  exact slt_le a k
/-- the words of the tables that ride into every method -/
def hgd : List Cond := lw_tbl.filter goodWord
theorem hgd_at {w : Cond} (i : Nat) (h : lw_tbl[i]? = some w) (hg : goodWord w = true) : w ∈ hgd := List.mem_filter.mpr ⟨List.mem_of_getElem? h, hg⟩
abbrev hYd : Type := MethodName × ByteArray × Nat × Option FieldType × Nat
abbrev hws (y : hYd) : List Cond := .code y.1 y.2.1 y.2.2.1 y.2.2.2.1 :: hgd
abbrev hrm (y : hYd) (k s : Nat) : Room := { frames := y.2.2.2.2, cells := k, slots := s, locals := 34 * y.2.2.2.2 }
abbrev hQc (z : hZt) (n2 : Nat) (v : Option Value) (M2 : hMem) (R2 : hRef) : Array Value → State → Outcome → State → Prop := fun _ st oc t => oc = .returned v ∧ Wo z n2 M2 R2 t ∧ va_F (hA z) st t
/-- a method's contract: from the memory M it returns v, and leaves the memory M2 -/
def hCt (l : Launch) (z : hZt) (y : hYd) (av : List Value) (n : Nat) (M : hMem) (R : hRef) (n2 : Nat) (v : Option Value) (M2 : hMem) (R2 : hRef) : Prop :=
  Met l y.1 (hws y) (hrm y (n2 - n) (slt n2 - slt n)) (va_Pc av (Wo z n M R)) (hQc z n2 v M2 R2) (n2 - n) (slt n2 - slt n) (hA z)
abbrev hXt : Type := (Program × Launch × Env × Room × State × MethodId × Array Value) × (List Frame × Method × Code) × (State → Prop)
abbrev Wx (X : hXt) (H : Heap) (locs : List Loc) (ce sl : Nat) (g : JFrame) : Prop := W X.1.1 X.1.2.1 X.1.2.2.1 X.1.2.2.2.1 X.1.2.2.2.2.1 X.1.2.2.2.2.2.1 X.1.2.2.2.2.2.2 X.2.1.1 X.2.1.2.1 X.2.1.2.2 H locs ce sl X.2.2 g
def lh (ls : Array Slot) (L : List (Option Value)) : Prop := ls.size = L.length ∧ lv_wf ls ∧ ∀ (i : Nat) (v : Value), L[i]? = some (some v) → ls[i]? = some (.val v)
/-- the walk stands at pc, with the locals L and the stack st, over the memory M of n cells -/
def hG (z : hZt) (n0 : Nat) (X : hXt) (n : Nat) (M : hMem) (R : hRef) (pc : Nat) (L : List (Option Value)) (st : List Value) : Prop :=
  ∀ (H : Heap) (locs : List Loc) (ls : Array Slot), Hp z n M R H → va_S (hA z) X.1.2.2.2.2.1.heap H locs → lh ls L →
    Wx X H locs (n - n0) (slt n - slt n0) (F0 X.1.2.2.2.2.2.1 pc ls st)
def hOk (z : hZt) (n0 : Nat) (X : hXt) (cc : ByteArray) (own : String) (nL d nm : Nat) : Prop :=
  X.1.1.tables.exec = Jvm.exec ∧ X.2.1.2.2.code = cc ∧ X.2.1.2.2.maxLocals = nL ∧ X.1.2.2.2.2.1.vm.findClass own = some X.1.2.2.2.2.2.1.cls ∧
  (∀ w ∈ hgd, w.before X.1.2.2.2.2.2.2 X.1.2.2.2.2.1 = true) ∧ Fx z X.1.2.2.2.2.1 X.1.2.2.2.2.1.heap ∧ d ≤ X.1.2.2.2.1.frames ∧ 34 * d ≤ X.1.2.2.2.1.locals ∧
  X.1.2.2.2.2.1.heap.size = z.1 + n0 ∧ n0 ≤ nm ∧ nm - n0 ≤ X.1.2.2.2.1.cells ∧ slt nm - slt n0 ≤ X.1.2.2.2.1.slots
/-- what the walk has to come to -/
def hRq (z : hZt) (n0 : Nat) (X : hXt) (n2 : Nat) (v : Option Value) (M2 : hMem) (R2 : hRef) (rt : Option FieldType) : Prop :=
  X.2.2 = MQ X.2.1.1 (hQc z n2 v M2 R2) X.1.2.2.2.2.2.2 X.1.2.2.2.2.1 (n2 - n0) (slt n2 - slt n0) (hA z) ∧ X.2.1.2.1.sig.returnType = rt ∧ X.2.1.2.1.locks = false
end
section
section HR
variable {z : hZt} {n0 n nm nL d pc i k : Nat} {X : hXt} {cc : ByteArray} {own : String} {M M' M2 : hMem} {R R' R2 : hRef} {L L' : List (Option Value)} {st : List Value} {x y v : Int32} {a b : Int64} {w w2 : Value} {tgt : Nat} {off : Int}
theorem gx_iconst (hC : hOk z n0 X cc own nL d nm) {c : Int} (hd : decode cc pc = .ok (.iconst c, 1)) (hv : Int32.ofInt c = v) (k : hG z n0 X n M R (pc + 1) L (.int v :: st)) : hG z n0 X n M R pc L st :=
  fun H locs ls h1 h2 h3 => lv_iconst hC.1 hC.2.1 hd hv (k H locs ls h1 h2 h3)
theorem gx_bipush (hC : hOk z n0 X cc own nL d nm) {c : Int} (hd : decode cc pc = .ok (.bipush c, 2)) (hv : (Int8.ofInt c).toInt32 = v) (k : hG z n0 X n M R (pc + 2) L (.int v :: st)) : hG z n0 X n M R pc L st :=
  fun H locs ls h1 h2 h3 => lv_bipush hC.1 hC.2.1 hd hv (k H locs ls h1 h2 h3)
theorem gx_sipush (hC : hOk z n0 X cc own nL d nm) {c : Int} (hd : decode cc pc = .ok (.sipush c, 3)) (hv : (Int16.ofInt c).toInt32 = v) (k : hG z n0 X n M R (pc + 3) L (.int v :: st)) : hG z n0 X n M R pc L st :=
  fun H locs ls h1 h2 h3 => lv_sipush hC.1 hC.2.1 hd hv (k H locs ls h1 h2 h3)
theorem gx_aconst_null (hC : hOk z n0 X cc own nL d nm) (hd : decode cc pc = .ok (.aconst_null, 1)) (k : hG z n0 X n M R (pc + 1) L (.null :: st)) : hG z n0 X n M R pc L st :=
  fun H locs ls h1 h2 h3 => lv_null hC.1 hC.2.1 hd (k H locs ls h1 h2 h3)
theorem gx_ldc2_w (hC : hOk z n0 X cc own nL d nm) {c : Nat} (hd : decode cc pc = .ok (.ldc2_w c, 3)) (hw : Cond.constantLong own c a ∈ hgd) (k : hG z n0 X n M R (pc + 3) L (.long a :: st)) : hG z n0 X n M R pc L st :=
  fun H locs ls h1 h2 h3 => lv_ldc2 hC.1 hC.2.1 hC.2.2.2.1 (hC.2.2.2.2.1 _ hw) hd (k H locs ls h1 h2 h3)
theorem gx_iload_n (hC : hOk z n0 X cc own nL d nm) {f : Fin 4} (hd : decode cc pc = .ok (.iload_n f, 1)) (hf : (f : Nat) = i) (hl : L[i]? = some (some (.int x))) (k : hG z n0 X n M R (pc + 1) L (.int x :: st)) : hG z n0 X n M R pc L st :=
  fun H locs ls h1 h2 h3 => lv_iload_n hC.1 hC.2.1 hd hf (h3.2.2 _ _ hl) (k H locs ls h1 h2 h3)
theorem gx_iload (hC : hOk z n0 X cc own nL d nm) (hd : decode cc pc = .ok (.iload i, 2)) (hl : L[i]? = some (some (.int x))) (k : hG z n0 X n M R (pc + 2) L (.int x :: st)) : hG z n0 X n M R pc L st :=
  fun H locs ls h1 h2 h3 => lv_iload hC.1 hC.2.1 hd (h3.2.2 _ _ hl) (k H locs ls h1 h2 h3)
theorem gx_lload_n (hC : hOk z n0 X cc own nL d nm) {f : Fin 4} (hd : decode cc pc = .ok (.lload_n f, 1)) (hf : (f : Nat) = i) (hl : L[i]? = some (some (.long a))) (k : hG z n0 X n M R (pc + 1) L (.long a :: st)) : hG z n0 X n M R pc L st :=
  fun H locs ls h1 h2 h3 => lv_lload_n hC.1 hC.2.1 hd hf (h3.2.2 _ _ hl) (k H locs ls h1 h2 h3)
def isR (w : Value) : Prop := w = .null ∨ ∃ q, w = .ref q
theorem kv_isR {ek : Nat → Nat} {x : Int32} : isR (kv ek x) := by unfold kv; split; exact Or.inr ⟨_, rfl⟩; split; exact Or.inr ⟨_, rfl⟩; split; exact Or.inr ⟨_, rfl⟩; exact Or.inl rfl
theorem rv_isR {B o : Nat} : isR (rv B o) := by unfold rv; split; exact Or.inl rfl; exact Or.inr ⟨_, rfl⟩
theorem isR_cat {w : Value} (h : isR w) : w.category = 1 := by rcases h with rfl | ⟨q, rfl⟩ <;> rfl
theorem gx_aload_n (hC : hOk z n0 X cc own nL d nm) {f : Fin 4} (hd : decode cc pc = .ok (.aload_n f, 1)) (hf : (f : Nat) = i) (hl : L[i]? = some (some w)) (hw : isR w) (k : hG z n0 X n M R (pc + 1) L (w :: st)) : hG z n0 X n M R pc L st :=
  fun H locs ls h1 h2 h3 => by
  rcases hw with rfl | ⟨q, rfl⟩
  · exact lv_aload_nN hC.1 hC.2.1 hd hf (h3.2.2 _ _ hl) (k H locs ls h1 h2 h3)
  · exact lv_aload_n hC.1 hC.2.1 hd hf (h3.2.2 _ _ hl) (k H locs ls h1 h2 h3)
theorem gx_aload (hC : hOk z n0 X cc own nL d nm) (hd : decode cc pc = .ok (.aload i, 2)) (hl : L[i]? = some (some w)) (hw : isR w) (k : hG z n0 X n M R (pc + 2) L (w :: st)) : hG z n0 X n M R pc L st :=
  fun H locs ls h1 h2 h3 => by
  rcases hw with rfl | ⟨q, rfl⟩
  · exact lv_aloadN hC.1 hC.2.1 hd (h3.2.2 _ _ hl) (k H locs ls h1 h2 h3)
  · exact lv_aload hC.1 hC.2.1 hd (h3.2.2 _ _ hl) (k H locs ls h1 h2 h3)
def lA (L : List (Option Value)) : List (Nat × Value) := (List.range L.length).filterMap fun i => (L[i]?.join).map fun v => (i, v)
theorem lA_mem {L : List (Option Value)} {q : Nat × Value} : q ∈ lA L ↔ L[q.1]? = some (some q.2) := by
  unfold lA
  rw [List.mem_filterMap]
  constructor
  · rintro ⟨i, -, h⟩
    obtain ⟨v, h1, rfl⟩ := Option.map_eq_some_iff.mp h
    exact Option.join_eq_some_iff.mp h1
  · intro h
    refine ⟨q.1, List.mem_range.mpr (List.getElem?_eq_some_iff.mp h).1, ?_⟩
    rw [h]; rfl
theorem lh_A {ls : Array Slot} {L : List (Option Value)} (h : lh ls L) : lv_has ls L.length (lA L) := ⟨h.1, h.2.1, fun q hq => h.2.2 _ _ (lA_mem.mp hq)⟩
theorem lh_st {ls : Array Slot} {L L' : List (Option Value)} {i : Nat} {w : Value} (hl : L.set i (some w) = L') (hc : ∀ u, L[i - 1]? = some (some u) → i = 0 ∨ u.category = 1)
    (h : lv_has ls L.length ((i, w) :: (lA L).filter (fun q => !(q.1 == i) && !(q.1 + 1 == i && q.2.category == 2)))) : lh ls L' := by
  subst hl
  refine ⟨by rw [List.length_set]; exact h.1, h.2.1, fun j v hj => ?_⟩
  by_cases e : j = i
  · subst e
    rw [List.getElem?_set_self (by have := (List.getElem?_eq_some_iff.mp hj).1; simpa using this)] at hj
    cases hj
    exact h.2.2 _ List.mem_cons_self
  · rw [List.getElem?_set_ne (Ne.symm e)] at hj
    refine h.2.2 (j, v) (List.mem_cons_of_mem _ (List.mem_filter.mpr ⟨lA_mem.mpr hj, ?_⟩))
    simp only [Bool.and_eq_true, Bool.not_eq_true', beq_eq_false_iff_ne, ne_eq, Bool.and_eq_false_iff]
    refine ⟨e, ?_⟩
    by_cases e2 : j + 1 = i
    · subst e2
      rcases hc v (by simpa using hj) with h0 | h0
      · omega
      · right; omega
    · exact Or.inl e2
theorem lh_st2 {ls : Array Slot} {L L' : List (Option Value)} {i : Nat} {w : Value} (hl : (L.set i (some w)).set (i + 1) none = L') (hc : ∀ u, L[i - 1]? = some (some u) → i = 0 ∨ u.category = 1)
    (h : lv_has ls L.length ((i, w) :: (lA L).filter (fun q => !(q.1 == i) && (!(q.1 == i + 1) && !(q.1 + 1 == i && q.2.category == 2))))) : lh ls L' := by
  subst hl
  refine ⟨by rw [List.length_set, List.length_set]; exact h.1, h.2.1, fun j v hj => ?_⟩
  by_cases e1 : j = i + 1
  · subst e1
    have hlen := (List.getElem?_eq_some_iff.mp hj).1
    rw [List.getElem?_set_self (by simpa using hlen)] at hj
    cases hj
  rw [List.getElem?_set_ne (Ne.symm e1)] at hj
  by_cases e : j = i
  · subst e
    rw [List.getElem?_set_self (by have := (List.getElem?_eq_some_iff.mp hj).1; simpa using this)] at hj
    cases hj
    exact h.2.2 _ List.mem_cons_self
  · rw [List.getElem?_set_ne (Ne.symm e)] at hj
    refine h.2.2 (j, v) (List.mem_cons_of_mem _ (List.mem_filter.mpr ⟨lA_mem.mpr hj, ?_⟩))
    simp only [Bool.and_eq_true, Bool.not_eq_true', beq_eq_false_iff_ne, ne_eq, Bool.and_eq_false_iff]
    refine ⟨e, e1, ?_⟩
    by_cases e2 : j + 1 = i
    · subst e2
      rcases hc v (by simpa using hj) with h0 | h0
      · omega
      · right; omega
    · exact Or.inl e2
theorem gx_istore_n (hC : hOk z n0 X cc own nL d nm) {f : Fin 4} (hd : decode cc pc = .ok (.istore_n f, 1)) (hf : (f : Nat) = i) (hi : i < L.length) (hl : L.set i (some (.int x)) = L') (hc : ∀ u, L[i - 1]? = some (some u) → i = 0 ∨ u.category = 1) (k : hG z n0 X n M R (pc + 1) L' st) : hG z n0 X n M R pc L (.int x :: st) :=
  fun H locs ls h1 h2 h3 => lv_istore_n hC.1 hC.2.1 hd hf (lh_A h3) hi rfl (fun ls' h9 => k H locs ls' h1 h2 (lh_st hl hc h9))
theorem gx_istore (hC : hOk z n0 X cc own nL d nm) (hd : decode cc pc = .ok (.istore i, 2)) (hi : i < L.length) (hl : L.set i (some (.int x)) = L') (hc : ∀ u, L[i - 1]? = some (some u) → i = 0 ∨ u.category = 1) (k : hG z n0 X n M R (pc + 2) L' st) : hG z n0 X n M R pc L (.int x :: st) :=
  fun H locs ls h1 h2 h3 => lv_istore hC.1 hC.2.1 hd (lh_A h3) hi rfl (fun ls' h9 => k H locs ls' h1 h2 (lh_st hl hc h9))
theorem gx_astore_n (hC : hOk z n0 X cc own nL d nm) {f : Fin 4} (hd : decode cc pc = .ok (.astore_n f, 1)) (hf : (f : Nat) = i) (hi : i < L.length) (hl : L.set i (some w) = L') (hc : ∀ u, L[i - 1]? = some (some u) → i = 0 ∨ u.category = 1) (hw : isR w) (k : hG z n0 X n M R (pc + 1) L' st) : hG z n0 X n M R pc L (w :: st) :=
  fun H locs ls h1 h2 h3 => by
  rcases hw with rfl | ⟨q, rfl⟩
  · exact lv_astore_nN hC.1 hC.2.1 hd hf (lh_A h3) hi rfl (fun ls' h9 => k H locs ls' h1 h2 (lh_st hl hc h9))
  · exact lv_astore_n hC.1 hC.2.1 hd hf (lh_A h3) hi rfl (fun ls' h9 => k H locs ls' h1 h2 (lh_st hl hc h9))
theorem gx_astore (hC : hOk z n0 X cc own nL d nm) (hd : decode cc pc = .ok (.astore i, 2)) (hi : i < L.length) (hl : L.set i (some w) = L') (hc : ∀ u, L[i - 1]? = some (some u) → i = 0 ∨ u.category = 1) (hw : isR w) (k : hG z n0 X n M R (pc + 2) L' st) : hG z n0 X n M R pc L (w :: st) :=
  fun H locs ls h1 h2 h3 => by
  rcases hw with rfl | ⟨q, rfl⟩
  · exact lv_astoreN hC.1 hC.2.1 hd (lh_A h3) hi rfl (fun ls' h9 => k H locs ls' h1 h2 (lh_st hl hc h9))
  · exact lv_astore hC.1 hC.2.1 hd (lh_A h3) hi rfl (fun ls' h9 => k H locs ls' h1 h2 (lh_st hl hc h9))
theorem gx_lstore_n (hC : hOk z n0 X cc own nL d nm) {f : Fin 4} (hd : decode cc pc = .ok (.lstore_n f, 1)) (hf : (f : Nat) = i) (hi : i + 1 < L.length) (hl : (L.set i (some (.long a))).set (i + 1) none = L') (hc : ∀ u, L[i - 1]? = some (some u) → i = 0 ∨ u.category = 1) (k : hG z n0 X n M R (pc + 1) L' st) : hG z n0 X n M R pc L (.long a :: st) :=
  fun H locs ls h1 h2 h3 => lv_lstore_n hC.1 hC.2.1 hd hf (lh_A h3) hi rfl (fun ls' h9 => k H locs ls' h1 h2 (lh_st2 hl hc h9))
theorem lA_get {L : List (Option Value)} {i : Nat} {w : Value} (h : L[i]? = some (some w)) : ∃ k : Nat, (lA L)[k]? = some (i, w) := List.getElem?_of_mem (lA_mem.mpr h)
theorem gx_iinc (hC : hOk z n0 X cc own nL d nm) {c : Int} (hd : decode cc pc = .ok (.iinc i c, 3)) (hg : L[i]? = some (some (.int x))) (hv : x + Int32.ofInt c = v) (hi : i < L.length) (hl : L.set i (some (.int v)) = L') (hc : ∀ u, L[i - 1]? = some (some u) → i = 0 ∨ u.category = 1) (k : hG z n0 X n M R (pc + 3) L' st) : hG z n0 X n M R pc L st :=
  fun H locs ls h1 h2 h3 => (lA_get hg).elim fun j hj => lv_iinc hC.1 hC.2.1 hd (lh_A h3) hj hv hi rfl (fun ls' h9 => k H locs ls' h1 h2 (lh_st hl hc h9))
theorem gx_iadd (hC : hOk z n0 X cc own nL d nm) (hd : decode cc pc = .ok (.iadd, 1)) (k : hG z n0 X n M R (pc + 1) L (.int (x + y) :: st)) : hG z n0 X n M R pc L (.int y :: .int x :: st) :=
  fun H locs ls h1 h2 h3 => lv_iadd hC.1 hC.2.1 hd (k H locs ls h1 h2 h3)
theorem gx_isub (hC : hOk z n0 X cc own nL d nm) (hd : decode cc pc = .ok (.isub, 1)) (k : hG z n0 X n M R (pc + 1) L (.int (x - y) :: st)) : hG z n0 X n M R pc L (.int y :: .int x :: st) :=
  fun H locs ls h1 h2 h3 => lv_isub hC.1 hC.2.1 hd (k H locs ls h1 h2 h3)
theorem gx_imul (hC : hOk z n0 X cc own nL d nm) (hd : decode cc pc = .ok (.imul, 1)) (k : hG z n0 X n M R (pc + 1) L (.int (x * y) :: st)) : hG z n0 X n M R pc L (.int y :: .int x :: st) :=
  fun H locs ls h1 h2 h3 => lv_imul hC.1 hC.2.1 hd (k H locs ls h1 h2 h3)
theorem gx_iand (hC : hOk z n0 X cc own nL d nm) (hd : decode cc pc = .ok (.iand, 1)) (k : hG z n0 X n M R (pc + 1) L (.int (x &&& y) :: st)) : hG z n0 X n M R pc L (.int y :: .int x :: st) :=
  fun H locs ls h1 h2 h3 => lv_iand hC.1 hC.2.1 hd (k H locs ls h1 h2 h3)
theorem gx_idiv (hC : hOk z n0 X cc own nL d nm) (hd : decode cc pc = .ok (.idiv, 1)) (hne : ¬ y = 0) (k : hG z n0 X n M R (pc + 1) L (.int (x / y) :: st)) : hG z n0 X n M R pc L (.int y :: .int x :: st) :=
  fun H locs ls h1 h2 h3 => lv_idiv hC.1 hC.2.1 hd hne (k H locs ls h1 h2 h3)
theorem gx_ladd (hC : hOk z n0 X cc own nL d nm) (hd : decode cc pc = .ok (.ladd, 1)) (k : hG z n0 X n M R (pc + 1) L (.long (a + b) :: st)) : hG z n0 X n M R pc L (.long b :: .long a :: st) :=
  fun H locs ls h1 h2 h3 => lv_ladd hC.1 hC.2.1 hd (k H locs ls h1 h2 h3)
theorem gx_lmul (hC : hOk z n0 X cc own nL d nm) (hd : decode cc pc = .ok (.lmul, 1)) (k : hG z n0 X n M R (pc + 1) L (.long (a * b) :: st)) : hG z n0 X n M R pc L (.long b :: .long a :: st) :=
  fun H locs ls h1 h2 h3 => lv_lmul hC.1 hC.2.1 hd (k H locs ls h1 h2 h3)
theorem gx_i2l (hC : hOk z n0 X cc own nL d nm) (hd : decode cc pc = .ok (.i2l, 1)) (k : hG z n0 X n M R (pc + 1) L (.long x.toInt64 :: st)) : hG z n0 X n M R pc L (.int x :: st) :=
  fun H locs ls h1 h2 h3 => lv_i2l hC.1 hC.2.1 hd rfl (k H locs ls h1 h2 h3)
theorem gx_i2c (hC : hOk z n0 X cc own nL d nm) (hd : decode cc pc = .ok (.i2c, 1)) (hv : (x.toUInt32 % 65536).toInt32 = v) (k : hG z n0 X n M R (pc + 1) L (.int v :: st)) : hG z n0 X n M R pc L (.int x :: st) :=
  fun H locs ls h1 h2 h3 => lv_i2c hC.1 hC.2.1 hd (by first | exact hv | (rw [← hv]; rfl) | (rw [← pk_vc]; exact hv)) (k H locs ls h1 h2 h3)
theorem gx_dup (hC : hOk z n0 X cc own nL d nm) (hd : decode cc pc = .ok (.dup, 1)) (hw : w.category = 1) (k : hG z n0 X n M R (pc + 1) L (w :: w :: st)) : hG z n0 X n M R pc L (w :: st) :=
  fun H locs ls h1 h2 h3 => lv_dup hC.1 hC.2.1 hd hw (k H locs ls h1 h2 h3)
theorem gx_pop (hC : hOk z n0 X cc own nL d nm) (hd : decode cc pc = .ok (.pop, 1)) (hw : w.category = 1) (k : hG z n0 X n M R (pc + 1) L st) : hG z n0 X n M R pc L (w :: st) :=
  fun H locs ls h1 h2 h3 => lv_pop hC.1 hC.2.1 hd hw (k H locs ls h1 h2 h3)
theorem gx_dup2 (hC : hOk z n0 X cc own nL d nm) (hd : decode cc pc = .ok (.dup2, 1)) (hw : w.category = 1) (hw2 : w2.category = 1) (k : hG z n0 X n M R (pc + 1) L (w :: w2 :: w :: w2 :: st)) : hG z n0 X n M R pc L (w :: w2 :: st) :=
  fun H locs ls h1 h2 h3 => lv_dup2_11 hC.1 hC.2.1 hd hw hw2 (k H locs ls h1 h2 h3)
theorem gx_if_eq (hC : hOk z n0 X cc own nL d nm) (hd : decode cc pc = .ok (.ifCond .eq off, 3)) (ht : (pc : Int) + off = (tgt : Int)) (kt : x = 0 → hG z n0 X n M R tgt L st) (kf : ¬ x = 0 → hG z n0 X n M R (pc + 3) L st) : hG z n0 X n M R pc L (.int x :: st) :=
  fun H locs ls h1 h2 h3 => lv_if_eq hC.1 hC.2.1 hd ht (fun c => kt c H locs ls h1 h2 h3) (fun c => kf c H locs ls h1 h2 h3)
theorem gx_icmp_eq (hC : hOk z n0 X cc own nL d nm) (hd : decode cc pc = .ok (.if_icmp .eq off, 3)) (ht : (pc : Int) + off = (tgt : Int)) (kt : x = y → hG z n0 X n M R tgt L st) (kf : ¬ x = y → hG z n0 X n M R (pc + 3) L st) : hG z n0 X n M R pc L (.int y :: .int x :: st) :=
  fun H locs ls h1 h2 h3 => lv_icmp_eq hC.1 hC.2.1 hd ht (fun c => kt c H locs ls h1 h2 h3) (fun c => kf c H locs ls h1 h2 h3)
theorem gx_if_ne (hC : hOk z n0 X cc own nL d nm) (hd : decode cc pc = .ok (.ifCond .ne off, 3)) (ht : (pc : Int) + off = (tgt : Int)) (kt : ¬ x = 0 → hG z n0 X n M R tgt L st) (kf : x = 0 → hG z n0 X n M R (pc + 3) L st) : hG z n0 X n M R pc L (.int x :: st) :=
  fun H locs ls h1 h2 h3 => lv_if_ne hC.1 hC.2.1 hd ht (fun c => kt c H locs ls h1 h2 h3) (fun c => kf c H locs ls h1 h2 h3)
theorem gx_icmp_ne (hC : hOk z n0 X cc own nL d nm) (hd : decode cc pc = .ok (.if_icmp .ne off, 3)) (ht : (pc : Int) + off = (tgt : Int)) (kt : ¬ x = y → hG z n0 X n M R tgt L st) (kf : x = y → hG z n0 X n M R (pc + 3) L st) : hG z n0 X n M R pc L (.int y :: .int x :: st) :=
  fun H locs ls h1 h2 h3 => lv_icmp_ne hC.1 hC.2.1 hd ht (fun c => kt c H locs ls h1 h2 h3) (fun c => kf c H locs ls h1 h2 h3)
theorem gx_if_lt (hC : hOk z n0 X cc own nL d nm) (hd : decode cc pc = .ok (.ifCond .lt off, 3)) (ht : (pc : Int) + off = (tgt : Int)) (kt : x < 0 → hG z n0 X n M R tgt L st) (kf : ¬ x < 0 → hG z n0 X n M R (pc + 3) L st) : hG z n0 X n M R pc L (.int x :: st) :=
  fun H locs ls h1 h2 h3 => lv_if_lt hC.1 hC.2.1 hd ht (fun c => kt c H locs ls h1 h2 h3) (fun c => kf c H locs ls h1 h2 h3)
theorem gx_icmp_lt (hC : hOk z n0 X cc own nL d nm) (hd : decode cc pc = .ok (.if_icmp .lt off, 3)) (ht : (pc : Int) + off = (tgt : Int)) (kt : x < y → hG z n0 X n M R tgt L st) (kf : ¬ x < y → hG z n0 X n M R (pc + 3) L st) : hG z n0 X n M R pc L (.int y :: .int x :: st) :=
  fun H locs ls h1 h2 h3 => lv_icmp_lt hC.1 hC.2.1 hd ht (fun c => kt c H locs ls h1 h2 h3) (fun c => kf c H locs ls h1 h2 h3)
theorem gx_if_ge (hC : hOk z n0 X cc own nL d nm) (hd : decode cc pc = .ok (.ifCond .ge off, 3)) (ht : (pc : Int) + off = (tgt : Int)) (kt : 0 ≤ x → hG z n0 X n M R tgt L st) (kf : ¬ 0 ≤ x → hG z n0 X n M R (pc + 3) L st) : hG z n0 X n M R pc L (.int x :: st) :=
  fun H locs ls h1 h2 h3 => lv_if_ge hC.1 hC.2.1 hd ht (fun c => kt c H locs ls h1 h2 h3) (fun c => kf c H locs ls h1 h2 h3)
theorem gx_icmp_ge (hC : hOk z n0 X cc own nL d nm) (hd : decode cc pc = .ok (.if_icmp .ge off, 3)) (ht : (pc : Int) + off = (tgt : Int)) (kt : y ≤ x → hG z n0 X n M R tgt L st) (kf : ¬ y ≤ x → hG z n0 X n M R (pc + 3) L st) : hG z n0 X n M R pc L (.int y :: .int x :: st) :=
  fun H locs ls h1 h2 h3 => lv_icmp_ge hC.1 hC.2.1 hd ht (fun c => kt c H locs ls h1 h2 h3) (fun c => kf c H locs ls h1 h2 h3)
theorem gx_if_gt (hC : hOk z n0 X cc own nL d nm) (hd : decode cc pc = .ok (.ifCond .gt off, 3)) (ht : (pc : Int) + off = (tgt : Int)) (kt : 0 < x → hG z n0 X n M R tgt L st) (kf : ¬ 0 < x → hG z n0 X n M R (pc + 3) L st) : hG z n0 X n M R pc L (.int x :: st) :=
  fun H locs ls h1 h2 h3 => lv_if_gt hC.1 hC.2.1 hd ht (fun c => kt c H locs ls h1 h2 h3) (fun c => kf c H locs ls h1 h2 h3)
theorem gx_icmp_gt (hC : hOk z n0 X cc own nL d nm) (hd : decode cc pc = .ok (.if_icmp .gt off, 3)) (ht : (pc : Int) + off = (tgt : Int)) (kt : y < x → hG z n0 X n M R tgt L st) (kf : ¬ y < x → hG z n0 X n M R (pc + 3) L st) : hG z n0 X n M R pc L (.int y :: .int x :: st) :=
  fun H locs ls h1 h2 h3 => lv_icmp_gt hC.1 hC.2.1 hd ht (fun c => kt c H locs ls h1 h2 h3) (fun c => kf c H locs ls h1 h2 h3)
theorem gx_if_le (hC : hOk z n0 X cc own nL d nm) (hd : decode cc pc = .ok (.ifCond .le off, 3)) (ht : (pc : Int) + off = (tgt : Int)) (kt : x ≤ 0 → hG z n0 X n M R tgt L st) (kf : ¬ x ≤ 0 → hG z n0 X n M R (pc + 3) L st) : hG z n0 X n M R pc L (.int x :: st) :=
  fun H locs ls h1 h2 h3 => lv_if_le hC.1 hC.2.1 hd ht (fun c => kt c H locs ls h1 h2 h3) (fun c => kf c H locs ls h1 h2 h3)
theorem gx_icmp_le (hC : hOk z n0 X cc own nL d nm) (hd : decode cc pc = .ok (.if_icmp .le off, 3)) (ht : (pc : Int) + off = (tgt : Int)) (kt : x ≤ y → hG z n0 X n M R tgt L st) (kf : ¬ x ≤ y → hG z n0 X n M R (pc + 3) L st) : hG z n0 X n M R pc L (.int y :: .int x :: st) :=
  fun H locs ls h1 h2 h3 => lv_icmp_le hC.1 hC.2.1 hd ht (fun c => kt c H locs ls h1 h2 h3) (fun c => kf c H locs ls h1 h2 h3)
def b2 (e : Bool) : Int32 := match e with
  | true => 1
  | false => 0
theorem b2_0 {e : Bool} : b2 e = 0 ↔ e = false := by cases e <;> decide
theorem b2_bit (e : Bool) : b2 e = 0 ∨ b2 e = 1 := by cases e; exact Or.inl rfl; exact Or.inr rfl
theorem gx_ifb_eq (hC : hOk z n0 X cc own nL d nm) {e : Bool} (hd : decode cc pc = .ok (.ifCond .eq off, 3)) (ht : (pc : Int) + off = (tgt : Int)) (kt : e = false → hG z n0 X n M R tgt L st) (kf : e = true → hG z n0 X n M R (pc + 3) L st) : hG z n0 X n M R pc L (.int (b2 e) :: st) :=
  gx_if_eq hC hd ht (fun c => kt (b2_0.mp c)) (fun c => kf (by cases e; exact absurd rfl c; rfl))
theorem gx_ifb_ne (hC : hOk z n0 X cc own nL d nm) {e : Bool} (hd : decode cc pc = .ok (.ifCond .ne off, 3)) (ht : (pc : Int) + off = (tgt : Int)) (kt : e = true → hG z n0 X n M R tgt L st) (kf : e = false → hG z n0 X n M R (pc + 3) L st) : hG z n0 X n M R pc L (.int (b2 e) :: st) :=
  gx_if_ne hC hd ht (fun c => kt (by cases e; exact absurd rfl c; rfl)) (fun c => kf (by cases e; rfl; exact absurd c (by decide)))
theorem gx_goto (hC : hOk z n0 X cc own nL d nm) (hd : decode cc pc = .ok (.goto off, 3)) (ht : (pc : Int) + off = (tgt : Int)) (k : hG z n0 X n M R tgt L st) : hG z n0 X n M R pc L st :=
  fun H locs ls h1 h2 h3 => lv_goto hC.1 hC.2.1 hd ht (k H locs ls h1 h2 h3)
theorem gx_ifnull_ref (hC : hOk z n0 X cc own nL d nm) {q : Nat} (hd : decode cc pc = .ok (.ifnull off, 3)) (k : hG z n0 X n M R (pc + 3) L st) : hG z n0 X n M R pc L (.ref q :: st) :=
  fun H locs ls h1 h2 h3 => lv_ifnull hC.1 hC.2.1 hd (k H locs ls h1 h2 h3)
theorem gx_ifnull_null (hC : hOk z n0 X cc own nL d nm) (hd : decode cc pc = .ok (.ifnull off, 3)) (ht : (pc : Int) + off = (tgt : Int)) (k : hG z n0 X n M R tgt L st) : hG z n0 X n M R pc L (.null :: st) :=
  fun H locs ls h1 h2 h3 => lv_ifnullN hC.1 hC.2.1 hd ht (k H locs ls h1 h2 h3)
theorem gx_ifnonnull_ref (hC : hOk z n0 X cc own nL d nm) {q : Nat} (hd : decode cc pc = .ok (.ifnonnull off, 3)) (ht : (pc : Int) + off = (tgt : Int)) (k : hG z n0 X n M R tgt L st) : hG z n0 X n M R pc L (.ref q :: st) :=
  fun H locs ls h1 h2 h3 => lv_ifnonnull hC.1 hC.2.1 hd ht (k H locs ls h1 h2 h3)
theorem gx_ifnonnull_null (hC : hOk z n0 X cc own nL d nm) (hd : decode cc pc = .ok (.ifnonnull off, 3)) (k : hG z n0 X n M R (pc + 3) L st) : hG z n0 X n M R pc L (.null :: st) :=
  fun H locs ls h1 h2 h3 => lv_ifnonnullN hC.1 hC.2.1 hd (k H locs ls h1 h2 h3)
def hk (x : Int32) : Prop := x = 0 ∨ x = 1 ∨ x = 2
theorem kv_some {ek : Nat → Nat} {x : Int32} (h : hk x) : ∃ j, j < 3 ∧ x = nI j ∧ kv ek x = .ref (ek j) := by
  rcases h with rfl | rfl | rfl
  · exact ⟨0, by decide, rfl, by simp [kv]⟩
  · exact ⟨1, by decide, rfl, by simp [kv]⟩
  · exact ⟨2, by decide, rfl, by simp [kv]⟩
theorem kv_none {ek : Nat → Nat} {x : Int32} (h : ¬ hk x) : kv ek x = .null := by
  unfold hk at h
  have h1 : ¬ x = 0 := fun e => h (Or.inl e)
  have h2 : ¬ x = 1 := fun e => h (Or.inr (Or.inl e))
  have h3 : ¬ x = 2 := fun e => h (Or.inr (Or.inr e))
  simp [kv, h1, h2, h3]
theorem gx_ifnull_kv (hC : hOk z n0 X cc own nL d nm) (hd : decode cc pc = .ok (.ifnull off, 3)) (ht : (pc : Int) + off = (tgt : Int)) (kt : ¬ hk x → hG z n0 X n M R tgt L st) (kf : hk x → hG z n0 X n M R (pc + 3) L st) : hG z n0 X n M R pc L (kv z.2.1 x :: st) := by
  by_cases h : hk x
  · obtain ⟨j, -, -, e⟩ := kv_some (ek := z.2.1) h
    rw [e]; exact gx_ifnull_ref hC hd (kf h)
  · rw [kv_none h]; exact gx_ifnull_null hC hd ht (kt h)
theorem gx_ifnonnull_kv (hC : hOk z n0 X cc own nL d nm) (hd : decode cc pc = .ok (.ifnonnull off, 3)) (ht : (pc : Int) + off = (tgt : Int)) (kt : hk x → hG z n0 X n M R tgt L st) (kf : ¬ hk x → hG z n0 X n M R (pc + 3) L st) : hG z n0 X n M R pc L (kv z.2.1 x :: st) := by
  by_cases h : hk x
  · obtain ⟨j, -, -, e⟩ := kv_some (ek := z.2.1) h
    rw [e]; exact gx_ifnonnull_ref hC hd ht (kt h)
  · rw [kv_none h]; exact gx_ifnonnull_null hC hd (kf h)
end HR
end
section
/-! the memory's rows: fields, arrays, constants -/
theorem wl_get {z : hZt} {n : Nat} {M : hMem} {R : hRef} {k : Nat} {q : Nat × va_E} (h : (wl z n M R)[k]? = some q) : k < n ∧ q = (z.1 + k, ent z (ty k) (M k) (R k)) := by
  have hl : k < n := by
    have := (List.getElem?_eq_some_iff.mp h).1
    simpa [wl] using this
  refine ⟨hl, ?_⟩
  simp only [wl, List.getElem?_map, List.getElem?_range hl, Option.map_some, Option.some.injEq] at h
  exact h.symm
theorem wl_at {z : hZt} {n : Nat} {M : hMem} {R : hRef} {i : Nat} (h : i < n) : (wl z n M R)[i]? = some (z.1 + i, ent z (ty i) (M i) (R i)) := by
  simp [wl, List.getElem?_map, List.getElem?_range h]
theorem wl_len {z : hZt} {n : Nat} {M : hMem} {R : hRef} : (wl z n M R).length = n := by simp [wl]
theorem wl_set {z : hZt} {n : Nat} {M M' : hMem} {R R' : hRef} {i : Nat} {e : va_E} (h : i < n) (he : ent z (ty i) (M' i) (R' i) = e) (ho : ∀ j, j ≠ i → M' j = M j ∧ R' j = R j) :
    (wl z n M R).set i (z.1 + i, e) = wl z n M' R' := by
  apply List.ext_getElem?
  intro k
  by_cases hk : k = i
  · subst hk
    rw [List.getElem?_set_self (by rw [wl_len]; exact h), wl_at h, he]
  · rw [List.getElem?_set_ne (Ne.symm hk)]
    by_cases hkn : k < n
    · rw [wl_at hkn, wl_at hkn, (ho k hk).1, (ho k hk).2]
    · rw [List.getElem?_eq_none (by rw [wl_len]; omega), List.getElem?_eq_none (by rw [wl_len]; omega)]
theorem wl_D {z : hZt} {n : Nat} {M : hMem} {R : hRef} : va_D (hA z) (wl z n M R) := by
  refine ⟨fun i j p q hi hj e => ?_, fun k q hk => ?_⟩
  · rw [(wl_get hi).2, (wl_get hj).2] at e
    simp only at e
    omega
  · rw [(wl_get hk).2]
    show z.1 ≤ z.1 + k
    omega
theorem Fx.warm {z : hZt} {s U : State} {H : Heap} (hW : s.WarmedH U.vm) (h : Fx z s H) : Fx z U H :=
  ⟨h.1.moved hW.alike, h.2.1.moved hW.alike, h.2.2.1.warmM hW, h.2.2.2.1.moved hW.alike, h.2.2.2.2.moved hW.alike⟩
theorem Fx.kept {z : hZt} {U : State} {H H1 : Heap} (hq : ∀ a : Nat, a < H.size → ¬ hA z a → H1[a]? = H[a]?) (h : Fx z U H) : Fx z U H1 := ⟨h.1, h.2.1.kept hq, h.2.2⟩
theorem Fx.calling {z : hZt} {U : State} {H : Heap} (g : JFrame) (mk : MethodId) (a : Array Value) (h : Fx z U H) : Fx z (U.calling g mk a) H :=
  ⟨va_K.moved (u := U) (U := U.calling g mk a) (Vm.Alike.refl U.vm) h.1, va_En.moved (u := U) (U := U.calling g mk a) (Vm.Alike.refl U.vm) h.2.1, va_Nw.same (u := U) (U := U.calling g mk a) rfl rfl h.2.2.1,
    va_AO.moved (u := U) (U := U.calling g mk a) (Vm.Alike.refl U.vm) h.2.2.2.1, va_AO.moved (u := U) (U := U.calling g mk a) (Vm.Alike.refl U.vm) h.2.2.2.2⟩
theorem Wo.blind {z : hZt} {av : List Value} {n : Nat} {M : hMem} {R : hRef} : FrameBlind (va_Pc av (Wo z n M R)) := fun a U g mk q => ⟨q.1, Fx.calling g mk a q.2.1, q.2.2⟩
/-- a field of a class of ours: its place in the table, its link -/
def hFl (own : String) (idx ci k : Nat) : Prop := ∃ (C : String) (T : u_T) (N : Nat) (tt : Nat → FieldType), hcl[ci]? = some (C, T, N) ∧ N = hN ci ∧ k < N ∧ Cond.fieldLink own idx C (T k).2.1 (T k).2.2.1 ∈ hgd ∧ (∀ w ∈ u_ws C T N, w ∈ hgd) ∧
  (T k).1 = C ∧ (∀ j, j < N → parseFieldDescriptor (T j).2.2.1 = some (tt j)) ∧ (∀ a, a < N → ∀ b, b < N → a ≠ b → (T a).2.1 ≠ (T b).2.1) ∧
  (sty ci k = 0 → tt k = .int) ∧ (sty ci k = 1 → tt k = .boolean) ∧ (sty ci k = 2 → tt k = .char) ∧ (sty ci k = 3 → tt k = .object "HoldingStack$Kind") ∧ (sty ci k = 4 → (∃ c, tt k = .object c) ∨ ∃ c, tt k = .array c)
def hFin (ci k : Nat) : Prop := ∃ (C : String) (T : u_T) (N : Nat), hcl[ci]? = some (C, T, N) ∧ (T k).2.2.2 = true
def hNfin (ci k : Nat) : Prop := ∃ (C : String) (T : u_T) (N : Nat), hcl[ci]? = some (C, T, N) ∧ (T k).2.2.2 = false
theorem obv_at {z : hZt} {ci k : Nat} {f : Nat → Int32} {r : Nat → Nat} (hk : k < hN ci) : (obv z ci f r)[k]? = some (sv z (sty ci k) (f k) (r k)) := by
  simp [obv, List.getElem?_map, List.getElem?_range hk]
theorem obv_set {z : hZt} {ci k : Nat} {f f' : Nat → Int32} {r r' : Nat → Nat} {w : Value} (hk : k < hN ci) (hw : sv z (sty ci k) (f' k) (r' k) = w) (ho : ∀ j, j ≠ k → f' j = f j ∧ r' j = r j) :
    (obv z ci f r).set k w = obv z ci f' r' := by
  apply List.ext_getElem?
  intro j
  by_cases hj : j = k
  · subst hj
    rw [List.getElem?_set_self (by simpa [obv] using hk), obv_at hk, hw]
  · rw [List.getElem?_set_ne (Ne.symm hj)]
    by_cases hjn : j < hN ci
    · rw [obv_at hjn, obv_at hjn, (ho j hj).1, (ho j hj).2]
    · rw [List.getElem?_eq_none (by simp [obv]; omega), List.getElem?_eq_none (by simp [obv]; omega)]
def hAt (n i : Nat) (t : Nat × Nat) : Prop := i < n ∧ ty i = t
theorem up2_same {α : Type} {M : Nat → Nat → α} {a k : Nat} {x : α} : up2 M a k x a k = x := by simp [up2]
theorem up2_off {α : Type} {M : Nat → Nat → α} {a k b j : Nat} {x : α} (h : ¬ (b = a ∧ j = k)) : up2 M a k x b j = M b j := by simp [up2, h]
theorem up2_row {α : Type} {M : Nat → Nat → α} {a k b : Nat} {x : α} (h : b ≠ a) : up2 M a k x b = M b := by funext j; simp [up2, h]
theorem Wf_up {n : Nat} {M : hMem} {i k : Nat} {x : Int32} (h : Wf n M)
    (h0 : (ty i).1 = 0 → (sty (ty i).2 k = 1 → x = 0 ∨ x = 1) ∧ (sty (ty i).2 k = 2 → ∃ q, q < 65536 ∧ x = nI q)) (h2 : (ty i).1 = 2 → x = 0 ∨ x = 1) (h3 : (ty i).1 = 3 → ∃ q, q < 65536 ∧ x = nI q) : Wf n (up2 M i k x) := by
  intro j hj
  by_cases e : j = i
  · subst e
    have hw := h j hj
    refine ⟨fun t a ha => ?_, fun t a ha => ?_, fun t a ha => ?_⟩
    · by_cases ea : a = k
      · subst ea; rw [up2_same]; exact h0 t
      · rw [up2_off (fun q => ea q.2)]; exact hw.1 t a ha
    · by_cases ea : a = k
      · subst ea; rw [up2_same]; exact h2 t
      · rw [up2_off (fun q => ea q.2)]; exact hw.2.1 t a ha
    · by_cases ea : a = k
      · subst ea; rw [up2_same]; exact h3 t
      · rw [up2_off (fun q => ea q.2)]; exact hw.2.2 t a ha
  · rw [up2_row e]; exact h j hj
theorem ent_ob {z : hZt} {t : Nat × Nat} {ci : Nat} {f : Nat → Int32} {r : Nat → Nat} (h : t = (0, ci)) : ent z t f r = .inr (ci, obv z ci f r) := by subst h; rfl
theorem ent_ar {z : hZt} {t : Nat × Nat} {a len : Nat} {f : Nat → Int32} {r : Nat → Nat} (h : t = (a, len)) (h0 : a ≠ 0) (h3 : a ≤ 3) : ent z t f r = .inl (z.2.2.2 a, len, .inl f) := by subst h; simp [ent, h0, h3]
theorem ent_rf {z : hZt} {t : Nat × Nat} {a len : Nat} {f : Nat → Int32} {r : Nat → Nat} (h : t = (a, len)) (h3 : 3 < a) : ent z t f r = .inl (z.2.2.2 a, len, .inr (.inr (.inr (.inr fun j => if r j = 0 then none else some (z.1 + r j))))) := by
  subst h
  simp [ent, show a ≠ 0 by omega, show ¬ a ≤ 3 by omega]
/-- the heap's size is known from the cells that were made -/
theorem W_size {p : Program} {l : Launch} {e : Env} {R9 : Room} {s : State} {m : MethodId} {args : Array Value} {below : List Frame} {meth : Method} {c : Code} {H : Heap} {locs : List Loc} {ce sl : Nat} {Q : State → Prop} {g : JFrame}
    {z : hZt} {n0 n : Nat} {M : hMem} {R : hRef} (h0 : s.heap.size = z.1 + n0) (hn : n0 ≤ n) (hce : ce = n - n0) (hP : va_P z.2.2.1 hcl (wl z n M R) H) (hS : va_S (hA z) s.heap H locs)
    (k : H.size = z.1 + n → W p l e R9 s m args below meth c H locs ce sl Q g) : W p l e R9 s m args below meth c H locs ce sl Q g := by
  intro T hT X
  have h1 := X.heapSize
  rw [hT] at h1
  have h2 := hS.1
  have h3 : z.1 + n ≤ H.size := by
    by_cases hz : n = 0
    · omega
    · have h4 := (hP (n - 1) _ (wl_at (z := z) (M := M) (R := R) (show n - 1 < n by omega))).lt
      simp only at h4
      omega
  exact k (by omega) T hT X
section HM
variable {z : hZt} {n0 n nm nL d pc i k ci idx len o : Nat} {X : hXt} {cc : ByteArray} {own : String} {M M' M2 : hMem} {R R' R2 : hRef} {L L' : List (Option Value)} {st : List Value} {x y v : Int32} {w : Value}
theorem gx_getv (hC : hOk z n0 X cc own nL d nm) (hd : decode cc pc = .ok (.getfield idx, 3)) (hF : hFl own idx ci k) (hat : hAt n i (0, ci)) (hv : sv z (sty ci k) (M i k) (R i k) = w)
    (kk : hG z n0 X n M R (pc + 3) L (w :: st)) : hG z n0 X n M R pc L (.ref (z.1 + i) :: st) := by
  intro H locs ls h1 h2 h3
  obtain ⟨C, T, N, tt, f1, f2, f3, f4, f5, f6, f7, f8, -⟩ := hF
  have hcell := wl_at (z := z) (M := M) (R := R) hat.1
  rw [ent_ob hat.2] at hcell
  exact va_get (own := own) (ref := C) hC.1 hC.2.1 hC.2.2.2.2.1 f5 hC.2.2.2.1 hC.2.2.2.2.2.1.1 h1.1 i hcell f1 k f3 (hC.2.2.2.2.1 _ f4) (fun x h => by rw [f6] at h; exact h)
    (v := w) (by rw [obv_at (by rw [← f2]; exact f3), hv]) hd (kk H locs ls h1 h2 h3)
theorem gx_getI (hC : hOk z n0 X cc own nL d nm) (hd : decode cc pc = .ok (.getfield idx, 3)) (hF : hFl own idx ci k) (hat : hAt n i (0, ci)) (hs : sty ci k < 3) (hv : M i k = v)
    (kk : hG z n0 X n M R (pc + 3) L (.int v :: st)) : hG z n0 X n M R pc L (.ref (z.1 + i) :: st) :=
  gx_getv hC hd hF hat (by subst hv; simp [sv, show sty ci k ≠ 4 by omega, show sty ci k ≠ 3 by omega]) kk
/-- a field that holds a truth value -/
theorem gx_getZ (hC : hOk z n0 X cc own nL d nm) (hd : decode cc pc = .ok (.getfield idx, 3)) (hF : hFl own idx ci k) (hat : hAt n i (0, ci)) (hs : sty ci k = 1) (hv : M i k = v)
    (kk : v = 0 ∨ v = 1 → hG z n0 X n M R (pc + 3) L (.int v :: st)) : hG z n0 X n M R pc L (.ref (z.1 + i) :: st) := by
  intro H locs ls h1 h2 h3
  have hb : v = 0 ∨ v = 1 := by
    have h := ((h1.2.2 i hat.1).1 (by rw [hat.2]))
    rw [hat.2] at h
    obtain ⟨C, T, N, tt, f1, f2, f3, -⟩ := hF
    rw [← hv]
    exact (h k (by rw [← f2]; exact f3)).1 hs
  exact gx_getI hC hd hF hat (by rw [hs]; decide) hv (kk hb) H locs ls h1 h2 h3
theorem gx_getC (hC : hOk z n0 X cc own nL d nm) (hd : decode cc pc = .ok (.getfield idx, 3)) (hF : hFl own idx ci k) (hat : hAt n i (0, ci)) (hs : sty ci k = 2) (hv : M i k = v)
    (kk : (∃ q, q < 65536 ∧ v = nI q) → hG z n0 X n M R (pc + 3) L (.int v :: st)) : hG z n0 X n M R pc L (.ref (z.1 + i) :: st) := by
  intro H locs ls h1 h2 h3
  have hb : ∃ q, q < 65536 ∧ v = nI q := by
    have h := ((h1.2.2 i hat.1).1 (by rw [hat.2]))
    rw [hat.2] at h
    obtain ⟨C, T, N, tt, f1, f2, f3, -⟩ := hF
    rw [← hv]
    exact (h k (by rw [← f2]; exact f3)).2 hs
  exact gx_getI hC hd hF hat (by rw [hs]; decide) hv (kk hb) H locs ls h1 h2 h3
theorem gx_getE (hC : hOk z n0 X cc own nL d nm) (hd : decode cc pc = .ok (.getfield idx, 3)) (hF : hFl own idx ci k) (hat : hAt n i (0, ci)) (hs : sty ci k = 3) (hv : M i k = v)
    (kk : hG z n0 X n M R (pc + 3) L (kv z.2.1 v :: st)) : hG z n0 X n M R pc L (.ref (z.1 + i) :: st) :=
  gx_getv hC hd hF hat (by subst hv; simp [sv, hs]) kk
theorem gx_getR (hC : hOk z n0 X cc own nL d nm) (hd : decode cc pc = .ok (.getfield idx, 3)) (hF : hFl own idx ci k) (hat : hAt n i (0, ci)) (hs : sty ci k = 4) (hv : R i k = o) (h0 : o ≠ 0)
    (kk : hG z n0 X n M R (pc + 3) L (.ref (z.1 + o) :: st)) : hG z n0 X n M R pc L (.ref (z.1 + i) :: st) :=
  gx_getv hC hd hF hat (by subst hv; simp [sv, hs, rv, h0]) kk
theorem narrow_int {x : Int32} : narrow .int (.int x) = .int x := rfl
theorem put_fit {ci k : Nat} {t : FieldType} {x : Int32} {o : Nat} (h0 : sty ci k = 0 → t = .int) (h1 : sty ci k = 1 → t = .boolean) (h2 : sty ci k = 2 → t = .char) (h3 : sty ci k = 3 → t = .object "HoldingStack$Kind") (h4 : sty ci k = 4 → (∃ c, t = .object c) ∨ ∃ c, t = .array c) (hlt : sty ci k < 5)
    (hb : sty ci k = 1 → x = 0 ∨ x = 1) (hc : sty ci k = 2 → ∃ q, q < 65536 ∧ x = nI q) : narrow t (sv z (sty ci k) x o) = sv z (sty ci k) x o ∧ fits t (sv z (sty ci k) x o) = true := by
  generalize hs : sty ci k = s at *
  match s, hlt with
  | 0, _ => rw [h0 rfl]; exact ⟨rfl, rfl⟩
  | 1, _ =>
    rw [h1 rfl]
    rcases hb rfl with rfl | rfl <;> exact ⟨rfl, rfl⟩
  | 2, _ =>
    rw [h2 rfl]
    obtain ⟨q, hq, rfl⟩ := hc rfl
    exact pk_charN hq
  | 3, _ =>
    rw [h3 rfl]
    show narrow _ (kv z.2.1 x) = kv z.2.1 x ∧ fits _ (kv z.2.1 x) = true
    rcases kv_isR (ek := z.2.1) (x := x) with e | ⟨q, e⟩ <;> rw [e] <;> exact ⟨rfl, rfl⟩
  | 4, _ =>
    show narrow _ (rv z.1 o) = rv z.1 o ∧ fits _ (rv z.1 o) = true
    rcases h4 rfl with ⟨c, rfl⟩ | ⟨c, rfl⟩ <;> rcases rv_isR (B := z.1) (o := o) with e | ⟨q, e⟩ <;> rw [e] <;> exact ⟨rfl, rfl⟩
theorem sty_lt (ci k : Nat) : sty ci k < 5 := by
  unfold sty
  split <;> decide
theorem gx_putv (hC : hOk z n0 X cc own nL d nm) (hd : decode cc pc = .ok (.putfield idx, 3)) (hF : hFl own idx ci k) (hat : hAt n i (0, ci)) (hnf : hNfin ci k) (hw : sv z (sty ci k) x o = w)
    (hb : sty ci k = 1 → x = 0 ∨ x = 1) (hc : sty ci k = 2 → ∃ q, q < 65536 ∧ x = nI q)
    (kk : hG z n0 X n (up2 M i k x) (up2 R i k o) (pc + 3) L st) : hG z n0 X n M R pc L (w :: .ref (z.1 + i) :: st) := by
  intro H locs ls h1 h2 h3
  subst hw
  obtain ⟨C, T, N, tt, f1, f2, f3, f4, f5, f6, f7, f8, g0, g1, g2, g3, g4⟩ := hF
  have hfin : (T k).2.2.2 = false := by
    obtain ⟨C', T', N', e1, e2⟩ := hnf
    cases f1.symm.trans e1
    exact e2
  have hcell := wl_at (z := z) (M := M) (R := R) hat.1
  rw [ent_ob hat.2] at hcell
  have hkN : k < hN ci := by rw [← f2]; exact f3
  have hfit := put_fit (z := z) (x := x) (o := o) g0 g1 g2 g3 g4 (sty_lt _ _) hb hc
  refine va_put (own := own) (ref := C) hC.1 hC.2.1 hC.2.2.2.2.1 f5 tt f7 f8 hC.2.2.2.1 hC.2.2.2.2.2.1.1 h1.1 wl_D h2 i hcell f1 k f3 (hC.2.2.2.2.1 _ f4) (fun x h => by rw [f6] at h; exact h)
    hfin (ty := tt k) (v := sv z (sty ci k) x o) (f7 k f3) hfit.1 hfit.2 (by simpa [obv] using hkN) hd (fun H1 locs1 hP _ hS => ?_)
  have he : (wl z n M R).set i (z.1 + i, .inr (ci, (obv z ci (M i) (R i)).set k (sv z (sty ci k) x o))) = wl z n (up2 M i k x) (up2 R i k o) := by
    refine wl_set hat.1 ?_ (fun j hj => ⟨up2_row hj, up2_row hj⟩)
    rw [ent_ob hat.2, obv_set hkN (by rw [up2_same, up2_same]) (fun j hj => ⟨up2_off (fun q => hj q.2), up2_off (fun q => hj q.2)⟩)]
  rw [he] at hP
  have hn : n0 ≤ n := by
    have a1 := h2.1
    have a2 := h1.2.1
    have a3 := hC.2.2.2.2.2.2.2.2.1
    omega
  refine W_size hC.2.2.2.2.2.2.2.2.1 hn rfl hP hS (fun hsz => ?_)
  exact kk H1 locs1 ls ⟨hP, hsz, Wf_up h1.2.2 (fun _ => by rw [hat.2]; exact ⟨hb, hc⟩) (fun t => by rw [hat.2] at t; cases t) (fun t => by rw [hat.2] at t; cases t)⟩ hS h3
end HM
end
section
/-! arrays, constants, kinds, new cells -/
section HM2
variable {z : hZt} {n0 n nm nL d pc i k ci idx len o : Nat} {X : hXt} {cc : ByteArray} {own : String} {M M' M2 : hMem} {R R' R2 : hRef} {L L' : List (Option Value)} {st : List Value} {x y v : Int32} {w : Value}
theorem tyl_at1 : (tyl z)[0]? = some (z.2.2.2 1, .int) := rfl
theorem tyl_at2 : (tyl z)[1]? = some (z.2.2.2 2, .boolean) := rfl
theorem tyl_at3 : (tyl z)[2]? = some (z.2.2.2 3, .char) := rfl
theorem tyl_at4 : (tyl z)[3]? = some (z.2.2.2 4, .object RX0) := rfl
theorem tyl_at5 : (tyl z)[4]? = some (z.2.2.2 5, .object RX4) := rfl
theorem hn_le (hC : hOk z n0 X cc own nL d nm) {H : Heap} {locs : List Loc} (h1 : Hp z n M R H) (h2 : va_S (hA z) X.1.2.2.2.2.1.heap H locs) : n0 ≤ n := by
  have a1 := h2.1
  have a2 := h1.2.1
  have a3 := hC.2.2.2.2.2.2.2.2.1
  omega
theorem gx_alen (hC : hOk z n0 X cc own nL d nm) (hd : decode cc pc = .ok (.arraylength, 1)) {a : Nat} (hat : hAt n i (a, len)) (ha : 1 ≤ a ∧ a ≤ 5) (hv : Int32.ofNat len = v)
    (kk : hG z n0 X n M R (pc + 1) L (.int v :: st)) : hG z n0 X n M R pc L (.ref (z.1 + i) :: st) := by
  intro H locs ls h1 h2 h3
  have hcell := wl_at (z := z) (M := M) (R := R) hat.1
  have hK := hC.2.2.2.2.2.1.1
  rcases (show a = 1 ∨ a = 2 ∨ a = 3 ∨ a = 4 ∨ a = 5 by omega) with rfl | rfl | rfl | rfl | rfl
  · rw [ent_ar hat.2 (by decide) (by decide)] at hcell
    exact va_alen hC.1 hC.2.1 hK h1.1 i 0 hcell tyl_at1 hv hd (kk H locs ls h1 h2 h3)
  · rw [ent_ar hat.2 (by decide) (by decide)] at hcell
    exact va_alen hC.1 hC.2.1 hK h1.1 i 1 hcell tyl_at2 hv hd (kk H locs ls h1 h2 h3)
  · rw [ent_ar hat.2 (by decide) (by decide)] at hcell
    exact va_alen hC.1 hC.2.1 hK h1.1 i 2 hcell tyl_at3 hv hd (kk H locs ls h1 h2 h3)
  · rw [ent_rf hat.2 (by decide)] at hcell
    exact va_alen hC.1 hC.2.1 hK h1.1 i 3 hcell tyl_at4 hv hd (kk H locs ls h1 h2 h3)
  · rw [ent_rf hat.2 (by decide)] at hcell
    exact va_alen hC.1 hC.2.1 hK h1.1 i 4 hcell tyl_at5 hv hd (kk H locs ls h1 h2 h3)
theorem gx_iald (hC : hOk z n0 X cc own nL d nm) (hd : decode cc pc = .ok (.iaload, 1)) (hat : hAt n i (1, len)) (hx : vp_in x len) (hv : M i x.toNatClampNeg = v)
    (kk : hG z n0 X n M R (pc + 1) L (.int v :: st)) : hG z n0 X n M R pc L (.int x :: .ref (z.1 + i) :: st) := by
  intro H locs ls h1 h2 h3
  have hcell := wl_at (z := z) (M := M) (R := R) hat.1
  rw [ent_ar hat.2 (by decide) (by decide)] at hcell
  subst hv
  exact va_iald hC.1 hC.2.1 hC.2.2.2.2.2.1.1 h1.1 i 0 hcell tyl_at1 hx hd (kk H locs ls h1 h2 h3)
theorem gx_zald (hC : hOk z n0 X cc own nL d nm) (hd : decode cc pc = .ok (.baload, 1)) (hat : hAt n i (2, len)) (hx : vp_in x len) (hv : M i x.toNatClampNeg = v)
    (kk : v = 0 ∨ v = 1 → hG z n0 X n M R (pc + 1) L (.int v :: st)) : hG z n0 X n M R pc L (.int x :: .ref (z.1 + i) :: st) := by
  intro H locs ls h1 h2 h3
  have hcell := wl_at (z := z) (M := M) (R := R) hat.1
  rw [ent_ar hat.2 (by decide) (by decide)] at hcell
  have hb := (h1.2.2 i hat.1).2.1
  rw [hat.2] at hb
  have hb := hb rfl x.toNatClampNeg (Nat.not_le.mp fun q => hx (Or.inr q))
  subst hv
  exact va_zald hC.1 hC.2.1 hC.2.2.2.2.2.1.1 h1.1 i 1 hcell tyl_at2 hx hd (kk hb H locs ls h1 h2 h3)
theorem gx_cald (hC : hOk z n0 X cc own nL d nm) (hd : decode cc pc = .ok (.caload, 1)) (hat : hAt n i (3, len)) (hx : vp_in x len) (hv : M i x.toNatClampNeg = v)
    (kk : (∃ q, q < 65536 ∧ v = nI q) → hG z n0 X n M R (pc + 1) L (.int v :: st)) : hG z n0 X n M R pc L (.int x :: .ref (z.1 + i) :: st) := by
  intro H locs ls h1 h2 h3
  have hcell := wl_at (z := z) (M := M) (R := R) hat.1
  rw [ent_ar hat.2 (by decide) (by decide)] at hcell
  have hb := (h1.2.2 i hat.1).2.2
  rw [hat.2] at hb
  have hb := hb rfl x.toNatClampNeg (Nat.not_le.mp fun q => hx (Or.inr q))
  subst hv
  exact va_cald hC.1 hC.2.1 hC.2.2.2.2.2.1.1 h1.1 i 2 hcell tyl_at3 hx hd (kk hb H locs ls h1 h2 h3)
theorem wl_arr {a : Nat} (hat : hAt n i (a, len)) (ha : a ≠ 0) (ha3 : a ≤ 3) : (wl z n M R).set i (z.1 + i, .inl (z.2.2.2 a, len, .inl (upd (M i) k v))) = wl z n (up2 M i k v) R := by
  refine wl_set hat.1 ?_ (fun j hj => ⟨up2_row hj, rfl⟩)
  rw [ent_ar hat.2 ha ha3]
  congr 4
  funext j
  by_cases hj : j = k
  · subst hj; rw [up2_same]; simp [upd]
  · rw [up2_off (fun q => hj q.2)]; simp [upd, hj]
theorem gx_iast (hC : hOk z n0 X cc own nL d nm) (hd : decode cc pc = .ok (.iastore, 1)) (hat : hAt n i (1, len)) (hx : vp_in x len)
    (kk : hG z n0 X n (up2 M i x.toNatClampNeg y) R (pc + 1) L st) : hG z n0 X n M R pc L (.int y :: .int x :: .ref (z.1 + i) :: st) := by
  intro H locs ls h1 h2 h3
  have hcell := wl_at (z := z) (M := M) (R := R) hat.1
  rw [ent_ar hat.2 (by decide) (by decide)] at hcell
  refine va_iast hC.1 hC.2.1 hC.2.2.2.2.2.1.1 h1.1 wl_D h2 i 0 hcell tyl_at1 hx hd (fun H1 locs1 hP _ hS => ?_)
  rw [wl_arr hat (by decide) (by decide)] at hP
  exact W_size hC.2.2.2.2.2.2.2.2.1 (hn_le hC h1 h2) rfl hP hS (fun hsz => kk H1 locs1 ls ⟨hP, hsz, Wf_up h1.2.2 (fun t => by rw [hat.2] at t; cases t) (fun t => by rw [hat.2] at t; cases t) (fun t => by rw [hat.2] at t; cases t)⟩ hS h3)
theorem gx_zast (hC : hOk z n0 X cc own nL d nm) (hd : decode cc pc = .ok (.bastore, 1)) (hat : hAt n i (2, len)) (hx : vp_in x len) (hy : y = 0 ∨ y = 1)
    (kk : hG z n0 X n (up2 M i x.toNatClampNeg y) R (pc + 1) L st) : hG z n0 X n M R pc L (.int y :: .int x :: .ref (z.1 + i) :: st) := by
  intro H locs ls h1 h2 h3
  have hcell := wl_at (z := z) (M := M) (R := R) hat.1
  rw [ent_ar hat.2 (by decide) (by decide)] at hcell
  refine va_zast hC.1 hC.2.1 hC.2.2.2.2.2.1.1 h1.1 wl_D h2 i 1 hcell tyl_at2 hx hd (fun H1 locs1 hP _ hS => ?_)
  have e : vp_nar .boolean y = y := by rcases hy with rfl | rfl <;> rfl
  rw [e, wl_arr hat (by decide) (by decide)] at hP
  exact W_size hC.2.2.2.2.2.2.2.2.1 (hn_le hC h1 h2) rfl hP hS (fun hsz => kk H1 locs1 ls ⟨hP, hsz, Wf_up h1.2.2 (fun t => by rw [hat.2] at t; cases t) (fun _ => hy) (fun t => by rw [hat.2] at t; cases t)⟩ hS h3)
theorem gx_cast (hC : hOk z n0 X cc own nL d nm) (hd : decode cc pc = .ok (.castore, 1)) (hat : hAt n i (3, len)) (hx : vp_in x len) (hy : ∃ q, q < 65536 ∧ y = nI q)
    (kk : hG z n0 X n (up2 M i x.toNatClampNeg y) R (pc + 1) L st) : hG z n0 X n M R pc L (.int y :: .int x :: .ref (z.1 + i) :: st) := by
  intro H locs ls h1 h2 h3
  have hcell := wl_at (z := z) (M := M) (R := R) hat.1
  rw [ent_ar hat.2 (by decide) (by decide)] at hcell
  refine va_cast hC.1 hC.2.1 hC.2.2.2.2.2.1.1 h1.1 wl_D h2 i 2 hcell tyl_at3 hx hd (fun H1 locs1 hP _ hS => ?_)
  have e : vp_nar .char y = y := by
    obtain ⟨q, hq, rfl⟩ := hy
    unfold vp_nar
    rw [(pk_charN hq).1]
  rw [e, wl_arr hat (by decide) (by decide)] at hP
  exact W_size hC.2.2.2.2.2.2.2.2.1 (hn_le hC h1 h2) rfl hP hS (fun hsz => kk H1 locs1 ls ⟨hP, hsz, Wf_up h1.2.2 (fun t => by rw [hat.2] at t; cases t) (fun t => by rw [hat.2] at t; cases t) (fun _ => hy)⟩ hS h3)
/-- an array of references -/
theorem gx_aald (hC : hOk z n0 X cc own nL d nm) (hd : decode cc pc = .ok (.aaload, 1)) {a : Nat} (hat : hAt n i (a, len)) (ha : a = 4 ∨ a = 5) (hx : vp_in x len) (hv : R i x.toNatClampNeg = o) (h0 : o ≠ 0)
    (kk : hG z n0 X n M R (pc + 1) L (.ref (z.1 + o) :: st)) : hG z n0 X n M R pc L (.int x :: .ref (z.1 + i) :: st) := by
  intro H locs ls h1 h2 h3
  have hcell := wl_at (z := z) (M := M) (R := R) hat.1
  have e : va_rf (if R i x.toNatClampNeg = 0 then none else some (z.1 + R i x.toNatClampNeg)) = .ref (z.1 + o) := by rw [hv, if_neg h0]; rfl
  rcases ha with rfl | rfl
  · rw [ent_rf hat.2 (by decide)] at hcell
    refine va_aldq hC.1 hC.2.1 hC.2.2.2.2.2.1.1 h1.1 i 3 hcell tyl_at4 hx hd ?_
    rw [e]
    exact kk H locs ls h1 h2 h3
  · rw [ent_rf hat.2 (by decide)] at hcell
    refine va_aldq hC.1 hC.2.1 hC.2.2.2.2.2.1.1 h1.1 i 4 hcell tyl_at5 hx hd ?_
    rw [e]
    exact kk H locs ls h1 h2 h3
theorem wl_aref {a : Nat} (hat : hAt n i (a, len)) (ha : 3 < a) (h0 : o ≠ 0) : (wl z n M R).set i (z.1 + i, .inl (z.2.2.2 a, len, .inr (.inr (.inr (.inr (va_up (fun j => if R i j = 0 then none else some (z.1 + R i j)) k (some (z.1 + o)))))))) = wl z n M (up2 R i k o) := by
  refine wl_set hat.1 ?_ (fun j hj => ⟨rfl, up2_row hj⟩)
  rw [ent_rf hat.2 ha]
  congr 7
  funext j
  by_cases hj : j = k
  · subst hj; rw [up2_same]; simp [va_up, h0]
  · rw [up2_off (fun q => hj q.2)]; simp [va_up, hj]
theorem gx_aast (hC : hOk z n0 X cc own nL d nm) (hd : decode cc pc = .ok (.aastore, 1)) {a : Nat} (hat : hAt n i (a, len)) (ho : a = 4 ∧ hAt n o (0, 0) ∨ a = 5 ∧ hAt n o (0, 3)) (hx : vp_in x len) (h0 : o ≠ 0)
    (kk : hG z n0 X n M (up2 R i x.toNatClampNeg o) (pc + 1) L st) : hG z n0 X n M R pc L (.ref (z.1 + o) :: .int x :: .ref (z.1 + i) :: st) := by
  intro H locs ls h1 h2 h3
  have hcell := wl_at (z := z) (M := M) (R := R) hat.1
  rcases ho with ⟨rfl, ho⟩ | ⟨rfl, ho⟩
  · rw [ent_rf hat.2 (by decide)] at hcell
    have hco := wl_at (z := z) (M := M) (R := R) ho.1
    rw [ent_ob ho.2] at hco
    refine va_astq (r := (RX0, TX0, 8)) hC.1 hC.2.1 hC.2.2.2.2.2.1.1 h1.1 wl_D h2 i 3 o 0 hcell tyl_at4 hco rfl hx hd (fun H1 locs1 hP _ hS => ?_)
    rw [wl_aref hat (by decide) h0] at hP
    exact W_size hC.2.2.2.2.2.2.2.2.1 (hn_le hC h1 h2) rfl hP hS (fun hsz => kk H1 locs1 ls ⟨hP, hsz, h1.2.2⟩ hS h3)
  · rw [ent_rf hat.2 (by decide)] at hcell
    have hco := wl_at (z := z) (M := M) (R := R) ho.1
    rw [ent_ob ho.2] at hco
    refine va_astq (r := (RX4, TX4, 16)) hC.1 hC.2.1 hC.2.2.2.2.2.1.1 h1.1 wl_D h2 i 4 o 3 hcell tyl_at5 hco rfl hx hd (fun H1 locs1 hP _ hS => ?_)
    rw [wl_aref hat (by decide) h0] at hP
    exact W_size hC.2.2.2.2.2.2.2.2.1 (hn_le hC h1 h2) rfl hP hS (fun hsz => kk H1 locs1 ls ⟨hP, hsz, h1.2.2⟩ hS h3)
/-- a constant of the enum -/
theorem gx_getstatic (hC : hOk z n0 X cc own nL d nm) (hd : decode cc pc = .ok (.getstatic idx, 3)) (j : Nat) (hj : j < 3) (hl : Cond.fieldLink own idx "HoldingStack$Kind" (kNm.getD j "") "LHoldingStack$Kind;" ∈ hgd)
    (kk : hG z n0 X n M R (pc + 3) L (kv z.2.1 (nI j) :: st)) : hG z n0 X n M R pc L st := by
  intro H locs ls h1 h2 h3
  have e : kv z.2.1 (nI j) = .ref (z.2.1 j) := by
    rcases (show j = 0 ∨ j = 1 ∨ j = 2 by omega) with rfl | rfl | rfl <;> simp [kv, show nI 0 = 0 from rfl, show nI 1 = 1 from rfl, show nI 2 = 2 from rfl]
  rw [e] at kk
  exact va_gets hC.1 hC.2.1 (hC.2.2.2.2.2.1.2.1.1 j hj).1 h2 hC.2.2.2.1 (hC.2.2.2.2.1 _ hl) (fun _ h => h) hd (kk H locs ls h1 h2 h3)
def kRate (x : Int32) : Int32 := if x = 0 then 4 else if x = 1 then 9 else 18
def kRes (x : Int32) : Int32 := if x = 0 then 40 else if x = 1 then 100 else 220
def kWake (x : Int32) : Int32 := if x = 0 then 2 else if x = 1 then 3 else 4
def kFld (q : Nat) (x : Int32) : Int32 := match q with
  | 0 => x
  | 1 => kRate x
  | 2 => kRes x
  | _ => kWake x
theorem gx_getK (hC : hOk z n0 X cc own nL d nm) (hd : decode cc pc = .ok (.getfield idx, 3)) (q : Nat) (hq : q < 4) (hl : Cond.fieldLink own idx "HoldingStack$Kind" (["number", "rate", "reserve", "wake"].getD q "") "I" ∈ hgd) (hx : hk x) (hv : kFld q x = v)
    (kk : hG z n0 X n M R (pc + 3) L (.int v :: st)) : hG z n0 X n M R pc L (kv z.2.1 x :: st) := by
  intro H locs ls h1 h2 h3
  obtain ⟨j, hj, e1, e2⟩ := kv_some (ek := z.2.1) hx
  rw [e2]
  have hm : kFd.getD q ("", "", "", []) ∈ kFd := by
    rcases (show q = 0 ∨ q = 1 ∨ q = 2 ∨ q = 3 by omega) with rfl | rfl | rfl | rfl <;> simp [kFd]
  have hval : (kFd.getD q ("", "", "", [])).2.2.2.getD j 0 = v := by
    subst hv e1
    rcases (show q = 0 ∨ q = 1 ∨ q = 2 ∨ q = 3 by omega) with rfl | rfl | rfl | rfl <;> rcases (show j = 0 ∨ j = 1 ∨ j = 2 by omega) with rfl | rfl | rfl <;> rfl
  have hl2 : Cond.fieldLink own idx "HoldingStack$Kind" (kFd.getD q ("", "", "", [])).2.1 (kFd.getD q ("", "", "", [])).2.2.1 ∈ hgd := by
    rcases (show q = 0 ∨ q = 1 ∨ q = 2 ∨ q = 3 by omega) with rfl | rfl | rfl | rfl <;> exact hl
  have hown : (kFd.getD q ("", "", "", [])).1 = "HoldingStack$Kind" := by
    rcases (show q = 0 ∨ q = 1 ∨ q = 2 ∨ q = 3 by omega) with rfl | rfl | rfl | rfl <;> rfl
  have kk' := kk H locs ls h1 h2 h3
  rw [← hval] at kk'
  exact va_getE hC.1 hC.2.1 hC.2.2.2.2.2.1.2.1 hj h2 hC.2.2.2.1 hm (hC.2.2.2.2.1 _ hl2) (fun y h => by rw [hown] at h; exact h) hd kk'
end HM2
end
section
/-! new cells, calls, ends, the start of a contract -/
def dfl (ci k : Nat) : Int32 := if sty ci k = 3 then -1 else 0
def hCl (own : String) (idx ci : Nat) : Prop := ∃ (C : String) (T : u_T) (N : Nat) (tt : Nat → FieldType), hcl[ci]? = some (C, T, N) ∧ N = hN ci ∧ Cond.classLink own idx C ∈ hgd ∧ Cond.instantiable C N ∈ hgd ∧ Cond.initialized C ∈ hgd ∧ (∀ w ∈ u_ws C T N, w ∈ hgd) ∧
  (∀ j, j < N → parseFieldDescriptor (T j).2.2.1 = some (tt j)) ∧ ∀ j, j < N → defaultValue (tt j) = if sty ci j < 3 then .int 0 else .null
def hYk (y : hYd) (np : Nat) : Prop := Cond.code y.1 y.2.1 y.2.2.1 y.2.2.2.1 ∈ hgd ∧ Cond.initialized y.1.cls ∈ hgd ∧ (y.1.cls ≠ "java/lang/invoke/MethodHandle" ∧ y.1.cls ≠ "java/lang/invoke/VarHandle") ∧ (parseMethodDescriptor y.1.desc).map (fun d => d.parameters.length) = some np ∧ y.2.2.1 ≤ 15
def hYv (y : hYd) : Prop := Cond.instanceMethod y.1 ∈ hgd ∧ Cond.selects y.1.cls y.1 y.1 ∈ hgd
theorem hgd_good (y : hYd) (h : Cond.code y.1 y.2.1 y.2.2.1 y.2.2.2.1 ∈ hgd) : GoodIn hgd (hws y) := by
  intro w hw
  have hm : w ∈ hgd := by
    rcases List.mem_cons.mp hw with rfl | h2
    · exact h
    · exact h2
  exact ⟨hm, good_of_word (List.mem_filter.mp hm).2⟩
theorem dfl_val {z : hZt} {ci k : Nat} : sv z (sty ci k) (dfl ci k) 0 = if sty ci k < 3 then .int 0 else .null := by
  unfold dfl
  have h := sty_lt ci k
  generalize sty ci k = s at *
  match s, h with
  | 0, _ => rfl
  | 1, _ => rfl
  | 2, _ => rfl
  | 3, _ => simp [sv, kv]
  | 4, _ => simp [sv, rv]
section HC
variable {z : hZt} {n0 n nm n2 nL d pc i k ci idx len o np : Nat} {X : hXt} {cc : ByteArray} {own : String} {M M' M2 : hMem} {R R' R2 : hRef} {L L' : List (Option Value)} {st st' : List Value} {x y v : Int32} {w : Value} {vo : Option Value}
theorem slt_room (hC : hOk z n0 X cc own nL d nm) (h0 : n0 ≤ n) (hn : n + 1 ≤ nm) : (n + 1 - n0 = n - n0 + 1) ∧ (slt (n + 1) - slt n0 = slt n - slt n0 + tsz (ty n)) ∧ n - n0 + 1 ≤ X.1.2.2.2.1.cells ∧ slt n - slt n0 + tsz (ty n) ≤ X.1.2.2.2.1.slots := by
  have a1 := slt_mono h0
  have a2 := slt_mono hn
  have a3 : slt (n + 1) = slt n + tsz (ty n) := rfl
  have a4 := hC.2.2.2.2.2.2.2.2.2.2.1
  have a5 := hC.2.2.2.2.2.2.2.2.2.2.2
  refine ⟨by omega, by omega, by omega, by omega⟩
theorem Wf_new (h : Wf n M) (hw : Wfc (ty n) (M n)) : Wf (n + 1) M := by
  intro i hi
  by_cases e : i = n
  · subst e; exact hw
  · exact h i (by omega)
theorem Hp_new {H H1 : Heap} (h1 : Hp z n M R H) (e1 : va_at z.2.2.1 hcl (z.1 + n, ent z (ty n) (M n) (R n)) H1) (z1 : H1.size = H.size + 1) (o1 : ∀ q, q < H.size → H1[q]? = H[q]?) (hw : Wfc (ty n) (M n)) : Hp z (n + 1) M R H1 := by
  refine ⟨fun k q hk => ?_, by have := h1.2.1; omega, Wf_new h1.2.2 hw⟩
  obtain ⟨hk1, rfl⟩ := wl_get hk
  by_cases e : k = n
  · subst e; exact e1
  · have h := h1.1 k _ (wl_at (z := z) (M := M) (R := R) (show k < n by omega))
    refine h.kept (o1 _ ?_)
    have := h1.2.1
    show z.1 + k < H.size
    omega
theorem va_S_new {A : Nat → Prop} {H0 H H1 : Heap} {locs : List Loc} (hS : va_S A H0 H locs) (z1 : H1.size = H.size + 1) (o1 : ∀ q, q < H.size → H1[q]? = H[q]?) : va_S A H0 H1 locs :=
  ⟨Nat.le_trans hS.1 (by omega), fun x h1 h2 => (o1 x (Nat.lt_of_lt_of_le h1 hS.1)).trans (hS.2.1 x h1 h2), hS.2.2⟩
theorem gx_new (hC : hOk z n0 X cc own nL d nm) (hd : decode cc pc = .ok (.new idx, 3)) (hcl' : hCl own idx ci) (hty : ty n = (0, ci)) (hn : n + 1 ≤ nm) (hM : ∀ k, k < hN ci → M n k = dfl ci k ∧ R n k = 0)
    (kk : hG z n0 X (n + 1) M R (pc + 3) L (.ref (z.1 + n) :: st)) : hG z n0 X n M R pc L st := by
  intro H locs ls h1 h2 h3
  obtain ⟨C, T, N, tt, f1, f2, f3, f4, f5, f6, f7, f8⟩ := hcl'
  obtain ⟨r1, r2, r3, r4⟩ := slt_room hC (hn_le hC h1 h2) hn
  have hsz : tsz (ty n) = N := by rw [hty, f2]; rfl
  rw [hsz] at r2 r4
  have hKn := hC.2.2.2.2.2.1.1.1 ci _ f1
  refine W.newcK hC.1 hC.2.1 hC.2.2.2.1 (hC.2.2.2.2.1 _ f3) (hC.2.2.2.2.1 _ f4) (hC.2.2.2.2.1 _ f5) rfl hd r3 r4 hKn.2.1 rfl fun H1 kC hkC e1 z1 o1 => ?_
  have hh : H.size = z.1 + n := h1.2.1
  have k2 := kk H1 locs ls (Hp_new h1 (by
    rw [ent_ob hty]
    rw [hh] at e1
    refine ⟨_, f1, (u_born tt hC.2.2.2.2.1 f6 hKn hkC e1 f7).to fun j hj => ?_⟩
    have hj2 : j < hN ci := by rw [← f2]; exact hj
    rw [f8 j hj]
    simp only [vp_V, List.getD_eq_getElem?_getD]
    rw [obv_at hj2, (hM j hj2).1, (hM j hj2).2, dfl_val]
    rfl) z1 o1 (by
    rw [hty]
    refine ⟨fun _ k hk => ⟨fun t => ?_, fun t => ?_⟩, (fun t => absurd (show 0 = 2 from t) (by decide)), (fun t => absurd (show 0 = 3 from t) (by decide))⟩
    · rw [(hM k hk).1]; left; unfold dfl; rw [if_neg]; rw [t]; decide
    · rw [(hM k hk).1]; refine ⟨0, by decide, ?_⟩; unfold dfl; rw [if_neg (by rw [t]; decide)]; rfl)) (va_S_new h2 z1 o1) h3
  rw [r1, r2, ← hh] at k2
  exact k2
theorem gx_newarray (hC : hOk z n0 X cc own nL d nm) {atype : ArrayType} (hd : decode cc pc = .ok (.newarray atype, 2)) {a : Nat} (ha : a = 1 ∧ atype = .int ∨ a = 2 ∧ atype = .boolean ∨ a = 3 ∧ atype = .char) (hty : ty n = (a, len)) (hw : Cond.arrayClass (newarray.typeOf atype) ∈ hgd) (hn : n + 1 ≤ nm) (hM : ∀ k, k < len → M n k = 0)
    (hx : x = nI len) (hlen : len < 1000)
    (kk : hG z n0 X (n + 1) M R (pc + 2) L (.ref (z.1 + n) :: st)) : hG z n0 X n M R pc L (.int x :: st) := by
  intro H locs ls h1 h2 h3
  subst hx
  obtain ⟨r1, r2, r3, r4⟩ := slt_room hC (hn_le hC h1 h2) hn
  have ha0 : a ≠ 0 := by rcases ha with h | h | h <;> omega
  have hsz : tsz (ty n) = len := by rw [hty]; simp [tsz, ha0]
  rw [hsz] at r2 r4
  have hh : H.size = z.1 + n := h1.2.1
  refine va_newaK (N := len) hC.1 hC.2.1 (hC.2.2.2.2.1 _ hw) rfl hd rfl (nI_pos (by omega)) (nI_clamp (by omega)) (by
    rcases ha with ⟨-, rfl⟩ | ⟨-, rfl⟩ | ⟨-, rfl⟩ <;> simp [newarray.typeOf, componentBytes] <;> omega) r3 r4 rfl fun H1 cA e1 z1 o1 _ hNm => ?_
  have k2 := kk H1 locs ls (Hp_new h1 (by
    rw [ent_ar hty ha0 (by rcases ha with h | h | h <;> omega)]
    rw [hh] at e1
    have hK := hC.2.2.2.2.2.1.1.2
    show H1[z.1 + n]? = some (vp_cell _ _)
    rw [e1, vp_cell_i]
    have hcA : cA = z.2.2.2 a := by
      rcases ha with ⟨rfl, rfl⟩ | ⟨rfl, rfl⟩ | ⟨rfl, rfl⟩
      · exact Option.some.inj (hNm.symm.trans (hK 0 _ tyl_at1).2)
      · exact Option.some.inj (hNm.symm.trans (hK 1 _ tyl_at2).2)
      · exact Option.some.inj (hNm.symm.trans (hK 2 _ tyl_at3).2)
    subst hcA
    have hdv : defaultValue (newarray.typeOf atype) = .int 0 := by rcases ha with ⟨-, rfl⟩ | ⟨-, rfl⟩ | ⟨-, rfl⟩ <;> rfl
    rw [hdv]
    unfold arrV
    congr 2
    apply Array.ext_getElem?
    intro j
    simp only [Array.getElem?_ofFn]
    split
    · next h => rw [hM j h]
    · rfl) z1 o1 (by
    rw [hty]
    refine ⟨fun t => absurd t ha0, fun t k hk => Or.inl (hM k hk), fun t k hk => ⟨0, by decide, (hM k hk).trans rfl⟩⟩)) (va_S_new h2 z1 o1) h3
  rw [r1, r2, ← hh] at k2
  exact k2
theorem gx_anewarray (hC : hOk z n0 X cc own nL d nm) (hd : decode cc pc = .ok (.anewarray idx, 3)) {a : Nat} {C : String} (ha : a = 4 ∧ C = RX0 ∨ a = 5 ∧ C = RX4) (hty : ty n = (a, len)) (hw : Cond.classLink own idx C ∈ hgd) (hn : n + 1 ≤ nm) (hM : ∀ k, k < len → R n k = 0)
    (hx : x = nI len) (hlen : len < 1000)
    (kk : hG z n0 X (n + 1) M R (pc + 3) L (.ref (z.1 + n) :: st)) : hG z n0 X n M R pc L (.int x :: st) := by
  intro H locs ls h1 h2 h3
  subst hx
  obtain ⟨r1, r2, r3, r4⟩ := slt_room hC (hn_le hC h1 h2) hn
  have ha0 : a ≠ 0 := by rcases ha with h | h <;> omega
  have hsz : tsz (ty n) = len := by rw [hty]; simp [tsz, ha0]
  rw [hsz] at r2 r4
  have hh : H.size = z.1 + n := h1.2.1
  have hcl3 : (nI len).toNatClampNeg = len := nI_clamp (by omega)
  have hover : va_AO C X.1.2.2.2.2.1 := by
    rcases ha with ⟨-, rfl⟩ | ⟨-, rfl⟩
    · exact hC.2.2.2.2.2.1.2.2.2.1
    · exact hC.2.2.2.2.2.1.2.2.2.2
  refine W.anew hC.1 hC.2.1 hC.2.2.2.1 (hC.2.2.2.2.1 _ hw) (va_AO.use hover) rfl hd rfl (nI_pos (by omega)) (by rw [hcl3]; omega) r3 (by rw [hcl3]; exact r4) fun cA kA comp f1 f2 f3 f4 => ?_
  rw [hcl3]
  generalize hH1 : H.push ({ cls := cA, slots := Array.replicate len .null, vm := .none } : Cell) = H1
  have z1 : H1.size = H.size + 1 := by rw [← hH1, Array.size_push]
  have e1 : H1[H.size]? = some (arrV cA len (fun _ => .null)) := by rw [← hH1, Array.getElem?_push_size, ← arrV_new]
  have o1 : ∀ q : Nat, q < H.size → H1[q]? = H[q]? := fun q hq => by rw [← hH1, Array.getElem?_push, if_neg (Nat.ne_of_lt hq)]
  have k2 := kk H1 locs ls (Hp_new h1 (by
    rw [ent_rf hty (by rcases ha with h | h <;> omega)]
    rw [hh] at e1
    have hK := hC.2.2.2.2.2.1.1.2
    show H1[z.1 + n]? = some (vp_cell _ _)
    rw [e1, vp_cell_q]
    have hcA : cA = z.2.2.2 a := by
      rcases ha with ⟨rfl, rfl⟩ | ⟨rfl, rfl⟩
      · obtain ⟨kA', comp', g1, g2, g3, g4⟩ := (hK 3 _ tyl_at4).2
        exact Option.some.inj (f1.symm.trans g4)
      · obtain ⟨kA', comp', g1, g2, g3, g4⟩ := (hK 4 _ tyl_at5).2
        exact Option.some.inj (f1.symm.trans g4)
    subst hcA
    unfold arrV
    congr 2
    apply Array.ext_getElem?
    intro j
    simp only [Array.getElem?_ofFn]
    split
    · next h => rw [hM j h]; rfl
    · rfl) z1 o1 (by
    rw [hty]
    have hb : a = 4 ∨ a = 5 := by rcases ha with h | h <;> omega
    exact ⟨fun t => absurd t ha0, fun t => by simp only at t; omega, fun t => by simp only at t; omega⟩)) (va_S_new h2 z1 o1) h3
  rw [r1, r2, ← hh] at k2
  exact k2
/-- a final field, in a constructor -/
theorem gx_putF (hC : hOk z n0 X cc own nL d nm) (hd : decode cc pc = .ok (.putfield idx, 3)) (hF : hFl own idx ci k) (hat : hAt n i (0, ci)) (hnf : hFin ci k) (hin : X.2.1.2.1.name = "<init>") (hown : ∃ T N, hcl[ci]? = some (own, T, N)) (hw : sv z (sty ci k) x o = w)
    (hb : sty ci k = 1 → x = 0 ∨ x = 1) (hc : sty ci k = 2 → ∃ q, q < 65536 ∧ x = nI q)
    (kk : hG z n0 X n (up2 M i k x) (up2 R i k o) (pc + 3) L st) : hG z n0 X n M R pc L (w :: .ref (z.1 + i) :: st) := by
  intro H locs ls h1 h2 h3
  subst hw
  obtain ⟨C, T, N, tt, f1, f2, f3, f4, f5, f6, f7, f8, g0, g1, g2, g3, g4⟩ := hF
  have hfin : (T k).2.2.2 = true := by
    obtain ⟨C', T', N', e1, e2⟩ := hnf
    cases f1.symm.trans e1
    exact e2
  have hCo : C = own := by
    obtain ⟨T', N', e1⟩ := hown
    cases f1.symm.trans e1
    rfl
  have hcell := wl_at (z := z) (M := M) (R := R) hat.1
  rw [ent_ob hat.2] at hcell
  have hkN : k < hN ci := by rw [← f2]; exact f3
  have hfit := put_fit (z := z) (x := x) (o := o) g0 g1 g2 g3 g4 (sty_lt _ _) hb hc
  refine va_putF (own := own) (ref := C) hC.1 hC.2.1 hC.2.2.2.2.1 f5 tt f7 f8 hC.2.2.2.1 hC.2.2.2.2.2.1.1 h1.1 wl_D h2 i hcell f1 k f3 (hC.2.2.2.2.1 _ f4) (fun x h => by rw [f6] at h; exact h)
    hfin hin (f6.trans hCo) (ty := tt k) (v := sv z (sty ci k) x o) (f7 k f3) hfit.1 hfit.2 (by simpa [obv] using hkN) hd (fun H1 locs1 hP _ hS => ?_)
  have he : (wl z n M R).set i (z.1 + i, .inr (ci, (obv z ci (M i) (R i)).set k (sv z (sty ci k) x o))) = wl z n (up2 M i k x) (up2 R i k o) := by
    refine wl_set hat.1 ?_ (fun j hj => ⟨up2_row hj, up2_row hj⟩)
    rw [ent_ob hat.2, obv_set hkN (by rw [up2_same, up2_same]) (fun j hj => ⟨up2_off (fun q => hj q.2), up2_off (fun q => hj q.2)⟩)]
  rw [he] at hP
  refine W_size hC.2.2.2.2.2.2.2.2.1 (hn_le hC h1 h2) rfl hP hS (fun hsz => ?_)
  exact kk H1 locs1 ls ⟨hP, hsz, Wf_up h1.2.2 (fun _ => by rw [hat.2]; exact ⟨hb, hc⟩) (fun t => by rw [hat.2] at t; cases t) (fun t => by rw [hat.2] at t; cases t)⟩ hS h3
theorem gx_objinit (hC : hOk z n0 X cc own nL d nm) (hd : decode cc pc = .ok (.invokespecial idx, 3)) (hl : Cond.methodLink own idx objectInit ∈ hgd) (hi : Cond.instanceMethod objectInit ∈ hgd) (hcd : Cond.code objectInit ⟨#[0xb1]⟩ 1 none ∈ hgd) (hdp : 1 ≤ d) (hL : L.length = nL)
    (kk : hG z n0 X n M R (pc + 3) L []) : hG z n0 X n M R pc L [.ref (z.1 + i)] := by
  intro H locs ls h1 h2 h3
  have a1 := hC.2.2.2.2.2.2.1
  have a2 := hC.2.2.2.2.2.2.2.1
  refine W.objInit hC.1 hC.2.1 hC.2.2.2.1 (hC.2.2.2.2.1 _ hl) (hC.2.2.2.2.1 _ hi) (hC.2.2.2.2.1 _ hcd) rfl (by show ls.size = _; rw [h3.1, hL, hC.2.2.1]) rfl hd (by omega) (by
    have e : 2 * (F0 X.1.2.2.2.2.2.1 pc ls [.ref (z.1 + i)]).monitorRoom + (([] : List Value).map fun v => v.category).sum ≤ 8 := lv_room (by simp)
    omega) (kk H locs ls h1 h2 h3)
theorem hWo (hC : hOk z n0 X cc own nL d nm) {H : Heap} {locs : List Loc} (h1 : Hp z n M R H) (h2 : va_S (hA z) X.1.2.2.2.2.1.heap H locs) (t : State) (ht : t.heap = H) (hW : X.1.2.2.2.2.1.WarmedH t.vm) : Wo z n M R t := by
  refine ⟨?_, by rw [ht]; exact h1⟩
  rw [ht]
  exact (Fx.kept (fun a ha1 ha2 => h2.2.1 a ha1 ha2) hC.2.2.2.2.2.1).warm hW
theorem gx_after {yd : hYd} {As : List Value} {mc ms : Nat} {g0 : JFrame} {aa : Array Value} {H : Heap} {locs : List Loc} {ls : Array Slot} {st0 : List Value} (hg0 : g0 = F0 X.1.2.2.2.2.2.1 pc ls st0)
    (hr : va_Run X.1.1 X.1.2.1 X.1.2.2.1 X.1.2.2.2.1 X.1.2.2.2.2.1 X.1.2.2.2.2.2.1 X.1.2.2.2.2.2.2 X.2.1.1 X.2.1.2.1 X.2.1.2.2 H locs (n - n0) (slt n - slt n0) (n2 - n) (slt n2 - slt n) g0 st (hQc z n2 vo M' R' aa) (hA z))
    (h2 : va_S (hA z) X.1.2.2.2.2.1.heap H locs) (h0 : n0 ≤ n) (hn2 : n ≤ n2) (h3 : lh ls L)
    (kk : hG z n0 X n2 M' R' (pc + 3) L (vo.toList ++ st)) : Wx X H locs (n - n0) (slt n - slt n0) g0 := by
  subst hg0
  intro T hT Y
  obtain ⟨v, st₀, t, T', L9, e0, Y', hL9, e1, e2, ⟨hv, hwo, hF⟩, hs⟩ := hr T hT Y
  cases hv
  have hm1 := slt_mono h0
  have hm2 := slt_mono hn2
  have c1 : n - n0 + (n2 - n) = n2 - n0 := by omega
  have c2 : slt n - slt n0 + (slt n2 - slt n) = slt n2 - slt n0 := by omega
  rw [c1, c2] at Y'
  have hS : va_S (hA z) X.1.2.2.2.2.1.heap T'.heap (locs ++ L9) := by
    rw [e1]
    unfold va_F at hF
    rw [e0] at hF
    refine ⟨Nat.le_trans h2.1 hF.1, fun q q1 q2 => (hF.2 q (Nat.lt_of_lt_of_le q1 h2.1) q2).trans (h2.2.1 q q1 q2), fun q hq => ?_⟩
    rcases List.mem_append.mp hq with h | h
    · exact h2.2.2 q h
    · exact hL9 q h
  obtain ⟨t2, a1, b1⟩ := kk T'.heap (locs ++ L9) ls (by rw [e1]; exact hwo.2) hS h3 T' rfl Y'
  exact ⟨t2, hs t2 a1, b1⟩
theorem hRoomOk {yd : hYd} (hC : hOk z n0 X cc own nL d nm) (hY : hYk yd np) (hdp : yd.2.2.2.2 + 1 ≤ d) : yd.2.2.2.2 + 1 ≤ X.1.2.2.2.1.frames ∧ 8 + (yd.2.2.1 + 11) + 34 * yd.2.2.2.2 ≤ X.1.2.2.2.1.locals := by
  have a1 := hC.2.2.2.2.2.2.1
  have a2 := hC.2.2.2.2.2.2.2.1
  have a3 := hY.2.2.2.2
  omega
theorem hCellOk (hC : hOk z n0 X cc own nL d nm) (h0 : n0 ≤ n) (hn2 : n ≤ n2) (hnm : n2 ≤ nm) : n - n0 + (n2 - n) ≤ X.1.2.2.2.1.cells ∧ slt n - slt n0 + (slt n2 - slt n) ≤ X.1.2.2.2.1.slots := by
  have a1 := slt_mono h0
  have a2 := slt_mono hn2
  have a3 := slt_mono hnm
  have a4 := hC.2.2.2.2.2.2.2.2.2.2.1
  have a5 := hC.2.2.2.2.2.2.2.2.2.2.2
  omega
theorem hCallB {yd : hYd} (hC : hOk z n0 X cc own nL d nm) (hY : hYk yd np) (hdp : yd.2.2.2.2 + 1 ≤ d) (hl : Cond.methodLink own idx yd.1 ∈ hgd) {mc ms : Nat} :
    CallB X.1.2.2.2.1 X.1.2.2.2.2.1 X.1.2.2.2.2.2.2 own idx yd.1 yd.2.1 yd.2.2.1 yd.2.2.2.1 (hws yd) (hrm yd mc ms) mc ms np := by
  obtain ⟨r1, r2⟩ := hRoomOk hC hY hdp
  refine ⟨rfl, rfl, r1, r2, pay_in hC.2.2.2.2.1 (hgd_good yd hY.1), List.mem_cons_self, hC.2.2.2.2.1 _ hY.1, hC.2.2.2.2.1 _ hY.2.1, hY.2.2.1, fun sig h => ?_, hC.2.2.2.2.1 _ hl⟩
  have h2 := hY.2.2.2.1
  rw [h] at h2
  exact (Option.some.inj h2).symm
theorem gx_callV (hC : hOk z n0 X cc own nL d nm) {yd : hYd} {As : List Value} (hd : decode cc pc = .ok (.invokevirtual idx, 3)) (hct : hCt X.1.2.1 z yd (.ref (z.1 + i) :: As) n M R n2 vo M' R') (hY : hYk yd np) (hV : hYv yd) (hl : Cond.methodLink own idx yd.1 ∈ hgd)
    (hat : hAt n i (0, ci)) (hrc : (hcl[ci]?).map (fun q => q.1) = some yd.1.cls) (hdp : yd.2.2.2.2 + 1 ≤ d) (hnp : As.length = np) (hL : L.length = nL) (hst : st' = As.reverse ++ .ref (z.1 + i) :: st) (hcat : (st.map fun v => v.category).sum ≤ 8) (hn2 : n ≤ n2) (hnm : n2 ≤ nm)
    (kk : hG z n0 X n2 M' R' (pc + 3) L (vo.toList ++ st)) : hG z n0 X n M R pc L st' := by
  intro H locs ls h1 h2 h3
  subst hst
  have h0 := hn_le hC h1 h2
  have hcell := wl_at (z := z) (M := M) (R := R) hat.1
  rw [ent_ob hat.2] at hcell
  obtain ⟨q9, hq9, hq8⟩ := Option.map_eq_some_iff.mp hrc
  have hrecv := va_recv hC.2.2.2.2.2.1.1 h1.1 hq9 hcell
  rw [hq8] at hrecv
  exact gx_after (yd := yd) (As := As) (mc := 0) (ms := 0) rfl (va_runV (C := yd.1.cls) (As := As) (rest := st) (n := np) ⟨hC.1, hC.2.1, hC.2.2.1, hC.2.2.2.1, hC.2.2.2.2.1⟩ hct ⟨hCallB hC hY hdp hl, hC.2.2.2.2.1 _ hV.1, hC.2.2.2.2.1 _ hV.2⟩
    ⟨Wo.blind, hrecv, fun U hU hW => ⟨rfl, hWo hC h1 h2 U hU hW⟩⟩ rfl hnp (by show ls.size = _; rw [h3.1, hL]) rfl (lv_room hcat) hd (hCellOk hC h0 hn2 hnm)) h2 h0 hn2 h3 kk
theorem gx_callS (hC : hOk z n0 X cc own nL d nm) {yd : hYd} {As : List Value} (hd : decode cc pc = .ok (.invokestatic idx, 3)) (hct : hCt X.1.2.1 z yd As n M R n2 vo M' R') (hY : hYk yd np) (hV : Cond.static yd.1 ∈ hgd) (hl : Cond.methodLink own idx yd.1 ∈ hgd)
    (hdp : yd.2.2.2.2 + 1 ≤ d) (hnp : As.length = np) (hL : L.length = nL) (hst : st' = As.reverse ++ st) (hcat : (st.map fun v => v.category).sum ≤ 8) (hn2 : n ≤ n2) (hnm : n2 ≤ nm)
    (kk : hG z n0 X n2 M' R' (pc + 3) L (vo.toList ++ st)) : hG z n0 X n M R pc L st' := by
  intro H locs ls h1 h2 h3
  subst hst
  have h0 := hn_le hC h1 h2
  exact gx_after (yd := yd) (As := As) (mc := 0) (ms := 0) rfl (va_runS (As := As) (rest := st) (n := np) ⟨hC.1, hC.2.1, hC.2.2.1, hC.2.2.2.1, hC.2.2.2.2.1⟩ hct ⟨hCallB hC hY hdp hl, hC.2.2.2.2.1 _ hV⟩
    ⟨Wo.blind, fun U hU hW => ⟨rfl, hWo hC h1 h2 U hU hW⟩⟩ rfl hnp (by show ls.size = _; rw [h3.1, hL]) rfl (lv_room hcat) hd (hCellOk hC h0 hn2 hnm)) h2 h0 hn2 h3 kk
theorem gx_callI (hC : hOk z n0 X cc own nL d nm) {nmY : MethodName} {bcY : ByteArray} {mlY dY : Nat} {As : List Value} (hd : decode cc pc = .ok (.invokespecial idx, 3)) (hct : hCt X.1.2.1 z (nmY, bcY, mlY, none, dY) (.ref (z.1 + i) :: As) n M R n2 vo M' R') (hY : hYk (nmY, bcY, mlY, none, dY) np) (hV : Cond.instanceMethod nmY ∈ hgd) (hnm1 : nmY.name = "<init>") (hl : Cond.methodLink own idx nmY ∈ hgd)
    (hdp : dY + 1 ≤ d) (hnp : As.length = np) (hL : L.length = nL) (hst : st' = As.reverse ++ .ref (z.1 + i) :: st) (hcat : (st.map fun v => v.category).sum ≤ 8) (hn2 : n ≤ n2) (hnm : n2 ≤ nm)
    (kk : hG z n0 X n2 M' R' (pc + 3) L (vo.toList ++ st)) : hG z n0 X n M R pc L st' := by
  intro H locs ls h1 h2 h3
  subst hst
  have h0 := hn_le hC h1 h2
  exact gx_after (yd := (nmY, bcY, mlY, none, dY)) (As := As) (mc := 0) (ms := 0) rfl (va_runI (As := As) (rest := st) (n := np) ⟨hC.1, hC.2.1, hC.2.2.1, hC.2.2.2.1, hC.2.2.2.2.1⟩ hct ⟨hCallB (yd := (nmY, bcY, mlY, none, dY)) hC hY hdp hl, hnm1, hC.2.2.2.2.1 _ hV⟩
    ⟨Wo.blind, fun U hU hW => ⟨rfl, hWo hC h1 h2 U hU hW⟩⟩ rfl hnp (by show ls.size = _; rw [h3.1, hL]) rfl (lv_room hcat) hd (hCellOk hC h0 hn2 hnm)) h2 h0 hn2 h3 kk
/-- the private constructor of a nest mate -/
theorem gx_callIN (hC : hOk z n0 X cc own nL d nm) {bcY : ByteArray} {mlY dY : Nat} {As : List Value} (hd : decode cc pc = .ok (.invokespecial 35, 3)) (how : own = RX6) (hct : hCt X.1.2.1 z (yX5_init, bcY, mlY, none, dY) (.ref (z.1 + i) :: As) n M R n2 vo M' R') (hY : hYk (yX5_init, bcY, mlY, none, dY) np) (hV : Cond.instanceMethod yX5_init ∈ hgd)
    (hdp : dY + 1 ≤ d) (hnp : As.length = np) (hL : L.length = nL) (hst : st' = As.reverse ++ .ref (z.1 + i) :: st) (hcat : (st.map fun v => v.category).sum ≤ 8) (hn2 : n ≤ n2) (hnm : n2 ≤ nm)
    (kk : hG z n0 X n2 M' R' (pc + 3) L (vo.toList ++ st)) : hG z n0 X n M R pc L st' := by
  intro H locs ls h1 h2 h3
  subst hst
  subst how
  have h0 := hn_le hC h1 h2
  obtain ⟨r1, r2⟩ := hRoomOk (yd := (yX5_init, bcY, mlY, none, dY)) hC hY hdp
  exact gx_after (yd := (yX5_init, bcY, mlY, none, dY)) (As := As) (mc := 0) (ms := 0) rfl (va_runIN (As := As) (rest := st) (n := np) (host := RX6) ⟨hC.1, hC.2.1, hC.2.2.1, hC.2.2.2.1, hC.2.2.2.2.1⟩ hct
    ⟨⟨⟨rfl, rfl, r1, r2, pay_in hC.2.2.2.2.1 (hgd_good (yX5_init, bcY, mlY, none, dY) hY.1), List.mem_cons_self⟩, hC.2.2.2.2.1 _ hY.1, hC.2.2.2.2.1 _ hY.2.1, hY.2.2.1, fun sig h => by
      have h2 := hY.2.2.2.1
      rw [h] at h2
      exact (Option.some.inj h2).symm, va_Nw.use rfl hC.2.2.2.2.2.1.2.2.1⟩, rfl, hC.2.2.2.2.1 _ hV⟩
    ⟨Wo.blind, fun U hU hW => ⟨rfl, hWo hC h1 h2 U hU hW⟩⟩ rfl hnp (by show ls.size = _; rw [h3.1, hL]) rfl (lv_room hcat) hd (hCellOk hC h0 hn2 hnm)) h2 h0 hn2 h3 kk
/-! ends -/
theorem hEnd (hC : hOk z n0 X cc own nL d nm) {H : Heap} {locs : List Loc} (h1 : Hp z n M R H) (h2 : va_S (hA z) X.1.2.2.2.2.1.heap H locs) : ∀ t : State, t.heap = H → X.1.2.2.2.2.1.WarmedH t.vm → hQc z n vo M R X.1.2.2.2.2.2.2 X.1.2.2.2.2.1 (.returned vo) t :=
  fun t ht hW => ⟨rfl, hWo hC h1 h2 t ht hW, h2.F ht⟩
theorem gx_iret (hC : hOk z n0 X cc own nL d nm) (hQ : hRq z n0 X n vo M2 R2 (some .int)) (hd : decode cc pc = .ok (.ireturn, 1)) (hv : some (.int x) = vo) (hM : M = M2) (hR : R = R2) : hG z n0 X n M R pc L [.int x] := by
  intro H locs ls h1 h2 h3
  subst hv hM hR
  unfold Wx
  rw [hQ.1]
  exact W.iret hC.1 hC.2.1 hQ.2.1 (hEnd hC h1 h2) h2.2.2 hd hQ.2.2
theorem gx_zret (hC : hOk z n0 X cc own nL d nm) (hQ : hRq z n0 X n vo M2 R2 (some .boolean)) (hd : decode cc pc = .ok (.ireturn, 1)) (hb : x = 0 ∨ x = 1) (hv : some (.int x) = vo) (hM : M = M2) (hR : R = R2) : hG z n0 X n M R pc L [.int x] := by
  intro H locs ls h1 h2 h3
  subst hv hM hR
  unfold Wx
  rw [hQ.1]
  exact W.zret hC.1 hC.2.1 hQ.2.1 (by rcases hb with rfl | rfl <;> rfl) (hEnd hC h1 h2) h2.2.2 hd hQ.2.2
theorem gx_cret (hC : hOk z n0 X cc own nL d nm) (hQ : hRq z n0 X n vo M2 R2 (some .char)) (hd : decode cc pc = .ok (.ireturn, 1)) (hb : ∃ q, q < 65536 ∧ x = nI q) (hv : some (.int x) = vo) (hM : M = M2) (hR : R = R2) : hG z n0 X n M R pc L [.int x] := by
  intro H locs ls h1 h2 h3
  subst hv hM hR
  unfold Wx
  rw [hQ.1]
  exact W.zret hC.1 hC.2.1 hQ.2.1 (by obtain ⟨q, hq, rfl⟩ := hb; exact (pk_charN hq).1) (hEnd hC h1 h2) h2.2.2 hd hQ.2.2
theorem gx_lret (hC : hOk z n0 X cc own nL d nm) {a : Int64} (hQ : hRq z n0 X n vo M2 R2 (some .long)) (hd : decode cc pc = .ok (.lreturn, 1)) (hv : some (.long a) = vo) (hM : M = M2) (hR : R = R2) : hG z n0 X n M R pc L [.long a] := by
  intro H locs ls h1 h2 h3
  subst hv hM hR
  unfold Wx
  rw [hQ.1]
  exact W.lret hC.1 hC.2.1 hQ.2.1 (hEnd hC h1 h2) h2.2.2 hd hQ.2.2
theorem gx_vret (hC : hOk z n0 X cc own nL d nm) (hQ : hRq z n0 X n none M2 R2 none) (hd : decode cc pc = .ok (.return_, 1)) (hM : M = M2) (hR : R = R2) : hG z n0 X n M R pc L [] := by
  intro H locs ls h1 h2 h3
  subst hM hR
  unfold Wx
  rw [hQ.1]
  exact W.vret hC.1 hC.2.1 hQ.2.1 (hEnd hC h1 h2) h2.2.2 hd hQ.2.2
theorem gx_aret (hC : hOk z n0 X cc own nL d nm) {cn : String} (hQ : hRq z n0 X n vo M2 R2 (some (.object cn))) (hd : decode cc pc = .ok (.areturn, 1)) (hw : isR w) (hv : some w = vo) (hM : M = M2) (hR : R = R2) : hG z n0 X n M R pc L [w] := by
  intro H locs ls h1 h2 h3
  subst hv hM hR
  unfold Wx
  rw [hQ.1]
  exact W.aret hC.1 hC.2.1 hQ.2.1 (Or.inl ⟨_, rfl⟩) hw (hEnd hC h1 h2) h2.2.2 hd hQ.2.2
end HC
/-! the start -/
theorem lh_entry (av : List Value) {mL : Nat} (h1 : ∀ v ∈ av, v.category = 1) (hlen : av.length ≤ mL) :
    lh ((lg_sl av ++ List.replicate (mL - (lg_sl av).length) Slot.unset).toArray) (av.map some ++ List.replicate (mL - av.length) none) := by
  have e : lg_sl av = av.map Slot.val := by
    unfold lg_sl
    clear hlen
    induction av with
    | nil => rfl
    | cons a t ih =>
      rw [List.flatMap_cons, ih (fun v hv => h1 v (List.mem_cons_of_mem _ hv)), if_neg (by rw [h1 a List.mem_cons_self]; decide)]
      rfl
  have hl := lv_entry av (n := mL) (by rw [e, List.length_map]; exact hlen)
  refine ⟨by rw [hl.1]; simp; omega, hl.2.1, fun i v hv => ?_⟩
  rw [e]
  by_cases hi : i < av.length
  · rw [List.getElem?_append_left (by simpa using hi), List.getElem?_map] at hv
    rw [List.getElem?_toArray, List.getElem?_append_left (by simpa using hi), List.getElem?_map]
    cases h : av[i]? with
    | none => rw [h] at hv; cases hv
    | some u => rw [h] at hv; cases hv; rfl
  · rw [List.getElem?_append_right (by simpa using Nat.le_of_not_lt hi), List.getElem?_replicate] at hv
    split at hv <;> cases hv
theorem hs_start {l : Launch} {z : hZt} {yd : hYd} {av : List Value} {n : Nat} {M : hMem} {R : hRef} {n2 : Nat} {vo : Option Value} {M2 : hMem} {R2 : hRef} (L : List (Option Value)) (hp : plainName yd.1.cls = true) (hL : av.map some ++ List.replicate (yd.2.2.1 - av.length) none = L) (hcat : ∀ v ∈ av, v.category = 1) (hlen : av.length ≤ yd.2.2.1) (hn : n ≤ n2)
    (body : ∀ X : hXt, X.1.2.1 = l → X.2.1.2.1.name = yd.1.name → hOk z n X yd.2.1 yd.1.cls yd.2.2.1 yd.2.2.2.2 n2 → hRq z n X n2 vo M2 R2 yd.2.2.2.1 → hG z n X n M R 0 L []) : hCt l z yd av n M R n2 vo M2 R2 := by
  refine Met.ofW (cc := yd.2.1) (maxL := yd.2.2.1) (ret := yd.2.2.2.1) hp rfl ?_
  intro p e s m args below meth c s₁ B hml hv
  obtain ⟨rfl, hfx, hp1⟩ := hv
  have hts := atoms_spec (ws := hws yd) B.pre
  have hX := body ((p, l, e, (headSpec (hws yd) (hrm yd (n2 - n) (slt n2 - slt n))).room, s, m, av.toArray), (below, meth, c), MQ below (hQc z n2 vo M2 R2) av.toArray s (n2 - n) (slt n2 - slt n) (hA z)) rfl
    (name_of_methodNamed B.named B.method).1
    ⟨B.exec, B.bytes, hml, findClass_of_methodNamed B.named, fun w hw => hts w (List.mem_cons_of_mem _ hw), hfx, Nat.le_refl _, Nat.le_refl _, hp1.2.1, hn, Nat.le_refl _, Nat.le_refl _⟩ ⟨rfl, B.returns, B.notSynchronized⟩
  have hl := lh_entry av hcat hlen
  rw [hL] at hl
  rw [lg_entry_eq]
  have h := hX s.heap [] _ hp1 va_S.rf hl
  rw [Nat.sub_self, Nat.sub_self] at h
  exact h
end
section
theorem ic_m1 : Int32.ofInt (-1) = (-1 : Int32) := by decide
theorem ic_0 : Int32.ofInt (0) = (0 : Int32) := by decide
theorem ic_0n : Int32.ofInt (0) = nI 0 := by decide
theorem ic_1 : Int32.ofInt (1) = (1 : Int32) := by decide
theorem ic_1n : Int32.ofInt (1) = nI 1 := by decide
theorem ic_2 : Int32.ofInt (2) = (2 : Int32) := by decide
theorem ic_2n : Int32.ofInt (2) = nI 2 := by decide
theorem ic_3 : Int32.ofInt (3) = (3 : Int32) := by decide
theorem ic_3n : Int32.ofInt (3) = nI 3 := by decide
theorem ic_4 : Int32.ofInt (4) = (4 : Int32) := by decide
theorem ic_4n : Int32.ofInt (4) = nI 4 := by decide
theorem ic_5 : Int32.ofInt (5) = (5 : Int32) := by decide
theorem ic_5n : Int32.ofInt (5) = nI 5 := by decide
theorem bp_m6 : (Int8.ofInt (-6)).toInt32 = (-6 : Int32) := by decide
theorem bp_m5 : (Int8.ofInt (-5)).toInt32 = (-5 : Int32) := by decide
theorem bp_m4 : (Int8.ofInt (-4)).toInt32 = (-4 : Int32) := by decide
theorem bp_m3 : (Int8.ofInt (-3)).toInt32 = (-3 : Int32) := by decide
theorem bp_m2 : (Int8.ofInt (-2)).toInt32 = (-2 : Int32) := by decide
theorem bp_6 : (Int8.ofInt (6)).toInt32 = (6 : Int32) := by decide
theorem bp_6n : (Int8.ofInt (6)).toInt32 = nI 6 := by decide
theorem bp_7 : (Int8.ofInt (7)).toInt32 = (7 : Int32) := by decide
theorem bp_7n : (Int8.ofInt (7)).toInt32 = nI 7 := by decide
theorem bp_8 : (Int8.ofInt (8)).toInt32 = (8 : Int32) := by decide
theorem bp_8n : (Int8.ofInt (8)).toInt32 = nI 8 := by decide
theorem bp_9 : (Int8.ofInt (9)).toInt32 = (9 : Int32) := by decide
theorem bp_9n : (Int8.ofInt (9)).toInt32 = nI 9 := by decide
theorem bp_10 : (Int8.ofInt (10)).toInt32 = (10 : Int32) := by decide
theorem bp_10n : (Int8.ofInt (10)).toInt32 = nI 10 := by decide
theorem bp_11 : (Int8.ofInt (11)).toInt32 = (11 : Int32) := by decide
theorem bp_11n : (Int8.ofInt (11)).toInt32 = nI 11 := by decide
theorem bp_12 : (Int8.ofInt (12)).toInt32 = (12 : Int32) := by decide
theorem bp_12n : (Int8.ofInt (12)).toInt32 = nI 12 := by decide
theorem bp_13 : (Int8.ofInt (13)).toInt32 = (13 : Int32) := by decide
theorem bp_13n : (Int8.ofInt (13)).toInt32 = nI 13 := by decide
theorem bp_14 : (Int8.ofInt (14)).toInt32 = (14 : Int32) := by decide
theorem bp_14n : (Int8.ofInt (14)).toInt32 = nI 14 := by decide
theorem bp_15 : (Int8.ofInt (15)).toInt32 = (15 : Int32) := by decide
theorem bp_15n : (Int8.ofInt (15)).toInt32 = nI 15 := by decide
theorem bp_16 : (Int8.ofInt (16)).toInt32 = (16 : Int32) := by decide
theorem bp_16n : (Int8.ofInt (16)).toInt32 = nI 16 := by decide
theorem bp_17 : (Int8.ofInt (17)).toInt32 = (17 : Int32) := by decide
theorem bp_17n : (Int8.ofInt (17)).toInt32 = nI 17 := by decide
theorem bp_18 : (Int8.ofInt (18)).toInt32 = (18 : Int32) := by decide
theorem bp_18n : (Int8.ofInt (18)).toInt32 = nI 18 := by decide
theorem bp_19 : (Int8.ofInt (19)).toInt32 = (19 : Int32) := by decide
theorem bp_19n : (Int8.ofInt (19)).toInt32 = nI 19 := by decide
theorem bp_20 : (Int8.ofInt (20)).toInt32 = (20 : Int32) := by decide
theorem bp_20n : (Int8.ofInt (20)).toInt32 = nI 20 := by decide
theorem bp_31 : (Int8.ofInt (31)).toInt32 = (31 : Int32) := by decide
theorem bp_31n : (Int8.ofInt (31)).toInt32 = nI 31 := by decide
theorem bp_32 : (Int8.ofInt (32)).toInt32 = (32 : Int32) := by decide
theorem bp_32n : (Int8.ofInt (32)).toInt32 = nI 32 := by decide
theorem bp_40 : (Int8.ofInt (40)).toInt32 = (40 : Int32) := by decide
theorem bp_40n : (Int8.ofInt (40)).toInt32 = nI 40 := by decide
theorem bp_43 : (Int8.ofInt (43)).toInt32 = (43 : Int32) := by decide
theorem bp_43n : (Int8.ofInt (43)).toInt32 = nI 43 := by decide
theorem bp_48 : (Int8.ofInt (48)).toInt32 = (48 : Int32) := by decide
theorem bp_48n : (Int8.ofInt (48)).toInt32 = nI 48 := by decide
theorem bp_57 : (Int8.ofInt (57)).toInt32 = (57 : Int32) := by decide
theorem bp_57n : (Int8.ofInt (57)).toInt32 = nI 57 := by decide
theorem bp_59 : (Int8.ofInt (59)).toInt32 = (59 : Int32) := by decide
theorem bp_59n : (Int8.ofInt (59)).toInt32 = nI 59 := by decide
theorem bp_64 : (Int8.ofInt (64)).toInt32 = (64 : Int32) := by decide
theorem bp_64n : (Int8.ofInt (64)).toInt32 = nI 64 := by decide
theorem bp_80 : (Int8.ofInt (80)).toInt32 = (80 : Int32) := by decide
theorem bp_80n : (Int8.ofInt (80)).toInt32 = nI 80 := by decide
theorem bp_99 : (Int8.ofInt (99)).toInt32 = (99 : Int32) := by decide
theorem bp_99n : (Int8.ofInt (99)).toInt32 = nI 99 := by decide
theorem bp_100 : (Int8.ofInt (100)).toInt32 = (100 : Int32) := by decide
theorem bp_100n : (Int8.ofInt (100)).toInt32 = nI 100 := by decide
theorem bp_104 : (Int8.ofInt (104)).toInt32 = (104 : Int32) := by decide
theorem bp_104n : (Int8.ofInt (104)).toInt32 = nI 104 := by decide
theorem bp_108 : (Int8.ofInt (108)).toInt32 = (108 : Int32) := by decide
theorem bp_108n : (Int8.ofInt (108)).toInt32 = nI 108 := by decide
theorem bp_109 : (Int8.ofInt (109)).toInt32 = (109 : Int32) := by decide
theorem bp_109n : (Int8.ofInt (109)).toInt32 = nI 109 := by decide
theorem bp_111 : (Int8.ofInt (111)).toInt32 = (111 : Int32) := by decide
theorem bp_111n : (Int8.ofInt (111)).toInt32 = nI 111 := by decide
theorem bp_116 : (Int8.ofInt (116)).toInt32 = (116 : Int32) := by decide
theorem bp_116n : (Int8.ofInt (116)).toInt32 = nI 116 := by decide
theorem bp_120 : (Int8.ofInt (120)).toInt32 = (120 : Int32) := by decide
theorem bp_120n : (Int8.ofInt (120)).toInt32 = nI 120 := by decide
theorem bp_126 : (Int8.ofInt (126)).toInt32 = (126 : Int32) := by decide
theorem bp_126n : (Int8.ofInt (126)).toInt32 = nI 126 := by decide
theorem sp_154 : (Int16.ofInt (154)).toInt32 = (154 : Int32) := by decide
theorem sp_154n : (Int16.ofInt (154)).toInt32 = nI 154 := by decide
theorem sp_220 : (Int16.ofInt (220)).toInt32 = (220 : Int32) := by decide
theorem sp_220n : (Int16.ofInt (220)).toInt32 = nI 220 := by decide
theorem sp_308 : (Int16.ofInt (308)).toInt32 = (308 : Int32) := by decide
theorem sp_308n : (Int16.ofInt (308)).toInt32 = nI 308 := by decide
theorem sp_600 : (Int16.ofInt (600)).toInt32 = (600 : Int32) := by decide
theorem sp_600n : (Int16.ofInt (600)).toInt32 = nI 600 := by decide
theorem sp_601 : (Int16.ofInt (601)).toInt32 = (601 : Int32) := by decide
theorem sp_601n : (Int16.ofInt (601)).toInt32 = nI 601 := by decide
theorem sp_616 : (Int16.ofInt (616)).toInt32 = (616 : Int32) := by decide
theorem sp_616n : (Int16.ofInt (616)).toInt32 = nI 616 := by decide
theorem sp_770 : (Int16.ofInt (770)).toInt32 = (770 : Int32) := by decide
theorem sp_770n : (Int16.ofInt (770)).toInt32 = nI 770 := by decide
theorem sp_9999 : (Int16.ofInt (9999)).toInt32 = (9999 : Int32) := by decide
theorem sp_9999n : (Int16.ofInt (9999)).toInt32 = nI 9999 := by decide
theorem lays_X0 : ∀ w ∈ u_ws RX0 TX0 8, w ∈ hgd := by decide +kernel
theorem lays_X1 : ∀ w ∈ u_ws RX1 TX1 2, w ∈ hgd := by decide +kernel
theorem lays_X3 : ∀ w ∈ u_ws RX3 TX3 2, w ∈ hgd := by decide +kernel
theorem lays_X4 : ∀ w ∈ u_ws RX4 TX4 16, w ∈ hgd := by decide +kernel
theorem lays_X5 : ∀ w ∈ u_ws RX5 TX5 8, w ∈ hgd := by decide +kernel
theorem lays_X6 : ∀ w ∈ u_ws RX6 TX6 5, w ∈ hgd := by decide +kernel
theorem lays_X7 : ∀ w ∈ u_ws RX7 TX7 15, w ∈ hgd := by decide +kernel
theorem fl_X6_10 : hFl RX6 10 5 0 := ⟨RX6, TX6, 5, tyX6, rfl, rfl, by decide, hgd_at 270 (by decide +kernel) rfl, lays_X6, rfl, tyX6_ok, nmX6, by decide, by decide, by decide, by decide, fun _ => Or.inl ⟨_, rfl⟩⟩
theorem fl_X6_16 : hFl RX6 16 5 1 := ⟨RX6, TX6, 5, tyX6, rfl, rfl, by decide, hgd_at 271 (by decide +kernel) rfl, lays_X6, rfl, tyX6_ok, nmX6, by decide, by decide, by decide, by decide, fun _ => Or.inl ⟨_, rfl⟩⟩
theorem fl_X6_22 : hFl RX6 22 5 2 := ⟨RX6, TX6, 5, tyX6, rfl, rfl, by decide, hgd_at 272 (by decide +kernel) rfl, lays_X6, rfl, tyX6_ok, nmX6, by decide, by decide, by decide, by decide, fun _ => Or.inl ⟨_, rfl⟩⟩
theorem fl_X6_29 : hFl RX6 29 5 3 := ⟨RX6, TX6, 5, tyX6, rfl, rfl, by decide, hgd_at 273 (by decide +kernel) rfl, lays_X6, rfl, tyX6_ok, nmX6, by decide, by decide, by decide, by decide, fun _ => Or.inl ⟨_, rfl⟩⟩
theorem fl_X6_36 : hFl RX6 36 5 4 := ⟨RX6, TX6, 5, tyX6, rfl, rfl, by decide, hgd_at 274 (by decide +kernel) rfl, lays_X6, rfl, tyX6_ok, nmX6, by decide, by decide, by decide, by decide, fun _ => Or.inl ⟨_, rfl⟩⟩
theorem fl_X6_44 : hFl RX6 44 3 3 := ⟨RX4, TX4, 16, tyX4, rfl, rfl, by decide, hgd_at 142 (by decide +kernel) rfl, lays_X4, rfl, tyX4_ok, nmX4, by decide, by decide, by decide, by decide, fun h => absurd h (by decide)⟩
theorem fl_X6_52 : hFl RX6 52 3 4 := ⟨RX4, TX4, 16, tyX4, rfl, rfl, by decide, hgd_at 144 (by decide +kernel) rfl, lays_X4, rfl, tyX4_ok, nmX4, by decide, by decide, by decide, by decide, fun h => absurd h (by decide)⟩
theorem fl_X6_58 : hFl RX6 58 3 5 := ⟨RX4, TX4, 16, tyX4, rfl, rfl, by decide, hgd_at 146 (by decide +kernel) rfl, lays_X4, rfl, tyX4_ok, nmX4, by decide, by decide, by decide, by decide, fun h => absurd h (by decide)⟩
theorem fl_X6_61 : hFl RX6 61 3 6 := ⟨RX4, TX4, 16, tyX4, rfl, rfl, by decide, hgd_at 148 (by decide +kernel) rfl, lays_X4, rfl, tyX4_ok, nmX4, by decide, by decide, by decide, by decide, fun h => absurd h (by decide)⟩
theorem fl_X6_69 : hFl RX6 69 3 7 := ⟨RX4, TX4, 16, tyX4, rfl, rfl, by decide, hgd_at 150 (by decide +kernel) rfl, lays_X4, rfl, tyX4_ok, nmX4, by decide, by decide, by decide, by decide, fun h => absurd h (by decide)⟩
theorem fl_X6_103 : hFl RX6 103 0 0 := ⟨RX0, TX0, 8, tyX0, rfl, rfl, by decide, hgd_at 93 (by decide +kernel) rfl, lays_X0, rfl, tyX0_ok, nmX0, by decide, by decide, by decide, by decide, fun h => absurd h (by decide)⟩
theorem fl_X6_111 : hFl RX6 111 0 1 := ⟨RX0, TX0, 8, tyX0, rfl, rfl, by decide, hgd_at 96 (by decide +kernel) rfl, lays_X0, rfl, tyX0_ok, nmX0, by decide, by decide, by decide, by decide, fun h => absurd h (by decide)⟩
theorem fl_X6_115 : Cond.fieldLink RX6 115 "HoldingStack$Kind" "number" "I" ∈ hgd := hgd_at 959 (by decide +kernel) rfl
theorem fl_X6_116 : hFl RX6 116 0 2 := ⟨RX0, TX0, 8, tyX0, rfl, rfl, by decide, hgd_at 99 (by decide +kernel) rfl, lays_X0, rfl, tyX0_ok, nmX0, by decide, by decide, by decide, by decide, fun h => absurd h (by decide)⟩
theorem fl_X6_119 : hFl RX6 119 0 3 := ⟨RX0, TX0, 8, tyX0, rfl, rfl, by decide, hgd_at 103 (by decide +kernel) rfl, lays_X0, rfl, tyX0_ok, nmX0, by decide, by decide, by decide, by decide, fun h => absurd h (by decide)⟩
theorem fl_X6_129 : hFl RX6 129 0 7 := ⟨RX0, TX0, 8, tyX0, rfl, rfl, by decide, hgd_at 114 (by decide +kernel) rfl, lays_X0, rfl, tyX0_ok, nmX0, by decide, by decide, by decide, by decide, fun h => absurd h (by decide)⟩
theorem fl_X6_136 : hFl RX6 136 3 9 := ⟨RX4, TX4, 16, tyX4, rfl, rfl, by decide, hgd_at 154 (by decide +kernel) rfl, lays_X4, rfl, tyX4_ok, nmX4, by decide, by decide, by decide, by decide, fun h => absurd h (by decide)⟩
theorem fl_X6_139 : hFl RX6 139 3 10 := ⟨RX4, TX4, 16, tyX4, rfl, rfl, by decide, hgd_at 156 (by decide +kernel) rfl, lays_X4, rfl, tyX4_ok, nmX4, by decide, by decide, by decide, by decide, fun h => absurd h (by decide)⟩
theorem fl_X6_142 : hFl RX6 142 3 8 := ⟨RX4, TX4, 16, tyX4, rfl, rfl, by decide, hgd_at 152 (by decide +kernel) rfl, lays_X4, rfl, tyX4_ok, nmX4, by decide, by decide, by decide, by decide, fun h => absurd h (by decide)⟩
theorem fl_X6_145 : hFl RX6 145 3 15 := ⟨RX4, TX4, 16, tyX4, rfl, rfl, by decide, hgd_at 166 (by decide +kernel) rfl, lays_X4, rfl, tyX4_ok, nmX4, by decide, by decide, by decide, by decide, fun h => absurd h (by decide)⟩
theorem fl_X6_148 : hFl RX6 148 1 1 := ⟨RX1, TX1, 2, tyX1, rfl, rfl, by decide, hgd_at 211 (by decide +kernel) rfl, lays_X1, rfl, tyX1_ok, nmX1, by decide, by decide, by decide, by decide, fun h => absurd h (by decide)⟩
theorem fl_X6_160 : hFl RX6 160 0 4 := ⟨RX0, TX0, 8, tyX0, rfl, rfl, by decide, hgd_at 105 (by decide +kernel) rfl, lays_X0, rfl, tyX0_ok, nmX0, by decide, by decide, by decide, by decide, fun h => absurd h (by decide)⟩
theorem fl_X6_166 : hFl RX6 166 0 6 := ⟨RX0, TX0, 8, tyX0, rfl, rfl, by decide, hgd_at 112 (by decide +kernel) rfl, lays_X0, rfl, tyX0_ok, nmX0, by decide, by decide, by decide, by decide, fun h => absurd h (by decide)⟩
theorem fl_X6_205 : hFl RX6 205 4 1 := ⟨RX5, TX5, 8, tyX5, rfl, rfl, by decide, hgd_at 241 (by decide +kernel) rfl, lays_X5, rfl, tyX5_ok, nmX5, by decide, by decide, by decide, by decide, fun h => absurd h (by decide)⟩
theorem fl_X6_239 : hFl RX6 239 3 2 := ⟨RX4, TX4, 16, tyX4, rfl, rfl, by decide, hgd_at 140 (by decide +kernel) rfl, lays_X4, rfl, tyX4_ok, nmX4, by decide, by decide, by decide, by decide, fun h => absurd h (by decide)⟩
theorem fl_X6_250 : hFl RX6 250 0 5 := ⟨RX0, TX0, 8, tyX0, rfl, rfl, by decide, hgd_at 109 (by decide +kernel) rfl, lays_X0, rfl, tyX0_ok, nmX0, by decide, by decide, by decide, by decide, fun h => absurd h (by decide)⟩
theorem fl_X6_256 : hFl RX6 256 3 11 := ⟨RX4, TX4, 16, tyX4, rfl, rfl, by decide, hgd_at 158 (by decide +kernel) rfl, lays_X4, rfl, tyX4_ok, nmX4, by decide, by decide, by decide, by decide, fun h => absurd h (by decide)⟩
theorem fl_X6_259 : hFl RX6 259 3 12 := ⟨RX4, TX4, 16, tyX4, rfl, rfl, by decide, hgd_at 160 (by decide +kernel) rfl, lays_X4, rfl, tyX4_ok, nmX4, by decide, by decide, by decide, by decide, fun h => absurd h (by decide)⟩
theorem fl_X6_262 : hFl RX6 262 3 13 := ⟨RX4, TX4, 16, tyX4, rfl, rfl, by decide, hgd_at 162 (by decide +kernel) rfl, lays_X4, rfl, tyX4_ok, nmX4, by decide, by decide, by decide, by decide, fun h => absurd h (by decide)⟩
theorem fl_X6_265 : hFl RX6 265 3 14 := ⟨RX4, TX4, 16, tyX4, rfl, rfl, by decide, hgd_at 164 (by decide +kernel) rfl, lays_X4, rfl, tyX4_ok, nmX4, by decide, by decide, by decide, by decide, fun h => absurd h (by decide)⟩
theorem fl_X6_268 : hFl RX6 268 4 4 := ⟨RX5, TX5, 8, tyX5, rfl, rfl, by decide, hgd_at 245 (by decide +kernel) rfl, lays_X5, rfl, tyX5_ok, nmX5, by decide, by decide, by decide, by decide, fun h => absurd h (by decide)⟩
theorem fl_X6_272 : hFl RX6 272 4 5 := ⟨RX5, TX5, 8, tyX5, rfl, rfl, by decide, hgd_at 247 (by decide +kernel) rfl, lays_X5, rfl, tyX5_ok, nmX5, by decide, by decide, by decide, by decide, fun h => absurd h (by decide)⟩
theorem fl_X6_273 : hFl RX6 273 4 6 := ⟨RX5, TX5, 8, tyX5, rfl, rfl, by decide, hgd_at 249 (by decide +kernel) rfl, lays_X5, rfl, tyX5_ok, nmX5, by decide, by decide, by decide, by decide, fun h => absurd h (by decide)⟩
theorem fl_X6_274 : hFl RX6 274 4 7 := ⟨RX5, TX5, 8, tyX5, rfl, rfl, by decide, hgd_at 251 (by decide +kernel) rfl, lays_X5, rfl, tyX5_ok, nmX5, by decide, by decide, by decide, by decide, fun h => absurd h (by decide)⟩
theorem fl_X0_9 : Cond.fieldLink RX0 9 "HoldingStack$Kind" "LIGHT" "LHoldingStack$Kind;" ∈ hgd := hgd_at 90 (by decide +kernel) rfl
theorem fl_X0_15 : hFl RX0 15 0 1 := ⟨RX0, TX0, 8, tyX0, rfl, rfl, by decide, hgd_at 95 (by decide +kernel) rfl, lays_X0, rfl, tyX0_ok, nmX0, by decide, by decide, by decide, by decide, fun h => absurd h (by decide)⟩
theorem fl_X0_20 : hFl RX0 20 0 0 := ⟨RX0, TX0, 8, tyX0, rfl, rfl, by decide, hgd_at 92 (by decide +kernel) rfl, lays_X0, rfl, tyX0_ok, nmX0, by decide, by decide, by decide, by decide, fun h => absurd h (by decide)⟩
theorem fl_X0_24 : hFl RX0 24 0 2 := ⟨RX0, TX0, 8, tyX0, rfl, rfl, by decide, hgd_at 98 (by decide +kernel) rfl, lays_X0, rfl, tyX0_ok, nmX0, by decide, by decide, by decide, by decide, fun h => absurd h (by decide)⟩
theorem fl_X0_27 : hFl RX0 27 0 3 := ⟨RX0, TX0, 8, tyX0, rfl, rfl, by decide, hgd_at 101 (by decide +kernel) rfl, lays_X0, rfl, tyX0_ok, nmX0, by decide, by decide, by decide, by decide, fun h => absurd h (by decide)⟩
theorem fl_X0_30 : hFl RX0 30 0 4 := ⟨RX0, TX0, 8, tyX0, rfl, rfl, by decide, hgd_at 104 (by decide +kernel) rfl, lays_X0, rfl, tyX0_ok, nmX0, by decide, by decide, by decide, by decide, fun h => absurd h (by decide)⟩
theorem fl_X0_33 : hFl RX0 33 0 5 := ⟨RX0, TX0, 8, tyX0, rfl, rfl, by decide, hgd_at 107 (by decide +kernel) rfl, lays_X0, rfl, tyX0_ok, nmX0, by decide, by decide, by decide, by decide, fun h => absurd h (by decide)⟩
theorem fl_X0_36 : hFl RX0 36 0 6 := ⟨RX0, TX0, 8, tyX0, rfl, rfl, by decide, hgd_at 110 (by decide +kernel) rfl, lays_X0, rfl, tyX0_ok, nmX0, by decide, by decide, by decide, by decide, fun h => absurd h (by decide)⟩
theorem fl_X0_40 : hFl RX0 40 0 7 := ⟨RX0, TX0, 8, tyX0, rfl, rfl, by decide, hgd_at 113 (by decide +kernel) rfl, lays_X0, rfl, tyX0_ok, nmX0, by decide, by decide, by decide, by decide, fun h => absurd h (by decide)⟩
theorem fl_X0_43 : Cond.fieldLink RX0 43 "HoldingStack$Kind" "reserve" "I" ∈ hgd := hgd_at 957 (by decide +kernel) rfl
theorem fl_X0_46 : Cond.fieldLink RX0 46 "HoldingStack$Kind" "rate" "I" ∈ hgd := hgd_at 956 (by decide +kernel) rfl
theorem fl_X1_11 : hFl RX1 11 1 0 := ⟨RX1, TX1, 2, tyX1, rfl, rfl, by decide, hgd_at 209 (by decide +kernel) rfl, lays_X1, rfl, tyX1_ok, nmX1, by decide, by decide, by decide, by decide, fun _ => Or.inr ⟨_, rfl⟩⟩
theorem fl_X1_18 : hFl RX1 18 1 1 := ⟨RX1, TX1, 2, tyX1, rfl, rfl, by decide, hgd_at 210 (by decide +kernel) rfl, lays_X1, rfl, tyX1_ok, nmX1, by decide, by decide, by decide, by decide, fun h => absurd h (by decide)⟩
theorem fl_X2_3 : Cond.fieldLink RX2 3 "HoldingStack$Kind" "LIGHT" "LHoldingStack$Kind;" ∈ hgd := hgd_at 352 (by decide +kernel) rfl
theorem fl_X2_7 : Cond.fieldLink RX2 7 "HoldingStack$Kind" "MEDIUM" "LHoldingStack$Kind;" ∈ hgd := hgd_at 353 (by decide +kernel) rfl
theorem fl_X2_10 : Cond.fieldLink RX2 10 "HoldingStack$Kind" "HEAVY" "LHoldingStack$Kind;" ∈ hgd := hgd_at 355 (by decide +kernel) rfl
theorem fl_X3_11 : hFl RX3 11 2 0 := ⟨RX3, TX3, 2, tyX3, rfl, rfl, by decide, hgd_at 225 (by decide +kernel) rfl, lays_X3, rfl, tyX3_ok, nmX3, by decide, by decide, by decide, by decide, fun _ => Or.inr ⟨_, rfl⟩⟩
theorem fl_X3_17 : hFl RX3 17 2 1 := ⟨RX3, TX3, 2, tyX3, rfl, rfl, by decide, hgd_at 226 (by decide +kernel) rfl, lays_X3, rfl, tyX3_ok, nmX3, by decide, by decide, by decide, by decide, fun _ => Or.inr ⟨_, rfl⟩⟩
theorem fl_X4_11 : hFl RX4 11 3 0 := ⟨RX4, TX4, 16, tyX4, rfl, rfl, by decide, hgd_at 137 (by decide +kernel) rfl, lays_X4, rfl, tyX4_ok, nmX4, by decide, by decide, by decide, by decide, fun _ => Or.inr ⟨_, rfl⟩⟩
theorem fl_X4_17 : hFl RX4 17 3 1 := ⟨RX4, TX4, 16, tyX4, rfl, rfl, by decide, hgd_at 138 (by decide +kernel) rfl, lays_X4, rfl, tyX4_ok, nmX4, by decide, by decide, by decide, by decide, fun _ => Or.inr ⟨_, rfl⟩⟩
theorem fl_X4_21 : hFl RX4 21 3 3 := ⟨RX4, TX4, 16, tyX4, rfl, rfl, by decide, hgd_at 141 (by decide +kernel) rfl, lays_X4, rfl, tyX4_ok, nmX4, by decide, by decide, by decide, by decide, fun h => absurd h (by decide)⟩
theorem fl_X4_25 : hFl RX4 25 3 4 := ⟨RX4, TX4, 16, tyX4, rfl, rfl, by decide, hgd_at 143 (by decide +kernel) rfl, lays_X4, rfl, tyX4_ok, nmX4, by decide, by decide, by decide, by decide, fun h => absurd h (by decide)⟩
theorem fl_X4_28 : hFl RX4 28 3 5 := ⟨RX4, TX4, 16, tyX4, rfl, rfl, by decide, hgd_at 145 (by decide +kernel) rfl, lays_X4, rfl, tyX4_ok, nmX4, by decide, by decide, by decide, by decide, fun h => absurd h (by decide)⟩
theorem fl_X4_31 : hFl RX4 31 3 6 := ⟨RX4, TX4, 16, tyX4, rfl, rfl, by decide, hgd_at 147 (by decide +kernel) rfl, lays_X4, rfl, tyX4_ok, nmX4, by decide, by decide, by decide, by decide, fun h => absurd h (by decide)⟩
theorem fl_X4_35 : hFl RX4 35 3 7 := ⟨RX4, TX4, 16, tyX4, rfl, rfl, by decide, hgd_at 149 (by decide +kernel) rfl, lays_X4, rfl, tyX4_ok, nmX4, by decide, by decide, by decide, by decide, fun h => absurd h (by decide)⟩
theorem fl_X4_47 : hFl RX4 47 3 2 := ⟨RX4, TX4, 16, tyX4, rfl, rfl, by decide, hgd_at 139 (by decide +kernel) rfl, lays_X4, rfl, tyX4_ok, nmX4, by decide, by decide, by decide, by decide, fun h => absurd h (by decide)⟩
theorem fl_X4_50 : hFl RX4 50 3 8 := ⟨RX4, TX4, 16, tyX4, rfl, rfl, by decide, hgd_at 151 (by decide +kernel) rfl, lays_X4, rfl, tyX4_ok, nmX4, by decide, by decide, by decide, by decide, fun h => absurd h (by decide)⟩
theorem fl_X4_53 : hFl RX4 53 3 9 := ⟨RX4, TX4, 16, tyX4, rfl, rfl, by decide, hgd_at 153 (by decide +kernel) rfl, lays_X4, rfl, tyX4_ok, nmX4, by decide, by decide, by decide, by decide, fun h => absurd h (by decide)⟩
theorem fl_X4_56 : hFl RX4 56 3 10 := ⟨RX4, TX4, 16, tyX4, rfl, rfl, by decide, hgd_at 155 (by decide +kernel) rfl, lays_X4, rfl, tyX4_ok, nmX4, by decide, by decide, by decide, by decide, fun h => absurd h (by decide)⟩
theorem fl_X4_59 : hFl RX4 59 3 11 := ⟨RX4, TX4, 16, tyX4, rfl, rfl, by decide, hgd_at 157 (by decide +kernel) rfl, lays_X4, rfl, tyX4_ok, nmX4, by decide, by decide, by decide, by decide, fun h => absurd h (by decide)⟩
theorem fl_X4_62 : hFl RX4 62 3 12 := ⟨RX4, TX4, 16, tyX4, rfl, rfl, by decide, hgd_at 159 (by decide +kernel) rfl, lays_X4, rfl, tyX4_ok, nmX4, by decide, by decide, by decide, by decide, fun h => absurd h (by decide)⟩
theorem fl_X4_65 : hFl RX4 65 3 13 := ⟨RX4, TX4, 16, tyX4, rfl, rfl, by decide, hgd_at 161 (by decide +kernel) rfl, lays_X4, rfl, tyX4_ok, nmX4, by decide, by decide, by decide, by decide, fun h => absurd h (by decide)⟩
theorem fl_X4_68 : hFl RX4 68 3 14 := ⟨RX4, TX4, 16, tyX4, rfl, rfl, by decide, hgd_at 163 (by decide +kernel) rfl, lays_X4, rfl, tyX4_ok, nmX4, by decide, by decide, by decide, by decide, fun h => absurd h (by decide)⟩
theorem fl_X4_71 : hFl RX4 71 3 15 := ⟨RX4, TX4, 16, tyX4, rfl, rfl, by decide, hgd_at 165 (by decide +kernel) rfl, lays_X4, rfl, tyX4_ok, nmX4, by decide, by decide, by decide, by decide, fun h => absurd h (by decide)⟩
theorem fl_X4_82 : hFl RX4 82 0 5 := ⟨RX0, TX0, 8, tyX0, rfl, rfl, by decide, hgd_at 108 (by decide +kernel) rfl, lays_X0, rfl, tyX0_ok, nmX0, by decide, by decide, by decide, by decide, fun h => absurd h (by decide)⟩
theorem fl_X4_92 : hFl RX4 92 0 3 := ⟨RX0, TX0, 8, tyX0, rfl, rfl, by decide, hgd_at 102 (by decide +kernel) rfl, lays_X0, rfl, tyX0_ok, nmX0, by decide, by decide, by decide, by decide, fun h => absurd h (by decide)⟩
theorem fl_X4_98 : Cond.fieldLink RX4 98 "HoldingStack$Kind" "reserve" "I" ∈ hgd := hgd_at 955 (by decide +kernel) rfl
theorem fl_X4_111 : hFl RX4 111 0 1 := ⟨RX0, TX0, 8, tyX0, rfl, rfl, by decide, hgd_at 97 (by decide +kernel) rfl, lays_X0, rfl, tyX0_ok, nmX0, by decide, by decide, by decide, by decide, fun h => absurd h (by decide)⟩
theorem fl_X4_115 : hFl RX4 115 0 2 := ⟨RX0, TX0, 8, tyX0, rfl, rfl, by decide, hgd_at 100 (by decide +kernel) rfl, lays_X0, rfl, tyX0_ok, nmX0, by decide, by decide, by decide, by decide, fun h => absurd h (by decide)⟩
theorem fl_X4_118 : hFl RX4 118 0 4 := ⟨RX0, TX0, 8, tyX0, rfl, rfl, by decide, hgd_at 106 (by decide +kernel) rfl, lays_X0, rfl, tyX0_ok, nmX0, by decide, by decide, by decide, by decide, fun h => absurd h (by decide)⟩
theorem fl_X4_121 : hFl RX4 121 0 6 := ⟨RX0, TX0, 8, tyX0, rfl, rfl, by decide, hgd_at 111 (by decide +kernel) rfl, lays_X0, rfl, tyX0_ok, nmX0, by decide, by decide, by decide, by decide, fun h => absurd h (by decide)⟩
theorem fl_X4_124 : hFl RX4 124 0 0 := ⟨RX0, TX0, 8, tyX0, rfl, rfl, by decide, hgd_at 94 (by decide +kernel) rfl, lays_X0, rfl, tyX0_ok, nmX0, by decide, by decide, by decide, by decide, fun h => absurd h (by decide)⟩
theorem fl_X4_167 : Cond.fieldLink RX4 167 "HoldingStack$Kind" "wake" "I" ∈ hgd := hgd_at 958 (by decide +kernel) rfl
theorem fl_X4_176 : hFl RX4 176 0 7 := ⟨RX0, TX0, 8, tyX0, rfl, rfl, by decide, hgd_at 115 (by decide +kernel) rfl, lays_X0, rfl, tyX0_ok, nmX0, by decide, by decide, by decide, by decide, fun h => absurd h (by decide)⟩
theorem fl_X5_9 : hFl RX5 9 4 0 := ⟨RX5, TX5, 8, tyX5, rfl, rfl, by decide, hgd_at 239 (by decide +kernel) rfl, lays_X5, rfl, tyX5_ok, nmX5, by decide, by decide, by decide, by decide, fun _ => Or.inr ⟨_, rfl⟩⟩
theorem fl_X5_15 : hFl RX5 15 4 3 := ⟨RX5, TX5, 8, tyX5, rfl, rfl, by decide, hgd_at 243 (by decide +kernel) rfl, lays_X5, rfl, tyX5_ok, nmX5, by decide, by decide, by decide, by decide, fun h => absurd h (by decide)⟩
theorem fl_X5_19 : hFl RX5 19 4 1 := ⟨RX5, TX5, 8, tyX5, rfl, rfl, by decide, hgd_at 240 (by decide +kernel) rfl, lays_X5, rfl, tyX5_ok, nmX5, by decide, by decide, by decide, by decide, fun h => absurd h (by decide)⟩
theorem fl_X5_22 : hFl RX5 22 4 2 := ⟨RX5, TX5, 8, tyX5, rfl, rfl, by decide, hgd_at 242 (by decide +kernel) rfl, lays_X5, rfl, tyX5_ok, nmX5, by decide, by decide, by decide, by decide, fun h => absurd h (by decide)⟩
theorem fl_X5_36 : hFl RX5 36 4 4 := ⟨RX5, TX5, 8, tyX5, rfl, rfl, by decide, hgd_at 244 (by decide +kernel) rfl, lays_X5, rfl, tyX5_ok, nmX5, by decide, by decide, by decide, by decide, fun h => absurd h (by decide)⟩
theorem fl_X5_47 : hFl RX5 47 4 7 := ⟨RX5, TX5, 8, tyX5, rfl, rfl, by decide, hgd_at 250 (by decide +kernel) rfl, lays_X5, rfl, tyX5_ok, nmX5, by decide, by decide, by decide, by decide, fun h => absurd h (by decide)⟩
theorem fl_X5_62 : hFl RX5 62 4 5 := ⟨RX5, TX5, 8, tyX5, rfl, rfl, by decide, hgd_at 246 (by decide +kernel) rfl, lays_X5, rfl, tyX5_ok, nmX5, by decide, by decide, by decide, by decide, fun h => absurd h (by decide)⟩
theorem fl_X5_66 : hFl RX5 66 4 6 := ⟨RX5, TX5, 8, tyX5, rfl, rfl, by decide, hgd_at 248 (by decide +kernel) rfl, lays_X5, rfl, tyX5_ok, nmX5, by decide, by decide, by decide, by decide, fun h => absurd h (by decide)⟩
theorem fl_X5_69 : Cond.fieldLink RX5 69 "HoldingStack$Kind" "LIGHT" "LHoldingStack$Kind;" ∈ hgd := hgd_at 589 (by decide +kernel) rfl
theorem fl_X5_74 : Cond.fieldLink RX5 74 "HoldingStack$Kind" "MEDIUM" "LHoldingStack$Kind;" ∈ hgd := hgd_at 590 (by decide +kernel) rfl
theorem fl_X5_77 : Cond.fieldLink RX5 77 "HoldingStack$Kind" "HEAVY" "LHoldingStack$Kind;" ∈ hgd := hgd_at 591 (by decide +kernel) rfl
theorem fl_X7_7 : hFl RX7 7 6 0 := ⟨RX7, TX7, 15, tyX7, rfl, rfl, by decide, hgd_at 658 (by decide +kernel) rfl, lays_X7, rfl, tyX7_ok, nmX7, by decide, by decide, by decide, by decide, fun _ => Or.inr ⟨_, rfl⟩⟩
theorem fl_X7_13 : hFl RX7 13 6 1 := ⟨RX7, TX7, 15, tyX7, rfl, rfl, by decide, hgd_at 659 (by decide +kernel) rfl, lays_X7, rfl, tyX7_ok, nmX7, by decide, by decide, by decide, by decide, fun _ => Or.inr ⟨_, rfl⟩⟩
theorem fl_X7_16 : hFl RX7 16 6 3 := ⟨RX7, TX7, 15, tyX7, rfl, rfl, by decide, hgd_at 661 (by decide +kernel) rfl, lays_X7, rfl, tyX7_ok, nmX7, by decide, by decide, by decide, by decide, fun _ => Or.inr ⟨_, rfl⟩⟩
theorem fl_X7_19 : hFl RX7 19 6 4 := ⟨RX7, TX7, 15, tyX7, rfl, rfl, by decide, hgd_at 662 (by decide +kernel) rfl, lays_X7, rfl, tyX7_ok, nmX7, by decide, by decide, by decide, by decide, fun _ => Or.inr ⟨_, rfl⟩⟩
theorem fl_X7_22 : hFl RX7 22 6 5 := ⟨RX7, TX7, 15, tyX7, rfl, rfl, by decide, hgd_at 663 (by decide +kernel) rfl, lays_X7, rfl, tyX7_ok, nmX7, by decide, by decide, by decide, by decide, fun _ => Or.inr ⟨_, rfl⟩⟩
theorem fl_X7_26 : hFl RX7 26 6 6 := ⟨RX7, TX7, 15, tyX7, rfl, rfl, by decide, hgd_at 664 (by decide +kernel) rfl, lays_X7, rfl, tyX7_ok, nmX7, by decide, by decide, by decide, by decide, fun _ => Or.inr ⟨_, rfl⟩⟩
theorem fl_X7_29 : hFl RX7 29 6 9 := ⟨RX7, TX7, 15, tyX7, rfl, rfl, by decide, hgd_at 667 (by decide +kernel) rfl, lays_X7, rfl, tyX7_ok, nmX7, by decide, by decide, by decide, by decide, fun _ => Or.inr ⟨_, rfl⟩⟩
theorem fl_X7_32 : hFl RX7 32 6 10 := ⟨RX7, TX7, 15, tyX7, rfl, rfl, by decide, hgd_at 668 (by decide +kernel) rfl, lays_X7, rfl, tyX7_ok, nmX7, by decide, by decide, by decide, by decide, fun _ => Or.inr ⟨_, rfl⟩⟩
theorem fl_X7_35 : hFl RX7 35 6 11 := ⟨RX7, TX7, 15, tyX7, rfl, rfl, by decide, hgd_at 669 (by decide +kernel) rfl, lays_X7, rfl, tyX7_ok, nmX7, by decide, by decide, by decide, by decide, fun _ => Or.inr ⟨_, rfl⟩⟩
theorem fl_X7_38 : hFl RX7 38 6 12 := ⟨RX7, TX7, 15, tyX7, rfl, rfl, by decide, hgd_at 670 (by decide +kernel) rfl, lays_X7, rfl, tyX7_ok, nmX7, by decide, by decide, by decide, by decide, fun _ => Or.inr ⟨_, rfl⟩⟩
theorem fl_X7_45 : hFl RX7 45 6 2 := ⟨RX7, TX7, 15, tyX7, rfl, rfl, by decide, hgd_at 660 (by decide +kernel) rfl, lays_X7, rfl, tyX7_ok, nmX7, by decide, by decide, by decide, by decide, fun h => absurd h (by decide)⟩
theorem fl_X7_128 : hFl RX7 128 6 13 := ⟨RX7, TX7, 15, tyX7, rfl, rfl, by decide, hgd_at 671 (by decide +kernel) rfl, lays_X7, rfl, tyX7_ok, nmX7, by decide, by decide, by decide, by decide, fun h => absurd h (by decide)⟩
theorem fl_X7_131 : hFl RX7 131 6 14 := ⟨RX7, TX7, 15, tyX7, rfl, rfl, by decide, hgd_at 672 (by decide +kernel) rfl, lays_X7, rfl, tyX7_ok, nmX7, by decide, by decide, by decide, by decide, fun h => absurd h (by decide)⟩
theorem fl_X7_151 : hFl RX7 151 6 7 := ⟨RX7, TX7, 15, tyX7, rfl, rfl, by decide, hgd_at 665 (by decide +kernel) rfl, lays_X7, rfl, tyX7_ok, nmX7, by decide, by decide, by decide, by decide, fun h => absurd h (by decide)⟩
theorem fl_X7_154 : hFl RX7 154 6 8 := ⟨RX7, TX7, 15, tyX7, rfl, rfl, by decide, hgd_at 666 (by decide +kernel) rfl, lays_X7, rfl, tyX7_ok, nmX7, by decide, by decide, by decide, by decide, fun h => absurd h (by decide)⟩
theorem ml_X6_1 : Cond.methodLink RX6 1 objectInit ∈ hgd := hgd_at 74 (by decide +kernel) rfl
theorem ml_X6_9 : Cond.methodLink RX6 9 yX4_init ∈ hgd := hgd_at 79 (by decide +kernel) rfl
theorem ml_X6_21 : Cond.methodLink RX6 21 yX1_init ∈ hgd := hgd_at 202 (by decide +kernel) rfl
theorem ml_X6_28 : Cond.methodLink RX6 28 yX3_init ∈ hgd := hgd_at 219 (by decide +kernel) rfl
theorem ml_X6_40 : Cond.methodLink RX6 40 yX1_push ∈ hgd := hgd_at 290 (by decide +kernel) rfl
theorem ml_X6_48 : Cond.methodLink RX6 48 yX4_beginAnew ∈ hgd := hgd_at 306 (by decide +kernel) rfl
theorem ml_X6_55 : Cond.methodLink RX6 55 yX4_changeLap ∈ hgd := hgd_at 314 (by decide +kernel) rfl
theorem ml_X6_65 : Cond.methodLink RX6 65 yX6_asNumber ∈ hgd := hgd_at 338 (by decide +kernel) rfl
theorem ml_X6_72 : Cond.methodLink RX6 72 yX2_of ∈ hgd := hgd_at 349 (by decide +kernel) rfl
theorem ml_X6_78 : Cond.methodLink RX6 78 yX6_checkEntry ∈ hgd := hgd_at 357 (by decide +kernel) rfl
theorem ml_X6_82 : Cond.methodLink RX6 82 yX4_admit ∈ hgd := hgd_at 381 (by decide +kernel) rfl
theorem ml_X6_85 : Cond.methodLink RX6 85 yX6_checkCall ∈ hgd := hgd_at 394 (by decide +kernel) rfl
theorem ml_X6_89 : Cond.methodLink RX6 89 yX4_markCalled ∈ hgd := hgd_at 403 (by decide +kernel) rfl
theorem ml_X6_92 : Cond.methodLink RX6 92 yX4_passMinutes ∈ hgd := hgd_at 411 (by decide +kernel) rfl
theorem ml_X6_95 : Cond.methodLink RX6 95 yX4_hasLevel ∈ hgd := hgd_at 361 (by decide +kernel) rfl
theorem ml_X6_99 : Cond.methodLink RX6 99 yX4_holderOf ∈ hgd := hgd_at 474 (by decide +kernel) rfl
theorem ml_X6_108 : Cond.methodLink RX6 108 yX4_numbered ∈ hgd := hgd_at 398 (by decide +kernel) rfl
theorem ml_X6_122 : Cond.methodLink RX6 122 yX0_isShort ∈ hgd := hgd_at 479 (by decide +kernel) rfl
theorem ml_X6_126 : Cond.methodLink RX6 126 yX0_isHolding ∈ hgd := hgd_at 399 (by decide +kernel) rfl
theorem ml_X6_132 : Cond.methodLink RX6 132 yX6_tellHolding ∈ hgd := hgd_at 480 (by decide +kernel) rfl
theorem ml_X6_151 : Cond.methodLink RX6 151 yX6_tellNumberOfAircraft ∈ hgd := hgd_at 487 (by decide +kernel) rfl
theorem ml_X6_154 : Cond.methodLink RX6 154 yX6_tellFuel ∈ hgd := hgd_at 492 (by decide +kernel) rfl
theorem ml_X6_157 : Cond.methodLink RX6 157 yX0_isOverFix ∈ hgd := hgd_at 500 (by decide +kernel) rfl
theorem ml_X6_163 : Cond.methodLink RX6 163 yX4_isFree ∈ hgd := hgd_at 501 (by decide +kernel) rfl
theorem ml_X6_169 : Cond.methodLink RX6 169 yX6_forecast ∈ hgd := hgd_at 506 (by decide +kernel) rfl
theorem ml_X6_172 : Cond.methodLink RX6 172 yX6_forecastMinutes ∈ hgd := hgd_at 516 (by decide +kernel) rfl
theorem ml_X6_175 : Cond.methodLink RX6 175 yX0_minutesUntilShort ∈ hgd := hgd_at 528 (by decide +kernel) rfl
theorem ml_X6_179 : Cond.methodLink RX6 179 yX6_isFuel ∈ hgd := hgd_at 362 (by decide +kernel) rfl
theorem ml_X6_182 : Cond.methodLink RX6 182 yX4_isFull ∈ hgd := hgd_at 365 (by decide +kernel) rfl
theorem ml_X6_185 : Cond.methodLink RX6 185 yX4_refusal ∈ hgd := hgd_at 369 (by decide +kernel) rfl
theorem ml_X6_188 : Cond.methodLink RX6 188 yX4_copyFrom ∈ hgd := hgd_at 510 (by decide +kernel) rfl
theorem ml_X6_191 : Cond.methodLink RX6 191 yX4_minutesToLanding ∈ hgd := hgd_at 536 (by decide +kernel) rfl
theorem ml_X6_195 : Cond.methodLink RX6 195 yX4_mayLand ∈ hgd := hgd_at 511 (by decide +kernel) rfl
theorem ml_X6_198 : Cond.methodLink RX6 198 yX4_passMinute ∈ hgd := hgd_at 515 (by decide +kernel) rfl
theorem ml_X6_201 : Cond.methodLink RX6 201 yX5_add ∈ hgd := hgd_at 549 (by decide +kernel) rfl
theorem ml_X6_208 : Cond.methodLink RX6 208 yX5_findFault ∈ hgd := hgd_at 561 (by decide +kernel) rfl
theorem ml_X6_211 : Cond.methodLink RX6 211 yX5_restart ∈ hgd := hgd_at 607 (by decide +kernel) rfl
theorem ml_X6_214 : Cond.methodLink RX6 214 yX5_readStrip ∈ hgd := hgd_at 608 (by decide +kernel) rfl
theorem ml_X6_217 : Cond.methodLink RX6 217 yX6_carryOutStrip ∈ hgd := hgd_at 609 (by decide +kernel) rfl
theorem ml_X6_220 : Cond.methodLink RX6 220 yX1_popInto ∈ hgd := hgd_at 617 (by decide +kernel) rfl
theorem ml_X6_224 : Cond.methodLink RX6 224 yX3_put ∈ hgd := hgd_at 625 (by decide +kernel) rfl
theorem ml_X6_228 : Cond.methodLink RX6 228 yX3_get ∈ hgd := hgd_at 638 (by decide +kernel) rfl
theorem ml_X6_236 : Cond.methodLink RX6 236 yX6_tell ∈ hgd := hgd_at 648 (by decide +kernel) rfl
theorem ml_X6_242 : Cond.methodLink RX6 242 yX6_aircraft ∈ hgd := hgd_at 649 (by decide +kernel) rfl
theorem ml_X6_245 : Cond.methodLink RX6 245 yX6_why ∈ hgd := hgd_at 650 (by decide +kernel) rfl
theorem ml_X6_248 : Cond.methodLink RX6 248 yX6_level ∈ hgd := hgd_at 651 (by decide +kernel) rfl
theorem ml_X6_253 : Cond.methodLink RX6 253 yX4_countOf ∈ hgd := hgd_at 491 (by decide +kernel) rfl
theorem ml_X0_3 : Cond.methodLink RX0 3 objectInit ∈ hgd := hgd_at 89 (by decide +kernel) rfl
theorem ml_X0_49 : Cond.methodLink RX0 49 yX0_burnPerMinute ∈ hgd := hgd_at 427 (by decide +kernel) rfl
theorem ml_X0_53 : Cond.methodLink RX0 53 yJ9_min_7cf53 ∈ hgd := hgd_at 431 (by decide +kernel) rfl
theorem ml_X1_3 : Cond.methodLink RX1 3 objectInit ∈ hgd := hgd_at 205 (by decide +kernel) rfl
theorem ml_X1_17 : Cond.methodLink RX1 17 yX4_init ∈ hgd := hgd_at 208 (by decide +kernel) rfl
theorem ml_X1_22 : Cond.methodLink RX1 22 yX1_dropOldest ∈ hgd := hgd_at 294 (by decide +kernel) rfl
theorem ml_X1_25 : Cond.methodLink RX1 25 yX4_copyFrom ∈ hgd := hgd_at 298 (by decide +kernel) rfl
theorem ml_X3_3 : Cond.methodLink RX3 3 objectInit ∈ hgd := hgd_at 222 (by decide +kernel) rfl
theorem ml_X3_21 : Cond.methodLink RX3 21 yX4_init ∈ hgd := hgd_at 224 (by decide +kernel) rfl
theorem ml_X3_22 : Cond.methodLink RX3 22 yX3_has ∈ hgd := hgd_at 629 (by decide +kernel) rfl
theorem ml_X3_26 : Cond.methodLink RX3 26 yX4_copyFrom ∈ hgd := hgd_at 633 (by decide +kernel) rfl
theorem ml_X4_3 : Cond.methodLink RX4 3 objectInit ∈ hgd := hgd_at 82 (by decide +kernel) rfl
theorem ml_X4_38 : Cond.methodLink RX4 38 yX0_init ∈ hgd := hgd_at 86 (by decide +kernel) rfl
theorem ml_X4_41 : Cond.methodLink RX4 41 yJ7_fill_53178 ∈ hgd := hgd_at 134 (by decide +kernel) rfl
theorem ml_X4_74 : Cond.methodLink RX4 74 yX0_copyFrom ∈ hgd := hgd_at 302 (by decide +kernel) rfl
theorem ml_X4_78 : Cond.methodLink RX4 78 yX4_holderOf ∈ hgd := hgd_at 318 (by decide +kernel) rfl
theorem ml_X4_85 : Cond.methodLink RX4 85 yX4_hasLevel ∈ hgd := hgd_at 322 (by decide +kernel) rfl
theorem ml_X4_89 : Cond.methodLink RX4 89 yX4_numbered ∈ hgd := hgd_at 326 (by decide +kernel) rfl
theorem ml_X4_95 : Cond.methodLink RX4 95 yX4_isFree ∈ hgd := hgd_at 373 (by decide +kernel) rfl
theorem ml_X4_103 : Cond.methodLink RX4 103 yX4_countOf ∈ hgd := hgd_at 377 (by decide +kernel) rfl
theorem ml_X4_107 : Cond.methodLink RX4 107 yX4_isFull ∈ hgd := hgd_at 385 (by decide +kernel) rfl
theorem ml_X4_127 : Cond.methodLink RX4 127 yX4_setHolder ∈ hgd := hgd_at 386 (by decide +kernel) rfl
theorem ml_X4_131 : Cond.methodLink RX4 131 yX4_passMinute ∈ hgd := hgd_at 415 (by decide +kernel) rfl
theorem ml_X4_135 : Cond.methodLink RX4 135 yX4_mayLand ∈ hgd := hgd_at 540 (by decide +kernel) rfl
theorem ml_X4_138 : Cond.methodLink RX4 138 yX4_burnAndFly ∈ hgd := hgd_at 419 (by decide +kernel) rfl
theorem ml_X4_141 : Cond.methodLink RX4 141 yX4_divertStarved ∈ hgd := hgd_at 438 (by decide +kernel) rfl
theorem ml_X4_144 : Cond.methodLink RX4 144 yX4_landOne ∈ hgd := hgd_at 450 (by decide +kernel) rfl
theorem ml_X4_147 : Cond.methodLink RX4 147 yX4_goDownLadder ∈ hgd := hgd_at 466 (by decide +kernel) rfl
theorem ml_X4_150 : Cond.methodLink RX4 150 yX0_burnForMinute ∈ hgd := hgd_at 423 (by decide +kernel) rfl
theorem ml_X4_153 : Cond.methodLink RX4 153 yX0_flyMinute ∈ hgd := hgd_at 434 (by decide +kernel) rfl
theorem ml_X4_156 : Cond.methodLink RX4 156 yX0_mustDivert ∈ hgd := hgd_at 442 (by decide +kernel) rfl
theorem ml_X4_159 : Cond.methodLink RX4 159 yX4_leave ∈ hgd := hgd_at 446 (by decide +kernel) rfl
theorem ml_X4_163 : Cond.methodLink RX4 163 yX4_nextToLand ∈ hgd := hgd_at 454 (by decide +kernel) rfl
theorem ml_X4_170 : Cond.methodLink RX4 170 yX0_isOverFix ∈ hgd := hgd_at 458 (by decide +kernel) rfl
theorem ml_X4_173 : Cond.methodLink RX4 173 yX0_isShort ∈ hgd := hgd_at 462 (by decide +kernel) rfl
theorem ml_X5_3 : Cond.methodLink RX5 3 objectInit ∈ hgd := hgd_at 238 (by decide +kernel) rfl
theorem ml_X5_25 : Cond.methodLink RX5 25 yX5_restart ∈ hgd := hgd_at 565 (by decide +kernel) rfl
theorem ml_X5_28 : Cond.methodLink RX5 28 yX5_readStrip ∈ hgd := hgd_at 569 (by decide +kernel) rfl
theorem ml_X5_32 : Cond.methodLink RX5 32 yX5_peek ∈ hgd := hgd_at 573 (by decide +kernel) rfl
theorem ml_X5_40 : Cond.methodLink RX5 40 yX5_readEntry ∈ hgd := hgd_at 577 (by decide +kernel) rfl
theorem ml_X5_43 : Cond.methodLink RX5 43 yX5_readNumber ∈ hgd := hgd_at 592 (by decide +kernel) rfl
theorem ml_X5_50 : Cond.methodLink RX5 50 yX5_fail ∈ hgd := hgd_at 585 (by decide +kernel) rfl
theorem ml_X5_54 : Cond.methodLink RX5 54 yX5_expect ∈ hgd := hgd_at 599 (by decide +kernel) rfl
theorem ml_X5_58 : Cond.methodLink RX5 58 yX5_readKind ∈ hgd := hgd_at 581 (by decide +kernel) rfl
theorem ml_X5_80 : Cond.methodLink RX5 80 yX5_isDigit ∈ hgd := hgd_at 596 (by decide +kernel) rfl
theorem ml_L_9 : Cond.methodLink RL 9 yX6_init ∈ hgd := hgd_at 71 (by decide +kernel) rfl
theorem ml_L_12 : Cond.methodLink RL 12 yX7_init ∈ hgd := hgd_at 654 (by decide +kernel) rfl
theorem ml_L_13 : Cond.methodLink RL 13 yX6_begin ∈ hgd := hgd_at 286 (by decide +kernel) rfl
theorem ml_L_17 : Cond.methodLink RL 17 yX7_begin ∈ hgd := hgd_at 704 (by decide +kernel) rfl
theorem ml_L_18 : Cond.methodLink RL 18 yX6_setLap ∈ hgd := hgd_at 310 (by decide +kernel) rfl
theorem ml_L_21 : Cond.methodLink RL 21 yX7_setLap ∈ hgd := hgd_at 715 (by decide +kernel) rfl
theorem ml_L_22 : Cond.methodLink RL 22 yX6_setLimit ∈ hgd := hgd_at 330 (by decide +kernel) rfl
theorem ml_L_25 : Cond.methodLink RL 25 yX7_setLimit ∈ hgd := hgd_at 726 (by decide +kernel) rfl
theorem ml_L_26 : Cond.methodLink RL 26 yX6_setRunway ∈ hgd := hgd_at 334 (by decide +kernel) rfl
theorem ml_L_30 : Cond.methodLink RL 30 yX7_setRunway ∈ hgd := hgd_at 730 (by decide +kernel) rfl
theorem ml_L_31 : Cond.methodLink RL 31 yX6_setLadder ∈ hgd := hgd_at 341 (by decide +kernel) rfl
theorem ml_L_34 : Cond.methodLink RL 34 yX7_setLadder ∈ hgd := hgd_at 738 (by decide +kernel) rfl
theorem ml_L_35 : Cond.methodLink RL 35 yX6_enter ∈ hgd := hgd_at 345 (by decide +kernel) rfl
theorem ml_L_39 : Cond.methodLink RL 39 yX7_enter ∈ hgd := hgd_at 742 (by decide +kernel) rfl
theorem ml_L_40 : Cond.methodLink RL 40 yX6_call ∈ hgd := hgd_at 390 (by decide +kernel) rfl
theorem ml_L_43 : Cond.methodLink RL 43 yX7_call ∈ hgd := hgd_at 770 (by decide +kernel) rfl
theorem ml_L_44 : Cond.methodLink RL 44 yX6_pass ∈ hgd := hgd_at 407 (by decide +kernel) rfl
theorem ml_L_47 : Cond.methodLink RL 47 yX7_pass ∈ hgd := hgd_at 782 (by decide +kernel) rfl
theorem ml_L_48 : Cond.methodLink RL 48 yX6_level ∈ hgd := hgd_at 470 (by decide +kernel) rfl
theorem ml_L_51 : Cond.methodLink RL 51 yX7_level ∈ hgd := hgd_at 818 (by decide +kernel) rfl
theorem ml_L_52 : Cond.methodLink RL 52 yX6_aircraft ∈ hgd := hgd_at 475 (by decide +kernel) rfl
theorem ml_L_56 : Cond.methodLink RL 56 yX7_aircraft ∈ hgd := hgd_at 822 (by decide +kernel) rfl
theorem ml_L_57 : Cond.methodLink RL 57 yX6_tell ∈ hgd := hgd_at 483 (by decide +kernel) rfl
theorem ml_L_60 : Cond.methodLink RL 60 yX7_tell ∈ hgd := hgd_at 830 (by decide +kernel) rfl
theorem ml_L_61 : Cond.methodLink RL 61 yX6_why ∈ hgd := hgd_at 496 (by decide +kernel) rfl
theorem ml_L_64 : Cond.methodLink RL 64 yX7_why ∈ hgd := hgd_at 842 (by decide +kernel) rfl
theorem ml_L_65 : Cond.methodLink RL 65 yX6_minutesLeft ∈ hgd := hgd_at 502 (by decide +kernel) rfl
theorem ml_L_68 : Cond.methodLink RL 68 yX7_minutesLeft ∈ hgd := hgd_at 850 (by decide +kernel) rfl
theorem ml_L_69 : Cond.methodLink RL 69 yX6_landsWith ∈ hgd := hgd_at 520 (by decide +kernel) rfl
theorem ml_L_72 : Cond.methodLink RL 72 yX7_landsWith ∈ hgd := hgd_at 874 (by decide +kernel) rfl
theorem ml_L_73 : Cond.methodLink RL 73 yX6_endurance ∈ hgd := hgd_at 524 (by decide +kernel) rfl
theorem ml_L_76 : Cond.methodLink RL 76 yX7_endurance ∈ hgd := hgd_at 878 (by decide +kernel) rfl
theorem ml_L_77 : Cond.methodLink RL 77 yX6_bestLevel ∈ hgd := hgd_at 532 (by decide +kernel) rfl
theorem ml_L_80 : Cond.methodLink RL 80 yX7_bestLevel ∈ hgd := hgd_at 882 (by decide +kernel) rfl
theorem ml_L_81 : Cond.methodLink RL 81 yX6_lands ∈ hgd := hgd_at 541 (by decide +kernel) rfl
theorem ml_L_84 : Cond.methodLink RL 84 yX7_lands ∈ hgd := hgd_at 886 (by decide +kernel) rfl
theorem ml_L_85 : Cond.methodLink RL 85 yX6_append ∈ hgd := hgd_at 545 (by decide +kernel) rfl
theorem ml_L_88 : Cond.methodLink RL 88 yX7_append ∈ hgd := hgd_at 890 (by decide +kernel) rfl
theorem ml_L_89 : Cond.methodLink RL 89 yX6_clearText ∈ hgd := hgd_at 553 (by decide +kernel) rfl
theorem ml_L_93 : Cond.methodLink RL 93 yX7_clearText ∈ hgd := hgd_at 894 (by decide +kernel) rfl
theorem ml_L_94 : Cond.methodLink RL 94 yX6_faultPosition ∈ hgd := hgd_at 557 (by decide +kernel) rfl
theorem ml_L_97 : Cond.methodLink RL 97 yX7_faultPosition ∈ hgd := hgd_at 898 (by decide +kernel) rfl
theorem ml_L_98 : Cond.methodLink RL 98 yX6_run ∈ hgd := hgd_at 603 (by decide +kernel) rfl
theorem ml_L_101 : Cond.methodLink RL 101 yX7_run ∈ hgd := hgd_at 926 (by decide +kernel) rfl
theorem ml_L_102 : Cond.methodLink RL 102 yX6_undo ∈ hgd := hgd_at 613 (by decide +kernel) rfl
theorem ml_L_105 : Cond.methodLink RL 105 yX7_undo ∈ hgd := hgd_at 934 (by decide +kernel) rfl
theorem ml_L_106 : Cond.methodLink RL 106 yX6_keep ∈ hgd := hgd_at 621 (by decide +kernel) rfl
theorem ml_L_109 : Cond.methodLink RL 109 yX7_keep ∈ hgd := hgd_at 938 (by decide +kernel) rfl
theorem ml_L_110 : Cond.methodLink RL 110 yX6_restore ∈ hgd := hgd_at 634 (by decide +kernel) rfl
theorem ml_L_113 : Cond.methodLink RL 113 yX7_restore ∈ hgd := hgd_at 942 (by decide +kernel) rfl
theorem ml_L_114 : Cond.methodLink RL 114 yX6_checksum ∈ hgd := hgd_at 642 (by decide +kernel) rfl
theorem ml_L_118 : Cond.methodLink RL 118 yX7_checksum ∈ hgd := hgd_at 946 (by decide +kernel) rfl
theorem ml_X7_1 : Cond.methodLink RX7 1 objectInit ∈ hgd := hgd_at 657 (by decide +kernel) rfl
theorem ml_X7_41 : Cond.methodLink RX7 41 yX7_in ∈ hgd := hgd_at 708 (by decide +kernel) rfl
theorem ml_X7_49 : Cond.methodLink RX7 49 yX7_records ∈ hgd := hgd_at 711 (by decide +kernel) rfl
theorem ml_X7_52 : Cond.methodLink RX7 52 yX7_at ∈ hgd := hgd_at 719 (by decide +kernel) rfl
theorem ml_X7_56 : Cond.methodLink RX7 56 yX7_puts ∈ hgd := hgd_at 722 (by decide +kernel) rfl
theorem ml_X7_60 : Cond.methodLink RX7 60 yX7_opens ∈ hgd := hgd_at 734 (by decide +kernel) rfl
theorem ml_X7_64 : Cond.methodLink RX7 64 yX7_isLevel ∈ hgd := hgd_at 750 (by decide +kernel) rfl
theorem ml_X7_68 : Cond.methodLink RX7 68 yX7_on ∈ hgd := hgd_at 758 (by decide +kernel) rfl
theorem ml_X7_71 : Cond.methodLink RX7 71 yX7_holding ∈ hgd := hgd_at 762 (by decide +kernel) rfl
theorem ml_X7_75 : Cond.methodLink RX7 75 yX7_enterWrong ∈ hgd := hgd_at 746 (by decide +kernel) rfl
theorem ml_X7_79 : Cond.methodLink RX7 79 yX7_refusal ∈ hgd := hgd_at 754 (by decide +kernel) rfl
theorem ml_X7_82 : Cond.methodLink RX7 82 yX7_enters ∈ hgd := hgd_at 766 (by decide +kernel) rfl
theorem ml_X7_85 : Cond.methodLink RX7 85 yX7_isCraft ∈ hgd := hgd_at 778 (by decide +kernel) rfl
theorem ml_X7_88 : Cond.methodLink RX7 88 yX7_callWrong ∈ hgd := hgd_at 774 (by decide +kernel) rfl
theorem ml_X7_91 : Cond.methodLink RX7 91 yX7_burn ∈ hgd := hgd_at 798 (by decide +kernel) rfl
theorem ml_X7_94 : Cond.methodLink RX7 94 yX7_leaves ∈ hgd := hgd_at 802 (by decide +kernel) rfl
theorem ml_X7_98 : Cond.methodLink RX7 98 yX7_isOver ∈ hgd := hgd_at 810 (by decide +kernel) rfl
theorem ml_X7_101 : Cond.methodLink RX7 101 yX7_isShort ∈ hgd := hgd_at 814 (by decide +kernel) rfl
theorem ml_X7_104 : Cond.methodLink RX7 104 yX7_burns ∈ hgd := hgd_at 794 (by decide +kernel) rfl
theorem ml_X7_107 : Cond.methodLink RX7 107 yX7_lander ∈ hgd := hgd_at 806 (by decide +kernel) rfl
theorem ml_X7_110 : Cond.methodLink RX7 110 yX7_passes ∈ hgd := hgd_at 790 (by decide +kernel) rfl
theorem ml_X7_113 : Cond.methodLink RX7 113 yX7_minutesPass ∈ hgd := hgd_at 786 (by decide +kernel) rfl
theorem ml_X7_116 : Cond.methodLink RX7 116 yX7_craftTells ∈ hgd := hgd_at 826 (by decide +kernel) rfl
theorem ml_X7_119 : Cond.methodLink RX7 119 yX7_many ∈ hgd := hgd_at 838 (by decide +kernel) rfl
theorem ml_X7_122 : Cond.methodLink RX7 122 yX7_tells ∈ hgd := hgd_at 834 (by decide +kernel) rfl
theorem ml_X7_125 : Cond.methodLink RX7 125 yX7_whyOf ∈ hgd := hgd_at 846 (by decide +kernel) rfl
theorem ml_X7_134 : Cond.methodLink RX7 134 yX7_keeps ∈ hgd := hgd_at 862 (by decide +kernel) rfl
theorem ml_X7_138 : Cond.methodLink RX7 138 yX7_landsLater ∈ hgd := hgd_at 866 (by decide +kernel) rfl
theorem ml_X7_142 : Cond.methodLink RX7 142 yX7_comesBack ∈ hgd := hgd_at 870 (by decide +kernel) rfl
theorem ml_X7_145 : Cond.methodLink RX7 145 yX7_forecasts ∈ hgd := hgd_at 858 (by decide +kernel) rfl
theorem ml_X7_148 : Cond.methodLink RX7 148 yX7_minutesOf ∈ hgd := hgd_at 854 (by decide +kernel) rfl
theorem ml_X7_157 : Cond.methodLink RX7 157 yX7_here ∈ hgd := hgd_at 914 (by decide +kernel) rfl
theorem ml_X7_160 : Cond.methodLink RX7 160 yX7_digit ∈ hgd := hgd_at 922 (by decide +kernel) rfl
theorem ml_X7_163 : Cond.methodLink RX7 163 yX7_takes ∈ hgd := hgd_at 910 (by decide +kernel) rfl
theorem ml_X7_166 : Cond.methodLink RX7 166 yX7_isNumber ∈ hgd := hgd_at 918 (by decide +kernel) rfl
theorem ml_X7_169 : Cond.methodLink RX7 169 yX7_isStrip ∈ hgd := hgd_at 906 (by decide +kernel) rfl
theorem ml_X7_173 : Cond.methodLink RX7 173 yX7_isText ∈ hgd := hgd_at 902 (by decide +kernel) rfl
theorem ml_X7_176 : Cond.methodLink RX7 176 yX7_carriesOut ∈ hgd := hgd_at 930 (by decide +kernel) rfl
theorem ml_X7_183 : Cond.methodLink RX7 183 yX7_more ∈ hgd := hgd_at 951 (by decide +kernel) rfl
theorem oi_1 : Cond.instanceMethod objectInit ∈ hgd := hgd_at 75 (by decide +kernel) rfl
theorem oi_2 : Cond.code objectInit ⟨#[0xb1]⟩ 1 none ∈ hgd := hgd_at 76 (by decide +kernel) rfl
theorem ac_int : Cond.arrayClass .int ∈ hgd := hgd_at 133 (by decide +kernel) rfl
theorem ac_boolean : Cond.arrayClass .boolean ∈ hgd := hgd_at 232 (by decide +kernel) rfl
theorem ac_char : Cond.arrayClass .char ∈ hgd := hgd_at 269 (by decide +kernel) rfl
theorem cl_X6_7 : Cond.classLink RX6 7 RX4 ∈ hgd := hgd_at 77 (by decide +kernel) rfl
theorem cL_X6_7 : hCl RX6 7 3 := ⟨RX4, TX4, 16, tyX4, rfl, rfl, cl_X6_7, hgd_at 78 (by decide +kernel) rfl, hgd_at 59 (by decide +kernel) rfl, lays_X4, tyX4_ok, by decide +kernel⟩
theorem cl_X6_19 : Cond.classLink RX6 19 RX1 ∈ hgd := hgd_at 200 (by decide +kernel) rfl
theorem cL_X6_19 : hCl RX6 19 1 := ⟨RX1, TX1, 2, tyX1, rfl, rfl, cl_X6_19, hgd_at 201 (by decide +kernel) rfl, hgd_at 64 (by decide +kernel) rfl, lays_X1, tyX1_ok, by decide +kernel⟩
theorem cl_X6_26 : Cond.classLink RX6 26 RX3 ∈ hgd := hgd_at 217 (by decide +kernel) rfl
theorem cL_X6_26 : hCl RX6 26 2 := ⟨RX3, TX3, 2, tyX3, rfl, rfl, cl_X6_26, hgd_at 218 (by decide +kernel) rfl, hgd_at 65 (by decide +kernel) rfl, lays_X3, tyX3_ok, by decide +kernel⟩
theorem cl_X6_33 : Cond.classLink RX6 33 RX5 ∈ hgd := hgd_at 233 (by decide +kernel) rfl
theorem cL_X6_33 : hCl RX6 33 4 := ⟨RX5, TX5, 8, tyX5, rfl, rfl, cl_X6_33, hgd_at 234 (by decide +kernel) rfl, hgd_at 66 (by decide +kernel) rfl, lays_X5, tyX5_ok, by decide +kernel⟩
theorem cl_X1_9 : Cond.classLink RX1 9 RX4 ∈ hgd := hgd_at 206 (by decide +kernel) rfl
theorem cL_X1_9 : hCl RX1 9 3 := ⟨RX4, TX4, 16, tyX4, rfl, rfl, cl_X1_9, hgd_at 78 (by decide +kernel) rfl, hgd_at 59 (by decide +kernel) rfl, lays_X4, tyX4_ok, by decide +kernel⟩
theorem cl_X3_9 : Cond.classLink RX3 9 RX4 ∈ hgd := hgd_at 223 (by decide +kernel) rfl
theorem cL_X3_9 : hCl RX3 9 3 := ⟨RX4, TX4, 16, tyX4, rfl, rfl, cl_X3_9, hgd_at 78 (by decide +kernel) rfl, hgd_at 59 (by decide +kernel) rfl, lays_X4, tyX4_ok, by decide +kernel⟩
theorem cl_X4_9 : Cond.classLink RX4 9 RX0 ∈ hgd := hgd_at 83 (by decide +kernel) rfl
theorem cL_X4_9 : hCl RX4 9 0 := ⟨RX0, TX0, 8, tyX0, rfl, rfl, cl_X4_9, hgd_at 85 (by decide +kernel) rfl, hgd_at 60 (by decide +kernel) rfl, lays_X0, tyX0_ok, by decide +kernel⟩
theorem cl_L_7 : Cond.classLink RL 7 RX6 ∈ hgd := hgd_at 69 (by decide +kernel) rfl
theorem cL_L_7 : hCl RL 7 5 := ⟨RX6, TX6, 5, tyX6, rfl, rfl, cl_L_7, hgd_at 70 (by decide +kernel) rfl, hgd_at 58 (by decide +kernel) rfl, lays_X6, tyX6_ok, by decide +kernel⟩
theorem cl_L_10 : Cond.classLink RL 10 RX7 ∈ hgd := hgd_at 652 (by decide +kernel) rfl
theorem cL_L_10 : hCl RL 10 6 := ⟨RX7, TX7, 15, tyX7, rfl, rfl, cl_L_10, hgd_at 653 (by decide +kernel) rfl, hgd_at 67 (by decide +kernel) rfl, lays_X7, tyX7_ok, by decide +kernel⟩
theorem kl_X6_232 : Cond.constantLong RX6 232 157 ∈ hgd := hgd_at 646 (by decide +kernel) rfl
theorem kl_X6_234 : Cond.constantLong RX6 234 31 ∈ hgd := hgd_at 647 (by decide +kernel) rfl
theorem kl_X7_181 : Cond.constantLong RX7 181 157 ∈ hgd := hgd_at 950 (by decide +kernel) rfl
theorem kl_X7_179 : Cond.constantLong RX7 179 31 ∈ hgd := hgd_at 954 (by decide +kernel) rfl
theorem ff_0_0 : hFin 0 0 := ⟨RX0, TX0, 8, rfl, rfl⟩
theorem fn_0_1 : hNfin 0 1 := ⟨RX0, TX0, 8, rfl, rfl⟩
theorem fn_0_2 : hNfin 0 2 := ⟨RX0, TX0, 8, rfl, rfl⟩
theorem fn_0_3 : hNfin 0 3 := ⟨RX0, TX0, 8, rfl, rfl⟩
theorem fn_0_4 : hNfin 0 4 := ⟨RX0, TX0, 8, rfl, rfl⟩
theorem fn_0_5 : hNfin 0 5 := ⟨RX0, TX0, 8, rfl, rfl⟩
theorem fn_0_6 : hNfin 0 6 := ⟨RX0, TX0, 8, rfl, rfl⟩
theorem fn_0_7 : hNfin 0 7 := ⟨RX0, TX0, 8, rfl, rfl⟩
theorem ff_1_0 : hFin 1 0 := ⟨RX1, TX1, 2, rfl, rfl⟩
theorem fn_1_1 : hNfin 1 1 := ⟨RX1, TX1, 2, rfl, rfl⟩
theorem ff_2_0 : hFin 2 0 := ⟨RX3, TX3, 2, rfl, rfl⟩
theorem ff_2_1 : hFin 2 1 := ⟨RX3, TX3, 2, rfl, rfl⟩
theorem ff_3_0 : hFin 3 0 := ⟨RX4, TX4, 16, rfl, rfl⟩
theorem ff_3_1 : hFin 3 1 := ⟨RX4, TX4, 16, rfl, rfl⟩
theorem fn_3_2 : hNfin 3 2 := ⟨RX4, TX4, 16, rfl, rfl⟩
theorem fn_3_3 : hNfin 3 3 := ⟨RX4, TX4, 16, rfl, rfl⟩
theorem fn_3_4 : hNfin 3 4 := ⟨RX4, TX4, 16, rfl, rfl⟩
theorem fn_3_5 : hNfin 3 5 := ⟨RX4, TX4, 16, rfl, rfl⟩
theorem fn_3_6 : hNfin 3 6 := ⟨RX4, TX4, 16, rfl, rfl⟩
theorem fn_3_7 : hNfin 3 7 := ⟨RX4, TX4, 16, rfl, rfl⟩
theorem fn_3_8 : hNfin 3 8 := ⟨RX4, TX4, 16, rfl, rfl⟩
theorem fn_3_9 : hNfin 3 9 := ⟨RX4, TX4, 16, rfl, rfl⟩
theorem fn_3_10 : hNfin 3 10 := ⟨RX4, TX4, 16, rfl, rfl⟩
theorem fn_3_11 : hNfin 3 11 := ⟨RX4, TX4, 16, rfl, rfl⟩
theorem fn_3_12 : hNfin 3 12 := ⟨RX4, TX4, 16, rfl, rfl⟩
theorem fn_3_13 : hNfin 3 13 := ⟨RX4, TX4, 16, rfl, rfl⟩
theorem fn_3_14 : hNfin 3 14 := ⟨RX4, TX4, 16, rfl, rfl⟩
theorem fn_3_15 : hNfin 3 15 := ⟨RX4, TX4, 16, rfl, rfl⟩
theorem ff_4_0 : hFin 4 0 := ⟨RX5, TX5, 8, rfl, rfl⟩
theorem fn_4_1 : hNfin 4 1 := ⟨RX5, TX5, 8, rfl, rfl⟩
theorem fn_4_2 : hNfin 4 2 := ⟨RX5, TX5, 8, rfl, rfl⟩
theorem fn_4_3 : hNfin 4 3 := ⟨RX5, TX5, 8, rfl, rfl⟩
theorem fn_4_4 : hNfin 4 4 := ⟨RX5, TX5, 8, rfl, rfl⟩
theorem fn_4_5 : hNfin 4 5 := ⟨RX5, TX5, 8, rfl, rfl⟩
theorem fn_4_6 : hNfin 4 6 := ⟨RX5, TX5, 8, rfl, rfl⟩
theorem fn_4_7 : hNfin 4 7 := ⟨RX5, TX5, 8, rfl, rfl⟩
theorem ff_5_0 : hFin 5 0 := ⟨RX6, TX6, 5, rfl, rfl⟩
theorem ff_5_1 : hFin 5 1 := ⟨RX6, TX6, 5, rfl, rfl⟩
theorem ff_5_2 : hFin 5 2 := ⟨RX6, TX6, 5, rfl, rfl⟩
theorem ff_5_3 : hFin 5 3 := ⟨RX6, TX6, 5, rfl, rfl⟩
theorem ff_5_4 : hFin 5 4 := ⟨RX6, TX6, 5, rfl, rfl⟩
theorem ff_6_0 : hFin 6 0 := ⟨RX7, TX7, 15, rfl, rfl⟩
theorem ff_6_1 : hFin 6 1 := ⟨RX7, TX7, 15, rfl, rfl⟩
theorem fn_6_2 : hNfin 6 2 := ⟨RX7, TX7, 15, rfl, rfl⟩
theorem ff_6_3 : hFin 6 3 := ⟨RX7, TX7, 15, rfl, rfl⟩
theorem ff_6_4 : hFin 6 4 := ⟨RX7, TX7, 15, rfl, rfl⟩
theorem ff_6_5 : hFin 6 5 := ⟨RX7, TX7, 15, rfl, rfl⟩
theorem ff_6_6 : hFin 6 6 := ⟨RX7, TX7, 15, rfl, rfl⟩
theorem fn_6_7 : hNfin 6 7 := ⟨RX7, TX7, 15, rfl, rfl⟩
theorem fn_6_8 : hNfin 6 8 := ⟨RX7, TX7, 15, rfl, rfl⟩
theorem ff_6_9 : hFin 6 9 := ⟨RX7, TX7, 15, rfl, rfl⟩
theorem ff_6_10 : hFin 6 10 := ⟨RX7, TX7, 15, rfl, rfl⟩
theorem ff_6_11 : hFin 6 11 := ⟨RX7, TX7, 15, rfl, rfl⟩
theorem ff_6_12 : hFin 6 12 := ⟨RX7, TX7, 15, rfl, rfl⟩
theorem fn_6_13 : hNfin 6 13 := ⟨RX7, TX7, 15, rfl, rfl⟩
theorem fn_6_14 : hNfin 6 14 := ⟨RX7, TX7, 15, rfl, rfl⟩
end
section
abbrev m_X0_init : hYd := (yX0_init, cX0_init, 2, none, 1)
theorem kY_X0_init : hYk m_X0_init 1 := ⟨hgd_at 88 (by decide +kernel) rfl, hgd_at 60 (by decide +kernel) rfl, by decide +kernel, by decide +kernel, by decide⟩
theorem kI_X0_init : Cond.instanceMethod yX0_init ∈ hgd := hgd_at 87 (by decide +kernel) rfl
abbrev m_X0_copyFrom : hYd := (yX0_copyFrom, cX0_copyFrom, 2, none, 0)
theorem kY_X0_copyFrom : hYk m_X0_copyFrom 1 := ⟨hgd_at 305 (by decide +kernel) rfl, hgd_at 60 (by decide +kernel) rfl, by decide +kernel, by decide +kernel, by decide⟩
theorem kV_X0_copyFrom : hYv m_X0_copyFrom := ⟨hgd_at 303 (by decide +kernel) rfl, hgd_at 304 (by decide +kernel) rfl⟩
abbrev m_X0_isHolding : hYd := (yX0_isHolding, cX0_isHolding, 1, some .boolean, 0)
theorem kY_X0_isHolding : hYk m_X0_isHolding 0 := ⟨hgd_at 402 (by decide +kernel) rfl, hgd_at 60 (by decide +kernel) rfl, by decide +kernel, by decide +kernel, by decide⟩
theorem kV_X0_isHolding : hYv m_X0_isHolding := ⟨hgd_at 400 (by decide +kernel) rfl, hgd_at 401 (by decide +kernel) rfl⟩
abbrev m_X0_isOverFix : hYd := (yX0_isOverFix, cX0_isOverFix, 1, some .boolean, 0)
theorem kY_X0_isOverFix : hYk m_X0_isOverFix 0 := ⟨hgd_at 461 (by decide +kernel) rfl, hgd_at 60 (by decide +kernel) rfl, by decide +kernel, by decide +kernel, by decide⟩
theorem kV_X0_isOverFix : hYv m_X0_isOverFix := ⟨hgd_at 459 (by decide +kernel) rfl, hgd_at 460 (by decide +kernel) rfl⟩
abbrev m_X0_isShort : hYd := (yX0_isShort, cX0_isShort, 1, some .boolean, 0)
theorem kY_X0_isShort : hYk m_X0_isShort 0 := ⟨hgd_at 465 (by decide +kernel) rfl, hgd_at 60 (by decide +kernel) rfl, by decide +kernel, by decide +kernel, by decide⟩
theorem kV_X0_isShort : hYv m_X0_isShort := ⟨hgd_at 463 (by decide +kernel) rfl, hgd_at 464 (by decide +kernel) rfl⟩
abbrev m_X0_mustDivert : hYd := (yX0_mustDivert, cX0_mustDivert, 1, some .boolean, 0)
theorem kY_X0_mustDivert : hYk m_X0_mustDivert 0 := ⟨hgd_at 445 (by decide +kernel) rfl, hgd_at 60 (by decide +kernel) rfl, by decide +kernel, by decide +kernel, by decide⟩
theorem kV_X0_mustDivert : hYv m_X0_mustDivert := ⟨hgd_at 443 (by decide +kernel) rfl, hgd_at 444 (by decide +kernel) rfl⟩
abbrev m_X0_burnPerMinute : hYd := (yX0_burnPerMinute, cX0_burnPerMinute, 1, some .int, 0)
theorem kY_X0_burnPerMinute : hYk m_X0_burnPerMinute 0 := ⟨hgd_at 430 (by decide +kernel) rfl, hgd_at 60 (by decide +kernel) rfl, by decide +kernel, by decide +kernel, by decide⟩
theorem kV_X0_burnPerMinute : hYv m_X0_burnPerMinute := ⟨hgd_at 428 (by decide +kernel) rfl, hgd_at 429 (by decide +kernel) rfl⟩
abbrev m_X0_minutesUntilShort : hYd := (yX0_minutesUntilShort, cX0_minutesUntilShort, 3, some .int, 1)
theorem kY_X0_minutesUntilShort : hYk m_X0_minutesUntilShort 0 := ⟨hgd_at 531 (by decide +kernel) rfl, hgd_at 60 (by decide +kernel) rfl, by decide +kernel, by decide +kernel, by decide⟩
theorem kV_X0_minutesUntilShort : hYv m_X0_minutesUntilShort := ⟨hgd_at 529 (by decide +kernel) rfl, hgd_at 530 (by decide +kernel) rfl⟩
abbrev m_X0_burnForMinute : hYd := (yX0_burnForMinute, cX0_burnForMinute, 2, some .int, 1)
theorem kY_X0_burnForMinute : hYk m_X0_burnForMinute 0 := ⟨hgd_at 426 (by decide +kernel) rfl, hgd_at 60 (by decide +kernel) rfl, by decide +kernel, by decide +kernel, by decide⟩
theorem kV_X0_burnForMinute : hYv m_X0_burnForMinute := ⟨hgd_at 424 (by decide +kernel) rfl, hgd_at 425 (by decide +kernel) rfl⟩
abbrev m_X0_flyMinute : hYd := (yX0_flyMinute, cX0_flyMinute, 2, none, 0)
theorem kY_X0_flyMinute : hYk m_X0_flyMinute 1 := ⟨hgd_at 437 (by decide +kernel) rfl, hgd_at 60 (by decide +kernel) rfl, by decide +kernel, by decide +kernel, by decide⟩
theorem kV_X0_flyMinute : hYv m_X0_flyMinute := ⟨hgd_at 435 (by decide +kernel) rfl, hgd_at 436 (by decide +kernel) rfl⟩
abbrev m_X1_init : hYd := (yX1_init, cX1_init, 2, none, 3)
theorem kY_X1_init : hYk m_X1_init 0 := ⟨hgd_at 204 (by decide +kernel) rfl, hgd_at 64 (by decide +kernel) rfl, by decide +kernel, by decide +kernel, by decide⟩
theorem kI_X1_init : Cond.instanceMethod yX1_init ∈ hgd := hgd_at 203 (by decide +kernel) rfl
abbrev m_X1_push : hYd := (yX1_push, cX1_push, 2, none, 2)
theorem kY_X1_push : hYk m_X1_push 1 := ⟨hgd_at 293 (by decide +kernel) rfl, hgd_at 64 (by decide +kernel) rfl, by decide +kernel, by decide +kernel, by decide⟩
theorem kV_X1_push : hYv m_X1_push := ⟨hgd_at 291 (by decide +kernel) rfl, hgd_at 292 (by decide +kernel) rfl⟩
abbrev m_X1_dropOldest : hYd := (yX1_dropOldest, cX1_dropOldest, 3, none, 0)
theorem kY_X1_dropOldest : hYk m_X1_dropOldest 0 := ⟨hgd_at 297 (by decide +kernel) rfl, hgd_at 64 (by decide +kernel) rfl, by decide +kernel, by decide +kernel, by decide⟩
theorem kV_X1_dropOldest : hYv m_X1_dropOldest := ⟨hgd_at 296 (by decide +kernel) rfl, hgd_at 0 (by decide +kernel) rfl⟩
abbrev m_X1_popInto : hYd := (yX1_popInto, cX1_popInto, 2, some .boolean, 2)
theorem kY_X1_popInto : hYk m_X1_popInto 1 := ⟨hgd_at 620 (by decide +kernel) rfl, hgd_at 64 (by decide +kernel) rfl, by decide +kernel, by decide +kernel, by decide⟩
theorem kV_X1_popInto : hYv m_X1_popInto := ⟨hgd_at 618 (by decide +kernel) rfl, hgd_at 619 (by decide +kernel) rfl⟩
abbrev m_X2_of : hYd := (yX2_of, cX2_of, 1, some (.object "HoldingStack$Kind"), 0)
theorem kY_X2_of : hYk m_X2_of 1 := ⟨hgd_at 351 (by decide +kernel) rfl, hgd_at 62 (by decide +kernel) rfl, by decide +kernel, by decide +kernel, by decide⟩
theorem kS_X2_of : Cond.static yX2_of ∈ hgd := hgd_at 350 (by decide +kernel) rfl
abbrev m_X3_init : hYd := (yX3_init, cX3_init, 2, none, 3)
theorem kY_X3_init : hYk m_X3_init 0 := ⟨hgd_at 221 (by decide +kernel) rfl, hgd_at 65 (by decide +kernel) rfl, by decide +kernel, by decide +kernel, by decide⟩
theorem kI_X3_init : Cond.instanceMethod yX3_init ∈ hgd := hgd_at 220 (by decide +kernel) rfl
abbrev m_X3_has : hYd := (yX3_has, cX3_has, 2, some .boolean, 0)
theorem kY_X3_has : hYk m_X3_has 1 := ⟨hgd_at 632 (by decide +kernel) rfl, hgd_at 65 (by decide +kernel) rfl, by decide +kernel, by decide +kernel, by decide⟩
theorem kV_X3_has : hYv m_X3_has := ⟨hgd_at 631 (by decide +kernel) rfl, hgd_at 21 (by decide +kernel) rfl⟩
abbrev m_X3_put : hYd := (yX3_put, cX3_put, 3, some .boolean, 2)
theorem kY_X3_put : hYk m_X3_put 2 := ⟨hgd_at 628 (by decide +kernel) rfl, hgd_at 65 (by decide +kernel) rfl, by decide +kernel, by decide +kernel, by decide⟩
theorem kV_X3_put : hYv m_X3_put := ⟨hgd_at 626 (by decide +kernel) rfl, hgd_at 627 (by decide +kernel) rfl⟩
abbrev m_X3_get : hYd := (yX3_get, cX3_get, 2, some (.object "HoldingStack$State"), 1)
theorem kY_X3_get : hYk m_X3_get 1 := ⟨hgd_at 641 (by decide +kernel) rfl, hgd_at 65 (by decide +kernel) rfl, by decide +kernel, by decide +kernel, by decide⟩
theorem kV_X3_get : hYv m_X3_get := ⟨hgd_at 639 (by decide +kernel) rfl, hgd_at 640 (by decide +kernel) rfl⟩
abbrev m_X4_init : hYd := (yX4_init, cX4_init, 2, none, 2)
theorem kY_X4_init : hYk m_X4_init 0 := ⟨hgd_at 81 (by decide +kernel) rfl, hgd_at 59 (by decide +kernel) rfl, by decide +kernel, by decide +kernel, by decide⟩
theorem kI_X4_init : Cond.instanceMethod yX4_init ∈ hgd := hgd_at 80 (by decide +kernel) rfl
abbrev m_X4_copyFrom : hYd := (yX4_copyFrom, cX4_copyFrom, 3, none, 1)
theorem kY_X4_copyFrom : hYk m_X4_copyFrom 1 := ⟨hgd_at 301 (by decide +kernel) rfl, hgd_at 59 (by decide +kernel) rfl, by decide +kernel, by decide +kernel, by decide⟩
theorem kV_X4_copyFrom : hYv m_X4_copyFrom := ⟨hgd_at 299 (by decide +kernel) rfl, hgd_at 300 (by decide +kernel) rfl⟩
abbrev m_X4_beginAnew : hYd := (yX4_beginAnew, cX4_beginAnew, 2, none, 1)
theorem kY_X4_beginAnew : hYk m_X4_beginAnew 1 := ⟨hgd_at 309 (by decide +kernel) rfl, hgd_at 59 (by decide +kernel) rfl, by decide +kernel, by decide +kernel, by decide⟩
theorem kV_X4_beginAnew : hYv m_X4_beginAnew := ⟨hgd_at 307 (by decide +kernel) rfl, hgd_at 308 (by decide +kernel) rfl⟩
abbrev m_X4_changeLap : hYd := (yX4_changeLap, cX4_changeLap, 4, none, 2)
theorem kY_X4_changeLap : hYk m_X4_changeLap 1 := ⟨hgd_at 317 (by decide +kernel) rfl, hgd_at 59 (by decide +kernel) rfl, by decide +kernel, by decide +kernel, by decide⟩
theorem kV_X4_changeLap : hYv m_X4_changeLap := ⟨hgd_at 315 (by decide +kernel) rfl, hgd_at 316 (by decide +kernel) rfl⟩
abbrev m_X4_hasLevel : hYd := (yX4_hasLevel, cX4_hasLevel, 2, some .boolean, 0)
theorem kY_X4_hasLevel : hYk m_X4_hasLevel 1 := ⟨hgd_at 325 (by decide +kernel) rfl, hgd_at 59 (by decide +kernel) rfl, by decide +kernel, by decide +kernel, by decide⟩
theorem kV_X4_hasLevel : hYv m_X4_hasLevel := ⟨hgd_at 323 (by decide +kernel) rfl, hgd_at 324 (by decide +kernel) rfl⟩
abbrev m_X4_isFull : hYd := (yX4_isFull, cX4_isFull, 1, some .boolean, 0)
theorem kY_X4_isFull : hYk m_X4_isFull 0 := ⟨hgd_at 368 (by decide +kernel) rfl, hgd_at 59 (by decide +kernel) rfl, by decide +kernel, by decide +kernel, by decide⟩
theorem kV_X4_isFull : hYv m_X4_isFull := ⟨hgd_at 366 (by decide +kernel) rfl, hgd_at 367 (by decide +kernel) rfl⟩
abbrev m_X4_numbered : hYd := (yX4_numbered, cX4_numbered, 2, some (.object "HoldingStack$Aircraft"), 0)
theorem kY_X4_numbered : hYk m_X4_numbered 1 := ⟨hgd_at 329 (by decide +kernel) rfl, hgd_at 59 (by decide +kernel) rfl, by decide +kernel, by decide +kernel, by decide⟩
theorem kV_X4_numbered : hYv m_X4_numbered := ⟨hgd_at 327 (by decide +kernel) rfl, hgd_at 328 (by decide +kernel) rfl⟩
abbrev m_X4_holderOf : hYd := (yX4_holderOf, cX4_holderOf, 2, some (.object "HoldingStack$Aircraft"), 1)
theorem kY_X4_holderOf : hYk m_X4_holderOf 1 := ⟨hgd_at 321 (by decide +kernel) rfl, hgd_at 59 (by decide +kernel) rfl, by decide +kernel, by decide +kernel, by decide⟩
theorem kV_X4_holderOf : hYv m_X4_holderOf := ⟨hgd_at 319 (by decide +kernel) rfl, hgd_at 320 (by decide +kernel) rfl⟩
abbrev m_X4_isFree : hYd := (yX4_isFree, cX4_isFree, 2, some .boolean, 1)
theorem kY_X4_isFree : hYk m_X4_isFree 1 := ⟨hgd_at 376 (by decide +kernel) rfl, hgd_at 59 (by decide +kernel) rfl, by decide +kernel, by decide +kernel, by decide⟩
theorem kV_X4_isFree : hYv m_X4_isFree := ⟨hgd_at 374 (by decide +kernel) rfl, hgd_at 375 (by decide +kernel) rfl⟩
abbrev m_X4_setHolder : hYd := (yX4_setHolder, cX4_setHolder, 3, none, 0)
theorem kY_X4_setHolder : hYk m_X4_setHolder 2 := ⟨hgd_at 389 (by decide +kernel) rfl, hgd_at 59 (by decide +kernel) rfl, by decide +kernel, by decide +kernel, by decide⟩
theorem kV_X4_setHolder : hYv m_X4_setHolder := ⟨hgd_at 388 (by decide +kernel) rfl, hgd_at 2 (by decide +kernel) rfl⟩
abbrev m_X4_countOf : hYd := (yX4_countOf, cX4_countOf, 4, some .int, 0)
theorem kY_X4_countOf : hYk m_X4_countOf 1 := ⟨hgd_at 380 (by decide +kernel) rfl, hgd_at 59 (by decide +kernel) rfl, by decide +kernel, by decide +kernel, by decide⟩
theorem kV_X4_countOf : hYv m_X4_countOf := ⟨hgd_at 378 (by decide +kernel) rfl, hgd_at 379 (by decide +kernel) rfl⟩
abbrev m_X4_refusal : hYd := (yX4_refusal, cX4_refusal, 4, some .int, 2)
theorem kY_X4_refusal : hYk m_X4_refusal 3 := ⟨hgd_at 372 (by decide +kernel) rfl, hgd_at 59 (by decide +kernel) rfl, by decide +kernel, by decide +kernel, by decide⟩
theorem kV_X4_refusal : hYv m_X4_refusal := ⟨hgd_at 370 (by decide +kernel) rfl, hgd_at 371 (by decide +kernel) rfl⟩
abbrev m_X4_admit : hYd := (yX4_admit, cX4_admit, 5, some .int, 1)
theorem kY_X4_admit : hYk m_X4_admit 3 := ⟨hgd_at 384 (by decide +kernel) rfl, hgd_at 59 (by decide +kernel) rfl, by decide +kernel, by decide +kernel, by decide⟩
theorem kV_X4_admit : hYv m_X4_admit := ⟨hgd_at 382 (by decide +kernel) rfl, hgd_at 383 (by decide +kernel) rfl⟩
abbrev m_X4_markCalled : hYd := (yX4_markCalled, cX4_markCalled, 3, some .int, 1)
theorem kY_X4_markCalled : hYk m_X4_markCalled 1 := ⟨hgd_at 406 (by decide +kernel) rfl, hgd_at 59 (by decide +kernel) rfl, by decide +kernel, by decide +kernel, by decide⟩
theorem kV_X4_markCalled : hYv m_X4_markCalled := ⟨hgd_at 404 (by decide +kernel) rfl, hgd_at 405 (by decide +kernel) rfl⟩
abbrev m_X4_passMinutes : hYd := (yX4_passMinutes, cX4_passMinutes, 4, some .int, 5)
theorem kY_X4_passMinutes : hYk m_X4_passMinutes 1 := ⟨hgd_at 414 (by decide +kernel) rfl, hgd_at 59 (by decide +kernel) rfl, by decide +kernel, by decide +kernel, by decide⟩
theorem kV_X4_passMinutes : hYv m_X4_passMinutes := ⟨hgd_at 412 (by decide +kernel) rfl, hgd_at 413 (by decide +kernel) rfl⟩
abbrev m_X4_minutesToLanding : hYd := (yX4_minutesToLanding, cX4_minutesToLanding, 4, some .int, 5)
theorem kY_X4_minutesToLanding : hYk m_X4_minutesToLanding 2 := ⟨hgd_at 539 (by decide +kernel) rfl, hgd_at 59 (by decide +kernel) rfl, by decide +kernel, by decide +kernel, by decide⟩
theorem kV_X4_minutesToLanding : hYv m_X4_minutesToLanding := ⟨hgd_at 537 (by decide +kernel) rfl, hgd_at 538 (by decide +kernel) rfl⟩
abbrev m_X4_mayLand : hYd := (yX4_mayLand, cX4_mayLand, 1, some .boolean, 1)
theorem kY_X4_mayLand : hYk m_X4_mayLand 0 := ⟨hgd_at 514 (by decide +kernel) rfl, hgd_at 59 (by decide +kernel) rfl, by decide +kernel, by decide +kernel, by decide⟩
theorem kV_X4_mayLand : hYv m_X4_mayLand := ⟨hgd_at 512 (by decide +kernel) rfl, hgd_at 513 (by decide +kernel) rfl⟩
abbrev m_X4_passMinute : hYd := (yX4_passMinute, cX4_passMinute, 2, some .int, 4)
theorem kY_X4_passMinute : hYk m_X4_passMinute 0 := ⟨hgd_at 418 (by decide +kernel) rfl, hgd_at 59 (by decide +kernel) rfl, by decide +kernel, by decide +kernel, by decide⟩
theorem kV_X4_passMinute : hYv m_X4_passMinute := ⟨hgd_at 416 (by decide +kernel) rfl, hgd_at 417 (by decide +kernel) rfl⟩
abbrev m_X4_burnAndFly : hYd := (yX4_burnAndFly, cX4_burnAndFly, 3, none, 2)
theorem kY_X4_burnAndFly : hYk m_X4_burnAndFly 0 := ⟨hgd_at 422 (by decide +kernel) rfl, hgd_at 59 (by decide +kernel) rfl, by decide +kernel, by decide +kernel, by decide⟩
theorem kV_X4_burnAndFly : hYv m_X4_burnAndFly := ⟨hgd_at 421 (by decide +kernel) rfl, hgd_at 4 (by decide +kernel) rfl⟩
abbrev m_X4_divertStarved : hYd := (yX4_divertStarved, cX4_divertStarved, 3, none, 2)
theorem kY_X4_divertStarved : hYk m_X4_divertStarved 0 := ⟨hgd_at 441 (by decide +kernel) rfl, hgd_at 59 (by decide +kernel) rfl, by decide +kernel, by decide +kernel, by decide⟩
theorem kV_X4_divertStarved : hYv m_X4_divertStarved := ⟨hgd_at 440 (by decide +kernel) rfl, hgd_at 5 (by decide +kernel) rfl⟩
abbrev m_X4_landOne : hYd := (yX4_landOne, cX4_landOne, 2, some .int, 3)
theorem kY_X4_landOne : hYk m_X4_landOne 0 := ⟨hgd_at 453 (by decide +kernel) rfl, hgd_at 59 (by decide +kernel) rfl, by decide +kernel, by decide +kernel, by decide⟩
theorem kV_X4_landOne : hYv m_X4_landOne := ⟨hgd_at 452 (by decide +kernel) rfl, hgd_at 7 (by decide +kernel) rfl⟩
abbrev m_X4_nextToLand : hYd := (yX4_nextToLand, cX4_nextToLand, 4, some (.object "HoldingStack$Aircraft"), 2)
theorem kY_X4_nextToLand : hYk m_X4_nextToLand 0 := ⟨hgd_at 457 (by decide +kernel) rfl, hgd_at 59 (by decide +kernel) rfl, by decide +kernel, by decide +kernel, by decide⟩
theorem kV_X4_nextToLand : hYv m_X4_nextToLand := ⟨hgd_at 456 (by decide +kernel) rfl, hgd_at 8 (by decide +kernel) rfl⟩
abbrev m_X4_leave : hYd := (yX4_leave, cX4_leave, 3, none, 1)
theorem kY_X4_leave : hYk m_X4_leave 2 := ⟨hgd_at 449 (by decide +kernel) rfl, hgd_at 59 (by decide +kernel) rfl, by decide +kernel, by decide +kernel, by decide⟩
theorem kV_X4_leave : hYv m_X4_leave := ⟨hgd_at 448 (by decide +kernel) rfl, hgd_at 6 (by decide +kernel) rfl⟩
abbrev m_X4_goDownLadder : hYd := (yX4_goDownLadder, cX4_goDownLadder, 3, none, 2)
theorem kY_X4_goDownLadder : hYk m_X4_goDownLadder 0 := ⟨hgd_at 469 (by decide +kernel) rfl, hgd_at 59 (by decide +kernel) rfl, by decide +kernel, by decide +kernel, by decide⟩
theorem kV_X4_goDownLadder : hYv m_X4_goDownLadder := ⟨hgd_at 468 (by decide +kernel) rfl, hgd_at 9 (by decide +kernel) rfl⟩
abbrev m_X5_init : hYd := (yX5_init, cX5_init, 1, none, 1)
theorem kY_X5_init : hYk m_X5_init 0 := ⟨hgd_at 237 (by decide +kernel) rfl, hgd_at 66 (by decide +kernel) rfl, by decide +kernel, by decide +kernel, by decide⟩
theorem kI_X5_init : Cond.instanceMethod yX5_init ∈ hgd := hgd_at 236 (by decide +kernel) rfl
abbrev m_X5_add : hYd := (yX5_add, cX5_add, 2, some .boolean, 0)
theorem kY_X5_add : hYk m_X5_add 1 := ⟨hgd_at 552 (by decide +kernel) rfl, hgd_at 66 (by decide +kernel) rfl, by decide +kernel, by decide +kernel, by decide⟩
theorem kV_X5_add : hYv m_X5_add := ⟨hgd_at 550 (by decide +kernel) rfl, hgd_at 551 (by decide +kernel) rfl⟩
abbrev m_X5_restart : hYd := (yX5_restart, cX5_restart, 1, none, 0)
theorem kY_X5_restart : hYk m_X5_restart 0 := ⟨hgd_at 568 (by decide +kernel) rfl, hgd_at 66 (by decide +kernel) rfl, by decide +kernel, by decide +kernel, by decide⟩
theorem kV_X5_restart : hYv m_X5_restart := ⟨hgd_at 566 (by decide +kernel) rfl, hgd_at 567 (by decide +kernel) rfl⟩
abbrev m_X5_findFault : hYd := (yX5_findFault, cX5_findFault, 3, some .int, 4)
theorem kY_X5_findFault : hYk m_X5_findFault 0 := ⟨hgd_at 564 (by decide +kernel) rfl, hgd_at 66 (by decide +kernel) rfl, by decide +kernel, by decide +kernel, by decide⟩
theorem kV_X5_findFault : hYv m_X5_findFault := ⟨hgd_at 562 (by decide +kernel) rfl, hgd_at 563 (by decide +kernel) rfl⟩
abbrev m_X5_readStrip : hYd := (yX5_readStrip, cX5_readStrip, 1, some .boolean, 3)
theorem kY_X5_readStrip : hYk m_X5_readStrip 0 := ⟨hgd_at 572 (by decide +kernel) rfl, hgd_at 66 (by decide +kernel) rfl, by decide +kernel, by decide +kernel, by decide⟩
theorem kV_X5_readStrip : hYv m_X5_readStrip := ⟨hgd_at 570 (by decide +kernel) rfl, hgd_at 571 (by decide +kernel) rfl⟩
abbrev m_X5_readEntry : hYd := (yX5_readEntry, cX5_readEntry, 1, none, 2)
theorem kY_X5_readEntry : hYk m_X5_readEntry 0 := ⟨hgd_at 580 (by decide +kernel) rfl, hgd_at 66 (by decide +kernel) rfl, by decide +kernel, by decide +kernel, by decide⟩
theorem kV_X5_readEntry : hYv m_X5_readEntry := ⟨hgd_at 579 (by decide +kernel) rfl, hgd_at 15 (by decide +kernel) rfl⟩
abbrev m_X5_readKind : hYd := (yX5_readKind, cX5_readKind, 2, some (.object "HoldingStack$Kind"), 1)
theorem kY_X5_readKind : hYk m_X5_readKind 0 := ⟨hgd_at 584 (by decide +kernel) rfl, hgd_at 66 (by decide +kernel) rfl, by decide +kernel, by decide +kernel, by decide⟩
theorem kV_X5_readKind : hYv m_X5_readKind := ⟨hgd_at 583 (by decide +kernel) rfl, hgd_at 16 (by decide +kernel) rfl⟩
abbrev m_X5_readNumber : hYd := (yX5_readNumber, cX5_readNumber, 7, some .int, 1)
theorem kY_X5_readNumber : hYk m_X5_readNumber 2 := ⟨hgd_at 595 (by decide +kernel) rfl, hgd_at 66 (by decide +kernel) rfl, by decide +kernel, by decide +kernel, by decide⟩
theorem kV_X5_readNumber : hYv m_X5_readNumber := ⟨hgd_at 594 (by decide +kernel) rfl, hgd_at 18 (by decide +kernel) rfl⟩
abbrev m_X5_expect : hYd := (yX5_expect, cX5_expect, 2, none, 1)
theorem kY_X5_expect : hYk m_X5_expect 1 := ⟨hgd_at 602 (by decide +kernel) rfl, hgd_at 66 (by decide +kernel) rfl, by decide +kernel, by decide +kernel, by decide⟩
theorem kV_X5_expect : hYv m_X5_expect := ⟨hgd_at 601 (by decide +kernel) rfl, hgd_at 19 (by decide +kernel) rfl⟩
abbrev m_X5_fail : hYd := (yX5_fail, cX5_fail, 2, none, 0)
theorem kY_X5_fail : hYk m_X5_fail 1 := ⟨hgd_at 588 (by decide +kernel) rfl, hgd_at 66 (by decide +kernel) rfl, by decide +kernel, by decide +kernel, by decide⟩
theorem kV_X5_fail : hYv m_X5_fail := ⟨hgd_at 587 (by decide +kernel) rfl, hgd_at 17 (by decide +kernel) rfl⟩
abbrev m_X5_peek : hYd := (yX5_peek, cX5_peek, 1, some .char, 0)
theorem kY_X5_peek : hYk m_X5_peek 0 := ⟨hgd_at 576 (by decide +kernel) rfl, hgd_at 66 (by decide +kernel) rfl, by decide +kernel, by decide +kernel, by decide⟩
theorem kV_X5_peek : hYv m_X5_peek := ⟨hgd_at 575 (by decide +kernel) rfl, hgd_at 14 (by decide +kernel) rfl⟩
abbrev m_X5_isDigit : hYd := (yX5_isDigit, cX5_isDigit, 1, some .boolean, 0)
theorem kY_X5_isDigit : hYk m_X5_isDigit 1 := ⟨hgd_at 598 (by decide +kernel) rfl, hgd_at 66 (by decide +kernel) rfl, by decide +kernel, by decide +kernel, by decide⟩
theorem kS_X5_isDigit : Cond.static yX5_isDigit ∈ hgd := hgd_at 597 (by decide +kernel) rfl
abbrev m_X6_init : hYd := (yX6_init, cX6_init, 1, none, 4)
theorem kY_X6_init : hYk m_X6_init 0 := ⟨hgd_at 73 (by decide +kernel) rfl, hgd_at 58 (by decide +kernel) rfl, by decide +kernel, by decide +kernel, by decide⟩
theorem kI_X6_init : Cond.instanceMethod yX6_init ∈ hgd := hgd_at 72 (by decide +kernel) rfl
abbrev m_X6_begin : hYd := (yX6_begin, cX6_begin, 3, some .int, 3)
theorem kY_X6_begin : hYk m_X6_begin 1 := ⟨hgd_at 289 (by decide +kernel) rfl, hgd_at 58 (by decide +kernel) rfl, by decide +kernel, by decide +kernel, by decide⟩
theorem kV_X6_begin : hYv m_X6_begin := ⟨hgd_at 287 (by decide +kernel) rfl, hgd_at 288 (by decide +kernel) rfl⟩
abbrev m_X6_setLap : hYd := (yX6_setLap, cX6_setLap, 3, some .int, 3)
theorem kY_X6_setLap : hYk m_X6_setLap 1 := ⟨hgd_at 313 (by decide +kernel) rfl, hgd_at 58 (by decide +kernel) rfl, by decide +kernel, by decide +kernel, by decide⟩
theorem kV_X6_setLap : hYv m_X6_setLap := ⟨hgd_at 311 (by decide +kernel) rfl, hgd_at 312 (by decide +kernel) rfl⟩
abbrev m_X6_setLimit : hYd := (yX6_setLimit, cX6_setLimit, 3, some .int, 3)
theorem kY_X6_setLimit : hYk m_X6_setLimit 1 := ⟨hgd_at 333 (by decide +kernel) rfl, hgd_at 58 (by decide +kernel) rfl, by decide +kernel, by decide +kernel, by decide⟩
theorem kV_X6_setLimit : hYv m_X6_setLimit := ⟨hgd_at 331 (by decide +kernel) rfl, hgd_at 332 (by decide +kernel) rfl⟩
abbrev m_X6_setRunway : hYd := (yX6_setRunway, cX6_setRunway, 3, some .int, 3)
theorem kY_X6_setRunway : hYk m_X6_setRunway 1 := ⟨hgd_at 337 (by decide +kernel) rfl, hgd_at 58 (by decide +kernel) rfl, by decide +kernel, by decide +kernel, by decide⟩
theorem kV_X6_setRunway : hYv m_X6_setRunway := ⟨hgd_at 335 (by decide +kernel) rfl, hgd_at 336 (by decide +kernel) rfl⟩
abbrev m_X6_setLadder : hYd := (yX6_setLadder, cX6_setLadder, 3, some .int, 3)
theorem kY_X6_setLadder : hYk m_X6_setLadder 1 := ⟨hgd_at 344 (by decide +kernel) rfl, hgd_at 58 (by decide +kernel) rfl, by decide +kernel, by decide +kernel, by decide⟩
theorem kV_X6_setLadder : hYv m_X6_setLadder := ⟨hgd_at 342 (by decide +kernel) rfl, hgd_at 343 (by decide +kernel) rfl⟩
abbrev m_X6_enter : hYd := (yX6_enter, cX6_enter, 6, some .int, 4)
theorem kY_X6_enter : hYk m_X6_enter 3 := ⟨hgd_at 348 (by decide +kernel) rfl, hgd_at 58 (by decide +kernel) rfl, by decide +kernel, by decide +kernel, by decide⟩
theorem kV_X6_enter : hYv m_X6_enter := ⟨hgd_at 346 (by decide +kernel) rfl, hgd_at 347 (by decide +kernel) rfl⟩
abbrev m_X6_call : hYd := (yX6_call, cX6_call, 3, some .int, 3)
theorem kY_X6_call : hYk m_X6_call 1 := ⟨hgd_at 393 (by decide +kernel) rfl, hgd_at 58 (by decide +kernel) rfl, by decide +kernel, by decide +kernel, by decide⟩
theorem kV_X6_call : hYv m_X6_call := ⟨hgd_at 391 (by decide +kernel) rfl, hgd_at 392 (by decide +kernel) rfl⟩
abbrev m_X6_pass : hYd := (yX6_pass, cX6_pass, 2, some .int, 6)
theorem kY_X6_pass : hYk m_X6_pass 1 := ⟨hgd_at 410 (by decide +kernel) rfl, hgd_at 58 (by decide +kernel) rfl, by decide +kernel, by decide +kernel, by decide⟩
theorem kV_X6_pass : hYv m_X6_pass := ⟨hgd_at 408 (by decide +kernel) rfl, hgd_at 409 (by decide +kernel) rfl⟩
abbrev m_X6_level : hYd := (yX6_level, cX6_level, 3, some .int, 2)
theorem kY_X6_level : hYk m_X6_level 1 := ⟨hgd_at 473 (by decide +kernel) rfl, hgd_at 58 (by decide +kernel) rfl, by decide +kernel, by decide +kernel, by decide⟩
theorem kV_X6_level : hYv m_X6_level := ⟨hgd_at 471 (by decide +kernel) rfl, hgd_at 472 (by decide +kernel) rfl⟩
abbrev m_X6_aircraft : hYd := (yX6_aircraft, cX6_aircraft, 4, some .int, 2)
theorem kY_X6_aircraft : hYk m_X6_aircraft 2 := ⟨hgd_at 478 (by decide +kernel) rfl, hgd_at 58 (by decide +kernel) rfl, by decide +kernel, by decide +kernel, by decide⟩
theorem kV_X6_aircraft : hYv m_X6_aircraft := ⟨hgd_at 476 (by decide +kernel) rfl, hgd_at 477 (by decide +kernel) rfl⟩
abbrev m_X6_tell : hYd := (yX6_tell, cX6_tell, 2, some .int, 2)
theorem kY_X6_tell : hYk m_X6_tell 1 := ⟨hgd_at 486 (by decide +kernel) rfl, hgd_at 58 (by decide +kernel) rfl, by decide +kernel, by decide +kernel, by decide⟩
theorem kV_X6_tell : hYv m_X6_tell := ⟨hgd_at 484 (by decide +kernel) rfl, hgd_at 485 (by decide +kernel) rfl⟩
abbrev m_X6_why : hYd := (yX6_why, cX6_why, 3, some .int, 2)
theorem kY_X6_why : hYk m_X6_why 1 := ⟨hgd_at 499 (by decide +kernel) rfl, hgd_at 58 (by decide +kernel) rfl, by decide +kernel, by decide +kernel, by decide⟩
theorem kV_X6_why : hYv m_X6_why := ⟨hgd_at 497 (by decide +kernel) rfl, hgd_at 498 (by decide +kernel) rfl⟩
abbrev m_X6_minutesLeft : hYd := (yX6_minutesLeft, cX6_minutesLeft, 2, some .int, 6)
theorem kY_X6_minutesLeft : hYk m_X6_minutesLeft 1 := ⟨hgd_at 505 (by decide +kernel) rfl, hgd_at 58 (by decide +kernel) rfl, by decide +kernel, by decide +kernel, by decide⟩
theorem kV_X6_minutesLeft : hYv m_X6_minutesLeft := ⟨hgd_at 503 (by decide +kernel) rfl, hgd_at 504 (by decide +kernel) rfl⟩
abbrev m_X6_landsWith : hYd := (yX6_landsWith, cX6_landsWith, 3, some .int, 6)
theorem kY_X6_landsWith : hYk m_X6_landsWith 1 := ⟨hgd_at 523 (by decide +kernel) rfl, hgd_at 58 (by decide +kernel) rfl, by decide +kernel, by decide +kernel, by decide⟩
theorem kV_X6_landsWith : hYv m_X6_landsWith := ⟨hgd_at 521 (by decide +kernel) rfl, hgd_at 522 (by decide +kernel) rfl⟩
abbrev m_X6_endurance : hYd := (yX6_endurance, cX6_endurance, 3, some .int, 2)
theorem kY_X6_endurance : hYk m_X6_endurance 1 := ⟨hgd_at 527 (by decide +kernel) rfl, hgd_at 58 (by decide +kernel) rfl, by decide +kernel, by decide +kernel, by decide⟩
theorem kV_X6_endurance : hYv m_X6_endurance := ⟨hgd_at 525 (by decide +kernel) rfl, hgd_at 526 (by decide +kernel) rfl⟩
abbrev m_X6_bestLevel : hYd := (yX6_bestLevel, cX6_bestLevel, 9, some .int, 6)
theorem kY_X6_bestLevel : hYk m_X6_bestLevel 2 := ⟨hgd_at 535 (by decide +kernel) rfl, hgd_at 58 (by decide +kernel) rfl, by decide +kernel, by decide +kernel, by decide⟩
theorem kV_X6_bestLevel : hYv m_X6_bestLevel := ⟨hgd_at 533 (by decide +kernel) rfl, hgd_at 534 (by decide +kernel) rfl⟩
abbrev m_X6_lands : hYd := (yX6_lands, cX6_lands, 5, some .int, 5)
theorem kY_X6_lands : hYk m_X6_lands 1 := ⟨hgd_at 544 (by decide +kernel) rfl, hgd_at 58 (by decide +kernel) rfl, by decide +kernel, by decide +kernel, by decide⟩
theorem kV_X6_lands : hYv m_X6_lands := ⟨hgd_at 542 (by decide +kernel) rfl, hgd_at 543 (by decide +kernel) rfl⟩
abbrev m_X6_append : hYd := (yX6_append, cX6_append, 2, some .int, 1)
theorem kY_X6_append : hYk m_X6_append 1 := ⟨hgd_at 548 (by decide +kernel) rfl, hgd_at 58 (by decide +kernel) rfl, by decide +kernel, by decide +kernel, by decide⟩
theorem kV_X6_append : hYv m_X6_append := ⟨hgd_at 546 (by decide +kernel) rfl, hgd_at 547 (by decide +kernel) rfl⟩
abbrev m_X6_clearText : hYd := (yX6_clearText, cX6_clearText, 2, some .int, 0)
theorem kY_X6_clearText : hYk m_X6_clearText 0 := ⟨hgd_at 556 (by decide +kernel) rfl, hgd_at 58 (by decide +kernel) rfl, by decide +kernel, by decide +kernel, by decide⟩
theorem kV_X6_clearText : hYv m_X6_clearText := ⟨hgd_at 554 (by decide +kernel) rfl, hgd_at 555 (by decide +kernel) rfl⟩
abbrev m_X6_faultPosition : hYd := (yX6_faultPosition, cX6_faultPosition, 1, some .int, 5)
theorem kY_X6_faultPosition : hYk m_X6_faultPosition 0 := ⟨hgd_at 560 (by decide +kernel) rfl, hgd_at 58 (by decide +kernel) rfl, by decide +kernel, by decide +kernel, by decide⟩
theorem kV_X6_faultPosition : hYv m_X6_faultPosition := ⟨hgd_at 558 (by decide +kernel) rfl, hgd_at 559 (by decide +kernel) rfl⟩
abbrev m_X6_run : hYd := (yX6_run, cX6_run, 2, some .int, 7)
theorem kY_X6_run : hYk m_X6_run 0 := ⟨hgd_at 606 (by decide +kernel) rfl, hgd_at 58 (by decide +kernel) rfl, by decide +kernel, by decide +kernel, by decide⟩
theorem kV_X6_run : hYv m_X6_run := ⟨hgd_at 604 (by decide +kernel) rfl, hgd_at 605 (by decide +kernel) rfl⟩
abbrev m_X6_undo : hYd := (yX6_undo, cX6_undo, 1, some .int, 3)
theorem kY_X6_undo : hYk m_X6_undo 0 := ⟨hgd_at 616 (by decide +kernel) rfl, hgd_at 58 (by decide +kernel) rfl, by decide +kernel, by decide +kernel, by decide⟩
theorem kV_X6_undo : hYv m_X6_undo := ⟨hgd_at 614 (by decide +kernel) rfl, hgd_at 615 (by decide +kernel) rfl⟩
abbrev m_X6_keep : hYd := (yX6_keep, cX6_keep, 2, some .int, 3)
theorem kY_X6_keep : hYk m_X6_keep 1 := ⟨hgd_at 624 (by decide +kernel) rfl, hgd_at 58 (by decide +kernel) rfl, by decide +kernel, by decide +kernel, by decide⟩
theorem kV_X6_keep : hYv m_X6_keep := ⟨hgd_at 622 (by decide +kernel) rfl, hgd_at 623 (by decide +kernel) rfl⟩
abbrev m_X6_restore : hYd := (yX6_restore, cX6_restore, 3, some .int, 3)
theorem kY_X6_restore : hYk m_X6_restore 1 := ⟨hgd_at 637 (by decide +kernel) rfl, hgd_at 58 (by decide +kernel) rfl, by decide +kernel, by decide +kernel, by decide⟩
theorem kV_X6_restore : hYv m_X6_restore := ⟨hgd_at 635 (by decide +kernel) rfl, hgd_at 636 (by decide +kernel) rfl⟩
abbrev m_X6_checksum : hYd := (yX6_checksum, cX6_checksum, 5, some .long, 6)
theorem kY_X6_checksum : hYk m_X6_checksum 0 := ⟨hgd_at 645 (by decide +kernel) rfl, hgd_at 58 (by decide +kernel) rfl, by decide +kernel, by decide +kernel, by decide⟩
theorem kV_X6_checksum : hYv m_X6_checksum := ⟨hgd_at 643 (by decide +kernel) rfl, hgd_at 644 (by decide +kernel) rfl⟩
abbrev m_X6_asNumber : hYd := (yX6_asNumber, cX6_asNumber, 1, some .int, 0)
theorem kY_X6_asNumber : hYk m_X6_asNumber 1 := ⟨hgd_at 340 (by decide +kernel) rfl, hgd_at 58 (by decide +kernel) rfl, by decide +kernel, by decide +kernel, by decide⟩
theorem kS_X6_asNumber : Cond.static yX6_asNumber ∈ hgd := hgd_at 339 (by decide +kernel) rfl
abbrev m_X6_isFuel : hYd := (yX6_isFuel, cX6_isFuel, 1, some .boolean, 0)
theorem kY_X6_isFuel : hYk m_X6_isFuel 1 := ⟨hgd_at 364 (by decide +kernel) rfl, hgd_at 58 (by decide +kernel) rfl, by decide +kernel, by decide +kernel, by decide⟩
theorem kS_X6_isFuel : Cond.static yX6_isFuel ∈ hgd := hgd_at 363 (by decide +kernel) rfl
abbrev m_X6_tellHolding : hYd := (yX6_tellHolding, cX6_tellHolding, 2, some .int, 1)
theorem kY_X6_tellHolding : hYk m_X6_tellHolding 2 := ⟨hgd_at 482 (by decide +kernel) rfl, hgd_at 58 (by decide +kernel) rfl, by decide +kernel, by decide +kernel, by decide⟩
theorem kS_X6_tellHolding : Cond.static yX6_tellHolding ∈ hgd := hgd_at 481 (by decide +kernel) rfl
abbrev m_X6_tellNumberOfAircraft : hYd := (yX6_tellNumberOfAircraft, cX6_tellNumberOfAircraft, 2, some .int, 1)
theorem kY_X6_tellNumberOfAircraft : hYk m_X6_tellNumberOfAircraft 1 := ⟨hgd_at 490 (by decide +kernel) rfl, hgd_at 58 (by decide +kernel) rfl, by decide +kernel, by decide +kernel, by decide⟩
theorem kV_X6_tellNumberOfAircraft : hYv m_X6_tellNumberOfAircraft := ⟨hgd_at 489 (by decide +kernel) rfl, hgd_at 10 (by decide +kernel) rfl⟩
abbrev m_X6_tellFuel : hYd := (yX6_tellFuel, cX6_tellFuel, 2, some .int, 0)
theorem kY_X6_tellFuel : hYk m_X6_tellFuel 1 := ⟨hgd_at 495 (by decide +kernel) rfl, hgd_at 58 (by decide +kernel) rfl, by decide +kernel, by decide +kernel, by decide⟩
theorem kV_X6_tellFuel : hYv m_X6_tellFuel := ⟨hgd_at 494 (by decide +kernel) rfl, hgd_at 11 (by decide +kernel) rfl⟩
abbrev m_X6_checkEntry : hYd := (yX6_checkEntry, cX6_checkEntry, 5, some .int, 3)
theorem kY_X6_checkEntry : hYk m_X6_checkEntry 3 := ⟨hgd_at 360 (by decide +kernel) rfl, hgd_at 58 (by decide +kernel) rfl, by decide +kernel, by decide +kernel, by decide⟩
theorem kV_X6_checkEntry : hYv m_X6_checkEntry := ⟨hgd_at 359 (by decide +kernel) rfl, hgd_at 1 (by decide +kernel) rfl⟩
abbrev m_X6_checkCall : hYd := (yX6_checkCall, cX6_checkCall, 3, some .int, 1)
theorem kY_X6_checkCall : hYk m_X6_checkCall 1 := ⟨hgd_at 397 (by decide +kernel) rfl, hgd_at 58 (by decide +kernel) rfl, by decide +kernel, by decide +kernel, by decide⟩
theorem kV_X6_checkCall : hYv m_X6_checkCall := ⟨hgd_at 396 (by decide +kernel) rfl, hgd_at 3 (by decide +kernel) rfl⟩
abbrev m_X6_carryOutStrip : hYd := (yX6_carryOutStrip, cX6_carryOutStrip, 2, some .int, 6)
theorem kY_X6_carryOutStrip : hYk m_X6_carryOutStrip 0 := ⟨hgd_at 612 (by decide +kernel) rfl, hgd_at 58 (by decide +kernel) rfl, by decide +kernel, by decide +kernel, by decide⟩
theorem kV_X6_carryOutStrip : hYv m_X6_carryOutStrip := ⟨hgd_at 611 (by decide +kernel) rfl, hgd_at 20 (by decide +kernel) rfl⟩
abbrev m_X6_forecast : hYd := (yX6_forecast, cX6_forecast, 2, none, 5)
theorem kY_X6_forecast : hYk m_X6_forecast 0 := ⟨hgd_at 509 (by decide +kernel) rfl, hgd_at 58 (by decide +kernel) rfl, by decide +kernel, by decide +kernel, by decide⟩
theorem kV_X6_forecast : hYv m_X6_forecast := ⟨hgd_at 508 (by decide +kernel) rfl, hgd_at 12 (by decide +kernel) rfl⟩
abbrev m_X6_forecastMinutes : hYd := (yX6_forecastMinutes, cX6_forecastMinutes, 4, some .int, 1)
theorem kY_X6_forecastMinutes : hYk m_X6_forecastMinutes 1 := ⟨hgd_at 519 (by decide +kernel) rfl, hgd_at 58 (by decide +kernel) rfl, by decide +kernel, by decide +kernel, by decide⟩
theorem kV_X6_forecastMinutes : hYv m_X6_forecastMinutes := ⟨hgd_at 518 (by decide +kernel) rfl, hgd_at 13 (by decide +kernel) rfl⟩
abbrev m_X7_init : hYd := (yX7_init, cX7_init, 1, none, 1)
theorem kY_X7_init : hYk m_X7_init 0 := ⟨hgd_at 656 (by decide +kernel) rfl, hgd_at 67 (by decide +kernel) rfl, by decide +kernel, by decide +kernel, by decide⟩
theorem kI_X7_init : Cond.instanceMethod yX7_init ∈ hgd := hgd_at 655 (by decide +kernel) rfl
abbrev m_X7_in : hYd := (yX7_in, cX7_in, 3, some .boolean, 0)
theorem kY_X7_in : hYk m_X7_in 3 := ⟨hgd_at 710 (by decide +kernel) rfl, hgd_at 67 (by decide +kernel) rfl, by decide +kernel, by decide +kernel, by decide⟩
theorem kS_X7_in : Cond.static yX7_in ∈ hgd := hgd_at 709 (by decide +kernel) rfl
abbrev m_X7_at : hYd := (yX7_at, cX7_at, 1, some .int, 0)
theorem kY_X7_at : hYk m_X7_at 1 := ⟨hgd_at 721 (by decide +kernel) rfl, hgd_at 67 (by decide +kernel) rfl, by decide +kernel, by decide +kernel, by decide⟩
theorem kS_X7_at : Cond.static yX7_at ∈ hgd := hgd_at 720 (by decide +kernel) rfl
abbrev m_X7_isLevel : hYd := (yX7_isLevel, cX7_isLevel, 2, some .boolean, 1)
theorem kY_X7_isLevel : hYk m_X7_isLevel 1 := ⟨hgd_at 753 (by decide +kernel) rfl, hgd_at 67 (by decide +kernel) rfl, by decide +kernel, by decide +kernel, by decide⟩
theorem kV_X7_isLevel : hYv m_X7_isLevel := ⟨hgd_at 752 (by decide +kernel) rfl, hgd_at 26 (by decide +kernel) rfl⟩
abbrev m_X7_isCraft : hYd := (yX7_isCraft, cX7_isCraft, 2, some .boolean, 1)
theorem kY_X7_isCraft : hYk m_X7_isCraft 1 := ⟨hgd_at 781 (by decide +kernel) rfl, hgd_at 67 (by decide +kernel) rfl, by decide +kernel, by decide +kernel, by decide⟩
theorem kV_X7_isCraft : hYv m_X7_isCraft := ⟨hgd_at 780 (by decide +kernel) rfl, hgd_at 32 (by decide +kernel) rfl⟩
abbrev m_X7_puts : hYd := (yX7_puts, cX7_puts, 4, some .int, 0)
theorem kY_X7_puts : hYk m_X7_puts 2 := ⟨hgd_at 725 (by decide +kernel) rfl, hgd_at 67 (by decide +kernel) rfl, by decide +kernel, by decide +kernel, by decide⟩
theorem kV_X7_puts : hYv m_X7_puts := ⟨hgd_at 724 (by decide +kernel) rfl, hgd_at 23 (by decide +kernel) rfl⟩
abbrev m_X7_records : hYd := (yX7_records, cX7_records, 2, none, 0)
theorem kY_X7_records : hYk m_X7_records 0 := ⟨hgd_at 714 (by decide +kernel) rfl, hgd_at 67 (by decide +kernel) rfl, by decide +kernel, by decide +kernel, by decide⟩
theorem kV_X7_records : hYv m_X7_records := ⟨hgd_at 713 (by decide +kernel) rfl, hgd_at 22 (by decide +kernel) rfl⟩
abbrev m_X7_begin : hYd := (yX7_begin, cX7_begin, 4, some .int, 1)
theorem kY_X7_begin : hYk m_X7_begin 1 := ⟨hgd_at 707 (by decide +kernel) rfl, hgd_at 67 (by decide +kernel) rfl, by decide +kernel, by decide +kernel, by decide⟩
theorem kV_X7_begin : hYv m_X7_begin := ⟨hgd_at 705 (by decide +kernel) rfl, hgd_at 706 (by decide +kernel) rfl⟩
abbrev m_X7_setLap : hYd := (yX7_setLap, cX7_setLap, 3, some .int, 1)
theorem kY_X7_setLap : hYk m_X7_setLap 1 := ⟨hgd_at 718 (by decide +kernel) rfl, hgd_at 67 (by decide +kernel) rfl, by decide +kernel, by decide +kernel, by decide⟩
theorem kV_X7_setLap : hYv m_X7_setLap := ⟨hgd_at 716 (by decide +kernel) rfl, hgd_at 717 (by decide +kernel) rfl⟩
abbrev m_X7_setLimit : hYd := (yX7_setLimit, cX7_setLimit, 2, some .int, 1)
theorem kY_X7_setLimit : hYk m_X7_setLimit 1 := ⟨hgd_at 729 (by decide +kernel) rfl, hgd_at 67 (by decide +kernel) rfl, by decide +kernel, by decide +kernel, by decide⟩
theorem kV_X7_setLimit : hYv m_X7_setLimit := ⟨hgd_at 727 (by decide +kernel) rfl, hgd_at 728 (by decide +kernel) rfl⟩
abbrev m_X7_opens : hYd := (yX7_opens, cX7_opens, 2, some .int, 1)
theorem kY_X7_opens : hYk m_X7_opens 1 := ⟨hgd_at 737 (by decide +kernel) rfl, hgd_at 67 (by decide +kernel) rfl, by decide +kernel, by decide +kernel, by decide⟩
theorem kV_X7_opens : hYv m_X7_opens := ⟨hgd_at 736 (by decide +kernel) rfl, hgd_at 24 (by decide +kernel) rfl⟩
abbrev m_X7_setRunway : hYd := (yX7_setRunway, cX7_setRunway, 2, some .int, 2)
theorem kY_X7_setRunway : hYk m_X7_setRunway 1 := ⟨hgd_at 733 (by decide +kernel) rfl, hgd_at 67 (by decide +kernel) rfl, by decide +kernel, by decide +kernel, by decide⟩
theorem kV_X7_setRunway : hYv m_X7_setRunway := ⟨hgd_at 731 (by decide +kernel) rfl, hgd_at 732 (by decide +kernel) rfl⟩
abbrev m_X7_setLadder : hYd := (yX7_setLadder, cX7_setLadder, 2, some .int, 1)
theorem kY_X7_setLadder : hYk m_X7_setLadder 1 := ⟨hgd_at 741 (by decide +kernel) rfl, hgd_at 67 (by decide +kernel) rfl, by decide +kernel, by decide +kernel, by decide⟩
theorem kV_X7_setLadder : hYv m_X7_setLadder := ⟨hgd_at 739 (by decide +kernel) rfl, hgd_at 740 (by decide +kernel) rfl⟩
abbrev m_X7_on : hYd := (yX7_on, cX7_on, 3, some .int, 1)
theorem kY_X7_on : hYk m_X7_on 1 := ⟨hgd_at 761 (by decide +kernel) rfl, hgd_at 67 (by decide +kernel) rfl, by decide +kernel, by decide +kernel, by decide⟩
theorem kV_X7_on : hYv m_X7_on := ⟨hgd_at 760 (by decide +kernel) rfl, hgd_at 28 (by decide +kernel) rfl⟩
abbrev m_X7_holding : hYd := (yX7_holding, cX7_holding, 3, some .int, 1)
theorem kY_X7_holding : hYk m_X7_holding 0 := ⟨hgd_at 765 (by decide +kernel) rfl, hgd_at 67 (by decide +kernel) rfl, by decide +kernel, by decide +kernel, by decide⟩
theorem kV_X7_holding : hYv m_X7_holding := ⟨hgd_at 764 (by decide +kernel) rfl, hgd_at 29 (by decide +kernel) rfl⟩
abbrev m_X7_enterWrong : hYd := (yX7_enterWrong, cX7_enterWrong, 4, some .int, 2)
theorem kY_X7_enterWrong : hYk m_X7_enterWrong 3 := ⟨hgd_at 749 (by decide +kernel) rfl, hgd_at 67 (by decide +kernel) rfl, by decide +kernel, by decide +kernel, by decide⟩
theorem kV_X7_enterWrong : hYv m_X7_enterWrong := ⟨hgd_at 748 (by decide +kernel) rfl, hgd_at 25 (by decide +kernel) rfl⟩
abbrev m_X7_refusal : hYd := (yX7_refusal, cX7_refusal, 4, some .int, 2)
theorem kY_X7_refusal : hYk m_X7_refusal 3 := ⟨hgd_at 757 (by decide +kernel) rfl, hgd_at 67 (by decide +kernel) rfl, by decide +kernel, by decide +kernel, by decide⟩
theorem kV_X7_refusal : hYv m_X7_refusal := ⟨hgd_at 756 (by decide +kernel) rfl, hgd_at 27 (by decide +kernel) rfl⟩
abbrev m_X7_enters : hYd := (yX7_enters, cX7_enters, 5, some .int, 1)
theorem kY_X7_enters : hYk m_X7_enters 3 := ⟨hgd_at 769 (by decide +kernel) rfl, hgd_at 67 (by decide +kernel) rfl, by decide +kernel, by decide +kernel, by decide⟩
theorem kV_X7_enters : hYv m_X7_enters := ⟨hgd_at 768 (by decide +kernel) rfl, hgd_at 30 (by decide +kernel) rfl⟩
abbrev m_X7_enter : hYd := (yX7_enter, cX7_enter, 6, some .int, 3)
theorem kY_X7_enter : hYk m_X7_enter 3 := ⟨hgd_at 745 (by decide +kernel) rfl, hgd_at 67 (by decide +kernel) rfl, by decide +kernel, by decide +kernel, by decide⟩
theorem kV_X7_enter : hYv m_X7_enter := ⟨hgd_at 743 (by decide +kernel) rfl, hgd_at 744 (by decide +kernel) rfl⟩
abbrev m_X7_callWrong : hYd := (yX7_callWrong, cX7_callWrong, 2, some .int, 2)
theorem kY_X7_callWrong : hYk m_X7_callWrong 1 := ⟨hgd_at 777 (by decide +kernel) rfl, hgd_at 67 (by decide +kernel) rfl, by decide +kernel, by decide +kernel, by decide⟩
theorem kV_X7_callWrong : hYv m_X7_callWrong := ⟨hgd_at 776 (by decide +kernel) rfl, hgd_at 31 (by decide +kernel) rfl⟩
abbrev m_X7_call : hYd := (yX7_call, cX7_call, 3, some .int, 3)
theorem kY_X7_call : hYk m_X7_call 1 := ⟨hgd_at 773 (by decide +kernel) rfl, hgd_at 67 (by decide +kernel) rfl, by decide +kernel, by decide +kernel, by decide⟩
theorem kV_X7_call : hYv m_X7_call := ⟨hgd_at 771 (by decide +kernel) rfl, hgd_at 772 (by decide +kernel) rfl⟩
abbrev m_X7_burn : hYd := (yX7_burn, cX7_burn, 4, some .int, 1)
theorem kY_X7_burn : hYk m_X7_burn 2 := ⟨hgd_at 801 (by decide +kernel) rfl, hgd_at 67 (by decide +kernel) rfl, by decide +kernel, by decide +kernel, by decide⟩
theorem kV_X7_burn : hYv m_X7_burn := ⟨hgd_at 800 (by decide +kernel) rfl, hgd_at 36 (by decide +kernel) rfl⟩
abbrev m_X7_isShort : hYd := (yX7_isShort, cX7_isShort, 2, some .boolean, 1)
theorem kY_X7_isShort : hYk m_X7_isShort 1 := ⟨hgd_at 817 (by decide +kernel) rfl, hgd_at 67 (by decide +kernel) rfl, by decide +kernel, by decide +kernel, by decide⟩
theorem kV_X7_isShort : hYv m_X7_isShort := ⟨hgd_at 816 (by decide +kernel) rfl, hgd_at 40 (by decide +kernel) rfl⟩
abbrev m_X7_isOver : hYd := (yX7_isOver, cX7_isOver, 2, some .boolean, 1)
theorem kY_X7_isOver : hYk m_X7_isOver 1 := ⟨hgd_at 813 (by decide +kernel) rfl, hgd_at 67 (by decide +kernel) rfl, by decide +kernel, by decide +kernel, by decide⟩
theorem kV_X7_isOver : hYv m_X7_isOver := ⟨hgd_at 812 (by decide +kernel) rfl, hgd_at 39 (by decide +kernel) rfl⟩
abbrev m_X7_leaves : hYd := (yX7_leaves, cX7_leaves, 3, none, 1)
theorem kY_X7_leaves : hYk m_X7_leaves 2 := ⟨hgd_at 805 (by decide +kernel) rfl, hgd_at 67 (by decide +kernel) rfl, by decide +kernel, by decide +kernel, by decide⟩
theorem kV_X7_leaves : hYv m_X7_leaves := ⟨hgd_at 804 (by decide +kernel) rfl, hgd_at 37 (by decide +kernel) rfl⟩
abbrev m_X7_burns : hYd := (yX7_burns, cX7_burns, 4, none, 2)
theorem kY_X7_burns : hYk m_X7_burns 0 := ⟨hgd_at 797 (by decide +kernel) rfl, hgd_at 67 (by decide +kernel) rfl, by decide +kernel, by decide +kernel, by decide⟩
theorem kV_X7_burns : hYv m_X7_burns := ⟨hgd_at 796 (by decide +kernel) rfl, hgd_at 35 (by decide +kernel) rfl⟩
abbrev m_X7_lander : hYd := (yX7_lander, cX7_lander, 4, some .int, 2)
theorem kY_X7_lander : hYk m_X7_lander 0 := ⟨hgd_at 809 (by decide +kernel) rfl, hgd_at 67 (by decide +kernel) rfl, by decide +kernel, by decide +kernel, by decide⟩
theorem kV_X7_lander : hYv m_X7_lander := ⟨hgd_at 808 (by decide +kernel) rfl, hgd_at 38 (by decide +kernel) rfl⟩
abbrev m_X7_passes : hYd := (yX7_passes, cX7_passes, 4, some .int, 3)
theorem kY_X7_passes : hYk m_X7_passes 0 := ⟨hgd_at 793 (by decide +kernel) rfl, hgd_at 67 (by decide +kernel) rfl, by decide +kernel, by decide +kernel, by decide⟩
theorem kV_X7_passes : hYv m_X7_passes := ⟨hgd_at 792 (by decide +kernel) rfl, hgd_at 34 (by decide +kernel) rfl⟩
abbrev m_X7_minutesPass : hYd := (yX7_minutesPass, cX7_minutesPass, 4, some .int, 4)
theorem kY_X7_minutesPass : hYk m_X7_minutesPass 1 := ⟨hgd_at 789 (by decide +kernel) rfl, hgd_at 67 (by decide +kernel) rfl, by decide +kernel, by decide +kernel, by decide⟩
theorem kV_X7_minutesPass : hYv m_X7_minutesPass := ⟨hgd_at 788 (by decide +kernel) rfl, hgd_at 33 (by decide +kernel) rfl⟩
abbrev m_X7_pass : hYd := (yX7_pass, cX7_pass, 2, some .int, 5)
theorem kY_X7_pass : hYk m_X7_pass 1 := ⟨hgd_at 785 (by decide +kernel) rfl, hgd_at 67 (by decide +kernel) rfl, by decide +kernel, by decide +kernel, by decide⟩
theorem kV_X7_pass : hYv m_X7_pass := ⟨hgd_at 783 (by decide +kernel) rfl, hgd_at 784 (by decide +kernel) rfl⟩
abbrev m_X7_level : hYd := (yX7_level, cX7_level, 2, some .int, 2)
theorem kY_X7_level : hYk m_X7_level 1 := ⟨hgd_at 821 (by decide +kernel) rfl, hgd_at 67 (by decide +kernel) rfl, by decide +kernel, by decide +kernel, by decide⟩
theorem kV_X7_level : hYv m_X7_level := ⟨hgd_at 819 (by decide +kernel) rfl, hgd_at 820 (by decide +kernel) rfl⟩
abbrev m_X7_craftTells : hYd := (yX7_craftTells, cX7_craftTells, 5, some .int, 2)
theorem kY_X7_craftTells : hYk m_X7_craftTells 2 := ⟨hgd_at 829 (by decide +kernel) rfl, hgd_at 67 (by decide +kernel) rfl, by decide +kernel, by decide +kernel, by decide⟩
theorem kV_X7_craftTells : hYv m_X7_craftTells := ⟨hgd_at 828 (by decide +kernel) rfl, hgd_at 41 (by decide +kernel) rfl⟩
abbrev m_X7_aircraft : hYd := (yX7_aircraft, cX7_aircraft, 3, some .int, 3)
theorem kY_X7_aircraft : hYk m_X7_aircraft 2 := ⟨hgd_at 825 (by decide +kernel) rfl, hgd_at 67 (by decide +kernel) rfl, by decide +kernel, by decide +kernel, by decide⟩
theorem kV_X7_aircraft : hYv m_X7_aircraft := ⟨hgd_at 823 (by decide +kernel) rfl, hgd_at 824 (by decide +kernel) rfl⟩
abbrev m_X7_many : hYd := (yX7_many, cX7_many, 4, some .int, 1)
theorem kY_X7_many : hYk m_X7_many 1 := ⟨hgd_at 841 (by decide +kernel) rfl, hgd_at 67 (by decide +kernel) rfl, by decide +kernel, by decide +kernel, by decide⟩
theorem kV_X7_many : hYv m_X7_many := ⟨hgd_at 840 (by decide +kernel) rfl, hgd_at 43 (by decide +kernel) rfl⟩
abbrev m_X7_tells : hYd := (yX7_tells, cX7_tells, 2, some .int, 2)
theorem kY_X7_tells : hYk m_X7_tells 1 := ⟨hgd_at 837 (by decide +kernel) rfl, hgd_at 67 (by decide +kernel) rfl, by decide +kernel, by decide +kernel, by decide⟩
theorem kV_X7_tells : hYv m_X7_tells := ⟨hgd_at 836 (by decide +kernel) rfl, hgd_at 42 (by decide +kernel) rfl⟩
abbrev m_X7_tell : hYd := (yX7_tell, cX7_tell, 2, some .int, 3)
theorem kY_X7_tell : hYk m_X7_tell 1 := ⟨hgd_at 833 (by decide +kernel) rfl, hgd_at 67 (by decide +kernel) rfl, by decide +kernel, by decide +kernel, by decide⟩
theorem kV_X7_tell : hYv m_X7_tell := ⟨hgd_at 831 (by decide +kernel) rfl, hgd_at 832 (by decide +kernel) rfl⟩
abbrev m_X7_whyOf : hYd := (yX7_whyOf, cX7_whyOf, 3, some .int, 2)
theorem kY_X7_whyOf : hYk m_X7_whyOf 1 := ⟨hgd_at 849 (by decide +kernel) rfl, hgd_at 67 (by decide +kernel) rfl, by decide +kernel, by decide +kernel, by decide⟩
theorem kV_X7_whyOf : hYv m_X7_whyOf := ⟨hgd_at 848 (by decide +kernel) rfl, hgd_at 44 (by decide +kernel) rfl⟩
abbrev m_X7_why : hYd := (yX7_why, cX7_why, 2, some .int, 3)
theorem kY_X7_why : hYk m_X7_why 1 := ⟨hgd_at 845 (by decide +kernel) rfl, hgd_at 67 (by decide +kernel) rfl, by decide +kernel, by decide +kernel, by decide⟩
theorem kV_X7_why : hYv m_X7_why := ⟨hgd_at 843 (by decide +kernel) rfl, hgd_at 844 (by decide +kernel) rfl⟩
abbrev m_X7_keeps : hYd := (yX7_keeps, cX7_keeps, 3, none, 0)
theorem kY_X7_keeps : hYk m_X7_keeps 1 := ⟨hgd_at 865 (by decide +kernel) rfl, hgd_at 67 (by decide +kernel) rfl, by decide +kernel, by decide +kernel, by decide⟩
theorem kV_X7_keeps : hYv m_X7_keeps := ⟨hgd_at 864 (by decide +kernel) rfl, hgd_at 47 (by decide +kernel) rfl⟩
abbrev m_X7_comesBack : hYd := (yX7_comesBack, cX7_comesBack, 2, none, 0)
theorem kY_X7_comesBack : hYk m_X7_comesBack 0 := ⟨hgd_at 873 (by decide +kernel) rfl, hgd_at 67 (by decide +kernel) rfl, by decide +kernel, by decide +kernel, by decide⟩
theorem kV_X7_comesBack : hYv m_X7_comesBack := ⟨hgd_at 872 (by decide +kernel) rfl, hgd_at 49 (by decide +kernel) rfl⟩
abbrev m_X7_landsLater : hYd := (yX7_landsLater, cX7_landsLater, 4, none, 4)
theorem kY_X7_landsLater : hYk m_X7_landsLater 1 := ⟨hgd_at 869 (by decide +kernel) rfl, hgd_at 67 (by decide +kernel) rfl, by decide +kernel, by decide +kernel, by decide⟩
theorem kV_X7_landsLater : hYv m_X7_landsLater := ⟨hgd_at 868 (by decide +kernel) rfl, hgd_at 48 (by decide +kernel) rfl⟩
abbrev m_X7_forecasts : hYd := (yX7_forecasts, cX7_forecasts, 2, none, 5)
theorem kY_X7_forecasts : hYk m_X7_forecasts 1 := ⟨hgd_at 861 (by decide +kernel) rfl, hgd_at 67 (by decide +kernel) rfl, by decide +kernel, by decide +kernel, by decide⟩
theorem kV_X7_forecasts : hYv m_X7_forecasts := ⟨hgd_at 860 (by decide +kernel) rfl, hgd_at 46 (by decide +kernel) rfl⟩
abbrev m_X7_minutesOf : hYd := (yX7_minutesOf, cX7_minutesOf, 2, some .int, 6)
theorem kY_X7_minutesOf : hYk m_X7_minutesOf 1 := ⟨hgd_at 857 (by decide +kernel) rfl, hgd_at 67 (by decide +kernel) rfl, by decide +kernel, by decide +kernel, by decide⟩
theorem kV_X7_minutesOf : hYv m_X7_minutesOf := ⟨hgd_at 856 (by decide +kernel) rfl, hgd_at 45 (by decide +kernel) rfl⟩
abbrev m_X7_minutesLeft : hYd := (yX7_minutesLeft, cX7_minutesLeft, 2, some .int, 7)
theorem kY_X7_minutesLeft : hYk m_X7_minutesLeft 1 := ⟨hgd_at 853 (by decide +kernel) rfl, hgd_at 67 (by decide +kernel) rfl, by decide +kernel, by decide +kernel, by decide⟩
theorem kV_X7_minutesLeft : hYv m_X7_minutesLeft := ⟨hgd_at 851 (by decide +kernel) rfl, hgd_at 852 (by decide +kernel) rfl⟩
abbrev m_X7_landsWith : hYd := (yX7_landsWith, cX7_landsWith, 2, some .int, 6)
theorem kY_X7_landsWith : hYk m_X7_landsWith 1 := ⟨hgd_at 877 (by decide +kernel) rfl, hgd_at 67 (by decide +kernel) rfl, by decide +kernel, by decide +kernel, by decide⟩
theorem kV_X7_landsWith : hYv m_X7_landsWith := ⟨hgd_at 875 (by decide +kernel) rfl, hgd_at 876 (by decide +kernel) rfl⟩
abbrev m_X7_endurance : hYd := (yX7_endurance, cX7_endurance, 4, some .int, 2)
theorem kY_X7_endurance : hYk m_X7_endurance 1 := ⟨hgd_at 881 (by decide +kernel) rfl, hgd_at 67 (by decide +kernel) rfl, by decide +kernel, by decide +kernel, by decide⟩
theorem kV_X7_endurance : hYv m_X7_endurance := ⟨hgd_at 879 (by decide +kernel) rfl, hgd_at 880 (by decide +kernel) rfl⟩
abbrev m_X7_bestLevel : hYd := (yX7_bestLevel, cX7_bestLevel, 8, some .int, 5)
theorem kY_X7_bestLevel : hYk m_X7_bestLevel 2 := ⟨hgd_at 885 (by decide +kernel) rfl, hgd_at 67 (by decide +kernel) rfl, by decide +kernel, by decide +kernel, by decide⟩
theorem kV_X7_bestLevel : hYv m_X7_bestLevel := ⟨hgd_at 883 (by decide +kernel) rfl, hgd_at 884 (by decide +kernel) rfl⟩
abbrev m_X7_lands : hYd := (yX7_lands, cX7_lands, 6, some .int, 4)
theorem kY_X7_lands : hYk m_X7_lands 1 := ⟨hgd_at 889 (by decide +kernel) rfl, hgd_at 67 (by decide +kernel) rfl, by decide +kernel, by decide +kernel, by decide⟩
theorem kV_X7_lands : hYv m_X7_lands := ⟨hgd_at 887 (by decide +kernel) rfl, hgd_at 888 (by decide +kernel) rfl⟩
abbrev m_X7_append : hYd := (yX7_append, cX7_append, 2, some .int, 1)
theorem kY_X7_append : hYk m_X7_append 1 := ⟨hgd_at 893 (by decide +kernel) rfl, hgd_at 67 (by decide +kernel) rfl, by decide +kernel, by decide +kernel, by decide⟩
theorem kV_X7_append : hYv m_X7_append := ⟨hgd_at 891 (by decide +kernel) rfl, hgd_at 892 (by decide +kernel) rfl⟩
abbrev m_X7_clearText : hYd := (yX7_clearText, cX7_clearText, 2, some .int, 0)
theorem kY_X7_clearText : hYk m_X7_clearText 0 := ⟨hgd_at 897 (by decide +kernel) rfl, hgd_at 67 (by decide +kernel) rfl, by decide +kernel, by decide +kernel, by decide⟩
theorem kV_X7_clearText : hYv m_X7_clearText := ⟨hgd_at 895 (by decide +kernel) rfl, hgd_at 896 (by decide +kernel) rfl⟩
abbrev m_X7_here : hYd := (yX7_here, cX7_here, 1, some .int, 0)
theorem kY_X7_here : hYk m_X7_here 0 := ⟨hgd_at 917 (by decide +kernel) rfl, hgd_at 67 (by decide +kernel) rfl, by decide +kernel, by decide +kernel, by decide⟩
theorem kV_X7_here : hYv m_X7_here := ⟨hgd_at 916 (by decide +kernel) rfl, hgd_at 53 (by decide +kernel) rfl⟩
abbrev m_X7_takes : hYd := (yX7_takes, cX7_takes, 3, some .boolean, 1)
theorem kY_X7_takes : hYk m_X7_takes 1 := ⟨hgd_at 913 (by decide +kernel) rfl, hgd_at 67 (by decide +kernel) rfl, by decide +kernel, by decide +kernel, by decide⟩
theorem kV_X7_takes : hYv m_X7_takes := ⟨hgd_at 912 (by decide +kernel) rfl, hgd_at 52 (by decide +kernel) rfl⟩
abbrev m_X7_digit : hYd := (yX7_digit, cX7_digit, 1, some .int, 1)
theorem kY_X7_digit : hYk m_X7_digit 0 := ⟨hgd_at 925 (by decide +kernel) rfl, hgd_at 67 (by decide +kernel) rfl, by decide +kernel, by decide +kernel, by decide⟩
theorem kV_X7_digit : hYv m_X7_digit := ⟨hgd_at 924 (by decide +kernel) rfl, hgd_at 55 (by decide +kernel) rfl⟩
abbrev m_X7_isNumber : hYd := (yX7_isNumber, cX7_isNumber, 8, some .boolean, 2)
theorem kY_X7_isNumber : hYk m_X7_isNumber 3 := ⟨hgd_at 921 (by decide +kernel) rfl, hgd_at 67 (by decide +kernel) rfl, by decide +kernel, by decide +kernel, by decide⟩
theorem kV_X7_isNumber : hYv m_X7_isNumber := ⟨hgd_at 920 (by decide +kernel) rfl, hgd_at 54 (by decide +kernel) rfl⟩
abbrev m_X7_isStrip : hYd := (yX7_isStrip, cX7_isStrip, 1, some .boolean, 3)
theorem kY_X7_isStrip : hYk m_X7_isStrip 0 := ⟨hgd_at 909 (by decide +kernel) rfl, hgd_at 67 (by decide +kernel) rfl, by decide +kernel, by decide +kernel, by decide⟩
theorem kV_X7_isStrip : hYv m_X7_isStrip := ⟨hgd_at 908 (by decide +kernel) rfl, hgd_at 51 (by decide +kernel) rfl⟩
abbrev m_X7_isText : hYd := (yX7_isText, cX7_isText, 2, some .boolean, 4)
theorem kY_X7_isText : hYk m_X7_isText 0 := ⟨hgd_at 905 (by decide +kernel) rfl, hgd_at 67 (by decide +kernel) rfl, by decide +kernel, by decide +kernel, by decide⟩
theorem kV_X7_isText : hYv m_X7_isText := ⟨hgd_at 904 (by decide +kernel) rfl, hgd_at 50 (by decide +kernel) rfl⟩
abbrev m_X7_faultPosition : hYd := (yX7_faultPosition, cX7_faultPosition, 1, some .int, 5)
theorem kY_X7_faultPosition : hYk m_X7_faultPosition 0 := ⟨hgd_at 901 (by decide +kernel) rfl, hgd_at 67 (by decide +kernel) rfl, by decide +kernel, by decide +kernel, by decide⟩
theorem kV_X7_faultPosition : hYv m_X7_faultPosition := ⟨hgd_at 899 (by decide +kernel) rfl, hgd_at 900 (by decide +kernel) rfl⟩
abbrev m_X7_carriesOut : hYd := (yX7_carriesOut, cX7_carriesOut, 2, some .boolean, 5)
theorem kY_X7_carriesOut : hYk m_X7_carriesOut 0 := ⟨hgd_at 933 (by decide +kernel) rfl, hgd_at 67 (by decide +kernel) rfl, by decide +kernel, by decide +kernel, by decide⟩
theorem kV_X7_carriesOut : hYv m_X7_carriesOut := ⟨hgd_at 932 (by decide +kernel) rfl, hgd_at 56 (by decide +kernel) rfl⟩
abbrev m_X7_run : hYd := (yX7_run, cX7_run, 3, some .int, 6)
theorem kY_X7_run : hYk m_X7_run 0 := ⟨hgd_at 929 (by decide +kernel) rfl, hgd_at 67 (by decide +kernel) rfl, by decide +kernel, by decide +kernel, by decide⟩
theorem kV_X7_run : hYv m_X7_run := ⟨hgd_at 927 (by decide +kernel) rfl, hgd_at 928 (by decide +kernel) rfl⟩
abbrev m_X7_undo : hYd := (yX7_undo, cX7_undo, 2, some .int, 0)
theorem kY_X7_undo : hYk m_X7_undo 0 := ⟨hgd_at 937 (by decide +kernel) rfl, hgd_at 67 (by decide +kernel) rfl, by decide +kernel, by decide +kernel, by decide⟩
theorem kV_X7_undo : hYv m_X7_undo := ⟨hgd_at 935 (by decide +kernel) rfl, hgd_at 936 (by decide +kernel) rfl⟩
abbrev m_X7_keep : hYd := (yX7_keep, cX7_keep, 3, some .int, 1)
theorem kY_X7_keep : hYk m_X7_keep 1 := ⟨hgd_at 941 (by decide +kernel) rfl, hgd_at 67 (by decide +kernel) rfl, by decide +kernel, by decide +kernel, by decide⟩
theorem kV_X7_keep : hYv m_X7_keep := ⟨hgd_at 939 (by decide +kernel) rfl, hgd_at 940 (by decide +kernel) rfl⟩
abbrev m_X7_restore : hYd := (yX7_restore, cX7_restore, 3, some .int, 1)
theorem kY_X7_restore : hYk m_X7_restore 1 := ⟨hgd_at 945 (by decide +kernel) rfl, hgd_at 67 (by decide +kernel) rfl, by decide +kernel, by decide +kernel, by decide⟩
theorem kV_X7_restore : hYv m_X7_restore := ⟨hgd_at 943 (by decide +kernel) rfl, hgd_at 944 (by decide +kernel) rfl⟩
abbrev m_X7_more : hYd := (yX7_more, cX7_more, 3, some .long, 0)
theorem kY_X7_more : hYk m_X7_more 2 := ⟨hgd_at 953 (by decide +kernel) rfl, hgd_at 67 (by decide +kernel) rfl, by decide +kernel, by decide +kernel, by decide⟩
theorem kS_X7_more : Cond.static yX7_more ∈ hgd := hgd_at 952 (by decide +kernel) rfl
abbrev m_X7_checksum : hYd := (yX7_checksum, cX7_checksum, 5, some .long, 7)
theorem kY_X7_checksum : hYk m_X7_checksum 0 := ⟨hgd_at 949 (by decide +kernel) rfl, hgd_at 67 (by decide +kernel) rfl, by decide +kernel, by decide +kernel, by decide⟩
theorem kV_X7_checksum : hYv m_X7_checksum := ⟨hgd_at 947 (by decide +kernel) rfl, hgd_at 948 (by decide +kernel) rfl⟩
abbrev m_J9_min_7cf53 : hYd := (yJ9_min_7cf53, cJ9_min_7cf53, 2, some .int, 0)
theorem kY_J9_min_7cf53 : hYk m_J9_min_7cf53 2 := ⟨hgd_at 433 (by decide +kernel) rfl, hgd_at 68 (by decide +kernel) rfl, by decide +kernel, by decide +kernel, by decide⟩
theorem kS_J9_min_7cf53 : Cond.static yJ9_min_7cf53 ∈ hgd := hgd_at 432 (by decide +kernel) rfl
abbrev m_J7_fill_53178 : hYd := (yJ7_fill_53178, cJ7_fill_53178, 4, none, 0)
theorem kY_J7_fill_53178 : hYk m_J7_fill_53178 2 := ⟨hgd_at 136 (by decide +kernel) rfl, hgd_at 63 (by decide +kernel) rfl, by decide +kernel, by decide +kernel, by decide⟩
theorem kS_J7_fill_53178 : Cond.static yJ7_fill_53178 ∈ hgd := hgd_at 135 (by decide +kernel) rfl
end
section
/-! short forms of the rows; blocks of the memory -/
section HB
variable {z : hZt} {n0 n nm n2 nL d pc i k ci idx len o np : Nat} {X : hXt} {cc : ByteArray} {own : String} {M M' M2 : hMem} {R R' R2 : hRef} {L L' : List (Option Value)} {st st' : List Value} {x y v : Int32} {w : Value} {tgt : Nat} {off : Int}
theorem up2_self {α : Type} {M : Nat → Nat → α} {a k : Nat} : up2 M a k (M a k) = M := by
  funext b j
  unfold up2
  split
  · next h => obtain ⟨rfl, rfl⟩ := h; rfl
  · rfl
theorem gx_putx (hC : hOk z n0 X cc own nL d nm) (hd : decode cc pc = .ok (.putfield idx, 3)) (hF : hFl own idx ci k) (hat : hAt n i (0, ci)) (hnf : hNfin ci k) (hs : sty ci k < 4) (hw : sv z (sty ci k) x (R i k) = w) (hb : sty ci k = 1 → x = 0 ∨ x = 1) (hc : sty ci k = 2 → ∃ q, q < 65536 ∧ x = nI q) (hM : up2 M i k x = M')
    (kk : hG z n0 X n M' R (pc + 3) L st) : hG z n0 X n M R pc L (w :: .ref (z.1 + i) :: st) := by
  subst hM
  refine gx_putv (x := x) (o := R i k) hC hd hF hat hnf hw hb hc ?_
  rw [up2_self]
  exact kk
theorem gx_putI (hC : hOk z n0 X cc own nL d nm) (hd : decode cc pc = .ok (.putfield idx, 3)) (hF : hFl own idx ci k) (hat : hAt n i (0, ci)) (hnf : hNfin ci k) (hs : sty ci k = 0) (hM : up2 M i k x = M')
    (kk : hG z n0 X n M' R (pc + 3) L st) : hG z n0 X n M R pc L (.int x :: .ref (z.1 + i) :: st) :=
  gx_putx hC hd hF hat hnf (by omega) (by rw [hs]; rfl) (fun h => by omega) (fun h => by omega) hM kk
theorem gx_putZ (hC : hOk z n0 X cc own nL d nm) (hd : decode cc pc = .ok (.putfield idx, 3)) (hF : hFl own idx ci k) (hat : hAt n i (0, ci)) (hnf : hNfin ci k) (hs : sty ci k = 1) (hb : x = 0 ∨ x = 1) (hM : up2 M i k x = M')
    (kk : hG z n0 X n M' R (pc + 3) L st) : hG z n0 X n M R pc L (.int x :: .ref (z.1 + i) :: st) :=
  gx_putx hC hd hF hat hnf (by omega) (by rw [hs]; rfl) (fun h => hb) (fun h => by omega) hM kk
theorem gx_putC (hC : hOk z n0 X cc own nL d nm) (hd : decode cc pc = .ok (.putfield idx, 3)) (hF : hFl own idx ci k) (hat : hAt n i (0, ci)) (hnf : hNfin ci k) (hs : sty ci k = 2) (hb : ∃ q, q < 65536 ∧ x = nI q) (hM : up2 M i k x = M')
    (kk : hG z n0 X n M' R (pc + 3) L st) : hG z n0 X n M R pc L (.int x :: .ref (z.1 + i) :: st) :=
  gx_putx hC hd hF hat hnf (by omega) (by rw [hs]; rfl) (fun h => by omega) (fun h => hb) hM kk
theorem gx_putE (hC : hOk z n0 X cc own nL d nm) (hd : decode cc pc = .ok (.putfield idx, 3)) (hF : hFl own idx ci k) (hat : hAt n i (0, ci)) (hnf : hNfin ci k) (hs : sty ci k = 3) (hM : up2 M i k x = M')
    (kk : hG z n0 X n M' R (pc + 3) L st) : hG z n0 X n M R pc L (kv z.2.1 x :: .ref (z.1 + i) :: st) :=
  gx_putx hC hd hF hat hnf (by omega) (by rw [hs]; rfl) (fun h => by omega) (fun h => by omega) hM kk
theorem gx_putR (hC : hOk z n0 X cc own nL d nm) (hd : decode cc pc = .ok (.putfield idx, 3)) (hF : hFl own idx ci k) (hat : hAt n i (0, ci)) (hnf : hFin ci k) (hin : X.2.1.2.1.name = "<init>") (hown : ∃ T N, hcl[ci]? = some (own, T, N)) (hs : sty ci k = 4) (h0 : o ≠ 0) (hR : up2 R i k o = R')
    (kk : hG z n0 X n M R' (pc + 3) L st) : hG z n0 X n M R pc L (.ref (z.1 + o) :: .ref (z.1 + i) :: st) := by
  subst hR
  refine gx_putF (x := M i k) (o := o) hC hd hF hat hnf hin hown (by rw [hs]; simp [sv, rv, h0]) (fun h => by omega) (fun h => by omega) ?_
  rw [up2_self]
  exact kk
theorem gx_putFI (hC : hOk z n0 X cc own nL d nm) (hd : decode cc pc = .ok (.putfield idx, 3)) (hF : hFl own idx ci k) (hat : hAt n i (0, ci)) (hnf : hFin ci k) (hin : X.2.1.2.1.name = "<init>") (hown : ∃ T N, hcl[ci]? = some (own, T, N)) (hs : sty ci k = 0) (hM : up2 M i k x = M')
    (kk : hG z n0 X n M' R (pc + 3) L st) : hG z n0 X n M R pc L (.int x :: .ref (z.1 + i) :: st) := by
  subst hM
  refine gx_putF (x := x) (o := R i k) hC hd hF hat hnf hin hown (by rw [hs]; rfl) (fun h => by omega) (fun h => by omega) ?_
  rw [up2_self]
  exact kk
theorem gx_iastM (hC : hOk z n0 X cc own nL d nm) (hd : decode cc pc = .ok (.iastore, 1)) (hat : hAt n i (1, len)) (hx : vp_in x len) (hM : up2 M i x.toNatClampNeg y = M')
    (kk : hG z n0 X n M' R (pc + 1) L st) : hG z n0 X n M R pc L (.int y :: .int x :: .ref (z.1 + i) :: st) := by
  subst hM
  exact gx_iast hC hd hat hx kk
theorem gx_callV1 (hC : hOk z n0 X cc own nL d nm) {yd : hYd} {As : List Value} (hd : decode cc pc = .ok (.invokevirtual idx, 3)) (hct : hCt X.1.2.1 z yd (.ref (z.1 + i) :: As) n M R n2 (some w) M' R') (hY : hYk yd np) (hV : hYv yd) (hl : Cond.methodLink own idx yd.1 ∈ hgd)
    (hat : hAt n i (0, ci)) (hrc : (hcl[ci]?).map (fun q => q.1) = some yd.1.cls) (hdp : yd.2.2.2.2 + 1 ≤ d) (hnp : As.length = np) (hL : L.length = nL) (hst : st' = As.reverse ++ .ref (z.1 + i) :: st) (hcat : (st.map fun v => v.category).sum ≤ 8) (hn2 : n ≤ n2) (hnm : n2 ≤ nm)
    (kk : hG z n0 X n2 M' R' (pc + 3) L (w :: st)) : hG z n0 X n M R pc L st' := gx_callV hC hd hct hY hV hl hat hrc hdp hnp hL hst hcat hn2 hnm kk
theorem gx_callV0 (hC : hOk z n0 X cc own nL d nm) {yd : hYd} {As : List Value} (hd : decode cc pc = .ok (.invokevirtual idx, 3)) (hct : hCt X.1.2.1 z yd (.ref (z.1 + i) :: As) n M R n2 none M' R') (hY : hYk yd np) (hV : hYv yd) (hl : Cond.methodLink own idx yd.1 ∈ hgd)
    (hat : hAt n i (0, ci)) (hrc : (hcl[ci]?).map (fun q => q.1) = some yd.1.cls) (hdp : yd.2.2.2.2 + 1 ≤ d) (hnp : As.length = np) (hL : L.length = nL) (hst : st' = As.reverse ++ .ref (z.1 + i) :: st) (hcat : (st.map fun v => v.category).sum ≤ 8) (hn2 : n ≤ n2) (hnm : n2 ≤ nm)
    (kk : hG z n0 X n2 M' R' (pc + 3) L st) : hG z n0 X n M R pc L st' := gx_callV hC hd hct hY hV hl hat hrc hdp hnp hL hst hcat hn2 hnm kk
theorem gx_callS1 (hC : hOk z n0 X cc own nL d nm) {yd : hYd} {As : List Value} (hd : decode cc pc = .ok (.invokestatic idx, 3)) (hct : hCt X.1.2.1 z yd As n M R n2 (some w) M' R') (hY : hYk yd np) (hV : Cond.static yd.1 ∈ hgd) (hl : Cond.methodLink own idx yd.1 ∈ hgd)
    (hdp : yd.2.2.2.2 + 1 ≤ d) (hnp : As.length = np) (hL : L.length = nL) (hst : st' = As.reverse ++ st) (hcat : (st.map fun v => v.category).sum ≤ 8) (hn2 : n ≤ n2) (hnm : n2 ≤ nm)
    (kk : hG z n0 X n2 M' R' (pc + 3) L (w :: st)) : hG z n0 X n M R pc L st' := gx_callS hC hd hct hY hV hl hdp hnp hL hst hcat hn2 hnm kk
theorem gx_callS0 (hC : hOk z n0 X cc own nL d nm) {yd : hYd} {As : List Value} (hd : decode cc pc = .ok (.invokestatic idx, 3)) (hct : hCt X.1.2.1 z yd As n M R n2 none M' R') (hY : hYk yd np) (hV : Cond.static yd.1 ∈ hgd) (hl : Cond.methodLink own idx yd.1 ∈ hgd)
    (hdp : yd.2.2.2.2 + 1 ≤ d) (hnp : As.length = np) (hL : L.length = nL) (hst : st' = As.reverse ++ st) (hcat : (st.map fun v => v.category).sum ≤ 8) (hn2 : n ≤ n2) (hnm : n2 ≤ nm)
    (kk : hG z n0 X n2 M' R' (pc + 3) L st) : hG z n0 X n M R pc L st' := gx_callS hC hd hct hY hV hl hdp hnp hL hst hcat hn2 hnm kk
theorem gx_table (hC : hOk z n0 X cc own nL d nm) {dflt lo hi : Int} {offs : Array Int} {ln : Nat} (hd : decode cc pc = .ok (.tableswitch dflt lo hi offs, ln)) (hsz : hi = lo + offs.size - 1)
    (ko : x.toInt < lo ∨ hi < x.toInt → ∀ tg : Nat, (pc : Int) + dflt = tg → hG z n0 X n M R tg L st)
    (ki : ∀ (j : Nat) (f : Int), offs[j]? = some f → x.toInt = lo + j → ∀ tg : Nat, (pc : Int) + f = tg → hG z n0 X n M R tg L st) (hpos0 : (dflt :: offs.toList).all (fun f => decide (0 ≤ (pc : Int) + f)) = true) : hG z n0 X n M R pc L (.int x :: st) := by
  intro H locs ls h1 h2 h3
  have hpos : ∀ f, f = dflt ∨ f ∈ offs.toList → 0 ≤ (pc : Int) + f := fun f hf => of_decide_eq_true (List.all_eq_true.mp hpos0 f (List.mem_cons.mpr hf))
  by_cases h : x.toInt < lo ∨ hi < x.toInt
  · obtain ⟨tg, ht⟩ := Int.eq_ofNat_of_zero_le (hpos dflt (Or.inl rfl))
    exact lv_tableOut hC.1 hC.2.1 hd h ht (ko h tg ht H locs ls h1 h2 h3)
  · have a1 : ¬ x.toInt < lo := fun q => h (Or.inl q)
    have a2 : ¬ hi < x.toInt := fun q => h (Or.inr q)
    have hj : (x.toInt - lo).toNat < offs.size := by omega
    have ho : offs[(x.toInt - lo).toNat]? = some offs[(x.toInt - lo).toNat] := Array.getElem?_eq_getElem hj
    obtain ⟨tg, ht⟩ := Int.eq_ofNat_of_zero_le (hpos offs[(x.toInt - lo).toNat] (Or.inr (Array.getElem_mem_toList hj)))
    exact lv_tableIn hC.1 hC.2.1 hd a1 a2 ho ht (ki _ _ ho (by omega) tg ht H locs ls h1 h2 h3)
end HB
/-- a reference to an aircraft of a state, or null -/
def aref (z : hZt) (o : Nat) (q : Option Nat) : Value := match q with
  | none => .null
  | some j => .ref (z.1 + (o + (3 + j)))
theorem aref_isR {z : hZt} {o : Nat} {q : Option Nat} : isR (aref z o q) := by cases q; exact Or.inl rfl; exact Or.inr ⟨_, rfl⟩
theorem aref_none {z : hZt} {o : Nat} : aref z o none = .null := rfl
theorem aref_some {z : hZt} {o j : Nat} : aref z o (some j) = .ref (z.1 + (o + (3 + j))) := rfl
section HB2
variable {z : hZt} {n0 n nm n2 nL d pc i k ci idx len o np : Nat} {X : hXt} {cc : ByteArray} {own : String} {M M' M2 : hMem} {R R' R2 : hRef} {L L' : List (Option Value)} {st st' : List Value} {x y v : Int32} {w : Value} {tgt : Nat} {off : Int}
theorem gx_ifnull_o (hC : hOk z n0 X cc own nL d nm) {q : Option Nat} (hd : decode cc pc = .ok (.ifnull off, 3)) (ht : (pc : Int) + off = (tgt : Int)) (kt : q = none → hG z n0 X n M R tgt L st) (kf : ∀ j, q = some j → hG z n0 X n M R (pc + 3) L st) : hG z n0 X n M R pc L (aref z o q :: st) := by
  cases q with
  | none => exact gx_ifnull_null hC hd ht (kt rfl)
  | some j => exact gx_ifnull_ref hC hd (kf j rfl)
theorem gx_ifnonnull_o (hC : hOk z n0 X cc own nL d nm) {q : Option Nat} (hd : decode cc pc = .ok (.ifnonnull off, 3)) (ht : (pc : Int) + off = (tgt : Int)) (kt : ∀ j, q = some j → hG z n0 X n M R tgt L st) (kf : q = none → hG z n0 X n M R (pc + 3) L st) : hG z n0 X n M R pc L (aref z o q :: st) := by
  cases q with
  | none => exact gx_ifnonnull_null hC hd (kf rfl)
  | some j => exact gx_ifnonnull_ref hC hd ht (kt j rfl)
end HB2
/-- 23 cells from o on hold the block f -/
def putS (M : hMem) (o : Nat) (f : hMem) : hMem := fun i k => if o ≤ i ∧ i < o + 23 then f (i - o) k else M i k
def getS (M : hMem) (o : Nat) : hMem := fun i k => if i < 23 then M (o + i) k else 0
theorem pS0 {M f : hMem} {o k : Nat} : putS M o f o k = f 0 k := by simp [putS]
theorem pSj {M f : hMem} {o j k : Nat} (h : j < 23) : putS M o f (o + j) k = f j k := by simp [putS, h]
theorem pSo {M f : hMem} {o i k : Nat} (h : i < o ∨ o + 23 ≤ i) : putS M o f i k = M i k := by
  unfold putS
  rw [if_neg (by omega)]
theorem putS_get {M : hMem} {o : Nat} : putS M o (getS M o) = M := by
  funext i k
  unfold putS getS
  split
  · next h => rw [if_pos (by omega), show o + (i - o) = i by omega]
  · rfl
theorem up_S {M f : hMem} {o j k : Nat} {x : Int32} (h : j < 23) : up2 (putS M o f) (o + j) k x = putS M o (up2 f j k x) := by
  funext i q
  unfold up2 putS
  by_cases hi : o ≤ i ∧ i < o + 23
  · rw [if_pos hi, if_pos hi]
    by_cases e : i = o + j
    · subst e; simp
    · rw [if_neg (fun h => e h.1)]
      show _ = if i - o = j ∧ q = k then x else f (i - o) q
      rw [if_neg (fun h => e (by omega))]
  · rw [if_neg hi, if_neg hi, if_neg (fun h => hi (by omega))]
theorem up_S0 {M f : hMem} {o k : Nat} {x : Int32} : up2 (putS M o f) o k x = putS M o (up2 f 0 k x) := up_S (j := 0) (by omega)
theorem putS_put {M f g : hMem} {o : Nat} : putS (putS M o f) o g = putS M o g := by
  funext i k
  unfold putS
  split <;> rfl
/-- the cells of a state stand at o -/
def hSt (n : Nat) (R : hRef) (o : Nat) : Prop := o ≠ 0 ∧ hAt n o (0, 3) ∧ hAt n (o + 1) (4, 20) ∧ hAt n (o + 2) (1, 16) ∧ (∀ j, j < 20 → hAt n (o + (3 + j)) (0, 0)) ∧ R o 0 = o + 1 ∧ R o 1 = o + 2 ∧ ∀ j, j < 20 → R (o + 1) j = o + (3 + j)
theorem hSt.at {n : Nat} {R : hRef} {o : Nat} (h : hSt n R o) : hAt n o (0, 3) := h.2.1
theorem hSt.aa {n : Nat} {R : hRef} {o : Nat} (h : hSt n R o) : hAt n (o + 1) (4, 20) := h.2.2.1
theorem hSt.ah {n : Nat} {R : hRef} {o : Nat} (h : hSt n R o) : hAt n (o + 2) (1, 16) := h.2.2.2.1
theorem hSt.ac {n : Nat} {R : hRef} {o j : Nat} (h : hSt n R o) (hj : j < 20) : hAt n (o + (3 + j)) (0, 0) := h.2.2.2.2.1 j hj
theorem hSt.ra {n : Nat} {R : hRef} {o : Nat} (h : hSt n R o) : R o 0 = o + 1 := h.2.2.2.2.2.1
theorem hSt.rh {n : Nat} {R : hRef} {o : Nat} (h : hSt n R o) : R o 1 = o + 2 := h.2.2.2.2.2.2.1
theorem hSt.rc {n : Nat} {R : hRef} {o j : Nat} (h : hSt n R o) (hj : j < 20) : R (o + 1) j = o + (3 + j) := h.2.2.2.2.2.2.2 j hj
end
section
def iMin (a b : Int32) : Int32 := if b < a then b else a
theorem gx_mmin {z : hZt} {n0 n nm nL d pc idx : Nat} {X : hXt} {cc : ByteArray} {own : String} {M : hMem} {R : hRef} {L : List (Option Value)} {st : List Value} {x y : Int32} (hC : hOk z n0 X cc own nL d nm) (hd : decode cc pc = .ok (.invokestatic idx, 3)) (hl : Cond.methodLink own idx yJ9_min_7cf53 ∈ hgd) (hdp : 1 ≤ d) (hL : L.length = nL) (hcat : (st.map fun v => v.category).sum ≤ 8) (hnm : n ≤ nm)
    (kk : hG z n0 X n M R (pc + 3) L (.int (iMin x y) :: st)) : hG z n0 X n M R pc L (.int y :: .int x :: st) := by
  intro H locs ls h1 h2 h3
  have a1 := hC.2.2.2.2.2.2.1
  have a2 := hC.2.2.2.2.2.2.2.1
  have h0 := hn_le hC h1 h2
  have a3 := slt_mono h0
  have a4 := slt_mono hnm
  have a5 := hC.2.2.2.2.2.2.2.2.2.2.1
  have a6 := hC.2.2.2.2.2.2.2.2.2.2.2
  exact va_mmin hC.1 hC.2.1 (by rw [h3.1, hL, hC.2.2.1]) hC.2.2.2.1 (hC.2.2.2.2.1 _ hl) (hC.2.2.2.2.1 _ (hgd_at 432 (by decide +kernel) rfl)) (hC.2.2.2.2.1 _ (hgd_at 68 (by decide +kernel) rfl)) (hC.2.2.2.2.1 _ (hgd_at 433 (by decide +kernel) rfl)) (by omega) (by omega) (by omega) (by omega) hd (kk H locs ls h1 h2 h3)
def aBurn (k l : Int32) : Int32 := kRate k - kRate k * l / 40
theorem b2_t : b2 true = 1 := rfl
theorem bv1 {e : Bool} (h : e = true) : some (Value.int 1) = some (Value.int (b2 e)) := by rw [h]; rfl
theorem bv0 {e : Bool} (h : e = false) : some (Value.int 0) = some (Value.int (b2 e)) := by rw [h]; rfl
theorem kf_0 {x : Int32} : kFld 0 x = x := rfl
theorem kf_1 {x : Int32} : kFld 1 x = kRate x := rfl
theorem kf_2 {x : Int32} : kFld 2 x = kRes x := rfl
theorem kf_3 {x : Int32} : kFld 3 x = kWake x := rfl
theorem i32c_0 : ((0 : Int32)).toInt = 0 := by decide
theorem i32c_1 : ((1 : Int32)).toInt = 1 := by decide
theorem i32c_2 : ((2 : Int32)).toInt = 2 := by decide
theorem i32c_3 : ((3 : Int32)).toInt = 3 := by decide
theorem i32c_4 : ((4 : Int32)).toInt = 4 := by decide
theorem i32c_5 : ((5 : Int32)).toInt = 5 := by decide
theorem i32c_6 : ((6 : Int32)).toInt = 6 := by decide
theorem i32c_7 : ((7 : Int32)).toInt = 7 := by decide
theorem i32c_8 : ((8 : Int32)).toInt = 8 := by decide
theorem i32c_9 : ((9 : Int32)).toInt = 9 := by decide
theorem i32c_16 : ((16 : Int32)).toInt = 16 := by decide
theorem i32c_20 : ((20 : Int32)).toInt = 20 := by decide
theorem i32c_99 : ((99 : Int32)).toInt = 99 := by decide
theorem i32c_m1 : ((-1 : Int32)).toInt = -1 := by decide
theorem i32c_m6 : ((-6 : Int32)).toInt = -6 := by decide
theorem ni_0 : (nI 0).toInt = 0 := by decide
theorem ni_2 : (nI 2).toInt = 2 := by decide
theorem ni_5 : (nI 5).toInt = 5 := by decide
theorem ni_16 : (nI 16).toInt = 16 := by decide
theorem ni_20 : (nI 20).toInt = 20 := by decide
theorem ni_80 : (nI 80).toInt = 80 := by decide
theorem b2_f : b2 false = 0 := rfl
set_option maxHeartbeats 4000000 in
set_option maxRecDepth 20000 in
theorem c_X0_isHolding (l : Launch) (z : hZt) {n : Nat} {M : hMem} {R : hRef} {i : Nat} (ha : hAt n i (0, 0)) : hCt l z m_X0_isHolding [.ref (z.1 + i)] n M R n (some (.int (b2 (decide (M i 3 = 0))))) M R := by
  refine hs_start [some (.ref (z.1 + i))] (by decide +kernel) rfl (by intro u hu; simp at hu; subst hu <;> first | rfl | exact isR_cat kv_isR | exact isR_cat aref_isR) (Nat.le_of_ble_eq_true rfl) (Nat.le_refl _) (fun X hlX hN hC hQ => ?_)
  dsimp only at hC hQ
  refine gx_aload_n (i := 0) hC dX0_isHolding_0 rfl rfl (by first | exact Or.inr ⟨_, rfl⟩ | exact Or.inl rfl | exact kv_isR | exact aref_isR) ?_
  refine gx_getI hC dX0_isHolding_1 fl_X0_27 (by assumption) (by decide) (rfl) ?_
  refine gx_if_ne (tgt := 11) hC dX0_isHolding_4 (by decide) (fun c_4 => ?_) (fun c_4 => ?_)
  · refine gx_iconst (v := 0) hC dX0_isHolding_11 ic_0 ?_
    exact gx_zret hC hQ dX0_isHolding_12 (by first | exact Or.inl rfl | exact Or.inr rfl | exact b2_bit _ | assumption) (by first | exact bv1 (decide_eq_true (by (clear hQ hC hN hlX; simp only [Int32.le_iff_toInt_le, Int32.lt_iff_toInt_lt, Int32.not_le, Int32.not_lt, ← Int32.toInt_inj, i32c_0, i32c_1, i32c_2, i32c_3, i32c_4, i32c_5, i32c_6, i32c_7, i32c_8, i32c_9, i32c_16, i32c_20, i32c_99, i32c_m1, i32c_m6, ni_16, ni_20, ni_80, ni_2, ni_5, ni_0, ne_eq] at *; omega))) | exact bv0 (decide_eq_false (by (clear hQ hC hN hlX; simp only [Int32.le_iff_toInt_le, Int32.lt_iff_toInt_lt, Int32.not_le, Int32.not_lt, ← Int32.toInt_inj, i32c_0, i32c_1, i32c_2, i32c_3, i32c_4, i32c_5, i32c_6, i32c_7, i32c_8, i32c_9, i32c_16, i32c_20, i32c_99, i32c_m1, i32c_m6, ni_16, ni_20, ni_80, ni_2, ni_5, ni_0, ne_eq] at *; omega)))) (rfl) rfl
  · refine gx_iconst (v := 1) hC dX0_isHolding_7 ic_1 ?_
    refine gx_goto (tgt := 12) hC dX0_isHolding_8 (by decide) ?_
    exact gx_zret hC hQ dX0_isHolding_12 (by first | exact Or.inl rfl | exact Or.inr rfl | exact b2_bit _ | assumption) (by first | exact bv1 (decide_eq_true (by (clear hQ hC hN hlX; simp only [Int32.le_iff_toInt_le, Int32.lt_iff_toInt_lt, Int32.not_le, Int32.not_lt, ← Int32.toInt_inj, i32c_0, i32c_1, i32c_2, i32c_3, i32c_4, i32c_5, i32c_6, i32c_7, i32c_8, i32c_9, i32c_16, i32c_20, i32c_99, i32c_m1, i32c_m6, ni_16, ni_20, ni_80, ni_2, ni_5, ni_0, ne_eq] at *; omega))) | exact bv0 (decide_eq_false (by (clear hQ hC hN hlX; simp only [Int32.le_iff_toInt_le, Int32.lt_iff_toInt_lt, Int32.not_le, Int32.not_lt, ← Int32.toInt_inj, i32c_0, i32c_1, i32c_2, i32c_3, i32c_4, i32c_5, i32c_6, i32c_7, i32c_8, i32c_9, i32c_16, i32c_20, i32c_99, i32c_m1, i32c_m6, ni_16, ni_20, ni_80, ni_2, ni_5, ni_0, ne_eq] at *; omega)))) (rfl) rfl
set_option maxHeartbeats 4000000 in
set_option maxRecDepth 20000 in
theorem c_X0_isOverFix (l : Launch) (z : hZt) {n : Nat} {M : hMem} {R : hRef} {i : Nat} (ha : hAt n i (0, 0)) : hCt l z m_X0_isOverFix [.ref (z.1 + i)] n M R n (some (.int (b2 (decide (M i 5 = 0))))) M R := by
  refine hs_start [some (.ref (z.1 + i))] (by decide +kernel) rfl (by intro u hu; simp at hu; subst hu <;> first | rfl | exact isR_cat kv_isR | exact isR_cat aref_isR) (Nat.le_of_ble_eq_true rfl) (Nat.le_refl _) (fun X hlX hN hC hQ => ?_)
  dsimp only at hC hQ
  refine gx_aload_n (i := 0) hC dX0_isOverFix_0 rfl rfl (by first | exact Or.inr ⟨_, rfl⟩ | exact Or.inl rfl | exact kv_isR | exact aref_isR) ?_
  refine gx_getI hC dX0_isOverFix_1 fl_X0_33 (by assumption) (by decide) (rfl) ?_
  refine gx_if_ne (tgt := 11) hC dX0_isOverFix_4 (by decide) (fun c_4 => ?_) (fun c_4 => ?_)
  · refine gx_iconst (v := 0) hC dX0_isOverFix_11 ic_0 ?_
    exact gx_zret hC hQ dX0_isOverFix_12 (by first | exact Or.inl rfl | exact Or.inr rfl | exact b2_bit _ | assumption) (by first | exact bv1 (decide_eq_true (by (clear hQ hC hN hlX; simp only [Int32.le_iff_toInt_le, Int32.lt_iff_toInt_lt, Int32.not_le, Int32.not_lt, ← Int32.toInt_inj, i32c_0, i32c_1, i32c_2, i32c_3, i32c_4, i32c_5, i32c_6, i32c_7, i32c_8, i32c_9, i32c_16, i32c_20, i32c_99, i32c_m1, i32c_m6, ni_16, ni_20, ni_80, ni_2, ni_5, ni_0, ne_eq] at *; omega))) | exact bv0 (decide_eq_false (by (clear hQ hC hN hlX; simp only [Int32.le_iff_toInt_le, Int32.lt_iff_toInt_lt, Int32.not_le, Int32.not_lt, ← Int32.toInt_inj, i32c_0, i32c_1, i32c_2, i32c_3, i32c_4, i32c_5, i32c_6, i32c_7, i32c_8, i32c_9, i32c_16, i32c_20, i32c_99, i32c_m1, i32c_m6, ni_16, ni_20, ni_80, ni_2, ni_5, ni_0, ne_eq] at *; omega)))) (rfl) rfl
  · refine gx_iconst (v := 1) hC dX0_isOverFix_7 ic_1 ?_
    refine gx_goto (tgt := 12) hC dX0_isOverFix_8 (by decide) ?_
    exact gx_zret hC hQ dX0_isOverFix_12 (by first | exact Or.inl rfl | exact Or.inr rfl | exact b2_bit _ | assumption) (by first | exact bv1 (decide_eq_true (by (clear hQ hC hN hlX; simp only [Int32.le_iff_toInt_le, Int32.lt_iff_toInt_lt, Int32.not_le, Int32.not_lt, ← Int32.toInt_inj, i32c_0, i32c_1, i32c_2, i32c_3, i32c_4, i32c_5, i32c_6, i32c_7, i32c_8, i32c_9, i32c_16, i32c_20, i32c_99, i32c_m1, i32c_m6, ni_16, ni_20, ni_80, ni_2, ni_5, ni_0, ne_eq] at *; omega))) | exact bv0 (decide_eq_false (by (clear hQ hC hN hlX; simp only [Int32.le_iff_toInt_le, Int32.lt_iff_toInt_lt, Int32.not_le, Int32.not_lt, ← Int32.toInt_inj, i32c_0, i32c_1, i32c_2, i32c_3, i32c_4, i32c_5, i32c_6, i32c_7, i32c_8, i32c_9, i32c_16, i32c_20, i32c_99, i32c_m1, i32c_m6, ni_16, ni_20, ni_80, ni_2, ni_5, ni_0, ne_eq] at *; omega)))) (rfl) rfl
set_option maxHeartbeats 4000000 in
set_option maxRecDepth 20000 in
theorem c_X0_isShort (l : Launch) (z : hZt) {n : Nat} {M : hMem} {R : hRef} {i : Nat} (ha : hAt n i (0, 0)) (hk1 : hk (M i 1)) : hCt l z m_X0_isShort [.ref (z.1 + i)] n M R n (some (.int (b2 (decide (M i 2 ≤ kRes (M i 1)))))) M R := by
  refine hs_start [some (.ref (z.1 + i))] (by decide +kernel) rfl (by intro u hu; simp at hu; subst hu <;> first | rfl | exact isR_cat kv_isR | exact isR_cat aref_isR) (Nat.le_of_ble_eq_true rfl) (Nat.le_refl _) (fun X hlX hN hC hQ => ?_)
  dsimp only at hC hQ
  refine gx_aload_n (i := 0) hC dX0_isShort_0 rfl rfl (by first | exact Or.inr ⟨_, rfl⟩ | exact Or.inl rfl | exact kv_isR | exact aref_isR) ?_
  refine gx_getI hC dX0_isShort_1 fl_X0_24 (by assumption) (by decide) (rfl) ?_
  refine gx_aload_n (i := 0) hC dX0_isShort_4 rfl rfl (by first | exact Or.inr ⟨_, rfl⟩ | exact Or.inl rfl | exact kv_isR | exact aref_isR) ?_
  refine gx_getE hC dX0_isShort_5 fl_X0_15 (by assumption) rfl (rfl) ?_
  refine gx_getK hC dX0_isShort_8 2 (by decide) fl_X0_43 (by assumption) kf_2 ?_
  refine gx_icmp_gt (tgt := 18) hC dX0_isShort_11 (by decide) (fun c_11 => ?_) (fun c_11 => ?_)
  · refine gx_iconst (v := 0) hC dX0_isShort_18 ic_0 ?_
    exact gx_zret hC hQ dX0_isShort_19 (by first | exact Or.inl rfl | exact Or.inr rfl | exact b2_bit _ | assumption) (by first | exact bv1 (decide_eq_true (by (clear hQ hC hN hlX; simp only [Int32.le_iff_toInt_le, Int32.lt_iff_toInt_lt, Int32.not_le, Int32.not_lt, ← Int32.toInt_inj, i32c_0, i32c_1, i32c_2, i32c_3, i32c_4, i32c_5, i32c_6, i32c_7, i32c_8, i32c_9, i32c_16, i32c_20, i32c_99, i32c_m1, i32c_m6, ni_16, ni_20, ni_80, ni_2, ni_5, ni_0, ne_eq] at *; omega))) | exact bv0 (decide_eq_false (by (clear hQ hC hN hlX; simp only [Int32.le_iff_toInt_le, Int32.lt_iff_toInt_lt, Int32.not_le, Int32.not_lt, ← Int32.toInt_inj, i32c_0, i32c_1, i32c_2, i32c_3, i32c_4, i32c_5, i32c_6, i32c_7, i32c_8, i32c_9, i32c_16, i32c_20, i32c_99, i32c_m1, i32c_m6, ni_16, ni_20, ni_80, ni_2, ni_5, ni_0, ne_eq] at *; omega)))) (rfl) rfl
  · refine gx_iconst (v := 1) hC dX0_isShort_14 ic_1 ?_
    refine gx_goto (tgt := 19) hC dX0_isShort_15 (by decide) ?_
    exact gx_zret hC hQ dX0_isShort_19 (by first | exact Or.inl rfl | exact Or.inr rfl | exact b2_bit _ | assumption) (by first | exact bv1 (decide_eq_true (by (clear hQ hC hN hlX; simp only [Int32.le_iff_toInt_le, Int32.lt_iff_toInt_lt, Int32.not_le, Int32.not_lt, ← Int32.toInt_inj, i32c_0, i32c_1, i32c_2, i32c_3, i32c_4, i32c_5, i32c_6, i32c_7, i32c_8, i32c_9, i32c_16, i32c_20, i32c_99, i32c_m1, i32c_m6, ni_16, ni_20, ni_80, ni_2, ni_5, ni_0, ne_eq] at *; omega))) | exact bv0 (decide_eq_false (by (clear hQ hC hN hlX; simp only [Int32.le_iff_toInt_le, Int32.lt_iff_toInt_lt, Int32.not_le, Int32.not_lt, ← Int32.toInt_inj, i32c_0, i32c_1, i32c_2, i32c_3, i32c_4, i32c_5, i32c_6, i32c_7, i32c_8, i32c_9, i32c_16, i32c_20, i32c_99, i32c_m1, i32c_m6, ni_16, ni_20, ni_80, ni_2, ni_5, ni_0, ne_eq] at *; omega)))) (rfl) rfl
set_option maxHeartbeats 4000000 in
set_option maxRecDepth 20000 in
theorem c_X0_mustDivert (l : Launch) (z : hZt) {n : Nat} {M : hMem} {R : hRef} {i : Nat} (ha : hAt n i (0, 0)) (hk1 : hk (M i 1)) : hCt l z m_X0_mustDivert [.ref (z.1 + i)] n M R n (some (.int (b2 (decide (2 * M i 2 < kRes (M i 1)))))) M R := by
  refine hs_start [some (.ref (z.1 + i))] (by decide +kernel) rfl (by intro u hu; simp at hu; subst hu <;> first | rfl | exact isR_cat kv_isR | exact isR_cat aref_isR) (Nat.le_of_ble_eq_true rfl) (Nat.le_refl _) (fun X hlX hN hC hQ => ?_)
  dsimp only at hC hQ
  refine gx_iconst (v := 2) hC dX0_mustDivert_0 ic_2 ?_
  refine gx_aload_n (i := 0) hC dX0_mustDivert_1 rfl rfl (by first | exact Or.inr ⟨_, rfl⟩ | exact Or.inl rfl | exact kv_isR | exact aref_isR) ?_
  refine gx_getI hC dX0_mustDivert_2 fl_X0_24 (by assumption) (by decide) (rfl) ?_
  refine gx_imul hC dX0_mustDivert_5 ?_
  refine gx_aload_n (i := 0) hC dX0_mustDivert_6 rfl rfl (by first | exact Or.inr ⟨_, rfl⟩ | exact Or.inl rfl | exact kv_isR | exact aref_isR) ?_
  refine gx_getE hC dX0_mustDivert_7 fl_X0_15 (by assumption) rfl (rfl) ?_
  refine gx_getK hC dX0_mustDivert_10 2 (by decide) fl_X0_43 (by assumption) kf_2 ?_
  refine gx_icmp_ge (tgt := 20) hC dX0_mustDivert_13 (by decide) (fun c_13 => ?_) (fun c_13 => ?_)
  · refine gx_iconst (v := 0) hC dX0_mustDivert_20 ic_0 ?_
    exact gx_zret hC hQ dX0_mustDivert_21 (by first | exact Or.inl rfl | exact Or.inr rfl | exact b2_bit _ | assumption) (by first | exact bv1 (decide_eq_true (by (clear hQ hC hN hlX; simp only [Int32.le_iff_toInt_le, Int32.lt_iff_toInt_lt, Int32.not_le, Int32.not_lt, ← Int32.toInt_inj, i32c_0, i32c_1, i32c_2, i32c_3, i32c_4, i32c_5, i32c_6, i32c_7, i32c_8, i32c_9, i32c_16, i32c_20, i32c_99, i32c_m1, i32c_m6, ni_16, ni_20, ni_80, ni_2, ni_5, ni_0, ne_eq] at *; omega))) | exact bv0 (decide_eq_false (by (clear hQ hC hN hlX; simp only [Int32.le_iff_toInt_le, Int32.lt_iff_toInt_lt, Int32.not_le, Int32.not_lt, ← Int32.toInt_inj, i32c_0, i32c_1, i32c_2, i32c_3, i32c_4, i32c_5, i32c_6, i32c_7, i32c_8, i32c_9, i32c_16, i32c_20, i32c_99, i32c_m1, i32c_m6, ni_16, ni_20, ni_80, ni_2, ni_5, ni_0, ne_eq] at *; omega)))) (rfl) rfl
  · refine gx_iconst (v := 1) hC dX0_mustDivert_16 ic_1 ?_
    refine gx_goto (tgt := 21) hC dX0_mustDivert_17 (by decide) ?_
    exact gx_zret hC hQ dX0_mustDivert_21 (by first | exact Or.inl rfl | exact Or.inr rfl | exact b2_bit _ | assumption) (by first | exact bv1 (decide_eq_true (by (clear hQ hC hN hlX; simp only [Int32.le_iff_toInt_le, Int32.lt_iff_toInt_lt, Int32.not_le, Int32.not_lt, ← Int32.toInt_inj, i32c_0, i32c_1, i32c_2, i32c_3, i32c_4, i32c_5, i32c_6, i32c_7, i32c_8, i32c_9, i32c_16, i32c_20, i32c_99, i32c_m1, i32c_m6, ni_16, ni_20, ni_80, ni_2, ni_5, ni_0, ne_eq] at *; omega))) | exact bv0 (decide_eq_false (by (clear hQ hC hN hlX; simp only [Int32.le_iff_toInt_le, Int32.lt_iff_toInt_lt, Int32.not_le, Int32.not_lt, ← Int32.toInt_inj, i32c_0, i32c_1, i32c_2, i32c_3, i32c_4, i32c_5, i32c_6, i32c_7, i32c_8, i32c_9, i32c_16, i32c_20, i32c_99, i32c_m1, i32c_m6, ni_16, ni_20, ni_80, ni_2, ni_5, ni_0, ne_eq] at *; omega)))) (rfl) rfl
set_option maxHeartbeats 4000000 in
set_option maxRecDepth 20000 in
theorem c_X0_burnPerMinute (l : Launch) (z : hZt) {n : Nat} {M : hMem} {R : hRef} {i : Nat} (ha : hAt n i (0, 0)) (hk1 : hk (M i 1)) : hCt l z m_X0_burnPerMinute [.ref (z.1 + i)] n M R n (some (.int (aBurn (M i 1) (M i 4)))) M R := by
  refine hs_start [some (.ref (z.1 + i))] (by decide +kernel) rfl (by intro u hu; simp at hu; subst hu <;> first | rfl | exact isR_cat kv_isR | exact isR_cat aref_isR) (Nat.le_of_ble_eq_true rfl) (Nat.le_refl _) (fun X hlX hN hC hQ => ?_)
  dsimp only at hC hQ
  refine gx_aload_n (i := 0) hC dX0_burnPerMinute_0 rfl rfl (by first | exact Or.inr ⟨_, rfl⟩ | exact Or.inl rfl | exact kv_isR | exact aref_isR) ?_
  refine gx_getE hC dX0_burnPerMinute_1 fl_X0_15 (by assumption) rfl (rfl) ?_
  refine gx_getK hC dX0_burnPerMinute_4 1 (by decide) fl_X0_46 (by assumption) kf_1 ?_
  refine gx_aload_n (i := 0) hC dX0_burnPerMinute_7 rfl rfl (by first | exact Or.inr ⟨_, rfl⟩ | exact Or.inl rfl | exact kv_isR | exact aref_isR) ?_
  refine gx_getE hC dX0_burnPerMinute_8 fl_X0_15 (by assumption) rfl (rfl) ?_
  refine gx_getK hC dX0_burnPerMinute_11 1 (by decide) fl_X0_46 (by assumption) kf_1 ?_
  refine gx_aload_n (i := 0) hC dX0_burnPerMinute_14 rfl rfl (by first | exact Or.inr ⟨_, rfl⟩ | exact Or.inl rfl | exact kv_isR | exact aref_isR) ?_
  refine gx_getI hC dX0_burnPerMinute_15 fl_X0_30 (by assumption) (by decide) (rfl) ?_
  refine gx_imul hC dX0_burnPerMinute_18 ?_
  refine gx_bipush (v := 40) hC dX0_burnPerMinute_19 bp_40 ?_
  refine gx_idiv hC dX0_burnPerMinute_21 (by decide) ?_
  refine gx_isub hC dX0_burnPerMinute_22 ?_
  exact gx_iret hC hQ dX0_burnPerMinute_23 (rfl) (rfl) rfl
def aUntil (M : hMem) (i : Nat) : Int32 := if M i 2 - kRes (M i 1) ≤ 0 ∨ aBurn (M i 1) (M i 4) ≤ 0 then 0 else (M i 2 - kRes (M i 1) + aBurn (M i 1) (M i 4) - 1) / aBurn (M i 1) (M i 4)
set_option maxHeartbeats 4000000 in
set_option maxRecDepth 20000 in
theorem c_X0_minutesUntilShort (l : Launch) (z : hZt) {n : Nat} {M : hMem} {R : hRef} {i : Nat} (ha : hAt n i (0, 0)) (hk1 : hk (M i 1)) : hCt l z m_X0_minutesUntilShort [.ref (z.1 + i)] n M R n (some (.int (aUntil M i))) M R := by
  refine hs_start [some (.ref (z.1 + i)), none, none] (by decide +kernel) rfl (by intro u hu; simp at hu; subst hu <;> first | rfl | exact isR_cat kv_isR | exact isR_cat aref_isR) (Nat.le_of_ble_eq_true rfl) (Nat.le_refl _) (fun X hlX hN hC hQ => ?_)
  dsimp only at hC hQ
  refine gx_aload_n (i := 0) hC dX0_minutesUntilShort_0 rfl rfl (by first | exact Or.inr ⟨_, rfl⟩ | exact Or.inl rfl | exact kv_isR | exact aref_isR) ?_
  refine gx_getI hC dX0_minutesUntilShort_1 fl_X0_24 (by assumption) (by decide) (rfl) ?_
  refine gx_aload_n (i := 0) hC dX0_minutesUntilShort_4 rfl rfl (by first | exact Or.inr ⟨_, rfl⟩ | exact Or.inl rfl | exact kv_isR | exact aref_isR) ?_
  refine gx_getE hC dX0_minutesUntilShort_5 fl_X0_15 (by assumption) rfl (rfl) ?_
  refine gx_getK hC dX0_minutesUntilShort_8 2 (by decide) fl_X0_43 (by assumption) kf_2 ?_
  refine gx_isub hC dX0_minutesUntilShort_11 ?_
  refine gx_istore_n (i := 1) (L' := [_, _, _]) hC dX0_minutesUntilShort_12 rfl (Nat.le_of_ble_eq_true rfl) rfl (fun u h9 => by first | exact Or.inl rfl | (right; cases h9; rfl) | (right; simp at h9; (try subst h9); simp [Value.category, isR_cat kv_isR, isR_cat aref_isR])) ?_
  refine gx_aload_n (i := 0) hC dX0_minutesUntilShort_13 rfl rfl (by first | exact Or.inr ⟨_, rfl⟩ | exact Or.inl rfl | exact kv_isR | exact aref_isR) ?_
  refine gx_callV1 hC dX0_minutesUntilShort_14 (c_X0_burnPerMinute _ _ ha hk1) kY_X0_burnPerMinute kV_X0_burnPerMinute ml_X0_49 (by assumption) rfl (by decide) rfl rfl rfl (by first | exact Nat.le_of_ble_eq_true rfl | (simp [Value.category, isR_cat kv_isR, isR_cat aref_isR]; done)) (Nat.le_refl _) (Nat.le_refl _) ?_
  refine gx_istore_n (i := 2) (L' := [_, _, _]) hC dX0_minutesUntilShort_17 rfl (Nat.le_of_ble_eq_true rfl) rfl (fun u h9 => by first | exact Or.inl rfl | (right; cases h9; rfl) | (right; simp at h9; (try subst h9); simp [Value.category, isR_cat kv_isR, isR_cat aref_isR])) ?_
  refine gx_iload_n (i := 1) hC dX0_minutesUntilShort_18 rfl rfl ?_
  refine gx_if_le (tgt := 26) hC dX0_minutesUntilShort_19 (by decide) (fun c_19 => ?_) (fun c_19 => ?_)
  · refine gx_iconst (v := 0) hC dX0_minutesUntilShort_26 ic_0 ?_
    refine gx_goto (tgt := 37) hC dX0_minutesUntilShort_27 (by decide) ?_
    exact gx_iret hC hQ dX0_minutesUntilShort_37 (by unfold aUntil; (repeat' split) <;> first | rfl | (exfalso; (clear hQ hC hN hlX; simp only [Int32.le_iff_toInt_le, Int32.lt_iff_toInt_lt, Int32.not_le, Int32.not_lt, ← Int32.toInt_inj, i32c_0, i32c_1, i32c_2, i32c_3, i32c_4, i32c_5, i32c_6, i32c_7, i32c_8, i32c_9, i32c_16, i32c_20, i32c_99, i32c_m1, i32c_m6, ni_16, ni_20, ni_80, ni_2, ni_5, ni_0, ne_eq] at *; omega))) (rfl) rfl
  · refine gx_iload_n (i := 2) hC dX0_minutesUntilShort_22 rfl rfl ?_
    refine gx_if_gt (tgt := 30) hC dX0_minutesUntilShort_23 (by decide) (fun c_23 => ?_) (fun c_23 => ?_)
    · refine gx_iload_n (i := 1) hC dX0_minutesUntilShort_30 rfl rfl ?_
      refine gx_iload_n (i := 2) hC dX0_minutesUntilShort_31 rfl rfl ?_
      refine gx_iadd hC dX0_minutesUntilShort_32 ?_
      refine gx_iconst (v := 1) hC dX0_minutesUntilShort_33 ic_1 ?_
      refine gx_isub hC dX0_minutesUntilShort_34 ?_
      refine gx_iload_n (i := 2) hC dX0_minutesUntilShort_35 rfl rfl ?_
      refine gx_idiv hC dX0_minutesUntilShort_36 (fun h => absurd (h ▸ c_23 : (0 : Int32) < 0) (by decide)) ?_
      exact gx_iret hC hQ dX0_minutesUntilShort_37 (by unfold aUntil; (repeat' split) <;> first | rfl | (exfalso; (clear hQ hC hN hlX; simp only [Int32.le_iff_toInt_le, Int32.lt_iff_toInt_lt, Int32.not_le, Int32.not_lt, ← Int32.toInt_inj, i32c_0, i32c_1, i32c_2, i32c_3, i32c_4, i32c_5, i32c_6, i32c_7, i32c_8, i32c_9, i32c_16, i32c_20, i32c_99, i32c_m1, i32c_m6, ni_16, ni_20, ni_80, ni_2, ni_5, ni_0, ne_eq] at *; omega))) (rfl) rfl
    · refine gx_iconst (v := 0) hC dX0_minutesUntilShort_26 ic_0 ?_
      refine gx_goto (tgt := 37) hC dX0_minutesUntilShort_27 (by decide) ?_
      exact gx_iret hC hQ dX0_minutesUntilShort_37 (by unfold aUntil; (repeat' split) <;> first | rfl | (exfalso; (clear hQ hC hN hlX; simp only [Int32.le_iff_toInt_le, Int32.lt_iff_toInt_lt, Int32.not_le, Int32.not_lt, ← Int32.toInt_inj, i32c_0, i32c_1, i32c_2, i32c_3, i32c_4, i32c_5, i32c_6, i32c_7, i32c_8, i32c_9, i32c_16, i32c_20, i32c_99, i32c_m1, i32c_m6, ni_16, ni_20, ni_80, ni_2, ni_5, ni_0, ne_eq] at *; omega))) (rfl) rfl
def aBm (M : hMem) (i : Nat) : Int32 := iMin (aBurn (M i 1) (M i 4)) (M i 2)
set_option maxHeartbeats 4000000 in
set_option maxRecDepth 20000 in
theorem c_X0_burnForMinute (l : Launch) (z : hZt) {n : Nat} {M : hMem} {R : hRef} {i : Nat} (ha : hAt n i (0, 0)) (hk1 : hk (M i 1)) : hCt l z m_X0_burnForMinute [.ref (z.1 + i)] n M R n (some (.int (aBm M i))) (up2 M i 2 (M i 2 - aBm M i)) R := by
  refine hs_start [some (.ref (z.1 + i)), none] (by decide +kernel) rfl (by intro u hu; simp at hu; subst hu <;> first | rfl | exact isR_cat kv_isR | exact isR_cat aref_isR) (Nat.le_of_ble_eq_true rfl) (Nat.le_refl _) (fun X hlX hN hC hQ => ?_)
  dsimp only at hC hQ
  refine gx_aload_n (i := 0) hC dX0_burnForMinute_0 rfl rfl (by first | exact Or.inr ⟨_, rfl⟩ | exact Or.inl rfl | exact kv_isR | exact aref_isR) ?_
  refine gx_callV1 hC dX0_burnForMinute_1 (c_X0_burnPerMinute _ _ ha hk1) kY_X0_burnPerMinute kV_X0_burnPerMinute ml_X0_49 (by assumption) rfl (by decide) rfl rfl rfl (by first | exact Nat.le_of_ble_eq_true rfl | (simp [Value.category, isR_cat kv_isR, isR_cat aref_isR]; done)) (Nat.le_refl _) (Nat.le_refl _) ?_
  refine gx_aload_n (i := 0) hC dX0_burnForMinute_4 rfl rfl (by first | exact Or.inr ⟨_, rfl⟩ | exact Or.inl rfl | exact kv_isR | exact aref_isR) ?_
  refine gx_getI hC dX0_burnForMinute_5 fl_X0_24 (by assumption) (by decide) (rfl) ?_
  refine gx_mmin hC dX0_burnForMinute_8 (ml_X0_53) (by decide) rfl (by first | exact Nat.le_of_ble_eq_true rfl | (simp [Value.category, isR_cat kv_isR, isR_cat aref_isR]; done)) (Nat.le_refl _) ?_
  refine gx_istore_n (i := 1) (L' := [_, _]) hC dX0_burnForMinute_11 rfl (Nat.le_of_ble_eq_true rfl) rfl (fun u h9 => by first | exact Or.inl rfl | (right; cases h9; rfl) | (right; simp at h9; (try subst h9); simp [Value.category, isR_cat kv_isR, isR_cat aref_isR])) ?_
  refine gx_aload_n (i := 0) hC dX0_burnForMinute_12 rfl rfl (by first | exact Or.inr ⟨_, rfl⟩ | exact Or.inl rfl | exact kv_isR | exact aref_isR) ?_
  refine gx_dup hC dX0_burnForMinute_13 (by first | rfl | exact isR_cat kv_isR | exact isR_cat aref_isR) ?_
  refine gx_getI hC dX0_burnForMinute_14 fl_X0_24 (by assumption) (by decide) (rfl) ?_
  refine gx_iload_n (i := 1) hC dX0_burnForMinute_17 rfl rfl ?_
  refine gx_isub hC dX0_burnForMinute_18 ?_
  refine gx_putI hC dX0_burnForMinute_19 fl_X0_24 (by assumption) fn_0_2 rfl (rfl) ?_
  refine gx_iload_n (i := 1) hC dX0_burnForMinute_22 rfl rfl ?_
  exact gx_iret hC hQ dX0_burnForMinute_23 (rfl) (rfl) rfl
def aFly (M : hMem) (i : Nat) (lap : Int32) : Int32 := if lap ≤ M i 5 + 1 then 0 else M i 5 + 1
set_option maxHeartbeats 4000000 in
set_option maxRecDepth 20000 in
theorem c_X0_flyMinute (l : Launch) (z : hZt) {n : Nat} {M : hMem} {R : hRef} {i : Nat} (ha : hAt n i (0, 0)) (lap : Int32) : hCt l z m_X0_flyMinute [.ref (z.1 + i), .int lap] n M R n none (up2 M i 5 (aFly M i lap)) R := by
  refine hs_start [some (.ref (z.1 + i)), some (.int lap)] (by decide +kernel) rfl (by intro u hu; simp at hu; rcases hu with rfl | rfl <;> first | rfl | exact isR_cat kv_isR | exact isR_cat aref_isR) (Nat.le_of_ble_eq_true rfl) (Nat.le_refl _) (fun X hlX hN hC hQ => ?_)
  dsimp only at hC hQ
  refine gx_aload_n (i := 0) hC dX0_flyMinute_0 rfl rfl (by first | exact Or.inr ⟨_, rfl⟩ | exact Or.inl rfl | exact kv_isR | exact aref_isR) ?_
  refine gx_aload_n (i := 0) hC dX0_flyMinute_1 rfl rfl (by first | exact Or.inr ⟨_, rfl⟩ | exact Or.inl rfl | exact kv_isR | exact aref_isR) ?_
  refine gx_getI hC dX0_flyMinute_2 fl_X0_33 (by assumption) (by decide) (rfl) ?_
  refine gx_iconst (v := 1) hC dX0_flyMinute_5 ic_1 ?_
  refine gx_iadd hC dX0_flyMinute_6 ?_
  refine gx_iload_n (i := 1) hC dX0_flyMinute_7 rfl rfl ?_
  refine gx_icmp_lt (tgt := 15) hC dX0_flyMinute_8 (by decide) (fun c_8 => ?_) (fun c_8 => ?_)
  · refine gx_aload_n (i := 0) hC dX0_flyMinute_15 rfl rfl (by first | exact Or.inr ⟨_, rfl⟩ | exact Or.inl rfl | exact kv_isR | exact aref_isR) ?_
    refine gx_getI hC dX0_flyMinute_16 fl_X0_33 (by assumption) (by decide) (rfl) ?_
    refine gx_iconst (v := 1) hC dX0_flyMinute_19 ic_1 ?_
    refine gx_iadd hC dX0_flyMinute_20 ?_
    refine gx_putI hC dX0_flyMinute_21 fl_X0_33 (by assumption) fn_0_5 rfl (rfl) ?_
    exact gx_vret hC hQ dX0_flyMinute_24 (by unfold aFly; (repeat' split) <;> first | rfl | (exfalso; (clear hQ hC hN hlX; simp only [Int32.le_iff_toInt_le, Int32.lt_iff_toInt_lt, Int32.not_le, Int32.not_lt, ← Int32.toInt_inj, i32c_0, i32c_1, i32c_2, i32c_3, i32c_4, i32c_5, i32c_6, i32c_7, i32c_8, i32c_9, i32c_16, i32c_20, i32c_99, i32c_m1, i32c_m6, ni_16, ni_20, ni_80, ni_2, ni_5, ni_0, ne_eq] at *; omega))) rfl
  · refine gx_iconst (v := 0) hC dX0_flyMinute_11 ic_0 ?_
    refine gx_goto (tgt := 21) hC dX0_flyMinute_12 (by decide) ?_
    refine gx_putI hC dX0_flyMinute_21 fl_X0_33 (by assumption) fn_0_5 rfl (rfl) ?_
    exact gx_vret hC hQ dX0_flyMinute_24 (by unfold aFly; (repeat' split) <;> first | rfl | (exfalso; (clear hQ hC hN hlX; simp only [Int32.le_iff_toInt_le, Int32.lt_iff_toInt_lt, Int32.not_le, Int32.not_lt, ← Int32.toInt_inj, i32c_0, i32c_1, i32c_2, i32c_3, i32c_4, i32c_5, i32c_6, i32c_7, i32c_8, i32c_9, i32c_16, i32c_20, i32c_99, i32c_m1, i32c_m6, ni_16, ni_20, ni_80, ni_2, ni_5, ni_0, ne_eq] at *; omega))) rfl
def cpA (M : hMem) (i j : Nat) : hMem := fun b q => if b = i ∧ 1 ≤ q ∧ q ≤ 7 then M j q else M b q
set_option maxHeartbeats 4000000 in
set_option maxRecDepth 20000 in
theorem c_X0_copyFrom (l : Launch) (z : hZt) {n : Nat} {M : hMem} {R : hRef} {i : Nat} (ha : hAt n i (0, 0)) {j : Nat} (hj : hAt n j (0, 0)) (hji : ¬ j = i) : hCt l z m_X0_copyFrom [.ref (z.1 + i), .ref (z.1 + j)] n M R n none (cpA M i j) R := by
  refine hs_start [some (.ref (z.1 + i)), some (.ref (z.1 + j))] (by decide +kernel) rfl (by intro u hu; simp at hu; rcases hu with rfl | rfl <;> first | rfl | exact isR_cat kv_isR | exact isR_cat aref_isR) (Nat.le_of_ble_eq_true rfl) (Nat.le_refl _) (fun X hlX hN hC hQ => ?_)
  dsimp only at hC hQ
  refine gx_aload_n (i := 0) hC dX0_copyFrom_0 rfl rfl (by first | exact Or.inr ⟨_, rfl⟩ | exact Or.inl rfl | exact kv_isR | exact aref_isR) ?_
  refine gx_aload_n (i := 1) hC dX0_copyFrom_1 rfl rfl (by first | exact Or.inr ⟨_, rfl⟩ | exact Or.inl rfl | exact kv_isR | exact aref_isR) ?_
  refine gx_getE hC dX0_copyFrom_2 fl_X0_15 (by assumption) rfl (by first | (simp only [up2, hji, false_and, if_false]; done) | exact rfl) ?_
  refine gx_putE hC dX0_copyFrom_5 fl_X0_15 (by assumption) fn_0_1 rfl (rfl) ?_
  refine gx_aload_n (i := 0) hC dX0_copyFrom_8 rfl rfl (by first | exact Or.inr ⟨_, rfl⟩ | exact Or.inl rfl | exact kv_isR | exact aref_isR) ?_
  refine gx_aload_n (i := 1) hC dX0_copyFrom_9 rfl rfl (by first | exact Or.inr ⟨_, rfl⟩ | exact Or.inl rfl | exact kv_isR | exact aref_isR) ?_
  refine gx_getI hC dX0_copyFrom_10 fl_X0_24 (by assumption) (by decide) (by first | (simp only [up2, hji, false_and, if_false]; done) | exact rfl) ?_
  refine gx_putI hC dX0_copyFrom_13 fl_X0_24 (by assumption) fn_0_2 rfl (rfl) ?_
  refine gx_aload_n (i := 0) hC dX0_copyFrom_16 rfl rfl (by first | exact Or.inr ⟨_, rfl⟩ | exact Or.inl rfl | exact kv_isR | exact aref_isR) ?_
  refine gx_aload_n (i := 1) hC dX0_copyFrom_17 rfl rfl (by first | exact Or.inr ⟨_, rfl⟩ | exact Or.inl rfl | exact kv_isR | exact aref_isR) ?_
  refine gx_getI hC dX0_copyFrom_18 fl_X0_27 (by assumption) (by decide) (by first | (simp only [up2, hji, false_and, if_false]; done) | exact rfl) ?_
  refine gx_putI hC dX0_copyFrom_21 fl_X0_27 (by assumption) fn_0_3 rfl (rfl) ?_
  refine gx_aload_n (i := 0) hC dX0_copyFrom_24 rfl rfl (by first | exact Or.inr ⟨_, rfl⟩ | exact Or.inl rfl | exact kv_isR | exact aref_isR) ?_
  refine gx_aload_n (i := 1) hC dX0_copyFrom_25 rfl rfl (by first | exact Or.inr ⟨_, rfl⟩ | exact Or.inl rfl | exact kv_isR | exact aref_isR) ?_
  refine gx_getI hC dX0_copyFrom_26 fl_X0_30 (by assumption) (by decide) (by first | (simp only [up2, hji, false_and, if_false]; done) | exact rfl) ?_
  refine gx_putI hC dX0_copyFrom_29 fl_X0_30 (by assumption) fn_0_4 rfl (rfl) ?_
  refine gx_aload_n (i := 0) hC dX0_copyFrom_32 rfl rfl (by first | exact Or.inr ⟨_, rfl⟩ | exact Or.inl rfl | exact kv_isR | exact aref_isR) ?_
  refine gx_aload_n (i := 1) hC dX0_copyFrom_33 rfl rfl (by first | exact Or.inr ⟨_, rfl⟩ | exact Or.inl rfl | exact kv_isR | exact aref_isR) ?_
  refine gx_getI hC dX0_copyFrom_34 fl_X0_33 (by assumption) (by decide) (by first | (simp only [up2, hji, false_and, if_false]; done) | exact rfl) ?_
  refine gx_putI hC dX0_copyFrom_37 fl_X0_33 (by assumption) fn_0_5 rfl (rfl) ?_
  refine gx_aload_n (i := 0) hC dX0_copyFrom_40 rfl rfl (by first | exact Or.inr ⟨_, rfl⟩ | exact Or.inl rfl | exact kv_isR | exact aref_isR) ?_
  refine gx_aload_n (i := 1) hC dX0_copyFrom_41 rfl rfl (by first | exact Or.inr ⟨_, rfl⟩ | exact Or.inl rfl | exact kv_isR | exact aref_isR) ?_
  refine gx_getZ hC dX0_copyFrom_42 fl_X0_36 (by assumption) rfl (by first | (simp only [up2, hji, false_and, if_false]; done) | exact rfl) (fun hz_42 => ?_)
  refine gx_putZ hC dX0_copyFrom_45 fl_X0_36 (by assumption) fn_0_6 rfl (by first | exact Or.inl rfl | exact Or.inr rfl | exact b2_bit _ | assumption) (rfl) ?_
  refine gx_aload_n (i := 0) hC dX0_copyFrom_48 rfl rfl (by first | exact Or.inr ⟨_, rfl⟩ | exact Or.inl rfl | exact kv_isR | exact aref_isR) ?_
  refine gx_aload_n (i := 1) hC dX0_copyFrom_49 rfl rfl (by first | exact Or.inr ⟨_, rfl⟩ | exact Or.inl rfl | exact kv_isR | exact aref_isR) ?_
  refine gx_getI hC dX0_copyFrom_50 fl_X0_40 (by assumption) (by decide) (by first | (simp only [up2, hji, false_and, if_false]; done) | exact rfl) ?_
  refine gx_putI hC dX0_copyFrom_53 fl_X0_40 (by assumption) fn_0_7 rfl (rfl) ?_
  exact gx_vret hC hQ dX0_copyFrom_56 (by funext b q; unfold cpA up2; by_cases hb : b = i <;> (rcases (show q = 0 ∨ q = 1 ∨ q = 2 ∨ q = 3 ∨ q = 4 ∨ q = 5 ∨ q = 6 ∨ q = 7 ∨ 8 ≤ q by omega) with rfl | rfl | rfl | rfl | rfl | rfl | rfl | rfl | hq) <;> first | (simp [hb]; done) | (rw [if_neg (by omega), if_neg (by omega), if_neg (by omega), if_neg (by omega), if_neg (by omega), if_neg (by omega), if_neg (by omega), if_neg (by omega)])) rfl
end
section
/-! the state: what its methods answer and leave, over its block f -/
theorem gx_alenN {z : hZt} {n0 n nm nL d pc i len : Nat} {X : hXt} {cc : ByteArray} {own : String} {M : hMem} {R : hRef} {L : List (Option Value)} {st : List Value} (hC : hOk z n0 X cc own nL d nm) (hd : decode cc pc = .ok (.arraylength, 1)) {a : Nat} (hat : hAt n i (a, len)) (ha : 1 ≤ a ∧ a ≤ 5)
    (kk : hG z n0 X n M R (pc + 1) L (.int (nI len) :: st)) : hG z n0 X n M R pc L (.ref (z.1 + i) :: st) := gx_alen hC hd hat ha rfl kk
theorem clamp_eq (x : Int32) : x.toNatClampNeg = x.toInt.toNat := rfl
theorem clamp_lt {x : Int32} {n : Nat} (h0 : ¬ x < 0) (h1 : ¬ nI n ≤ x) (hn : n < 2 ^ 31) : x.toNatClampNeg < n := by
  rw [clamp_eq]
  rw [Int32.le_iff_toInt_le, nI_toInt hn] at h1
  rw [Int32.lt_iff_toInt_lt, Int32.toInt_zero] at h0
  omega
def bHas (f : hMem) (x : Int32) : Bool := decide (0 ≤ x ∧ x < f 0 3 ∧ x < nI 16)
def sNum (f : hMem) (x : Int32) : Option Nat := if 0 ≤ x ∧ x < f 0 2 ∧ x < nI 20 then some x.toNatClampNeg else none
theorem sNum_lt {f : hMem} {x : Int32} {j : Nat} (h : sNum f x = some j) : j < 20 := by
  unfold sNum at h
  split at h
  · next hc =>
    cases h
    exact clamp_lt (by rw [Int32.not_lt]; exact hc.1) (by rw [Int32.not_le]; exact hc.2.2) (by decide)
  · cases h

set_option maxHeartbeats 4000000 in
set_option maxRecDepth 20000 in
theorem c_X4_hasLevel (l : Launch) (z : hZt) {n : Nat} {M : hMem} {R : hRef} {o : Nat} (hS : hSt n R o) {f : hMem} (x : Int32) : hCt l z m_X4_hasLevel [.ref (z.1 + o), .int x] n (putS M o f) R n (some (.int (b2 (bHas f x)))) (putS M o f) R := by
  refine hs_start [some (.ref (z.1 + o)), some (.int x)] (by decide +kernel) rfl (by intro u hu; simp at hu; rcases hu with rfl | rfl <;> first | rfl | exact isR_cat kv_isR | exact isR_cat aref_isR) (Nat.le_of_ble_eq_true rfl) (Nat.le_refl _) (fun X hlX hN hC hQ => ?_)
  dsimp only at hC hQ
  refine gx_iload_n (i := 1) hC dX4_hasLevel_0 rfl rfl ?_
  refine gx_if_lt (tgt := 25) hC dX4_hasLevel_1 (by decide) (fun c_1 => ?_) (fun c_1 => ?_)
  · refine gx_iconst (v := 0) hC dX4_hasLevel_25 ic_0 ?_
    exact gx_zret hC hQ dX4_hasLevel_26 (by first | exact Or.inl rfl | exact Or.inr rfl | exact b2_bit _ | assumption) (by first | exact bv1 (by unfold bHas; exact decide_eq_true (by (clear hQ hC hN hlX; simp only [Int32.le_iff_toInt_le, Int32.lt_iff_toInt_lt, Int32.not_le, Int32.not_lt, ← Int32.toInt_inj, i32c_0, i32c_1, i32c_2, i32c_3, i32c_4, i32c_5, i32c_6, i32c_7, i32c_8, i32c_9, i32c_16, i32c_20, i32c_99, i32c_m1, i32c_m6, ni_16, ni_20, ni_80, ni_2, ni_5, ni_0, ne_eq] at *; omega))) | exact bv0 (by unfold bHas; exact decide_eq_false (by (clear hQ hC hN hlX; simp only [Int32.le_iff_toInt_le, Int32.lt_iff_toInt_lt, Int32.not_le, Int32.not_lt, ← Int32.toInt_inj, i32c_0, i32c_1, i32c_2, i32c_3, i32c_4, i32c_5, i32c_6, i32c_7, i32c_8, i32c_9, i32c_16, i32c_20, i32c_99, i32c_m1, i32c_m6, ni_16, ni_20, ni_80, ni_2, ni_5, ni_0, ne_eq] at *; omega)))) (rfl) rfl
  · refine gx_iload_n (i := 1) hC dX4_hasLevel_4 rfl rfl ?_
    refine gx_aload_n (i := 0) hC dX4_hasLevel_5 rfl rfl (by first | exact Or.inr ⟨_, rfl⟩ | exact Or.inl rfl | exact kv_isR | exact aref_isR) ?_
    refine gx_getI hC dX4_hasLevel_6 fl_X4_21 (by first | exact hS.at | exact hS.aa | exact hS.ah | exact hS.ac (by assumption) | exact hS.ac (by omega)) (by decide) (pS0) ?_
    refine gx_icmp_ge (tgt := 25) hC dX4_hasLevel_9 (by decide) (fun c_9 => ?_) (fun c_9 => ?_)
    · refine gx_iconst (v := 0) hC dX4_hasLevel_25 ic_0 ?_
      exact gx_zret hC hQ dX4_hasLevel_26 (by first | exact Or.inl rfl | exact Or.inr rfl | exact b2_bit _ | assumption) (by first | exact bv1 (by unfold bHas; exact decide_eq_true (by (clear hQ hC hN hlX; simp only [Int32.le_iff_toInt_le, Int32.lt_iff_toInt_lt, Int32.not_le, Int32.not_lt, ← Int32.toInt_inj, i32c_0, i32c_1, i32c_2, i32c_3, i32c_4, i32c_5, i32c_6, i32c_7, i32c_8, i32c_9, i32c_16, i32c_20, i32c_99, i32c_m1, i32c_m6, ni_16, ni_20, ni_80, ni_2, ni_5, ni_0, ne_eq] at *; omega))) | exact bv0 (by unfold bHas; exact decide_eq_false (by (clear hQ hC hN hlX; simp only [Int32.le_iff_toInt_le, Int32.lt_iff_toInt_lt, Int32.not_le, Int32.not_lt, ← Int32.toInt_inj, i32c_0, i32c_1, i32c_2, i32c_3, i32c_4, i32c_5, i32c_6, i32c_7, i32c_8, i32c_9, i32c_16, i32c_20, i32c_99, i32c_m1, i32c_m6, ni_16, ni_20, ni_80, ni_2, ni_5, ni_0, ne_eq] at *; omega)))) (rfl) rfl
    · refine gx_iload_n (i := 1) hC dX4_hasLevel_12 rfl rfl ?_
      refine gx_aload_n (i := 0) hC dX4_hasLevel_13 rfl rfl (by first | exact Or.inr ⟨_, rfl⟩ | exact Or.inl rfl | exact kv_isR | exact aref_isR) ?_
      refine gx_getR hC dX4_hasLevel_14 fl_X4_17 (by first | exact hS.at | exact hS.aa | exact hS.ah | exact hS.ac (by assumption) | exact hS.ac (by omega)) rfl (hS.rh) (by have := hS.1; omega) ?_
      refine gx_alenN hC dX4_hasLevel_17 (by first | exact hS.at | exact hS.aa | exact hS.ah | exact hS.ac (by assumption) | exact hS.ac (by omega)) (by decide) ?_
      refine gx_icmp_ge (tgt := 25) hC dX4_hasLevel_18 (by decide) (fun c_18 => ?_) (fun c_18 => ?_)
      · refine gx_iconst (v := 0) hC dX4_hasLevel_25 ic_0 ?_
        exact gx_zret hC hQ dX4_hasLevel_26 (by first | exact Or.inl rfl | exact Or.inr rfl | exact b2_bit _ | assumption) (by first | exact bv1 (by unfold bHas; exact decide_eq_true (by (clear hQ hC hN hlX; simp only [Int32.le_iff_toInt_le, Int32.lt_iff_toInt_lt, Int32.not_le, Int32.not_lt, ← Int32.toInt_inj, i32c_0, i32c_1, i32c_2, i32c_3, i32c_4, i32c_5, i32c_6, i32c_7, i32c_8, i32c_9, i32c_16, i32c_20, i32c_99, i32c_m1, i32c_m6, ni_16, ni_20, ni_80, ni_2, ni_5, ni_0, ne_eq] at *; omega))) | exact bv0 (by unfold bHas; exact decide_eq_false (by (clear hQ hC hN hlX; simp only [Int32.le_iff_toInt_le, Int32.lt_iff_toInt_lt, Int32.not_le, Int32.not_lt, ← Int32.toInt_inj, i32c_0, i32c_1, i32c_2, i32c_3, i32c_4, i32c_5, i32c_6, i32c_7, i32c_8, i32c_9, i32c_16, i32c_20, i32c_99, i32c_m1, i32c_m6, ni_16, ni_20, ni_80, ni_2, ni_5, ni_0, ne_eq] at *; omega)))) (rfl) rfl
      · refine gx_iconst (v := 1) hC dX4_hasLevel_21 ic_1 ?_
        refine gx_goto (tgt := 26) hC dX4_hasLevel_22 (by decide) ?_
        exact gx_zret hC hQ dX4_hasLevel_26 (by first | exact Or.inl rfl | exact Or.inr rfl | exact b2_bit _ | assumption) (by first | exact bv1 (by unfold bHas; exact decide_eq_true (by (clear hQ hC hN hlX; simp only [Int32.le_iff_toInt_le, Int32.lt_iff_toInt_lt, Int32.not_le, Int32.not_lt, ← Int32.toInt_inj, i32c_0, i32c_1, i32c_2, i32c_3, i32c_4, i32c_5, i32c_6, i32c_7, i32c_8, i32c_9, i32c_16, i32c_20, i32c_99, i32c_m1, i32c_m6, ni_16, ni_20, ni_80, ni_2, ni_5, ni_0, ne_eq] at *; omega))) | exact bv0 (by unfold bHas; exact decide_eq_false (by (clear hQ hC hN hlX; simp only [Int32.le_iff_toInt_le, Int32.lt_iff_toInt_lt, Int32.not_le, Int32.not_lt, ← Int32.toInt_inj, i32c_0, i32c_1, i32c_2, i32c_3, i32c_4, i32c_5, i32c_6, i32c_7, i32c_8, i32c_9, i32c_16, i32c_20, i32c_99, i32c_m1, i32c_m6, ni_16, ni_20, ni_80, ni_2, ni_5, ni_0, ne_eq] at *; omega)))) (rfl) rfl
set_option maxHeartbeats 4000000 in
set_option maxRecDepth 20000 in
theorem c_X4_numbered (l : Launch) (z : hZt) {n : Nat} {M : hMem} {R : hRef} {o : Nat} (hS : hSt n R o) {f : hMem} (x : Int32) : hCt l z m_X4_numbered [.ref (z.1 + o), .int x] n (putS M o f) R n (some (aref z o (sNum f x))) (putS M o f) R := by
  refine hs_start [some (.ref (z.1 + o)), some (.int x)] (by decide +kernel) rfl (by intro u hu; simp at hu; rcases hu with rfl | rfl <;> first | rfl | exact isR_cat kv_isR | exact isR_cat aref_isR) (Nat.le_of_ble_eq_true rfl) (Nat.le_refl _) (fun X hlX hN hC hQ => ?_)
  dsimp only at hC hQ
  refine gx_iload_n (i := 1) hC dX4_numbered_0 rfl rfl ?_
  refine gx_if_lt (tgt := 30) hC dX4_numbered_1 (by decide) (fun c_1 => ?_) (fun c_1 => ?_)
  · refine gx_aconst_null hC dX4_numbered_30 ?_
    exact gx_aret hC hQ dX4_numbered_31 (by first | exact Or.inr ⟨_, rfl⟩ | exact Or.inl rfl | exact kv_isR | exact aref_isR) (by unfold sNum; (repeat' split) <;> first | rfl | (exfalso; (clear hQ hC hN hlX; simp only [Int32.le_iff_toInt_le, Int32.lt_iff_toInt_lt, Int32.not_le, Int32.not_lt, ← Int32.toInt_inj, i32c_0, i32c_1, i32c_2, i32c_3, i32c_4, i32c_5, i32c_6, i32c_7, i32c_8, i32c_9, i32c_16, i32c_20, i32c_99, i32c_m1, i32c_m6, ni_16, ni_20, ni_80, ni_2, ni_5, ni_0, ne_eq] at *; omega))) (rfl) rfl
  · refine gx_iload_n (i := 1) hC dX4_numbered_4 rfl rfl ?_
    refine gx_aload_n (i := 0) hC dX4_numbered_5 rfl rfl (by first | exact Or.inr ⟨_, rfl⟩ | exact Or.inl rfl | exact kv_isR | exact aref_isR) ?_
    refine gx_getI hC dX4_numbered_6 fl_X4_47 (by first | exact hS.at | exact hS.aa | exact hS.ah | exact hS.ac (by assumption) | exact hS.ac (by omega)) (by decide) (pS0) ?_
    refine gx_icmp_ge (tgt := 30) hC dX4_numbered_9 (by decide) (fun c_9 => ?_) (fun c_9 => ?_)
    · refine gx_aconst_null hC dX4_numbered_30 ?_
      exact gx_aret hC hQ dX4_numbered_31 (by first | exact Or.inr ⟨_, rfl⟩ | exact Or.inl rfl | exact kv_isR | exact aref_isR) (by unfold sNum; (repeat' split) <;> first | rfl | (exfalso; (clear hQ hC hN hlX; simp only [Int32.le_iff_toInt_le, Int32.lt_iff_toInt_lt, Int32.not_le, Int32.not_lt, ← Int32.toInt_inj, i32c_0, i32c_1, i32c_2, i32c_3, i32c_4, i32c_5, i32c_6, i32c_7, i32c_8, i32c_9, i32c_16, i32c_20, i32c_99, i32c_m1, i32c_m6, ni_16, ni_20, ni_80, ni_2, ni_5, ni_0, ne_eq] at *; omega))) (rfl) rfl
    · refine gx_iload_n (i := 1) hC dX4_numbered_12 rfl rfl ?_
      refine gx_aload_n (i := 0) hC dX4_numbered_13 rfl rfl (by first | exact Or.inr ⟨_, rfl⟩ | exact Or.inl rfl | exact kv_isR | exact aref_isR) ?_
      refine gx_getR hC dX4_numbered_14 fl_X4_11 (by first | exact hS.at | exact hS.aa | exact hS.ah | exact hS.ac (by assumption) | exact hS.ac (by omega)) rfl (hS.ra) (by have := hS.1; omega) ?_
      refine gx_alenN hC dX4_numbered_17 (by first | exact hS.at | exact hS.aa | exact hS.ah | exact hS.ac (by assumption) | exact hS.ac (by omega)) (by decide) ?_
      refine gx_icmp_ge (tgt := 30) hC dX4_numbered_18 (by decide) (fun c_18 => ?_) (fun c_18 => ?_)
      · refine gx_aconst_null hC dX4_numbered_30 ?_
        exact gx_aret hC hQ dX4_numbered_31 (by first | exact Or.inr ⟨_, rfl⟩ | exact Or.inl rfl | exact kv_isR | exact aref_isR) (by unfold sNum; (repeat' split) <;> first | rfl | (exfalso; (clear hQ hC hN hlX; simp only [Int32.le_iff_toInt_le, Int32.lt_iff_toInt_lt, Int32.not_le, Int32.not_lt, ← Int32.toInt_inj, i32c_0, i32c_1, i32c_2, i32c_3, i32c_4, i32c_5, i32c_6, i32c_7, i32c_8, i32c_9, i32c_16, i32c_20, i32c_99, i32c_m1, i32c_m6, ni_16, ni_20, ni_80, ni_2, ni_5, ni_0, ne_eq] at *; omega))) (rfl) rfl
      · refine gx_aload_n (i := 0) hC dX4_numbered_21 rfl rfl (by first | exact Or.inr ⟨_, rfl⟩ | exact Or.inl rfl | exact kv_isR | exact aref_isR) ?_
        refine gx_getR hC dX4_numbered_22 fl_X4_11 (by first | exact hS.at | exact hS.aa | exact hS.ah | exact hS.ac (by assumption) | exact hS.ac (by omega)) rfl (hS.ra) (by have := hS.1; omega) ?_
        refine gx_iload_n (i := 1) hC dX4_numbered_25 rfl rfl ?_
        refine gx_aald hC dX4_numbered_26 (by first | exact hS.at | exact hS.aa | exact hS.ah | exact hS.ac (by assumption) | exact hS.ac (by omega)) (by first | exact Or.inl rfl | exact Or.inr rfl) (by (clear hQ hC hN hlX; simp only [vp_in_iff, Int32.le_iff_toInt_le, Int32.lt_iff_toInt_lt, Int32.not_le, Int32.not_lt, ← Int32.toInt_inj, i32c_0, i32c_1, i32c_2, i32c_3, i32c_4, i32c_5, i32c_6, i32c_7, i32c_8, i32c_9, i32c_16, i32c_20, i32c_99, i32c_m1, i32c_m6, ni_16, ni_20, ni_80, ni_2, ni_5, ni_0, ne_eq] at *; omega)) (hS.rc (clamp_lt (by assumption) (by assumption) (by decide))) (by have := hS.1; omega) ?_
        refine gx_goto (tgt := 31) hC dX4_numbered_27 (by decide) ?_
        exact gx_aret hC hQ dX4_numbered_31 (by first | exact Or.inr ⟨_, rfl⟩ | exact Or.inl rfl | exact kv_isR | exact aref_isR) (by unfold sNum; (repeat' split) <;> first | rfl | (exfalso; (clear hQ hC hN hlX; simp only [Int32.le_iff_toInt_le, Int32.lt_iff_toInt_lt, Int32.not_le, Int32.not_lt, ← Int32.toInt_inj, i32c_0, i32c_1, i32c_2, i32c_3, i32c_4, i32c_5, i32c_6, i32c_7, i32c_8, i32c_9, i32c_16, i32c_20, i32c_99, i32c_m1, i32c_m6, ni_16, ni_20, ni_80, ni_2, ni_5, ni_0, ne_eq] at *; omega))) (rfl) rfl
def sHold (f : hMem) (x : Int32) : Option Nat := if bHas f x = true then sNum f (f 2 x.toNatClampNeg) else none
theorem bHas_in {f : hMem} {x : Int32} (h : bHas f x = true) : vp_in x 16 := by
  have h := of_decide_eq_true h
  rw [vp_in_iff]
  simp only [Int32.le_iff_toInt_le, Int32.lt_iff_toInt_lt, ni_16, Int32.toInt_zero] at h
  omega
theorem sHold_lt {f : hMem} {x : Int32} {j : Nat} (h : sHold f x = some j) : j < 20 := by
  unfold sHold at h
  split at h
  · exact sNum_lt h
  · cases h
set_option maxHeartbeats 4000000 in
set_option maxRecDepth 20000 in
theorem c_X4_holderOf (l : Launch) (z : hZt) {n : Nat} {M : hMem} {R : hRef} {o : Nat} (hS : hSt n R o) {f : hMem} (x : Int32) : hCt l z m_X4_holderOf [.ref (z.1 + o), .int x] n (putS M o f) R n (some (aref z o (sHold f x))) (putS M o f) R := by
  refine hs_start [some (.ref (z.1 + o)), some (.int x)] (by decide +kernel) rfl (by intro u hu; simp at hu; rcases hu with rfl | rfl <;> first | rfl | exact isR_cat kv_isR | exact isR_cat aref_isR) (Nat.le_of_ble_eq_true rfl) (Nat.le_refl _) (fun X hlX hN hC hQ => ?_)
  dsimp only at hC hQ
  refine gx_aload_n (i := 0) hC dX4_holderOf_0 rfl rfl (by first | exact Or.inr ⟨_, rfl⟩ | exact Or.inl rfl | exact kv_isR | exact aref_isR) ?_
  refine gx_iload_n (i := 1) hC dX4_holderOf_1 rfl rfl ?_
  refine gx_callV1 hC dX4_holderOf_2 (c_X4_hasLevel _ _ hS _) kY_X4_hasLevel kV_X4_hasLevel ml_X4_85 (by first | exact hS.at | exact hS.aa | exact hS.ah | exact hS.ac (by assumption) | exact hS.ac (by omega)) rfl (by decide) rfl rfl rfl (by first | exact Nat.le_of_ble_eq_true rfl | (simp [Value.category, isR_cat kv_isR, isR_cat aref_isR]; done)) (Nat.le_refl _) (Nat.le_refl _) ?_
  refine gx_ifb_eq (tgt := 21) hC dX4_holderOf_5 (by decide) (fun c_5 => ?_) (fun c_5 => ?_)
  · refine gx_aconst_null hC dX4_holderOf_21 ?_
    exact gx_aret hC hQ dX4_holderOf_22 (by first | exact Or.inr ⟨_, rfl⟩ | exact Or.inl rfl | exact kv_isR | exact aref_isR) (by unfold sHold; first | rw [if_pos (by assumption)] | (rw [if_neg (by simp [*])]; rfl)) (rfl) rfl
  · refine gx_aload_n (i := 0) hC dX4_holderOf_8 rfl rfl (by first | exact Or.inr ⟨_, rfl⟩ | exact Or.inl rfl | exact kv_isR | exact aref_isR) ?_
    refine gx_aload_n (i := 0) hC dX4_holderOf_9 rfl rfl (by first | exact Or.inr ⟨_, rfl⟩ | exact Or.inl rfl | exact kv_isR | exact aref_isR) ?_
    refine gx_getR hC dX4_holderOf_10 fl_X4_17 (by first | exact hS.at | exact hS.aa | exact hS.ah | exact hS.ac (by assumption) | exact hS.ac (by omega)) rfl (hS.rh) (by have := hS.1; omega) ?_
    refine gx_iload_n (i := 1) hC dX4_holderOf_13 rfl rfl ?_
    refine gx_iald hC dX4_holderOf_14 (by first | exact hS.at | exact hS.aa | exact hS.ah | exact hS.ac (by assumption) | exact hS.ac (by omega)) (by exact bHas_in (by assumption)) (pSj (by decide)) ?_
    refine gx_callV1 hC dX4_holderOf_15 (c_X4_numbered _ _ hS _) kY_X4_numbered kV_X4_numbered ml_X4_89 (by first | exact hS.at | exact hS.aa | exact hS.ah | exact hS.ac (by assumption) | exact hS.ac (by omega)) rfl (by decide) rfl rfl rfl (by first | exact Nat.le_of_ble_eq_true rfl | (simp [Value.category, isR_cat kv_isR, isR_cat aref_isR]; done)) (Nat.le_refl _) (Nat.le_refl _) ?_
    refine gx_goto (tgt := 22) hC dX4_holderOf_18 (by decide) ?_
    exact gx_aret hC hQ dX4_holderOf_22 (by first | exact Or.inr ⟨_, rfl⟩ | exact Or.inl rfl | exact kv_isR | exact aref_isR) (by unfold sHold; first | rw [if_pos (by assumption)] | (rw [if_neg (by simp [*])]; rfl)) (rfl) rfl
def bFree (f : hMem) (x : Int32) : Bool := decide (bHas f x = true ∧ f 2 x.toNatClampNeg = -6)
set_option maxHeartbeats 4000000 in
set_option maxRecDepth 20000 in
theorem c_X4_isFree (l : Launch) (z : hZt) {n : Nat} {M : hMem} {R : hRef} {o : Nat} (hS : hSt n R o) {f : hMem} (x : Int32) : hCt l z m_X4_isFree [.ref (z.1 + o), .int x] n (putS M o f) R n (some (.int (b2 (bFree f x)))) (putS M o f) R := by
  refine hs_start [some (.ref (z.1 + o)), some (.int x)] (by decide +kernel) rfl (by intro u hu; simp at hu; rcases hu with rfl | rfl <;> first | rfl | exact isR_cat kv_isR | exact isR_cat aref_isR) (Nat.le_of_ble_eq_true rfl) (Nat.le_refl _) (fun X hlX hN hC hQ => ?_)
  dsimp only at hC hQ
  refine gx_aload_n (i := 0) hC dX4_isFree_0 rfl rfl (by first | exact Or.inr ⟨_, rfl⟩ | exact Or.inl rfl | exact kv_isR | exact aref_isR) ?_
  refine gx_iload_n (i := 1) hC dX4_isFree_1 rfl rfl ?_
  refine gx_callV1 hC dX4_isFree_2 (c_X4_hasLevel _ _ hS _) kY_X4_hasLevel kV_X4_hasLevel ml_X4_85 (by first | exact hS.at | exact hS.aa | exact hS.ah | exact hS.ac (by assumption) | exact hS.ac (by omega)) rfl (by decide) rfl rfl rfl (by first | exact Nat.le_of_ble_eq_true rfl | (simp [Value.category, isR_cat kv_isR, isR_cat aref_isR]; done)) (Nat.le_refl _) (Nat.le_refl _) ?_
  refine gx_ifb_eq (tgt := 23) hC dX4_isFree_5 (by decide) (fun c_5 => ?_) (fun c_5 => ?_)
  · refine gx_iconst (v := 0) hC dX4_isFree_23 ic_0 ?_
    exact gx_zret hC hQ dX4_isFree_24 (by first | exact Or.inl rfl | exact Or.inr rfl | exact b2_bit _ | assumption) (by first | exact bv1 (by unfold bFree; exact decide_eq_true ⟨by assumption, by assumption⟩) | exact bv0 (by unfold bFree; exact decide_eq_false (fun h => by simp_all))) (rfl) rfl
  · refine gx_aload_n (i := 0) hC dX4_isFree_8 rfl rfl (by first | exact Or.inr ⟨_, rfl⟩ | exact Or.inl rfl | exact kv_isR | exact aref_isR) ?_
    refine gx_getR hC dX4_isFree_9 fl_X4_17 (by first | exact hS.at | exact hS.aa | exact hS.ah | exact hS.ac (by assumption) | exact hS.ac (by omega)) rfl (hS.rh) (by have := hS.1; omega) ?_
    refine gx_iload_n (i := 1) hC dX4_isFree_12 rfl rfl ?_
    refine gx_iald hC dX4_isFree_13 (by first | exact hS.at | exact hS.aa | exact hS.ah | exact hS.ac (by assumption) | exact hS.ac (by omega)) (by exact bHas_in (by assumption)) (pSj (by decide)) ?_
    refine gx_bipush (v := -6) hC dX4_isFree_14 bp_m6 ?_
    refine gx_icmp_ne (tgt := 23) hC dX4_isFree_16 (by decide) (fun c_16 => ?_) (fun c_16 => ?_)
    · refine gx_iconst (v := 0) hC dX4_isFree_23 ic_0 ?_
      exact gx_zret hC hQ dX4_isFree_24 (by first | exact Or.inl rfl | exact Or.inr rfl | exact b2_bit _ | assumption) (by first | exact bv1 (by unfold bFree; exact decide_eq_true ⟨by assumption, by assumption⟩) | exact bv0 (by unfold bFree; exact decide_eq_false (fun h => by simp_all))) (rfl) rfl
    · refine gx_iconst (v := 1) hC dX4_isFree_19 ic_1 ?_
      refine gx_goto (tgt := 24) hC dX4_isFree_20 (by decide) ?_
      exact gx_zret hC hQ dX4_isFree_24 (by first | exact Or.inl rfl | exact Or.inr rfl | exact b2_bit _ | assumption) (by first | exact bv1 (by unfold bFree; exact decide_eq_true ⟨by assumption, by assumption⟩) | exact bv0 (by unfold bFree; exact decide_eq_false (fun h => by simp_all))) (rfl) rfl
def bFull (f : hMem) : Bool := decide (nI 20 ≤ f 0 2)
set_option maxHeartbeats 4000000 in
set_option maxRecDepth 20000 in
theorem c_X4_isFull (l : Launch) (z : hZt) {n : Nat} {M : hMem} {R : hRef} {o : Nat} (hS : hSt n R o) {f : hMem} : hCt l z m_X4_isFull [.ref (z.1 + o)] n (putS M o f) R n (some (.int (b2 (bFull f)))) (putS M o f) R := by
  refine hs_start [some (.ref (z.1 + o))] (by decide +kernel) rfl (by intro u hu; simp at hu; subst hu <;> first | rfl | exact isR_cat kv_isR | exact isR_cat aref_isR) (Nat.le_of_ble_eq_true rfl) (Nat.le_refl _) (fun X hlX hN hC hQ => ?_)
  dsimp only at hC hQ
  refine gx_aload_n (i := 0) hC dX4_isFull_0 rfl rfl (by first | exact Or.inr ⟨_, rfl⟩ | exact Or.inl rfl | exact kv_isR | exact aref_isR) ?_
  refine gx_getI hC dX4_isFull_1 fl_X4_47 (by first | exact hS.at | exact hS.aa | exact hS.ah | exact hS.ac (by assumption) | exact hS.ac (by omega)) (by decide) (pS0) ?_
  refine gx_aload_n (i := 0) hC dX4_isFull_4 rfl rfl (by first | exact Or.inr ⟨_, rfl⟩ | exact Or.inl rfl | exact kv_isR | exact aref_isR) ?_
  refine gx_getR hC dX4_isFull_5 fl_X4_11 (by first | exact hS.at | exact hS.aa | exact hS.ah | exact hS.ac (by assumption) | exact hS.ac (by omega)) rfl (hS.ra) (by have := hS.1; omega) ?_
  refine gx_alenN hC dX4_isFull_8 (by first | exact hS.at | exact hS.aa | exact hS.ah | exact hS.ac (by assumption) | exact hS.ac (by omega)) (by decide) ?_
  refine gx_icmp_lt (tgt := 16) hC dX4_isFull_9 (by decide) (fun c_9 => ?_) (fun c_9 => ?_)
  · refine gx_iconst (v := 0) hC dX4_isFull_16 ic_0 ?_
    exact gx_zret hC hQ dX4_isFull_17 (by first | exact Or.inl rfl | exact Or.inr rfl | exact b2_bit _ | assumption) (by first | exact bv1 (by unfold bFull; exact decide_eq_true (by (clear hQ hC hN hlX; simp only [Int32.le_iff_toInt_le, Int32.lt_iff_toInt_lt, Int32.not_le, Int32.not_lt, ← Int32.toInt_inj, i32c_0, i32c_1, i32c_2, i32c_3, i32c_4, i32c_5, i32c_6, i32c_7, i32c_8, i32c_9, i32c_16, i32c_20, i32c_99, i32c_m1, i32c_m6, ni_16, ni_20, ni_80, ni_2, ni_5, ni_0, ne_eq] at *; omega))) | exact bv0 (by unfold bFull; exact decide_eq_false (by (clear hQ hC hN hlX; simp only [Int32.le_iff_toInt_le, Int32.lt_iff_toInt_lt, Int32.not_le, Int32.not_lt, ← Int32.toInt_inj, i32c_0, i32c_1, i32c_2, i32c_3, i32c_4, i32c_5, i32c_6, i32c_7, i32c_8, i32c_9, i32c_16, i32c_20, i32c_99, i32c_m1, i32c_m6, ni_16, ni_20, ni_80, ni_2, ni_5, ni_0, ne_eq] at *; omega)))) (rfl) rfl
  · refine gx_iconst (v := 1) hC dX4_isFull_12 ic_1 ?_
    refine gx_goto (tgt := 17) hC dX4_isFull_13 (by decide) ?_
    exact gx_zret hC hQ dX4_isFull_17 (by first | exact Or.inl rfl | exact Or.inr rfl | exact b2_bit _ | assumption) (by first | exact bv1 (by unfold bFull; exact decide_eq_true (by (clear hQ hC hN hlX; simp only [Int32.le_iff_toInt_le, Int32.lt_iff_toInt_lt, Int32.not_le, Int32.not_lt, ← Int32.toInt_inj, i32c_0, i32c_1, i32c_2, i32c_3, i32c_4, i32c_5, i32c_6, i32c_7, i32c_8, i32c_9, i32c_16, i32c_20, i32c_99, i32c_m1, i32c_m6, ni_16, ni_20, ni_80, ni_2, ni_5, ni_0, ne_eq] at *; omega))) | exact bv0 (by unfold bFull; exact decide_eq_false (by (clear hQ hC hN hlX; simp only [Int32.le_iff_toInt_le, Int32.lt_iff_toInt_lt, Int32.not_le, Int32.not_lt, ← Int32.toInt_inj, i32c_0, i32c_1, i32c_2, i32c_3, i32c_4, i32c_5, i32c_6, i32c_7, i32c_8, i32c_9, i32c_16, i32c_20, i32c_99, i32c_m1, i32c_m6, ni_16, ni_20, ni_80, ni_2, ni_5, ni_0, ne_eq] at *; omega)))) (rfl) rfl
def sSetH (f : hMem) (x v : Int32) : hMem := if 0 ≤ x ∧ x < nI 16 then up2 f 2 x.toNatClampNeg v else f
set_option maxHeartbeats 4000000 in
set_option maxRecDepth 20000 in
theorem c_X4_setHolder (l : Launch) (z : hZt) {n : Nat} {M : hMem} {R : hRef} {o : Nat} (hS : hSt n R o) {f : hMem} (x v : Int32) : hCt l z m_X4_setHolder [.ref (z.1 + o), .int x, .int v] n (putS M o f) R n none (putS M o (sSetH f x v)) R := by
  refine hs_start [some (.ref (z.1 + o)), some (.int x), some (.int v)] (by decide +kernel) rfl (by intro u hu; simp at hu; rcases hu with rfl | rfl | rfl <;> first | rfl | exact isR_cat kv_isR | exact isR_cat aref_isR) (Nat.le_of_ble_eq_true rfl) (Nat.le_refl _) (fun X hlX hN hC hQ => ?_)
  dsimp only at hC hQ
  refine gx_iload_n (i := 1) hC dX4_setHolder_0 rfl rfl ?_
  refine gx_if_lt (tgt := 20) hC dX4_setHolder_1 (by decide) (fun c_1 => ?_) (fun c_1 => ?_)
  · exact gx_vret hC hQ dX4_setHolder_20 (by unfold sSetH; first | rw [if_pos (by (clear hQ hC hN hlX; simp only [Int32.le_iff_toInt_le, Int32.lt_iff_toInt_lt, Int32.not_le, Int32.not_lt, ← Int32.toInt_inj, i32c_0, i32c_1, i32c_2, i32c_3, i32c_4, i32c_5, i32c_6, i32c_7, i32c_8, i32c_9, i32c_16, i32c_20, i32c_99, i32c_m1, i32c_m6, ni_16, ni_20, ni_80, ni_2, ni_5, ni_0, ne_eq] at *; omega))] | rw [if_neg (by (clear hQ hC hN hlX; simp only [Int32.le_iff_toInt_le, Int32.lt_iff_toInt_lt, Int32.not_le, Int32.not_lt, ← Int32.toInt_inj, i32c_0, i32c_1, i32c_2, i32c_3, i32c_4, i32c_5, i32c_6, i32c_7, i32c_8, i32c_9, i32c_16, i32c_20, i32c_99, i32c_m1, i32c_m6, ni_16, ni_20, ni_80, ni_2, ni_5, ni_0, ne_eq] at *; omega))]) rfl
  · refine gx_iload_n (i := 1) hC dX4_setHolder_4 rfl rfl ?_
    refine gx_aload_n (i := 0) hC dX4_setHolder_5 rfl rfl (by first | exact Or.inr ⟨_, rfl⟩ | exact Or.inl rfl | exact kv_isR | exact aref_isR) ?_
    refine gx_getR hC dX4_setHolder_6 fl_X4_17 (by first | exact hS.at | exact hS.aa | exact hS.ah | exact hS.ac (by assumption) | exact hS.ac (by omega)) rfl (hS.rh) (by have := hS.1; omega) ?_
    refine gx_alenN hC dX4_setHolder_9 (by first | exact hS.at | exact hS.aa | exact hS.ah | exact hS.ac (by assumption) | exact hS.ac (by omega)) (by decide) ?_
    refine gx_icmp_ge (tgt := 20) hC dX4_setHolder_10 (by decide) (fun c_10 => ?_) (fun c_10 => ?_)
    · exact gx_vret hC hQ dX4_setHolder_20 (by unfold sSetH; first | rw [if_pos (by (clear hQ hC hN hlX; simp only [Int32.le_iff_toInt_le, Int32.lt_iff_toInt_lt, Int32.not_le, Int32.not_lt, ← Int32.toInt_inj, i32c_0, i32c_1, i32c_2, i32c_3, i32c_4, i32c_5, i32c_6, i32c_7, i32c_8, i32c_9, i32c_16, i32c_20, i32c_99, i32c_m1, i32c_m6, ni_16, ni_20, ni_80, ni_2, ni_5, ni_0, ne_eq] at *; omega))] | rw [if_neg (by (clear hQ hC hN hlX; simp only [Int32.le_iff_toInt_le, Int32.lt_iff_toInt_lt, Int32.not_le, Int32.not_lt, ← Int32.toInt_inj, i32c_0, i32c_1, i32c_2, i32c_3, i32c_4, i32c_5, i32c_6, i32c_7, i32c_8, i32c_9, i32c_16, i32c_20, i32c_99, i32c_m1, i32c_m6, ni_16, ni_20, ni_80, ni_2, ni_5, ni_0, ne_eq] at *; omega))]) rfl
    · refine gx_aload_n (i := 0) hC dX4_setHolder_13 rfl rfl (by first | exact Or.inr ⟨_, rfl⟩ | exact Or.inl rfl | exact kv_isR | exact aref_isR) ?_
      refine gx_getR hC dX4_setHolder_14 fl_X4_17 (by first | exact hS.at | exact hS.aa | exact hS.ah | exact hS.ac (by assumption) | exact hS.ac (by omega)) rfl (hS.rh) (by have := hS.1; omega) ?_
      refine gx_iload_n (i := 1) hC dX4_setHolder_17 rfl rfl ?_
      refine gx_iload_n (i := 2) hC dX4_setHolder_18 rfl rfl ?_
      refine gx_iastM hC dX4_setHolder_19 (by first | exact hS.at | exact hS.aa | exact hS.ah | exact hS.ac (by assumption) | exact hS.ac (by omega)) (by (clear hQ hC hN hlX; simp only [vp_in_iff, Int32.le_iff_toInt_le, Int32.lt_iff_toInt_lt, Int32.not_le, Int32.not_lt, ← Int32.toInt_inj, i32c_0, i32c_1, i32c_2, i32c_3, i32c_4, i32c_5, i32c_6, i32c_7, i32c_8, i32c_9, i32c_16, i32c_20, i32c_99, i32c_m1, i32c_m6, ni_16, ni_20, ni_80, ni_2, ni_5, ni_0, ne_eq] at *; omega)) (up_S (by omega)) ?_
      exact gx_vret hC hQ dX4_setHolder_20 (by unfold sSetH; first | rw [if_pos (by (clear hQ hC hN hlX; simp only [Int32.le_iff_toInt_le, Int32.lt_iff_toInt_lt, Int32.not_le, Int32.not_lt, ← Int32.toInt_inj, i32c_0, i32c_1, i32c_2, i32c_3, i32c_4, i32c_5, i32c_6, i32c_7, i32c_8, i32c_9, i32c_16, i32c_20, i32c_99, i32c_m1, i32c_m6, ni_16, ni_20, ni_80, ni_2, ni_5, ni_0, ne_eq] at *; omega))] | rw [if_neg (by (clear hQ hC hN hlX; simp only [Int32.le_iff_toInt_le, Int32.lt_iff_toInt_lt, Int32.not_le, Int32.not_lt, ← Int32.toInt_inj, i32c_0, i32c_1, i32c_2, i32c_3, i32c_4, i32c_5, i32c_6, i32c_7, i32c_8, i32c_9, i32c_16, i32c_20, i32c_99, i32c_m1, i32c_m6, ni_16, ni_20, ni_80, ni_2, ni_5, ni_0, ne_eq] at *; omega))]) rfl
/-- what every state keeps: levels, aircraft, their numbers and kinds -/
def SW (f : hMem) (lv c : Nat) : Prop := (f 0 3 = nI lv ∧ lv ≤ 16) ∧ (f 0 2 = nI c ∧ c ≤ 20) ∧ ∀ j, j < 20 → f (3 + j) 0 = nI j ∧ hk (f (3 + j) 1)
theorem SW.lv {f : hMem} {lv c : Nat} (h : SW f lv c) : f 0 3 = nI lv := h.1.1
theorem SW.l16 {f : hMem} {lv c : Nat} (h : SW f lv c) : lv ≤ 16 := h.1.2
theorem SW.ct {f : hMem} {lv c : Nat} (h : SW f lv c) : f 0 2 = nI c := h.2.1.1
theorem SW.c20 {f : hMem} {lv c : Nat} (h : SW f lv c) : c ≤ 20 := h.2.1.2
theorem SW.nu {f : hMem} {lv c j : Nat} (h : SW f lv c) (hj : j < 20) : f (3 + j) 0 = nI j := (h.2.2 j hj).1
theorem SW.kd {f : hMem} {lv c j : Nat} (h : SW f lv c) (hj : j < 20) : hk (f (3 + j) 1) := (h.2.2 j hj).2
theorem SW.up {f : hMem} {lv c i k : Nat} {x : Int32} (h : SW f lv c) (h0 : i = 0 → k ≠ 2 ∧ k ≠ 3) (h3 : 3 ≤ i → 2 ≤ k) : SW (up2 f i k x) lv c := by
  refine ⟨⟨?_, h.l16⟩, ⟨?_, h.c20⟩, fun j hj => ⟨?_, ?_⟩⟩
  · rw [up2_off (by rintro ⟨rfl, rfl⟩; exact (h0 rfl).2 rfl)]; exact h.lv
  · rw [up2_off (by rintro ⟨rfl, rfl⟩; exact (h0 rfl).1 rfl)]; exact h.ct
  · rw [up2_off (by rintro ⟨rfl, rfl⟩; have := h3 (by omega); omega)]; exact h.nu hj
  · rw [up2_off (by rintro ⟨rfl, rfl⟩; have := h3 (by omega); omega)]; exact h.kd hj
def sCnt (f : hMem) (x : Int32) : Nat → Int32
  | 0 => 0
  | j + 1 => if f (3 + j) 3 = x then sCnt f x j + 1 else sCnt f x j
theorem ii_1 (i : Nat) : nI i + Int32.ofInt 1 = nI (i + 1) := nI_1 i
theorem vpn {i N : Nat} (h : i < N) (hN : N < 2 ^ 31) : vp_in (nI i) N := vp_in_nI h hN
theorem cle {a b : Nat} (ha : a < 2 ^ 31) (hb : b < 2 ^ 31) (h : nI a ≤ nI b) : a ≤ b := (nI_leI ha hb).mp h
theorem cnle {a b : Nat} (ha : a < 2 ^ 31) (hb : b < 2 ^ 31) (h : ¬ nI a ≤ nI b) : b < a := by have := mt (nI_leI ha hb).mpr h; omega
set_option maxHeartbeats 4000000 in
set_option maxRecDepth 20000 in
theorem c_X4_countOf (l : Launch) (z : hZt) {n : Nat} {M : hMem} {R : hRef} {o : Nat} (hS : hSt n R o) {f : hMem} {lv c : Nat} (hW : SW f lv c) (x : Int32) : hCt l z m_X4_countOf [.ref (z.1 + o), .int x] n (putS M o f) R n (some (.int (sCnt f x c))) (putS M o f) R := by
  refine hs_start [some (.ref (z.1 + o)), some (.int x), none, none] (by decide +kernel) rfl (by intro u hu; simp at hu; rcases hu with rfl | rfl <;> first | rfl | exact isR_cat kv_isR | exact isR_cat aref_isR) (Nat.le_of_ble_eq_true rfl) (Nat.le_refl _) (fun X hlX hN hC hQ => ?_)
  dsimp only at hC hQ
  have hc20 := hW.c20
  refine gx_iconst (v := 0) hC dX4_countOf_0 ic_0 ?_
  refine gx_istore_n (i := 2) (L' := [_, _, _, _]) hC dX4_countOf_1 rfl (Nat.le_of_ble_eq_true rfl) rfl (fun u h9 => by first | exact Or.inl rfl | (right; cases h9; first | rfl | exact isR_cat aref_isR | exact isR_cat kv_isR)) ?_
  refine gx_iconst (v := nI 0) hC dX4_countOf_2 ic_0n ?_
  refine gx_istore_n (i := 3) (L' := [_, _, _, _]) hC dX4_countOf_3 rfl (Nat.le_of_ble_eq_true rfl) rfl (fun u h9 => by first | exact Or.inl rfl | (right; cases h9; first | rfl | exact isR_cat aref_isR | exact isR_cat kv_isR)) ?_
  have loop_4 : ∀ (k : Nat) (i : Nat), c - i < k → i ≤ c → hG z n X n (putS M o f) R 4 [some (.ref (z.1 + o)), some (.int x), some (.int (sCnt f x i)), some (.int (nI i))] [] := by
    intro k
    induction k with
    | zero => intros; omega
    | succ k ih =>
      intro i hk1 hi
      refine gx_iload_n (i := 3) hC dX4_countOf_4 rfl rfl ?_
      refine gx_aload_n (i := 0) hC dX4_countOf_5 rfl rfl (by first | exact Or.inr ⟨_, rfl⟩ | exact Or.inl rfl | exact kv_isR | exact aref_isR) ?_
      refine gx_getR hC dX4_countOf_6 fl_X4_11 (by first | exact hS.at | exact hS.aa | exact hS.ah | exact hS.ac (by assumption) | exact hS.ac (by omega)) rfl (hS.ra) (by have := hS.1; omega) ?_
      refine gx_alenN hC dX4_countOf_9 (by first | exact hS.at | exact hS.aa | exact hS.ah | exact hS.ac (by assumption) | exact hS.ac (by omega)) (by decide) ?_
      refine gx_icmp_ge (tgt := 43) hC dX4_countOf_10 (by decide) (fun c_10 => ?_) (fun c_10 => ?_)
      · have d_10 := cle (by omega) (by omega) c_10
        refine gx_iload_n (i := 2) hC dX4_countOf_43 rfl rfl ?_
        exact gx_iret hC hQ dX4_countOf_44 (by rw [show c = i by omega]) (rfl) rfl
      · have d_10 := cnle (by omega) (by omega) c_10
        refine gx_iload_n (i := 3) hC dX4_countOf_13 rfl rfl ?_
        refine gx_aload_n (i := 0) hC dX4_countOf_14 rfl rfl (by first | exact Or.inr ⟨_, rfl⟩ | exact Or.inl rfl | exact kv_isR | exact aref_isR) ?_
        refine gx_getI hC dX4_countOf_15 fl_X4_47 (by first | exact hS.at | exact hS.aa | exact hS.ah | exact hS.ac (by assumption) | exact hS.ac (by omega)) (by decide) (pS0.trans hW.ct) ?_
        refine gx_icmp_ge (tgt := 43) hC dX4_countOf_18 (by decide) (fun c_18 => ?_) (fun c_18 => ?_)
        · have d_18 := cle (by omega) (by omega) c_18
          refine gx_iload_n (i := 2) hC dX4_countOf_43 rfl rfl ?_
          exact gx_iret hC hQ dX4_countOf_44 (by rw [show c = i by omega]) (rfl) rfl
        · have d_18 := cnle (by omega) (by omega) c_18
          refine gx_aload_n (i := 0) hC dX4_countOf_21 rfl rfl (by first | exact Or.inr ⟨_, rfl⟩ | exact Or.inl rfl | exact kv_isR | exact aref_isR) ?_
          refine gx_getR hC dX4_countOf_22 fl_X4_11 (by first | exact hS.at | exact hS.aa | exact hS.ah | exact hS.ac (by assumption) | exact hS.ac (by omega)) rfl (hS.ra) (by have := hS.1; omega) ?_
          refine gx_iload_n (i := 3) hC dX4_countOf_25 rfl rfl ?_
          refine gx_aald hC dX4_countOf_26 (by first | exact hS.at | exact hS.aa | exact hS.ah | exact hS.ac (by assumption) | exact hS.ac (by omega)) (by first | exact Or.inl rfl | exact Or.inr rfl) (by exact vpn (by omega) (by decide)) ((congrArg (R (o + 1)) (nI_clamp (by omega))).trans (hS.rc (by omega))) (by have := hS.1; omega) ?_
          refine gx_getI hC dX4_countOf_27 fl_X4_92 (by first | exact hS.at | exact hS.aa | exact hS.ah | exact hS.ac (by assumption) | exact hS.ac (by omega)) (by decide) (pSj (by omega)) ?_
          refine gx_iload_n (i := 1) hC dX4_countOf_30 rfl rfl ?_
          refine gx_icmp_ne (tgt := 37) hC dX4_countOf_31 (by decide) (fun c_31 => ?_) (fun c_31 => ?_)
          · refine gx_iinc (i := 3) (L' := [_, _, _, _]) hC dX4_countOf_37 rfl (ii_1 _) (Nat.le_of_ble_eq_true rfl) rfl (fun u h9 => by first | exact Or.inl rfl | (right; cases h9; first | rfl | exact isR_cat aref_isR | exact isR_cat kv_isR)) ?_
            refine gx_goto (tgt := 4) hC dX4_countOf_40 (by decide) ?_
            first | (rw [show sCnt f x i + Int32.ofInt 1 = sCnt f x (i + 1) by rw [sCnt, if_pos (by assumption)]; rfl]; exact ih (i + 1) (by omega) (by omega)) | (rw [show sCnt f x i = sCnt f x (i + 1) by rw [sCnt, if_neg (by assumption)]]; exact ih (i + 1) (by omega) (by omega))
          · refine gx_iinc (i := 2) (L' := [_, _, _, _]) hC dX4_countOf_34 rfl rfl (Nat.le_of_ble_eq_true rfl) rfl (fun u h9 => by first | exact Or.inl rfl | (right; cases h9; first | rfl | exact isR_cat aref_isR | exact isR_cat kv_isR)) ?_
            refine gx_iinc (i := 3) (L' := [_, _, _, _]) hC dX4_countOf_37 rfl (ii_1 _) (Nat.le_of_ble_eq_true rfl) rfl (fun u h9 => by first | exact Or.inl rfl | (right; cases h9; first | rfl | exact isR_cat aref_isR | exact isR_cat kv_isR)) ?_
            refine gx_goto (tgt := 4) hC dX4_countOf_40 (by decide) ?_
            first | (rw [show sCnt f x i + Int32.ofInt 1 = sCnt f x (i + 1) by rw [sCnt, if_pos (by assumption)]; rfl]; exact ih (i + 1) (by omega) (by omega)) | (rw [show sCnt f x i = sCnt f x (i + 1) by rw [sCnt, if_neg (by assumption)]]; exact ih (i + 1) (by omega) (by omega))
  exact loop_4 (c + 1) 0 (by omega) (by omega)
end
section
/-! an aircraft's methods over its state's block -/
section AB
variable {l : Launch} {z : hZt} {n : Nat} {M : hMem} {R : hRef} {o : Nat} {f : hMem} {j : Nat}
theorem d_X0_isHolding (hS : hSt n R o) (hj : j < 20) : hCt l z m_X0_isHolding [.ref (z.1 + (o + (3 + j)))] n (putS M o f) R n (some (.int (b2 (decide (f (3 + j) 3 = 0))))) (putS M o f) R := by
  have h := c_X0_isHolding l z (M := putS M o f) (R := R) (hS.ac hj)
  have e : ∀ k, putS M o f (o + (3 + j)) k = f (3 + j) k := fun k => pSj (by omega)
  simp only [e] at h
  skip
  exact h
theorem d_X0_isOverFix (hS : hSt n R o) (hj : j < 20) : hCt l z m_X0_isOverFix [.ref (z.1 + (o + (3 + j)))] n (putS M o f) R n (some (.int (b2 (decide (f (3 + j) 5 = 0))))) (putS M o f) R := by
  have h := c_X0_isOverFix l z (M := putS M o f) (R := R) (hS.ac hj)
  have e : ∀ k, putS M o f (o + (3 + j)) k = f (3 + j) k := fun k => pSj (by omega)
  simp only [e] at h
  skip
  exact h
theorem d_X0_isShort (hS : hSt n R o) (hj : j < 20) (hk1 : hk (f (3 + j) 1)) : hCt l z m_X0_isShort [.ref (z.1 + (o + (3 + j)))] n (putS M o f) R n (some (.int (b2 (decide (f (3 + j) 2 ≤ kRes (f (3 + j) 1)))))) (putS M o f) R := by
  have h := c_X0_isShort l z (M := putS M o f) (R := R) (hS.ac hj) (by rw [pSj (by omega)]; exact hk1)
  have e : ∀ k, putS M o f (o + (3 + j)) k = f (3 + j) k := fun k => pSj (by omega)
  simp only [e] at h
  skip
  exact h
theorem d_X0_mustDivert (hS : hSt n R o) (hj : j < 20) (hk1 : hk (f (3 + j) 1)) : hCt l z m_X0_mustDivert [.ref (z.1 + (o + (3 + j)))] n (putS M o f) R n (some (.int (b2 (decide (2 * f (3 + j) 2 < kRes (f (3 + j) 1)))))) (putS M o f) R := by
  have h := c_X0_mustDivert l z (M := putS M o f) (R := R) (hS.ac hj) (by rw [pSj (by omega)]; exact hk1)
  have e : ∀ k, putS M o f (o + (3 + j)) k = f (3 + j) k := fun k => pSj (by omega)
  simp only [e] at h
  skip
  exact h
theorem d_X0_minutesUntilShort (hS : hSt n R o) (hj : j < 20) (hk1 : hk (f (3 + j) 1)) : hCt l z m_X0_minutesUntilShort [.ref (z.1 + (o + (3 + j)))] n (putS M o f) R n (some (.int (aUntil f (3 + j)))) (putS M o f) R := by
  have h := c_X0_minutesUntilShort l z (M := putS M o f) (R := R) (hS.ac hj) (by rw [pSj (by omega)]; exact hk1)
  have e : ∀ k, putS M o f (o + (3 + j)) k = f (3 + j) k := fun k => pSj (by omega)
  simp only [aUntil, e] at h
  skip
  exact h
theorem d_X0_burnForMinute (hS : hSt n R o) (hj : j < 20) (hk1 : hk (f (3 + j) 1)) : hCt l z m_X0_burnForMinute [.ref (z.1 + (o + (3 + j)))] n (putS M o f) R n (some (.int (aBm f (3 + j)))) (putS M o (up2 f (3 + j) 2 (f (3 + j) 2 - aBm f (3 + j)))) R := by
  have h := c_X0_burnForMinute l z (M := putS M o f) (R := R) (hS.ac hj) (by rw [pSj (by omega)]; exact hk1)
  have e : ∀ k, putS M o f (o + (3 + j)) k = f (3 + j) k := fun k => pSj (by omega)
  simp only [aBm, e] at h
  rw [up_S (by omega)] at h
  exact h
theorem d_X0_flyMinute (hS : hSt n R o) (hj : j < 20) (lap : Int32) : hCt l z m_X0_flyMinute [.ref (z.1 + (o + (3 + j))), .int lap] n (putS M o f) R n none (putS M o (up2 f (3 + j) 5 (aFly f (3 + j) lap))) R := by
  have h := c_X0_flyMinute l z (M := putS M o f) (R := R) (hS.ac hj) lap
  have e : ∀ k, putS M o f (o + (3 + j)) k = f (3 + j) k := fun k => pSj (by omega)
  simp only [aFly, e] at h
  rw [up_S (by omega)] at h
  exact h
end AB
def sRef (f : hMem) (c : Nat) (kd fuel lev : Int32) : Int32 := if bFree f lev = false then 1 else if fuel ≤ kRes kd then 2 else if f 0 5 ≤ sCnt f 0 c then 3 else 0
set_option maxHeartbeats 4000000 in
set_option maxRecDepth 20000 in
theorem c_X4_refusal (l : Launch) (z : hZt) {n : Nat} {M : hMem} {R : hRef} {o : Nat} (hS : hSt n R o) {f : hMem} {lv c : Nat} (hW : SW f lv c) (kd fuel lev : Int32) (hkd : hk kd) : hCt l z m_X4_refusal [.ref (z.1 + o), kv z.2.1 kd, .int fuel, .int lev] n (putS M o f) R n (some (.int (sRef f c kd fuel lev))) (putS M o f) R := by
  refine hs_start [some (.ref (z.1 + o)), some (kv z.2.1 kd), some (.int fuel), some (.int lev)] (by decide +kernel) rfl (by intro u hu; simp at hu; rcases hu with rfl | rfl | rfl | rfl <;> first | rfl | exact isR_cat kv_isR | exact isR_cat aref_isR) (Nat.le_of_ble_eq_true rfl) (Nat.le_refl _) (fun X hlX hN hC hQ => ?_)
  dsimp only at hC hQ
  refine gx_aload_n (i := 0) hC dX4_refusal_0 rfl rfl (by first | exact Or.inr ⟨_, rfl⟩ | exact Or.inl rfl | exact kv_isR | exact aref_isR) ?_
  refine gx_iload_n (i := 3) hC dX4_refusal_1 rfl rfl ?_
  refine gx_callV1 hC dX4_refusal_2 (c_X4_isFree _ _ hS _) kY_X4_isFree kV_X4_isFree ml_X4_95 (by first | exact hS.at | exact hS.aa | exact hS.ah | exact hS.ac (by assumption) | exact hS.ac (by omega)) rfl (by decide) rfl rfl rfl (by first | exact Nat.le_of_ble_eq_true rfl | (simp [Value.category, isR_cat kv_isR, isR_cat aref_isR]; done)) (Nat.le_refl _) (Nat.le_refl _) ?_
  refine gx_ifb_ne (tgt := 10) hC dX4_refusal_5 (by decide) (fun c_5 => ?_) (fun c_5 => ?_)
  · refine gx_iload_n (i := 2) hC dX4_refusal_10 rfl rfl ?_
    refine gx_aload_n (i := 1) hC dX4_refusal_11 rfl rfl (by first | exact Or.inr ⟨_, rfl⟩ | exact Or.inl rfl | exact kv_isR | exact aref_isR) ?_
    refine gx_getK hC dX4_refusal_12 2 (by decide) fl_X4_98 (by assumption) kf_2 ?_
    refine gx_icmp_gt (tgt := 20) hC dX4_refusal_15 (by decide) (fun c_15 => ?_) (fun c_15 => ?_)
    · refine gx_aload_n (i := 0) hC dX4_refusal_20 rfl rfl (by first | exact Or.inr ⟨_, rfl⟩ | exact Or.inl rfl | exact kv_isR | exact aref_isR) ?_
      refine gx_iconst (v := 0) hC dX4_refusal_21 ic_0 ?_
      refine gx_callV1 hC dX4_refusal_22 (c_X4_countOf _ _ hS hW _) kY_X4_countOf kV_X4_countOf ml_X4_103 (by first | exact hS.at | exact hS.aa | exact hS.ah | exact hS.ac (by assumption) | exact hS.ac (by omega)) rfl (by decide) rfl rfl rfl (by first | exact Nat.le_of_ble_eq_true rfl | (simp [Value.category, isR_cat kv_isR, isR_cat aref_isR]; done)) (Nat.le_refl _) (Nat.le_refl _) ?_
      refine gx_aload_n (i := 0) hC dX4_refusal_25 rfl rfl (by first | exact Or.inr ⟨_, rfl⟩ | exact Or.inl rfl | exact kv_isR | exact aref_isR) ?_
      refine gx_getI hC dX4_refusal_26 fl_X4_28 (by first | exact hS.at | exact hS.aa | exact hS.ah | exact hS.ac (by assumption) | exact hS.ac (by omega)) (by decide) (pS0) ?_
      refine gx_icmp_lt (tgt := 36) hC dX4_refusal_29 (by decide) (fun c_29 => ?_) (fun c_29 => ?_)
      · refine gx_iconst (v := 0) hC dX4_refusal_36 ic_0 ?_
        exact gx_iret hC hQ dX4_refusal_37 (by unfold sRef; (repeat' split) <;> first | rfl | (exfalso; clear hQ hC hN hlX; simp_all; done) | (exfalso; (clear hQ hC hN hlX; simp only [Int32.le_iff_toInt_le, Int32.lt_iff_toInt_lt, Int32.not_le, Int32.not_lt, ← Int32.toInt_inj, i32c_0, i32c_1, i32c_2, i32c_3, i32c_4, i32c_5, i32c_6, i32c_7, i32c_8, i32c_9, i32c_16, i32c_20, i32c_99, i32c_m1, i32c_m6, ni_16, ni_20, ni_80, ni_2, ni_5, ni_0, ne_eq] at *; omega))) (rfl) rfl
      · refine gx_iconst (v := 3) hC dX4_refusal_32 ic_3 ?_
        refine gx_goto (tgt := 37) hC dX4_refusal_33 (by decide) ?_
        exact gx_iret hC hQ dX4_refusal_37 (by unfold sRef; (repeat' split) <;> first | rfl | (exfalso; clear hQ hC hN hlX; simp_all; done) | (exfalso; (clear hQ hC hN hlX; simp only [Int32.le_iff_toInt_le, Int32.lt_iff_toInt_lt, Int32.not_le, Int32.not_lt, ← Int32.toInt_inj, i32c_0, i32c_1, i32c_2, i32c_3, i32c_4, i32c_5, i32c_6, i32c_7, i32c_8, i32c_9, i32c_16, i32c_20, i32c_99, i32c_m1, i32c_m6, ni_16, ni_20, ni_80, ni_2, ni_5, ni_0, ne_eq] at *; omega))) (rfl) rfl
    · refine gx_iconst (v := 2) hC dX4_refusal_18 ic_2 ?_
      exact gx_iret hC hQ dX4_refusal_19 (by unfold sRef; (repeat' split) <;> first | rfl | (exfalso; clear hQ hC hN hlX; simp_all; done) | (exfalso; (clear hQ hC hN hlX; simp only [Int32.le_iff_toInt_le, Int32.lt_iff_toInt_lt, Int32.not_le, Int32.not_lt, ← Int32.toInt_inj, i32c_0, i32c_1, i32c_2, i32c_3, i32c_4, i32c_5, i32c_6, i32c_7, i32c_8, i32c_9, i32c_16, i32c_20, i32c_99, i32c_m1, i32c_m6, ni_16, ni_20, ni_80, ni_2, ni_5, ni_0, ne_eq] at *; omega))) (rfl) rfl
  · refine gx_iconst (v := 1) hC dX4_refusal_8 ic_1 ?_
    exact gx_iret hC hQ dX4_refusal_9 (by unfold sRef; (repeat' split) <;> first | rfl | (exfalso; clear hQ hC hN hlX; simp_all; done) | (exfalso; (clear hQ hC hN hlX; simp only [Int32.le_iff_toInt_le, Int32.lt_iff_toInt_lt, Int32.not_le, Int32.not_lt, ← Int32.toInt_inj, i32c_0, i32c_1, i32c_2, i32c_3, i32c_4, i32c_5, i32c_6, i32c_7, i32c_8, i32c_9, i32c_16, i32c_20, i32c_99, i32c_m1, i32c_m6, ni_16, ni_20, ni_80, ni_2, ni_5, ni_0, ne_eq] at *; omega))) (rfl) rfl
theorem sSetH_off {f : hMem} {x v : Int32} {i k : Nat} (h : i ≠ 2) : sSetH f x v i k = f i k := by
  unfold sSetH
  split
  · exact up2_off (fun q => h q.1)
  · rfl
def sAdm (f : hMem) (c : Nat) (kd fuel lev : Int32) : hMem := up2 (up2 (sSetH (up2 (up2 (up2 (up2 (up2 (up2 (up2 f 0 2 (nI c + 1)) (3 + c) 1 kd) (3 + c) 2 fuel) (3 + c) 3 0) (3 + c) 4 lev) (3 + c) 5 1) (3 + c) 6 0) lev (nI c)) 0 11
  ((sSetH (up2 (up2 (up2 (up2 (up2 (up2 (up2 f 0 2 (nI c + 1)) (3 + c) 1 kd) (3 + c) 2 fuel) (3 + c) 3 0) (3 + c) 4 lev) (3 + c) 5 1) (3 + c) 6 0) lev (nI c)) 0 11 + fuel)) 0 15 0
theorem bFull_f {f : hMem} {lv c : Nat} (hW : SW f lv c) (hc : c < 20) : bFull f = false := by
  unfold bFull
  rw [hW.ct]
  exact decide_eq_false (fun h => by have := cle (by decide) (by omega) h; omega)
set_option maxHeartbeats 4000000 in
set_option maxRecDepth 20000 in
theorem c_X4_admit (l : Launch) (z : hZt) {n : Nat} {M : hMem} {R : hRef} {o : Nat} (hS : hSt n R o) {f : hMem} {lv c : Nat} (hW : SW f lv c) (hc : c < 20) (kd fuel lev : Int32) : hCt l z m_X4_admit [.ref (z.1 + o), kv z.2.1 kd, .int fuel, .int lev] n (putS M o f) R n (some (.int (nI c))) (putS M o (sAdm f c kd fuel lev)) R := by
  refine hs_start [some (.ref (z.1 + o)), some (kv z.2.1 kd), some (.int fuel), some (.int lev), none] (by decide +kernel) rfl (by intro u hu; simp at hu; rcases hu with rfl | rfl | rfl | rfl <;> first | rfl | exact isR_cat kv_isR | exact isR_cat aref_isR) (Nat.le_of_ble_eq_true rfl) (Nat.le_refl _) (fun X hlX hN hC hQ => ?_)
  dsimp only at hC hQ
  refine gx_aload_n (i := 0) hC dX4_admit_0 rfl rfl (by first | exact Or.inr ⟨_, rfl⟩ | exact Or.inl rfl | exact kv_isR | exact aref_isR) ?_
  refine gx_callV1 hC dX4_admit_1 (c_X4_isFull _ _ hS) kY_X4_isFull kV_X4_isFull ml_X4_107 (by first | exact hS.at | exact hS.aa | exact hS.ah | exact hS.ac (by assumption) | exact hS.ac (by omega)) rfl (by decide) rfl rfl rfl (by first | exact Nat.le_of_ble_eq_true rfl | (simp [Value.category, isR_cat kv_isR, isR_cat aref_isR]; done)) (Nat.le_refl _) (Nat.le_refl _) ?_
  refine gx_ifb_eq (tgt := 10) hC dX4_admit_4 (by decide) (fun c_4 => ?_) (fun c_4 => ?_)
  · refine gx_aload_n (i := 0) hC dX4_admit_10 rfl rfl (by first | exact Or.inr ⟨_, rfl⟩ | exact Or.inl rfl | exact kv_isR | exact aref_isR) ?_
    refine gx_getR hC dX4_admit_11 fl_X4_11 (by first | exact hS.at | exact hS.aa | exact hS.ah | exact hS.ac (by assumption) | exact hS.ac (by omega)) rfl (hS.ra) (by have := hS.1; omega) ?_
    refine gx_aload_n (i := 0) hC dX4_admit_14 rfl rfl (by first | exact Or.inr ⟨_, rfl⟩ | exact Or.inl rfl | exact kv_isR | exact aref_isR) ?_
    refine gx_getI hC dX4_admit_15 fl_X4_47 (by first | exact hS.at | exact hS.aa | exact hS.ah | exact hS.ac (by assumption) | exact hS.ac (by omega)) (by decide) (pS0.trans hW.ct) ?_
    refine gx_aald hC dX4_admit_18 (by first | exact hS.at | exact hS.aa | exact hS.ah | exact hS.ac (by assumption) | exact hS.ac (by omega)) (by first | exact Or.inl rfl | exact Or.inr rfl) (by exact vpn hc (by decide)) ((congrArg (R (o + 1)) (nI_clamp (by omega))).trans (hS.rc hc)) (by have := hS.1; omega) ?_
    refine gx_astore (i := 4) (L' := [_, _, _, _, _]) hC dX4_admit_19 (Nat.le_of_ble_eq_true rfl) rfl (fun u h9 => by first | exact Or.inl rfl | (right; cases h9; first | rfl | exact isR_cat aref_isR | exact isR_cat kv_isR)) (by first | exact Or.inr ⟨_, rfl⟩ | exact Or.inl rfl | exact kv_isR | exact aref_isR) ?_
    refine gx_aload_n (i := 0) hC dX4_admit_21 rfl rfl (by first | exact Or.inr ⟨_, rfl⟩ | exact Or.inl rfl | exact kv_isR | exact aref_isR) ?_
    refine gx_dup hC dX4_admit_22 (by first | rfl | exact isR_cat kv_isR | exact isR_cat aref_isR) ?_
    refine gx_getI hC dX4_admit_23 fl_X4_47 (by first | exact hS.at | exact hS.aa | exact hS.ah | exact hS.ac (by assumption) | exact hS.ac (by omega)) (by decide) (pS0.trans hW.ct) ?_
    refine gx_iconst (v := 1) hC dX4_admit_26 ic_1 ?_
    refine gx_iadd hC dX4_admit_27 ?_
    refine gx_putI hC dX4_admit_28 fl_X4_47 (by first | exact hS.at | exact hS.aa | exact hS.ah | exact hS.ac (by assumption) | exact hS.ac (by omega)) fn_3_2 rfl (up_S0) ?_
    refine gx_aload hC dX4_admit_31 rfl (by first | exact Or.inr ⟨_, rfl⟩ | exact Or.inl rfl | exact kv_isR | exact aref_isR) ?_
    refine gx_aload_n (i := 1) hC dX4_admit_33 rfl rfl (by first | exact Or.inr ⟨_, rfl⟩ | exact Or.inl rfl | exact kv_isR | exact aref_isR) ?_
    refine gx_putE hC dX4_admit_34 fl_X4_111 (by first | exact hS.at | exact hS.aa | exact hS.ah | exact hS.ac (by assumption) | exact hS.ac (by omega)) fn_0_1 rfl (up_S (by omega)) ?_
    refine gx_aload hC dX4_admit_37 rfl (by first | exact Or.inr ⟨_, rfl⟩ | exact Or.inl rfl | exact kv_isR | exact aref_isR) ?_
    refine gx_iload_n (i := 2) hC dX4_admit_39 rfl rfl ?_
    refine gx_putI hC dX4_admit_40 fl_X4_115 (by first | exact hS.at | exact hS.aa | exact hS.ah | exact hS.ac (by assumption) | exact hS.ac (by omega)) fn_0_2 rfl (up_S (by omega)) ?_
    refine gx_aload hC dX4_admit_43 rfl (by first | exact Or.inr ⟨_, rfl⟩ | exact Or.inl rfl | exact kv_isR | exact aref_isR) ?_
    refine gx_iconst (v := 0) hC dX4_admit_45 ic_0 ?_
    refine gx_putI hC dX4_admit_46 fl_X4_92 (by first | exact hS.at | exact hS.aa | exact hS.ah | exact hS.ac (by assumption) | exact hS.ac (by omega)) fn_0_3 rfl (up_S (by omega)) ?_
    refine gx_aload hC dX4_admit_49 rfl (by first | exact Or.inr ⟨_, rfl⟩ | exact Or.inl rfl | exact kv_isR | exact aref_isR) ?_
    refine gx_iload_n (i := 3) hC dX4_admit_51 rfl rfl ?_
    refine gx_putI hC dX4_admit_52 fl_X4_118 (by first | exact hS.at | exact hS.aa | exact hS.ah | exact hS.ac (by assumption) | exact hS.ac (by omega)) fn_0_4 rfl (up_S (by omega)) ?_
    refine gx_aload hC dX4_admit_55 rfl (by first | exact Or.inr ⟨_, rfl⟩ | exact Or.inl rfl | exact kv_isR | exact aref_isR) ?_
    refine gx_iconst (v := 1) hC dX4_admit_57 ic_1 ?_
    refine gx_putI hC dX4_admit_58 fl_X4_82 (by first | exact hS.at | exact hS.aa | exact hS.ah | exact hS.ac (by assumption) | exact hS.ac (by omega)) fn_0_5 rfl (up_S (by omega)) ?_
    refine gx_aload hC dX4_admit_61 rfl (by first | exact Or.inr ⟨_, rfl⟩ | exact Or.inl rfl | exact kv_isR | exact aref_isR) ?_
    refine gx_iconst (v := 0) hC dX4_admit_63 ic_0 ?_
    refine gx_putZ hC dX4_admit_64 fl_X4_121 (by first | exact hS.at | exact hS.aa | exact hS.ah | exact hS.ac (by assumption) | exact hS.ac (by omega)) fn_0_6 rfl (by first | exact Or.inl rfl | exact Or.inr rfl | exact b2_bit _ | assumption) (up_S (by omega)) ?_
    refine gx_aload_n (i := 0) hC dX4_admit_67 rfl rfl (by first | exact Or.inr ⟨_, rfl⟩ | exact Or.inl rfl | exact kv_isR | exact aref_isR) ?_
    refine gx_iload_n (i := 3) hC dX4_admit_68 rfl rfl ?_
    refine gx_aload hC dX4_admit_69 rfl (by first | exact Or.inr ⟨_, rfl⟩ | exact Or.inl rfl | exact kv_isR | exact aref_isR) ?_
    refine gx_getI hC dX4_admit_71 fl_X4_124 (by first | exact hS.at | exact hS.aa | exact hS.ah | exact hS.ac (by assumption) | exact hS.ac (by omega)) (by decide) ((pSj (by omega)).trans (show _ = nI c from by simp [up2, sSetH_off (show 3 + c ≠ 2 by omega), hW.nu hc])) ?_
    refine gx_callV0 hC dX4_admit_74 (c_X4_setHolder _ _ hS _ _) kY_X4_setHolder kV_X4_setHolder ml_X4_127 (by first | exact hS.at | exact hS.aa | exact hS.ah | exact hS.ac (by assumption) | exact hS.ac (by omega)) rfl (by decide) rfl rfl rfl (by first | exact Nat.le_of_ble_eq_true rfl | (simp [Value.category, isR_cat kv_isR, isR_cat aref_isR]; done)) (Nat.le_refl _) (Nat.le_refl _) ?_
    refine gx_aload_n (i := 0) hC dX4_admit_77 rfl rfl (by first | exact Or.inr ⟨_, rfl⟩ | exact Or.inl rfl | exact kv_isR | exact aref_isR) ?_
    refine gx_dup hC dX4_admit_78 (by first | rfl | exact isR_cat kv_isR | exact isR_cat aref_isR) ?_
    refine gx_getI hC dX4_admit_79 fl_X4_59 (by first | exact hS.at | exact hS.aa | exact hS.ah | exact hS.ac (by assumption) | exact hS.ac (by omega)) (by decide) (pS0) ?_
    refine gx_iload_n (i := 2) hC dX4_admit_82 rfl rfl ?_
    refine gx_iadd hC dX4_admit_83 ?_
    refine gx_putI hC dX4_admit_84 fl_X4_59 (by first | exact hS.at | exact hS.aa | exact hS.ah | exact hS.ac (by assumption) | exact hS.ac (by omega)) fn_3_11 rfl (up_S0) ?_
    refine gx_aload_n (i := 0) hC dX4_admit_87 rfl rfl (by first | exact Or.inr ⟨_, rfl⟩ | exact Or.inl rfl | exact kv_isR | exact aref_isR) ?_
    refine gx_iconst (v := 0) hC dX4_admit_88 ic_0 ?_
    refine gx_putI hC dX4_admit_89 fl_X4_71 (by first | exact hS.at | exact hS.aa | exact hS.ah | exact hS.ac (by assumption) | exact hS.ac (by omega)) fn_3_15 rfl (up_S0) ?_
    refine gx_aload hC dX4_admit_92 rfl (by first | exact Or.inr ⟨_, rfl⟩ | exact Or.inl rfl | exact kv_isR | exact aref_isR) ?_
    refine gx_getI hC dX4_admit_94 fl_X4_124 (by first | exact hS.at | exact hS.aa | exact hS.ah | exact hS.ac (by assumption) | exact hS.ac (by omega)) (by decide) ((pSj (by omega)).trans (show _ = nI c from by simp [up2, sSetH_off (show 3 + c ≠ 2 by omega), hW.nu hc])) ?_
    exact gx_iret hC hQ dX4_admit_97 (rfl) (rfl) rfl
  · rw [bFull_f hW hc] at c_4; cases c_4
set_option maxHeartbeats 4000000 in
set_option maxRecDepth 20000 in
theorem c_X4_markCalled (l : Launch) (z : hZt) {n : Nat} {M : hMem} {R : hRef} {o : Nat} (hS : hSt n R o) {f : hMem} {j : Nat} (x : Int32) (hj : sNum f x = some j) : hCt l z m_X4_markCalled [.ref (z.1 + o), .int x] n (putS M o f) R n (some (.int (f (3 + j) 4))) (putS M o (up2 f (3 + j) 6 1)) R := by
  refine hs_start [some (.ref (z.1 + o)), some (.int x), none] (by decide +kernel) rfl (by intro u hu; simp at hu; rcases hu with rfl | rfl <;> first | rfl | exact isR_cat kv_isR | exact isR_cat aref_isR) (Nat.le_of_ble_eq_true rfl) (Nat.le_refl _) (fun X hlX hN hC hQ => ?_)
  dsimp only at hC hQ
  refine gx_aload_n (i := 0) hC dX4_markCalled_0 rfl rfl (by first | exact Or.inr ⟨_, rfl⟩ | exact Or.inl rfl | exact kv_isR | exact aref_isR) ?_
  refine gx_iload_n (i := 1) hC dX4_markCalled_1 rfl rfl ?_
  refine gx_callV1 hC dX4_markCalled_2 (c_X4_numbered _ _ hS _) kY_X4_numbered kV_X4_numbered ml_X4_89 (by first | exact hS.at | exact hS.aa | exact hS.ah | exact hS.ac (by assumption) | exact hS.ac (by omega)) rfl (by decide) rfl rfl rfl (by first | exact Nat.le_of_ble_eq_true rfl | (simp [Value.category, isR_cat kv_isR, isR_cat aref_isR]; done)) (Nat.le_refl _) (Nat.le_refl _) ?_
  refine gx_astore_n (i := 2) (L' := [_, _, _]) hC dX4_markCalled_5 rfl (Nat.le_of_ble_eq_true rfl) rfl (fun u h9 => by first | exact Or.inl rfl | (right; cases h9; first | rfl | exact isR_cat aref_isR | exact isR_cat kv_isR)) (by first | exact Or.inr ⟨_, rfl⟩ | exact Or.inl rfl | exact kv_isR | exact aref_isR) ?_
  refine gx_aload_n (i := 2) hC dX4_markCalled_6 rfl rfl (by first | exact Or.inr ⟨_, rfl⟩ | exact Or.inl rfl | exact kv_isR | exact aref_isR) ?_
  refine gx_ifnonnull_o (tgt := 12) hC dX4_markCalled_7 (by decide) (fun j_7 c_7 => ?_) (fun c_7 => ?_)
  · obtain rfl : j_7 = j := by rw [hj] at c_7; exact (Option.some.inj c_7).symm
    have hj_7 := sNum_lt c_7
    simp only [c_7, aref_some]
    refine gx_aload_n (i := 2) hC dX4_markCalled_12 rfl rfl (by first | exact Or.inr ⟨_, rfl⟩ | exact Or.inl rfl | exact kv_isR | exact aref_isR) ?_
    refine gx_iconst (v := 1) hC dX4_markCalled_13 ic_1 ?_
    refine gx_putZ hC dX4_markCalled_14 fl_X4_121 (by first | exact hS.at | exact hS.aa | exact hS.ah | exact hS.ac (by assumption) | exact hS.ac (by omega)) fn_0_6 rfl (by first | exact Or.inl rfl | exact Or.inr rfl | exact b2_bit _ | assumption) (up_S (by omega)) ?_
    refine gx_aload_n (i := 2) hC dX4_markCalled_17 rfl rfl (by first | exact Or.inr ⟨_, rfl⟩ | exact Or.inl rfl | exact kv_isR | exact aref_isR) ?_
    refine gx_getI hC dX4_markCalled_18 fl_X4_118 (by first | exact hS.at | exact hS.aa | exact hS.ah | exact hS.ac (by assumption) | exact hS.ac (by omega)) (by decide) ((pSj (by omega)).trans (up2_off (by omega))) ?_
    exact gx_iret hC hQ dX4_markCalled_21 (rfl) (rfl) rfl
  · rw [hj] at c_7; cases c_7
def bMay (f : hMem) (c : Nat) : Bool := decide (¬ f 0 6 = 0 ∧ 0 < sCnt f 0 c)
set_option maxHeartbeats 4000000 in
set_option maxRecDepth 20000 in
theorem c_X4_mayLand (l : Launch) (z : hZt) {n : Nat} {M : hMem} {R : hRef} {o : Nat} (hS : hSt n R o) {f : hMem} {lv c : Nat} (hW : SW f lv c) : hCt l z m_X4_mayLand [.ref (z.1 + o)] n (putS M o f) R n (some (.int (b2 (bMay f c)))) (putS M o f) R := by
  refine hs_start [some (.ref (z.1 + o))] (by decide +kernel) rfl (by intro u hu; simp at hu; subst hu <;> first | rfl | exact isR_cat kv_isR | exact isR_cat aref_isR) (Nat.le_of_ble_eq_true rfl) (Nat.le_refl _) (fun X hlX hN hC hQ => ?_)
  dsimp only at hC hQ
  refine gx_aload_n (i := 0) hC dX4_mayLand_0 rfl rfl (by first | exact Or.inr ⟨_, rfl⟩ | exact Or.inl rfl | exact kv_isR | exact aref_isR) ?_
  refine gx_getZ hC dX4_mayLand_1 fl_X4_31 (by first | exact hS.at | exact hS.aa | exact hS.ah | exact hS.ac (by assumption) | exact hS.ac (by omega)) rfl (pS0) (fun hz_1 => ?_)
  refine gx_if_eq (tgt := 19) hC dX4_mayLand_4 (by decide) (fun c_4 => ?_) (fun c_4 => ?_)
  · refine gx_iconst (v := 0) hC dX4_mayLand_19 ic_0 ?_
    exact gx_zret hC hQ dX4_mayLand_20 (by first | exact Or.inl rfl | exact Or.inr rfl | exact b2_bit _ | assumption) (by first | exact bv1 (by unfold bMay; exact decide_eq_true (by (clear hQ hC hN hlX; simp only [Int32.le_iff_toInt_le, Int32.lt_iff_toInt_lt, Int32.not_le, Int32.not_lt, ← Int32.toInt_inj, i32c_0, i32c_1, i32c_2, i32c_3, i32c_4, i32c_5, i32c_6, i32c_7, i32c_8, i32c_9, i32c_16, i32c_20, i32c_99, i32c_m1, i32c_m6, ni_16, ni_20, ni_80, ni_2, ni_5, ni_0, ne_eq] at *; omega))) | exact bv0 (by unfold bMay; exact decide_eq_false (by (clear hQ hC hN hlX; simp only [Int32.le_iff_toInt_le, Int32.lt_iff_toInt_lt, Int32.not_le, Int32.not_lt, ← Int32.toInt_inj, i32c_0, i32c_1, i32c_2, i32c_3, i32c_4, i32c_5, i32c_6, i32c_7, i32c_8, i32c_9, i32c_16, i32c_20, i32c_99, i32c_m1, i32c_m6, ni_16, ni_20, ni_80, ni_2, ni_5, ni_0, ne_eq] at *; omega)))) (rfl) rfl
  · refine gx_aload_n (i := 0) hC dX4_mayLand_7 rfl rfl (by first | exact Or.inr ⟨_, rfl⟩ | exact Or.inl rfl | exact kv_isR | exact aref_isR) ?_
    refine gx_iconst (v := 0) hC dX4_mayLand_8 ic_0 ?_
    refine gx_callV1 hC dX4_mayLand_9 (c_X4_countOf _ _ hS hW _) kY_X4_countOf kV_X4_countOf ml_X4_103 (by first | exact hS.at | exact hS.aa | exact hS.ah | exact hS.ac (by assumption) | exact hS.ac (by omega)) rfl (by decide) rfl rfl rfl (by first | exact Nat.le_of_ble_eq_true rfl | (simp [Value.category, isR_cat kv_isR, isR_cat aref_isR]; done)) (Nat.le_refl _) (Nat.le_refl _) ?_
    refine gx_if_le (tgt := 19) hC dX4_mayLand_12 (by decide) (fun c_12 => ?_) (fun c_12 => ?_)
    · refine gx_iconst (v := 0) hC dX4_mayLand_19 ic_0 ?_
      exact gx_zret hC hQ dX4_mayLand_20 (by first | exact Or.inl rfl | exact Or.inr rfl | exact b2_bit _ | assumption) (by first | exact bv1 (by unfold bMay; exact decide_eq_true (by (clear hQ hC hN hlX; simp only [Int32.le_iff_toInt_le, Int32.lt_iff_toInt_lt, Int32.not_le, Int32.not_lt, ← Int32.toInt_inj, i32c_0, i32c_1, i32c_2, i32c_3, i32c_4, i32c_5, i32c_6, i32c_7, i32c_8, i32c_9, i32c_16, i32c_20, i32c_99, i32c_m1, i32c_m6, ni_16, ni_20, ni_80, ni_2, ni_5, ni_0, ne_eq] at *; omega))) | exact bv0 (by unfold bMay; exact decide_eq_false (by (clear hQ hC hN hlX; simp only [Int32.le_iff_toInt_le, Int32.lt_iff_toInt_lt, Int32.not_le, Int32.not_lt, ← Int32.toInt_inj, i32c_0, i32c_1, i32c_2, i32c_3, i32c_4, i32c_5, i32c_6, i32c_7, i32c_8, i32c_9, i32c_16, i32c_20, i32c_99, i32c_m1, i32c_m6, ni_16, ni_20, ni_80, ni_2, ni_5, ni_0, ne_eq] at *; omega)))) (rfl) rfl
    · refine gx_iconst (v := 1) hC dX4_mayLand_15 ic_1 ?_
      refine gx_goto (tgt := 20) hC dX4_mayLand_16 (by decide) ?_
      exact gx_zret hC hQ dX4_mayLand_20 (by first | exact Or.inl rfl | exact Or.inr rfl | exact b2_bit _ | assumption) (by first | exact bv1 (by unfold bMay; exact decide_eq_true (by (clear hQ hC hN hlX; simp only [Int32.le_iff_toInt_le, Int32.lt_iff_toInt_lt, Int32.not_le, Int32.not_lt, ← Int32.toInt_inj, i32c_0, i32c_1, i32c_2, i32c_3, i32c_4, i32c_5, i32c_6, i32c_7, i32c_8, i32c_9, i32c_16, i32c_20, i32c_99, i32c_m1, i32c_m6, ni_16, ni_20, ni_80, ni_2, ni_5, ni_0, ne_eq] at *; omega))) | exact bv0 (by unfold bMay; exact decide_eq_false (by (clear hQ hC hN hlX; simp only [Int32.le_iff_toInt_le, Int32.lt_iff_toInt_lt, Int32.not_le, Int32.not_lt, ← Int32.toInt_inj, i32c_0, i32c_1, i32c_2, i32c_3, i32c_4, i32c_5, i32c_6, i32c_7, i32c_8, i32c_9, i32c_16, i32c_20, i32c_99, i32c_m1, i32c_m6, ni_16, ni_20, ni_80, ni_2, ni_5, ni_0, ne_eq] at *; omega)))) (rfl) rfl
def sLeave (f : hMem) (j : Nat) (s : Int32) : hMem := up2 (up2 (sSetH f (f (3 + j) 4) (-6)) (3 + j) 3 s) (3 + j) 7 (f 0 9)
set_option maxHeartbeats 4000000 in
set_option maxRecDepth 20000 in
theorem c_X4_leave (l : Launch) (z : hZt) {n : Nat} {M : hMem} {R : hRef} {o : Nat} (hS : hSt n R o) {f : hMem} {j : Nat} (hj : j < 20) (s : Int32) : hCt l z m_X4_leave [.ref (z.1 + o), .ref (z.1 + (o + (3 + j))), .int s] n (putS M o f) R n none (putS M o (sLeave f j s)) R := by
  refine hs_start [some (.ref (z.1 + o)), some (.ref (z.1 + (o + (3 + j)))), some (.int s)] (by decide +kernel) rfl (by intro u hu; simp at hu; rcases hu with rfl | rfl | rfl <;> first | rfl | exact isR_cat kv_isR | exact isR_cat aref_isR) (Nat.le_of_ble_eq_true rfl) (Nat.le_refl _) (fun X hlX hN hC hQ => ?_)
  dsimp only at hC hQ
  refine gx_aload_n (i := 0) hC dX4_leave_0 rfl rfl (by first | exact Or.inr ⟨_, rfl⟩ | exact Or.inl rfl | exact kv_isR | exact aref_isR) ?_
  refine gx_aload_n (i := 1) hC dX4_leave_1 rfl rfl (by first | exact Or.inr ⟨_, rfl⟩ | exact Or.inl rfl | exact kv_isR | exact aref_isR) ?_
  refine gx_getI hC dX4_leave_2 fl_X4_118 (by first | exact hS.at | exact hS.aa | exact hS.ah | exact hS.ac (by assumption) | exact hS.ac (by omega)) (by decide) (pSj (by omega)) ?_
  refine gx_bipush (v := -6) hC dX4_leave_5 bp_m6 ?_
  refine gx_callV0 hC dX4_leave_7 (c_X4_setHolder _ _ hS _ _) kY_X4_setHolder kV_X4_setHolder ml_X4_127 (by first | exact hS.at | exact hS.aa | exact hS.ah | exact hS.ac (by assumption) | exact hS.ac (by omega)) rfl (by decide) rfl rfl rfl (by first | exact Nat.le_of_ble_eq_true rfl | (simp [Value.category, isR_cat kv_isR, isR_cat aref_isR]; done)) (Nat.le_refl _) (Nat.le_refl _) ?_
  refine gx_aload_n (i := 1) hC dX4_leave_10 rfl rfl (by first | exact Or.inr ⟨_, rfl⟩ | exact Or.inl rfl | exact kv_isR | exact aref_isR) ?_
  refine gx_iload_n (i := 2) hC dX4_leave_11 rfl rfl ?_
  refine gx_putI hC dX4_leave_12 fl_X4_92 (by first | exact hS.at | exact hS.aa | exact hS.ah | exact hS.ac (by assumption) | exact hS.ac (by omega)) fn_0_3 rfl (up_S (by omega)) ?_
  refine gx_aload_n (i := 1) hC dX4_leave_15 rfl rfl (by first | exact Or.inr ⟨_, rfl⟩ | exact Or.inl rfl | exact kv_isR | exact aref_isR) ?_
  refine gx_aload_n (i := 0) hC dX4_leave_16 rfl rfl (by first | exact Or.inr ⟨_, rfl⟩ | exact Or.inl rfl | exact kv_isR | exact aref_isR) ?_
  refine gx_getI hC dX4_leave_17 fl_X4_53 (by first | exact hS.at | exact hS.aa | exact hS.ah | exact hS.ac (by assumption) | exact hS.ac (by omega)) (by decide) (pS0.trans ((up2_off (by omega)).trans (sSetH_off (by decide)))) ?_
  refine gx_putI hC dX4_leave_20 fl_X4_176 (by first | exact hS.at | exact hS.aa | exact hS.ah | exact hS.ac (by assumption) | exact hS.ac (by omega)) fn_0_7 rfl (up_S (by omega)) ?_
  exact gx_vret hC hQ dX4_leave_23 (rfl) rfl
def sBurn (f : hMem) (j : Nat) : hMem := up2 (up2 f (3 + j) 2 (f (3 + j) 2 - aBm f (3 + j))) 0 12 (f 0 12 + aBm f (3 + j))
def sBF (f : hMem) (j : Nat) : hMem := up2 (sBurn f j) (3 + j) 5 (aFly (sBurn f j) (3 + j) (sBurn f j 0 4))
def bf (f : hMem) : Nat → hMem
  | 0 => f
  | i + 1 => match sHold (bf f i) (nI i) with
    | none => bf f i
    | some j => sBF (bf f i) j
theorem bf_none {f : hMem} {i : Nat} (h : sHold (bf f i) (nI i) = none) : bf f (i + 1) = bf f i := by rw [bf, h]
theorem bf_some {f : hMem} {i j : Nat} (h : sHold (bf f i) (nI i) = some j) : bf f (i + 1) = sBF (bf f i) j := by rw [bf, h]
theorem SWbf {f : hMem} {lv c : Nat} (h : SW f lv c) (i : Nat) : SW (bf f i) lv c := by
  induction i with
  | zero => exact h
  | succ i ih =>
    cases hh : sHold (bf f i) (nI i) with
    | none => rw [bf_none hh]; exact ih
    | some j => rw [bf_some hh]; exact ((ih.up (by omega) (by omega)).up (by omega) (by omega)).up (by omega) (by omega)
set_option maxHeartbeats 4000000 in
set_option maxRecDepth 20000 in
theorem c_X4_burnAndFly (l : Launch) (z : hZt) {n : Nat} {M : hMem} {R : hRef} {o : Nat} (hS : hSt n R o) {f : hMem} {lv c : Nat} (hW : SW f lv c) : hCt l z m_X4_burnAndFly [.ref (z.1 + o)] n (putS M o f) R n none (putS M o (bf f lv)) R := by
  refine hs_start [some (.ref (z.1 + o)), none, none] (by decide +kernel) rfl (by intro u hu; simp at hu; subst hu <;> first | rfl | exact isR_cat kv_isR | exact isR_cat aref_isR) (Nat.le_of_ble_eq_true rfl) (Nat.le_refl _) (fun X hlX hN hC hQ => ?_)
  dsimp only at hC hQ
  have hl16 := hW.l16
  refine gx_iconst (v := nI 0) hC dX4_burnAndFly_0 ic_0n ?_
  refine gx_istore_n (i := 1) (L' := [_, _, _]) hC dX4_burnAndFly_1 rfl (Nat.le_of_ble_eq_true rfl) rfl (fun u h9 => by first | exact Or.inl rfl | (right; cases h9; first | rfl | exact isR_cat aref_isR | exact isR_cat kv_isR)) ?_
  have loop_2 : ∀ (k : Nat) (i : Nat) (w : Option Value), lv - i < k → i ≤ lv → hG z n X n (putS M o (bf f i)) R 2 [some (.ref (z.1 + o)), some (.int (nI i)), w] [] := by
    intro k
    induction k with
    | zero => intros; omega
    | succ k ih =>
      intro i w hk1 hi
      refine gx_iload_n (i := 1) hC dX4_burnAndFly_2 rfl rfl ?_
      refine gx_aload_n (i := 0) hC dX4_burnAndFly_3 rfl rfl (by first | exact Or.inr ⟨_, rfl⟩ | exact Or.inl rfl | exact kv_isR | exact aref_isR) ?_
      refine gx_getI hC dX4_burnAndFly_4 fl_X4_21 (by first | exact hS.at | exact hS.aa | exact hS.ah | exact hS.ac (by assumption) | exact hS.ac (by omega)) (by decide) (pS0.trans (SWbf hW i).lv) ?_
      refine gx_icmp_ge (tgt := 47) hC dX4_burnAndFly_7 (by decide) (fun c_7 => ?_) (fun c_7 => ?_)
      · have d_7 := cle (by omega) (by omega) c_7
        exact gx_vret hC hQ dX4_burnAndFly_47 (by rw [show lv = i by omega]) rfl
      · have d_7 := cnle (by omega) (by omega) c_7
        refine gx_aload_n (i := 0) hC dX4_burnAndFly_10 rfl rfl (by first | exact Or.inr ⟨_, rfl⟩ | exact Or.inl rfl | exact kv_isR | exact aref_isR) ?_
        refine gx_iload_n (i := 1) hC dX4_burnAndFly_11 rfl rfl ?_
        refine gx_callV1 hC dX4_burnAndFly_12 (c_X4_holderOf _ _ hS _) kY_X4_holderOf kV_X4_holderOf ml_X4_78 (by first | exact hS.at | exact hS.aa | exact hS.ah | exact hS.ac (by assumption) | exact hS.ac (by omega)) rfl (by decide) rfl rfl rfl (by first | exact Nat.le_of_ble_eq_true rfl | (simp [Value.category, isR_cat kv_isR, isR_cat aref_isR]; done)) (Nat.le_refl _) (Nat.le_refl _) ?_
        refine gx_astore_n (i := 2) (L' := [_, _, _]) hC dX4_burnAndFly_15 rfl (Nat.le_of_ble_eq_true rfl) rfl (fun u h9 => by first | exact Or.inl rfl | (right; cases h9; first | rfl | exact isR_cat aref_isR | exact isR_cat kv_isR)) (by first | exact Or.inr ⟨_, rfl⟩ | exact Or.inl rfl | exact kv_isR | exact aref_isR) ?_
        refine gx_aload_n (i := 2) hC dX4_burnAndFly_16 rfl rfl (by first | exact Or.inr ⟨_, rfl⟩ | exact Or.inl rfl | exact kv_isR | exact aref_isR) ?_
        refine gx_ifnull_o (tgt := 41) hC dX4_burnAndFly_17 (by decide) (fun c_17 => ?_) (fun j_17 c_17 => ?_)
        · try simp only [c_17, aref_none]
          refine gx_iinc (i := 1) (L' := [_, _, _]) hC dX4_burnAndFly_41 rfl (ii_1 _) (Nat.le_of_ble_eq_true rfl) rfl (fun u h9 => by first | exact Or.inl rfl | (right; cases h9; first | rfl | exact isR_cat aref_isR | exact isR_cat kv_isR)) ?_
          refine gx_goto (tgt := 2) hC dX4_burnAndFly_44 (by decide) ?_
          have h9 := fun w => ih (i + 1) w (by omega) (by omega)
          first | (rw [bf_none c_17] at h9; exact h9 _) | (rw [bf_some c_17] at h9; exact h9 _)
        · have hj_17 := sHold_lt c_17
          simp only [c_17, aref_some]
          refine gx_aload_n (i := 0) hC dX4_burnAndFly_20 rfl rfl (by first | exact Or.inr ⟨_, rfl⟩ | exact Or.inl rfl | exact kv_isR | exact aref_isR) ?_
          refine gx_dup hC dX4_burnAndFly_21 (by first | rfl | exact isR_cat kv_isR | exact isR_cat aref_isR) ?_
          refine gx_getI hC dX4_burnAndFly_22 fl_X4_62 (by first | exact hS.at | exact hS.aa | exact hS.ah | exact hS.ac (by assumption) | exact hS.ac (by omega)) (by decide) (pS0) ?_
          refine gx_aload_n (i := 2) hC dX4_burnAndFly_25 rfl rfl (by first | exact Or.inr ⟨_, rfl⟩ | exact Or.inl rfl | exact kv_isR | exact aref_isR) ?_
          refine gx_callV1 hC dX4_burnAndFly_26 (d_X0_burnForMinute hS hj_17 ((SWbf hW i).kd hj_17)) kY_X0_burnForMinute kV_X0_burnForMinute ml_X4_150 (by first | exact hS.at | exact hS.aa | exact hS.ah | exact hS.ac (by assumption) | exact hS.ac (by omega)) rfl (by decide) rfl rfl rfl (by first | exact Nat.le_of_ble_eq_true rfl | (simp [Value.category, isR_cat kv_isR, isR_cat aref_isR]; done)) (Nat.le_refl _) (Nat.le_refl _) ?_
          refine gx_iadd hC dX4_burnAndFly_29 ?_
          refine gx_putI hC dX4_burnAndFly_30 fl_X4_62 (by first | exact hS.at | exact hS.aa | exact hS.ah | exact hS.ac (by assumption) | exact hS.ac (by omega)) fn_3_12 rfl (up_S0) ?_
          refine gx_aload_n (i := 2) hC dX4_burnAndFly_33 rfl rfl (by first | exact Or.inr ⟨_, rfl⟩ | exact Or.inl rfl | exact kv_isR | exact aref_isR) ?_
          refine gx_aload_n (i := 0) hC dX4_burnAndFly_34 rfl rfl (by first | exact Or.inr ⟨_, rfl⟩ | exact Or.inl rfl | exact kv_isR | exact aref_isR) ?_
          refine gx_getI hC dX4_burnAndFly_35 fl_X4_25 (by first | exact hS.at | exact hS.aa | exact hS.ah | exact hS.ac (by assumption) | exact hS.ac (by omega)) (by decide) (pS0) ?_
          refine gx_callV0 hC dX4_burnAndFly_38 (d_X0_flyMinute hS hj_17 _) kY_X0_flyMinute kV_X0_flyMinute ml_X4_153 (by first | exact hS.at | exact hS.aa | exact hS.ah | exact hS.ac (by assumption) | exact hS.ac (by omega)) rfl (by decide) rfl rfl rfl (by first | exact Nat.le_of_ble_eq_true rfl | (simp [Value.category, isR_cat kv_isR, isR_cat aref_isR]; done)) (Nat.le_refl _) (Nat.le_refl _) ?_
          refine gx_iinc (i := 1) (L' := [_, _, _]) hC dX4_burnAndFly_41 rfl (ii_1 _) (Nat.le_of_ble_eq_true rfl) rfl (fun u h9 => by first | exact Or.inl rfl | (right; cases h9; first | rfl | exact isR_cat aref_isR | exact isR_cat kv_isR)) ?_
          refine gx_goto (tgt := 2) hC dX4_burnAndFly_44 (by decide) ?_
          have h9 := fun w => ih (i + 1) w (by omega) (by omega)
          first | (rw [bf_none c_17] at h9; exact h9 _) | (rw [bf_some c_17] at h9; exact h9 _)
  exact loop_2 (lv + 1) 0 _ (by omega) (by omega)
def sDv (f : hMem) (j : Nat) : hMem := if 2 * f (3 + j) 2 < kRes (f (3 + j) 1) then up2 (sLeave f j 2) 0 14 (sLeave f j 2 0 14 + sLeave f j 2 (3 + j) 2) else f
def dv (f : hMem) : Nat → hMem
  | 0 => f
  | i + 1 => match sHold (dv f i) (nI i) with
    | none => dv f i
    | some j => sDv (dv f i) j
theorem dv_none {f : hMem} {i : Nat} (h : sHold (dv f i) (nI i) = none) : dv f (i + 1) = dv f i := by rw [dv, h]
theorem dv_some {f : hMem} {i j : Nat} (h : sHold (dv f i) (nI i) = some j) : dv f (i + 1) = sDv (dv f i) j := by rw [dv, h]
theorem SWset {f : hMem} {lv c : Nat} {x v : Int32} (h : SW f lv c) : SW (sSetH f x v) lv c := by
  unfold sSetH
  split
  · exact h.up (by omega) (by omega)
  · exact h
theorem SWleave {f : hMem} {lv c j : Nat} {s : Int32} (h : SW f lv c) : SW (sLeave f j s) lv c := ((SWset h).up (by omega) (by omega)).up (by omega) (by omega)
theorem SWdv {f : hMem} {lv c : Nat} (h : SW f lv c) (i : Nat) : SW (dv f i) lv c := by
  induction i with
  | zero => exact h
  | succ i ih =>
    cases hh : sHold (dv f i) (nI i) with
    | none => rw [dv_none hh]; exact ih
    | some j =>
      rw [dv_some hh]
      unfold sDv
      split
      · exact (SWleave ih).up (by omega) (by omega)
      · exact ih
set_option maxHeartbeats 4000000 in
set_option maxRecDepth 20000 in
theorem c_X4_divertStarved (l : Launch) (z : hZt) {n : Nat} {M : hMem} {R : hRef} {o : Nat} (hS : hSt n R o) {f : hMem} {lv c : Nat} (hW : SW f lv c) : hCt l z m_X4_divertStarved [.ref (z.1 + o)] n (putS M o f) R n none (putS M o (dv f lv)) R := by
  refine hs_start [some (.ref (z.1 + o)), none, none] (by decide +kernel) rfl (by intro u hu; simp at hu; subst hu <;> first | rfl | exact isR_cat kv_isR | exact isR_cat aref_isR) (Nat.le_of_ble_eq_true rfl) (Nat.le_refl _) (fun X hlX hN hC hQ => ?_)
  dsimp only at hC hQ
  have hl16 := hW.l16
  refine gx_iconst (v := nI 0) hC dX4_divertStarved_0 ic_0n ?_
  refine gx_istore_n (i := 1) (L' := [_, _, _]) hC dX4_divertStarved_1 rfl (Nat.le_of_ble_eq_true rfl) rfl (fun u h9 => by first | exact Or.inl rfl | (right; cases h9; first | rfl | exact isR_cat aref_isR | exact isR_cat kv_isR)) ?_
  have loop_2 : ∀ (k : Nat) (i : Nat) (w : Option Value), lv - i < k → i ≤ lv → hG z n X n (putS M o (dv f i)) R 2 [some (.ref (z.1 + o)), some (.int (nI i)), w] [] := by
    intro k
    induction k with
    | zero => intros; omega
    | succ k ih =>
      intro i w hk1 hi
      refine gx_iload_n (i := 1) hC dX4_divertStarved_2 rfl rfl ?_
      refine gx_aload_n (i := 0) hC dX4_divertStarved_3 rfl rfl (by first | exact Or.inr ⟨_, rfl⟩ | exact Or.inl rfl | exact kv_isR | exact aref_isR) ?_
      refine gx_getI hC dX4_divertStarved_4 fl_X4_21 (by first | exact hS.at | exact hS.aa | exact hS.ah | exact hS.ac (by assumption) | exact hS.ac (by omega)) (by decide) (pS0.trans (SWdv hW i).lv) ?_
      refine gx_icmp_ge (tgt := 52) hC dX4_divertStarved_7 (by decide) (fun c_7 => ?_) (fun c_7 => ?_)
      · have d_7 := cle (by omega) (by omega) c_7
        exact gx_vret hC hQ dX4_divertStarved_52 (by rw [show lv = i by omega]) rfl
      · have d_7 := cnle (by omega) (by omega) c_7
        refine gx_aload_n (i := 0) hC dX4_divertStarved_10 rfl rfl (by first | exact Or.inr ⟨_, rfl⟩ | exact Or.inl rfl | exact kv_isR | exact aref_isR) ?_
        refine gx_iload_n (i := 1) hC dX4_divertStarved_11 rfl rfl ?_
        refine gx_callV1 hC dX4_divertStarved_12 (c_X4_holderOf _ _ hS _) kY_X4_holderOf kV_X4_holderOf ml_X4_78 (by first | exact hS.at | exact hS.aa | exact hS.ah | exact hS.ac (by assumption) | exact hS.ac (by omega)) rfl (by decide) rfl rfl rfl (by first | exact Nat.le_of_ble_eq_true rfl | (simp [Value.category, isR_cat kv_isR, isR_cat aref_isR]; done)) (Nat.le_refl _) (Nat.le_refl _) ?_
        refine gx_astore_n (i := 2) (L' := [_, _, _]) hC dX4_divertStarved_15 rfl (Nat.le_of_ble_eq_true rfl) rfl (fun u h9 => by first | exact Or.inl rfl | (right; cases h9; first | rfl | exact isR_cat aref_isR | exact isR_cat kv_isR)) (by first | exact Or.inr ⟨_, rfl⟩ | exact Or.inl rfl | exact kv_isR | exact aref_isR) ?_
        refine gx_aload_n (i := 2) hC dX4_divertStarved_16 rfl rfl (by first | exact Or.inr ⟨_, rfl⟩ | exact Or.inl rfl | exact kv_isR | exact aref_isR) ?_
        refine gx_ifnull_o (tgt := 46) hC dX4_divertStarved_17 (by decide) (fun c_17 => ?_) (fun j_17 c_17 => ?_)
        · try simp only [c_17, aref_none]
          refine gx_iinc (i := 1) (L' := [_, _, _]) hC dX4_divertStarved_46 rfl (ii_1 _) (Nat.le_of_ble_eq_true rfl) rfl (fun u h9 => by first | exact Or.inl rfl | (right; cases h9; first | rfl | exact isR_cat aref_isR | exact isR_cat kv_isR)) ?_
          refine gx_goto (tgt := 2) hC dX4_divertStarved_49 (by decide) ?_
          have h9 := fun w => ih (i + 1) w (by omega) (by omega)
          first | (rw [dv_none c_17] at h9; exact h9 _) | (rw [dv_some c_17, sDv, if_pos d_24] at h9; exact h9 _) | (rw [dv_some c_17, sDv, if_neg d_24] at h9; exact h9 _)
        · have hj_17 := sHold_lt c_17
          simp only [c_17, aref_some]
          refine gx_aload_n (i := 2) hC dX4_divertStarved_20 rfl rfl (by first | exact Or.inr ⟨_, rfl⟩ | exact Or.inl rfl | exact kv_isR | exact aref_isR) ?_
          refine gx_callV1 hC dX4_divertStarved_21 (d_X0_mustDivert hS hj_17 ((SWdv hW i).kd hj_17)) kY_X0_mustDivert kV_X0_mustDivert ml_X4_156 (by first | exact hS.at | exact hS.aa | exact hS.ah | exact hS.ac (by assumption) | exact hS.ac (by omega)) rfl (by decide) rfl rfl rfl (by first | exact Nat.le_of_ble_eq_true rfl | (simp [Value.category, isR_cat kv_isR, isR_cat aref_isR]; done)) (Nat.le_refl _) (Nat.le_refl _) ?_
          refine gx_ifb_eq (tgt := 46) hC dX4_divertStarved_24 (by decide) (fun c_24 => ?_) (fun c_24 => ?_)
          · have d_24 := of_decide_eq_false c_24
            refine gx_iinc (i := 1) (L' := [_, _, _]) hC dX4_divertStarved_46 rfl (ii_1 _) (Nat.le_of_ble_eq_true rfl) rfl (fun u h9 => by first | exact Or.inl rfl | (right; cases h9; first | rfl | exact isR_cat aref_isR | exact isR_cat kv_isR)) ?_
            refine gx_goto (tgt := 2) hC dX4_divertStarved_49 (by decide) ?_
            have h9 := fun w => ih (i + 1) w (by omega) (by omega)
            first | (rw [dv_none c_17] at h9; exact h9 _) | (rw [dv_some c_17, sDv, if_pos d_24] at h9; exact h9 _) | (rw [dv_some c_17, sDv, if_neg d_24] at h9; exact h9 _)
          · have d_24 := of_decide_eq_true c_24
            refine gx_aload_n (i := 0) hC dX4_divertStarved_27 rfl rfl (by first | exact Or.inr ⟨_, rfl⟩ | exact Or.inl rfl | exact kv_isR | exact aref_isR) ?_
            refine gx_aload_n (i := 2) hC dX4_divertStarved_28 rfl rfl (by first | exact Or.inr ⟨_, rfl⟩ | exact Or.inl rfl | exact kv_isR | exact aref_isR) ?_
            refine gx_iconst (v := 2) hC dX4_divertStarved_29 ic_2 ?_
            refine gx_callV0 hC dX4_divertStarved_30 (c_X4_leave _ _ hS hj_17 _) kY_X4_leave kV_X4_leave ml_X4_159 (by first | exact hS.at | exact hS.aa | exact hS.ah | exact hS.ac (by assumption) | exact hS.ac (by omega)) rfl (by decide) rfl rfl rfl (by first | exact Nat.le_of_ble_eq_true rfl | (simp [Value.category, isR_cat kv_isR, isR_cat aref_isR]; done)) (Nat.le_refl _) (Nat.le_refl _) ?_
            refine gx_aload_n (i := 0) hC dX4_divertStarved_33 rfl rfl (by first | exact Or.inr ⟨_, rfl⟩ | exact Or.inl rfl | exact kv_isR | exact aref_isR) ?_
            refine gx_dup hC dX4_divertStarved_34 (by first | rfl | exact isR_cat kv_isR | exact isR_cat aref_isR) ?_
            refine gx_getI hC dX4_divertStarved_35 fl_X4_68 (by first | exact hS.at | exact hS.aa | exact hS.ah | exact hS.ac (by assumption) | exact hS.ac (by omega)) (by decide) (pS0) ?_
            refine gx_aload_n (i := 2) hC dX4_divertStarved_38 rfl rfl (by first | exact Or.inr ⟨_, rfl⟩ | exact Or.inl rfl | exact kv_isR | exact aref_isR) ?_
            refine gx_getI hC dX4_divertStarved_39 fl_X4_115 (by first | exact hS.at | exact hS.aa | exact hS.ah | exact hS.ac (by assumption) | exact hS.ac (by omega)) (by decide) (pSj (by omega)) ?_
            refine gx_iadd hC dX4_divertStarved_42 ?_
            refine gx_putI hC dX4_divertStarved_43 fl_X4_68 (by first | exact hS.at | exact hS.aa | exact hS.ah | exact hS.ac (by assumption) | exact hS.ac (by omega)) fn_3_14 rfl (up_S0) ?_
            refine gx_iinc (i := 1) (L' := [_, _, _]) hC dX4_divertStarved_46 rfl (ii_1 _) (Nat.le_of_ble_eq_true rfl) rfl (fun u h9 => by first | exact Or.inl rfl | (right; cases h9; first | rfl | exact isR_cat aref_isR | exact isR_cat kv_isR)) ?_
            refine gx_goto (tgt := 2) hC dX4_divertStarved_49 (by decide) ?_
            have h9 := fun w => ih (i + 1) w (by omega) (by omega)
            first | (rw [dv_none c_17] at h9; exact h9 _) | (rw [dv_some c_17, sDv, if_pos d_24] at h9; exact h9 _) | (rw [dv_some c_17, sDv, if_neg d_24] at h9; exact h9 _)
  exact loop_2 (lv + 1) 0 _ (by omega) (by omega)
def nxs (f : hMem) (q : Option Nat) (j : Nat) : Option Nat := if f (3 + j) 5 = 0 ∧ f (3 + j) 2 ≤ kRes (f (3 + j) 1) ∧ (∀ p, q = some p → f (3 + j) 2 < f (3 + p) 2) then some j else q
def nx (f : hMem) : Nat → Option Nat
  | 0 => none
  | i + 1 => match sHold f (nI i) with
    | none => nx f i
    | some j => nxs f (nx f i) j
theorem nx_none {f : hMem} {i : Nat} (h : sHold f (nI i) = none) : nx f (i + 1) = nx f i := by rw [nx, h]
theorem nx_some {f : hMem} {i j : Nat} (h : sHold f (nI i) = some j) : nx f (i + 1) = nxs f (nx f i) j := by rw [nx, h]
theorem nx_lt {f : hMem} {i p : Nat} (h : nx f i = some p) : p < 20 := by
  induction i with
  | zero => cases h
  | succ i ih =>
    cases hh : sHold f (nI i) with
    | none => rw [nx_none hh] at h; exact ih h
    | some j =>
      rw [nx_some hh] at h
      unfold nxs at h
      split at h
      · cases h; exact sHold_lt hh
      · exact ih h
theorem nsome {q : Option Nat} {P : Nat → Prop} (h : q = none) : ∀ p, q = some p → P p := fun p hp => nomatch (h.symm.trans hp)
theorem nsom2 {q : Option Nat} {P : Nat → Prop} {j : Nat} (h : q = some j) (hj : P j) : ∀ p, q = some p → P p := fun p hp => by cases h.symm.trans hp; exact hj
def sNext (f : hMem) (lv : Nat) : Option Nat := match nx f lv with
  | some j => some j
  | none => match sHold f 0 with
    | none => none
    | some j => if f (3 + j) 5 = 0 then some j else none
set_option maxHeartbeats 4000000 in
set_option maxRecDepth 20000 in
theorem c_X4_nextToLand (l : Launch) (z : hZt) {n : Nat} {M : hMem} {R : hRef} {o : Nat} (hS : hSt n R o) {f : hMem} {lv c : Nat} (hW : SW f lv c) : hCt l z m_X4_nextToLand [.ref (z.1 + o)] n (putS M o f) R n (some (aref z o (sNext f lv))) (putS M o f) R := by
  refine hs_start [some (.ref (z.1 + o)), none, none, none] (by decide +kernel) rfl (by intro u hu; simp at hu; subst hu <;> first | rfl | exact isR_cat kv_isR | exact isR_cat aref_isR) (Nat.le_of_ble_eq_true rfl) (Nat.le_refl _) (fun X hlX hN hC hQ => ?_)
  dsimp only at hC hQ
  have hl16 := hW.l16
  refine gx_aconst_null hC dX4_nextToLand_0 ?_
  refine gx_astore_n (i := 1) (L' := [_, _, _, _]) hC dX4_nextToLand_1 rfl (Nat.le_of_ble_eq_true rfl) rfl (fun u h9 => by first | exact Or.inl rfl | (right; cases h9; first | rfl | exact isR_cat aref_isR | exact isR_cat kv_isR)) (by first | exact Or.inr ⟨_, rfl⟩ | exact Or.inl rfl | exact kv_isR | exact aref_isR) ?_
  refine gx_iconst (v := nI 0) hC dX4_nextToLand_2 ic_0n ?_
  refine gx_istore_n (i := 2) (L' := [_, _, _, _]) hC dX4_nextToLand_3 rfl (Nat.le_of_ble_eq_true rfl) rfl (fun u h9 => by first | exact Or.inl rfl | (right; cases h9; first | rfl | exact isR_cat aref_isR | exact isR_cat kv_isR)) ?_
  have loop_4 : ∀ (k : Nat) (i : Nat) (w : Option Value), lv - i < k → i ≤ lv → hG z n X n (putS M o f) R 4 [some (.ref (z.1 + o)), some (aref z o (nx f i)), some (.int (nI i)), w] [] := by
    intro k
    induction k with
    | zero => intros; omega
    | succ k ih =>
      intro i w hk1 hi
      refine gx_iload_n (i := 2) hC dX4_nextToLand_4 rfl rfl ?_
      refine gx_aload_n (i := 0) hC dX4_nextToLand_5 rfl rfl (by first | exact Or.inr ⟨_, rfl⟩ | exact Or.inl rfl | exact kv_isR | exact aref_isR) ?_
      refine gx_getI hC dX4_nextToLand_6 fl_X4_21 (by first | exact hS.at | exact hS.aa | exact hS.ah | exact hS.ac (by assumption) | exact hS.ac (by omega)) (by decide) (pS0.trans hW.lv) ?_
      refine gx_icmp_ge (tgt := 59) hC dX4_nextToLand_9 (by decide) (fun c_9 => ?_) (fun c_9 => ?_)
      · obtain rfl : i = lv := by have := cle (by omega) (by omega) c_9; omega
        refine gx_aload_n (i := 1) hC dX4_nextToLand_59 rfl rfl (by first | exact Or.inr ⟨_, rfl⟩ | exact Or.inl rfl | exact kv_isR | exact aref_isR) ?_
        refine gx_ifnull_o (tgt := 65) hC dX4_nextToLand_60 (by decide) (fun c_60 => ?_) (fun j_60 c_60 => ?_)
        · try simp only [c_60, aref_none]
          refine gx_aload_n (i := 0) hC dX4_nextToLand_65 rfl rfl (by first | exact Or.inr ⟨_, rfl⟩ | exact Or.inl rfl | exact kv_isR | exact aref_isR) ?_
          refine gx_iconst (v := 0) hC dX4_nextToLand_66 ic_0 ?_
          refine gx_callV1 hC dX4_nextToLand_67 (c_X4_holderOf _ _ hS _) kY_X4_holderOf kV_X4_holderOf ml_X4_78 (by first | exact hS.at | exact hS.aa | exact hS.ah | exact hS.ac (by assumption) | exact hS.ac (by omega)) rfl (by decide) rfl rfl rfl (by first | exact Nat.le_of_ble_eq_true rfl | (simp [Value.category, isR_cat kv_isR, isR_cat aref_isR]; done)) (Nat.le_refl _) (Nat.le_refl _) ?_
          refine gx_astore_n (i := 2) (L' := [_, _, _, _]) hC dX4_nextToLand_70 rfl (Nat.le_of_ble_eq_true rfl) rfl (fun u h9 => by first | exact Or.inl rfl | (right; cases h9; first | rfl | exact isR_cat aref_isR | exact isR_cat kv_isR)) (by first | exact Or.inr ⟨_, rfl⟩ | exact Or.inl rfl | exact kv_isR | exact aref_isR) ?_
          refine gx_aload_n (i := 2) hC dX4_nextToLand_71 rfl rfl (by first | exact Or.inr ⟨_, rfl⟩ | exact Or.inl rfl | exact kv_isR | exact aref_isR) ?_
          refine gx_ifnull_o (tgt := 86) hC dX4_nextToLand_72 (by decide) (fun c_72 => ?_) (fun j_72 c_72 => ?_)
          · try simp only [c_72, aref_none]
            refine gx_aconst_null hC dX4_nextToLand_86 ?_
            exact gx_aret hC hQ dX4_nextToLand_87 (by first | exact Or.inr ⟨_, rfl⟩ | exact Or.inl rfl | exact kv_isR | exact aref_isR) (by first | (unfold sNext; rw [c_60]; rfl) | (unfold sNext; rw [c_60]; simp only; rw [c_72]; rfl) | (unfold sNext; rw [c_60]; simp only; rw [c_72]; simp only; rw [if_pos (of_decide_eq_true c_79)]; rfl) | (unfold sNext; rw [c_60]; simp only; rw [c_72]; simp only; rw [if_neg (of_decide_eq_false c_79)]; rfl)) (rfl) rfl
          · have hj_72 := sHold_lt c_72
            simp only [c_72, aref_some]
            refine gx_aload_n (i := 2) hC dX4_nextToLand_75 rfl rfl (by first | exact Or.inr ⟨_, rfl⟩ | exact Or.inl rfl | exact kv_isR | exact aref_isR) ?_
            refine gx_callV1 hC dX4_nextToLand_76 (d_X0_isOverFix hS hj_72) kY_X0_isOverFix kV_X0_isOverFix ml_X4_170 (by first | exact hS.at | exact hS.aa | exact hS.ah | exact hS.ac (by assumption) | exact hS.ac (by omega)) rfl (by decide) rfl rfl rfl (by first | exact Nat.le_of_ble_eq_true rfl | (simp [Value.category, isR_cat kv_isR, isR_cat aref_isR]; done)) (Nat.le_refl _) (Nat.le_refl _) ?_
            refine gx_ifb_eq (tgt := 86) hC dX4_nextToLand_79 (by decide) (fun c_79 => ?_) (fun c_79 => ?_)
            · refine gx_aconst_null hC dX4_nextToLand_86 ?_
              exact gx_aret hC hQ dX4_nextToLand_87 (by first | exact Or.inr ⟨_, rfl⟩ | exact Or.inl rfl | exact kv_isR | exact aref_isR) (by first | (unfold sNext; rw [c_60]; rfl) | (unfold sNext; rw [c_60]; simp only; rw [c_72]; rfl) | (unfold sNext; rw [c_60]; simp only; rw [c_72]; simp only; rw [if_pos (of_decide_eq_true c_79)]; rfl) | (unfold sNext; rw [c_60]; simp only; rw [c_72]; simp only; rw [if_neg (of_decide_eq_false c_79)]; rfl)) (rfl) rfl
            · refine gx_aload_n (i := 2) hC dX4_nextToLand_82 rfl rfl (by first | exact Or.inr ⟨_, rfl⟩ | exact Or.inl rfl | exact kv_isR | exact aref_isR) ?_
              refine gx_goto (tgt := 87) hC dX4_nextToLand_83 (by decide) ?_
              exact gx_aret hC hQ dX4_nextToLand_87 (by first | exact Or.inr ⟨_, rfl⟩ | exact Or.inl rfl | exact kv_isR | exact aref_isR) (by first | (unfold sNext; rw [c_60]; rfl) | (unfold sNext; rw [c_60]; simp only; rw [c_72]; rfl) | (unfold sNext; rw [c_60]; simp only; rw [c_72]; simp only; rw [if_pos (of_decide_eq_true c_79)]; rfl) | (unfold sNext; rw [c_60]; simp only; rw [c_72]; simp only; rw [if_neg (of_decide_eq_false c_79)]; rfl)) (rfl) rfl
        · have hp_60 := nx_lt c_60
          simp only [c_60, aref_some]
          refine gx_aload_n (i := 1) hC dX4_nextToLand_63 rfl rfl (by first | exact Or.inr ⟨_, rfl⟩ | exact Or.inl rfl | exact kv_isR | exact aref_isR) ?_
          exact gx_aret hC hQ dX4_nextToLand_64 (by first | exact Or.inr ⟨_, rfl⟩ | exact Or.inl rfl | exact kv_isR | exact aref_isR) (by first | (unfold sNext; rw [c_60]; rfl) | (unfold sNext; rw [c_60]; simp only; rw [c_72]; rfl) | (unfold sNext; rw [c_60]; simp only; rw [c_72]; simp only; rw [if_pos (of_decide_eq_true c_79)]; rfl) | (unfold sNext; rw [c_60]; simp only; rw [c_72]; simp only; rw [if_neg (of_decide_eq_false c_79)]; rfl)) (rfl) rfl
      · have d_9 := cnle (by omega) (by omega) c_9
        refine gx_aload_n (i := 0) hC dX4_nextToLand_12 rfl rfl (by first | exact Or.inr ⟨_, rfl⟩ | exact Or.inl rfl | exact kv_isR | exact aref_isR) ?_
        refine gx_iload_n (i := 2) hC dX4_nextToLand_13 rfl rfl ?_
        refine gx_callV1 hC dX4_nextToLand_14 (c_X4_holderOf _ _ hS _) kY_X4_holderOf kV_X4_holderOf ml_X4_78 (by first | exact hS.at | exact hS.aa | exact hS.ah | exact hS.ac (by assumption) | exact hS.ac (by omega)) rfl (by decide) rfl rfl rfl (by first | exact Nat.le_of_ble_eq_true rfl | (simp [Value.category, isR_cat kv_isR, isR_cat aref_isR]; done)) (Nat.le_refl _) (Nat.le_refl _) ?_
        refine gx_astore_n (i := 3) (L' := [_, _, _, _]) hC dX4_nextToLand_17 rfl (Nat.le_of_ble_eq_true rfl) rfl (fun u h9 => by first | exact Or.inl rfl | (right; cases h9; first | rfl | exact isR_cat aref_isR | exact isR_cat kv_isR)) (by first | exact Or.inr ⟨_, rfl⟩ | exact Or.inl rfl | exact kv_isR | exact aref_isR) ?_
        refine gx_aload_n (i := 3) hC dX4_nextToLand_18 rfl rfl (by first | exact Or.inr ⟨_, rfl⟩ | exact Or.inl rfl | exact kv_isR | exact aref_isR) ?_
        refine gx_ifnull_o (tgt := 53) hC dX4_nextToLand_19 (by decide) (fun c_19 => ?_) (fun j_19 c_19 => ?_)
        · try simp only [c_19, aref_none]
          refine gx_iinc (i := 2) (L' := [_, _, _, _]) hC dX4_nextToLand_53 rfl (ii_1 _) (Nat.le_of_ble_eq_true rfl) rfl (fun u h9 => by first | exact Or.inl rfl | (right; cases h9; first | rfl | exact isR_cat aref_isR | exact isR_cat kv_isR)) ?_
          refine gx_goto (tgt := 4) hC dX4_nextToLand_56 (by decide) ?_
          have h9 := fun w => ih (i + 1) w (by omega) (by omega)
          rw [nx_none c_19] at h9
          exact h9 _
        · have hj_19 := sHold_lt c_19
          simp only [c_19, aref_some]
          refine gx_aload_n (i := 3) hC dX4_nextToLand_22 rfl rfl (by first | exact Or.inr ⟨_, rfl⟩ | exact Or.inl rfl | exact kv_isR | exact aref_isR) ?_
          refine gx_callV1 hC dX4_nextToLand_23 (d_X0_isOverFix hS hj_19) kY_X0_isOverFix kV_X0_isOverFix ml_X4_170 (by first | exact hS.at | exact hS.aa | exact hS.ah | exact hS.ac (by assumption) | exact hS.ac (by omega)) rfl (by decide) rfl rfl rfl (by first | exact Nat.le_of_ble_eq_true rfl | (simp [Value.category, isR_cat kv_isR, isR_cat aref_isR]; done)) (Nat.le_refl _) (Nat.le_refl _) ?_
          refine gx_ifb_eq (tgt := 53) hC dX4_nextToLand_26 (by decide) (fun c_26 => ?_) (fun c_26 => ?_)
          · refine gx_iinc (i := 2) (L' := [_, _, _, _]) hC dX4_nextToLand_53 rfl (ii_1 _) (Nat.le_of_ble_eq_true rfl) rfl (fun u h9 => by first | exact Or.inl rfl | (right; cases h9; first | rfl | exact isR_cat aref_isR | exact isR_cat kv_isR)) ?_
            refine gx_goto (tgt := 4) hC dX4_nextToLand_56 (by decide) ?_
            have h9 := fun w => ih (i + 1) w (by omega) (by omega)
            rw [nx_some c_19] at h9
            unfold nxs at h9
            rw [if_neg (fun q => absurd q.1 (of_decide_eq_false c_26))] at h9
            exact h9 _
          · refine gx_aload_n (i := 3) hC dX4_nextToLand_29 rfl rfl (by first | exact Or.inr ⟨_, rfl⟩ | exact Or.inl rfl | exact kv_isR | exact aref_isR) ?_
            refine gx_callV1 hC dX4_nextToLand_30 (d_X0_isShort hS hj_19 (hW.kd hj_19)) kY_X0_isShort kV_X0_isShort ml_X4_173 (by first | exact hS.at | exact hS.aa | exact hS.ah | exact hS.ac (by assumption) | exact hS.ac (by omega)) rfl (by decide) rfl rfl rfl (by first | exact Nat.le_of_ble_eq_true rfl | (simp [Value.category, isR_cat kv_isR, isR_cat aref_isR]; done)) (Nat.le_refl _) (Nat.le_refl _) ?_
            refine gx_ifb_eq (tgt := 53) hC dX4_nextToLand_33 (by decide) (fun c_33 => ?_) (fun c_33 => ?_)
            · refine gx_iinc (i := 2) (L' := [_, _, _, _]) hC dX4_nextToLand_53 rfl (ii_1 _) (Nat.le_of_ble_eq_true rfl) rfl (fun u h9 => by first | exact Or.inl rfl | (right; cases h9; first | rfl | exact isR_cat aref_isR | exact isR_cat kv_isR)) ?_
              refine gx_goto (tgt := 4) hC dX4_nextToLand_56 (by decide) ?_
              have h9 := fun w => ih (i + 1) w (by omega) (by omega)
              rw [nx_some c_19] at h9
              unfold nxs at h9
              rw [if_neg (fun q => absurd q.2.1 (of_decide_eq_false c_33))] at h9
              exact h9 _
            · refine gx_aload_n (i := 1) hC dX4_nextToLand_36 rfl rfl (by first | exact Or.inr ⟨_, rfl⟩ | exact Or.inl rfl | exact kv_isR | exact aref_isR) ?_
              refine gx_ifnull_o (tgt := 51) hC dX4_nextToLand_37 (by decide) (fun c_37 => ?_) (fun j_37 c_37 => ?_)
              · refine gx_aload_n (i := 3) hC dX4_nextToLand_51 rfl rfl (by first | exact Or.inr ⟨_, rfl⟩ | exact Or.inl rfl | exact kv_isR | exact aref_isR) ?_
                refine gx_astore_n (i := 1) (L' := [_, _, _, _]) hC dX4_nextToLand_52 rfl (Nat.le_of_ble_eq_true rfl) rfl (fun u h9 => by first | exact Or.inl rfl | (right; cases h9; first | rfl | exact isR_cat aref_isR | exact isR_cat kv_isR)) (by first | exact Or.inr ⟨_, rfl⟩ | exact Or.inl rfl | exact kv_isR | exact aref_isR) ?_
                refine gx_iinc (i := 2) (L' := [_, _, _, _]) hC dX4_nextToLand_53 rfl (ii_1 _) (Nat.le_of_ble_eq_true rfl) rfl (fun u h9 => by first | exact Or.inl rfl | (right; cases h9; first | rfl | exact isR_cat aref_isR | exact isR_cat kv_isR)) ?_
                refine gx_goto (tgt := 4) hC dX4_nextToLand_56 (by decide) ?_
                have h9 := fun w => ih (i + 1) w (by omega) (by omega)
                rw [nx_some c_19] at h9
                unfold nxs at h9
                rw [if_pos ⟨of_decide_eq_true c_26, of_decide_eq_true c_33, nsome c_37⟩] at h9
                exact h9 _
              · have hp_37 := nx_lt c_37
                simp only [c_37, aref_some]
                refine gx_aload_n (i := 3) hC dX4_nextToLand_40 rfl rfl (by first | exact Or.inr ⟨_, rfl⟩ | exact Or.inl rfl | exact kv_isR | exact aref_isR) ?_
                refine gx_getI hC dX4_nextToLand_41 fl_X4_115 (by first | exact hS.at | exact hS.aa | exact hS.ah | exact hS.ac (by assumption) | exact hS.ac (by omega)) (by decide) (pSj (by omega)) ?_
                refine gx_aload_n (i := 1) hC dX4_nextToLand_44 rfl rfl (by first | exact Or.inr ⟨_, rfl⟩ | exact Or.inl rfl | exact kv_isR | exact aref_isR) ?_
                refine gx_getI hC dX4_nextToLand_45 fl_X4_115 (by first | exact hS.at | exact hS.aa | exact hS.ah | exact hS.ac (by assumption) | exact hS.ac (by omega)) (by decide) (pSj (by omega)) ?_
                refine gx_icmp_ge (tgt := 53) hC dX4_nextToLand_48 (by decide) (fun c_48 => ?_) (fun c_48 => ?_)
                · refine gx_iinc (i := 2) (L' := [_, _, _, _]) hC dX4_nextToLand_53 rfl (ii_1 _) (Nat.le_of_ble_eq_true rfl) rfl (fun u h9 => by first | exact Or.inl rfl | (right; cases h9; first | rfl | exact isR_cat aref_isR | exact isR_cat kv_isR)) ?_
                  refine gx_goto (tgt := 4) hC dX4_nextToLand_56 (by decide) ?_
                  have h9 := fun w => ih (i + 1) w (by omega) (by omega)
                  rw [nx_some c_19] at h9
                  unfold nxs at h9
                  rw [if_neg (fun q => absurd (q.2.2 _ c_37) (Int32.not_lt.mpr c_48)), c_37] at h9
                  exact h9 _
                · refine gx_aload_n (i := 3) hC dX4_nextToLand_51 rfl rfl (by first | exact Or.inr ⟨_, rfl⟩ | exact Or.inl rfl | exact kv_isR | exact aref_isR) ?_
                  refine gx_astore_n (i := 1) (L' := [_, _, _, _]) hC dX4_nextToLand_52 rfl (Nat.le_of_ble_eq_true rfl) rfl (fun u h9 => by first | exact Or.inl rfl | (right; cases h9; first | rfl | exact isR_cat aref_isR | exact isR_cat kv_isR)) (by first | exact Or.inr ⟨_, rfl⟩ | exact Or.inl rfl | exact kv_isR | exact aref_isR) ?_
                  refine gx_iinc (i := 2) (L' := [_, _, _, _]) hC dX4_nextToLand_53 rfl (ii_1 _) (Nat.le_of_ble_eq_true rfl) rfl (fun u h9 => by first | exact Or.inl rfl | (right; cases h9; first | rfl | exact isR_cat aref_isR | exact isR_cat kv_isR)) ?_
                  refine gx_goto (tgt := 4) hC dX4_nextToLand_56 (by decide) ?_
                  have h9 := fun w => ih (i + 1) w (by omega) (by omega)
                  rw [nx_some c_19] at h9
                  unfold nxs at h9
                  rw [if_pos ⟨of_decide_eq_true c_26, of_decide_eq_true c_33, nsom2 c_37 (Int32.not_le.mp c_48)⟩] at h9
                  exact h9 _
  exact loop_4 (lv + 1) 0 _ (by omega) (by omega)
def sDown (f : hMem) (j i : Nat) : hMem := up2 (up2 (up2 (sSetH (sSetH f (nI (i + 1)) (-6)) (nI i) (nI j)) (3 + j) 4 (nI i)) (3 + j) 6 0) 0 10 (f 0 10 + 1)
def gds (f : hMem) (j i : Nat) : hMem := if f (3 + j) 5 = 0 ∧ bFree f (nI i) = true ∧ (¬ f 0 7 = 0 ∨ ¬ f (3 + j) 6 = 0) then sDown f j i else f
def gd (f : hMem) : Nat → hMem
  | 0 => f
  | i + 1 => match sHold (gd f i) (nI (i + 1)) with
    | none => gd f i
    | some j => gds (gd f i) j i
theorem gd_none {f : hMem} {i : Nat} (h : sHold (gd f i) (nI (i + 1)) = none) : gd f (i + 1) = gd f i := by rw [gd, h]
theorem gd_some {f : hMem} {i j : Nat} (h : sHold (gd f i) (nI (i + 1)) = some j) : gd f (i + 1) = gds (gd f i) j i := by rw [gd, h]
theorem SWdown {f : hMem} {lv c j i : Nat} (h : SW f lv c) : SW (sDown f j i) lv c := (((SWset (SWset h)).up (by omega) (by omega)).up (by omega) (by omega)).up (by omega) (by omega)
theorem SWgd {f : hMem} {lv c : Nat} (h : SW f lv c) (i : Nat) : SW (gd f i) lv c := by
  induction i with
  | zero => exact h
  | succ i ih =>
    cases hh : sHold (gd f i) (nI (i + 1)) with
    | none => rw [gd_none hh]; exact ih
    | some j =>
      rw [gd_some hh]
      unfold gds
      split
      · exact SWdown ih
      · exact ih
theorem nI_p1 (i : Nat) : nI (i + 1) - 1 = nI i := nI_pred i
set_option maxHeartbeats 4000000 in
set_option maxRecDepth 20000 in
theorem c_X4_goDownLadder (l : Launch) (z : hZt) {n : Nat} {M : hMem} {R : hRef} {o : Nat} (hS : hSt n R o) {f : hMem} {lv c : Nat} (hW : SW f lv c) : hCt l z m_X4_goDownLadder [.ref (z.1 + o)] n (putS M o f) R n none (putS M o (gd f (lv - 1))) R := by
  refine hs_start [some (.ref (z.1 + o)), none, none] (by decide +kernel) rfl (by intro u hu; simp at hu; subst hu <;> first | rfl | exact isR_cat kv_isR | exact isR_cat aref_isR) (Nat.le_of_ble_eq_true rfl) (Nat.le_refl _) (fun X hlX hN hC hQ => ?_)
  dsimp only at hC hQ
  have hl16 := hW.l16
  refine gx_iconst (v := nI 1) hC dX4_goDownLadder_0 ic_1n ?_
  refine gx_istore_n (i := 1) (L' := [_, _, _]) hC dX4_goDownLadder_1 rfl (Nat.le_of_ble_eq_true rfl) rfl (fun u h9 => by first | exact Or.inl rfl | (right; cases h9; first | rfl | exact isR_cat aref_isR | exact isR_cat kv_isR)) ?_
  have loop_2 : ∀ (k : Nat) (i : Nat) (w : Option Value), lv - i < k → (i = 0 ∨ i + 1 ≤ lv) → hG z n X n (putS M o (gd f i)) R 2 [some (.ref (z.1 + o)), some (.int (nI (i + 1))), w] [] := by
    intro k
    induction k with
    | zero => intros; omega
    | succ k ih =>
      intro i w hk1 hi
      refine gx_iload_n (i := 1) hC dX4_goDownLadder_2 rfl rfl ?_
      refine gx_aload_n (i := 0) hC dX4_goDownLadder_3 rfl rfl (by first | exact Or.inr ⟨_, rfl⟩ | exact Or.inl rfl | exact kv_isR | exact aref_isR) ?_
      refine gx_getI hC dX4_goDownLadder_4 fl_X4_21 (by first | exact hS.at | exact hS.aa | exact hS.ah | exact hS.ac (by assumption) | exact hS.ac (by omega)) (by decide) (pS0.trans (SWgd hW i).lv) ?_
      refine gx_icmp_ge (tgt := 97) hC dX4_goDownLadder_7 (by decide) (fun c_7 => ?_) (fun c_7 => ?_)
      · have d_7 := cle (by omega) (by omega) c_7
        exact gx_vret hC hQ dX4_goDownLadder_97 (by rw [show lv - 1 = i by omega]) rfl
      · have d_7 := cnle (by omega) (by omega) c_7
        refine gx_aload_n (i := 0) hC dX4_goDownLadder_10 rfl rfl (by first | exact Or.inr ⟨_, rfl⟩ | exact Or.inl rfl | exact kv_isR | exact aref_isR) ?_
        refine gx_iload_n (i := 1) hC dX4_goDownLadder_11 rfl rfl ?_
        refine gx_callV1 hC dX4_goDownLadder_12 (c_X4_holderOf _ _ hS _) kY_X4_holderOf kV_X4_holderOf ml_X4_78 (by first | exact hS.at | exact hS.aa | exact hS.ah | exact hS.ac (by assumption) | exact hS.ac (by omega)) rfl (by decide) rfl rfl rfl (by first | exact Nat.le_of_ble_eq_true rfl | (simp [Value.category, isR_cat kv_isR, isR_cat aref_isR]; done)) (Nat.le_refl _) (Nat.le_refl _) ?_
        refine gx_astore_n (i := 2) (L' := [_, _, _]) hC dX4_goDownLadder_15 rfl (Nat.le_of_ble_eq_true rfl) rfl (fun u h9 => by first | exact Or.inl rfl | (right; cases h9; first | rfl | exact isR_cat aref_isR | exact isR_cat kv_isR)) (by first | exact Or.inr ⟨_, rfl⟩ | exact Or.inl rfl | exact kv_isR | exact aref_isR) ?_
        refine gx_aload_n (i := 2) hC dX4_goDownLadder_16 rfl rfl (by first | exact Or.inr ⟨_, rfl⟩ | exact Or.inl rfl | exact kv_isR | exact aref_isR) ?_
        refine gx_ifnull_o (tgt := 91) hC dX4_goDownLadder_17 (by decide) (fun c_17 => ?_) (fun j_17 c_17 => ?_)
        · try simp only [c_17, aref_none]
          refine gx_iinc (i := 1) (L' := [_, _, _]) hC dX4_goDownLadder_91 rfl (ii_1 _) (Nat.le_of_ble_eq_true rfl) rfl (fun u h9 => by first | exact Or.inl rfl | (right; cases h9; first | rfl | exact isR_cat aref_isR | exact isR_cat kv_isR)) ?_
          refine gx_goto (tgt := 2) hC dX4_goDownLadder_94 (by decide) ?_
          have h9 := fun w => ih (i + 1) w (by omega) (by omega)
          rw [gd_none c_17] at h9
          exact h9 _
        · have hj_17 := sHold_lt c_17
          simp only [c_17, aref_some]
          refine gx_aload_n (i := 2) hC dX4_goDownLadder_20 rfl rfl (by first | exact Or.inr ⟨_, rfl⟩ | exact Or.inl rfl | exact kv_isR | exact aref_isR) ?_
          refine gx_callV1 hC dX4_goDownLadder_21 (d_X0_isOverFix hS hj_17) kY_X0_isOverFix kV_X0_isOverFix ml_X4_170 (by first | exact hS.at | exact hS.aa | exact hS.ah | exact hS.ac (by assumption) | exact hS.ac (by omega)) rfl (by decide) rfl rfl rfl (by first | exact Nat.le_of_ble_eq_true rfl | (simp [Value.category, isR_cat kv_isR, isR_cat aref_isR]; done)) (Nat.le_refl _) (Nat.le_refl _) ?_
          refine gx_ifb_eq (tgt := 91) hC dX4_goDownLadder_24 (by decide) (fun c_24 => ?_) (fun c_24 => ?_)
          · refine gx_iinc (i := 1) (L' := [_, _, _]) hC dX4_goDownLadder_91 rfl (ii_1 _) (Nat.le_of_ble_eq_true rfl) rfl (fun u h9 => by first | exact Or.inl rfl | (right; cases h9; first | rfl | exact isR_cat aref_isR | exact isR_cat kv_isR)) ?_
            refine gx_goto (tgt := 2) hC dX4_goDownLadder_94 (by decide) ?_
            have h9 := fun w => ih (i + 1) w (by omega) (by omega)
            rw [gd_some c_17] at h9
            unfold gds at h9
            rw [if_neg (fun q => absurd q.1 (of_decide_eq_false c_24))] at h9
            exact h9 _
          · refine gx_aload_n (i := 0) hC dX4_goDownLadder_27 rfl rfl (by first | exact Or.inr ⟨_, rfl⟩ | exact Or.inl rfl | exact kv_isR | exact aref_isR) ?_
            refine gx_iload_n (i := 1) hC dX4_goDownLadder_28 rfl rfl ?_
            refine gx_iconst (v := 1) hC dX4_goDownLadder_29 ic_1 ?_
            refine gx_isub hC dX4_goDownLadder_30 ?_
            rw [nI_p1]
            refine gx_callV1 hC dX4_goDownLadder_31 (c_X4_isFree _ _ hS _) kY_X4_isFree kV_X4_isFree ml_X4_95 (by first | exact hS.at | exact hS.aa | exact hS.ah | exact hS.ac (by assumption) | exact hS.ac (by omega)) rfl (by decide) rfl rfl rfl (by first | exact Nat.le_of_ble_eq_true rfl | (simp [Value.category, isR_cat kv_isR, isR_cat aref_isR]; done)) (Nat.le_refl _) (Nat.le_refl _) ?_
            refine gx_ifb_eq (tgt := 91) hC dX4_goDownLadder_34 (by decide) (fun c_34 => ?_) (fun c_34 => ?_)
            · refine gx_iinc (i := 1) (L' := [_, _, _]) hC dX4_goDownLadder_91 rfl (ii_1 _) (Nat.le_of_ble_eq_true rfl) rfl (fun u h9 => by first | exact Or.inl rfl | (right; cases h9; first | rfl | exact isR_cat aref_isR | exact isR_cat kv_isR)) ?_
              refine gx_goto (tgt := 2) hC dX4_goDownLadder_94 (by decide) ?_
              have h9 := fun w => ih (i + 1) w (by omega) (by omega)
              rw [gd_some c_17] at h9
              unfold gds at h9
              rw [if_neg (fun q => absurd (c_34.symm.trans q.2.1) (by decide))] at h9
              exact h9 _
            · refine gx_aload_n (i := 0) hC dX4_goDownLadder_37 rfl rfl (by first | exact Or.inr ⟨_, rfl⟩ | exact Or.inl rfl | exact kv_isR | exact aref_isR) ?_
              refine gx_getZ hC dX4_goDownLadder_38 fl_X4_35 (by first | exact hS.at | exact hS.aa | exact hS.ah | exact hS.ac (by assumption) | exact hS.ac (by omega)) rfl (pS0) (fun hz_38 => ?_)
              refine gx_if_ne (tgt := 51) hC dX4_goDownLadder_41 (by decide) (fun c_41 => ?_) (fun c_41 => ?_)
              · refine gx_aload_n (i := 0) hC dX4_goDownLadder_51 rfl rfl (by first | exact Or.inr ⟨_, rfl⟩ | exact Or.inl rfl | exact kv_isR | exact aref_isR) ?_
                refine gx_iload_n (i := 1) hC dX4_goDownLadder_52 rfl rfl ?_
                refine gx_bipush (v := -6) hC dX4_goDownLadder_53 bp_m6 ?_
                refine gx_callV0 hC dX4_goDownLadder_55 (c_X4_setHolder _ _ hS _ _) kY_X4_setHolder kV_X4_setHolder ml_X4_127 (by first | exact hS.at | exact hS.aa | exact hS.ah | exact hS.ac (by assumption) | exact hS.ac (by omega)) rfl (by decide) rfl rfl rfl (by first | exact Nat.le_of_ble_eq_true rfl | (simp [Value.category, isR_cat kv_isR, isR_cat aref_isR]; done)) (Nat.le_refl _) (Nat.le_refl _) ?_
                refine gx_aload_n (i := 0) hC dX4_goDownLadder_58 rfl rfl (by first | exact Or.inr ⟨_, rfl⟩ | exact Or.inl rfl | exact kv_isR | exact aref_isR) ?_
                refine gx_iload_n (i := 1) hC dX4_goDownLadder_59 rfl rfl ?_
                refine gx_iconst (v := 1) hC dX4_goDownLadder_60 ic_1 ?_
                refine gx_isub hC dX4_goDownLadder_61 ?_
                rw [nI_p1]
                refine gx_aload_n (i := 2) hC dX4_goDownLadder_62 rfl rfl (by first | exact Or.inr ⟨_, rfl⟩ | exact Or.inl rfl | exact kv_isR | exact aref_isR) ?_
                refine gx_getI hC dX4_goDownLadder_63 fl_X4_124 (by first | exact hS.at | exact hS.aa | exact hS.ah | exact hS.ac (by assumption) | exact hS.ac (by omega)) (by decide) ((pSj (by omega)).trans (show _ = nI j_17 from ((sSetH_off (show 3 + j_17 ≠ 2 by omega)).trans ((SWgd hW i).nu hj_17)))) ?_
                refine gx_callV0 hC dX4_goDownLadder_66 (c_X4_setHolder _ _ hS _ _) kY_X4_setHolder kV_X4_setHolder ml_X4_127 (by first | exact hS.at | exact hS.aa | exact hS.ah | exact hS.ac (by assumption) | exact hS.ac (by omega)) rfl (by decide) rfl rfl rfl (by first | exact Nat.le_of_ble_eq_true rfl | (simp [Value.category, isR_cat kv_isR, isR_cat aref_isR]; done)) (Nat.le_refl _) (Nat.le_refl _) ?_
                refine gx_aload_n (i := 2) hC dX4_goDownLadder_69 rfl rfl (by first | exact Or.inr ⟨_, rfl⟩ | exact Or.inl rfl | exact kv_isR | exact aref_isR) ?_
                refine gx_iload_n (i := 1) hC dX4_goDownLadder_70 rfl rfl ?_
                refine gx_iconst (v := 1) hC dX4_goDownLadder_71 ic_1 ?_
                refine gx_isub hC dX4_goDownLadder_72 ?_
                rw [nI_p1]
                refine gx_putI hC dX4_goDownLadder_73 fl_X4_118 (by first | exact hS.at | exact hS.aa | exact hS.ah | exact hS.ac (by assumption) | exact hS.ac (by omega)) fn_0_4 rfl (up_S (by omega)) ?_
                refine gx_aload_n (i := 2) hC dX4_goDownLadder_76 rfl rfl (by first | exact Or.inr ⟨_, rfl⟩ | exact Or.inl rfl | exact kv_isR | exact aref_isR) ?_
                refine gx_iconst (v := 0) hC dX4_goDownLadder_77 ic_0 ?_
                refine gx_putZ hC dX4_goDownLadder_78 fl_X4_121 (by first | exact hS.at | exact hS.aa | exact hS.ah | exact hS.ac (by assumption) | exact hS.ac (by omega)) fn_0_6 rfl (by first | exact Or.inl rfl | exact Or.inr rfl | exact b2_bit _ | assumption) (up_S (by omega)) ?_
                refine gx_aload_n (i := 0) hC dX4_goDownLadder_81 rfl rfl (by first | exact Or.inr ⟨_, rfl⟩ | exact Or.inl rfl | exact kv_isR | exact aref_isR) ?_
                refine gx_dup hC dX4_goDownLadder_82 (by first | rfl | exact isR_cat kv_isR | exact isR_cat aref_isR) ?_
                refine gx_getI hC dX4_goDownLadder_83 fl_X4_56 (by first | exact hS.at | exact hS.aa | exact hS.ah | exact hS.ac (by assumption) | exact hS.ac (by omega)) (by decide) (pS0.trans ((up2_off (by omega)).trans ((up2_off (by omega)).trans ((sSetH_off (by decide)).trans (sSetH_off (by decide)))))) ?_
                refine gx_iconst (v := 1) hC dX4_goDownLadder_86 ic_1 ?_
                refine gx_iadd hC dX4_goDownLadder_87 ?_
                refine gx_putI hC dX4_goDownLadder_88 fl_X4_56 (by first | exact hS.at | exact hS.aa | exact hS.ah | exact hS.ac (by assumption) | exact hS.ac (by omega)) fn_3_10 rfl (up_S0) ?_
                refine gx_iinc (i := 1) (L' := [_, _, _]) hC dX4_goDownLadder_91 rfl (ii_1 _) (Nat.le_of_ble_eq_true rfl) rfl (fun u h9 => by first | exact Or.inl rfl | (right; cases h9; first | rfl | exact isR_cat aref_isR | exact isR_cat kv_isR)) ?_
                refine gx_goto (tgt := 2) hC dX4_goDownLadder_94 (by decide) ?_
                have h9 := fun w => ih (i + 1) w (by omega) (by omega)
                rw [gd_some c_17] at h9
                unfold gds at h9
                rw [if_pos ⟨of_decide_eq_true c_24, c_34, Or.inl c_41⟩] at h9
                exact h9 _
              · refine gx_aload_n (i := 2) hC dX4_goDownLadder_44 rfl rfl (by first | exact Or.inr ⟨_, rfl⟩ | exact Or.inl rfl | exact kv_isR | exact aref_isR) ?_
                refine gx_getZ hC dX4_goDownLadder_45 fl_X4_121 (by first | exact hS.at | exact hS.aa | exact hS.ah | exact hS.ac (by assumption) | exact hS.ac (by omega)) rfl (pSj (by omega)) (fun hz_45 => ?_)
                refine gx_if_eq (tgt := 91) hC dX4_goDownLadder_48 (by decide) (fun c_48 => ?_) (fun c_48 => ?_)
                · refine gx_iinc (i := 1) (L' := [_, _, _]) hC dX4_goDownLadder_91 rfl (ii_1 _) (Nat.le_of_ble_eq_true rfl) rfl (fun u h9 => by first | exact Or.inl rfl | (right; cases h9; first | rfl | exact isR_cat aref_isR | exact isR_cat kv_isR)) ?_
                  refine gx_goto (tgt := 2) hC dX4_goDownLadder_94 (by decide) ?_
                  have h9 := fun w => ih (i + 1) w (by omega) (by omega)
                  rw [gd_some c_17] at h9
                  unfold gds at h9
                  rw [if_neg (fun q => q.2.2.elim (fun r => r c_41) (fun r => r c_48))] at h9
                  exact h9 _
                · refine gx_aload_n (i := 0) hC dX4_goDownLadder_51 rfl rfl (by first | exact Or.inr ⟨_, rfl⟩ | exact Or.inl rfl | exact kv_isR | exact aref_isR) ?_
                  refine gx_iload_n (i := 1) hC dX4_goDownLadder_52 rfl rfl ?_
                  refine gx_bipush (v := -6) hC dX4_goDownLadder_53 bp_m6 ?_
                  refine gx_callV0 hC dX4_goDownLadder_55 (c_X4_setHolder _ _ hS _ _) kY_X4_setHolder kV_X4_setHolder ml_X4_127 (by first | exact hS.at | exact hS.aa | exact hS.ah | exact hS.ac (by assumption) | exact hS.ac (by omega)) rfl (by decide) rfl rfl rfl (by first | exact Nat.le_of_ble_eq_true rfl | (simp [Value.category, isR_cat kv_isR, isR_cat aref_isR]; done)) (Nat.le_refl _) (Nat.le_refl _) ?_
                  refine gx_aload_n (i := 0) hC dX4_goDownLadder_58 rfl rfl (by first | exact Or.inr ⟨_, rfl⟩ | exact Or.inl rfl | exact kv_isR | exact aref_isR) ?_
                  refine gx_iload_n (i := 1) hC dX4_goDownLadder_59 rfl rfl ?_
                  refine gx_iconst (v := 1) hC dX4_goDownLadder_60 ic_1 ?_
                  refine gx_isub hC dX4_goDownLadder_61 ?_
                  rw [nI_p1]
                  refine gx_aload_n (i := 2) hC dX4_goDownLadder_62 rfl rfl (by first | exact Or.inr ⟨_, rfl⟩ | exact Or.inl rfl | exact kv_isR | exact aref_isR) ?_
                  refine gx_getI hC dX4_goDownLadder_63 fl_X4_124 (by first | exact hS.at | exact hS.aa | exact hS.ah | exact hS.ac (by assumption) | exact hS.ac (by omega)) (by decide) ((pSj (by omega)).trans (show _ = nI j_17 from ((sSetH_off (show 3 + j_17 ≠ 2 by omega)).trans ((SWgd hW i).nu hj_17)))) ?_
                  refine gx_callV0 hC dX4_goDownLadder_66 (c_X4_setHolder _ _ hS _ _) kY_X4_setHolder kV_X4_setHolder ml_X4_127 (by first | exact hS.at | exact hS.aa | exact hS.ah | exact hS.ac (by assumption) | exact hS.ac (by omega)) rfl (by decide) rfl rfl rfl (by first | exact Nat.le_of_ble_eq_true rfl | (simp [Value.category, isR_cat kv_isR, isR_cat aref_isR]; done)) (Nat.le_refl _) (Nat.le_refl _) ?_
                  refine gx_aload_n (i := 2) hC dX4_goDownLadder_69 rfl rfl (by first | exact Or.inr ⟨_, rfl⟩ | exact Or.inl rfl | exact kv_isR | exact aref_isR) ?_
                  refine gx_iload_n (i := 1) hC dX4_goDownLadder_70 rfl rfl ?_
                  refine gx_iconst (v := 1) hC dX4_goDownLadder_71 ic_1 ?_
                  refine gx_isub hC dX4_goDownLadder_72 ?_
                  rw [nI_p1]
                  refine gx_putI hC dX4_goDownLadder_73 fl_X4_118 (by first | exact hS.at | exact hS.aa | exact hS.ah | exact hS.ac (by assumption) | exact hS.ac (by omega)) fn_0_4 rfl (up_S (by omega)) ?_
                  refine gx_aload_n (i := 2) hC dX4_goDownLadder_76 rfl rfl (by first | exact Or.inr ⟨_, rfl⟩ | exact Or.inl rfl | exact kv_isR | exact aref_isR) ?_
                  refine gx_iconst (v := 0) hC dX4_goDownLadder_77 ic_0 ?_
                  refine gx_putZ hC dX4_goDownLadder_78 fl_X4_121 (by first | exact hS.at | exact hS.aa | exact hS.ah | exact hS.ac (by assumption) | exact hS.ac (by omega)) fn_0_6 rfl (by first | exact Or.inl rfl | exact Or.inr rfl | exact b2_bit _ | assumption) (up_S (by omega)) ?_
                  refine gx_aload_n (i := 0) hC dX4_goDownLadder_81 rfl rfl (by first | exact Or.inr ⟨_, rfl⟩ | exact Or.inl rfl | exact kv_isR | exact aref_isR) ?_
                  refine gx_dup hC dX4_goDownLadder_82 (by first | rfl | exact isR_cat kv_isR | exact isR_cat aref_isR) ?_
                  refine gx_getI hC dX4_goDownLadder_83 fl_X4_56 (by first | exact hS.at | exact hS.aa | exact hS.ah | exact hS.ac (by assumption) | exact hS.ac (by omega)) (by decide) (pS0.trans ((up2_off (by omega)).trans ((up2_off (by omega)).trans ((sSetH_off (by decide)).trans (sSetH_off (by decide)))))) ?_
                  refine gx_iconst (v := 1) hC dX4_goDownLadder_86 ic_1 ?_
                  refine gx_iadd hC dX4_goDownLadder_87 ?_
                  refine gx_putI hC dX4_goDownLadder_88 fl_X4_56 (by first | exact hS.at | exact hS.aa | exact hS.ah | exact hS.ac (by assumption) | exact hS.ac (by omega)) fn_3_10 rfl (up_S0) ?_
                  refine gx_iinc (i := 1) (L' := [_, _, _]) hC dX4_goDownLadder_91 rfl (ii_1 _) (Nat.le_of_ble_eq_true rfl) rfl (fun u h9 => by first | exact Or.inl rfl | (right; cases h9; first | rfl | exact isR_cat aref_isR | exact isR_cat kv_isR)) ?_
                  refine gx_goto (tgt := 2) hC dX4_goDownLadder_94 (by decide) ?_
                  have h9 := fun w => ih (i + 1) w (by omega) (by omega)
                  rw [gd_some c_17] at h9
                  unfold gds at h9
                  rw [if_pos ⟨of_decide_eq_true c_24, c_34, Or.inr c_48⟩] at h9
                  exact h9 _
  exact loop_2 (lv + 1) 0 _ (by omega) (by omega)
def sWait (f : hMem) : hMem := if 0 < f 0 8 then up2 f 0 8 (f 0 8 - 1) else f
def sLd (f : hMem) (j : Nat) : hMem := up2 (up2 (sLeave f j 1) 0 13 (sLeave f j 1 0 13 + sLeave f j 1 (3 + j) 2)) 0 8 (kWake (sLeave f j 1 (3 + j) 1))
def sLnd (f : hMem) (lv : Nat) : Int32 × hMem := if f 0 6 = 0 ∨ 0 < f 0 8 then (-6, f) else match sNext f lv with
  | none => (-6, f)
  | some j => (nI j, sLd f j)
def sLand (f : hMem) (lv : Nat) : Int32 × hMem := sLnd (sWait f) lv
theorem SWwait {f : hMem} {lv c : Nat} (h : SW f lv c) : SW (sWait f) lv c := by
  unfold sWait
  split
  · exact h.up (by omega) (by omega)
  · exact h
theorem sNext_lt {f : hMem} {lv j : Nat} (h : sNext f lv = some j) : j < 20 := by
  unfold sNext at h
  split at h
  · next hh => cases h; exact nx_lt hh
  · split at h
    · cases h
    · next hh =>
      split at h
      · cases h; exact sHold_lt hh
      · cases h
theorem SWld {f : hMem} {lv c j : Nat} (h : SW f lv c) : SW (sLd f j) lv c := ((SWleave h).up (by omega) (by omega)).up (by omega) (by omega)
theorem SWland {f : hMem} {lv c : Nat} (h : SW f lv c) : SW (sLand f lv).2 lv c := by
  unfold sLand sLnd
  split
  · exact SWwait h
  · split
    · exact SWwait h
    · exact SWld (SWwait h)
set_option maxHeartbeats 4000000 in
set_option maxRecDepth 20000 in
theorem c_X4_landOne (l : Launch) (z : hZt) {n : Nat} {M : hMem} {R : hRef} {o : Nat} (hS : hSt n R o) {f : hMem} {lv c : Nat} (hW : SW f lv c) : hCt l z m_X4_landOne [.ref (z.1 + o)] n (putS M o f) R n (some (.int (sLand f lv).1)) (putS M o (sLand f lv).2) R := by
  refine hs_start [some (.ref (z.1 + o)), none] (by decide +kernel) rfl (by intro u hu; simp at hu; subst hu <;> first | rfl | exact isR_cat kv_isR | exact isR_cat aref_isR) (Nat.le_of_ble_eq_true rfl) (Nat.le_refl _) (fun X hlX hN hC hQ => ?_)
  dsimp only at hC hQ
  have hl16 := hW.l16
  have join : ∀ (g : hMem), sWait f = g → SW g lv c → hG z n X n (putS M o g) R 17 [some (.ref (z.1 + o)), none] [] := by
    intro g hg hWg
    refine gx_aload_n (i := 0) hC dX4_landOne_17 rfl rfl (by first | exact Or.inr ⟨_, rfl⟩ | exact Or.inl rfl | exact kv_isR | exact aref_isR) ?_
    refine gx_getZ hC dX4_landOne_18 fl_X4_31 (by first | exact hS.at | exact hS.aa | exact hS.ah | exact hS.ac (by assumption) | exact hS.ac (by omega)) rfl (pS0) (fun hz_18 => ?_)
    refine gx_if_eq (tgt := 31) hC dX4_landOne_21 (by decide) (fun c_21 => ?_) (fun c_21 => ?_)
    · refine gx_bipush (v := -6) hC dX4_landOne_31 bp_m6 ?_
      exact gx_iret hC hQ dX4_landOne_33 ((by unfold sLand sLnd; rw [hg]; rw [if_pos (Or.inl c_21)])) ((by unfold sLand sLnd; rw [hg]; rw [if_pos (Or.inl c_21)])) rfl
    · refine gx_aload_n (i := 0) hC dX4_landOne_24 rfl rfl (by first | exact Or.inr ⟨_, rfl⟩ | exact Or.inl rfl | exact kv_isR | exact aref_isR) ?_
      refine gx_getI hC dX4_landOne_25 fl_X4_50 (by first | exact hS.at | exact hS.aa | exact hS.ah | exact hS.ac (by assumption) | exact hS.ac (by omega)) (by decide) (pS0) ?_
      refine gx_if_le (tgt := 34) hC dX4_landOne_28 (by decide) (fun c_28 => ?_) (fun c_28 => ?_)
      · refine gx_aload_n (i := 0) hC dX4_landOne_34 rfl rfl (by first | exact Or.inr ⟨_, rfl⟩ | exact Or.inl rfl | exact kv_isR | exact aref_isR) ?_
        refine gx_callV1 hC dX4_landOne_35 (c_X4_nextToLand _ _ hS hWg) kY_X4_nextToLand kV_X4_nextToLand ml_X4_163 (by first | exact hS.at | exact hS.aa | exact hS.ah | exact hS.ac (by assumption) | exact hS.ac (by omega)) rfl (by decide) rfl rfl rfl (by first | exact Nat.le_of_ble_eq_true rfl | (simp [Value.category, isR_cat kv_isR, isR_cat aref_isR]; done)) (Nat.le_refl _) (Nat.le_refl _) ?_
        refine gx_astore_n (i := 1) (L' := [_, _]) hC dX4_landOne_38 rfl (Nat.le_of_ble_eq_true rfl) rfl (fun u h9 => by first | exact Or.inl rfl | (right; cases h9; first | rfl | exact isR_cat aref_isR | exact isR_cat kv_isR)) (by first | exact Or.inr ⟨_, rfl⟩ | exact Or.inl rfl | exact kv_isR | exact aref_isR) ?_
        refine gx_aload_n (i := 1) hC dX4_landOne_39 rfl rfl (by first | exact Or.inr ⟨_, rfl⟩ | exact Or.inl rfl | exact kv_isR | exact aref_isR) ?_
        refine gx_ifnonnull_o (tgt := 46) hC dX4_landOne_40 (by decide) (fun j_40 c_40 => ?_) (fun c_40 => ?_)
        · have hj_40 := sNext_lt c_40
          simp only [c_40, aref_some]
          refine gx_aload_n (i := 0) hC dX4_landOne_46 rfl rfl (by first | exact Or.inr ⟨_, rfl⟩ | exact Or.inl rfl | exact kv_isR | exact aref_isR) ?_
          refine gx_aload_n (i := 1) hC dX4_landOne_47 rfl rfl (by first | exact Or.inr ⟨_, rfl⟩ | exact Or.inl rfl | exact kv_isR | exact aref_isR) ?_
          refine gx_iconst (v := 1) hC dX4_landOne_48 ic_1 ?_
          refine gx_callV0 hC dX4_landOne_49 (c_X4_leave _ _ hS hj_40 _) kY_X4_leave kV_X4_leave ml_X4_159 (by first | exact hS.at | exact hS.aa | exact hS.ah | exact hS.ac (by assumption) | exact hS.ac (by omega)) rfl (by decide) rfl rfl rfl (by first | exact Nat.le_of_ble_eq_true rfl | (simp [Value.category, isR_cat kv_isR, isR_cat aref_isR]; done)) (Nat.le_refl _) (Nat.le_refl _) ?_
          refine gx_aload_n (i := 0) hC dX4_landOne_52 rfl rfl (by first | exact Or.inr ⟨_, rfl⟩ | exact Or.inl rfl | exact kv_isR | exact aref_isR) ?_
          refine gx_dup hC dX4_landOne_53 (by first | rfl | exact isR_cat kv_isR | exact isR_cat aref_isR) ?_
          refine gx_getI hC dX4_landOne_54 fl_X4_65 (by first | exact hS.at | exact hS.aa | exact hS.ah | exact hS.ac (by assumption) | exact hS.ac (by omega)) (by decide) (pS0) ?_
          refine gx_aload_n (i := 1) hC dX4_landOne_57 rfl rfl (by first | exact Or.inr ⟨_, rfl⟩ | exact Or.inl rfl | exact kv_isR | exact aref_isR) ?_
          refine gx_getI hC dX4_landOne_58 fl_X4_115 (by first | exact hS.at | exact hS.aa | exact hS.ah | exact hS.ac (by assumption) | exact hS.ac (by omega)) (by decide) (pSj (by omega)) ?_
          refine gx_iadd hC dX4_landOne_61 ?_
          refine gx_putI hC dX4_landOne_62 fl_X4_65 (by first | exact hS.at | exact hS.aa | exact hS.ah | exact hS.ac (by assumption) | exact hS.ac (by omega)) fn_3_13 rfl (up_S0) ?_
          refine gx_aload_n (i := 0) hC dX4_landOne_65 rfl rfl (by first | exact Or.inr ⟨_, rfl⟩ | exact Or.inl rfl | exact kv_isR | exact aref_isR) ?_
          refine gx_aload_n (i := 1) hC dX4_landOne_66 rfl rfl (by first | exact Or.inr ⟨_, rfl⟩ | exact Or.inl rfl | exact kv_isR | exact aref_isR) ?_
          refine gx_getE hC dX4_landOne_67 fl_X4_111 (by first | exact hS.at | exact hS.aa | exact hS.ah | exact hS.ac (by assumption) | exact hS.ac (by omega)) rfl ((pSj (by omega)).trans (up2_off (by omega))) ?_
          refine gx_getK hC dX4_landOne_70 3 (by decide) fl_X4_167 (by exact (SWleave hWg).kd hj_40) kf_3 ?_
          refine gx_putI hC dX4_landOne_73 fl_X4_50 (by first | exact hS.at | exact hS.aa | exact hS.ah | exact hS.ac (by assumption) | exact hS.ac (by omega)) fn_3_8 rfl (up_S0) ?_
          refine gx_aload_n (i := 1) hC dX4_landOne_76 rfl rfl (by first | exact Or.inr ⟨_, rfl⟩ | exact Or.inl rfl | exact kv_isR | exact aref_isR) ?_
          refine gx_getI hC dX4_landOne_77 fl_X4_124 (by first | exact hS.at | exact hS.aa | exact hS.ah | exact hS.ac (by assumption) | exact hS.ac (by omega)) (by decide) ((pSj (by omega)).trans (show _ = nI j_40 from (up2_off (by omega)).trans ((up2_off (by omega)).trans ((SWleave hWg).nu hj_40)))) ?_
          exact gx_iret hC hQ dX4_landOne_80 ((by unfold sLand sLnd; rw [hg]; rw [if_neg (fun q => q.elim c_21 (Int32.not_lt.mpr c_28)), c_40])) ((by unfold sLand sLnd; rw [hg]; rw [if_neg (fun q => q.elim c_21 (Int32.not_lt.mpr c_28)), c_40]; rfl)) rfl
        · try simp only [c_40, aref_none]
          refine gx_bipush (v := -6) hC dX4_landOne_43 bp_m6 ?_
          exact gx_iret hC hQ dX4_landOne_45 ((by unfold sLand sLnd; rw [hg]; rw [if_neg (fun q => q.elim c_21 (Int32.not_lt.mpr c_28)), c_40])) ((by unfold sLand sLnd; rw [hg]; rw [if_neg (fun q => q.elim c_21 (Int32.not_lt.mpr c_28)), c_40])) rfl
      · refine gx_bipush (v := -6) hC dX4_landOne_31 bp_m6 ?_
        exact gx_iret hC hQ dX4_landOne_33 ((by unfold sLand sLnd; rw [hg]; rw [if_pos (Or.inr (Int32.not_le.mp c_28))])) ((by unfold sLand sLnd; rw [hg]; rw [if_pos (Or.inr (Int32.not_le.mp c_28))])) rfl
  refine gx_aload_n (i := 0) hC dX4_landOne_0 rfl rfl (by first | exact Or.inr ⟨_, rfl⟩ | exact Or.inl rfl | exact kv_isR | exact aref_isR) ?_
  refine gx_getI hC dX4_landOne_1 fl_X4_50 (by first | exact hS.at | exact hS.aa | exact hS.ah | exact hS.ac (by assumption) | exact hS.ac (by omega)) (by decide) (pS0) ?_
  refine gx_if_le (tgt := 17) hC dX4_landOne_4 (by decide) (fun c_4 => ?_) (fun c_4 => ?_)
  · exact join _ (by unfold sWait; rw [if_neg (Int32.not_lt.mpr c_4)]) (hW)
  · refine gx_aload_n (i := 0) hC dX4_landOne_7 rfl rfl (by first | exact Or.inr ⟨_, rfl⟩ | exact Or.inl rfl | exact kv_isR | exact aref_isR) ?_
    refine gx_dup hC dX4_landOne_8 (by first | rfl | exact isR_cat kv_isR | exact isR_cat aref_isR) ?_
    refine gx_getI hC dX4_landOne_9 fl_X4_50 (by first | exact hS.at | exact hS.aa | exact hS.ah | exact hS.ac (by assumption) | exact hS.ac (by omega)) (by decide) (pS0) ?_
    refine gx_iconst (v := 1) hC dX4_landOne_12 ic_1 ?_
    refine gx_isub hC dX4_landOne_13 ?_
    refine gx_putI hC dX4_landOne_14 fl_X4_50 (by first | exact hS.at | exact hS.aa | exact hS.ah | exact hS.ac (by assumption) | exact hS.ac (by omega)) fn_3_8 rfl (up_S0) ?_
    exact join _ (by unfold sWait; rw [if_pos (Int32.not_le.mp c_4)]) (hW.up (by omega) (by omega))
end
section
def sPass (f : hMem) (lv : Nat) : Int32 × hMem := let g := sLand (dv (bf f lv) lv) lv
  (g.1, up2 (gd g.2 (lv - 1)) 0 9 (gd g.2 (lv - 1) 0 9 + 1))
theorem SWpass {f : hMem} {lv c : Nat} (h : SW f lv c) : SW (sPass f lv).2 lv c := (SWgd (SWland (SWdv (SWbf h _) _)) _).up (by omega) (by omega)
set_option maxHeartbeats 4000000 in
set_option maxRecDepth 20000 in
theorem c_X4_passMinute (l : Launch) (z : hZt) {n : Nat} {M : hMem} {R : hRef} {o : Nat} (hS : hSt n R o) {f : hMem} {lv c : Nat} (hW : SW f lv c) : hCt l z m_X4_passMinute [.ref (z.1 + o)] n (putS M o f) R n (some (.int (sPass f lv).1)) (putS M o (sPass f lv).2) R := by
  refine hs_start [some (.ref (z.1 + o)), none] (by decide +kernel) rfl (by intro u hu; simp at hu; subst hu <;> first | rfl | exact isR_cat kv_isR | exact isR_cat aref_isR) (Nat.le_of_ble_eq_true rfl) (Nat.le_refl _) (fun X hlX hN hC hQ => ?_)
  dsimp only at hC hQ
  refine gx_aload_n (i := 0) hC dX4_passMinute_0 rfl rfl (by first | exact Or.inr ⟨_, rfl⟩ | exact Or.inl rfl | exact kv_isR | exact aref_isR) ?_
  refine gx_callV0 hC dX4_passMinute_1 (c_X4_burnAndFly _ _ hS hW) kY_X4_burnAndFly kV_X4_burnAndFly ml_X4_138 (by first | exact hS.at | exact hS.aa | exact hS.ah | exact hS.ac (by assumption) | exact hS.ac (by omega)) rfl (by decide) rfl rfl rfl (by first | exact Nat.le_of_ble_eq_true rfl | (simp [Value.category, isR_cat kv_isR, isR_cat aref_isR]; done)) (Nat.le_refl _) (Nat.le_refl _) ?_
  refine gx_aload_n (i := 0) hC dX4_passMinute_4 rfl rfl (by first | exact Or.inr ⟨_, rfl⟩ | exact Or.inl rfl | exact kv_isR | exact aref_isR) ?_
  refine gx_callV0 hC dX4_passMinute_5 (c_X4_divertStarved _ _ hS (SWbf hW _)) kY_X4_divertStarved kV_X4_divertStarved ml_X4_141 (by first | exact hS.at | exact hS.aa | exact hS.ah | exact hS.ac (by assumption) | exact hS.ac (by omega)) rfl (by decide) rfl rfl rfl (by first | exact Nat.le_of_ble_eq_true rfl | (simp [Value.category, isR_cat kv_isR, isR_cat aref_isR]; done)) (Nat.le_refl _) (Nat.le_refl _) ?_
  refine gx_aload_n (i := 0) hC dX4_passMinute_8 rfl rfl (by first | exact Or.inr ⟨_, rfl⟩ | exact Or.inl rfl | exact kv_isR | exact aref_isR) ?_
  refine gx_callV1 hC dX4_passMinute_9 (c_X4_landOne _ _ hS (SWdv (SWbf hW _) _)) kY_X4_landOne kV_X4_landOne ml_X4_144 (by first | exact hS.at | exact hS.aa | exact hS.ah | exact hS.ac (by assumption) | exact hS.ac (by omega)) rfl (by decide) rfl rfl rfl (by first | exact Nat.le_of_ble_eq_true rfl | (simp [Value.category, isR_cat kv_isR, isR_cat aref_isR]; done)) (Nat.le_refl _) (Nat.le_refl _) ?_
  refine gx_istore_n (i := 1) (L' := [_, _]) hC dX4_passMinute_12 rfl (Nat.le_of_ble_eq_true rfl) rfl (fun u h9 => by first | exact Or.inl rfl | (right; cases h9; first | rfl | exact isR_cat aref_isR | exact isR_cat kv_isR)) ?_
  refine gx_aload_n (i := 0) hC dX4_passMinute_13 rfl rfl (by first | exact Or.inr ⟨_, rfl⟩ | exact Or.inl rfl | exact kv_isR | exact aref_isR) ?_
  refine gx_callV0 hC dX4_passMinute_14 (c_X4_goDownLadder _ _ hS (SWland (SWdv (SWbf hW _) _))) kY_X4_goDownLadder kV_X4_goDownLadder ml_X4_147 (by first | exact hS.at | exact hS.aa | exact hS.ah | exact hS.ac (by assumption) | exact hS.ac (by omega)) rfl (by decide) rfl rfl rfl (by first | exact Nat.le_of_ble_eq_true rfl | (simp [Value.category, isR_cat kv_isR, isR_cat aref_isR]; done)) (Nat.le_refl _) (Nat.le_refl _) ?_
  refine gx_aload_n (i := 0) hC dX4_passMinute_17 rfl rfl (by first | exact Or.inr ⟨_, rfl⟩ | exact Or.inl rfl | exact kv_isR | exact aref_isR) ?_
  refine gx_dup hC dX4_passMinute_18 (by first | rfl | exact isR_cat kv_isR | exact isR_cat aref_isR) ?_
  refine gx_getI hC dX4_passMinute_19 fl_X4_53 (by first | exact hS.at | exact hS.aa | exact hS.ah | exact hS.ac (by assumption) | exact hS.ac (by omega)) (by decide) (pS0) ?_
  refine gx_iconst (v := 1) hC dX4_passMinute_22 ic_1 ?_
  refine gx_iadd hC dX4_passMinute_23 ?_
  refine gx_putI hC dX4_passMinute_24 fl_X4_53 (by first | exact hS.at | exact hS.aa | exact hS.ah | exact hS.ac (by assumption) | exact hS.ac (by omega)) fn_3_9 rfl (up_S0) ?_
  refine gx_iload_n (i := 1) hC dX4_passMinute_27 rfl rfl ?_
  exact gx_iret hC hQ dX4_passMinute_28 (rfl) (rfl) rfl
/-- minutes, one after the other: how many landed, and the state then -/
def sMin (f : hMem) (lv : Nat) : Nat → Int32 × hMem
  | 0 => (0, f)
  | i + 1 => (if (sPass (sMin f lv i).2 lv).1 = -6 then (sMin f lv i).1 else (sMin f lv i).1 + 1, (sPass (sMin f lv i).2 lv).2)
theorem SWmin {f : hMem} {lv c : Nat} (h : SW f lv c) (i : Nat) : SW (sMin f lv i).2 lv c := by
  induction i with
  | zero => exact h
  | succ i ih => exact SWpass ih
theorem sMin_eq {f : hMem} {lv i : Nat} (h : (sPass (sMin f lv i).2 lv).1 = -6) : (sMin f lv (i + 1)).1 = (sMin f lv i).1 := by rw [sMin]; exact if_pos h
theorem sMin_ne {f : hMem} {lv i : Nat} (h : ¬ (sPass (sMin f lv i).2 lv).1 = -6) : (sMin f lv (i + 1)).1 = (sMin f lv i).1 + 1 := by rw [sMin]; exact if_neg h
set_option maxHeartbeats 4000000 in
set_option maxRecDepth 20000 in
theorem c_X4_passMinutes (l : Launch) (z : hZt) {n : Nat} {M : hMem} {R : hRef} {o : Nat} (hS : hSt n R o) {f : hMem} {lv c : Nat} (hW : SW f lv c) {m : Nat} (hm : m < 1000) : hCt l z m_X4_passMinutes [.ref (z.1 + o), .int (nI m)] n (putS M o f) R n (some (.int (sMin f lv m).1)) (putS M o (sMin f lv m).2) R := by
  refine hs_start [some (.ref (z.1 + o)), some (.int (nI m)), none, none] (by decide +kernel) rfl (by intro u hu; simp at hu; rcases hu with rfl | rfl <;> first | rfl | exact isR_cat kv_isR | exact isR_cat aref_isR) (Nat.le_of_ble_eq_true rfl) (Nat.le_refl _) (fun X hlX hN hC hQ => ?_)
  dsimp only at hC hQ
  refine gx_iconst (v := 0) hC dX4_passMinutes_0 ic_0 ?_
  refine gx_istore_n (i := 2) (L' := [_, _, _, _]) hC dX4_passMinutes_1 rfl (Nat.le_of_ble_eq_true rfl) rfl (fun u h9 => by first | exact Or.inl rfl | (right; cases h9; first | rfl | exact isR_cat aref_isR | exact isR_cat kv_isR)) ?_
  refine gx_iconst (v := nI 0) hC dX4_passMinutes_2 ic_0n ?_
  refine gx_istore_n (i := 3) (L' := [_, _, _, _]) hC dX4_passMinutes_3 rfl (Nat.le_of_ble_eq_true rfl) rfl (fun u h9 => by first | exact Or.inl rfl | (right; cases h9; first | rfl | exact isR_cat aref_isR | exact isR_cat kv_isR)) ?_
  have loop_4 : ∀ (k : Nat) (i : Nat), m - i < k → i ≤ m → hG z n X n (putS M o (sMin f lv i).2) R 4 [some (.ref (z.1 + o)), some (.int (nI m)), some (.int (sMin f lv i).1), some (.int (nI i))] [] := by
    intro k
    induction k with
    | zero => intros; omega
    | succ k ih =>
      intro i hk1 hi
      refine gx_iload_n (i := 3) hC dX4_passMinutes_4 rfl rfl ?_
      refine gx_iload_n (i := 1) hC dX4_passMinutes_5 rfl rfl ?_
      refine gx_icmp_ge (tgt := 27) hC dX4_passMinutes_6 (by decide) (fun c_6 => ?_) (fun c_6 => ?_)
      · have d_6 := cle (by omega) (by omega) c_6
        refine gx_iload_n (i := 2) hC dX4_passMinutes_27 rfl rfl ?_
        exact gx_iret hC hQ dX4_passMinutes_28 (by rw [show m = i by omega]) (by rw [show m = i by omega]) rfl
      · have d_6 := cnle (by omega) (by omega) c_6
        refine gx_aload_n (i := 0) hC dX4_passMinutes_9 rfl rfl (by first | exact Or.inr ⟨_, rfl⟩ | exact Or.inl rfl | exact kv_isR | exact aref_isR) ?_
        refine gx_callV1 hC dX4_passMinutes_10 (c_X4_passMinute _ _ hS (SWmin hW i)) kY_X4_passMinute kV_X4_passMinute ml_X4_131 (by first | exact hS.at | exact hS.aa | exact hS.ah | exact hS.ac (by assumption) | exact hS.ac (by omega)) rfl (by decide) rfl rfl rfl (by first | exact Nat.le_of_ble_eq_true rfl | (simp [Value.category, isR_cat kv_isR, isR_cat aref_isR]; done)) (Nat.le_refl _) (Nat.le_refl _) ?_
        refine gx_bipush (v := -6) hC dX4_passMinutes_13 bp_m6 ?_
        refine gx_icmp_eq (tgt := 21) hC dX4_passMinutes_15 (by decide) (fun c_15 => ?_) (fun c_15 => ?_)
        · refine gx_iinc (i := 3) (L' := [_, _, _, _]) hC dX4_passMinutes_21 rfl (ii_1 _) (Nat.le_of_ble_eq_true rfl) rfl (fun u h9 => by first | exact Or.inl rfl | (right; cases h9; first | rfl | exact isR_cat aref_isR | exact isR_cat kv_isR)) ?_
          refine gx_goto (tgt := 4) hC dX4_passMinutes_24 (by decide) ?_
          have h9 := ih (i + 1) (by omega) (by omega)
          rw [sMin_eq c_15] at h9
          exact h9
        · refine gx_iinc (i := 2) (L' := [_, _, _, _]) hC dX4_passMinutes_18 rfl rfl (Nat.le_of_ble_eq_true rfl) rfl (fun u h9 => by first | exact Or.inl rfl | (right; cases h9; first | rfl | exact isR_cat aref_isR | exact isR_cat kv_isR)) ?_
          refine gx_iinc (i := 3) (L' := [_, _, _, _]) hC dX4_passMinutes_21 rfl (ii_1 _) (Nat.le_of_ble_eq_true rfl) rfl (fun u h9 => by first | exact Or.inl rfl | (right; cases h9; first | rfl | exact isR_cat aref_isR | exact isR_cat kv_isR)) ?_
          refine gx_goto (tgt := 4) hC dX4_passMinutes_24 (by decide) ?_
          have h9 := ih (i + 1) (by omega) (by omega)
          rw [sMin_ne c_15] at h9
          exact h9
  exact loop_4 (m + 1) 0 (by omega) (by omega)
/-- minutes until that aircraft lands: in which, if in one of the k next; the state then -/
def sTo (lv c : Nat) (num : Int32) : Nat → Nat → hMem → Int32 × hMem
  | 0, _, f => (-6, f)
  | k + 1, i, f => if bMay f c = true then (if (sPass f lv).1 = num then (nI (i + 1), (sPass f lv).2) else sTo lv c num k (i + 1) (sPass f lv).2) else (-6, f)
theorem cgt {a b : Nat} (ha : a < 2 ^ 31) (hb : b < 2 ^ 31) (h : nI a < nI b) : a < b := (nI_ltI ha hb).mp h
theorem cngt {a b : Nat} (ha : a < 2 ^ 31) (hb : b < 2 ^ 31) (h : ¬ nI a < nI b) : b ≤ a := by have := mt (nI_ltI ha hb).mpr h; omega
set_option maxHeartbeats 4000000 in
set_option maxRecDepth 20000 in
theorem c_X4_minutesToLanding (l : Launch) (z : hZt) {n : Nat} {M : hMem} {R : hRef} {o : Nat} (hS : hSt n R o) {f : hMem} {lv c : Nat} (hW : SW f lv c) (num : Int32) {m : Nat} (hm : m < 1000) : hCt l z m_X4_minutesToLanding [.ref (z.1 + o), .int num, .int (nI m)] n (putS M o f) R n (some (.int (sTo lv c num m 0 f).1)) (putS M o (sTo lv c num m 0 f).2) R := by
  refine hs_start [some (.ref (z.1 + o)), some (.int num), some (.int (nI m)), none] (by decide +kernel) rfl (by intro u hu; simp at hu; rcases hu with rfl | rfl | rfl <;> first | rfl | exact isR_cat kv_isR | exact isR_cat aref_isR) (Nat.le_of_ble_eq_true rfl) (Nat.le_refl _) (fun X hlX hN hC hQ => ?_)
  dsimp only at hC hQ
  refine gx_iconst (v := nI 1) hC dX4_minutesToLanding_0 ic_1n ?_
  refine gx_istore_n (i := 3) (L' := [_, _, _, _]) hC dX4_minutesToLanding_1 rfl (Nat.le_of_ble_eq_true rfl) rfl (fun u h9 => by first | exact Or.inl rfl | (right; cases h9; first | rfl | exact isR_cat aref_isR | exact isR_cat kv_isR)) ?_
  have loop_2 : ∀ (k : Nat) (i : Nat) (g : hMem), m - i < k → i ≤ m → SW g lv c → sTo lv c num (m - i) i g = sTo lv c num m 0 f → hG z n X n (putS M o g) R 2 [some (.ref (z.1 + o)), some (.int num), some (.int (nI m)), some (.int (nI (i + 1)))] [] := by
    intro k
    induction k with
    | zero => intros; omega
    | succ k ih =>
      intro i g hk1 hi hg he
      refine gx_iload_n (i := 3) hC dX4_minutesToLanding_2 rfl rfl ?_
      refine gx_iload_n (i := 2) hC dX4_minutesToLanding_3 rfl rfl ?_
      refine gx_icmp_gt (tgt := 30) hC dX4_minutesToLanding_4 (by decide) (fun c_4 => ?_) (fun c_4 => ?_)
      · have d_4 := cgt (by omega) (by omega) c_4
        refine gx_bipush (v := -6) hC dX4_minutesToLanding_30 bp_m6 ?_
        exact gx_iret hC hQ dX4_minutesToLanding_32 ((by rw [show m - i = 0 by omega, sTo] at he; rw [← he])) ((by rw [show m - i = 0 by omega, sTo] at he; rw [← he])) rfl
      · have d_4 := cngt (by omega) (by omega) c_4
        refine gx_aload_n (i := 0) hC dX4_minutesToLanding_7 rfl rfl (by first | exact Or.inr ⟨_, rfl⟩ | exact Or.inl rfl | exact kv_isR | exact aref_isR) ?_
        refine gx_callV1 hC dX4_minutesToLanding_8 (c_X4_mayLand _ _ hS hg) kY_X4_mayLand kV_X4_mayLand ml_X4_135 (by first | exact hS.at | exact hS.aa | exact hS.ah | exact hS.ac (by assumption) | exact hS.ac (by omega)) rfl (by decide) rfl rfl rfl (by first | exact Nat.le_of_ble_eq_true rfl | (simp [Value.category, isR_cat kv_isR, isR_cat aref_isR]; done)) (Nat.le_refl _) (Nat.le_refl _) ?_
        refine gx_ifb_eq (tgt := 30) hC dX4_minutesToLanding_11 (by decide) (fun c_11 => ?_) (fun c_11 => ?_)
        · refine gx_bipush (v := -6) hC dX4_minutesToLanding_30 bp_m6 ?_
          exact gx_iret hC hQ dX4_minutesToLanding_32 ((by rw [show m - i = (m - i - 1) + 1 by omega, sTo, if_neg (by rw [c_11]; decide)] at he; rw [← he])) ((by rw [show m - i = (m - i - 1) + 1 by omega, sTo, if_neg (by rw [c_11]; decide)] at he; rw [← he])) rfl
        · refine gx_aload_n (i := 0) hC dX4_minutesToLanding_14 rfl rfl (by first | exact Or.inr ⟨_, rfl⟩ | exact Or.inl rfl | exact kv_isR | exact aref_isR) ?_
          refine gx_callV1 hC dX4_minutesToLanding_15 (c_X4_passMinute _ _ hS hg) kY_X4_passMinute kV_X4_passMinute ml_X4_131 (by first | exact hS.at | exact hS.aa | exact hS.ah | exact hS.ac (by assumption) | exact hS.ac (by omega)) rfl (by decide) rfl rfl rfl (by first | exact Nat.le_of_ble_eq_true rfl | (simp [Value.category, isR_cat kv_isR, isR_cat aref_isR]; done)) (Nat.le_refl _) (Nat.le_refl _) ?_
          refine gx_iload_n (i := 1) hC dX4_minutesToLanding_18 rfl rfl ?_
          refine gx_icmp_ne (tgt := 24) hC dX4_minutesToLanding_19 (by decide) (fun c_19 => ?_) (fun c_19 => ?_)
          · refine gx_iinc (i := 3) (L' := [_, _, _, _]) hC dX4_minutesToLanding_24 rfl (ii_1 _) (Nat.le_of_ble_eq_true rfl) rfl (fun u h9 => by first | exact Or.inl rfl | (right; cases h9; first | rfl | exact isR_cat aref_isR | exact isR_cat kv_isR)) ?_
            refine gx_goto (tgt := 2) hC dX4_minutesToLanding_27 (by decide) ?_
            exact ih (i + 1) _ (by omega) (by omega) (SWpass hg) (by rw [← he, show m - i = (m - (i + 1)) + 1 by omega, sTo, if_pos c_11, if_neg c_19])
          · refine gx_iload_n (i := 3) hC dX4_minutesToLanding_22 rfl rfl ?_
            exact gx_iret hC hQ dX4_minutesToLanding_23 ((by rw [show m - i = (m - i - 1) + 1 by omega, sTo, if_pos c_11, if_pos c_19] at he; rw [← he])) ((by rw [show m - i = (m - i - 1) + 1 by omega, sTo, if_pos c_11, if_pos c_19] at he; rw [← he])) rfl
  exact loop_2 (m + 1) 0 f (by omega) (by omega) hW rfl
def sLp (f : hMem) (j : Nat) : hMem := if f 0 4 ≤ f (3 + j) 5 then up2 f (3 + j) 5 0 else f
def cl (f : hMem) : Nat → hMem
  | 0 => f
  | i + 1 => match sHold (cl f i) (nI i) with
    | none => cl f i
    | some j => sLp (cl f i) j
theorem cl_none {f : hMem} {i : Nat} (h : sHold (cl f i) (nI i) = none) : cl f (i + 1) = cl f i := by rw [cl, h]
theorem cl_some {f : hMem} {i j : Nat} (h : sHold (cl f i) (nI i) = some j) : cl f (i + 1) = sLp (cl f i) j := by rw [cl, h]
theorem SWcl {f : hMem} {lv c : Nat} (h : SW f lv c) (i : Nat) : SW (cl f i) lv c := by
  induction i with
  | zero => exact h
  | succ i ih =>
    cases hh : sHold (cl f i) (nI i) with
    | none => rw [cl_none hh]; exact ih
    | some j =>
      rw [cl_some hh]
      unfold sLp
      split
      · exact ih.up (by omega) (by omega)
      · exact ih
def sLap (f : hMem) (lv : Nat) (m : Int32) : hMem := cl (up2 f 0 4 m) lv
set_option maxHeartbeats 4000000 in
set_option maxRecDepth 20000 in
theorem c_X4_changeLap (l : Launch) (z : hZt) {n : Nat} {M : hMem} {R : hRef} {o : Nat} (hS : hSt n R o) {f : hMem} {lv c : Nat} (hW : SW f lv c) (x : Int32) : hCt l z m_X4_changeLap [.ref (z.1 + o), .int x] n (putS M o f) R n none (putS M o (sLap f lv x)) R := by
  refine hs_start [some (.ref (z.1 + o)), some (.int x), none, none] (by decide +kernel) rfl (by intro u hu; simp at hu; rcases hu with rfl | rfl <;> first | rfl | exact isR_cat kv_isR | exact isR_cat aref_isR) (Nat.le_of_ble_eq_true rfl) (Nat.le_refl _) (fun X hlX hN hC hQ => ?_)
  dsimp only at hC hQ
  have hl16 := hW.l16
  have hW1 : SW (up2 f 0 4 x) lv c := hW.up (by omega) (by omega)
  refine gx_aload_n (i := 0) hC dX4_changeLap_0 rfl rfl (by first | exact Or.inr ⟨_, rfl⟩ | exact Or.inl rfl | exact kv_isR | exact aref_isR) ?_
  refine gx_iload_n (i := 1) hC dX4_changeLap_1 rfl rfl ?_
  refine gx_putI hC dX4_changeLap_2 fl_X4_25 (by first | exact hS.at | exact hS.aa | exact hS.ah | exact hS.ac (by assumption) | exact hS.ac (by omega)) fn_3_4 rfl (up_S0) ?_
  refine gx_iconst (v := nI 0) hC dX4_changeLap_5 ic_0n ?_
  refine gx_istore_n (i := 2) (L' := [_, _, _, _]) hC dX4_changeLap_6 rfl (Nat.le_of_ble_eq_true rfl) rfl (fun u h9 => by first | exact Or.inl rfl | (right; cases h9; first | rfl | exact isR_cat aref_isR | exact isR_cat kv_isR)) ?_
  have loop_7 : ∀ (k : Nat) (i : Nat) (w : Option Value), lv - i < k → i ≤ lv → hG z n X n (putS M o (cl (up2 f 0 4 x) i)) R 7 [some (.ref (z.1 + o)), some (.int x), some (.int (nI i)), w] [] := by
    intro k
    induction k with
    | zero => intros; omega
    | succ k ih =>
      intro i w hk1 hi
      refine gx_iload_n (i := 2) hC dX4_changeLap_7 rfl rfl ?_
      refine gx_aload_n (i := 0) hC dX4_changeLap_8 rfl rfl (by first | exact Or.inr ⟨_, rfl⟩ | exact Or.inl rfl | exact kv_isR | exact aref_isR) ?_
      refine gx_getI hC dX4_changeLap_9 fl_X4_21 (by first | exact hS.at | exact hS.aa | exact hS.ah | exact hS.ac (by assumption) | exact hS.ac (by omega)) (by decide) (pS0.trans (SWcl hW1 i).lv) ?_
      refine gx_icmp_ge (tgt := 47) hC dX4_changeLap_12 (by decide) (fun c_12 => ?_) (fun c_12 => ?_)
      · have d_12 := cle (by omega) (by omega) c_12
        exact gx_vret hC hQ dX4_changeLap_47 (by unfold sLap; rw [show lv = i by omega]) rfl
      · have d_12 := cnle (by omega) (by omega) c_12
        refine gx_aload_n (i := 0) hC dX4_changeLap_15 rfl rfl (by first | exact Or.inr ⟨_, rfl⟩ | exact Or.inl rfl | exact kv_isR | exact aref_isR) ?_
        refine gx_iload_n (i := 2) hC dX4_changeLap_16 rfl rfl ?_
        refine gx_callV1 hC dX4_changeLap_17 (c_X4_holderOf _ _ hS _) kY_X4_holderOf kV_X4_holderOf ml_X4_78 (by first | exact hS.at | exact hS.aa | exact hS.ah | exact hS.ac (by assumption) | exact hS.ac (by omega)) rfl (by decide) rfl rfl rfl (by first | exact Nat.le_of_ble_eq_true rfl | (simp [Value.category, isR_cat kv_isR, isR_cat aref_isR]; done)) (Nat.le_refl _) (Nat.le_refl _) ?_
        refine gx_astore_n (i := 3) (L' := [_, _, _, _]) hC dX4_changeLap_20 rfl (Nat.le_of_ble_eq_true rfl) rfl (fun u h9 => by first | exact Or.inl rfl | (right; cases h9; first | rfl | exact isR_cat aref_isR | exact isR_cat kv_isR)) (by first | exact Or.inr ⟨_, rfl⟩ | exact Or.inl rfl | exact kv_isR | exact aref_isR) ?_
        refine gx_aload_n (i := 3) hC dX4_changeLap_21 rfl rfl (by first | exact Or.inr ⟨_, rfl⟩ | exact Or.inl rfl | exact kv_isR | exact aref_isR) ?_
        refine gx_ifnull_o (tgt := 41) hC dX4_changeLap_22 (by decide) (fun c_22 => ?_) (fun j_22 c_22 => ?_)
        · try simp only [c_22, aref_none]
          refine gx_iinc (i := 2) (L' := [_, _, _, _]) hC dX4_changeLap_41 rfl (ii_1 _) (Nat.le_of_ble_eq_true rfl) rfl (fun u h9 => by first | exact Or.inl rfl | (right; cases h9; first | rfl | exact isR_cat aref_isR | exact isR_cat kv_isR)) ?_
          refine gx_goto (tgt := 7) hC dX4_changeLap_44 (by decide) ?_
          have h9 := fun w => ih (i + 1) w (by omega) (by omega)
          rw [cl_none c_22] at h9
          exact h9 _
        · have hj_22 := sHold_lt c_22
          simp only [c_22, aref_some]
          refine gx_aload_n (i := 3) hC dX4_changeLap_25 rfl rfl (by first | exact Or.inr ⟨_, rfl⟩ | exact Or.inl rfl | exact kv_isR | exact aref_isR) ?_
          refine gx_getI hC dX4_changeLap_26 fl_X4_82 (by first | exact hS.at | exact hS.aa | exact hS.ah | exact hS.ac (by assumption) | exact hS.ac (by omega)) (by decide) (pSj (by omega)) ?_
          refine gx_aload_n (i := 0) hC dX4_changeLap_29 rfl rfl (by first | exact Or.inr ⟨_, rfl⟩ | exact Or.inl rfl | exact kv_isR | exact aref_isR) ?_
          refine gx_getI hC dX4_changeLap_30 fl_X4_25 (by first | exact hS.at | exact hS.aa | exact hS.ah | exact hS.ac (by assumption) | exact hS.ac (by omega)) (by decide) (pS0) ?_
          refine gx_icmp_lt (tgt := 41) hC dX4_changeLap_33 (by decide) (fun c_33 => ?_) (fun c_33 => ?_)
          · refine gx_iinc (i := 2) (L' := [_, _, _, _]) hC dX4_changeLap_41 rfl (ii_1 _) (Nat.le_of_ble_eq_true rfl) rfl (fun u h9 => by first | exact Or.inl rfl | (right; cases h9; first | rfl | exact isR_cat aref_isR | exact isR_cat kv_isR)) ?_
            refine gx_goto (tgt := 7) hC dX4_changeLap_44 (by decide) ?_
            have h9 := fun w => ih (i + 1) w (by omega) (by omega)
            rw [cl_some c_22] at h9
            unfold sLp at h9
            rw [if_neg (Int32.not_le.mpr c_33)] at h9
            exact h9 _
          · refine gx_aload_n (i := 3) hC dX4_changeLap_36 rfl rfl (by first | exact Or.inr ⟨_, rfl⟩ | exact Or.inl rfl | exact kv_isR | exact aref_isR) ?_
            refine gx_iconst (v := 0) hC dX4_changeLap_37 ic_0 ?_
            refine gx_putI hC dX4_changeLap_38 fl_X4_82 (by first | exact hS.at | exact hS.aa | exact hS.ah | exact hS.ac (by assumption) | exact hS.ac (by omega)) fn_0_5 rfl (up_S (by omega)) ?_
            refine gx_iinc (i := 2) (L' := [_, _, _, _]) hC dX4_changeLap_41 rfl (ii_1 _) (Nat.le_of_ble_eq_true rfl) rfl (fun u h9 => by first | exact Or.inl rfl | (right; cases h9; first | rfl | exact isR_cat aref_isR | exact isR_cat kv_isR)) ?_
            refine gx_goto (tgt := 7) hC dX4_changeLap_44 (by decide) ?_
            have h9 := fun w => ih (i + 1) w (by omega) (by omega)
            rw [cl_some c_22] at h9
            unfold sLp at h9
            rw [if_pos (Int32.not_lt.mp c_33)] at h9
            exact h9 _
  exact loop_7 (lv + 1) 0 _ (by omega) (by omega)
def fillN (M : hMem) (i : Nat) (v : Int32) (m : Nat) : hMem := fun b q => if b = i ∧ q < m then v else M b q
theorem fillN_s {M : hMem} {i m : Nat} {v : Int32} : up2 (fillN M i v m) i m v = fillN M i v (m + 1) := by
  funext b q
  unfold fillN up2
  by_cases hb : b = i
  · by_cases hq : q = m
    · simp [hb, hq]
    · by_cases h2 : q < m
      · simp [hb, hq, h2, show q < m + 1 by omega]
      · simp [hb, hq, h2, show ¬ q < m + 1 by omega]
  · simp [hb]
theorem fillN_0 {M : hMem} {i : Nat} {v : Int32} : fillN M i v 0 = M := by
  funext b q
  simp [fillN]
def sFill (f : hMem) (v : Int32) : hMem := fun b q => if b = 2 ∧ q < 16 then v else f b q
theorem fillN_S {M f : hMem} {o : Nat} {v : Int32} : fillN (putS M o f) (o + 2) v 16 = putS M o (sFill f v) := by
  funext b q
  unfold fillN putS sFill
  by_cases hb : o ≤ b ∧ b < o + 23
  · rw [if_pos hb, if_pos hb]
    by_cases h2 : b = o + 2
    · subst h2; simp
    · rw [if_neg (fun h => h2 h.1), if_neg (fun h => h2 (by omega))]
  · rw [if_neg hb, if_neg hb, if_neg (fun h => hb (by omega))]
set_option maxHeartbeats 4000000 in
set_option maxRecDepth 20000 in
theorem c_J7_fill_53178 (l : Launch) (z : hZt) {n : Nat} {M : hMem} {R : hRef} {i len : Nat} (ha : hAt n i (1, len)) (hl : len < 1000) (v : Int32) : hCt l z m_J7_fill_53178 [.ref (z.1 + i), .int v] n M R n none (fillN M i v len) R := by
  refine hs_start [some (.ref (z.1 + i)), some (.int v), none, none] (by decide +kernel) rfl (by intro u hu; simp at hu; rcases hu with rfl | rfl <;> first | rfl | exact isR_cat kv_isR | exact isR_cat aref_isR) (Nat.le_of_ble_eq_true rfl) (Nat.le_refl _) (fun X hlX hN hC hQ => ?_)
  dsimp only at hC hQ
  refine gx_iconst (v := nI 0) hC dJ7_fill_53178_0 ic_0n ?_
  refine gx_istore_n (i := 2) (L' := [_, _, _, _]) hC dJ7_fill_53178_1 rfl (Nat.le_of_ble_eq_true rfl) rfl (fun u h9 => by first | exact Or.inl rfl | (right; cases h9; first | rfl | exact isR_cat aref_isR | exact isR_cat kv_isR)) ?_
  refine gx_aload_n (i := 0) hC dJ7_fill_53178_2 rfl rfl (by first | exact Or.inr ⟨_, rfl⟩ | exact Or.inl rfl | exact kv_isR | exact aref_isR) ?_
  refine gx_alenN hC dJ7_fill_53178_3 (by assumption) (by decide) ?_
  refine gx_istore_n (i := 3) (L' := [_, _, _, _]) hC dJ7_fill_53178_4 rfl (Nat.le_of_ble_eq_true rfl) rfl (fun u h9 => by first | exact Or.inl rfl | (right; cases h9; first | rfl | exact isR_cat aref_isR | exact isR_cat kv_isR)) ?_
  have loop_5 : ∀ (k : Nat) (m : Nat), len - m < k → m ≤ len → hG z n X n (fillN M i v m) R 5 [some (.ref (z.1 + i)), some (.int v), some (.int (nI m)), some (.int (nI len))] [] := by
    intro k
    induction k with
    | zero => intros; omega
    | succ k ih =>
      intro m hk1 hm
      refine gx_iload_n (i := 2) hC dJ7_fill_53178_5 rfl rfl ?_
      refine gx_iload_n (i := 3) hC dJ7_fill_53178_6 rfl rfl ?_
      refine gx_icmp_ge (tgt := 20) hC dJ7_fill_53178_7 (by decide) (fun c_7 => ?_) (fun c_7 => ?_)
      · have d_7 := cle (by omega) (by omega) c_7
        exact gx_vret hC hQ dJ7_fill_53178_20 (by rw [show len = m by omega]) rfl
      · have d_7 := cnle (by omega) (by omega) c_7
        refine gx_aload_n (i := 0) hC dJ7_fill_53178_10 rfl rfl (by first | exact Or.inr ⟨_, rfl⟩ | exact Or.inl rfl | exact kv_isR | exact aref_isR) ?_
        refine gx_iload_n (i := 2) hC dJ7_fill_53178_11 rfl rfl ?_
        refine gx_iload_n (i := 1) hC dJ7_fill_53178_12 rfl rfl ?_
        refine gx_iastM hC dJ7_fill_53178_13 (by assumption) (by exact vpn (by omega) (by omega)) ((congrArg (fun q => up2 (fillN M i v m) i q v) (nI_clamp (by omega))).trans fillN_s) ?_
        refine gx_iinc (i := 2) (L' := [_, _, _, _]) hC dJ7_fill_53178_14 rfl (ii_1 _) (Nat.le_of_ble_eq_true rfl) rfl (fun u h9 => by first | exact Or.inl rfl | (right; cases h9; first | rfl | exact isR_cat aref_isR | exact isR_cat kv_isR)) ?_
        refine gx_goto (tgt := 5) hC dJ7_fill_53178_17 (by decide) ?_
        exact ih (m + 1) (by omega) (by omega)
  rw [← fillN_0 (M := M) (i := i) (v := v)]
  exact loop_5 (len + 1) 0 (by omega) (by omega)
theorem d_fill {l : Launch} {z : hZt} {n : Nat} {M : hMem} {R : hRef} {o : Nat} {f : hMem} (hS : hSt n R o) (v : Int32) : hCt l z m_J7_fill_53178 [.ref (z.1 + (o + 2)), .int v] n (putS M o f) R n none (putS M o (sFill f v)) R := by
  have h := c_J7_fill_53178 l z (M := putS M o f) (R := R) hS.ah (by decide) v
  rw [fillN_S] at h
  exact h
def sNew (f : hMem) (lev : Int32) : hMem := up2 (up2 (up2 (up2 (up2 (up2 (up2 (up2 (sFill (up2 (up2 f 0 3 lev) 0 2 0) (-6)) 0 8 0) 0 9 0) 0 10 0) 0 11 0) 0 12 0) 0 13 0) 0 14 0) 0 15 0
set_option maxHeartbeats 4000000 in
set_option maxRecDepth 20000 in
theorem c_X4_beginAnew (l : Launch) (z : hZt) {n : Nat} {M : hMem} {R : hRef} {o : Nat} (hS : hSt n R o) {f : hMem} (lev : Int32) : hCt l z m_X4_beginAnew [.ref (z.1 + o), .int lev] n (putS M o f) R n none (putS M o (sNew f lev)) R := by
  refine hs_start [some (.ref (z.1 + o)), some (.int lev)] (by decide +kernel) rfl (by intro u hu; simp at hu; rcases hu with rfl | rfl <;> first | rfl | exact isR_cat kv_isR | exact isR_cat aref_isR) (Nat.le_of_ble_eq_true rfl) (Nat.le_refl _) (fun X hlX hN hC hQ => ?_)
  dsimp only at hC hQ
  refine gx_aload_n (i := 0) hC dX4_beginAnew_0 rfl rfl (by first | exact Or.inr ⟨_, rfl⟩ | exact Or.inl rfl | exact kv_isR | exact aref_isR) ?_
  refine gx_iload_n (i := 1) hC dX4_beginAnew_1 rfl rfl ?_
  refine gx_putI hC dX4_beginAnew_2 fl_X4_21 (by first | exact hS.at | exact hS.aa | exact hS.ah | exact hS.ac (by assumption) | exact hS.ac (by omega)) fn_3_3 rfl (up_S0) ?_
  refine gx_aload_n (i := 0) hC dX4_beginAnew_5 rfl rfl (by first | exact Or.inr ⟨_, rfl⟩ | exact Or.inl rfl | exact kv_isR | exact aref_isR) ?_
  refine gx_iconst (v := 0) hC dX4_beginAnew_6 ic_0 ?_
  refine gx_putI hC dX4_beginAnew_7 fl_X4_47 (by first | exact hS.at | exact hS.aa | exact hS.ah | exact hS.ac (by assumption) | exact hS.ac (by omega)) fn_3_2 rfl (up_S0) ?_
  refine gx_aload_n (i := 0) hC dX4_beginAnew_10 rfl rfl (by first | exact Or.inr ⟨_, rfl⟩ | exact Or.inl rfl | exact kv_isR | exact aref_isR) ?_
  refine gx_getR hC dX4_beginAnew_11 fl_X4_17 (by first | exact hS.at | exact hS.aa | exact hS.ah | exact hS.ac (by assumption) | exact hS.ac (by omega)) rfl (hS.rh) (by have := hS.1; omega) ?_
  refine gx_bipush (v := -6) hC dX4_beginAnew_14 bp_m6 ?_
  refine gx_callS0 hC dX4_beginAnew_16 (d_fill hS _) kY_J7_fill_53178 kS_J7_fill_53178 ml_X4_41 (by decide) rfl rfl rfl (by first | exact Nat.le_of_ble_eq_true rfl | (simp [Value.category, isR_cat kv_isR, isR_cat aref_isR]; done)) (Nat.le_refl _) (Nat.le_refl _) ?_
  refine gx_aload_n (i := 0) hC dX4_beginAnew_19 rfl rfl (by first | exact Or.inr ⟨_, rfl⟩ | exact Or.inl rfl | exact kv_isR | exact aref_isR) ?_
  refine gx_iconst (v := 0) hC dX4_beginAnew_20 ic_0 ?_
  refine gx_putI hC dX4_beginAnew_21 fl_X4_50 (by first | exact hS.at | exact hS.aa | exact hS.ah | exact hS.ac (by assumption) | exact hS.ac (by omega)) fn_3_8 rfl (up_S0) ?_
  refine gx_aload_n (i := 0) hC dX4_beginAnew_24 rfl rfl (by first | exact Or.inr ⟨_, rfl⟩ | exact Or.inl rfl | exact kv_isR | exact aref_isR) ?_
  refine gx_iconst (v := 0) hC dX4_beginAnew_25 ic_0 ?_
  refine gx_putI hC dX4_beginAnew_26 fl_X4_53 (by first | exact hS.at | exact hS.aa | exact hS.ah | exact hS.ac (by assumption) | exact hS.ac (by omega)) fn_3_9 rfl (up_S0) ?_
  refine gx_aload_n (i := 0) hC dX4_beginAnew_29 rfl rfl (by first | exact Or.inr ⟨_, rfl⟩ | exact Or.inl rfl | exact kv_isR | exact aref_isR) ?_
  refine gx_iconst (v := 0) hC dX4_beginAnew_30 ic_0 ?_
  refine gx_putI hC dX4_beginAnew_31 fl_X4_56 (by first | exact hS.at | exact hS.aa | exact hS.ah | exact hS.ac (by assumption) | exact hS.ac (by omega)) fn_3_10 rfl (up_S0) ?_
  refine gx_aload_n (i := 0) hC dX4_beginAnew_34 rfl rfl (by first | exact Or.inr ⟨_, rfl⟩ | exact Or.inl rfl | exact kv_isR | exact aref_isR) ?_
  refine gx_iconst (v := 0) hC dX4_beginAnew_35 ic_0 ?_
  refine gx_putI hC dX4_beginAnew_36 fl_X4_59 (by first | exact hS.at | exact hS.aa | exact hS.ah | exact hS.ac (by assumption) | exact hS.ac (by omega)) fn_3_11 rfl (up_S0) ?_
  refine gx_aload_n (i := 0) hC dX4_beginAnew_39 rfl rfl (by first | exact Or.inr ⟨_, rfl⟩ | exact Or.inl rfl | exact kv_isR | exact aref_isR) ?_
  refine gx_iconst (v := 0) hC dX4_beginAnew_40 ic_0 ?_
  refine gx_putI hC dX4_beginAnew_41 fl_X4_62 (by first | exact hS.at | exact hS.aa | exact hS.ah | exact hS.ac (by assumption) | exact hS.ac (by omega)) fn_3_12 rfl (up_S0) ?_
  refine gx_aload_n (i := 0) hC dX4_beginAnew_44 rfl rfl (by first | exact Or.inr ⟨_, rfl⟩ | exact Or.inl rfl | exact kv_isR | exact aref_isR) ?_
  refine gx_iconst (v := 0) hC dX4_beginAnew_45 ic_0 ?_
  refine gx_putI hC dX4_beginAnew_46 fl_X4_65 (by first | exact hS.at | exact hS.aa | exact hS.ah | exact hS.ac (by assumption) | exact hS.ac (by omega)) fn_3_13 rfl (up_S0) ?_
  refine gx_aload_n (i := 0) hC dX4_beginAnew_49 rfl rfl (by first | exact Or.inr ⟨_, rfl⟩ | exact Or.inl rfl | exact kv_isR | exact aref_isR) ?_
  refine gx_iconst (v := 0) hC dX4_beginAnew_50 ic_0 ?_
  refine gx_putI hC dX4_beginAnew_51 fl_X4_68 (by first | exact hS.at | exact hS.aa | exact hS.ah | exact hS.ac (by assumption) | exact hS.ac (by omega)) fn_3_14 rfl (up_S0) ?_
  refine gx_aload_n (i := 0) hC dX4_beginAnew_54 rfl rfl (by first | exact Or.inr ⟨_, rfl⟩ | exact Or.inl rfl | exact kv_isR | exact aref_isR) ?_
  refine gx_iconst (v := 0) hC dX4_beginAnew_55 ic_0 ?_
  refine gx_putI hC dX4_beginAnew_56 fl_X4_71 (by first | exact hS.at | exact hS.aa | exact hS.ah | exact hS.ac (by assumption) | exact hS.ac (by omega)) fn_3_15 rfl (up_S0) ?_
  exact gx_vret hC hQ dX4_beginAnew_59 (rfl) rfl
end
section
/-! copies of a state; its making -/
def sC0 (f g : hMem) : hMem := fun i k => if i = 0 ∧ 2 ≤ k ∧ k ≤ 15 then g 0 k else f i k
def sC1 (f g : hMem) (m : Nat) : hMem := fun i k => if i = 0 ∧ 2 ≤ k ∧ k ≤ 15 then g 0 k else if 3 ≤ i ∧ i < 3 + m ∧ 1 ≤ k ∧ k ≤ 7 then g i k else f i k
def sC2 (f g : hMem) (c m : Nat) : hMem := fun i k => if i = 2 ∧ k < m then g 2 k else sC1 f g c i k
/-- what a copy leaves: all numbers, the levels' aircraft, the aircraft that have entered -/
def sCopy (f g : hMem) (c : Nat) : hMem := sC2 f g c 16
theorem sC1_0 {f g : hMem} : sC1 f g 0 = sC0 f g := by
  funext i k
  unfold sC1 sC0
  split
  · rfl
  · rw [if_neg (by omega)]
theorem sC2_0 {f g : hMem} {c : Nat} : sC2 f g c 0 = sC1 f g c := by
  funext i k
  unfold sC2
  rw [if_neg (by omega)]
theorem sC1_s {M f g : hMem} {o p m : Nat} (hm : m < 20) (hs : p + 23 ≤ o ∨ o + 23 ≤ p) (hg : ∀ i, i < 23 → ∀ k, g i k = M (p + i) k) : cpA (putS M o (sC1 f g m)) (o + (3 + m)) (p + (3 + m)) = putS M o (sC1 f g (m + 1)) := by
  funext b q
  unfold cpA
  by_cases hb : b = o + (3 + m)
  · subst hb
    rw [pSj (by omega), pSj (by omega), pSo (by omega)]
    unfold sC1
    (repeat' split) <;> first | rfl | (exfalso; omega) | (rw [hg _ (by omega)])
  · rw [if_neg (fun h => hb h.1)]
    unfold putS
    split
    · next hi =>
      unfold sC1
      by_cases h0 : b - o = 0 ∧ 2 ≤ q ∧ q ≤ 15
      · rw [if_pos h0, if_pos h0]
      · rw [if_neg h0, if_neg h0]
        by_cases h1 : 3 ≤ b - o ∧ b - o < 3 + m ∧ 1 ≤ q ∧ q ≤ 7
        · rw [if_pos h1, if_pos (by omega)]
        · rw [if_neg h1, if_neg (by omega)]
    · rfl
theorem sC2_s {f g : hMem} {c m : Nat} {v : Int32} (hv : v = g 2 m) : up2 (sC2 f g c m) 2 m v = sC2 f g c (m + 1) := by
  subst hv
  funext b q
  unfold up2 sC2
  by_cases h : b = 2 ∧ q = m
  · rw [if_pos h, if_pos (by omega), h.2]
  · rw [if_neg h]
    by_cases h2 : b = 2 ∧ q < m
    · rw [if_pos h2, if_pos (by omega)]
    · rw [if_neg h2, if_neg (by omega)]
theorem sC0_eq {f g : hMem} : up2 (up2 (up2 (up2 (up2 (up2 (up2 (up2 (up2 (up2 (up2 (up2 (up2 (up2 f 0 2 (g 0 2)) 0 3 (g 0 3)) 0 4 (g 0 4)) 0 5 (g 0 5)) 0 6 (g 0 6)) 0 7 (g 0 7)) 0 8 (g 0 8)) 0 9 (g 0 9)) 0 10 (g 0 10)) 0 11 (g 0 11)) 0 12 (g 0 12)) 0 13 (g 0 13)) 0 14 (g 0 14)) 0 15 (g 0 15) = sC0 f g := by
  funext b q
  unfold sC0 up2
  by_cases hb : b = 0
  · subst hb
    rcases (show q = 2 ∨ q = 3 ∨ q = 4 ∨ q = 5 ∨ q = 6 ∨ q = 7 ∨ q = 8 ∨ q = 9 ∨ q = 10 ∨ q = 11 ∨ q = 12 ∨ q = 13 ∨ q = 14 ∨ q = 15 ∨ q < 2 ∨ 15 < q by omega) with rfl | rfl | rfl | rfl | rfl | rfl | rfl | rfl | rfl | rfl | rfl | rfl | rfl | rfl | h | h
    all_goals first | (simp; done) | (simp only [true_and]; repeat' rw [if_neg (by omega)])
  · simp [hb]
set_option maxHeartbeats 4000000 in
set_option maxRecDepth 20000 in
theorem c_X4_copyFrom (l : Launch) (z : hZt) {n : Nat} {M : hMem} {R : hRef} {o : Nat} (hS : hSt n R o) {f : hMem} {p c : Nat} (hT : hSt n R p) (hs : p + 23 ≤ o ∨ o + 23 ≤ p) {g : hMem} (hg : ∀ i, i < 23 → ∀ k, g i k = M (p + i) k) (hcg : g 0 2 = nI c) (hc : c ≤ 20) : hCt l z m_X4_copyFrom [.ref (z.1 + o), .ref (z.1 + p)] n (putS M o f) R n none (putS M o (sCopy f g c)) R := by
  refine hs_start [some (.ref (z.1 + o)), some (.ref (z.1 + p)), none] (by decide +kernel) rfl (by intro u hu; simp at hu; rcases hu with rfl | rfl <;> first | rfl | exact isR_cat kv_isR | exact isR_cat aref_isR) (Nat.le_of_ble_eq_true rfl) (Nat.le_refl _) (fun X hlX hN hC hQ => ?_)
  dsimp only at hC hQ
  have hs2 : p < o ∨ o + 23 ≤ p := by omega
  have hg0 : ∀ k, g 0 k = M p k := fun k => hg 0 (by decide) k
  have loop_154 : ∀ (k : Nat) (m : Nat), 16 - m < k → m ≤ 16 → hG z n X n (putS M o (sC2 f g c m)) R 154 [some (.ref (z.1 + o)), some (.ref (z.1 + p)), some (.int (nI m))] [] := by
    intro k
    induction k with
    | zero => intros; omega
    | succ k ih =>
      intro m hk1 hm
      refine gx_iload_n (i := 2) hC dX4_copyFrom_154 rfl rfl ?_
      refine gx_aload_n (i := 0) hC dX4_copyFrom_155 rfl rfl (by first | exact Or.inr ⟨_, rfl⟩ | exact Or.inl rfl | exact kv_isR | exact aref_isR) ?_
      refine gx_getR hC dX4_copyFrom_156 fl_X4_17 (by first | exact hS.aa | exact hS.ah | exact hS.at) rfl (hS.rh) (by have := hS.1; omega) ?_
      refine gx_alenN hC dX4_copyFrom_159 (by exact hS.ah) (by decide) ?_
      refine gx_icmp_ge (tgt := 181) hC dX4_copyFrom_160 (by decide) (fun c_160 => ?_) (fun c_160 => ?_)
      · have d_160 := cle (by omega) (by omega) c_160
        exact gx_vret hC hQ dX4_copyFrom_181 (by rw [show m = 16 by omega]; rfl) rfl
      · have d_160 := cnle (by omega) (by omega) c_160
        refine gx_aload_n (i := 0) hC dX4_copyFrom_163 rfl rfl (by first | exact Or.inr ⟨_, rfl⟩ | exact Or.inl rfl | exact kv_isR | exact aref_isR) ?_
        refine gx_getR hC dX4_copyFrom_164 fl_X4_17 (by exact hS.at) rfl (hS.rh) (by have := hS.1; omega) ?_
        refine gx_iload_n (i := 2) hC dX4_copyFrom_167 rfl rfl ?_
        refine gx_aload_n (i := 1) hC dX4_copyFrom_168 rfl rfl (by first | exact Or.inr ⟨_, rfl⟩ | exact Or.inl rfl | exact kv_isR | exact aref_isR) ?_
        refine gx_getR hC dX4_copyFrom_169 fl_X4_17 (by exact hT.at) rfl (hT.rh) (by have := hS.1; omega) ?_
        refine gx_iload_n (i := 2) hC dX4_copyFrom_172 rfl rfl ?_
        refine gx_iald hC dX4_copyFrom_173 (by exact hT.ah) (by exact vpn (by omega) (by decide)) ((congrArg _ (nI_clamp (by omega))).trans ((pSo (by omega)).trans (hg 2 (by decide) _).symm)) ?_
        refine gx_iastM hC dX4_copyFrom_174 (by exact hS.ah) (by exact vpn (by omega) (by decide)) ((congrArg (fun q => up2 (putS M o (sC2 f g c m)) (o + 2) q (g 2 m)) (nI_clamp (by omega))).trans ((up_S (by omega)).trans (congrArg (putS M o) (sC2_s rfl)))) ?_
        refine gx_iinc (i := 2) (L' := [_, _, _]) hC dX4_copyFrom_175 rfl (ii_1 _) (Nat.le_of_ble_eq_true rfl) rfl (fun u h9 => by first | exact Or.inl rfl | (right; cases h9; first | rfl | exact isR_cat aref_isR | exact isR_cat kv_isR)) ?_
        refine gx_goto (tgt := 154) hC dX4_copyFrom_178 (by decide) ?_
        exact ih (m + 1) (by omega) (by omega)
  refine gx_aload_n (i := 0) hC dX4_copyFrom_0 rfl rfl (by first | exact Or.inr ⟨_, rfl⟩ | exact Or.inl rfl | exact kv_isR | exact aref_isR) ?_
  refine gx_aload_n (i := 1) hC dX4_copyFrom_1 rfl rfl (by first | exact Or.inr ⟨_, rfl⟩ | exact Or.inl rfl | exact kv_isR | exact aref_isR) ?_
  refine gx_getI hC dX4_copyFrom_2 fl_X4_47 (by exact hT.at) (by decide) ((pSo hs2).trans (hg0 _).symm) ?_
  refine gx_putI hC dX4_copyFrom_5 fl_X4_47 (by exact hS.at) fn_3_2 rfl (up_S0) ?_
  refine gx_aload_n (i := 0) hC dX4_copyFrom_8 rfl rfl (by first | exact Or.inr ⟨_, rfl⟩ | exact Or.inl rfl | exact kv_isR | exact aref_isR) ?_
  refine gx_aload_n (i := 1) hC dX4_copyFrom_9 rfl rfl (by first | exact Or.inr ⟨_, rfl⟩ | exact Or.inl rfl | exact kv_isR | exact aref_isR) ?_
  refine gx_getI hC dX4_copyFrom_10 fl_X4_21 (by exact hT.at) (by decide) ((pSo hs2).trans (hg0 _).symm) ?_
  refine gx_putI hC dX4_copyFrom_13 fl_X4_21 (by exact hS.at) fn_3_3 rfl (up_S0) ?_
  refine gx_aload_n (i := 0) hC dX4_copyFrom_16 rfl rfl (by first | exact Or.inr ⟨_, rfl⟩ | exact Or.inl rfl | exact kv_isR | exact aref_isR) ?_
  refine gx_aload_n (i := 1) hC dX4_copyFrom_17 rfl rfl (by first | exact Or.inr ⟨_, rfl⟩ | exact Or.inl rfl | exact kv_isR | exact aref_isR) ?_
  refine gx_getI hC dX4_copyFrom_18 fl_X4_25 (by exact hT.at) (by decide) ((pSo hs2).trans (hg0 _).symm) ?_
  refine gx_putI hC dX4_copyFrom_21 fl_X4_25 (by exact hS.at) fn_3_4 rfl (up_S0) ?_
  refine gx_aload_n (i := 0) hC dX4_copyFrom_24 rfl rfl (by first | exact Or.inr ⟨_, rfl⟩ | exact Or.inl rfl | exact kv_isR | exact aref_isR) ?_
  refine gx_aload_n (i := 1) hC dX4_copyFrom_25 rfl rfl (by first | exact Or.inr ⟨_, rfl⟩ | exact Or.inl rfl | exact kv_isR | exact aref_isR) ?_
  refine gx_getI hC dX4_copyFrom_26 fl_X4_28 (by exact hT.at) (by decide) ((pSo hs2).trans (hg0 _).symm) ?_
  refine gx_putI hC dX4_copyFrom_29 fl_X4_28 (by exact hS.at) fn_3_5 rfl (up_S0) ?_
  refine gx_aload_n (i := 0) hC dX4_copyFrom_32 rfl rfl (by first | exact Or.inr ⟨_, rfl⟩ | exact Or.inl rfl | exact kv_isR | exact aref_isR) ?_
  refine gx_aload_n (i := 1) hC dX4_copyFrom_33 rfl rfl (by first | exact Or.inr ⟨_, rfl⟩ | exact Or.inl rfl | exact kv_isR | exact aref_isR) ?_
  refine gx_getZ hC dX4_copyFrom_34 fl_X4_31 (by exact hT.at) rfl ((pSo hs2).trans (hg0 _).symm) (fun hz_34 => ?_)
  refine gx_putZ hC dX4_copyFrom_37 fl_X4_31 (by exact hS.at) fn_3_6 rfl (by first | exact Or.inl rfl | exact Or.inr rfl | exact b2_bit _ | assumption) (up_S0) ?_
  refine gx_aload_n (i := 0) hC dX4_copyFrom_40 rfl rfl (by first | exact Or.inr ⟨_, rfl⟩ | exact Or.inl rfl | exact kv_isR | exact aref_isR) ?_
  refine gx_aload_n (i := 1) hC dX4_copyFrom_41 rfl rfl (by first | exact Or.inr ⟨_, rfl⟩ | exact Or.inl rfl | exact kv_isR | exact aref_isR) ?_
  refine gx_getZ hC dX4_copyFrom_42 fl_X4_35 (by exact hT.at) rfl ((pSo hs2).trans (hg0 _).symm) (fun hz_42 => ?_)
  refine gx_putZ hC dX4_copyFrom_45 fl_X4_35 (by exact hS.at) fn_3_7 rfl (by first | exact Or.inl rfl | exact Or.inr rfl | exact b2_bit _ | assumption) (up_S0) ?_
  refine gx_aload_n (i := 0) hC dX4_copyFrom_48 rfl rfl (by first | exact Or.inr ⟨_, rfl⟩ | exact Or.inl rfl | exact kv_isR | exact aref_isR) ?_
  refine gx_aload_n (i := 1) hC dX4_copyFrom_49 rfl rfl (by first | exact Or.inr ⟨_, rfl⟩ | exact Or.inl rfl | exact kv_isR | exact aref_isR) ?_
  refine gx_getI hC dX4_copyFrom_50 fl_X4_50 (by exact hT.at) (by decide) ((pSo hs2).trans (hg0 _).symm) ?_
  refine gx_putI hC dX4_copyFrom_53 fl_X4_50 (by exact hS.at) fn_3_8 rfl (up_S0) ?_
  refine gx_aload_n (i := 0) hC dX4_copyFrom_56 rfl rfl (by first | exact Or.inr ⟨_, rfl⟩ | exact Or.inl rfl | exact kv_isR | exact aref_isR) ?_
  refine gx_aload_n (i := 1) hC dX4_copyFrom_57 rfl rfl (by first | exact Or.inr ⟨_, rfl⟩ | exact Or.inl rfl | exact kv_isR | exact aref_isR) ?_
  refine gx_getI hC dX4_copyFrom_58 fl_X4_53 (by exact hT.at) (by decide) ((pSo hs2).trans (hg0 _).symm) ?_
  refine gx_putI hC dX4_copyFrom_61 fl_X4_53 (by exact hS.at) fn_3_9 rfl (up_S0) ?_
  refine gx_aload_n (i := 0) hC dX4_copyFrom_64 rfl rfl (by first | exact Or.inr ⟨_, rfl⟩ | exact Or.inl rfl | exact kv_isR | exact aref_isR) ?_
  refine gx_aload_n (i := 1) hC dX4_copyFrom_65 rfl rfl (by first | exact Or.inr ⟨_, rfl⟩ | exact Or.inl rfl | exact kv_isR | exact aref_isR) ?_
  refine gx_getI hC dX4_copyFrom_66 fl_X4_56 (by exact hT.at) (by decide) ((pSo hs2).trans (hg0 _).symm) ?_
  refine gx_putI hC dX4_copyFrom_69 fl_X4_56 (by exact hS.at) fn_3_10 rfl (up_S0) ?_
  refine gx_aload_n (i := 0) hC dX4_copyFrom_72 rfl rfl (by first | exact Or.inr ⟨_, rfl⟩ | exact Or.inl rfl | exact kv_isR | exact aref_isR) ?_
  refine gx_aload_n (i := 1) hC dX4_copyFrom_73 rfl rfl (by first | exact Or.inr ⟨_, rfl⟩ | exact Or.inl rfl | exact kv_isR | exact aref_isR) ?_
  refine gx_getI hC dX4_copyFrom_74 fl_X4_59 (by exact hT.at) (by decide) ((pSo hs2).trans (hg0 _).symm) ?_
  refine gx_putI hC dX4_copyFrom_77 fl_X4_59 (by exact hS.at) fn_3_11 rfl (up_S0) ?_
  refine gx_aload_n (i := 0) hC dX4_copyFrom_80 rfl rfl (by first | exact Or.inr ⟨_, rfl⟩ | exact Or.inl rfl | exact kv_isR | exact aref_isR) ?_
  refine gx_aload_n (i := 1) hC dX4_copyFrom_81 rfl rfl (by first | exact Or.inr ⟨_, rfl⟩ | exact Or.inl rfl | exact kv_isR | exact aref_isR) ?_
  refine gx_getI hC dX4_copyFrom_82 fl_X4_62 (by exact hT.at) (by decide) ((pSo hs2).trans (hg0 _).symm) ?_
  refine gx_putI hC dX4_copyFrom_85 fl_X4_62 (by exact hS.at) fn_3_12 rfl (up_S0) ?_
  refine gx_aload_n (i := 0) hC dX4_copyFrom_88 rfl rfl (by first | exact Or.inr ⟨_, rfl⟩ | exact Or.inl rfl | exact kv_isR | exact aref_isR) ?_
  refine gx_aload_n (i := 1) hC dX4_copyFrom_89 rfl rfl (by first | exact Or.inr ⟨_, rfl⟩ | exact Or.inl rfl | exact kv_isR | exact aref_isR) ?_
  refine gx_getI hC dX4_copyFrom_90 fl_X4_65 (by exact hT.at) (by decide) ((pSo hs2).trans (hg0 _).symm) ?_
  refine gx_putI hC dX4_copyFrom_93 fl_X4_65 (by exact hS.at) fn_3_13 rfl (up_S0) ?_
  refine gx_aload_n (i := 0) hC dX4_copyFrom_96 rfl rfl (by first | exact Or.inr ⟨_, rfl⟩ | exact Or.inl rfl | exact kv_isR | exact aref_isR) ?_
  refine gx_aload_n (i := 1) hC dX4_copyFrom_97 rfl rfl (by first | exact Or.inr ⟨_, rfl⟩ | exact Or.inl rfl | exact kv_isR | exact aref_isR) ?_
  refine gx_getI hC dX4_copyFrom_98 fl_X4_68 (by exact hT.at) (by decide) ((pSo hs2).trans (hg0 _).symm) ?_
  refine gx_putI hC dX4_copyFrom_101 fl_X4_68 (by exact hS.at) fn_3_14 rfl (up_S0) ?_
  refine gx_aload_n (i := 0) hC dX4_copyFrom_104 rfl rfl (by first | exact Or.inr ⟨_, rfl⟩ | exact Or.inl rfl | exact kv_isR | exact aref_isR) ?_
  refine gx_aload_n (i := 1) hC dX4_copyFrom_105 rfl rfl (by first | exact Or.inr ⟨_, rfl⟩ | exact Or.inl rfl | exact kv_isR | exact aref_isR) ?_
  refine gx_getI hC dX4_copyFrom_106 fl_X4_71 (by exact hT.at) (by decide) ((pSo hs2).trans (hg0 _).symm) ?_
  refine gx_putI hC dX4_copyFrom_109 fl_X4_71 (by exact hS.at) fn_3_15 rfl (up_S0) ?_
  refine gx_iconst (v := nI 0) hC dX4_copyFrom_112 ic_0n ?_
  refine gx_istore_n (i := 2) (L' := [_, _, _]) hC dX4_copyFrom_113 rfl (Nat.le_of_ble_eq_true rfl) rfl (fun u h9 => by first | exact Or.inl rfl | (right; cases h9; first | rfl | exact isR_cat aref_isR | exact isR_cat kv_isR)) ?_
  have loop_114 : ∀ (k : Nat) (m : Nat), c - m < k → m ≤ c → hG z n X n (putS M o (sC1 f g m)) R 114 [some (.ref (z.1 + o)), some (.ref (z.1 + p)), some (.int (nI m))] [] := by
    intro k
    induction k with
    | zero => intros; omega
    | succ k ih =>
      intro m hk1 hm
      refine gx_iload_n (i := 2) hC dX4_copyFrom_114 rfl rfl ?_
      refine gx_aload_n (i := 0) hC dX4_copyFrom_115 rfl rfl (by first | exact Or.inr ⟨_, rfl⟩ | exact Or.inl rfl | exact kv_isR | exact aref_isR) ?_
      refine gx_getR hC dX4_copyFrom_116 fl_X4_11 (by exact hS.at) rfl (hS.ra) (by have := hS.1; omega) ?_
      refine gx_alenN hC dX4_copyFrom_119 (by exact hS.aa) (by decide) ?_
      refine gx_icmp_ge (tgt := 152) hC dX4_copyFrom_120 (by decide) (fun c_120 => ?_) (fun c_120 => ?_)
      · have d_120 := cle (by omega) (by omega) c_120
        obtain rfl : m = c := by omega
        rw [← sC2_0]
        refine gx_iconst (v := nI 0) hC dX4_copyFrom_152 ic_0n ?_
        refine gx_istore_n (i := 2) (L' := [_, _, _]) hC dX4_copyFrom_153 rfl (Nat.le_of_ble_eq_true rfl) rfl (fun u h9 => by first | exact Or.inl rfl | (right; cases h9; first | rfl | exact isR_cat aref_isR | exact isR_cat kv_isR)) ?_
        exact loop_154 17 0 (by omega) (by omega)
      · have d_120 := cnle (by omega) (by omega) c_120
        refine gx_iload_n (i := 2) hC dX4_copyFrom_123 rfl rfl ?_
        refine gx_aload_n (i := 0) hC dX4_copyFrom_124 rfl rfl (by first | exact Or.inr ⟨_, rfl⟩ | exact Or.inl rfl | exact kv_isR | exact aref_isR) ?_
        refine gx_getI hC dX4_copyFrom_125 fl_X4_47 (by exact hS.at) (by decide) (pS0.trans (show _ = nI c from (by simp [sC1, hcg]))) ?_
        refine gx_icmp_ge (tgt := 152) hC dX4_copyFrom_128 (by decide) (fun c_128 => ?_) (fun c_128 => ?_)
        · have d_128 := cle (by omega) (by omega) c_128
          obtain rfl : m = c := by omega
          rw [← sC2_0]
          refine gx_iconst (v := nI 0) hC dX4_copyFrom_152 ic_0n ?_
          refine gx_istore_n (i := 2) (L' := [_, _, _]) hC dX4_copyFrom_153 rfl (Nat.le_of_ble_eq_true rfl) rfl (fun u h9 => by first | exact Or.inl rfl | (right; cases h9; first | rfl | exact isR_cat aref_isR | exact isR_cat kv_isR)) ?_
          exact loop_154 17 0 (by omega) (by omega)
        · have d_128 := cnle (by omega) (by omega) c_128
          refine gx_aload_n (i := 0) hC dX4_copyFrom_131 rfl rfl (by first | exact Or.inr ⟨_, rfl⟩ | exact Or.inl rfl | exact kv_isR | exact aref_isR) ?_
          refine gx_getR hC dX4_copyFrom_132 fl_X4_11 (by exact hS.at) rfl (hS.ra) (by have := hS.1; omega) ?_
          refine gx_iload_n (i := 2) hC dX4_copyFrom_135 rfl rfl ?_
          refine gx_aald hC dX4_copyFrom_136 (by exact hS.aa) (by first | exact Or.inl rfl | exact Or.inr rfl) (by exact vpn (by omega) (by decide)) ((congrArg (R (o + 1)) (nI_clamp (by omega))).trans (hS.rc (by omega))) (by have := hS.1; omega) ?_
          refine gx_aload_n (i := 1) hC dX4_copyFrom_137 rfl rfl (by first | exact Or.inr ⟨_, rfl⟩ | exact Or.inl rfl | exact kv_isR | exact aref_isR) ?_
          refine gx_getR hC dX4_copyFrom_138 fl_X4_11 (by exact hT.at) rfl (hT.ra) (by have := hS.1; omega) ?_
          refine gx_iload_n (i := 2) hC dX4_copyFrom_141 rfl rfl ?_
          refine gx_aald hC dX4_copyFrom_142 (by exact hT.aa) (by first | exact Or.inl rfl | exact Or.inr rfl) (by exact vpn (by omega) (by decide)) ((congrArg (R (p + 1)) (nI_clamp (by omega))).trans (hT.rc (by omega))) (by have := hS.1; omega) ?_
          refine gx_callV0 hC dX4_copyFrom_143 (c_X0_copyFrom _ _ (hS.ac (show m < 20 by omega)) (hT.ac (show m < 20 by omega)) (by omega)) kY_X0_copyFrom kV_X0_copyFrom ml_X4_74 (by exact hS.ac (by omega)) rfl (by decide) rfl rfl rfl (by first | exact Nat.le_of_ble_eq_true rfl | (simp [Value.category, isR_cat kv_isR, isR_cat aref_isR]; done)) (Nat.le_refl _) (Nat.le_refl _) ?_
          refine gx_iinc (i := 2) (L' := [_, _, _]) hC dX4_copyFrom_146 rfl (ii_1 _) (Nat.le_of_ble_eq_true rfl) rfl (fun u h9 => by first | exact Or.inl rfl | (right; cases h9; first | rfl | exact isR_cat aref_isR | exact isR_cat kv_isR)) ?_
          refine gx_goto (tgt := 114) hC dX4_copyFrom_149 (by decide) ?_
          have h9 := ih (m + 1) (by omega) (by omega)
          rw [← sC1_s (by omega) hs hg] at h9
          exact h9
  rw [sC0_eq, ← sC1_0]
  exact loop_114 (c + 1) 0 (by omega) (by omega)
/-! making an aircraft, a state -/
def dS : hMem := fun i k => if i = 0 ∨ i = 1 ∨ i = 2 then 0 else if k = 1 then -1 else 0
def rS (R : hRef) (o : Nat) : hRef := fun i k => if i = o ∧ k = 0 then o + 1 else if i = o ∧ k = 1 then o + 2 else if i = o + 1 ∧ k < 20 then o + (3 + k) else R i k
def rL (R : hRef) (o j : Nat) : hRef := fun i k => if i = o ∧ k = 0 then o + 1 else if i = o ∧ k = 1 then o + 2 else if i = o + 1 ∧ k < j then o + (3 + k) else R i k
def iS0 : hMem := up2 (up2 (up2 (up2 (up2 dS 0 3 10) 0 4 4) 0 5 16) 0 6 1) 0 7 1
def iL (j : Nat) : hMem := fun i k => if 3 ≤ i ∧ i < 3 + j ∧ k = 0 then nI (i - 3) else if 3 ≤ i ∧ i < 3 + j ∧ k = 1 then 0 else iS0 i k
def iS : hMem := sFill (iL 20) (-6)
theorem iL_s {j : Nat} : up2 (up2 (iL j) (3 + j) 1 (nI 0)) (3 + j) 0 (nI j) = iL (j + 1) := by
  funext b q
  unfold up2 iL
  have e0 : nI 0 = 0 := rfl
  by_cases hb : b = 3 + j
  · subst hb
    by_cases h0 : q = 0
    · subst h0
      rw [if_pos ⟨rfl, rfl⟩, if_pos (by omega)]
      congr 1
      omega
    · rw [if_neg (fun h => h0 h.2)]
      by_cases h1 : q = 1
      · subst h1
        rw [if_pos ⟨rfl, rfl⟩, if_neg (by omega), if_pos (by omega), e0]
      · rw [if_neg (fun h => h1 h.2)]
        (repeat' split) <;> first | rfl | (exfalso; omega)
  · rw [if_neg (fun h => hb h.1), if_neg (fun h => hb h.1)]
    (repeat' split) <;> first | rfl | (exfalso; omega)
theorem rL_s {R : hRef} {o j : Nat} : up2 (rL R o j) (o + 1) j (o + (3 + j)) = rL R o (j + 1) := by
  funext b q
  unfold up2 rL
  (repeat' split) <;> first | rfl | (exfalso; omega) | omega
theorem iL_0 : iL 0 = iS0 := by
  funext b q
  unfold iL
  rw [if_neg (by omega), if_neg (by omega)]
theorem rL_0 {R : hRef} {o : Nat} : up2 (up2 R o 0 (o + 1)) o 1 (o + 1 + 1) = rL R o 0 := by
  funext b q
  unfold up2 rL
  (repeat' split) <;> first | rfl | (exfalso; omega) | omega
theorem rL_20 {R : hRef} {o : Nat} : rL R o 20 = rS R o := rfl
theorem putS_d {M : hMem} {o : Nat} (h : ∀ j, j < 23 → ∀ k, M (o + j) k = dS j k) : putS M o dS = M := by
  funext i k
  unfold putS
  split
  · next hi => rw [← h (i - o) (by omega) k, show o + (i - o) = i by omega]
  · rfl
set_option maxHeartbeats 4000000 in
set_option maxRecDepth 20000 in
theorem c_X0_init (l : Launch) (z : hZt) {n : Nat} {M : hMem} {R : hRef} {i : Nat} (ha : hAt n i (0, 0)) (x : Int32) : hCt l z m_X0_init [.ref (z.1 + i), .int x] n M R n none (up2 (up2 M i 1 (nI 0)) i 0 x) R := by
  refine hs_start [some (.ref (z.1 + i)), some (.int x)] (by decide +kernel) rfl (by intro u hu; simp at hu; rcases hu with rfl | rfl <;> first | rfl | exact isR_cat kv_isR | exact isR_cat aref_isR) (Nat.le_of_ble_eq_true rfl) (Nat.le_refl _) (fun X hlX hN hC hQ => ?_)
  dsimp only at hC hQ
  refine gx_aload_n (i := 0) hC dX0_init_0 rfl rfl (by first | exact Or.inr ⟨_, rfl⟩ | exact Or.inl rfl | exact kv_isR | exact aref_isR) ?_
  refine gx_objinit hC dX0_init_1 ml_X0_3 oi_1 oi_2 (by decide) rfl ?_
  refine gx_aload_n (i := 0) hC dX0_init_4 rfl rfl (by first | exact Or.inr ⟨_, rfl⟩ | exact Or.inl rfl | exact kv_isR | exact aref_isR) ?_
  refine gx_getstatic hC dX0_init_5 0 (by decide) fl_X0_9 ?_
  refine gx_putE hC dX0_init_8 fl_X0_15 (by assumption) fn_0_1 rfl (rfl) ?_
  refine gx_aload_n (i := 0) hC dX0_init_11 rfl rfl (by first | exact Or.inr ⟨_, rfl⟩ | exact Or.inl rfl | exact kv_isR | exact aref_isR) ?_
  refine gx_iload_n (i := 1) hC dX0_init_12 rfl rfl ?_
  refine gx_putFI hC dX0_init_13 fl_X0_20 (by assumption) ff_0_0 hN ⟨_, _, rfl⟩ rfl (rfl) ?_
  exact gx_vret hC hQ dX0_init_16 (rfl) rfl
theorem iL_d {j k : Nat} (h : j < 20) : iL j (3 + j) k = dfl 0 k := by
  unfold iL
  rw [if_neg (by omega), if_neg (by omega)]
  unfold iS0
  rw [up2_off (by omega), up2_off (by omega), up2_off (by omega), up2_off (by omega), up2_off (by omega)]
  unfold dS dfl
  rw [if_neg (by omega)]
  by_cases h1 : k = 1
  · subst h1; rfl
  · rw [if_neg h1]
    unfold sty
    split <;> first | rfl | simp_all
theorem rL_o {R : hRef} {o j i k : Nat} (h : o + 2 ≤ i) : rL R o j i k = R i k := by
  unfold rL
  rw [if_neg (by omega), if_neg (by omega), if_neg (by omega)]
set_option maxHeartbeats 4000000 in
set_option maxRecDepth 20000 in
theorem c_X4_init (l : Launch) (z : hZt) {M : hMem} {R : hRef} {o : Nat} (hty : ∀ j, j < 23 → ty (o + j) = tyS j) (hR : ∀ j, j < 23 → ∀ k, R (o + j) k = 0) : hCt l z m_X4_init [.ref (z.1 + o)] (o + 1) (putS M o dS) R (o + 23) none (putS M o iS) (rS R o) := by
  refine hs_start [some (.ref (z.1 + o)), none] (by decide +kernel) rfl (by intro u hu; simp at hu; subst hu <;> first | rfl | exact isR_cat kv_isR | exact isR_cat aref_isR) (Nat.le_of_ble_eq_true rfl) (by omega) (fun X hlX hN hC hQ => ?_)
  dsimp only at hC hQ
  have h0 : ∀ m, o < m → hAt m o (0, 3) := fun m hm => ⟨hm, hty 0 (by decide)⟩
  have h1 : ∀ m, o + 1 < m → hAt m (o + 1) (4, 20) := fun m hm => ⟨hm, hty 1 (by decide)⟩
  have h2 : ∀ m, o + 2 < m → hAt m (o + 2) (1, 16) := fun m hm => ⟨hm, hty 2 (by decide)⟩
  have h3 : ∀ m j, j < 20 → o + (3 + j) < m → hAt m (o + (3 + j)) (0, 0) := fun m j hj hm => ⟨hm, by rw [hty (3 + j) (by omega)]; unfold tyS; rw [if_neg (by omega), if_neg (by omega), if_neg (by omega)]⟩
  refine gx_aload_n (i := 0) hC dX4_init_0 rfl rfl (by first | exact Or.inr ⟨_, rfl⟩ | exact Or.inl rfl | exact kv_isR | exact aref_isR) ?_
  refine gx_objinit hC dX4_init_1 ml_X4_3 oi_1 oi_2 (by decide) rfl ?_
  refine gx_aload_n (i := 0) hC dX4_init_4 rfl rfl (by first | exact Or.inr ⟨_, rfl⟩ | exact Or.inl rfl | exact kv_isR | exact aref_isR) ?_
  refine gx_bipush (v := 20) hC dX4_init_5 bp_20 ?_
  refine gx_anewarray hC dX4_init_7 (by first | exact Or.inl ⟨rfl, rfl⟩ | exact Or.inr ⟨rfl, rfl⟩) (hty 1 (by decide)) cl_X4_9 (by omega) (fun k _ => hR 1 (by decide) k) (rfl) (by decide) ?_
  refine gx_putR hC dX4_init_10 fl_X4_11 (by first | exact h0 _ (by omega) | exact h1 _ (by omega) | exact h2 _ (by omega) | exact h3 _ _ (by omega) (by omega)) ff_3_0 hN ⟨_, _, rfl⟩ rfl (by omega) (rfl) ?_
  refine gx_aload_n (i := 0) hC dX4_init_13 rfl rfl (by first | exact Or.inr ⟨_, rfl⟩ | exact Or.inl rfl | exact kv_isR | exact aref_isR) ?_
  refine gx_bipush (v := 16) hC dX4_init_14 bp_16 ?_
  refine gx_newarray hC dX4_init_16 (by simp) (hty 2 (by decide)) ac_int (by omega) (fun k _ => (pSj (j := 2) (by decide)).trans rfl) (rfl) (by decide) ?_
  refine gx_putR hC dX4_init_18 fl_X4_17 (by first | exact h0 _ (by omega) | exact h1 _ (by omega) | exact h2 _ (by omega) | exact h3 _ _ (by omega) (by omega)) ff_3_1 hN ⟨_, _, rfl⟩ rfl (by omega) (rfl) ?_
  refine gx_aload_n (i := 0) hC dX4_init_21 rfl rfl (by first | exact Or.inr ⟨_, rfl⟩ | exact Or.inl rfl | exact kv_isR | exact aref_isR) ?_
  refine gx_bipush (v := 10) hC dX4_init_22 bp_10 ?_
  refine gx_putI hC dX4_init_24 fl_X4_21 (by first | exact h0 _ (by omega) | exact h1 _ (by omega) | exact h2 _ (by omega) | exact h3 _ _ (by omega) (by omega)) fn_3_3 rfl (up_S0) ?_
  refine gx_aload_n (i := 0) hC dX4_init_27 rfl rfl (by first | exact Or.inr ⟨_, rfl⟩ | exact Or.inl rfl | exact kv_isR | exact aref_isR) ?_
  refine gx_iconst (v := 4) hC dX4_init_28 ic_4 ?_
  refine gx_putI hC dX4_init_29 fl_X4_25 (by first | exact h0 _ (by omega) | exact h1 _ (by omega) | exact h2 _ (by omega) | exact h3 _ _ (by omega) (by omega)) fn_3_4 rfl (up_S0) ?_
  refine gx_aload_n (i := 0) hC dX4_init_32 rfl rfl (by first | exact Or.inr ⟨_, rfl⟩ | exact Or.inl rfl | exact kv_isR | exact aref_isR) ?_
  refine gx_bipush (v := 16) hC dX4_init_33 bp_16 ?_
  refine gx_putI hC dX4_init_35 fl_X4_28 (by first | exact h0 _ (by omega) | exact h1 _ (by omega) | exact h2 _ (by omega) | exact h3 _ _ (by omega) (by omega)) fn_3_5 rfl (up_S0) ?_
  refine gx_aload_n (i := 0) hC dX4_init_38 rfl rfl (by first | exact Or.inr ⟨_, rfl⟩ | exact Or.inl rfl | exact kv_isR | exact aref_isR) ?_
  refine gx_iconst (v := 1) hC dX4_init_39 ic_1 ?_
  refine gx_putZ hC dX4_init_40 fl_X4_31 (by first | exact h0 _ (by omega) | exact h1 _ (by omega) | exact h2 _ (by omega) | exact h3 _ _ (by omega) (by omega)) fn_3_6 rfl (by first | exact Or.inl rfl | exact Or.inr rfl | exact b2_bit _ | assumption) (up_S0) ?_
  refine gx_aload_n (i := 0) hC dX4_init_43 rfl rfl (by first | exact Or.inr ⟨_, rfl⟩ | exact Or.inl rfl | exact kv_isR | exact aref_isR) ?_
  refine gx_iconst (v := 1) hC dX4_init_44 ic_1 ?_
  refine gx_putZ hC dX4_init_45 fl_X4_35 (by first | exact h0 _ (by omega) | exact h1 _ (by omega) | exact h2 _ (by omega) | exact h3 _ _ (by omega) (by omega)) fn_3_7 rfl (by first | exact Or.inl rfl | exact Or.inr rfl | exact b2_bit _ | assumption) (up_S0) ?_
  refine gx_iconst (v := nI 0) hC dX4_init_48 ic_0n ?_
  refine gx_istore_n (i := 1) (L' := [_, _]) hC dX4_init_49 rfl (Nat.le_of_ble_eq_true rfl) rfl (fun u h9 => by first | exact Or.inl rfl | (right; cases h9; first | rfl | exact isR_cat aref_isR | exact isR_cat kv_isR)) ?_
  have loop_50 : ∀ (k : Nat) (j : Nat), 20 - j < k → j ≤ 20 → hG z (o + 1) X (o + (3 + j)) (putS M o (iL j)) (rL R o j) 50 [some (.ref (z.1 + o)), some (.int (nI j))] [] := by
    intro k
    induction k with
    | zero => intros; omega
    | succ k ih =>
      intro j hk1 hj
      refine gx_iload_n (i := 1) hC dX4_init_50 rfl rfl ?_
      refine gx_aload_n (i := 0) hC dX4_init_51 rfl rfl (by first | exact Or.inr ⟨_, rfl⟩ | exact Or.inl rfl | exact kv_isR | exact aref_isR) ?_
      refine gx_getR hC dX4_init_52 fl_X4_11 (by first | exact h0 _ (by omega) | exact h1 _ (by omega) | exact h2 _ (by omega) | exact h3 _ _ (by omega) (by omega)) rfl (show _ = o + 1 from by simp [rL]) (by omega) ?_
      refine gx_alenN hC dX4_init_55 (by first | exact h0 _ (by omega) | exact h1 _ (by omega) | exact h2 _ (by omega) | exact h3 _ _ (by omega) (by omega)) (by decide) ?_
      refine gx_icmp_ge (tgt := 79) hC dX4_init_56 (by decide) (fun c_56 => ?_) (fun c_56 => ?_)
      · have d_56 := cle (by omega) (by omega) c_56
        obtain rfl : j = 20 := by omega
        refine gx_aload_n (i := 0) hC dX4_init_79 rfl rfl (by first | exact Or.inr ⟨_, rfl⟩ | exact Or.inl rfl | exact kv_isR | exact aref_isR) ?_
        refine gx_getR hC dX4_init_80 fl_X4_17 (by first | exact h0 _ (by omega) | exact h1 _ (by omega) | exact h2 _ (by omega) | exact h3 _ _ (by omega) (by omega)) rfl (show _ = o + 2 from by simp [rL]) (by omega) ?_
        refine gx_bipush (v := -6) hC dX4_init_83 bp_m6 ?_
        refine gx_callS0 hC dX4_init_85 (c_J7_fill_53178 _ _ (h2 _ (by omega)) (by decide) _) kY_J7_fill_53178 kS_J7_fill_53178 ml_X4_41 (by decide) rfl rfl rfl (by first | exact Nat.le_of_ble_eq_true rfl | (simp [Value.category, isR_cat kv_isR, isR_cat aref_isR]; done)) (Nat.le_refl _) (by omega) ?_
        exact gx_vret hC hQ dX4_init_88 (fillN_S) rfl
      · have d_56 := cnle (by omega) (by omega) c_56
        refine gx_aload_n (i := 0) hC dX4_init_59 rfl rfl (by first | exact Or.inr ⟨_, rfl⟩ | exact Or.inl rfl | exact kv_isR | exact aref_isR) ?_
        refine gx_getR hC dX4_init_60 fl_X4_11 (by first | exact h0 _ (by omega) | exact h1 _ (by omega) | exact h2 _ (by omega) | exact h3 _ _ (by omega) (by omega)) rfl (show _ = o + 1 from by simp [rL]) (by omega) ?_
        refine gx_iload_n (i := 1) hC dX4_init_63 rfl rfl ?_
        refine gx_new hC dX4_init_64 cL_X4_9 ((h3 (o + (3 + j) + 1) j (by omega) (by omega)).2) (by omega) (fun k hk9 => ⟨(pSj (by omega)).trans (iL_d (by omega)), (rL_o (by omega)).trans (hR _ (by omega) _)⟩) ?_
        refine gx_dup hC dX4_init_67 (by first | rfl | exact isR_cat kv_isR | exact isR_cat aref_isR) ?_
        refine gx_iload_n (i := 1) hC dX4_init_68 rfl rfl ?_
        refine gx_callI hC dX4_init_69 (c_X0_init _ _ (h3 _ _ (by omega) (by omega)) _) kY_X0_init kI_X0_init rfl ml_X4_38 (by decide) rfl rfl rfl (by first | exact Nat.le_of_ble_eq_true rfl | (simp [Value.category, isR_cat kv_isR, isR_cat aref_isR]; done)) (Nat.le_refl _) (by omega) ?_
        rw [up_S (by omega), up_S (by omega), iL_s]
        refine gx_aast hC dX4_init_72 (by first | exact h0 _ (by omega) | exact h1 _ (by omega) | exact h2 _ (by omega) | exact h3 _ _ (by omega) (by omega)) (Or.inl ⟨rfl, h3 _ _ (by omega) (by omega)⟩) (by exact vpn (by omega) (by decide)) (by omega) ?_
        rw [nI_clamp (show j < 2 ^ 31 by omega), rL_s]
        refine gx_iinc (i := 1) (L' := [_, _]) hC dX4_init_73 rfl (ii_1 _) (Nat.le_of_ble_eq_true rfl) rfl (fun u h9 => by first | exact Or.inl rfl | (right; cases h9; first | rfl | exact isR_cat aref_isR | exact isR_cat kv_isR)) ?_
        refine gx_goto (tgt := 50) hC dX4_init_76 (by decide) ?_
        exact ih (j + 1) (by omega) (by omega)
  rw [rL_0]
  have h9 := loop_50 21 0 (by omega) (by omega)
  rw [iL_0] at h9
  exact h9
theorem d_X4_init {l : Launch} {z : hZt} {M : hMem} {R : hRef} {o : Nat} (hty : ∀ j, j < 23 → ty (o + j) = tyS j) (hM : ∀ j, j < 23 → ∀ k, M (o + j) k = dS j k) (hR : ∀ j, j < 23 → ∀ k, R (o + j) k = 0) : hCt l z m_X4_init [.ref (z.1 + o)] (o + 1) M R (o + 23) none (putS M o iS) (rS R o) := by
  have h := c_X4_init l z (M := M) hty hR
  rw [putS_d hM] at h
  exact h
end
section
/-! the shape of the stack's cells, which stays -/
def hBas (b : Nat) : Prop := ∃ i, i < 5 ∧ b = 49 + 23 * i
def GS (n : Nat) (R : hRef) : Prop := 215 ≤ n ∧ (hSt n R 1 ∧ hSt n R 24 ∧ (∀ b, hBas b → hSt n R b) ∧ hSt n R 167 ∧ hSt n R 190) ∧
  (R 0 0 = 1 ∧ R 0 1 = 24 ∧ R 0 2 = 47 ∧ R 0 3 = 164 ∧ R 0 4 = 213) ∧ (R 47 0 = 48 ∧ R 164 0 = 165 ∧ R 164 1 = 166 ∧ R 165 0 = 167 ∧ R 165 1 = 190 ∧ R 213 0 = 214) ∧
  (∀ j, j < 5 → hBas (R 48 j)) ∧ ∀ i j, i < 5 → j < 5 → R 48 i = R 48 j → i = j
theorem GS.big {n : Nat} {R : hRef} (h : GS n R) : 215 ≤ n := h.1
theorem GS.now {n : Nat} {R : hRef} (h : GS n R) : hSt n R 1 := h.2.1.1
theorem GS.ahd {n : Nat} {R : hRef} (h : GS n R) : hSt n R 24 := h.2.1.2.1
theorem GS.hb {n : Nat} {R : hRef} (h : GS n R) {b : Nat} (hb : hBas b) : hSt n R b := h.2.1.2.2.1 b hb
theorem GS.s0 {n : Nat} {R : hRef} (h : GS n R) : hSt n R 167 := h.2.1.2.2.2.1
theorem GS.s1 {n : Nat} {R : hRef} (h : GS n R) : hSt n R 190 := h.2.1.2.2.2.2
theorem GS.r0 {n : Nat} {R : hRef} (h : GS n R) : R 0 0 = 1 := h.2.2.1.1
theorem GS.r1 {n : Nat} {R : hRef} (h : GS n R) : R 0 1 = 24 := h.2.2.1.2.1
theorem GS.r2 {n : Nat} {R : hRef} (h : GS n R) : R 0 2 = 47 := h.2.2.1.2.2.1
theorem GS.r3 {n : Nat} {R : hRef} (h : GS n R) : R 0 3 = 164 := h.2.2.1.2.2.2.1
theorem GS.r4 {n : Nat} {R : hRef} (h : GS n R) : R 0 4 = 213 := h.2.2.1.2.2.2.2
theorem GS.q0 {n : Nat} {R : hRef} (h : GS n R) : R 47 0 = 48 := h.2.2.2.1.1
theorem GS.q1 {n : Nat} {R : hRef} (h : GS n R) : R 164 0 = 165 := h.2.2.2.1.2.1
theorem GS.q2 {n : Nat} {R : hRef} (h : GS n R) : R 164 1 = 166 := h.2.2.2.1.2.2.1
theorem GS.q3 {n : Nat} {R : hRef} (h : GS n R) : R 165 0 = 167 := h.2.2.2.1.2.2.2.1
theorem GS.q4 {n : Nat} {R : hRef} (h : GS n R) : R 165 1 = 190 := h.2.2.2.1.2.2.2.2.1
theorem GS.q5 {n : Nat} {R : hRef} (h : GS n R) : R 213 0 = 214 := h.2.2.2.1.2.2.2.2.2
theorem GS.bs {n : Nat} {R : hRef} (h : GS n R) {j : Nat} (hj : j < 5) : hBas (R 48 j) := h.2.2.2.2.1 j hj
theorem GS.inj {n : Nat} {R : hRef} (h : GS n R) {i j : Nat} (hi : i < 5) (hj : j < 5) (e : R 48 i = R 48 j) : i = j := h.2.2.2.2.2 i j hi hj e
theorem GS.at0 {n : Nat} {R : hRef} (h : GS n R) : hAt n 0 (0, 5) := ⟨by have := h.1; omega, by decide⟩
theorem GS.at47 {n : Nat} {R : hRef} (h : GS n R) : hAt n 47 (0, 1) := ⟨by have := h.1; omega, by decide⟩
theorem GS.at48 {n : Nat} {R : hRef} (h : GS n R) : hAt n 48 (5, 5) := ⟨by have := h.1; omega, by decide⟩
theorem GS.at164 {n : Nat} {R : hRef} (h : GS n R) : hAt n 164 (0, 2) := ⟨by have := h.1; omega, by decide⟩
theorem GS.at165 {n : Nat} {R : hRef} (h : GS n R) : hAt n 165 (5, 2) := ⟨by have := h.1; omega, by decide⟩
theorem GS.at166 {n : Nat} {R : hRef} (h : GS n R) : hAt n 166 (2, 2) := ⟨by have := h.1; omega, by decide⟩
theorem GS.at213 {n : Nat} {R : hRef} (h : GS n R) : hAt n 213 (0, 4) := ⟨by have := h.1; omega, by decide⟩
theorem GS.at214 {n : Nat} {R : hRef} (h : GS n R) : hAt n 214 (3, 80) := ⟨by have := h.1; omega, by decide⟩
theorem hBas.ge {b : Nat} (h : hBas b) : 49 ≤ b ∧ b + 23 ≤ 164 := by
  obtain ⟨i, hi, rfl⟩ := h
  omega
def rotR (R : hRef) : hRef := fun b k => if b = 48 ∧ k < 4 then R 48 (k + 1) else if b = 48 ∧ k = 4 then R 48 0 else R b k
def rotL (R : hRef) (i : Nat) : hRef := fun b k => if b = 48 ∧ k < i then R 48 (k + 1) else R b k
theorem rotL_s {R : hRef} {i : Nat} : up2 (rotL R i) 48 i (R 48 (i + 1)) = rotL R (i + 1) := by
  funext b q
  unfold up2 rotL
  by_cases hb : b = 48
  · by_cases hq : q = i
    · simp [hb, hq]
    · by_cases h2 : q < i
      · simp [hb, hq, h2, show q < i + 1 by omega]
      · simp [hb, hq, h2, show ¬ q < i + 1 by omega]
  · simp [hb]
theorem rotL_0 {R : hRef} : rotL R 0 = R := by
  funext b q
  simp [rotL]
theorem rotL_4 {R : hRef} : up2 (rotL R 4) 48 4 (R 48 0) = rotR R := by
  funext b q
  unfold up2 rotL rotR
  by_cases hb : b = 48
  · by_cases hq : q = 4
    · simp [hb, hq]
    · by_cases h2 : q < 4
      · simp [hb, hq, h2]
      · simp [hb, hq, h2]
  · simp [hb]
theorem rotR_off {R : hRef} {b k : Nat} (h : b ≠ 48) : rotR R b k = R b k := by simp [rotR, h]
theorem rotR_48 {R : hRef} {j : Nat} (hj : j < 5) : rotR R 48 j = R 48 (if j = 4 then 0 else j + 1) := by
  unfold rotR
  by_cases h : j = 4
  · simp [h]
  · rw [if_pos ⟨rfl, by omega⟩, if_neg h]
theorem hSt_R {n : Nat} {R R' : hRef} {o : Nat} (h : hSt n R o) (h0 : ∀ k, R' o k = R o k) (h1 : ∀ k, R' (o + 1) k = R (o + 1) k) : hSt n R' o :=
  ⟨h.1, h.at, h.aa, h.ah, fun j hj => h.ac hj, (h0 0).trans h.ra, (h0 1).trans h.rh, fun j hj => (h1 j).trans (h.rc hj)⟩
theorem GS.rot {n : Nat} {R : hRef} (h : GS n R) : GS n (rotR R) := by
  have e : ∀ b, b ≠ 48 → ∀ k, rotR R b k = R b k := fun b hb k => rotR_off hb
  refine ⟨h.big, ⟨hSt_R h.now (e _ (by decide)) (e _ (by decide)), hSt_R h.ahd (e _ (by decide)) (e _ (by decide)), fun b hb => hSt_R (h.hb hb) (e _ (by have := hb.ge; omega)) (e _ (by have := hb.ge; omega)), hSt_R h.s0 (e _ (by decide)) (e _ (by decide)), hSt_R h.s1 (e _ (by decide)) (e _ (by decide))⟩,
    ⟨(e _ (by decide) _).trans h.r0, (e _ (by decide) _).trans h.r1, (e _ (by decide) _).trans h.r2, (e _ (by decide) _).trans h.r3, (e _ (by decide) _).trans h.r4⟩,
    ⟨(e _ (by decide) _).trans h.q0, (e _ (by decide) _).trans h.q1, (e _ (by decide) _).trans h.q2, (e _ (by decide) _).trans h.q3, (e _ (by decide) _).trans h.q4, (e _ (by decide) _).trans h.q5⟩, fun j hj => ?_, fun i j hi hj q => ?_⟩
  · rw [rotR_48 hj]
    exact h.bs (by split <;> omega)
  · rw [rotR_48 hi, rotR_48 hj] at q
    have := h.inj (by split <;> omega) (by split <;> omega) q
    split at this <;> split at this <;> omega
set_option maxHeartbeats 4000000 in
set_option maxRecDepth 20000 in
theorem c_X2_of (l : Launch) (z : hZt) {n : Nat} {M : hMem} {R : hRef} (x : Int32) : hCt l z m_X2_of [.int x] n M R n (some (kv z.2.1 x)) M R := by
  refine hs_start [some (.int x)] (by decide +kernel) rfl (by intro u hu; simp at hu; subst hu <;> first | rfl | exact isR_cat kv_isR | exact isR_cat aref_isR) (Nat.le_of_ble_eq_true rfl) (Nat.le_refl _) (fun X hlX hN hC hQ => ?_)
  dsimp only at hC hQ
  refine gx_iload_n (i := 0) hC dX2_of_0 rfl rfl ?_
  refine gx_table hC dX2_of_1 (by decide) (fun c_1 tg ht => ?_) (fun j f hf hj tg ht => ?_) (by decide)
  · obtain rfl : tg = 40 := by omega
    refine gx_aconst_null hC dX2_of_40 ?_
    exact gx_aret hC hQ dX2_of_41 (by first | exact kv_isR | exact Or.inl rfl) (by rw [kv_none (by rintro (q | q | q) <;> subst q <;> revert c_1 <;> decide)]) (rfl) rfl
  · match j, hf with
    | 0, hf =>
      obtain rfl : tg = 28 := by simp at hf; omega
      refine gx_getstatic hC dX2_of_28 0 (by decide) fl_X2_3 ?_
      exact gx_aret hC hQ dX2_of_31 (by first | exact kv_isR | exact Or.inl rfl) (by rw [show x = 0 from Int32.toInt_inj.mp (by rw [hj]; rfl)]; rfl) (rfl) rfl
    | 1, hf =>
      obtain rfl : tg = 32 := by simp at hf; omega
      refine gx_getstatic hC dX2_of_32 1 (by decide) fl_X2_7 ?_
      exact gx_aret hC hQ dX2_of_35 (by first | exact kv_isR | exact Or.inl rfl) (by rw [show x = 1 from Int32.toInt_inj.mp (by rw [hj]; rfl)]; rfl) (rfl) rfl
    | 2, hf =>
      obtain rfl : tg = 36 := by simp at hf; omega
      refine gx_getstatic hC dX2_of_36 2 (by decide) fl_X2_10 ?_
      exact gx_aret hC hQ dX2_of_39 (by first | exact kv_isR | exact Or.inl rfl) (by rw [show x = 2 from Int32.toInt_inj.mp (by rw [hj]; rfl)]; rfl) (rfl) rfl
    | q + 3, hf => simp at hf
set_option maxHeartbeats 4000000 in
set_option maxRecDepth 20000 in
theorem c_X1_dropOldest (l : Launch) (z : hZt) {n : Nat} {M : hMem} {R : hRef} (gG : GS n R) : hCt l z m_X1_dropOldest [.ref (z.1 + 47)] n M R n none (up2 M 47 1 (nI 4)) (rotR R) := by
  refine hs_start [some (.ref (z.1 + 47)), none, none] (by decide +kernel) rfl (by intro u hu; simp at hu; subst hu <;> first | rfl | exact isR_cat kv_isR | exact isR_cat aref_isR) (Nat.le_of_ble_eq_true rfl) (Nat.le_refl _) (fun X hlX hN hC hQ => ?_)
  dsimp only at hC hQ
  refine gx_aload_n (i := 0) hC dX1_dropOldest_0 rfl rfl (by first | exact Or.inr ⟨_, rfl⟩ | exact Or.inl rfl | exact kv_isR | exact aref_isR) ?_
  refine gx_getR hC dX1_dropOldest_1 fl_X1_11 (by first | exact gG.at0 | exact gG.at47 | exact gG.at48 | exact gG.at164 | exact gG.at165 | exact gG.at166 | exact gG.at213 | exact gG.at214 | exact gG.now.at | exact gG.ahd.at) rfl (gG.q0) (by decide) ?_
  refine gx_iconst (v := nI 0) hC dX1_dropOldest_4 ic_0n ?_
  refine gx_aald hC dX1_dropOldest_5 (by first | exact gG.at0 | exact gG.at47 | exact gG.at48 | exact gG.at164 | exact gG.at165 | exact gG.at166 | exact gG.at213 | exact gG.at214 | exact gG.now.at | exact gG.ahd.at) (by first | exact Or.inl rfl | exact Or.inr rfl) (by exact vpn (by decide) (by decide)) (show _ = R 48 0 from rfl) (by have := (gG.bs (show 0 < 5 by decide)).ge; omega) ?_
  refine gx_astore_n (i := 1) (L' := [_, _, _]) hC dX1_dropOldest_6 rfl (Nat.le_of_ble_eq_true rfl) rfl (fun u h9 => by first | exact Or.inl rfl | (right; cases h9; first | rfl | exact isR_cat aref_isR | exact isR_cat kv_isR)) (by first | exact Or.inr ⟨_, rfl⟩ | exact Or.inl rfl | exact kv_isR | exact aref_isR) ?_
  refine gx_iconst (v := nI 1) hC dX1_dropOldest_7 ic_1n ?_
  refine gx_istore_n (i := 2) (L' := [_, _, _]) hC dX1_dropOldest_8 rfl (Nat.le_of_ble_eq_true rfl) rfl (fun u h9 => by first | exact Or.inl rfl | (right; cases h9; first | rfl | exact isR_cat aref_isR | exact isR_cat kv_isR)) ?_
  have loop_9 : ∀ (k : Nat) (i : Nat), 4 - i < k → i ≤ 4 → hG z n X n M (rotL R i) 9 [some (.ref (z.1 + 47)), some (.ref (z.1 + R 48 0)), some (.int (nI (i + 1)))] [] := by
    intro k
    induction k with
    | zero => intros; omega
    | succ k ih =>
      intro i hk1 hi
      refine gx_iload_n (i := 2) hC dX1_dropOldest_9 rfl rfl ?_
      refine gx_aload_n (i := 0) hC dX1_dropOldest_10 rfl rfl (by first | exact Or.inr ⟨_, rfl⟩ | exact Or.inl rfl | exact kv_isR | exact aref_isR) ?_
      refine gx_getR hC dX1_dropOldest_11 fl_X1_11 (by first | exact gG.at0 | exact gG.at47 | exact gG.at48 | exact gG.at164 | exact gG.at165 | exact gG.at166 | exact gG.at213 | exact gG.at214 | exact gG.now.at | exact gG.ahd.at) rfl (show _ = 48 from by simp [rotL, gG.q0]) (by decide) ?_
      refine gx_alenN hC dX1_dropOldest_14 (by first | exact gG.at0 | exact gG.at47 | exact gG.at48 | exact gG.at164 | exact gG.at165 | exact gG.at166 | exact gG.at213 | exact gG.at214 | exact gG.now.at | exact gG.ahd.at) (by decide) ?_
      refine gx_icmp_ge (tgt := 38) hC dX1_dropOldest_15 (by decide) (fun c_15 => ?_) (fun c_15 => ?_)
      · have d_15 := cle (by omega) (by omega) c_15
        obtain rfl : i = 4 := by omega
        refine gx_aload_n (i := 0) hC dX1_dropOldest_38 rfl rfl (by first | exact Or.inr ⟨_, rfl⟩ | exact Or.inl rfl | exact kv_isR | exact aref_isR) ?_
        refine gx_getR hC dX1_dropOldest_39 fl_X1_11 (by first | exact gG.at0 | exact gG.at47 | exact gG.at48 | exact gG.at164 | exact gG.at165 | exact gG.at166 | exact gG.at213 | exact gG.at214 | exact gG.now.at | exact gG.ahd.at) rfl (show _ = 48 from by simp [rotL, gG.q0]) (by decide) ?_
        refine gx_aload_n (i := 0) hC dX1_dropOldest_42 rfl rfl (by first | exact Or.inr ⟨_, rfl⟩ | exact Or.inl rfl | exact kv_isR | exact aref_isR) ?_
        refine gx_getR hC dX1_dropOldest_43 fl_X1_11 (by first | exact gG.at0 | exact gG.at47 | exact gG.at48 | exact gG.at164 | exact gG.at165 | exact gG.at166 | exact gG.at213 | exact gG.at214 | exact gG.now.at | exact gG.ahd.at) rfl (show _ = 48 from by simp [rotL, gG.q0]) (by decide) ?_
        refine gx_alenN hC dX1_dropOldest_46 (by first | exact gG.at0 | exact gG.at47 | exact gG.at48 | exact gG.at164 | exact gG.at165 | exact gG.at166 | exact gG.at213 | exact gG.at214 | exact gG.now.at | exact gG.ahd.at) (by decide) ?_
        refine gx_iconst (v := 1) hC dX1_dropOldest_47 ic_1 ?_
        refine gx_isub hC dX1_dropOldest_48 ?_
        rw [show nI 5 - 1 = nI 4 from rfl]
        refine gx_aload_n (i := 1) hC dX1_dropOldest_49 rfl rfl (by first | exact Or.inr ⟨_, rfl⟩ | exact Or.inl rfl | exact kv_isR | exact aref_isR) ?_
        refine gx_aast hC dX1_dropOldest_50 (by first | exact gG.at0 | exact gG.at47 | exact gG.at48 | exact gG.at164 | exact gG.at165 | exact gG.at166 | exact gG.at213 | exact gG.at214 | exact gG.now.at | exact gG.ahd.at) (Or.inr ⟨rfl, (gG.hb (gG.bs (by decide))).at⟩) (by exact vpn (by decide) (by decide)) (by have := (gG.bs (show 0 < 5 by decide)).ge; omega) ?_
        rw [show (nI 4).toNatClampNeg = 4 from rfl, rotL_4]
        refine gx_aload_n (i := 0) hC dX1_dropOldest_51 rfl rfl (by first | exact Or.inr ⟨_, rfl⟩ | exact Or.inl rfl | exact kv_isR | exact aref_isR) ?_
        refine gx_aload_n (i := 0) hC dX1_dropOldest_52 rfl rfl (by first | exact Or.inr ⟨_, rfl⟩ | exact Or.inl rfl | exact kv_isR | exact aref_isR) ?_
        refine gx_getR hC dX1_dropOldest_53 fl_X1_11 (by first | exact gG.at0 | exact gG.at47 | exact gG.at48 | exact gG.at164 | exact gG.at165 | exact gG.at166 | exact gG.at213 | exact gG.at214 | exact gG.now.at | exact gG.ahd.at) rfl (show _ = 48 from (rotR_off (by decide)).trans gG.q0) (by decide) ?_
        refine gx_alenN hC dX1_dropOldest_56 (by first | exact gG.at0 | exact gG.at47 | exact gG.at48 | exact gG.at164 | exact gG.at165 | exact gG.at166 | exact gG.at213 | exact gG.at214 | exact gG.now.at | exact gG.ahd.at) (by decide) ?_
        refine gx_iconst (v := 1) hC dX1_dropOldest_57 ic_1 ?_
        refine gx_isub hC dX1_dropOldest_58 ?_
        rw [show nI 5 - 1 = nI 4 from rfl]
        refine gx_putI hC dX1_dropOldest_59 fl_X1_18 (by first | exact gG.at0 | exact gG.at47 | exact gG.at48 | exact gG.at164 | exact gG.at165 | exact gG.at166 | exact gG.at213 | exact gG.at214 | exact gG.now.at | exact gG.ahd.at) fn_1_1 rfl (rfl) ?_
        exact gx_vret hC hQ dX1_dropOldest_62 (rfl) rfl
      · have d_15 := cnle (by omega) (by omega) c_15
        refine gx_aload_n (i := 0) hC dX1_dropOldest_18 rfl rfl (by first | exact Or.inr ⟨_, rfl⟩ | exact Or.inl rfl | exact kv_isR | exact aref_isR) ?_
        refine gx_getR hC dX1_dropOldest_19 fl_X1_11 (by first | exact gG.at0 | exact gG.at47 | exact gG.at48 | exact gG.at164 | exact gG.at165 | exact gG.at166 | exact gG.at213 | exact gG.at214 | exact gG.now.at | exact gG.ahd.at) rfl (show _ = 48 from by simp [rotL, gG.q0]) (by decide) ?_
        refine gx_iload_n (i := 2) hC dX1_dropOldest_22 rfl rfl ?_
        refine gx_iconst (v := 1) hC dX1_dropOldest_23 ic_1 ?_
        refine gx_isub hC dX1_dropOldest_24 ?_
        rw [nI_p1]
        refine gx_aload_n (i := 0) hC dX1_dropOldest_25 rfl rfl (by first | exact Or.inr ⟨_, rfl⟩ | exact Or.inl rfl | exact kv_isR | exact aref_isR) ?_
        refine gx_getR hC dX1_dropOldest_26 fl_X1_11 (by first | exact gG.at0 | exact gG.at47 | exact gG.at48 | exact gG.at164 | exact gG.at165 | exact gG.at166 | exact gG.at213 | exact gG.at214 | exact gG.now.at | exact gG.ahd.at) rfl (show _ = 48 from by simp [rotL, gG.q0]) (by decide) ?_
        refine gx_iload_n (i := 2) hC dX1_dropOldest_29 rfl rfl ?_
        refine gx_aald hC dX1_dropOldest_30 (by first | exact gG.at0 | exact gG.at47 | exact gG.at48 | exact gG.at164 | exact gG.at165 | exact gG.at166 | exact gG.at213 | exact gG.at214 | exact gG.now.at | exact gG.ahd.at) (by first | exact Or.inl rfl | exact Or.inr rfl) (by exact vpn (by omega) (by decide)) (show _ = R 48 (i + 1) from by rw [nI_clamp (by omega)]; simp [rotL, show ¬ i + 1 < i by omega]) (by have := (gG.bs (show i + 1 < 5 by omega)).ge; omega) ?_
        refine gx_aast hC dX1_dropOldest_31 (by first | exact gG.at0 | exact gG.at47 | exact gG.at48 | exact gG.at164 | exact gG.at165 | exact gG.at166 | exact gG.at213 | exact gG.at214 | exact gG.now.at | exact gG.ahd.at) (Or.inr ⟨rfl, (gG.hb (gG.bs (by omega))).at⟩) (by exact vpn (by omega) (by decide)) (by have := (gG.bs (show i + 1 < 5 by omega)).ge; omega) ?_
        rw [nI_clamp (show i < 2 ^ 31 by omega), rotL_s]
        refine gx_iinc (i := 2) (L' := [_, _, _]) hC dX1_dropOldest_32 rfl (ii_1 _) (Nat.le_of_ble_eq_true rfl) rfl (fun u h9 => by first | exact Or.inl rfl | (right; cases h9; first | rfl | exact isR_cat aref_isR | exact isR_cat kv_isR)) ?_
        refine gx_goto (tgt := 9) hC dX1_dropOldest_35 (by decide) ?_
        exact ih (i + 1) (by omega) (by omega)
  have h9 := loop_9 5 0 (by omega) (by omega)
  rw [rotL_0] at h9
  exact h9
theorem getS_up {M : hMem} {o a k : Nat} {x : Int32} (h : a < o ∨ o + 23 ≤ a) : getS (up2 M a k x) o = getS M o := by
  funext i q
  unfold getS
  split
  · exact up2_off (by omega)
  · rfl
theorem getS_put {M f : hMem} {o p : Nat} (h : p + 23 ≤ o ∨ o + 23 ≤ p) : getS (putS M o f) p = getS M p := by
  funext i q
  unfold getS
  split
  · exact pSo (by omega)
  · rfl
theorem getS_at {M : hMem} {o i k : Nat} (h : i < 23) : getS M o i k = M (o + i) k := by unfold getS; rw [if_pos h]
theorem getS_0 {M : hMem} {o k : Nat} : getS M o 0 k = M o k := getS_at (by decide)
theorem putS_up {M f : hMem} {o a k : Nat} {x : Int32} (h : a < o ∨ o + 23 ≤ a) : up2 (putS M o f) a k x = putS (up2 M a k x) o f := by
  funext i q
  simp only [up2, putS]
  (repeat' split) <;> first | rfl | (exfalso; omega)
theorem up2_up {M : hMem} {a k : Nat} {x y : Int32} : up2 (up2 M a k x) a k y = up2 M a k y := by
  funext i q
  unfold up2
  split <;> rfl
theorem d_X4_copyFrom {l : Launch} {z : hZt} {n : Nat} {M : hMem} {R : hRef} {o p c : Nat} (hS : hSt n R o) (hT : hSt n R p) (hs : p + 23 ≤ o ∨ o + 23 ≤ p) (hcg : M p 2 = nI c) (hc : c ≤ 20) :
    hCt l z m_X4_copyFrom [.ref (z.1 + o), .ref (z.1 + p)] n M R n none (putS M o (sCopy (getS M o) (getS M p) c)) R := by
  have h := c_X4_copyFrom l z (M := M) (f := getS M o) hS hT hs (g := getS M p) (fun i hi k => getS_at hi) (getS_0.trans hcg) hc
  rw [putS_get] at h
  exact h
/-- the history takes the state at p -/
def pB (R : hRef) (s : Nat) : Nat := if s < 5 then R 48 s else R 48 0
def pR (R : hRef) (s : Nat) : hRef := if s < 5 then R else rotR R
def pM (M : hMem) (R : hRef) (s c : Nat) : hMem := up2 (putS M (pB R s) (sCopy (getS M (pB R s)) (getS M 1) c)) 47 1 (nI (if s < 5 then s + 1 else 5))
theorem pB_bas {n : Nat} {R : hRef} (h : GS n R) (s : Nat) : hBas (pB R s) := by
  unfold pB
  split
  · next hs => exact h.bs hs
  · exact h.bs (by decide)
theorem GSpR {n : Nat} {R : hRef} (h : GS n R) (s : Nat) : GS n (pR R s) := by
  unfold pR
  split
  · exact h
  · exact h.rot
set_option maxHeartbeats 4000000 in
set_option maxRecDepth 20000 in
theorem c_X1_push (l : Launch) (z : hZt) {n : Nat} {M : hMem} {R : hRef} (gG : GS n R) {s c : Nat} (hs : M 47 1 = nI s) (hs5 : s ≤ 5) (hc : M 1 2 = nI c) (hc20 : c ≤ 20) : hCt l z m_X1_push [.ref (z.1 + 47), .ref (z.1 + 1)] n M R n none (pM M R s c) (pR R s) := by
  refine hs_start [some (.ref (z.1 + 47)), some (.ref (z.1 + 1))] (by decide +kernel) rfl (by intro u hu; simp at hu; rcases hu with rfl | rfl <;> first | rfl | exact isR_cat kv_isR | exact isR_cat aref_isR) (Nat.le_of_ble_eq_true rfl) (Nat.le_refl _) (fun X hlX hN hC hQ => ?_)
  dsimp only at hC hQ
  have join : ∀ (R1 : hRef) (t : Nat), GS n R1 → t < 5 → pR R s = R1 → pB R s = R1 48 t → (if s < 5 then s + 1 else 5) = t + 1 → hG z n X n (up2 M 47 1 (nI t)) R1 16 [some (.ref (z.1 + 47)), some (.ref (z.1 + 1))] [] := by
    intro R1 t gG1 ht e1 e2 e3
    refine gx_aload_n (i := 0) hC dX1_push_16 rfl rfl (by first | exact Or.inr ⟨_, rfl⟩ | exact Or.inl rfl | exact kv_isR | exact aref_isR) ?_
    refine gx_getR hC dX1_push_17 fl_X1_11 (by first | exact gG1.at0 | exact gG1.at47 | exact gG1.at48 | exact gG1.at164 | exact gG1.at165 | exact gG1.at166 | exact gG1.at213 | exact gG1.at214 | exact gG1.now.at | exact gG1.ahd.at) rfl (gG1.q0) (by decide) ?_
    refine gx_aload_n (i := 0) hC dX1_push_20 rfl rfl (by first | exact Or.inr ⟨_, rfl⟩ | exact Or.inl rfl | exact kv_isR | exact aref_isR) ?_
    refine gx_getI hC dX1_push_21 fl_X1_18 (by first | exact gG1.at0 | exact gG1.at47 | exact gG1.at48 | exact gG1.at164 | exact gG1.at165 | exact gG1.at166 | exact gG1.at213 | exact gG1.at214 | exact gG1.now.at | exact gG1.ahd.at) (by decide) (up2_same) ?_
    refine gx_aald hC dX1_push_24 (by first | exact gG1.at0 | exact gG1.at47 | exact gG1.at48 | exact gG1.at164 | exact gG1.at165 | exact gG1.at166 | exact gG1.at213 | exact gG1.at214 | exact gG1.now.at | exact gG1.ahd.at) (by first | exact Or.inl rfl | exact Or.inr rfl) (by exact vpn ht (by decide)) (show _ = R1 48 t from by rw [nI_clamp (by omega)]) (by have := (gG1.bs ht).ge; omega) ?_
    refine gx_aload_n (i := 1) hC dX1_push_25 rfl rfl (by first | exact Or.inr ⟨_, rfl⟩ | exact Or.inl rfl | exact kv_isR | exact aref_isR) ?_
    refine gx_callV0 hC dX1_push_26 (d_X4_copyFrom (gG1.hb (gG1.bs ht)) gG1.now (Or.inl (by have := (gG1.bs ht).ge; omega)) (show up2 M 47 1 (nI t) 1 2 = nI c from (up2_off (by decide)).trans hc) hc20) kY_X4_copyFrom kV_X4_copyFrom ml_X1_25 (by exact (gG1.hb (gG1.bs ht)).at) rfl (by decide) rfl rfl rfl (by first | exact Nat.le_of_ble_eq_true rfl | (simp [Value.category, isR_cat kv_isR, isR_cat aref_isR]; done)) (Nat.le_refl _) (Nat.le_refl _) ?_
    refine gx_aload_n (i := 0) hC dX1_push_29 rfl rfl (by first | exact Or.inr ⟨_, rfl⟩ | exact Or.inl rfl | exact kv_isR | exact aref_isR) ?_
    refine gx_dup hC dX1_push_30 (by first | rfl | exact isR_cat kv_isR | exact isR_cat aref_isR) ?_
    refine gx_getI hC dX1_push_31 fl_X1_18 (by first | exact gG1.at0 | exact gG1.at47 | exact gG1.at48 | exact gG1.at164 | exact gG1.at165 | exact gG1.at166 | exact gG1.at213 | exact gG1.at214 | exact gG1.now.at | exact gG1.ahd.at) (by decide) (show _ = nI t from (pSo (Or.inl (by have := (gG1.bs ht).ge; omega))).trans up2_same) ?_
    refine gx_iconst (v := 1) hC dX1_push_34 ic_1 ?_
    refine gx_iadd hC dX1_push_35 ?_
    refine gx_putI hC dX1_push_36 fl_X1_18 (by first | exact gG1.at0 | exact gG1.at47 | exact gG1.at48 | exact gG1.at164 | exact gG1.at165 | exact gG1.at166 | exact gG1.at213 | exact gG1.at214 | exact gG1.now.at | exact gG1.ahd.at) fn_1_1 rfl (rfl) ?_
    exact gx_vret hC hQ dX1_push_39 (by
      unfold pM
      rw [e2, e3, nI_1]
      have hb := (gG1.bs ht).ge
      rw [getS_up (by omega), getS_up (by omega), ← putS_up (by omega), up2_up]) e1.symm
  refine gx_aload_n (i := 0) hC dX1_push_0 rfl rfl (by first | exact Or.inr ⟨_, rfl⟩ | exact Or.inl rfl | exact kv_isR | exact aref_isR) ?_
  refine gx_getI hC dX1_push_1 fl_X1_18 (by first | exact gG.at0 | exact gG.at47 | exact gG.at48 | exact gG.at164 | exact gG.at165 | exact gG.at166 | exact gG.at213 | exact gG.at214 | exact gG.now.at | exact gG.ahd.at) (by decide) (hs) ?_
  refine gx_aload_n (i := 0) hC dX1_push_4 rfl rfl (by first | exact Or.inr ⟨_, rfl⟩ | exact Or.inl rfl | exact kv_isR | exact aref_isR) ?_
  refine gx_getR hC dX1_push_5 fl_X1_11 (by first | exact gG.at0 | exact gG.at47 | exact gG.at48 | exact gG.at164 | exact gG.at165 | exact gG.at166 | exact gG.at213 | exact gG.at214 | exact gG.now.at | exact gG.ahd.at) rfl (gG.q0) (by decide) ?_
  refine gx_alenN hC dX1_push_8 (by first | exact gG.at0 | exact gG.at47 | exact gG.at48 | exact gG.at164 | exact gG.at165 | exact gG.at166 | exact gG.at213 | exact gG.at214 | exact gG.now.at | exact gG.ahd.at) (by decide) ?_
  refine gx_icmp_lt (tgt := 16) hC dX1_push_9 (by decide) (fun c_9 => ?_) (fun c_9 => ?_)
  · have d_9 := (nI_ltI (by omega) (by decide)).mp c_9
    have h9 := join R s gG d_9 (if_pos d_9) (if_pos d_9) (if_pos d_9)
    rw [← hs, up2_self] at h9
    exact h9
  · refine gx_aload_n (i := 0) hC dX1_push_12 rfl rfl (by first | exact Or.inr ⟨_, rfl⟩ | exact Or.inl rfl | exact kv_isR | exact aref_isR) ?_
    refine gx_callV0 hC dX1_push_13 (c_X1_dropOldest _ _ gG) kY_X1_dropOldest kV_X1_dropOldest ml_X1_22 (by first | exact gG.at0 | exact gG.at47 | exact gG.at48 | exact gG.at164 | exact gG.at165 | exact gG.at166 | exact gG.at213 | exact gG.at214 | exact gG.now.at | exact gG.ahd.at) rfl (by decide) rfl rfl rfl (by first | exact Nat.le_of_ble_eq_true rfl | (simp [Value.category, isR_cat kv_isR, isR_cat aref_isR]; done)) (Nat.le_refl _) (Nat.le_refl _) ?_
    have d_9 := mt (nI_ltI (show s < 2 ^ 31 by omega) (show 5 < 2 ^ 31 by decide)).mpr c_9
    exact join (rotR R) 4 gG.rot (by decide) (if_neg d_9) (by unfold pB; rw [if_neg d_9, rotR_48 (by decide)]; rfl) (if_neg d_9)
end
