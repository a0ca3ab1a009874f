-- ===== PART A: goes FIRST, ahead of the names: the tables' words, and 'selects' of the private methods out of them =====
/-- a private method of a class that the tables say can be made, by its rows of tables_1 -/
def lw_okq (q : MethodName × Nat) : Prop := (q.1.cls ≠ "java/lang/invoke/MethodHandle" ∧ q.1.cls ≠ "java/lang/invoke/VarHandle") ∧ Cond.instantiable q.1.cls q.2 ∈ tables_1 ∧ Cond.privateMethod q.1 ∈ tables_1 ∧ Cond.instanceMethod q.1 ∈ tables_1
theorem lw_p0 : lw_okq (⟨"HoldingStack$History", "dropOldest", "()V"⟩, 2) := ⟨⟨by decide +kernel, by decide +kernel⟩, List.mem_of_getElem? (i := 143) (by decide +kernel), List.mem_of_getElem? (i := 237) (by decide +kernel), List.mem_of_getElem? (i := 238) (by decide +kernel)⟩
theorem lw_p1 : lw_okq (⟨"HoldingStack", "checkEntry", "(LHoldingStack$Kind;II)I"⟩, 5) := ⟨⟨by decide +kernel, by decide +kernel⟩, List.mem_of_getElem? (i := 12) (by decide +kernel), List.mem_of_getElem? (i := 300) (by decide +kernel), List.mem_of_getElem? (i := 301) (by decide +kernel)⟩
theorem lw_p2 : lw_okq (⟨"HoldingStack$State", "setHolder", "(II)V"⟩, 16) := ⟨⟨by decide +kernel, by decide +kernel⟩, List.mem_of_getElem? (i := 20) (by decide +kernel), List.mem_of_getElem? (i := 328) (by decide +kernel), List.mem_of_getElem? (i := 329) (by decide +kernel)⟩
theorem lw_p3 : lw_okq (⟨"HoldingStack", "checkCall", "(I)I"⟩, 5) := ⟨⟨by decide +kernel, by decide +kernel⟩, List.mem_of_getElem? (i := 12) (by decide +kernel), List.mem_of_getElem? (i := 336) (by decide +kernel), List.mem_of_getElem? (i := 337) (by decide +kernel)⟩
theorem lw_p4 : lw_okq (⟨"HoldingStack$State", "burnAndFly", "()V"⟩, 16) := ⟨⟨by decide +kernel, by decide +kernel⟩, List.mem_of_getElem? (i := 20) (by decide +kernel), List.mem_of_getElem? (i := 361) (by decide +kernel), List.mem_of_getElem? (i := 362) (by decide +kernel)⟩
theorem lw_p5 : lw_okq (⟨"HoldingStack$State", "divertStarved", "()V"⟩, 16) := ⟨⟨by decide +kernel, by decide +kernel⟩, List.mem_of_getElem? (i := 20) (by decide +kernel), List.mem_of_getElem? (i := 380) (by decide +kernel), List.mem_of_getElem? (i := 381) (by decide +kernel)⟩
theorem lw_p6 : lw_okq (⟨"HoldingStack$State", "leave", "(LHoldingStack$Aircraft;I)V"⟩, 16) := ⟨⟨by decide +kernel, by decide +kernel⟩, List.mem_of_getElem? (i := 20) (by decide +kernel), List.mem_of_getElem? (i := 388) (by decide +kernel), List.mem_of_getElem? (i := 389) (by decide +kernel)⟩
theorem lw_p7 : lw_okq (⟨"HoldingStack$State", "landOne", "()I"⟩, 16) := ⟨⟨by decide +kernel, by decide +kernel⟩, List.mem_of_getElem? (i := 20) (by decide +kernel), List.mem_of_getElem? (i := 392) (by decide +kernel), List.mem_of_getElem? (i := 393) (by decide +kernel)⟩
theorem lw_p8 : lw_okq (⟨"HoldingStack$State", "nextToLand", "()LHoldingStack$Aircraft;"⟩, 16) := ⟨⟨by decide +kernel, by decide +kernel⟩, List.mem_of_getElem? (i := 20) (by decide +kernel), List.mem_of_getElem? (i := 396) (by decide +kernel), List.mem_of_getElem? (i := 397) (by decide +kernel)⟩
theorem lw_p9 : lw_okq (⟨"HoldingStack$State", "goDownLadder", "()V"⟩, 16) := ⟨⟨by decide +kernel, by decide +kernel⟩, List.mem_of_getElem? (i := 20) (by decide +kernel), List.mem_of_getElem? (i := 408) (by decide +kernel), List.mem_of_getElem? (i := 409) (by decide +kernel)⟩
theorem lw_p10 : lw_okq (⟨"HoldingStack", "tellNumberOfAircraft", "(I)I"⟩, 5) := ⟨⟨by decide +kernel, by decide +kernel⟩, List.mem_of_getElem? (i := 12) (by decide +kernel), List.mem_of_getElem? (i := 424) (by decide +kernel), List.mem_of_getElem? (i := 425) (by decide +kernel)⟩
theorem lw_p11 : lw_okq (⟨"HoldingStack", "tellFuel", "(I)I"⟩, 5) := ⟨⟨by decide +kernel, by decide +kernel⟩, List.mem_of_getElem? (i := 12) (by decide +kernel), List.mem_of_getElem? (i := 429) (by decide +kernel), List.mem_of_getElem? (i := 430) (by decide +kernel)⟩
theorem lw_p12 : lw_okq (⟨"HoldingStack", "forecast", "()V"⟩, 5) := ⟨⟨by decide +kernel, by decide +kernel⟩, List.mem_of_getElem? (i := 12) (by decide +kernel), List.mem_of_getElem? (i := 437) (by decide +kernel), List.mem_of_getElem? (i := 438) (by decide +kernel)⟩
theorem lw_p13 : lw_okq (⟨"HoldingStack", "forecastMinutes", "(I)I"⟩, 5) := ⟨⟨by decide +kernel, by decide +kernel⟩, List.mem_of_getElem? (i := 12) (by decide +kernel), List.mem_of_getElem? (i := 447) (by decide +kernel), List.mem_of_getElem? (i := 448) (by decide +kernel)⟩
theorem lw_p14 : lw_okq (⟨"HoldingStack$Slots", "has", "(I)Z"⟩, 2) := ⟨⟨by decide +kernel, by decide +kernel⟩, List.mem_of_getElem? (i := 160) (by decide +kernel), List.mem_of_getElem? (i := 480) (by decide +kernel), List.mem_of_getElem? (i := 481) (by decide +kernel)⟩
theorem lw_p15 : lw_okq (⟨"HoldingStack$Strips", "peek", "()C"⟩, 8) := ⟨⟨by decide +kernel, by decide +kernel⟩, List.mem_of_getElem? (i := 176) (by decide +kernel), List.mem_of_getElem? (i := 550) (by decide +kernel), List.mem_of_getElem? (i := 551) (by decide +kernel)⟩
def lw_privs_1 : List (MethodName × Nat) := [(⟨"HoldingStack$History", "dropOldest", "()V"⟩, 2), (⟨"HoldingStack", "checkEntry", "(LHoldingStack$Kind;II)I"⟩, 5), (⟨"HoldingStack$State", "setHolder", "(II)V"⟩, 16), (⟨"HoldingStack", "checkCall", "(I)I"⟩, 5), (⟨"HoldingStack$State", "burnAndFly", "()V"⟩, 16), (⟨"HoldingStack$State", "divertStarved", "()V"⟩, 16), (⟨"HoldingStack$State", "leave", "(LHoldingStack$Aircraft;I)V"⟩, 16), (⟨"HoldingStack$State", "landOne", "()I"⟩, 16), (⟨"HoldingStack$State", "nextToLand", "()LHoldingStack$Aircraft;"⟩, 16), (⟨"HoldingStack$State", "goDownLadder", "()V"⟩, 16), (⟨"HoldingStack", "tellNumberOfAircraft", "(I)I"⟩, 5), (⟨"HoldingStack", "tellFuel", "(I)I"⟩, 5), (⟨"HoldingStack", "forecast", "()V"⟩, 5), (⟨"HoldingStack", "forecastMinutes", "(I)I"⟩, 5), (⟨"HoldingStack$Slots", "has", "(I)Z"⟩, 2), (⟨"HoldingStack$Strips", "peek", "()C"⟩, 8)]
theorem lw_r1 : ∀ q ∈ lw_privs_1, lw_okq q := List.forall_mem_cons.mpr ⟨lw_p0, List.forall_mem_cons.mpr ⟨lw_p1, List.forall_mem_cons.mpr ⟨lw_p2, List.forall_mem_cons.mpr ⟨lw_p3, List.forall_mem_cons.mpr ⟨lw_p4, List.forall_mem_cons.mpr ⟨lw_p5, List.forall_mem_cons.mpr ⟨lw_p6, List.forall_mem_cons.mpr ⟨lw_p7, List.forall_mem_cons.mpr ⟨lw_p8, List.forall_mem_cons.mpr ⟨lw_p9, List.forall_mem_cons.mpr ⟨lw_p10, List.forall_mem_cons.mpr ⟨lw_p11, List.forall_mem_cons.mpr ⟨lw_p12, List.forall_mem_cons.mpr ⟨lw_p13, List.forall_mem_cons.mpr ⟨lw_p14, List.forall_mem_cons.mpr ⟨lw_p15, fun _ h => absurd h List.not_mem_nil⟩⟩⟩⟩⟩⟩⟩⟩⟩⟩⟩⟩⟩⟩⟩⟩
theorem lw_p16 : lw_okq (⟨"HoldingStack$Strips", "readEntry", "()V"⟩, 8) := ⟨⟨by decide +kernel, by decide +kernel⟩, List.mem_of_getElem? (i := 176) (by decide +kernel), List.mem_of_getElem? (i := 554) (by decide +kernel), List.mem_of_getElem? (i := 555) (by decide +kernel)⟩
theorem lw_p17 : lw_okq (⟨"HoldingStack$Strips", "readKind", "()LHoldingStack$Kind;"⟩, 8) := ⟨⟨by decide +kernel, by decide +kernel⟩, List.mem_of_getElem? (i := 176) (by decide +kernel), List.mem_of_getElem? (i := 558) (by decide +kernel), List.mem_of_getElem? (i := 559) (by decide +kernel)⟩
theorem lw_p18 : lw_okq (⟨"HoldingStack$Strips", "fail", "(I)V"⟩, 8) := ⟨⟨by decide +kernel, by decide +kernel⟩, List.mem_of_getElem? (i := 176) (by decide +kernel), List.mem_of_getElem? (i := 562) (by decide +kernel), List.mem_of_getElem? (i := 563) (by decide +kernel)⟩
theorem lw_p19 : lw_okq (⟨"HoldingStack$Strips", "readNumber", "(II)I"⟩, 8) := ⟨⟨by decide +kernel, by decide +kernel⟩, List.mem_of_getElem? (i := 176) (by decide +kernel), List.mem_of_getElem? (i := 569) (by decide +kernel), List.mem_of_getElem? (i := 570) (by decide +kernel)⟩
theorem lw_p20 : lw_okq (⟨"HoldingStack$Strips", "expect", "(C)V"⟩, 8) := ⟨⟨by decide +kernel, by decide +kernel⟩, List.mem_of_getElem? (i := 176) (by decide +kernel), List.mem_of_getElem? (i := 576) (by decide +kernel), List.mem_of_getElem? (i := 577) (by decide +kernel)⟩
theorem lw_p21 : lw_okq (⟨"HoldingStack", "carryOutStrip", "()I"⟩, 5) := ⟨⟨by decide +kernel, by decide +kernel⟩, List.mem_of_getElem? (i := 12) (by decide +kernel), List.mem_of_getElem? (i := 600) (by decide +kernel), List.mem_of_getElem? (i := 601) (by decide +kernel)⟩
def lw_privs_2 : List (MethodName × Nat) := [(⟨"HoldingStack$Strips", "readEntry", "()V"⟩, 8), (⟨"HoldingStack$Strips", "readKind", "()LHoldingStack$Kind;"⟩, 8), (⟨"HoldingStack$Strips", "fail", "(I)V"⟩, 8), (⟨"HoldingStack$Strips", "readNumber", "(II)I"⟩, 8), (⟨"HoldingStack$Strips", "expect", "(C)V"⟩, 8), (⟨"HoldingStack", "carryOutStrip", "()I"⟩, 5)]
theorem lw_r2 : ∀ q ∈ lw_privs_2, lw_okq q := List.forall_mem_cons.mpr ⟨lw_p16, List.forall_mem_cons.mpr ⟨lw_p17, List.forall_mem_cons.mpr ⟨lw_p18, List.forall_mem_cons.mpr ⟨lw_p19, List.forall_mem_cons.mpr ⟨lw_p20, List.forall_mem_cons.mpr ⟨lw_p21, fun _ h => absurd h List.not_mem_nil⟩⟩⟩⟩⟩⟩
def lw_privs : List (MethodName × Nat) := lw_privs_1 ++ (lw_privs_2)
def lw_tbl : List Cond := k2_sels lw_privs ++ tables_1
theorem lw_privs_ok : ∀ q ∈ lw_privs, lw_okq q := by
  show ∀ q ∈ lw_privs_1 ++ (lw_privs_2), lw_okq q
  exact List.forall_mem_append.mpr ⟨lw_r1, lw_r2⟩

def RX0 : String := "HoldingStack$Aircraft"
def TX0 : u_T := fun k => match k with
  | 0 => ("HoldingStack$Aircraft", "number", "I", true)
  | 1 => ("HoldingStack$Aircraft", "kind", "LHoldingStack$Kind;", false)
  | 2 => ("HoldingStack$Aircraft", "fuel", "I", false)
  | 3 => ("HoldingStack$Aircraft", "status", "I", false)
  | 4 => ("HoldingStack$Aircraft", "level", "I", false)
  | 5 => ("HoldingStack$Aircraft", "place", "I", false)
  | 6 => ("HoldingStack$Aircraft", "called", "Z", false)
  | _ => ("HoldingStack$Aircraft", "endTime", "I", false)
def tyX0 : Nat → FieldType := fun k => match k with
  | 0 => .int
  | 1 => .object "HoldingStack$Kind"
  | 2 => .int
  | 3 => .int
  | 4 => .int
  | 5 => .int
  | 6 => .boolean
  | _ => .int
abbrev wsX00 : List Cond := u_ws RX0 TX0 8
theorem nmX0 : ∀ a, a < 8 → ∀ b, b < 8 → a ≠ b → (TX0 a).2.1 ≠ (TX0 b).2.1 := by decide +kernel
theorem tyX0_ok : ∀ k, k < 8 → parseFieldDescriptor (TX0 k).2.2.1 = some (tyX0 k) := by decide +kernel
abbrev cX0_init : ByteArray := prog_2_method_1_code
def yX0_init : MethodName := ⟨RX0, "<init>", "(I)V"⟩
abbrev cX0_copyFrom : ByteArray := prog_2_method_2_code
def yX0_copyFrom : MethodName := ⟨RX0, "copyFrom", "(LHoldingStack$Aircraft;)V"⟩
abbrev cX0_isHolding : ByteArray := prog_2_method_3_code
def yX0_isHolding : MethodName := ⟨RX0, "isHolding", "()Z"⟩
abbrev cX0_isOverFix : ByteArray := prog_2_method_4_code
def yX0_isOverFix : MethodName := ⟨RX0, "isOverFix", "()Z"⟩
abbrev cX0_isShort : ByteArray := prog_2_method_5_code
def yX0_isShort : MethodName := ⟨RX0, "isShort", "()Z"⟩
abbrev cX0_mustDivert : ByteArray := prog_2_method_6_code
def yX0_mustDivert : MethodName := ⟨RX0, "mustDivert", "()Z"⟩
abbrev cX0_burnPerMinute : ByteArray := prog_2_method_7_code
def yX0_burnPerMinute : MethodName := ⟨RX0, "burnPerMinute", "()I"⟩
abbrev cX0_minutesUntilShort : ByteArray := prog_2_method_8_code
def yX0_minutesUntilShort : MethodName := ⟨RX0, "minutesUntilShort", "()I"⟩
abbrev cX0_burnForMinute : ByteArray := prog_2_method_9_code
def yX0_burnForMinute : MethodName := ⟨RX0, "burnForMinute", "()I"⟩
abbrev cX0_flyMinute : ByteArray := prog_2_method_10_code
def yX0_flyMinute : MethodName := ⟨RX0, "flyMinute", "(I)V"⟩
def RX1 : String := "HoldingStack$History"
def TX1 : u_T := fun k => match k with
  | 0 => ("HoldingStack$History", "states", "[LHoldingStack$State;", true)
  | _ => ("HoldingStack$History", "size", "I", false)
def tyX1 : Nat → FieldType := fun k => match k with
  | 0 => .array (.object "HoldingStack$State")
  | _ => .int
abbrev wsX10 : List Cond := u_ws RX1 TX1 2
theorem nmX1 : ∀ a, a < 2 → ∀ b, b < 2 → a ≠ b → (TX1 a).2.1 ≠ (TX1 b).2.1 := by decide +kernel
theorem tyX1_ok : ∀ k, k < 2 → parseFieldDescriptor (TX1 k).2.2.1 = some (tyX1 k) := by decide +kernel
abbrev cX1_init : ByteArray := prog_3_method_1_code
def yX1_init : MethodName := ⟨RX1, "<init>", "()V"⟩
abbrev cX1_push : ByteArray := prog_3_method_2_code
def yX1_push : MethodName := ⟨RX1, "push", "(LHoldingStack$State;)V"⟩
abbrev cX1_dropOldest : ByteArray := prog_3_method_3_code
def yX1_dropOldest : MethodName := ⟨RX1, "dropOldest", "()V"⟩
abbrev cX1_popInto : ByteArray := prog_3_method_4_code
def yX1_popInto : MethodName := ⟨RX1, "popInto", "(LHoldingStack$State;)Z"⟩
def RX2 : String := "HoldingStack$Kind"
def TX2 : u_T := fun k => match k with
  | _ => ("", "", "", false)
def tyX2 : Nat → FieldType := fun k => match k with
  | _ => .int
abbrev wsX20 : List Cond := u_ws RX2 TX2 0
theorem nmX2 : ∀ a, a < 0 → ∀ b, b < 0 → a ≠ b → (TX2 a).2.1 ≠ (TX2 b).2.1 := by decide +kernel
theorem tyX2_ok : ∀ k, k < 0 → parseFieldDescriptor (TX2 k).2.2.1 = some (tyX2 k) := by decide +kernel
abbrev cX2_of : ByteArray := prog_4_method_4_code
def yX2_of : MethodName := ⟨RX2, "of", "(I)LHoldingStack$Kind;"⟩
def RX3 : String := "HoldingStack$Slots"
def TX3 : u_T := fun k => match k with
  | 0 => ("HoldingStack$Slots", "states", "[LHoldingStack$State;", true)
  | _ => ("HoldingStack$Slots", "filled", "[Z", true)
def tyX3 : Nat → FieldType := fun k => match k with
  | 0 => .array (.object "HoldingStack$State")
  | _ => .array .boolean
abbrev wsX30 : List Cond := u_ws RX3 TX3 2
theorem nmX3 : ∀ a, a < 2 → ∀ b, b < 2 → a ≠ b → (TX3 a).2.1 ≠ (TX3 b).2.1 := by decide +kernel
theorem tyX3_ok : ∀ k, k < 2 → parseFieldDescriptor (TX3 k).2.2.1 = some (tyX3 k) := by decide +kernel
abbrev cX3_init : ByteArray := prog_5_method_1_code
def yX3_init : MethodName := ⟨RX3, "<init>", "()V"⟩
abbrev cX3_has : ByteArray := prog_5_method_2_code
def yX3_has : MethodName := ⟨RX3, "has", "(I)Z"⟩
abbrev cX3_put : ByteArray := prog_5_method_3_code
def yX3_put : MethodName := ⟨RX3, "put", "(ILHoldingStack$State;)Z"⟩
abbrev cX3_get : ByteArray := prog_5_method_4_code
def yX3_get : MethodName := ⟨RX3, "get", "(I)LHoldingStack$State;"⟩
def RX4 : String := "HoldingStack$State"
def TX4 : u_T := fun k => match k with
  | 0 => ("HoldingStack$State", "aircraft", "[LHoldingStack$Aircraft;", true)
  | 1 => ("HoldingStack$State", "holders", "[I", true)
  | 2 => ("HoldingStack$State", "count", "I", false)
  | 3 => ("HoldingStack$State", "levels", "I", false)
  | 4 => ("HoldingStack$State", "lap", "I", false)
  | 5 => ("HoldingStack$State", "limit", "I", false)
  | 6 => ("HoldingStack$State", "runwayOpen", "Z", false)
  | 7 => ("HoldingStack$State", "ladderAutomatic", "Z", false)
  | 8 => ("HoldingStack$State", "wait", "I", false)
  | 9 => ("HoldingStack$State", "time", "I", false)
  | 10 => ("HoldingStack$State", "steps", "I", false)
  | 11 => ("HoldingStack$State", "fuelEntered", "I", false)
  | 12 => ("HoldingStack$State", "fuelBurned", "I", false)
  | 13 => ("HoldingStack$State", "fuelLanded", "I", false)
  | 14 => ("HoldingStack$State", "fuelDiverted", "I", false)
  | _ => ("HoldingStack$State", "reason", "I", false)
def tyX4 : Nat → FieldType := fun k => match k with
  | 0 => .array (.object "HoldingStack$Aircraft")
  | 1 => .array .int
  | 2 => .int
  | 3 => .int
  | 4 => .int
  | 5 => .int
  | 6 => .boolean
  | 7 => .boolean
  | 8 => .int
  | 9 => .int
  | 10 => .int
  | 11 => .int
  | 12 => .int
  | 13 => .int
  | 14 => .int
  | _ => .int
abbrev wsX40 : List Cond := u_ws RX4 TX4 16
theorem nmX4 : ∀ a, a < 16 → ∀ b, b < 16 → a ≠ b → (TX4 a).2.1 ≠ (TX4 b).2.1 := by decide +kernel
theorem tyX4_ok : ∀ k, k < 16 → parseFieldDescriptor (TX4 k).2.2.1 = some (tyX4 k) := by decide +kernel
abbrev cX4_init : ByteArray := prog_6_method_1_code
def yX4_init : MethodName := ⟨RX4, "<init>", "()V"⟩
abbrev cX4_copyFrom : ByteArray := prog_6_method_2_code
def yX4_copyFrom : MethodName := ⟨RX4, "copyFrom", "(LHoldingStack$State;)V"⟩
abbrev cX4_beginAnew : ByteArray := prog_6_method_3_code
def yX4_beginAnew : MethodName := ⟨RX4, "beginAnew", "(I)V"⟩
abbrev cX4_changeLap : ByteArray := prog_6_method_4_code
def yX4_changeLap : MethodName := ⟨RX4, "changeLap", "(I)V"⟩
abbrev cX4_hasLevel : ByteArray := prog_6_method_5_code
def yX4_hasLevel : MethodName := ⟨RX4, "hasLevel", "(I)Z"⟩
abbrev cX4_isFull : ByteArray := prog_6_method_6_code
def yX4_isFull : MethodName := ⟨RX4, "isFull", "()Z"⟩
abbrev cX4_numbered : ByteArray := prog_6_method_7_code
def yX4_numbered : MethodName := ⟨RX4, "numbered", "(I)LHoldingStack$Aircraft;"⟩
abbrev cX4_holderOf : ByteArray := prog_6_method_8_code
def yX4_holderOf : MethodName := ⟨RX4, "holderOf", "(I)LHoldingStack$Aircraft;"⟩
abbrev cX4_isFree : ByteArray := prog_6_method_9_code
def yX4_isFree : MethodName := ⟨RX4, "isFree", "(I)Z"⟩
abbrev cX4_setHolder : ByteArray := prog_6_method_10_code
def yX4_setHolder : MethodName := ⟨RX4, "setHolder", "(II)V"⟩
abbrev cX4_countOf : ByteArray := prog_6_method_11_code
def yX4_countOf : MethodName := ⟨RX4, "countOf", "(I)I"⟩
abbrev cX4_refusal : ByteArray := prog_6_method_12_code
def yX4_refusal : MethodName := ⟨RX4, "refusal", "(LHoldingStack$Kind;II)I"⟩
abbrev cX4_admit : ByteArray := prog_6_method_13_code
/-- the method that a word of the Statement's table speaks of -/
def nm_of_word : Cond → MethodName
  | .instanceMethod y => y
  | _ => ⟨"", "", ""⟩
/-- its name is taken out of the Statement's own table -/
def yX4_admit : MethodName := ⟨RX4, (nm_of_word (tables_1_2.getD 84 (.initialized ""))).name, "(LHoldingStack$Kind;II)I"⟩
abbrev cX4_markCalled : ByteArray := prog_6_method_14_code
def yX4_markCalled : MethodName := ⟨RX4, "markCalled", "(I)I"⟩
abbrev cX4_passMinutes : ByteArray := prog_6_method_15_code
def yX4_passMinutes : MethodName := ⟨RX4, "passMinutes", "(I)I"⟩
abbrev cX4_minutesToLanding : ByteArray := prog_6_method_16_code
def yX4_minutesToLanding : MethodName := ⟨RX4, "minutesToLanding", "(II)I"⟩
abbrev cX4_mayLand : ByteArray := prog_6_method_17_code
def yX4_mayLand : MethodName := ⟨RX4, "mayLand", "()Z"⟩
abbrev cX4_passMinute : ByteArray := prog_6_method_18_code
def yX4_passMinute : MethodName := ⟨RX4, "passMinute", "()I"⟩
abbrev cX4_burnAndFly : ByteArray := prog_6_method_19_code
def yX4_burnAndFly : MethodName := ⟨RX4, "burnAndFly", "()V"⟩
abbrev cX4_divertStarved : ByteArray := prog_6_method_20_code
def yX4_divertStarved : MethodName := ⟨RX4, "divertStarved", "()V"⟩
abbrev cX4_landOne : ByteArray := prog_6_method_21_code
def yX4_landOne : MethodName := ⟨RX4, "landOne", "()I"⟩
abbrev cX4_nextToLand : ByteArray := prog_6_method_22_code
def yX4_nextToLand : MethodName := ⟨RX4, "nextToLand", "()LHoldingStack$Aircraft;"⟩
abbrev cX4_leave : ByteArray := prog_6_method_23_code
def yX4_leave : MethodName := ⟨RX4, "leave", "(LHoldingStack$Aircraft;I)V"⟩
abbrev cX4_goDownLadder : ByteArray := prog_6_method_24_code
def yX4_goDownLadder : MethodName := ⟨RX4, "goDownLadder", "()V"⟩
def RX5 : String := "HoldingStack$Strips"
def TX5 : u_T := fun k => match k with
  | 0 => ("HoldingStack$Strips", "text", "[C", true)
  | 1 => ("HoldingStack$Strips", "length", "I", false)
  | 2 => ("HoldingStack$Strips", "position", "I", false)
  | 3 => ("HoldingStack$Strips", "fault", "I", false)
  | 4 => ("HoldingStack$Strips", "letter", "C", false)
  | 5 => ("HoldingStack$Strips", "kind", "LHoldingStack$Kind;", false)
  | 6 => ("HoldingStack$Strips", "fuel", "I", false)
  | _ => ("HoldingStack$Strips", "number", "I", false)
def tyX5 : Nat → FieldType := fun k => match k with
  | 0 => .array .char
  | 1 => .int
  | 2 => .int
  | 3 => .int
  | 4 => .char
  | 5 => .object "HoldingStack$Kind"
  | 6 => .int
  | _ => .int
abbrev wsX50 : List Cond := u_ws RX5 TX5 8
theorem nmX5 : ∀ a, a < 8 → ∀ b, b < 8 → a ≠ b → (TX5 a).2.1 ≠ (TX5 b).2.1 := by decide +kernel
theorem tyX5_ok : ∀ k, k < 8 → parseFieldDescriptor (TX5 k).2.2.1 = some (tyX5 k) := by decide +kernel
abbrev cX5_init : ByteArray := prog_7_method_1_code
def yX5_init : MethodName := ⟨RX5, "<init>", "()V"⟩
abbrev cX5_add : ByteArray := prog_7_method_2_code
def yX5_add : MethodName := ⟨RX5, "add", "(C)Z"⟩
abbrev cX5_restart : ByteArray := prog_7_method_3_code
def yX5_restart : MethodName := ⟨RX5, "restart", "()V"⟩
abbrev cX5_findFault : ByteArray := prog_7_method_4_code
def yX5_findFault : MethodName := ⟨RX5, "findFault", "()I"⟩
abbrev cX5_readStrip : ByteArray := prog_7_method_5_code
def yX5_readStrip : MethodName := ⟨RX5, "readStrip", "()Z"⟩
abbrev cX5_readEntry : ByteArray := prog_7_method_6_code
def yX5_readEntry : MethodName := ⟨RX5, "readEntry", "()V"⟩
abbrev cX5_readKind : ByteArray := prog_7_method_7_code
def yX5_readKind : MethodName := ⟨RX5, "readKind", "()LHoldingStack$Kind;"⟩
abbrev cX5_readNumber : ByteArray := prog_7_method_8_code
def yX5_readNumber : MethodName := ⟨RX5, "readNumber", "(II)I"⟩
abbrev cX5_expect : ByteArray := prog_7_method_9_code
def yX5_expect : MethodName := ⟨RX5, "expect", "(C)V"⟩
abbrev cX5_fail : ByteArray := prog_7_method_10_code
def yX5_fail : MethodName := ⟨RX5, "fail", "(I)V"⟩
abbrev cX5_peek : ByteArray := prog_7_method_11_code
def yX5_peek : MethodName := ⟨RX5, "peek", "()C"⟩
abbrev cX5_isDigit : ByteArray := prog_7_method_12_code
def yX5_isDigit : MethodName := ⟨RX5, "isDigit", "(C)Z"⟩
def RX6 : String := "HoldingStack"
def TX6 : u_T := fun k => match k with
  | 0 => ("HoldingStack", "now", "LHoldingStack$State;", true)
  | 1 => ("HoldingStack", "ahead", "LHoldingStack$State;", true)
  | 2 => ("HoldingStack", "history", "LHoldingStack$History;", true)
  | 3 => ("HoldingStack", "slots", "LHoldingStack$Slots;", true)
  | _ => ("HoldingStack", "strips", "LHoldingStack$Strips;", true)
def tyX6 : Nat → FieldType := fun k => match k with
  | 0 => .object "HoldingStack$State"
  | 1 => .object "HoldingStack$State"
  | 2 => .object "HoldingStack$History"
  | 3 => .object "HoldingStack$Slots"
  | _ => .object "HoldingStack$Strips"
abbrev wsX60 : List Cond := u_ws RX6 TX6 5
theorem nmX6 : ∀ a, a < 5 → ∀ b, b < 5 → a ≠ b → (TX6 a).2.1 ≠ (TX6 b).2.1 := by decide +kernel
theorem tyX6_ok : ∀ k, k < 5 → parseFieldDescriptor (TX6 k).2.2.1 = some (tyX6 k) := by decide +kernel
abbrev cX6_init : ByteArray := prog_1_method_1_code
def yX6_init : MethodName := ⟨RX6, "<init>", "()V"⟩
abbrev cX6_begin : ByteArray := prog_1_method_2_code
def yX6_begin : MethodName := ⟨RX6, "begin", "(I)I"⟩
abbrev cX6_setLap : ByteArray := prog_1_method_3_code
def yX6_setLap : MethodName := ⟨RX6, "setLap", "(I)I"⟩
abbrev cX6_setLimit : ByteArray := prog_1_method_4_code
def yX6_setLimit : MethodName := ⟨RX6, "setLimit", "(I)I"⟩
abbrev cX6_setRunway : ByteArray := prog_1_method_5_code
def yX6_setRunway : MethodName := ⟨RX6, "setRunway", "(Z)I"⟩
abbrev cX6_setLadder : ByteArray := prog_1_method_6_code
def yX6_setLadder : MethodName := ⟨RX6, "setLadder", "(Z)I"⟩
abbrev cX6_enter : ByteArray := prog_1_method_7_code
def yX6_enter : MethodName := ⟨RX6, "enter", "(III)I"⟩
abbrev cX6_call : ByteArray := prog_1_method_8_code
def yX6_call : MethodName := ⟨RX6, "call", "(I)I"⟩
abbrev cX6_pass : ByteArray := prog_1_method_9_code
def yX6_pass : MethodName := ⟨RX6, "pass", "(I)I"⟩
abbrev cX6_level : ByteArray := prog_1_method_10_code
def yX6_level : MethodName := ⟨RX6, "level", "(I)I"⟩
abbrev cX6_aircraft : ByteArray := prog_1_method_11_code
def yX6_aircraft : MethodName := ⟨RX6, "aircraft", "(II)I"⟩
abbrev cX6_tell : ByteArray := prog_1_method_12_code
def yX6_tell : MethodName := ⟨RX6, "tell", "(I)I"⟩
abbrev cX6_why : ByteArray := prog_1_method_13_code
def yX6_why : MethodName := ⟨RX6, "why", "(I)I"⟩
abbrev cX6_minutesLeft : ByteArray := prog_1_method_14_code
def yX6_minutesLeft : MethodName := ⟨RX6, "minutesLeft", "(I)I"⟩
abbrev cX6_landsWith : ByteArray := prog_1_method_15_code
def yX6_landsWith : MethodName := ⟨RX6, "landsWith", "(I)I"⟩
abbrev cX6_endurance : ByteArray := prog_1_method_16_code
def yX6_endurance : MethodName := ⟨RX6, "endurance", "(I)I"⟩
abbrev cX6_bestLevel : ByteArray := prog_1_method_17_code
def yX6_bestLevel : MethodName := ⟨RX6, "bestLevel", "(II)I"⟩
abbrev cX6_lands : ByteArray := prog_1_method_18_code
def yX6_lands : MethodName := ⟨RX6, "lands", "(I)I"⟩
abbrev cX6_append : ByteArray := prog_1_method_19_code
def yX6_append : MethodName := ⟨RX6, "append", "(I)I"⟩
abbrev cX6_clearText : ByteArray := prog_1_method_20_code
def yX6_clearText : MethodName := ⟨RX6, "clearText", "()I"⟩
abbrev cX6_faultPosition : ByteArray := prog_1_method_21_code
def yX6_faultPosition : MethodName := ⟨RX6, "faultPosition", "()I"⟩
abbrev cX6_run : ByteArray := prog_1_method_22_code
def yX6_run : MethodName := ⟨RX6, "run", "()I"⟩
abbrev cX6_undo : ByteArray := prog_1_method_23_code
def yX6_undo : MethodName := ⟨RX6, "undo", "()I"⟩
abbrev cX6_keep : ByteArray := prog_1_method_24_code
def yX6_keep : MethodName := ⟨RX6, "keep", "(I)I"⟩
abbrev cX6_restore : ByteArray := prog_1_method_25_code
def yX6_restore : MethodName := ⟨RX6, "restore", "(I)I"⟩
abbrev cX6_checksum : ByteArray := prog_1_method_26_code
def yX6_checksum : MethodName := ⟨RX6, "checksum", "()J"⟩
abbrev cX6_asNumber : ByteArray := prog_1_method_27_code
def yX6_asNumber : MethodName := ⟨RX6, "asNumber", "(Z)I"⟩
abbrev cX6_isFuel : ByteArray := prog_1_method_28_code
def yX6_isFuel : MethodName := ⟨RX6, "isFuel", "(I)Z"⟩
abbrev cX6_tellHolding : ByteArray := prog_1_method_29_code
def yX6_tellHolding : MethodName := ⟨RX6, "tellHolding", "(LHoldingStack$Aircraft;I)I"⟩
abbrev cX6_tellNumberOfAircraft : ByteArray := prog_1_method_30_code
def yX6_tellNumberOfAircraft : MethodName := ⟨RX6, "tellNumberOfAircraft", "(I)I"⟩
abbrev cX6_tellFuel : ByteArray := prog_1_method_31_code
def yX6_tellFuel : MethodName := ⟨RX6, "tellFuel", "(I)I"⟩
abbrev cX6_checkEntry : ByteArray := prog_1_method_32_code
def yX6_checkEntry : MethodName := ⟨RX6, "checkEntry", "(LHoldingStack$Kind;II)I"⟩
abbrev cX6_checkCall : ByteArray := prog_1_method_33_code
def yX6_checkCall : MethodName := ⟨RX6, "checkCall", "(I)I"⟩
abbrev cX6_carryOutStrip : ByteArray := prog_1_method_34_code
def yX6_carryOutStrip : MethodName := ⟨RX6, "carryOutStrip", "()I"⟩
abbrev cX6_forecast : ByteArray := prog_1_method_35_code
def yX6_forecast : MethodName := ⟨RX6, "forecast", "()V"⟩
abbrev cX6_forecastMinutes : ByteArray := prog_1_method_36_code
def yX6_forecastMinutes : MethodName := ⟨RX6, "forecastMinutes", "(I)I"⟩
def RX7 : String := "HoldingStackModel"
def TX7 : u_T := fun k => match k with
  | _ => ("", "", "", false)
def tyX7 : Nat → FieldType := fun k => match k with
  | _ => .int
abbrev wsX70 : List Cond := u_ws RX7 TX7 0
theorem nmX7 : ∀ a, a < 0 → ∀ b, b < 0 → a ≠ b → (TX7 a).2.1 ≠ (TX7 b).2.1 := by decide +kernel
theorem tyX7_ok : ∀ k, k < 0 → parseFieldDescriptor (TX7 k).2.2.1 = some (tyX7 k) := by decide +kernel
def RJx29ce0 : String := "java/lang/Enum"
def TJx29ce0 : u_T := fun k => match k with
  | _ => ("", "", "", false)
def tyJx29ce0 : Nat → FieldType := fun k => match k with
  | _ => .int
abbrev wsJx29ce00 : List Cond := u_ws RJx29ce0 TJx29ce0 0
theorem nmJx29ce0 : ∀ a, a < 0 → ∀ b, b < 0 → a ≠ b → (TJx29ce0 a).2.1 ≠ (TJx29ce0 b).2.1 := by decide +kernel
theorem tyJx29ce0_ok : ∀ k, k < 0 → parseFieldDescriptor (TJx29ce0 k).2.2.1 = some (tyJx29ce0 k) := by decide +kernel
def RJ9 : String := "java/lang/Math"
def TJ9 : u_T := fun k => match k with
  | _ => ("", "", "", false)
def tyJ9 : Nat → FieldType := fun k => match k with
  | _ => .int
abbrev wsJ90 : List Cond := u_ws RJ9 TJ9 0
theorem nmJ9 : ∀ a, a < 0 → ∀ b, b < 0 → a ≠ b → (TJ9 a).2.1 ≠ (TJ9 b).2.1 := by decide +kernel
theorem tyJ9_ok : ∀ k, k < 0 → parseFieldDescriptor (TJ9 k).2.2.1 = some (tyJ9 k) := by decide +kernel
abbrev cJ9_min_7cf53 : ByteArray := prog_11_method_69_code
def yJ9_min_7cf53 : MethodName := ⟨RJ9, "min", "(II)I"⟩
def RJ7 : String := "java/util/Arrays"
def TJ7 : u_T := fun k => match k with
  | _ => ("", "", "", false)
def tyJ7 : Nat → FieldType := fun k => match k with
  | _ => .int
abbrev wsJ70 : List Cond := u_ws RJ7 TJ7 0
theorem nmJ7 : ∀ a, a < 0 → ∀ b, b < 0 → a ≠ b → (TJ7 a).2.1 ≠ (TJ7 b).2.1 := by decide +kernel
theorem tyJ7_ok : ∀ k, k < 0 → parseFieldDescriptor (TJ7 k).2.2.1 = some (tyJ7 k) := by decide +kernel
abbrev cJ7_fill_53178 : ByteArray := prog_12_method_103_code
def yJ7_fill_53178 : MethodName := ⟨RJ7, "fill", "([II)V"⟩
def RL : String := "HoldingStackLaw"
abbrev cL_cell : ByteArray := method_2_code
def yL_cell : MethodName := ⟨RL, "cell", "([II)I"⟩
abbrev cL_sound : ByteArray := method_3_code
def yL_sound : MethodName := ⟨RL, "sound", "(LHoldingStack;)Z"⟩
abbrev cL_minutes : ByteArray := method_4_code
def yL_minutes : MethodName := ⟨RL, "minutes", "(LHoldingStack;II)Z"⟩
abbrev cL_number : ByteArray := method_5_code
def yL_number : MethodName := ⟨RL, "number", "(LHoldingStack;I)V"⟩
abbrev cL_strip : ByteArray := method_6_code
def yL_strip : MethodName := ⟨RL, "strip", "(LHoldingStack;III)V"⟩
abbrev cL_texts : ByteArray := method_7_code
def yL_texts : MethodName := ⟨RL, "texts", "(LHoldingStack;IIII)Z"⟩
abbrev cL_refuses : ByteArray := method_8_code
def yL_refuses : MethodName := ⟨RL, "refuses", "(LHoldingStack;)Z"⟩
abbrev cL_law : ByteArray := code
def yL_law : MethodName := ⟨RL, "law", "([I)Z"⟩
