-- ===== PART A: goes FIRST, ahead of the names: the tables' words, and 'selects' of the private methods out of them =====
/-- a private method of a class that the tables say can be made, by its rows of tables_1 -/
def lw_okq (q : MethodName × Nat) : Prop := (q.1.cls ≠ "java/lang/invoke/MethodHandle" ∧ q.1.cls ≠ "java/lang/invoke/VarHandle") ∧ Cond.instantiable q.1.cls q.2 ∈ tables_1 ∧ Cond.privateMethod q.1 ∈ tables_1 ∧ Cond.instanceMethod q.1 ∈ tables_1
theorem lw_p0 : lw_okq (⟨"PlumbShaft", "remember", "()V"⟩, 8) := ⟨⟨by decide +kernel, by decide +kernel⟩, List.mem_of_getElem? (i := 11) (by decide +kernel), List.mem_of_getElem? (i := 268) (by decide +kernel), List.mem_of_getElem? (i := 269) (by decide +kernel)⟩
theorem lw_p1 : lw_okq (⟨"PlumbShaft", "dropOldestState", "()V"⟩, 8) := ⟨⟨by decide +kernel, by decide +kernel⟩, List.mem_of_getElem? (i := 11) (by decide +kernel), List.mem_of_getElem? (i := 272) (by decide +kernel), List.mem_of_getElem? (i := 273) (by decide +kernel)⟩
theorem lw_p2 : lw_okq (⟨"PlumbShaft", "isHung", "(I)Z"⟩, 8) := ⟨⟨by decide +kernel, by decide +kernel⟩, List.mem_of_getElem? (i := 11) (by decide +kernel), List.mem_of_getElem? (i := 316) (by decide +kernel), List.mem_of_getElem? (i := 317) (by decide +kernel)⟩
theorem lw_p3 : lw_okq (⟨"PlumbShaft", "refuse", "(I)I"⟩, 8) := ⟨⟨by decide +kernel, by decide +kernel⟩, List.mem_of_getElem? (i := 11) (by decide +kernel), List.mem_of_getElem? (i := 320) (by decide +kernel), List.mem_of_getElem? (i := 321) (by decide +kernel)⟩
theorem lw_p4 : lw_okq (⟨"PlumbShaft", "errorOfReading", "(III)I"⟩, 8) := ⟨⟨by decide +kernel, by decide +kernel⟩, List.mem_of_getElem? (i := 11) (by decide +kernel), List.mem_of_getElem? (i := 437) (by decide +kernel), List.mem_of_getElem? (i := 438) (by decide +kernel)⟩
theorem lw_p5 : lw_okq (⟨"PlumbShaft", "isStation", "(I)Z"⟩, 8) := ⟨⟨by decide +kernel, by decide +kernel⟩, List.mem_of_getElem? (i := 11) (by decide +kernel), List.mem_of_getElem? (i := 508) (by decide +kernel), List.mem_of_getElem? (i := 509) (by decide +kernel)⟩
theorem lw_p6 : lw_okq (⟨"PlumbShaft", "isPairHung", "(I)Z"⟩, 8) := ⟨⟨by decide +kernel, by decide +kernel⟩, List.mem_of_getElem? (i := 11) (by decide +kernel), List.mem_of_getElem? (i := 523) (by decide +kernel), List.mem_of_getElem? (i := 524) (by decide +kernel)⟩
theorem lw_p7 : lw_okq (⟨"PlumbShaft", "firstOf", "(I)LPlumbShaft$Wire;"⟩, 8) := ⟨⟨by decide +kernel, by decide +kernel⟩, List.mem_of_getElem? (i := 11) (by decide +kernel), List.mem_of_getElem? (i := 527) (by decide +kernel), List.mem_of_getElem? (i := 528) (by decide +kernel)⟩
theorem lw_p8 : lw_okq (⟨"PlumbShaft", "secondOf", "(I)LPlumbShaft$Wire;"⟩, 8) := ⟨⟨by decide +kernel, by decide +kernel⟩, List.mem_of_getElem? (i := 11) (by decide +kernel), List.mem_of_getElem? (i := 531) (by decide +kernel), List.mem_of_getElem? (i := 532) (by decide +kernel)⟩
theorem lw_p9 : lw_okq (⟨"PlumbShaft", "isPairAtOnePlace", "(I)Z"⟩, 8) := ⟨⟨by decide +kernel, by decide +kernel⟩, List.mem_of_getElem? (i := 11) (by decide +kernel), List.mem_of_getElem? (i := 535) (by decide +kernel), List.mem_of_getElem? (i := 536) (by decide +kernel)⟩
theorem lw_p10 : lw_okq (⟨"PlumbShaft", "surfaceBearing", "(I)I"⟩, 8) := ⟨⟨by decide +kernel, by decide +kernel⟩, List.mem_of_getElem? (i := 11) (by decide +kernel), List.mem_of_getElem? (i := 539) (by decide +kernel), List.mem_of_getElem? (i := 540) (by decide +kernel)⟩
theorem lw_p11 : lw_okq (⟨"PlumbShaft", "reasonAgainst", "(II)I"⟩, 8) := ⟨⟨by decide +kernel, by decide +kernel⟩, List.mem_of_getElem? (i := 11) (by decide +kernel), List.mem_of_getElem? (i := 547) (by decide +kernel), List.mem_of_getElem? (i := 548) (by decide +kernel)⟩
theorem lw_p12 : lw_okq (⟨"PlumbShaft", "firstSeen", "(II)LPlumbShaft$Observation;"⟩, 8) := ⟨⟨by decide +kernel, by decide +kernel⟩, List.mem_of_getElem? (i := 11) (by decide +kernel), List.mem_of_getElem? (i := 551) (by decide +kernel), List.mem_of_getElem? (i := 552) (by decide +kernel)⟩
theorem lw_p13 : lw_okq (⟨"PlumbShaft", "secondSeen", "(II)LPlumbShaft$Observation;"⟩, 8) := ⟨⟨by decide +kernel, by decide +kernel⟩, List.mem_of_getElem? (i := 11) (by decide +kernel), List.mem_of_getElem? (i := 555) (by decide +kernel), List.mem_of_getElem? (i := 556) (by decide +kernel)⟩
theorem lw_p14 : lw_okq (⟨"PlumbShaft", "orientationFrom", "(II)I"⟩, 8) := ⟨⟨by decide +kernel, by decide +kernel⟩, List.mem_of_getElem? (i := 11) (by decide +kernel), List.mem_of_getElem? (i := 559) (by decide +kernel), List.mem_of_getElem? (i := 560) (by decide +kernel)⟩
def lw_privs_1 : List (MethodName × Nat) := [(⟨"PlumbShaft", "remember", "()V"⟩, 8), (⟨"PlumbShaft", "dropOldestState", "()V"⟩, 8), (⟨"PlumbShaft", "isHung", "(I)Z"⟩, 8), (⟨"PlumbShaft", "refuse", "(I)I"⟩, 8), (⟨"PlumbShaft", "errorOfReading", "(III)I"⟩, 8), (⟨"PlumbShaft", "isStation", "(I)Z"⟩, 8), (⟨"PlumbShaft", "isPairHung", "(I)Z"⟩, 8), (⟨"PlumbShaft", "firstOf", "(I)LPlumbShaft$Wire;"⟩, 8), (⟨"PlumbShaft", "secondOf", "(I)LPlumbShaft$Wire;"⟩, 8), (⟨"PlumbShaft", "isPairAtOnePlace", "(I)Z"⟩, 8), (⟨"PlumbShaft", "surfaceBearing", "(I)I"⟩, 8), (⟨"PlumbShaft", "reasonAgainst", "(II)I"⟩, 8), (⟨"PlumbShaft", "firstSeen", "(II)LPlumbShaft$Observation;"⟩, 8), (⟨"PlumbShaft", "secondSeen", "(II)LPlumbShaft$Observation;"⟩, 8), (⟨"PlumbShaft", "orientationFrom", "(II)I"⟩, 8)]
theorem lw_r1 : ∀ q ∈ lw_privs_1, lw_okq q := List.forall_mem_cons.mpr ⟨lw_p0, List.forall_mem_cons.mpr ⟨lw_p1, List.forall_mem_cons.mpr ⟨lw_p2, List.forall_mem_cons.mpr ⟨lw_p3, List.forall_mem_cons.mpr ⟨lw_p4, List.forall_mem_cons.mpr ⟨lw_p5, List.forall_mem_cons.mpr ⟨lw_p6, List.forall_mem_cons.mpr ⟨lw_p7, List.forall_mem_cons.mpr ⟨lw_p8, List.forall_mem_cons.mpr ⟨lw_p9, List.forall_mem_cons.mpr ⟨lw_p10, List.forall_mem_cons.mpr ⟨lw_p11, List.forall_mem_cons.mpr ⟨lw_p12, List.forall_mem_cons.mpr ⟨lw_p13, List.forall_mem_cons.mpr ⟨lw_p14, fun _ h => absurd h List.not_mem_nil⟩⟩⟩⟩⟩⟩⟩⟩⟩⟩⟩⟩⟩⟩⟩
def lw_privs : List (MethodName × Nat) := lw_privs_1
def lw_tbl : List Cond := k2_sels lw_privs ++ tables_1
theorem lw_privs_ok : ∀ q ∈ lw_privs, lw_okq q := lw_r1

def RX0 : String := "PlumbShaft$Current"
def TX0 : u_T := fun k => match k with
  | 0 => ("PlumbShaft$Current", "from", "I", false)
  | 1 => ("PlumbShaft$Current", "to", "I", false)
  | 2 => ("PlumbShaft$Current", "forceX", "I", false)
  | _ => ("PlumbShaft$Current", "forceY", "I", false)
def tyX0 : Nat → FieldType := fun k => match k with
  | 0 => .int
  | 1 => .int
  | 2 => .int
  | _ => .int
abbrev wsX00 : List Cond := u_ws RX0 TX0 4
theorem nmX0 : ∀ a, a < 4 → ∀ b, b < 4 → a ≠ b → (TX0 a).2.1 ≠ (TX0 b).2.1 := by decide +kernel
theorem tyX0_ok : ∀ k, k < 4 → parseFieldDescriptor (TX0 k).2.2.1 = some (tyX0 k) := by decide +kernel
abbrev cX0_init : ByteArray := prog_2_method_1_code
def yX0_init : MethodName := ⟨RX0, "<init>", "()V"⟩
abbrev cX0_copyFrom : ByteArray := prog_2_method_2_code
def yX0_copyFrom : MethodName := ⟨RX0, "copyFrom", "(LPlumbShaft$Current;)V"⟩
abbrev cX0_become : ByteArray := prog_2_method_3_code
def yX0_become : MethodName := ⟨RX0, "become", "(IIII)V"⟩
abbrev cX0_bend : ByteArray := prog_2_method_4_code
def yX0_bend : MethodName := ⟨RX0, "bend", "(III)I"⟩
def RX1 : String := "PlumbShaft$Observation"
def TX1 : u_T := fun k => match k with
  | 0 => ("PlumbShaft$Observation", "valid", "Z", false)
  | 1 => ("PlumbShaft$Observation", "meanX", "I", false)
  | 2 => ("PlumbShaft$Observation", "meanY", "I", false)
  | 3 => ("PlumbShaft$Observation", "spread", "I", false)
  | 4 => ("PlumbShaft$Observation", "ticks", "I", false)
  | _ => ("PlumbShaft$Observation", "endTime", "I", false)
def tyX1 : Nat → FieldType := fun k => match k with
  | 0 => .boolean
  | 1 => .int
  | 2 => .int
  | 3 => .int
  | 4 => .int
  | _ => .int
abbrev wsX10 : List Cond := u_ws RX1 TX1 6
theorem nmX1 : ∀ a, a < 6 → ∀ b, b < 6 → a ≠ b → (TX1 a).2.1 ≠ (TX1 b).2.1 := by decide +kernel
theorem tyX1_ok : ∀ k, k < 6 → parseFieldDescriptor (TX1 k).2.2.1 = some (tyX1 k) := by decide +kernel
abbrev cX1_init : ByteArray := prog_3_method_1_code
def yX1_init : MethodName := ⟨RX1, "<init>", "()V"⟩
abbrev cX1_copyFrom : ByteArray := prog_3_method_2_code
def yX1_copyFrom : MethodName := ⟨RX1, "copyFrom", "(LPlumbShaft$Observation;)V"⟩
abbrev cX1_property : ByteArray := prog_3_method_3_code
def yX1_property : MethodName := ⟨RX1, "property", "(I)I"⟩
def RX2 : String := "PlumbShaft$OrderText"
def TX2 : u_T := fun k => match k with
  | 0 => ("PlumbShaft$OrderText", "text", "[C", true)
  | 1 => ("PlumbShaft$OrderText", "length", "I", false)
  | 2 => ("PlumbShaft$OrderText", "words", "[I", true)
  | 3 => ("PlumbShaft$OrderText", "numbers", "[I", true)
  | 4 => ("PlumbShaft$OrderText", "count", "I", false)
  | _ => ("PlumbShaft$OrderText", "place", "I", false)
def tyX2 : Nat → FieldType := fun k => match k with
  | 0 => .array .char
  | 1 => .int
  | 2 => .array .int
  | 3 => .array .int
  | 4 => .int
  | _ => .int
abbrev wsX20 : List Cond := u_ws RX2 TX2 6
theorem nmX2 : ∀ a, a < 6 → ∀ b, b < 6 → a ≠ b → (TX2 a).2.1 ≠ (TX2 b).2.1 := by decide +kernel
theorem tyX2_ok : ∀ k, k < 6 → parseFieldDescriptor (TX2 k).2.2.1 = some (tyX2 k) := by decide +kernel
abbrev cX2_init : ByteArray := prog_4_method_1_code
def yX2_init : MethodName := ⟨RX2, "<init>", "()V"⟩
def RX3 : String := "PlumbShaft$Readings"
def TX3 : u_T := fun k => match k with
  | 0 => ("PlumbShaft$Readings", "taken", "I", false)
  | 1 => ("PlumbShaft$Readings", "sum", "I", false)
  | 2 => ("PlumbShaft$Readings", "least", "I", false)
  | _ => ("PlumbShaft$Readings", "greatest", "I", false)
def tyX3 : Nat → FieldType := fun k => match k with
  | 0 => .int
  | 1 => .int
  | 2 => .int
  | _ => .int
abbrev wsX30 : List Cond := u_ws RX3 TX3 4
theorem nmX3 : ∀ a, a < 4 → ∀ b, b < 4 → a ≠ b → (TX3 a).2.1 ≠ (TX3 b).2.1 := by decide +kernel
theorem tyX3_ok : ∀ k, k < 4 → parseFieldDescriptor (TX3 k).2.2.1 = some (tyX3 k) := by decide +kernel
abbrev cX3_init : ByteArray := prog_5_method_1_code
def yX3_init : MethodName := ⟨RX3, "<init>", "()V"⟩
abbrev cX3_add : ByteArray := prog_5_method_2_code
def yX3_add : MethodName := ⟨RX3, "add", "(I)V"⟩
abbrev cX3_mean : ByteArray := prog_5_method_3_code
def yX3_mean : MethodName := ⟨RX3, "mean", "()I"⟩
abbrev cX3_spread : ByteArray := prog_5_method_4_code
def yX3_spread : MethodName := ⟨RX3, "spread", "()I"⟩
def RX4 : String := "PlumbShaft$State"
def TX4 : u_T := fun k => match k with
  | 0 => ("PlumbShaft$State", "wires", "[LPlumbShaft$Wire;", true)
  | 1 => ("PlumbShaft$State", "currents", "[LPlumbShaft$Current;", true)
  | 2 => ("PlumbShaft$State", "currentCount", "I", false)
  | 3 => ("PlumbShaft$State", "stations", "[LPlumbShaft$Station;", true)
  | 4 => ("PlumbShaft$State", "stationCount", "I", false)
  | 5 => ("PlumbShaft$State", "time", "I", false)
  | 6 => ("PlumbShaft$State", "tolerance", "I", false)
  | _ => ("PlumbShaft$State", "observedTicks", "I", false)
def tyX4 : Nat → FieldType := fun k => match k with
  | 0 => .array (.object "PlumbShaft$Wire")
  | 1 => .array (.object "PlumbShaft$Current")
  | 2 => .int
  | 3 => .array (.object "PlumbShaft$Station")
  | 4 => .int
  | 5 => .int
  | 6 => .int
  | _ => .int
abbrev wsX40 : List Cond := u_ws RX4 TX4 8
theorem nmX4 : ∀ a, a < 8 → ∀ b, b < 8 → a ≠ b → (TX4 a).2.1 ≠ (TX4 b).2.1 := by decide +kernel
theorem tyX4_ok : ∀ k, k < 8 → parseFieldDescriptor (TX4 k).2.2.1 = some (tyX4 k) := by decide +kernel
abbrev cX4_init : ByteArray := prog_6_method_1_code
def yX4_init : MethodName := ⟨RX4, "<init>", "()V"⟩
abbrev cX4_copyFrom : ByteArray := prog_6_method_2_code
def yX4_copyFrom : MethodName := ⟨RX4, "copyFrom", "(LPlumbShaft$State;)V"⟩
abbrev cX4_hungWires : ByteArray := prog_6_method_3_code
def yX4_hungWires : MethodName := ⟨RX4, "hungWires", "()I"⟩
abbrev cX4_orientedStations : ByteArray := prog_6_method_4_code
def yX4_orientedStations : MethodName := ⟨RX4, "orientedStations", "()I"⟩
abbrev cX4_validObservations : ByteArray := prog_6_method_5_code
def yX4_validObservations : MethodName := ⟨RX4, "validObservations", "()I"⟩
abbrev cX4_voidWire : ByteArray := prog_6_method_6_code
def yX4_voidWire : MethodName := ⟨RX4, "voidWire", "(I)I"⟩
abbrev cX4_voidAllWires : ByteArray := prog_6_method_7_code
def yX4_voidAllWires : MethodName := ⟨RX4, "voidAllWires", "()V"⟩
abbrev cX4_passTick : ByteArray := prog_6_method_8_code
def yX4_passTick : MethodName := ⟨RX4, "passTick", "()V"⟩
abbrev cX4_restAt : ByteArray := prog_6_method_9_code
def yX4_restAt : MethodName := ⟨RX4, "restAt", "(LPlumbShaft$Wire;II)I"⟩
abbrev cX4_look : ByteArray := prog_6_method_10_code
def yX4_look : MethodName := ⟨RX4, "look", "(III)V"⟩
def RX5 : String := "PlumbShaft$Station"
def TX5 : u_T := fun k => match k with
  | 0 => ("PlumbShaft$Station", "depth", "I", false)
  | 1 => ("PlumbShaft$Station", "frame", "I", false)
  | 2 => ("PlumbShaft$Station", "hasOrientation", "Z", false)
  | 3 => ("PlumbShaft$Station", "orientation", "I", false)
  | _ => ("PlumbShaft$Station", "seen", "[LPlumbShaft$Observation;", true)
def tyX5 : Nat → FieldType := fun k => match k with
  | 0 => .int
  | 1 => .int
  | 2 => .boolean
  | 3 => .int
  | _ => .array (.object "PlumbShaft$Observation")
abbrev wsX50 : List Cond := u_ws RX5 TX5 5
theorem nmX5 : ∀ a, a < 5 → ∀ b, b < 5 → a ≠ b → (TX5 a).2.1 ≠ (TX5 b).2.1 := by decide +kernel
theorem tyX5_ok : ∀ k, k < 5 → parseFieldDescriptor (TX5 k).2.2.1 = some (tyX5 k) := by decide +kernel
abbrev cX5_init : ByteArray := prog_7_method_1_code
def yX5_init : MethodName := ⟨RX5, "<init>", "()V"⟩
abbrev cX5_copyFrom : ByteArray := prog_7_method_2_code
def yX5_copyFrom : MethodName := ⟨RX5, "copyFrom", "(LPlumbShaft$Station;)V"⟩
abbrev cX5_become : ByteArray := prog_7_method_3_code
def yX5_become : MethodName := ⟨RX5, "become", "(II)V"⟩
abbrev cX5_validObservations : ByteArray := prog_7_method_4_code
def yX5_validObservations : MethodName := ⟨RX5, "validObservations", "()I"⟩
def RX6 : String := "PlumbShaft$Wire"
def TX6 : u_T := fun k => match k with
  | 0 => ("PlumbShaft$Wire", "hung", "Z", false)
  | 1 => ("PlumbShaft$Wire", "x", "I", false)
  | 2 => ("PlumbShaft$Wire", "y", "I", false)
  | 3 => ("PlumbShaft$Wire", "mass", "I", false)
  | 4 => ("PlumbShaft$Wire", "depth", "I", false)
  | 5 => ("PlumbShaft$Wire", "quarterTicks", "I", false)
  | 6 => ("PlumbShaft$Wire", "ex", "I", false)
  | 7 => ("PlumbShaft$Wire", "ey", "I", false)
  | 8 => ("PlumbShaft$Wire", "bucket", "I", false)
  | 9 => ("PlumbShaft$Wire", "direction", "I", false)
  | 10 => ("PlumbShaft$Wire", "amplitude", "I", false)
  | _ => ("PlumbShaft$Wire", "phase", "I", false)
def tyX6 : Nat → FieldType := fun k => match k with
  | 0 => .boolean
  | 1 => .int
  | 2 => .int
  | 3 => .int
  | 4 => .int
  | 5 => .int
  | 6 => .int
  | 7 => .int
  | 8 => .int
  | 9 => .int
  | 10 => .int
  | _ => .int
abbrev wsX60 : List Cond := u_ws RX6 TX6 12
theorem nmX6 : ∀ a, a < 12 → ∀ b, b < 12 → a ≠ b → (TX6 a).2.1 ≠ (TX6 b).2.1 := by decide +kernel
theorem tyX6_ok : ∀ k, k < 12 → parseFieldDescriptor (TX6 k).2.2.1 = some (tyX6 k) := by decide +kernel
abbrev cX6_init : ByteArray := prog_8_method_1_code
def yX6_init : MethodName := ⟨RX6, "<init>", "()V"⟩
abbrev cX6_copyFrom : ByteArray := prog_8_method_2_code
def yX6_copyFrom : MethodName := ⟨RX6, "copyFrom", "(LPlumbShaft$Wire;)V"⟩
abbrev cX6_hangAnew : ByteArray := prog_8_method_3_code
def yX6_hangAnew : MethodName := ⟨RX6, "hangAnew", "(IIII)V"⟩
abbrev cX6_startSway : ByteArray := prog_8_method_4_code
def yX6_startSway : MethodName := ⟨RX6, "startSway", "(I)V"⟩
abbrev cX6_tradePlaces : ByteArray := prog_8_method_5_code
def yX6_tradePlaces : MethodName := ⟨RX6, "tradePlaces", "(LPlumbShaft$Wire;)V"⟩
abbrev cX6_periodTicks : ByteArray := prog_8_method_6_code
def yX6_periodTicks : MethodName := ⟨RX6, "periodTicks", "()I"⟩
abbrev cX6_swayOneTick : ByteArray := prog_8_method_7_code
def yX6_swayOneTick : MethodName := ⟨RX6, "swayOneTick", "()V"⟩
abbrev cX6_calmed : ByteArray := prog_8_method_8_code
def yX6_calmed : MethodName := ⟨RX6, "calmed", "(I)I"⟩
abbrev cX6_ticksUntilCalm : ByteArray := prog_8_method_9_code
def yX6_ticksUntilCalm : MethodName := ⟨RX6, "ticksUntilCalm", "(I)I"⟩
abbrev cX6_swing : ByteArray := prog_8_method_10_code
def yX6_swing : MethodName := ⟨RX6, "swing", "()I"⟩
abbrev cX6_swayAt : ByteArray := prog_8_method_11_code
def yX6_swayAt : MethodName := ⟨RX6, "swayAt", "(II)I"⟩
abbrev cX6_property : ByteArray := prog_8_method_12_code
def yX6_property : MethodName := ⟨RX6, "property", "(I)I"⟩
def RX7 : String := "PlumbShaft"
def TX7 : u_T := fun k => match k with
  | 0 => ("PlumbShaft", "now", "LPlumbShaft$State;", true)
  | 1 => ("PlumbShaft", "history", "[LPlumbShaft$State;", true)
  | 2 => ("PlumbShaft", "historyLength", "I", false)
  | 3 => ("PlumbShaft", "slots", "[LPlumbShaft$State;", true)
  | 4 => ("PlumbShaft", "slotTaken", "[Z", true)
  | 5 => ("PlumbShaft", "orders", "LPlumbShaft$OrderText;", true)
  | 6 => ("PlumbShaft", "runningOrders", "Z", false)
  | _ => ("PlumbShaft", "reason", "I", false)
def tyX7 : Nat → FieldType := fun k => match k with
  | 0 => .object "PlumbShaft$State"
  | 1 => .array (.object "PlumbShaft$State")
  | 2 => .int
  | 3 => .array (.object "PlumbShaft$State")
  | 4 => .array .boolean
  | 5 => .object "PlumbShaft$OrderText"
  | 6 => .boolean
  | _ => .int
abbrev wsX70 : List Cond := u_ws RX7 TX7 8
theorem nmX7 : ∀ a, a < 8 → ∀ b, b < 8 → a ≠ b → (TX7 a).2.1 ≠ (TX7 b).2.1 := by decide +kernel
theorem tyX7_ok : ∀ k, k < 8 → parseFieldDescriptor (TX7 k).2.2.1 = some (tyX7 k) := by decide +kernel
abbrev cX7_init : ByteArray := prog_1_method_1_code
def yX7_init : MethodName := ⟨RX7, "<init>", "()V"⟩
abbrev cX7_hang : ByteArray := prog_1_method_2_code
def yX7_hang : MethodName := ⟨RX7, "hang", "(IIIII)I"⟩
abbrev cX7_lift : ByteArray := prog_1_method_3_code
def yX7_lift : MethodName := ⟨RX7, "lift", "(I)I"⟩
abbrev cX7_setClamp : ByteArray := prog_1_method_4_code
def yX7_setClamp : MethodName := ⟨RX7, "setClamp", "(III)I"⟩
abbrev cX7_setBucket : ByteArray := prog_1_method_5_code
def yX7_setBucket : MethodName := ⟨RX7, "setBucket", "(II)I"⟩
abbrev cX7_push : ByteArray := prog_1_method_6_code
def yX7_push : MethodName := ⟨RX7, "push", "(III)I"⟩
abbrev cX7_swap : ByteArray := prog_1_method_7_code
def yX7_swap : MethodName := ⟨RX7, "swap", "(II)I"⟩
abbrev cX7_addCurrent : ByteArray := prog_1_method_8_code
def yX7_addCurrent : MethodName := ⟨RX7, "addCurrent", "(IIII)I"⟩
abbrev cX7_clearCurrents : ByteArray := prog_1_method_9_code
def yX7_clearCurrents : MethodName := ⟨RX7, "clearCurrents", "()I"⟩
abbrev cX7_addStation : ByteArray := prog_1_method_10_code
def yX7_addStation : MethodName := ⟨RX7, "addStation", "(II)I"⟩
abbrev cX7_setTolerance : ByteArray := prog_1_method_11_code
def yX7_setTolerance : MethodName := ⟨RX7, "setTolerance", "(I)I"⟩
abbrev cX7_pass : ByteArray := prog_1_method_12_code
def yX7_pass : MethodName := ⟨RX7, "pass", "(I)I"⟩
abbrev cX7_observe : ByteArray := prog_1_method_13_code
def yX7_observe : MethodName := ⟨RX7, "observe", "(III)I"⟩
abbrev cX7_orient : ByteArray := prog_1_method_14_code
def yX7_orient : MethodName := ⟨RX7, "orient", "(I)I"⟩
abbrev cX7_keep : ByteArray := prog_1_method_20_code
def yX7_keep : MethodName := ⟨RX7, "keep", "(I)I"⟩
abbrev cX7_restore : ByteArray := prog_1_method_21_code
def yX7_restore : MethodName := ⟨RX7, "restore", "(I)I"⟩
abbrev cX7_remember : ByteArray := prog_1_method_22_code
def yX7_remember : MethodName := ⟨RX7, "remember", "()V"⟩
abbrev cX7_dropOldestState : ByteArray := prog_1_method_23_code
def yX7_dropOldestState : MethodName := ⟨RX7, "dropOldestState", "()V"⟩
abbrev cX7_wire : ByteArray := prog_1_method_24_code
def yX7_wire : MethodName := ⟨RX7, "wire", "(II)I"⟩
abbrev cX7_rest : ByteArray := prog_1_method_25_code
def yX7_rest : MethodName := ⟨RX7, "rest", "(III)I"⟩
abbrev cX7_position : ByteArray := prog_1_method_26_code
def yX7_position : MethodName := ⟨RX7, "position", "(III)I"⟩
abbrev cX7_calmIn : ByteArray := prog_1_method_27_code
def yX7_calmIn : MethodName := ⟨RX7, "calmIn", "(II)I"⟩
abbrev cX7_station : ByteArray := prog_1_method_28_code
def yX7_station : MethodName := ⟨RX7, "station", "(II)I"⟩
abbrev cX7_observation : ByteArray := prog_1_method_29_code
def yX7_observation : MethodName := ⟨RX7, "observation", "(III)I"⟩
abbrev cX7_bearing : ByteArray := prog_1_method_30_code
def yX7_bearing : MethodName := ⟨RX7, "bearing", "(II)I"⟩
abbrev cX7_surface : ByteArray := prog_1_method_31_code
def yX7_surface : MethodName := ⟨RX7, "surface", "(I)I"⟩
abbrev cX7_given : ByteArray := prog_1_method_32_code
def yX7_given : MethodName := ⟨RX7, "given", "(II)I"⟩
abbrev cX7_count : ByteArray := prog_1_method_33_code
def yX7_count : MethodName := ⟨RX7, "count", "(I)I"⟩
abbrev cX7_isWithin : ByteArray := prog_1_method_34_code
def yX7_isWithin : MethodName := ⟨RX7, "isWithin", "(III)Z"⟩
abbrev cX7_isWire : ByteArray := prog_1_method_35_code
def yX7_isWire : MethodName := ⟨RX7, "isWire", "(I)Z"⟩
abbrev cX7_isPair : ByteArray := prog_1_method_36_code
def yX7_isPair : MethodName := ⟨RX7, "isPair", "(I)Z"⟩
abbrev cX7_isSlot : ByteArray := prog_1_method_37_code
def yX7_isSlot : MethodName := ⟨RX7, "isSlot", "(I)Z"⟩
abbrev cX7_isStation : ByteArray := prog_1_method_38_code
def yX7_isStation : MethodName := ⟨RX7, "isStation", "(I)Z"⟩
abbrev cX7_isHung : ByteArray := prog_1_method_39_code
def yX7_isHung : MethodName := ⟨RX7, "isHung", "(I)Z"⟩
abbrev cX7_refuse : ByteArray := prog_1_method_40_code
def yX7_refuse : MethodName := ⟨RX7, "refuse", "(I)I"⟩
abbrev cX7_errorOfReading : ByteArray := prog_1_method_41_code
def yX7_errorOfReading : MethodName := ⟨RX7, "errorOfReading", "(III)I"⟩
abbrev cX7_firstOf : ByteArray := prog_1_method_42_code
def yX7_firstOf : MethodName := ⟨RX7, "firstOf", "(I)LPlumbShaft$Wire;"⟩
abbrev cX7_secondOf : ByteArray := prog_1_method_43_code
def yX7_secondOf : MethodName := ⟨RX7, "secondOf", "(I)LPlumbShaft$Wire;"⟩
abbrev cX7_firstSeen : ByteArray := prog_1_method_44_code
def yX7_firstSeen : MethodName := ⟨RX7, "firstSeen", "(II)LPlumbShaft$Observation;"⟩
abbrev cX7_secondSeen : ByteArray := prog_1_method_45_code
def yX7_secondSeen : MethodName := ⟨RX7, "secondSeen", "(II)LPlumbShaft$Observation;"⟩
abbrev cX7_isPairHung : ByteArray := prog_1_method_46_code
def yX7_isPairHung : MethodName := ⟨RX7, "isPairHung", "(I)Z"⟩
abbrev cX7_isPairAtOnePlace : ByteArray := prog_1_method_47_code
def yX7_isPairAtOnePlace : MethodName := ⟨RX7, "isPairAtOnePlace", "(I)Z"⟩
abbrev cX7_surfaceBearing : ByteArray := prog_1_method_48_code
def yX7_surfaceBearing : MethodName := ⟨RX7, "surfaceBearing", "(I)I"⟩
abbrev cX7_reasonAgainst : ByteArray := prog_1_method_49_code
def yX7_reasonAgainst : MethodName := ⟨RX7, "reasonAgainst", "(II)I"⟩
abbrev cX7_lowerReason : ByteArray := prog_1_method_50_code
def yX7_lowerReason : MethodName := ⟨RX7, "lowerReason", "(II)I"⟩
abbrev cX7_orientationFrom : ByteArray := prog_1_method_51_code
def yX7_orientationFrom : MethodName := ⟨RX7, "orientationFrom", "(II)I"⟩
abbrev cX7_bearingOf : ByteArray := prog_1_method_52_code
def yX7_bearingOf : MethodName := ⟨RX7, "bearingOf", "(JJ)I"⟩
abbrev cX7_onCircle : ByteArray := prog_1_method_53_code
def yX7_onCircle : MethodName := ⟨RX7, "onCircle", "(J)I"⟩
abbrev cX7_roundedToZero : ByteArray := prog_1_method_54_code
def yX7_roundedToZero : MethodName := ⟨RX7, "roundedToZero", "(II)I"⟩
def RX8 : String := "PlumbShaftModel"
def TX8 : u_T := fun k => match k with
  | _ => ("", "", "", false)
def tyX8 : Nat → FieldType := fun k => match k with
  | _ => .int
abbrev wsX80 : List Cond := u_ws RX8 TX8 0
theorem nmX8 : ∀ a, a < 0 → ∀ b, b < 0 → a ≠ b → (TX8 a).2.1 ≠ (TX8 b).2.1 := by decide +kernel
theorem tyX8_ok : ∀ k, k < 0 → parseFieldDescriptor (TX8 k).2.2.1 = some (tyX8 k) := by decide +kernel
def RJ9 : String := "java/lang/Math"
def TJ9 : u_T := fun k => match k with
  | _ => ("", "", "", false)
def tyJ9 : Nat → FieldType := fun k => match k with
  | _ => .int
abbrev wsJ90 : List Cond := u_ws RJ9 TJ9 0
theorem nmJ9 : ∀ a, a < 0 → ∀ b, b < 0 → a ≠ b → (TJ9 a).2.1 ≠ (TJ9 b).2.1 := by decide +kernel
theorem tyJ9_ok : ∀ k, k < 0 → parseFieldDescriptor (TJ9 k).2.2.1 = some (tyJ9 k) := by decide +kernel
abbrev cJ9_floorDiv_7cf53 : ByteArray := prog_11_method_47_code
def yJ9_floorDiv_7cf53 : MethodName := ⟨RJ9, "floorDiv", "(II)I"⟩
abbrev cJ9_floorDiv_f86c9 : ByteArray := prog_11_method_49_code
def yJ9_floorDiv_f86c9 : MethodName := ⟨RJ9, "floorDiv", "(JJ)J"⟩
abbrev cJ9_floorMod_f86c9 : ByteArray := prog_11_method_52_code
def yJ9_floorMod_f86c9 : MethodName := ⟨RJ9, "floorMod", "(JJ)J"⟩
abbrev cJ9_abs_0f7a4 : ByteArray := prog_11_method_59_code
def yJ9_abs_0f7a4 : MethodName := ⟨RJ9, "abs", "(I)I"⟩
abbrev cJ9_abs_067f4 : ByteArray := prog_11_method_61_code
def yJ9_abs_067f4 : MethodName := ⟨RJ9, "abs", "(J)J"⟩
abbrev cJ9_max_7cf53 : ByteArray := prog_11_method_65_code
def yJ9_max_7cf53 : MethodName := ⟨RJ9, "max", "(II)I"⟩
abbrev cJ9_min_7cf53 : ByteArray := prog_11_method_69_code
def yJ9_min_7cf53 : MethodName := ⟨RJ9, "min", "(II)I"⟩
def RL : String := "PlumbShaftLaw"
abbrev cL_cell : ByteArray := method_2_code
def yL_cell : MethodName := ⟨RL, "cell", "([II)I"⟩
abbrev cL_low : ByteArray := method_3_code
def yL_low : MethodName := ⟨RL, "low", "(II)I"⟩
abbrev cL_size : ByteArray := method_4_code
def yL_size : MethodName := ⟨RL, "size", "(I)I"⟩
abbrev cL_round : ByteArray := method_5_code
def yL_round : MethodName := ⟨RL, "round", "(I)I"⟩
abbrev cL_bearings : ByteArray := method_6_code
def yL_bearings : MethodName := ⟨RL, "bearings", "(LPlumbShaft;II)Z"⟩
abbrev cL_swing : ByteArray := method_7_code
def yL_swing : MethodName := ⟨RL, "swing", "(III)I"⟩
abbrev cL_across : ByteArray := method_8_code
def yL_across : MethodName := ⟨RL, "across", "(II)I"⟩
abbrev cL_at : ByteArray := method_9_code
def yL_at : MethodName := ⟨RL, "at", "(LPlumbShaft;IIIII)I"⟩
abbrev cL_calmer : ByteArray := method_10_code
def yL_calmer : MethodName := ⟨RL, "calmer", "(II)I"⟩
abbrev cL_wires : ByteArray := method_11_code
def yL_wires : MethodName := ⟨RL, "wires", "(LPlumbShaft;I)Z"⟩
abbrev cL_stations : ByteArray := method_12_code
def yL_stations : MethodName := ⟨RL, "stations", "(LPlumbShaft;)Z"⟩
abbrev cL_passes : ByteArray := method_13_code
def yL_passes : MethodName := ⟨RL, "passes", "(LPlumbShaft;I)Z"⟩
abbrev cL_observes : ByteArray := method_14_code
def yL_observes : MethodName := ⟨RL, "observes", "(LPlumbShaft;III)Z"⟩
abbrev cL_orients : ByteArray := method_15_code
def yL_orients : MethodName := ⟨RL, "orients", "(LPlumbShaft;I)Z"⟩
abbrev cL_swaps : ByteArray := method_16_code
def yL_swaps : MethodName := ⟨RL, "swaps", "(LPlumbShaft;II)Z"⟩
abbrev cL_errors : ByteArray := method_17_code
def yL_errors : MethodName := ⟨RL, "errors", "(LPlumbShaft;)Z"⟩
abbrev cL_law : ByteArray := code
def yL_law : MethodName := ⟨RL, "law", "([I)Z"⟩
abbrev vwCl : List vw_C := [(RX0, TX0, 4), (RX1, TX1, 6), (RX2, TX2, 6), (RX3, TX3, 4), (RX4, TX4, 8), (RX5, TX5, 5), (RX6, TX6, 12), (RX7, TX7, 8)]
