/-! ===== BEGIN words of one list among another's, by their places ===== -/
theorem goodIn_r {big : List Cond} (ws : List Cond) (ps : List Nat) (hp : ws = ps.filterMap (fun i => big[i]?)) (h : ws.all goodWord = true) : GoodIn big ws := by
  intro w hw
  have h1 := List.all_eq_true.mp h w hw
  rw [hp] at hw
  obtain ⟨i, -, hi⟩ := List.mem_filterMap.mp hw
  have hm : w ∈ big := by first | exact List.mem_of_getElem? hi | exact List.getElem?_mem hi
  exact ⟨hm, good_of_word h1⟩
theorem goodIn_app {big a b : List Cond} (ha : GoodIn big a) (hb : GoodIn big b) : GoodIn big (a ++ b) := fun w h => (List.mem_append.mp h).elim (ha w) (hb w)
theorem goodIn_ca {big a b : List Cond} {c : Cond} (ha : GoodIn big (c :: a)) (hb : GoodIn big b) : GoodIn big (c :: (a ++ b)) := fun w h => (List.mem_cons.mp h).elim (fun e => ha w (List.mem_cons.mpr (Or.inl e))) (fun h => (List.mem_append.mp h).elim (fun h => ha w (List.mem_cons.mpr (Or.inr h))) (hb w))
theorem goodIn_sub {big ws : List Cond} (hm : ∀ w ∈ ws, w ∈ big) (h : ws.all goodWord = true) : GoodIn big ws := fun w hw => ⟨hm w hw, good_of_word (List.all_eq_true.mp h w hw)⟩
/-! ===== END ===== -/

/-! ===== BEGIN printed: names, fields, word lists, decode rows ===== -/
def RX0 : String := "ZoneRelay$Impedance"
def TX0 : u_T := fun k => match k with
  | 0 => ("ZoneRelay$Impedance", "exists", "Z", false)
  | 1 => ("ZoneRelay$Impedance", "x", "J", false)
  | 2 => ("ZoneRelay$Impedance", "y", "J", false)
  | _ => ("ZoneRelay$Impedance", "d", "J", false)
def tyX0 : Nat → FieldType := fun k => match k with
  | 0 => .boolean
  | 1 => .long
  | 2 => .long
  | _ => .long
abbrev wsX00 : List Cond := u_ws RX0 TX0 4
theorem nmX0 : ∀ a, a < 4 → ∀ b, b < 4 → a ≠ b → (TX0 a).2.1 ≠ (TX0 b).2.1 := by decide +kernel
theorem tyX0_ok : ∀ k, k < 4 → parseFieldDescriptor (TX0 k).2.2.1 = some (tyX0 k) := by decide +kernel
abbrev cX0_init : ByteArray := prog_2_method_1_code
def yX0_init : MethodName := ⟨RX0, "<init>", "()V"⟩
abbrev cX0_becomeLike : ByteArray := prog_2_method_2_code
def yX0_becomeLike : MethodName := ⟨RX0, "becomeLike", "(LZoneRelay$Impedance;)V"⟩
abbrev cX0_become : ByteArray := prog_2_method_3_code
def yX0_become : MethodName := ⟨RX0, "become", "(LZoneRelay$Phasors;I)V"⟩
abbrev cX0_truncated : ByteArray := prog_2_method_4_code
def yX0_truncated : MethodName := ⟨RX0, "truncated", "(J)J"⟩
abbrev cX0_isIn : ByteArray := prog_2_method_5_code
def yX0_isIn : MethodName := ⟨RX0, "isIn", "(LZoneRelay$Polygon;)Z"⟩
abbrev cX0_isInLoad : ByteArray := prog_2_method_6_code
def yX0_isInLoad : MethodName := ⟨RX0, "isInLoad", "(II)Z"⟩
def RX1 : String := "ZoneRelay$Log"
def TX1 : u_T := fun k => match k with
  | 0 => ("ZoneRelay$Log", "times", "[I", true)
  | 1 => ("ZoneRelay$Log", "kinds", "[I", true)
  | _ => ("ZoneRelay$Log", "total", "I", false)
def tyX1 : Nat → FieldType := fun k => match k with
  | 0 => .array .int
  | 1 => .array .int
  | _ => .int
abbrev wsX10 : List Cond := u_ws RX1 TX1 3
theorem nmX1 : ∀ a, a < 3 → ∀ b, b < 3 → a ≠ b → (TX1 a).2.1 ≠ (TX1 b).2.1 := by decide +kernel
theorem tyX1_ok : ∀ k, k < 3 → parseFieldDescriptor (TX1 k).2.2.1 = some (tyX1 k) := by decide +kernel
abbrev cX1_init : ByteArray := prog_3_method_1_code
def yX1_init : MethodName := ⟨RX1, "<init>", "()V"⟩
abbrev cX1_becomeLike : ByteArray := prog_3_method_2_code
def yX1_becomeLike : MethodName := ⟨RX1, "becomeLike", "(LZoneRelay$Log;)V"⟩
abbrev cX1_note : ByteArray := prog_3_method_3_code
def yX1_note : MethodName := ⟨RX1, "note", "(II)V"⟩
abbrev cX1_keeps : ByteArray := prog_3_method_4_code
def yX1_keeps : MethodName := ⟨RX1, "keeps", "(I)Z"⟩
def RX2 : String := "ZoneRelay$Network"
def TX2 : u_T := fun k => match k with
  | 0 => ("ZoneRelay$Network", "first", "[I", true)
  | _ => ("ZoneRelay$Network", "second", "[I", true)
def tyX2 : Nat → FieldType := fun k => match k with
  | 0 => .array .int
  | _ => .array .int
abbrev wsX20 : List Cond := u_ws RX2 TX2 2
theorem nmX2 : ∀ a, a < 2 → ∀ b, b < 2 → a ≠ b → (TX2 a).2.1 ≠ (TX2 b).2.1 := by decide +kernel
theorem tyX2_ok : ∀ k, k < 2 → parseFieldDescriptor (TX2 k).2.2.1 = some (tyX2 k) := by decide +kernel
abbrev cX2_init : ByteArray := prog_4_method_1_code
def yX2_init : MethodName := ⟨RX2, "<init>", "()V"⟩
abbrev cX2_becomeLike : ByteArray := prog_4_method_2_code
def yX2_becomeLike : MethodName := ⟨RX2, "becomeLike", "(LZoneRelay$Network;)V"⟩
abbrev cX2_findFaulted : ByteArray := prog_4_method_3_code
def yX2_findFaulted : MethodName := ⟨RX2, "findFaulted", "(IILZoneRelay$Phasors;)Z"⟩
abbrev cX2_findUnfaulted : ByteArray := prog_4_method_4_code
def yX2_findUnfaulted : MethodName := ⟨RX2, "findUnfaulted", "(LZoneRelay$Phasors;)Z"⟩
abbrev cX2_solve : ByteArray := prog_4_method_5_code
def yX2_solve : MethodName := ⟨RX2, "solve", "(IILZoneRelay$Phasors;)Z"⟩
abbrev cX2_limited : ByteArray := prog_4_method_6_code
def yX2_limited : MethodName := ⟨RX2, "limited", "(J)I"⟩
def RX3 : String := "ZoneRelay$Phasors"
def TX3 : u_T := fun k => match k with
  | 0 => ("ZoneRelay$Phasors", "va", "I", false)
  | 1 => ("ZoneRelay$Phasors", "vb", "I", false)
  | 2 => ("ZoneRelay$Phasors", "ia", "I", false)
  | _ => ("ZoneRelay$Phasors", "ib", "I", false)
def tyX3 : Nat → FieldType := fun k => match k with
  | 0 => .int
  | 1 => .int
  | 2 => .int
  | _ => .int
abbrev wsX30 : List Cond := u_ws RX3 TX3 4
theorem nmX3 : ∀ a, a < 4 → ∀ b, b < 4 → a ≠ b → (TX3 a).2.1 ≠ (TX3 b).2.1 := by decide +kernel
theorem tyX3_ok : ∀ k, k < 4 → parseFieldDescriptor (TX3 k).2.2.1 = some (tyX3 k) := by decide +kernel
abbrev cX3_init : ByteArray := prog_5_method_1_code
def yX3_init : MethodName := ⟨RX3, "<init>", "()V"⟩
abbrev cX3_put : ByteArray := prog_5_method_2_code
def yX3_put : MethodName := ⟨RX3, "put", "(IIII)V"⟩
abbrev cX3_becomeLike : ByteArray := prog_5_method_3_code
def yX3_becomeLike : MethodName := ⟨RX3, "becomeLike", "(LZoneRelay$Phasors;)V"⟩
def RX4 : String := "ZoneRelay$Polygon"
def TX4 : u_T := fun k => match k with
  | 0 => ("ZoneRelay$Polygon", "xs", "[I", true)
  | 1 => ("ZoneRelay$Polygon", "ys", "[I", true)
  | 2 => ("ZoneRelay$Polygon", "size", "I", false)
  | _ => ("ZoneRelay$Polygon", "defect", "I", false)
def tyX4 : Nat → FieldType := fun k => match k with
  | 0 => .array .int
  | 1 => .array .int
  | 2 => .int
  | _ => .int
abbrev wsX40 : List Cond := u_ws RX4 TX4 4
theorem nmX4 : ∀ a, a < 4 → ∀ b, b < 4 → a ≠ b → (TX4 a).2.1 ≠ (TX4 b).2.1 := by decide +kernel
theorem tyX4_ok : ∀ k, k < 4 → parseFieldDescriptor (TX4 k).2.2.1 = some (tyX4 k) := by decide +kernel
abbrev cX4_init : ByteArray := prog_6_method_1_code
def yX4_init : MethodName := ⟨RX4, "<init>", "()V"⟩
abbrev cX4_becomeLike : ByteArray := prog_6_method_2_code
def yX4_becomeLike : MethodName := ⟨RX4, "becomeLike", "(LZoneRelay$Polygon;)V"⟩
abbrev cX4_empty : ByteArray := prog_6_method_3_code
def yX4_empty : MethodName := ⟨RX4, "empty", "()V"⟩
abbrev cX4_append : ByteArray := prog_6_method_4_code
def yX4_append : MethodName := ⟨RX4, "append", "(II)V"⟩
abbrev cX4_holds : ByteArray := prog_6_method_5_code
def yX4_holds : MethodName := ⟨RX4, "holds", "(JJJ)Z"⟩
abbrev cX4_writeTo : ByteArray := prog_6_method_6_code
def yX4_writeTo : MethodName := ⟨RX4, "writeTo", "(Ljava/lang/StringBuilder;)V"⟩
abbrev cX4_findDefect : ByteArray := prog_6_method_7_code
def yX4_findDefect : MethodName := ⟨RX4, "findDefect", "()I"⟩
abbrev cX4_turnsLeftEverywhere : ByteArray := prog_6_method_8_code
def yX4_turnsLeftEverywhere : MethodName := ⟨RX4, "turnsLeftEverywhere", "()Z"⟩
abbrev cX4_countTurnsOfY : ByteArray := prog_6_method_9_code
def yX4_countTurnsOfY : MethodName := ⟨RX4, "countTurnsOfY", "()I"⟩
abbrev cX4_after : ByteArray := prog_6_method_10_code
def yX4_after : MethodName := ⟨RX4, "after", "(I)I"⟩
def RX5 : String := "ZoneRelay$Reader"
def TX5 : u_T := fun k => match k with
  | 0 => ("ZoneRelay$Reader", "xs", "[I", true)
  | 1 => ("ZoneRelay$Reader", "ys", "[I", true)
  | 2 => ("ZoneRelay$Reader", "corners", "I", false)
  | 3 => ("ZoneRelay$Reader", "isAtY", "Z", false)
  | 4 => ("ZoneRelay$Reader", "isNegative", "Z", false)
  | 5 => ("ZoneRelay$Reader", "digits", "I", false)
  | _ => ("ZoneRelay$Reader", "value", "I", false)
def tyX5 : Nat → FieldType := fun k => match k with
  | 0 => .array .int
  | 1 => .array .int
  | 2 => .int
  | 3 => .boolean
  | 4 => .boolean
  | 5 => .int
  | _ => .int
abbrev wsX50 : List Cond := u_ws RX5 TX5 7
theorem nmX5 : ∀ a, a < 7 → ∀ b, b < 7 → a ≠ b → (TX5 a).2.1 ≠ (TX5 b).2.1 := by decide +kernel
theorem tyX5_ok : ∀ k, k < 7 → parseFieldDescriptor (TX5 k).2.2.1 = some (tyX5 k) := by decide +kernel
abbrev cX5_init : ByteArray := prog_7_method_1_code
def yX5_init : MethodName := ⟨RX5, "<init>", "()V"⟩
abbrev cX5_findFlaw : ByteArray := prog_7_method_2_code
def yX5_findFlaw : MethodName := ⟨RX5, "findFlaw", "(Ljava/lang/StringBuilder;)I"⟩
abbrev cX5_takes : ByteArray := prog_7_method_3_code
def yX5_takes : MethodName := ⟨RX5, "takes", "(C)Z"⟩
abbrev cX5_takesMinus : ByteArray := prog_7_method_4_code
def yX5_takesMinus : MethodName := ⟨RX5, "takesMinus", "()Z"⟩
abbrev cX5_takesComma : ByteArray := prog_7_method_5_code
def yX5_takesComma : MethodName := ⟨RX5, "takesComma", "()Z"⟩
abbrev cX5_takesSlash : ByteArray := prog_7_method_6_code
def yX5_takesSlash : MethodName := ⟨RX5, "takesSlash", "()Z"⟩
abbrev cX5_takesDigit : ByteArray := prog_7_method_7_code
def yX5_takesDigit : MethodName := ⟨RX5, "takesDigit", "(I)Z"⟩
abbrev cX5_startNumber : ByteArray := prog_7_method_8_code
def yX5_startNumber : MethodName := ⟨RX5, "startNumber", "()V"⟩
abbrev cX5_number : ByteArray := prog_7_method_9_code
def yX5_number : MethodName := ⟨RX5, "number", "()I"⟩
abbrev cX5_endCorner : ByteArray := prog_7_method_10_code
def yX5_endCorner : MethodName := ⟨RX5, "endCorner", "()V"⟩
def RX6 : String := "ZoneRelay$Relay"
def TX6 : u_T := fun k => match k with
  | 0 => ("ZoneRelay$Relay", "polygons", "[LZoneRelay$Polygon;", true)
  | 1 => ("ZoneRelay$Relay", "settings", "[I", true)
  | 2 => ("ZoneRelay$Relay", "zones", "[LZoneRelay$Zone;", true)
  | 3 => ("ZoneRelay$Relay", "network", "LZoneRelay$Network;", true)
  | 4 => ("ZoneRelay$Relay", "signal", "LZoneRelay$Signal;", true)
  | 5 => ("ZoneRelay$Relay", "voltage", "LZoneRelay$Window;", true)
  | 6 => ("ZoneRelay$Relay", "current", "LZoneRelay$Window;", true)
  | 7 => ("ZoneRelay$Relay", "estimate", "LZoneRelay$Phasors;", true)
  | 8 => ("ZoneRelay$Relay", "impedance", "LZoneRelay$Impedance;", true)
  | 9 => ("ZoneRelay$Relay", "log", "LZoneRelay$Log;", true)
  | 10 => ("ZoneRelay$Relay", "memoryA", "I", false)
  | 11 => ("ZoneRelay$Relay", "memoryB", "I", false)
  | 12 => ("ZoneRelay$Relay", "memoryAge", "I", false)
  | 13 => ("ZoneRelay$Relay", "between", "I", false)
  | 14 => ("ZoneRelay$Relay", "swing", "Z", false)
  | 15 => ("ZoneRelay$Relay", "inLoad", "Z", false)
  | 16 => ("ZoneRelay$Relay", "trippedBy", "I", false)
  | _ => ("ZoneRelay$Relay", "time", "I", false)
def tyX6 : Nat → FieldType := fun k => match k with
  | 0 => .array (.object "ZoneRelay$Polygon")
  | 1 => .array .int
  | 2 => .array (.object "ZoneRelay$Zone")
  | 3 => .object "ZoneRelay$Network"
  | 4 => .object "ZoneRelay$Signal"
  | 5 => .object "ZoneRelay$Window"
  | 6 => .object "ZoneRelay$Window"
  | 7 => .object "ZoneRelay$Phasors"
  | 8 => .object "ZoneRelay$Impedance"
  | 9 => .object "ZoneRelay$Log"
  | 10 => .int
  | 11 => .int
  | 12 => .int
  | 13 => .int
  | 14 => .boolean
  | 15 => .boolean
  | 16 => .int
  | _ => .int
abbrev wsX60 : List Cond := u_ws RX6 TX6 18
theorem nmX6 : ∀ a, a < 18 → ∀ b, b < 18 → a ≠ b → (TX6 a).2.1 ≠ (TX6 b).2.1 := by decide +kernel
theorem tyX6_ok : ∀ k, k < 18 → parseFieldDescriptor (TX6 k).2.2.1 = some (tyX6 k) := by decide +kernel
abbrev cX6_init : ByteArray := prog_8_method_1_code
def yX6_init : MethodName := ⟨RX6, "<init>", "()V"⟩
abbrev cX6_becomeLike : ByteArray := prog_8_method_2_code
def yX6_becomeLike : MethodName := ⟨RX6, "becomeLike", "(LZoneRelay$Relay;)V"⟩
abbrev cX6_rearm : ByteArray := prog_8_method_3_code
def yX6_rearm : MethodName := ⟨RX6, "rearm", "()V"⟩
abbrev cX6_samplesUntilTrip : ByteArray := prog_8_method_4_code
def yX6_samplesUntilTrip : MethodName := ⟨RX6, "samplesUntilTrip", "(I)I"⟩
abbrev cX6_takeSample : ByteArray := prog_8_method_5_code
def yX6_takeSample : MethodName := ⟨RX6, "takeSample", "()V"⟩
abbrev cX6_estimateFrom : ByteArray := prog_8_method_6_code
def yX6_estimateFrom : MethodName := ⟨RX6, "estimateFrom", "(LZoneRelay$Phasors;)V"⟩
abbrev cX6_remember : ByteArray := prog_8_method_7_code
def yX6_remember : MethodName := ⟨RX6, "remember", "()V"⟩
abbrev cX6_watchSwing : ByteArray := prog_8_method_8_code
def yX6_watchSwing : MethodName := ⟨RX6, "watchSwing", "()V"⟩
abbrev cX6_endSwing : ByteArray := prog_8_method_9_code
def yX6_endSwing : MethodName := ⟨RX6, "endSwing", "()V"⟩
abbrev cX6_pickUpZones : ByteArray := prog_8_method_10_code
def yX6_pickUpZones : MethodName := ⟨RX6, "pickUpZones", "()V"⟩
abbrev cX6_torque : ByteArray := prog_8_method_11_code
def yX6_torque : MethodName := ⟨RX6, "torque", "()J"⟩
abbrev cX6_isBlocked : ByteArray := prog_8_method_12_code
def yX6_isBlocked : MethodName := ⟨RX6, "isBlocked", "(I)Z"⟩
abbrev cX6_runTimers : ByteArray := prog_8_method_13_code
def yX6_runTimers : MethodName := ⟨RX6, "runTimers", "()V"⟩
abbrev cX6_trip : ByteArray := prog_8_method_14_code
def yX6_trip : MethodName := ⟨RX6, "trip", "()V"⟩
def RX7 : String := "ZoneRelay$Signal"
def TX7 : u_T := fun k => match k with
  | 0 => ("ZoneRelay$Signal", "now", "LZoneRelay$Phasors;", true)
  | 1 => ("ZoneRelay$Signal", "from", "LZoneRelay$Phasors;", true)
  | 2 => ("ZoneRelay$Signal", "to", "LZoneRelay$Phasors;", true)
  | 3 => ("ZoneRelay$Signal", "length", "I", false)
  | _ => ("ZoneRelay$Signal", "left", "I", false)
def tyX7 : Nat → FieldType := fun k => match k with
  | 0 => .object "ZoneRelay$Phasors"
  | 1 => .object "ZoneRelay$Phasors"
  | 2 => .object "ZoneRelay$Phasors"
  | 3 => .int
  | _ => .int
abbrev wsX70 : List Cond := u_ws RX7 TX7 5
theorem nmX7 : ∀ a, a < 5 → ∀ b, b < 5 → a ≠ b → (TX7 a).2.1 ≠ (TX7 b).2.1 := by decide +kernel
theorem tyX7_ok : ∀ k, k < 5 → parseFieldDescriptor (TX7 k).2.2.1 = some (tyX7 k) := by decide +kernel
abbrev cX7_init : ByteArray := prog_9_method_1_code
def yX7_init : MethodName := ⟨RX7, "<init>", "()V"⟩
abbrev cX7_becomeLike : ByteArray := prog_9_method_2_code
def yX7_becomeLike : MethodName := ⟨RX7, "becomeLike", "(LZoneRelay$Signal;)V"⟩
abbrev cX7_jumpTo : ByteArray := prog_9_method_3_code
def yX7_jumpTo : MethodName := ⟨RX7, "jumpTo", "(LZoneRelay$Phasors;)V"⟩
abbrev cX7_endRamp : ByteArray := prog_9_method_4_code
def yX7_endRamp : MethodName := ⟨RX7, "endRamp", "()V"⟩
abbrev cX7_beginRamp : ByteArray := prog_9_method_5_code
def yX7_beginRamp : MethodName := ⟨RX7, "beginRamp", "(I)V"⟩
abbrev cX7_advance : ByteArray := prog_9_method_6_code
def yX7_advance : MethodName := ⟨RX7, "advance", "()V"⟩
abbrev cX7_onTheWay : ByteArray := prog_9_method_7_code
def yX7_onTheWay : MethodName := ⟨RX7, "onTheWay", "(II)I"⟩
def RX8 : String := "ZoneRelay$Window"
def TX8 : u_T := fun k => match k with
  | 0 => ("ZoneRelay$Window", "samples", "[I", true)
  | 1 => ("ZoneRelay$Window", "cosineSum", "J", false)
  | _ => ("ZoneRelay$Window", "sineSum", "J", false)
def tyX8 : Nat → FieldType := fun k => match k with
  | 0 => .array .int
  | 1 => .long
  | _ => .long
abbrev wsX80 : List Cond := u_ws RX8 TX8 3
theorem nmX8 : ∀ a, a < 3 → ∀ b, b < 3 → a ≠ b → (TX8 a).2.1 ≠ (TX8 b).2.1 := by decide +kernel
theorem tyX8_ok : ∀ k, k < 3 → parseFieldDescriptor (TX8 k).2.2.1 = some (tyX8 k) := by decide +kernel
abbrev cX8_init : ByteArray := prog_10_method_1_code
def yX8_init : MethodName := ⟨RX8, "<init>", "()V"⟩
abbrev cX8_becomeLike : ByteArray := prog_10_method_2_code
def yX8_becomeLike : MethodName := ⟨RX8, "becomeLike", "(LZoneRelay$Window;)V"⟩
abbrev cX8_take : ByteArray := prog_10_method_3_code
def yX8_take : MethodName := ⟨RX8, "take", "(III)V"⟩
abbrev cX8_estimateA : ByteArray := prog_10_method_4_code
def yX8_estimateA : MethodName := ⟨RX8, "estimateA", "()I"⟩
abbrev cX8_estimateB : ByteArray := prog_10_method_5_code
def yX8_estimateB : MethodName := ⟨RX8, "estimateB", "()I"⟩
def RX9 : String := "ZoneRelay$Zone"
def TX9 : u_T := fun k => match k with
  | 0 => ("ZoneRelay$Zone", "delay", "I", false)
  | 1 => ("ZoneRelay$Zone", "direction", "I", false)
  | 2 => ("ZoneRelay$Zone", "timer", "I", false)
  | _ => ("ZoneRelay$Zone", "picked", "Z", false)
def tyX9 : Nat → FieldType := fun k => match k with
  | 0 => .int
  | 1 => .int
  | 2 => .int
  | _ => .boolean
abbrev wsX90 : List Cond := u_ws RX9 TX9 4
theorem nmX9 : ∀ a, a < 4 → ∀ b, b < 4 → a ≠ b → (TX9 a).2.1 ≠ (TX9 b).2.1 := by decide +kernel
theorem tyX9_ok : ∀ k, k < 4 → parseFieldDescriptor (TX9 k).2.2.1 = some (tyX9 k) := by decide +kernel
abbrev cX9_init : ByteArray := prog_11_method_1_code
def yX9_init : MethodName := ⟨RX9, "<init>", "(I)V"⟩
abbrev cX9_becomeLike : ByteArray := prog_11_method_2_code
def yX9_becomeLike : MethodName := ⟨RX9, "becomeLike", "(LZoneRelay$Zone;)V"⟩
abbrev cX9_fits : ByteArray := prog_11_method_3_code
def yX9_fits : MethodName := ⟨RX9, "fits", "(J)Z"⟩
def RX10 : String := "ZoneRelay"
def TX10 : u_T := fun k => match k with
  | 0 => ("ZoneRelay", "relay", "LZoneRelay$Relay;", true)
  | 1 => ("ZoneRelay", "copy", "LZoneRelay$Relay;", true)
  | 2 => ("ZoneRelay", "slots", "[LZoneRelay$Relay;", true)
  | 3 => ("ZoneRelay", "faulted", "LZoneRelay$Phasors;", true)
  | 4 => ("ZoneRelay", "unfaulted", "LZoneRelay$Phasors;", true)
  | 5 => ("ZoneRelay", "seen", "LZoneRelay$Impedance;", true)
  | 6 => ("ZoneRelay", "pad", "Ljava/lang/StringBuilder;", true)
  | 7 => ("ZoneRelay", "reader", "LZoneRelay$Reader;", true)
  | _ => ("ZoneRelay", "spelled", "Ljava/lang/StringBuilder;", true)
def tyX10 : Nat → FieldType := fun k => match k with
  | 0 => .object "ZoneRelay$Relay"
  | 1 => .object "ZoneRelay$Relay"
  | 2 => .array (.object "ZoneRelay$Relay")
  | 3 => .object "ZoneRelay$Phasors"
  | 4 => .object "ZoneRelay$Phasors"
  | 5 => .object "ZoneRelay$Impedance"
  | 6 => .object "java/lang/StringBuilder"
  | 7 => .object "ZoneRelay$Reader"
  | _ => .object "java/lang/StringBuilder"
abbrev wsX100 : List Cond := u_ws RX10 TX10 9
theorem nmX10 : ∀ a, a < 9 → ∀ b, b < 9 → a ≠ b → (TX10 a).2.1 ≠ (TX10 b).2.1 := by decide +kernel
theorem tyX10_ok : ∀ k, k < 9 → parseFieldDescriptor (TX10 k).2.2.1 = some (tyX10 k) := by decide +kernel
abbrev cX10_init : ByteArray := prog_1_method_1_code
def yX10_init : MethodName := ⟨RX10, "<init>", "()V"⟩
abbrev cX10_corner : ByteArray := prog_1_method_2_code
def yX10_corner : MethodName := ⟨RX10, "corner", "(III)I"⟩
abbrev cX10_clear : ByteArray := prog_1_method_3_code
def yX10_clear : MethodName := ⟨RX10, "clear", "(I)I"⟩
abbrev cX10_at : ByteArray := prog_1_method_4_code
def yX10_at : MethodName := ⟨RX10, "at", "(III)I"⟩
abbrev cX10_sound : ByteArray := prog_1_method_5_code
def yX10_sound : MethodName := ⟨RX10, "sound", "(I)I"⟩
abbrev cX10_contains : ByteArray := prog_1_method_6_code
def yX10_contains : MethodName := ⟨RX10, "contains", "(III)I"⟩
abbrev cX10_set : ByteArray := prog_1_method_7_code
def yX10_set : MethodName := ⟨RX10, "set", "(II)I"⟩
abbrev cX10_zone : ByteArray := prog_1_method_8_code
def yX10_zone : MethodName := ⟨RX10, "zone", "(III)I"⟩
abbrev cX10_apply : ByteArray := prog_1_method_9_code
def yX10_apply : MethodName := ⟨RX10, "apply", "(IIII)I"⟩
abbrev cX10_ramp : ByteArray := prog_1_method_10_code
def yX10_ramp : MethodName := ⟨RX10, "ramp", "(IIIII)I"⟩
abbrev cX10_network : ByteArray := prog_1_method_11_code
def yX10_network : MethodName := ⟨RX10, "network", "(III)I"⟩
abbrev cX10_fault : ByteArray := prog_1_method_12_code
def yX10_fault : MethodName := ⟨RX10, "fault", "(II)I"⟩
abbrev cX10_healthy : ByteArray := prog_1_method_13_code
def yX10_healthy : MethodName := ⟨RX10, "healthy", "()I"⟩
abbrev cX10_phasor : ByteArray := prog_1_method_14_code
def yX10_phasor : MethodName := ⟨RX10, "phasor", "(I)J"⟩
abbrev cX10_pass : ByteArray := prog_1_method_15_code
def yX10_pass : MethodName := ⟨RX10, "pass", "(I)I"⟩
abbrev cX10_measure : ByteArray := prog_1_method_16_code
def yX10_measure : MethodName := ⟨RX10, "measure", "(I)J"⟩
abbrev cX10_state : ByteArray := prog_1_method_17_code
def yX10_state : MethodName := ⟨RX10, "state", "(II)I"⟩
abbrev cX10_tripped : ByteArray := prog_1_method_18_code
def yX10_tripped : MethodName := ⟨RX10, "tripped", "()I"⟩
abbrev cX10_reset : ByteArray := prog_1_method_19_code
def yX10_reset : MethodName := ⟨RX10, "reset", "()I"⟩
abbrev cX10_event : ByteArray := prog_1_method_20_code
def yX10_event : MethodName := ⟨RX10, "event", "(II)I"⟩
abbrev cX10_covers : ByteArray := prog_1_method_21_code
def yX10_covers : MethodName := ⟨RX10, "covers", "(II)I"⟩
abbrev cX10_reach : ByteArray := prog_1_method_22_code
def yX10_reach : MethodName := ⟨RX10, "reach", "(II)I"⟩
abbrev cX10_test : ByteArray := prog_1_method_23_code
def yX10_test : MethodName := ⟨RX10, "test", "(IIII)I"⟩
abbrev cX10_forecast : ByteArray := prog_1_method_24_code
def yX10_forecast : MethodName := ⟨RX10, "forecast", "(I)I"⟩
abbrev cX10_say : ByteArray := prog_1_method_25_code
def yX10_say : MethodName := ⟨RX10, "say", "(I)I"⟩
abbrev cX10_wipe : ByteArray := prog_1_method_26_code
def yX10_wipe : MethodName := ⟨RX10, "wipe", "()I"⟩
abbrev cX10_flaw : ByteArray := prog_1_method_27_code
def yX10_flaw : MethodName := ⟨RX10, "flaw", "()I"⟩
abbrev cX10_load : ByteArray := prog_1_method_28_code
def yX10_load : MethodName := ⟨RX10, "load", "(I)I"⟩
abbrev cX10_spell : ByteArray := prog_1_method_29_code
def yX10_spell : MethodName := ⟨RX10, "spell", "(II)I"⟩
abbrev cX10_count : ByteArray := prog_1_method_30_code
def yX10_count : MethodName := ⟨RX10, "count", "(I)I"⟩
abbrev cX10_save : ByteArray := prog_1_method_31_code
def yX10_save : MethodName := ⟨RX10, "save", "(I)I"⟩
abbrev cX10_restore : ByteArray := prog_1_method_32_code
def yX10_restore : MethodName := ⟨RX10, "restore", "(I)I"⟩
abbrev cX10_outside : ByteArray := prog_1_method_33_code
def yX10_outside : MethodName := ⟨RX10, "outside", "(III)Z"⟩
abbrev cX10_beyondLimit : ByteArray := prog_1_method_34_code
def yX10_beyondLimit : MethodName := ⟨RX10, "beyondLimit", "(I)Z"⟩
abbrev cX10_isNoFault : ByteArray := prog_1_method_35_code
def yX10_isNoFault : MethodName := ⟨RX10, "isNoFault", "(II)Z"⟩
abbrev cX10_isInSet : ByteArray := prog_1_method_36_code
def yX10_isInSet : MethodName := ⟨RX10, "isInSet", "(II)Z"⟩
abbrev cX10_asNumber : ByteArray := prog_1_method_37_code
def yX10_asNumber : MethodName := ⟨RX10, "asNumber", "(Z)I"⟩
abbrev cX10_zonesOfFault : ByteArray := prog_1_method_38_code
def yX10_zonesOfFault : MethodName := ⟨RX10, "zonesOfFault", "(II)I"⟩
def RX11 : String := "ZoneRelayModel"
def TX11 : u_T := fun k => match k with
  | 0 => ("ZoneRelayModel", "at", "[J", true)
  | 1 => ("ZoneRelayModel", "aside", "[J", true)
  | 2 => ("ZoneRelayModel", "slots", "[J", true)
  | 3 => ("ZoneRelayModel", "isSaved", "[Z", true)
  | 4 => ("ZoneRelayModel", "pad", "[I", true)
  | 5 => ("ZoneRelayModel", "padMany", "I", false)
  | 6 => ("ZoneRelayModel", "cosine", "[I", true)
  | 7 => ("ZoneRelayModel", "foundVa", "J", false)
  | 8 => ("ZoneRelayModel", "foundVb", "J", false)
  | 9 => ("ZoneRelayModel", "foundIa", "J", false)
  | 10 => ("ZoneRelayModel", "foundIb", "J", false)
  | 11 => ("ZoneRelayModel", "pointX", "J", false)
  | 12 => ("ZoneRelayModel", "pointY", "J", false)
  | 13 => ("ZoneRelayModel", "pointBy", "J", false)
  | 14 => ("ZoneRelayModel", "reading", "I", false)
  | 15 => ("ZoneRelayModel", "isWrong", "Z", false)
  | 16 => ("ZoneRelayModel", "read", "[I", true)
  | 17 => ("ZoneRelayModel", "readMany", "I", false)
  | 18 => ("ZoneRelayModel", "written", "[I", true)
  | _ => ("ZoneRelayModel", "writtenMany", "I", false)
def tyX11 : Nat → FieldType := fun k => match k with
  | 0 => .array .long
  | 1 => .array .long
  | 2 => .array .long
  | 3 => .array .boolean
  | 4 => .array .int
  | 5 => .int
  | 6 => .array .int
  | 7 => .long
  | 8 => .long
  | 9 => .long
  | 10 => .long
  | 11 => .long
  | 12 => .long
  | 13 => .long
  | 14 => .int
  | 15 => .boolean
  | 16 => .array .int
  | 17 => .int
  | 18 => .array .int
  | _ => .int
abbrev wsX110 : List Cond := u_ws RX11 TX11 20
theorem nmX11 : ∀ a, a < 20 → ∀ b, b < 20 → a ≠ b → (TX11 a).2.1 ≠ (TX11 b).2.1 := by decide +kernel
theorem tyX11_ok : ∀ k, k < 20 → parseFieldDescriptor (TX11 k).2.2.1 = some (tyX11 k) := by decide +kernel
abbrev cX11_init : ByteArray := prog_13_method_1_code
def yX11_init : MethodName := ⟨RX11, "<init>", "()V"⟩
abbrev cX11_quarter : ByteArray := prog_13_method_2_code
def yX11_quarter : MethodName := ⟨RX11, "quarter", "(I)I"⟩
abbrev cX11_in : ByteArray := prog_13_method_3_code
def yX11_in : MethodName := ⟨RX11, "in", "(JJJ)Z"⟩
abbrev cX11_size : ByteArray := prog_13_method_4_code
def yX11_size : MethodName := ⟨RX11, "size", "(J)J"⟩
abbrev cX11_sine : ByteArray := prog_13_method_5_code
def yX11_sine : MethodName := ⟨RX11, "sine", "(J)J"⟩
abbrev cX11_putAside : ByteArray := prog_13_method_6_code
def yX11_putAside : MethodName := ⟨RX11, "putAside", "()V"⟩
abbrev cX11_putBack : ByteArray := prog_13_method_7_code
def yX11_putBack : MethodName := ⟨RX11, "putBack", "()V"⟩
abbrev cX11_isPolygon : ByteArray := prog_13_method_8_code
def yX11_isPolygon : MethodName := ⟨RX11, "isPolygon", "(I)Z"⟩
abbrev cX11_isZone : ByteArray := prog_13_method_9_code
def yX11_isZone : MethodName := ⟨RX11, "isZone", "(I)Z"⟩
abbrev cX11_corners : ByteArray := prog_13_method_10_code
def yX11_corners : MethodName := ⟨RX11, "corners", "(I)I"⟩
abbrev cX11_cornerAt : ByteArray := prog_13_method_11_code
def yX11_cornerAt : MethodName := ⟨RX11, "cornerAt", "(III)I"⟩
abbrev cX11_coordinate : ByteArray := prog_13_method_12_code
def yX11_coordinate : MethodName := ⟨RX11, "coordinate", "(III)J"⟩
abbrev cX11_append : ByteArray := prog_13_method_13_code
def yX11_append : MethodName := ⟨RX11, "append", "(III)V"⟩
abbrev cX11_corner : ByteArray := prog_13_method_14_code
def yX11_corner : MethodName := ⟨RX11, "corner", "(III)I"⟩
abbrev cX11_clear : ByteArray := prog_13_method_15_code
def yX11_clear : MethodName := ⟨RX11, "clear", "(I)I"⟩
abbrev cX11_at : ByteArray := prog_13_method_16_code
def yX11_at : MethodName := ⟨RX11, "at", "(III)I"⟩
abbrev cX11_turnsLeft : ByteArray := prog_13_method_17_code
def yX11_turnsLeft : MethodName := ⟨RX11, "turnsLeft", "(II)Z"⟩
abbrev cX11_signChanges : ByteArray := prog_13_method_18_code
def yX11_signChanges : MethodName := ⟨RX11, "signChanges", "(I)I"⟩
abbrev cX11_soundness : ByteArray := prog_13_method_19_code
def yX11_soundness : MethodName := ⟨RX11, "soundness", "(I)I"⟩
abbrev cX11_sound : ByteArray := prog_13_method_20_code
def yX11_sound : MethodName := ⟨RX11, "sound", "(I)I"⟩
abbrev cX11_holds : ByteArray := prog_13_method_21_code
def yX11_holds : MethodName := ⟨RX11, "holds", "(IJJJ)Z"⟩
abbrev cX11_contains : ByteArray := prog_13_method_22_code
def yX11_contains : MethodName := ⟨RX11, "contains", "(III)I"⟩
abbrev cX11_takes : ByteArray := prog_13_method_23_code
def yX11_takes : MethodName := ⟨RX11, "takes", "(II)Z"⟩
abbrev cX11_set : ByteArray := prog_13_method_24_code
def yX11_set : MethodName := ⟨RX11, "set", "(II)I"⟩
abbrev cX11_zone : ByteArray := prog_13_method_25_code
def yX11_zone : MethodName := ⟨RX11, "zone", "(III)I"⟩
abbrev cX11_arePhasors : ByteArray := prog_13_method_26_code
def yX11_arePhasors : MethodName := ⟨RX11, "arePhasors", "(IIII)Z"⟩
abbrev cX11_putFour : ByteArray := prog_13_method_27_code
def yX11_putFour : MethodName := ⟨RX11, "putFour", "(IJJJJ)V"⟩
abbrev cX11_apply : ByteArray := prog_13_method_28_code
def yX11_apply : MethodName := ⟨RX11, "apply", "(IIII)I"⟩
abbrev cX11_ramp : ByteArray := prog_13_method_29_code
def yX11_ramp : MethodName := ⟨RX11, "ramp", "(IIIII)I"⟩
abbrev cX11_network : ByteArray := prog_13_method_30_code
def yX11_network : MethodName := ⟨RX11, "network", "(III)I"⟩
abbrev cX11_limited : ByteArray := prog_13_method_31_code
def yX11_limited : MethodName := ⟨RX11, "limited", "(J)J"⟩
abbrev cX11_finds : ByteArray := prog_13_method_32_code
def yX11_finds : MethodName := ⟨RX11, "finds", "(JJ)Z"⟩
abbrev cX11_findsFault : ByteArray := prog_13_method_33_code
def yX11_findsFault : MethodName := ⟨RX11, "findsFault", "(II)Z"⟩
abbrev cX11_findsHealthy : ByteArray := prog_13_method_34_code
def yX11_findsHealthy : MethodName := ⟨RX11, "findsHealthy", "()Z"⟩
abbrev cX11_applyFound : ByteArray := prog_13_method_35_code
def yX11_applyFound : MethodName := ⟨RX11, "applyFound", "()V"⟩
abbrev cX11_isFault : ByteArray := prog_13_method_36_code
def yX11_isFault : MethodName := ⟨RX11, "isFault", "(II)Z"⟩
abbrev cX11_fault : ByteArray := prog_13_method_37_code
def yX11_fault : MethodName := ⟨RX11, "fault", "(II)I"⟩
abbrev cX11_healthy : ByteArray := prog_13_method_38_code
def yX11_healthy : MethodName := ⟨RX11, "healthy", "()I"⟩
abbrev cX11_phasor : ByteArray := prog_13_method_39_code
def yX11_phasor : MethodName := ⟨RX11, "phasor", "(I)J"⟩
abbrev cX11_goOnRamp : ByteArray := prog_13_method_40_code
def yX11_goOnRamp : MethodName := ⟨RX11, "goOnRamp", "()V"⟩
abbrev cX11_takeSample : ByteArray := prog_13_method_41_code
def yX11_takeSample : MethodName := ⟨RX11, "takeSample", "(II)V"⟩
abbrev cX11_estimate : ByteArray := prog_13_method_42_code
def yX11_estimate : MethodName := ⟨RX11, "estimate", "(II)V"⟩
abbrev cX11_remember : ByteArray := prog_13_method_43_code
def yX11_remember : MethodName := ⟨RX11, "remember", "()V"⟩
abbrev cX11_note : ByteArray := prog_13_method_44_code
def yX11_note : MethodName := ⟨RX11, "note", "(I)V"⟩
abbrev cX11_endSwing : ByteArray := prog_13_method_45_code
def yX11_endSwing : MethodName := ⟨RX11, "endSwing", "()V"⟩
abbrev cX11_laysPoint : ByteArray := prog_13_method_46_code
def yX11_laysPoint : MethodName := ⟨RX11, "laysPoint", "(JJJJ)Z"⟩
abbrev cX11_isInLoad : ByteArray := prog_13_method_47_code
def yX11_isInLoad : MethodName := ⟨RX11, "isInLoad", "()Z"⟩
abbrev cX11_isInside : ByteArray := prog_13_method_48_code
def yX11_isInside : MethodName := ⟨RX11, "isInside", "(I)Z"⟩
abbrev cX11_watchSwing : ByteArray := prog_13_method_49_code
def yX11_watchSwing : MethodName := ⟨RX11, "watchSwing", "()V"⟩
abbrev cX11_fitsWay : ByteArray := prog_13_method_50_code
def yX11_fitsWay : MethodName := ⟨RX11, "fitsWay", "(I)Z"⟩
abbrev cX11_has : ByteArray := prog_13_method_51_code
def yX11_has : MethodName := ⟨RX11, "has", "(II)Z"⟩
abbrev cX11_picksUp : ByteArray := prog_13_method_52_code
def yX11_picksUp : MethodName := ⟨RX11, "picksUp", "(I)Z"⟩
abbrev cX11_goOnZones : ByteArray := prog_13_method_53_code
def yX11_goOnZones : MethodName := ⟨RX11, "goOnZones", "()V"⟩
abbrev cX11_sample : ByteArray := prog_13_method_54_code
def yX11_sample : MethodName := ⟨RX11, "sample", "()V"⟩
abbrev cX11_pass : ByteArray := prog_13_method_55_code
def yX11_pass : MethodName := ⟨RX11, "pass", "(I)I"⟩
abbrev cX11_measure : ByteArray := prog_13_method_56_code
def yX11_measure : MethodName := ⟨RX11, "measure", "(I)J"⟩
abbrev cX11_state : ByteArray := prog_13_method_57_code
def yX11_state : MethodName := ⟨RX11, "state", "(II)I"⟩
abbrev cX11_tripped : ByteArray := prog_13_method_58_code
def yX11_tripped : MethodName := ⟨RX11, "tripped", "()I"⟩
abbrev cX11_reset : ByteArray := prog_13_method_59_code
def yX11_reset : MethodName := ⟨RX11, "reset", "()I"⟩
abbrev cX11_event : ByteArray := prog_13_method_60_code
def yX11_event : MethodName := ⟨RX11, "event", "(II)I"⟩
abbrev cX11_covered : ByteArray := prog_13_method_61_code
def yX11_covered : MethodName := ⟨RX11, "covered", "()I"⟩
abbrev cX11_covers : ByteArray := prog_13_method_62_code
def yX11_covers : MethodName := ⟨RX11, "covers", "(II)I"⟩
abbrev cX11_reach : ByteArray := prog_13_method_63_code
def yX11_reach : MethodName := ⟨RX11, "reach", "(II)I"⟩
abbrev cX11_samplesToTrip : ByteArray := prog_13_method_64_code
def yX11_samplesToTrip : MethodName := ⟨RX11, "samplesToTrip", "(I)I"⟩
abbrev cX11_test : ByteArray := prog_13_method_65_code
def yX11_test : MethodName := ⟨RX11, "test", "(IIII)I"⟩
abbrev cX11_forecast : ByteArray := prog_13_method_66_code
def yX11_forecast : MethodName := ⟨RX11, "forecast", "(I)I"⟩
abbrev cX11_say : ByteArray := prog_13_method_67_code
def yX11_say : MethodName := ⟨RX11, "say", "(I)I"⟩
abbrev cX11_wipe : ByteArray := prog_13_method_68_code
def yX11_wipe : MethodName := ⟨RX11, "wipe", "()I"⟩
abbrev cX11_nextSign : ByteArray := prog_13_method_69_code
def yX11_nextSign : MethodName := ⟨RX11, "nextSign", "()I"⟩
abbrev cX11_takesSign : ByteArray := prog_13_method_70_code
def yX11_takesSign : MethodName := ⟨RX11, "takesSign", "(I)Z"⟩
abbrev cX11_readNumber : ByteArray := prog_13_method_71_code
def yX11_readNumber : MethodName := ⟨RX11, "readNumber", "()I"⟩
abbrev cX11_readCorner : ByteArray := prog_13_method_72_code
def yX11_readCorner : MethodName := ⟨RX11, "readCorner", "()V"⟩
abbrev cX11_flaw : ByteArray := prog_13_method_73_code
def yX11_flaw : MethodName := ⟨RX11, "flaw", "()I"⟩
abbrev cX11_load : ByteArray := prog_13_method_74_code
def yX11_load : MethodName := ⟨RX11, "load", "(I)I"⟩
abbrev cX11_write : ByteArray := prog_13_method_75_code
def yX11_write : MethodName := ⟨RX11, "write", "(I)V"⟩
abbrev cX11_writeNumber : ByteArray := prog_13_method_76_code
def yX11_writeNumber : MethodName := ⟨RX11, "writeNumber", "(J)V"⟩
abbrev cX11_spell : ByteArray := prog_13_method_77_code
def yX11_spell : MethodName := ⟨RX11, "spell", "(II)I"⟩
abbrev cX11_count : ByteArray := prog_13_method_78_code
def yX11_count : MethodName := ⟨RX11, "count", "(I)I"⟩
abbrev cX11_save : ByteArray := prog_13_method_79_code
def yX11_save : MethodName := ⟨RX11, "save", "(I)I"⟩
abbrev cX11_restore : ByteArray := prog_13_method_80_code
def yX11_restore : MethodName := ⟨RX11, "restore", "(I)I"⟩
def RJ5 : String := "java/lang/AbstractStringBuilder"
def TJ5 : u_T := fun k => match k with
  | _ => ("", "", "", false)
def tyJ5 : Nat → FieldType := fun k => match k with
  | _ => .int
abbrev wsJ50 : List Cond := u_ws RJ5 TJ5 0
theorem nmJ5 : ∀ a, a < 0 → ∀ b, b < 0 → a ≠ b → (TJ5 a).2.1 ≠ (TJ5 b).2.1 := by decide +kernel
theorem tyJ5_ok : ∀ k, k < 0 → parseFieldDescriptor (TJ5 k).2.2.1 = some (tyJ5 k) := by decide +kernel
abbrev cJ5_init_d00df : ByteArray := prog_14_method_2_code
def yJ5_init_d00df : MethodName := ⟨RJ5, "<init>", "(I)V"⟩
abbrev cJ5_length_8abf5 : ByteArray := prog_14_method_6_code
def yJ5_length_8abf5 : MethodName := ⟨RJ5, "length", "()I"⟩
abbrev cJ5_ensureCapacityInternal_d00df : ByteArray := prog_14_method_9_code
def yJ5_ensureCapacityInternal_d00df : MethodName := ⟨RJ5, "ensureCapacityInternal", "(I)V"⟩
abbrev cJ5_newCapacity_0f7a4 : ByteArray := prog_14_method_10_code
def yJ5_newCapacity_0f7a4 : MethodName := ⟨RJ5, "newCapacity", "(I)I"⟩
abbrev cJ5_inflate_da8c8 : ByteArray := prog_14_method_11_code
def yJ5_inflate_da8c8 : MethodName := ⟨RJ5, "inflate", "()V"⟩
abbrev cJ5_setLength_d00df : ByteArray := prog_14_method_13_code
def yJ5_setLength_d00df : MethodName := ⟨RJ5, "setLength", "(I)V"⟩
abbrev cJ5_charAt_5068e : ByteArray := prog_14_method_14_code
def yJ5_charAt_5068e : MethodName := ⟨RJ5, "charAt", "(I)C"⟩
abbrev cJ5_append_3fe6f : ByteArray := prog_14_method_31_code
def yJ5_append_3fe6f : MethodName := ⟨RJ5, "append", "(C)Ljava/lang/AbstractStringBuilder;"⟩
abbrev cJ5_append_c97b9 : ByteArray := prog_14_method_32_code
def yJ5_append_c97b9 : MethodName := ⟨RJ5, "append", "(I)Ljava/lang/AbstractStringBuilder;"⟩
abbrev cJ5_isLatin1_aae02 : ByteArray := prog_14_method_68_code
def yJ5_isLatin1_aae02 : MethodName := ⟨RJ5, "isLatin1", "()Z"⟩
def RJx8e188 : String := "java/lang/Cloneable"
def TJx8e188 : u_T := fun k => match k with
  | _ => ("", "", "", false)
def tyJx8e188 : Nat → FieldType := fun k => match k with
  | _ => .int
abbrev wsJx8e1880 : List Cond := u_ws RJx8e188 TJx8e188 0
theorem nmJx8e188 : ∀ a, a < 0 → ∀ b, b < 0 → a ≠ b → (TJx8e188 a).2.1 ≠ (TJx8e188 b).2.1 := by decide +kernel
theorem tyJx8e188_ok : ∀ k, k < 0 → parseFieldDescriptor (TJx8e188 k).2.2.1 = some (tyJx8e188 k) := by decide +kernel
def RJ6 : String := "java/lang/Integer"
def TJ6 : u_T := fun k => match k with
  | _ => ("", "", "", false)
def tyJ6 : Nat → FieldType := fun k => match k with
  | _ => .int
abbrev wsJ60 : List Cond := u_ws RJ6 TJ6 0
theorem nmJ6 : ∀ a, a < 0 → ∀ b, b < 0 → a ≠ b → (TJ6 a).2.1 ≠ (TJ6 b).2.1 := by decide +kernel
theorem tyJ6_ok : ∀ k, k < 0 → parseFieldDescriptor (TJ6 k).2.2.1 = some (tyJ6 k) := by decide +kernel
abbrev cJ6_getChars_ba4f3 : ByteArray := prog_16_method_12_code
def yJ6_getChars_ba4f3 : MethodName := ⟨RJ6, "getChars", "(II[B)I"⟩
abbrev cJ6_stringSize_0f7a4 : ByteArray := prog_16_method_13_code
def yJ6_stringSize_0f7a4 : MethodName := ⟨RJ6, "stringSize", "(I)I"⟩
abbrev cJ6_compare_7cf53 : ByteArray := prog_16_method_40_code
def yJ6_compare_7cf53 : MethodName := ⟨RJ6, "compare", "(II)I"⟩
def RJ9 : String := "java/lang/Math"
def TJ9 : u_T := fun k => match k with
  | _ => ("", "", "", false)
def tyJ9 : Nat → FieldType := fun k => match k with
  | _ => .int
abbrev wsJ90 : List Cond := u_ws RJ9 TJ9 0
theorem nmJ9 : ∀ a, a < 0 → ∀ b, b < 0 → a ≠ b → (TJ9 a).2.1 ≠ (TJ9 b).2.1 := by decide +kernel
theorem tyJ9_ok : ∀ k, k < 0 → parseFieldDescriptor (TJ9 k).2.2.1 = some (tyJ9 k) := by decide +kernel
abbrev cJ9_floorMod_7cf53 : ByteArray := prog_17_method_50_code
def yJ9_floorMod_7cf53 : MethodName := ⟨RJ9, "floorMod", "(II)I"⟩
abbrev cJ9_abs_067f4 : ByteArray := prog_17_method_61_code
def yJ9_abs_067f4 : MethodName := ⟨RJ9, "abs", "(J)J"⟩
abbrev cJ9_max_7cf53 : ByteArray := prog_17_method_65_code
def yJ9_max_7cf53 : MethodName := ⟨RJ9, "max", "(II)I"⟩
abbrev cJ9_max_f86c9 : ByteArray := prog_17_method_66_code
def yJ9_max_f86c9 : MethodName := ⟨RJ9, "max", "(JJ)J"⟩
abbrev cJ9_min_7cf53 : ByteArray := prog_17_method_69_code
def yJ9_min_7cf53 : MethodName := ⟨RJ9, "min", "(II)I"⟩
abbrev cJ9_min_f86c9 : ByteArray := prog_17_method_70_code
def yJ9_min_f86c9 : MethodName := ⟨RJ9, "min", "(JJ)J"⟩
def RJ0 : String := "java/lang/String"
def TJ0 : u_T := fun k => match k with
  | _ => ("", "", "", false)
def tyJ0 : Nat → FieldType := fun k => match k with
  | _ => .int
abbrev wsJ00 : List Cond := u_ws RJ0 TJ0 0
theorem nmJ0 : ∀ a, a < 0 → ∀ b, b < 0 → a ≠ b → (TJ0 a).2.1 ≠ (TJ0 b).2.1 := by decide +kernel
theorem tyJ0_ok : ∀ k, k < 0 → parseFieldDescriptor (TJ0 k).2.2.1 = some (tyJ0 k) := by decide +kernel
abbrev cJ0_checkIndex_df160 : ByteArray := prog_18_method_155_code
def yJ0_checkIndex_df160 : MethodName := ⟨RJ0, "checkIndex", "(II)V"⟩
abbrev cJ0_checkBoundsOffCount_cabcc : ByteArray := prog_18_method_157_code
def yJ0_checkBoundsOffCount_cabcc : MethodName := ⟨RJ0, "checkBoundsOffCount", "(III)I"⟩
abbrev cJ0_checkBoundsBeginEnd_23922 : ByteArray := prog_18_method_158_code
def yJ0_checkBoundsBeginEnd_23922 : MethodName := ⟨RJ0, "checkBoundsBeginEnd", "(III)V"⟩
def RJ4 : String := "java/lang/StringBuilder"
def TJ4 : u_T := fun k => match k with
  | 0 => ("java/lang/AbstractStringBuilder", "value", "[B", false)
  | 1 => ("java/lang/AbstractStringBuilder", "coder", "B", false)
  | 2 => ("java/lang/AbstractStringBuilder", "maybeLatin1", "Z", false)
  | _ => ("java/lang/AbstractStringBuilder", "count", "I", false)
def tyJ4 : Nat → FieldType := fun k => match k with
  | 0 => .array .byte
  | 1 => .byte
  | 2 => .boolean
  | _ => .int
abbrev wsJ40 : List Cond := u_ws RJ4 TJ4 4
theorem nmJ4 : ∀ a, a < 4 → ∀ b, b < 4 → a ≠ b → (TJ4 a).2.1 ≠ (TJ4 b).2.1 := by decide +kernel
theorem tyJ4_ok : ∀ k, k < 4 → parseFieldDescriptor (TJ4 k).2.2.1 = some (tyJ4 k) := by decide +kernel
abbrev cJ4_init_da8c8 : ByteArray := prog_19_method_1_code
def yJ4_init_da8c8 : MethodName := ⟨RJ4, "<init>", "()V"⟩
abbrev cJ4_append_cf468 : ByteArray := prog_19_method_14_code
def yJ4_append_cf468 : MethodName := ⟨RJ4, "append", "(C)Ljava/lang/StringBuilder;"⟩
abbrev cJ4_append_bf812 : ByteArray := prog_19_method_15_code
def yJ4_append_bf812 : MethodName := ⟨RJ4, "append", "(I)Ljava/lang/StringBuilder;"⟩
abbrev cJ4_charAt_5068e : ByteArray := prog_19_method_88_code
def yJ4_charAt_5068e : MethodName := ⟨RJ4, "charAt", "(I)C"⟩
abbrev cJ4_setLength_d00df : ByteArray := prog_19_method_89_code
def yJ4_setLength_d00df : MethodName := ⟨RJ4, "setLength", "(I)V"⟩
abbrev cJ4_length_8abf5 : ByteArray := prog_19_method_93_code
def yJ4_length_8abf5 : MethodName := ⟨RJ4, "length", "()I"⟩
def RJ1 : String := "java/lang/StringLatin1"
def TJ1 : u_T := fun k => match k with
  | _ => ("", "", "", false)
def tyJ1 : Nat → FieldType := fun k => match k with
  | _ => .int
abbrev wsJ10 : List Cond := u_ws RJ1 TJ1 0
theorem nmJ1 : ∀ a, a < 0 → ∀ b, b < 0 → a ≠ b → (TJ1 a).2.1 ≠ (TJ1 b).2.1 := by decide +kernel
theorem tyJ1_ok : ∀ k, k < 0 → parseFieldDescriptor (TJ1 k).2.2.1 = some (tyJ1 k) := by decide +kernel
abbrev cJ1_canEncode_fc78d : ByteArray := prog_20_method_3_code
def yJ1_canEncode_fc78d : MethodName := ⟨RJ1, "canEncode", "(C)Z"⟩
abbrev cJ1_fillNull_b72d1 : ByteArray := prog_20_method_48_code
def yJ1_fillNull_b72d1 : MethodName := ⟨RJ1, "fillNull", "([BII)V"⟩
abbrev cJ1_inflate_0e8fd : ByteArray := prog_20_method_50_code
def yJ1_inflate_0e8fd : MethodName := ⟨RJ1, "inflate", "([BI[BII)V"⟩
def RJ2 : String := "java/lang/StringUTF16"
def TJ2 : u_T := fun k => match k with
  | _ => ("", "", "", false)
def tyJ2 : Nat → FieldType := fun k => match k with
  | _ => .int
abbrev wsJ20 : List Cond := u_ws RJ2 TJ2 0
theorem nmJ2 : ∀ a, a < 0 → ∀ b, b < 0 → a ≠ b → (TJ2 a).2.1 ≠ (TJ2 b).2.1 := by decide +kernel
theorem tyJ2_ok : ∀ k, k < 0 → parseFieldDescriptor (TJ2 k).2.2.1 = some (tyJ2 k) := by decide +kernel
abbrev cJ2_newBytesFor_77867 : ByteArray := prog_21_method_2_code
def yJ2_newBytesFor_77867 : MethodName := ⟨RJ2, "newBytesFor", "(I)[B"⟩
abbrev cJ2_newBytesLength_0f7a4 : ByteArray := prog_21_method_3_code
def yJ2_newBytesLength_0f7a4 : MethodName := ⟨RJ2, "newBytesLength", "(I)I"⟩
abbrev cJ2_putChar_b72d1 : ByteArray := prog_21_method_4_code
def yJ2_putChar_b72d1 : MethodName := ⟨RJ2, "putChar", "([BII)V"⟩
abbrev cJ2_getChar_3b067 : ByteArray := prog_21_method_5_code
def yJ2_getChar_3b067 : MethodName := ⟨RJ2, "getChar", "([BI)C"⟩
abbrev cJ2_length_9d52b : ByteArray := prog_21_method_6_code
def yJ2_length_9d52b : MethodName := ⟨RJ2, "length", "([B)I"⟩
abbrev cJ2_fillNull_b72d1 : ByteArray := prog_21_method_70_code
def yJ2_fillNull_b72d1 : MethodName := ⟨RJ2, "fillNull", "([BII)V"⟩
abbrev cJ2_putCharSB_b72d1 : ByteArray := prog_21_method_71_code
def yJ2_putCharSB_b72d1 : MethodName := ⟨RJ2, "putCharSB", "([BII)V"⟩
abbrev cJ2_getChars_46870 : ByteArray := prog_21_method_77_code
def yJ2_getChars_46870 : MethodName := ⟨RJ2, "getChars", "(III[B)I"⟩
abbrev cJ2_inflate_0e8fd : ByteArray := prog_21_method_86_code
def yJ2_inflate_0e8fd : MethodName := ⟨RJ2, "inflate", "([BI[BII)V"⟩
abbrev cJ2_getChars_ba4f3 : ByteArray := prog_21_method_89_code
def yJ2_getChars_ba4f3 : MethodName := ⟨RJ2, "getChars", "(II[B)I"⟩
abbrev cJ2_checkIndex_2214a : ByteArray := prog_21_method_91_code
def yJ2_checkIndex_2214a : MethodName := ⟨RJ2, "checkIndex", "(I[B)V"⟩
abbrev cJ2_checkBoundsBeginEnd_d044e : ByteArray := prog_21_method_93_code
def yJ2_checkBoundsBeginEnd_d044e : MethodName := ⟨RJ2, "checkBoundsBeginEnd", "(II[B)V"⟩
abbrev cJ2_checkBoundsOffCount_d044e : ByteArray := prog_21_method_94_code
def yJ2_checkBoundsOffCount_d044e : MethodName := ⟨RJ2, "checkBoundsOffCount", "(II[B)V"⟩
def RJ10 : String := "java/lang/System"
def TJ10 : u_T := fun k => match k with
  | _ => ("", "", "", false)
def tyJ10 : Nat → FieldType := fun k => match k with
  | _ => .int
abbrev wsJ100 : List Cond := u_ws RJ10 TJ10 0
theorem nmJ10 : ∀ a, a < 0 → ∀ b, b < 0 → a ≠ b → (TJ10 a).2.1 ≠ (TJ10 b).2.1 := by decide +kernel
theorem tyJ10_ok : ∀ k, k < 0 → parseFieldDescriptor (TJ10 k).2.2.1 = some (tyJ10 k) := by decide +kernel
def RJ7 : String := "java/util/Arrays"
def TJ7 : u_T := fun k => match k with
  | _ => ("", "", "", false)
def tyJ7 : Nat → FieldType := fun k => match k with
  | _ => .int
abbrev wsJ70 : List Cond := u_ws RJ7 TJ7 0
theorem nmJ7 : ∀ a, a < 0 → ∀ b, b < 0 → a ≠ b → (TJ7 a).2.1 ≠ (TJ7 b).2.1 := by decide +kernel
theorem tyJ7_ok : ∀ k, k < 0 → parseFieldDescriptor (TJ7 k).2.2.1 = some (tyJ7 k) := by decide +kernel
abbrev cJ7_rangeCheck_23922 : ByteArray := prog_23_method_30_code
def yJ7_rangeCheck_23922 : MethodName := ⟨RJ7, "rangeCheck", "(III)V"⟩
abbrev cJ7_fill_eb02e : ByteArray := prog_23_method_110_code
def yJ7_fill_eb02e : MethodName := ⟨RJ7, "fill", "([BIIB)V"⟩
abbrev cJ7_copyOf_9075b : ByteArray := prog_23_method_121_code
def yJ7_copyOf_9075b : MethodName := ⟨RJ7, "copyOf", "([BI)[B"⟩
def RJ8 : String := "jdk/internal/util/ArraysSupport"
def TJ8 : u_T := fun k => match k with
  | _ => ("", "", "", false)
def tyJ8 : Nat → FieldType := fun k => match k with
  | _ => .int
abbrev wsJ80 : List Cond := u_ws RJ8 TJ8 0
theorem nmJ8 : ∀ a, a < 0 → ∀ b, b < 0 → a ≠ b → (TJ8 a).2.1 ≠ (TJ8 b).2.1 := by decide +kernel
theorem tyJ8_ok : ∀ k, k < 0 → parseFieldDescriptor (TJ8 k).2.2.1 = some (tyJ8 k) := by decide +kernel
abbrev cJ8_newLength_cabcc : ByteArray := prog_24_method_27_code
def yJ8_newLength_cabcc : MethodName := ⟨RJ8, "newLength", "(III)I"⟩
abbrev cJ8_hugeLength_7cf53 : ByteArray := prog_24_method_28_code
def yJ8_hugeLength_7cf53 : MethodName := ⟨RJ8, "hugeLength", "(II)I"⟩
def RJ3 : String := "jdk/internal/util/Preconditions"
def TJ3 : u_T := fun k => match k with
  | _ => ("", "", "", false)
def tyJ3 : Nat → FieldType := fun k => match k with
  | _ => .int
abbrev wsJ30 : List Cond := u_ws RJ3 TJ3 0
theorem nmJ3 : ∀ a, a < 0 → ∀ b, b < 0 → a ≠ b → (TJ3 a).2.1 ≠ (TJ3 b).2.1 := by decide +kernel
theorem tyJ3_ok : ∀ k, k < 0 → parseFieldDescriptor (TJ3 k).2.2.1 = some (tyJ3 k) := by decide +kernel
abbrev cJ3_checkIndex_8e157 : ByteArray := prog_25_method_11_code
def yJ3_checkIndex_8e157 : MethodName := ⟨RJ3, "checkIndex", "(IILjava/util/function/BiFunction;)I"⟩
abbrev cJ3_checkFromToIndex_8c36e : ByteArray := prog_25_method_12_code
def yJ3_checkFromToIndex_8c36e : MethodName := ⟨RJ3, "checkFromToIndex", "(IIILjava/util/function/BiFunction;)I"⟩
abbrev cJ3_checkFromIndexSize_8c36e : ByteArray := prog_25_method_13_code
def yJ3_checkFromIndexSize_8c36e : MethodName := ⟨RJ3, "checkFromIndexSize", "(IIILjava/util/function/BiFunction;)I"⟩
def RL : String := "ZoneRelayLaw"
abbrev cL_law : ByteArray := code
def yL_law : MethodName := ⟨RL, "law", "([I)Z"⟩
def wsX0_init : List Cond := .code yX0_init cX0_init 1 none :: ([.methodLink RX0 1 objectInit, .instanceMethod objectInit, .code objectInit ⟨#[0xb1]⟩ 1 none, .fieldLink RX0 7 "ZoneRelay$Impedance" "d" "J"] ++ wsX00)
def wsX0_becomeLike : List Cond := .code yX0_becomeLike cX0_becomeLike 2 none :: ([.fieldLink RX0 13 "ZoneRelay$Impedance" "exists" "Z", .fieldLink RX0 17 "ZoneRelay$Impedance" "x" "J", .fieldLink RX0 20 "ZoneRelay$Impedance" "y" "J", .fieldLink RX0 7 "ZoneRelay$Impedance" "d" "J"] ++ wsX00)
def wsX0_become : List Cond := .code yX0_become cX0_become 11 none :: ([.fieldLink RX0 23 "ZoneRelay$Phasors" "va" "I", .fieldLink RX0 29 "ZoneRelay$Phasors" "vb" "I", .fieldLink RX0 32 "ZoneRelay$Phasors" "ia" "I", .fieldLink RX0 35 "ZoneRelay$Phasors" "ib" "I", .fieldLink RX0 7 "ZoneRelay$Impedance" "d" "J", .constantLong RX0 38 (1000), .fieldLink RX0 17 "ZoneRelay$Impedance" "x" "J", .fieldLink RX0 20 "ZoneRelay$Impedance" "y" "J", .fieldLink RX0 13 "ZoneRelay$Impedance" "exists" "Z"] ++ wsX30 ++ wsX00)
def wsX0_truncated : List Cond := .code yX0_truncated cX0_truncated 3 (some .long) :: ([.fieldLink RX0 7 "ZoneRelay$Impedance" "d" "J"] ++ wsX00)
def wsX4_after : List Cond := .code yX4_after cX4_after 2 (some .int) :: ([.fieldLink RX4 28 "ZoneRelay$Polygon" "size" "I"] ++ wsX40)
def wsX4_holds : List Cond := .code yX4_holds cX4_holds 13 (some .boolean) :: ([.fieldLink RX4 18 "ZoneRelay$Polygon" "defect" "I", .fieldLink RX4 28 "ZoneRelay$Polygon" "size" "I", .fieldLink RX4 9 "ZoneRelay$Polygon" "xs" "[I", .fieldLink RX4 15 "ZoneRelay$Polygon" "ys" "[I", .methodLink RX4 35 yX4_after, .instanceMethod yX4_after, .selects RX4 yX4_after yX4_after, .initialized RX4, .code yX4_after cX4_after 2 (some .int)] ++ wsX40)
def wsX0_isIn : List Cond := .code yX0_isIn cX0_isIn 2 (some .boolean) :: ([.fieldLink RX0 13 "ZoneRelay$Impedance" "exists" "Z", .fieldLink RX0 17 "ZoneRelay$Impedance" "x" "J", .fieldLink RX0 20 "ZoneRelay$Impedance" "y" "J", .fieldLink RX0 7 "ZoneRelay$Impedance" "d" "J", .methodLink RX0 40 yX4_holds, .instanceMethod yX4_holds, .selects RX4 yX4_holds yX4_holds, .initialized RX4, .code yX4_holds cX4_holds 13 (some .boolean), .fieldLink RX4 18 "ZoneRelay$Polygon" "defect" "I", .fieldLink RX4 28 "ZoneRelay$Polygon" "size" "I", .fieldLink RX4 9 "ZoneRelay$Polygon" "xs" "[I", .fieldLink RX4 15 "ZoneRelay$Polygon" "ys" "[I", .methodLink RX4 35 yX4_after, .instanceMethod yX4_after, .selects RX4 yX4_after yX4_after, .code yX4_after cX4_after 2 (some .int)] ++ wsX00 ++ wsX40)
def wsX0_isInLoad : List Cond := .code yX0_isInLoad cX0_isInLoad 3 (some .boolean) :: ([.fieldLink RX0 13 "ZoneRelay$Impedance" "exists" "Z", .fieldLink RX0 17 "ZoneRelay$Impedance" "x" "J", .methodLink RX0 46 Lib.MathLoose.abs_long.x, .static Lib.MathLoose.abs_long.x, .initialized "java/lang/Math", .code Lib.MathLoose.abs_long.x Lib.MathLoose.abs_long.code 2 (some .long), .fieldLink RX0 7 "ZoneRelay$Impedance" "d" "J", .fieldLink RX0 20 "ZoneRelay$Impedance" "y" "J", .constantLong RX0 38 (1000)] ++ wsX00)
def wsX1_init : List Cond := .code yX1_init cX1_init 1 none :: ([.methodLink RX1 3 objectInit, .instanceMethod objectInit, .code objectInit ⟨#[0xb1]⟩ 1 none, .arrayClass .int, .fieldLink RX1 9 "ZoneRelay$Log" "times" "[I", .fieldLink RX1 15 "ZoneRelay$Log" "kinds" "[I"] ++ wsX10)
def wsX1_becomeLike : List Cond := .code yX1_becomeLike cX1_becomeLike 2 none :: ([.fieldLink RX1 9 "ZoneRelay$Log" "times" "[I", .methodLink RX1 18 arraycopyName, .native arraycopyName, .static arraycopyName, .initialized "java/lang/System", .fieldLink RX1 15 "ZoneRelay$Log" "kinds" "[I", .fieldLink RX1 24 "ZoneRelay$Log" "total" "I"] ++ wsX10)
def wsJ9_floorMod_7cf53 : List Cond := .code yJ9_floorMod_7cf53 cJ9_floorMod_7cf53 3 (some .int) :: ([])
def wsX1_note : List Cond := .code yX1_note cX1_note 4 none :: ([.fieldLink RX1 24 "ZoneRelay$Log" "total" "I", .fieldLink RX1 9 "ZoneRelay$Log" "times" "[I", .fieldLink RX1 15 "ZoneRelay$Log" "kinds" "[I", .methodLink RX1 28 yJ9_floorMod_7cf53, .static yJ9_floorMod_7cf53, .initialized RJ9, .code yJ9_floorMod_7cf53 cJ9_floorMod_7cf53 3 (some .int)] ++ wsX10)
def wsX1_keeps : List Cond := .code yX1_keeps cX1_keeps 2 (some .boolean) :: ([.fieldLink RX1 24 "ZoneRelay$Log" "total" "I"] ++ wsX10)
def wsX2_init : List Cond := .code yX2_init cX2_init 1 none :: ([.methodLink RX2 3 objectInit, .instanceMethod objectInit, .code objectInit ⟨#[0xb1]⟩ 1 none, .arrayClass .int, .fieldLink RX2 9 "ZoneRelay$Network" "first" "[I", .fieldLink RX2 15 "ZoneRelay$Network" "second" "[I"] ++ wsX20)
def wsX2_becomeLike : List Cond := .code yX2_becomeLike cX2_becomeLike 2 none :: ([.fieldLink RX2 9 "ZoneRelay$Network" "first" "[I", .methodLink RX2 18 arraycopyName, .native arraycopyName, .static arraycopyName, .initialized "java/lang/System", .fieldLink RX2 15 "ZoneRelay$Network" "second" "[I"] ++ wsX20)
def wsX2_limited : List Cond := .code yX2_limited cX2_limited 2 (some .int) :: ([.constantLong RX2 42 (-20000), .constantLong RX2 44 (20000), .methodLink RX2 46 Lib.MathLoose.min_long.x, .static Lib.MathLoose.min_long.x, .initialized "java/lang/Math", .code Lib.MathLoose.min_long.x Lib.MathLoose.min_long.code 4 (some .long), .methodLink RX2 52 Lib.MathLoose.max_long.x, .static Lib.MathLoose.max_long.x, .code Lib.MathLoose.max_long.x Lib.MathLoose.max_long.code 4 (some .long)])
def wsX3_put : List Cond := .code yX3_put cX3_put 5 none :: ([.fieldLink RX3 7 "ZoneRelay$Phasors" "va" "I", .fieldLink RX3 13 "ZoneRelay$Phasors" "vb" "I", .fieldLink RX3 16 "ZoneRelay$Phasors" "ia" "I", .fieldLink RX3 19 "ZoneRelay$Phasors" "ib" "I"] ++ wsX30)
def wsX2_solve_r1 : List Cond := [Cond.fieldLink RX2 9 "ZoneRelay$Network" "first" "[I", Cond.fieldLink RX2 15 "ZoneRelay$Network" "second" "[I", Cond.constantLong RX2 28 (1000), Cond.constantLong RX2 30 (-1000), Cond.methodLink RX2 32 yX2_limited, Cond.static yX2_limited, Cond.initialized RX2, Cond.code yX2_limited cX2_limited 2 (some .int), Cond.constantLong RX2 42 (-20000), Cond.constantLong RX2 44 (20000), Cond.methodLink RX2 46 Lib.MathLoose.min_long.x, Cond.static Lib.MathLoose.min_long.x, Cond.initialized "java/lang/Math", Cond.code Lib.MathLoose.min_long.x Lib.MathLoose.min_long.code 4 (some .long), Cond.methodLink RX2 52 Lib.MathLoose.max_long.x, Cond.static Lib.MathLoose.max_long.x, Cond.code Lib.MathLoose.max_long.x Lib.MathLoose.max_long.code 4 (some .long), Cond.methodLink RX2 36 yX3_put, Cond.instanceMethod yX3_put, Cond.selects RX3 yX3_put yX3_put, Cond.initialized RX3, Cond.code yX3_put cX3_put 5 none, Cond.fieldLink RX3 7 "ZoneRelay$Phasors" "va" "I", Cond.fieldLink RX3 13 "ZoneRelay$Phasors" "vb" "I"]
def wsX2_solve_r2 : List Cond := [Cond.fieldLink RX3 16 "ZoneRelay$Phasors" "ia" "I", Cond.fieldLink RX3 19 "ZoneRelay$Phasors" "ib" "I"]
def wsX2_solve : List Cond := .code yX2_solve cX2_solve 24 (some .boolean) :: ((wsX2_solve_r1 ++ wsX2_solve_r2) ++ wsX20 ++ wsX30)
def wsX2_findFaulted_r1 : List Cond := [Cond.fieldLink RX2 9 "ZoneRelay$Network" "first" "[I", Cond.fieldLink RX2 15 "ZoneRelay$Network" "second" "[I", Cond.methodLink RX2 24 yX2_solve, Cond.instanceMethod yX2_solve, Cond.selects RX2 yX2_solve yX2_solve, Cond.initialized RX2, Cond.code yX2_solve cX2_solve 24 (some .boolean), Cond.constantLong RX2 28 (1000), Cond.constantLong RX2 30 (-1000), Cond.methodLink RX2 32 yX2_limited, Cond.static yX2_limited, Cond.code yX2_limited cX2_limited 2 (some .int), Cond.constantLong RX2 42 (-20000), Cond.constantLong RX2 44 (20000), Cond.methodLink RX2 46 Lib.MathLoose.min_long.x, Cond.static Lib.MathLoose.min_long.x, Cond.initialized "java/lang/Math", Cond.code Lib.MathLoose.min_long.x Lib.MathLoose.min_long.code 4 (some .long), Cond.methodLink RX2 52 Lib.MathLoose.max_long.x, Cond.static Lib.MathLoose.max_long.x, Cond.code Lib.MathLoose.max_long.x Lib.MathLoose.max_long.code 4 (some .long), Cond.methodLink RX2 36 yX3_put, Cond.instanceMethod yX3_put, Cond.selects RX3 yX3_put yX3_put]
def wsX2_findFaulted_r2 : List Cond := [Cond.initialized RX3, Cond.code yX3_put cX3_put 5 none, Cond.fieldLink RX3 7 "ZoneRelay$Phasors" "va" "I", Cond.fieldLink RX3 13 "ZoneRelay$Phasors" "vb" "I", Cond.fieldLink RX3 16 "ZoneRelay$Phasors" "ia" "I", Cond.fieldLink RX3 19 "ZoneRelay$Phasors" "ib" "I"]
def wsX2_findFaulted : List Cond := .code yX2_findFaulted cX2_findFaulted 4 (some .boolean) :: ((wsX2_findFaulted_r1 ++ wsX2_findFaulted_r2) ++ wsX20 ++ wsX30)
def wsX2_findUnfaulted_r1 : List Cond := [Cond.fieldLink RX2 9 "ZoneRelay$Network" "first" "[I", Cond.fieldLink RX2 15 "ZoneRelay$Network" "second" "[I", Cond.methodLink RX2 24 yX2_solve, Cond.instanceMethod yX2_solve, Cond.selects RX2 yX2_solve yX2_solve, Cond.initialized RX2, Cond.code yX2_solve cX2_solve 24 (some .boolean), Cond.constantLong RX2 28 (1000), Cond.constantLong RX2 30 (-1000), Cond.methodLink RX2 32 yX2_limited, Cond.static yX2_limited, Cond.code yX2_limited cX2_limited 2 (some .int), Cond.constantLong RX2 42 (-20000), Cond.constantLong RX2 44 (20000), Cond.methodLink RX2 46 Lib.MathLoose.min_long.x, Cond.static Lib.MathLoose.min_long.x, Cond.initialized "java/lang/Math", Cond.code Lib.MathLoose.min_long.x Lib.MathLoose.min_long.code 4 (some .long), Cond.methodLink RX2 52 Lib.MathLoose.max_long.x, Cond.static Lib.MathLoose.max_long.x, Cond.code Lib.MathLoose.max_long.x Lib.MathLoose.max_long.code 4 (some .long), Cond.methodLink RX2 36 yX3_put, Cond.instanceMethod yX3_put, Cond.selects RX3 yX3_put yX3_put]
def wsX2_findUnfaulted_r2 : List Cond := [Cond.initialized RX3, Cond.code yX3_put cX3_put 5 none, Cond.fieldLink RX3 7 "ZoneRelay$Phasors" "va" "I", Cond.fieldLink RX3 13 "ZoneRelay$Phasors" "vb" "I", Cond.fieldLink RX3 16 "ZoneRelay$Phasors" "ia" "I", Cond.fieldLink RX3 19 "ZoneRelay$Phasors" "ib" "I"]
def wsX2_findUnfaulted : List Cond := .code yX2_findUnfaulted cX2_findUnfaulted 2 (some .boolean) :: ((wsX2_findUnfaulted_r1 ++ wsX2_findUnfaulted_r2) ++ wsX20 ++ wsX30)
def wsX3_init : List Cond := .code yX3_init cX3_init 1 none :: ([.methodLink RX3 1 objectInit, .instanceMethod objectInit, .code objectInit ⟨#[0xb1]⟩ 1 none])
def wsX3_becomeLike : List Cond := .code yX3_becomeLike cX3_becomeLike 2 none :: ([.fieldLink RX3 7 "ZoneRelay$Phasors" "va" "I", .fieldLink RX3 13 "ZoneRelay$Phasors" "vb" "I", .fieldLink RX3 16 "ZoneRelay$Phasors" "ia" "I", .fieldLink RX3 19 "ZoneRelay$Phasors" "ib" "I", .methodLink RX3 22 yX3_put, .instanceMethod yX3_put, .selects RX3 yX3_put yX3_put, .initialized RX3, .code yX3_put cX3_put 5 none] ++ wsX30)
def wsX4_init : List Cond := .code yX4_init cX4_init 1 none :: ([.methodLink RX4 3 objectInit, .instanceMethod objectInit, .code objectInit ⟨#[0xb1]⟩ 1 none, .arrayClass .int, .fieldLink RX4 9 "ZoneRelay$Polygon" "xs" "[I", .fieldLink RX4 15 "ZoneRelay$Polygon" "ys" "[I", .fieldLink RX4 18 "ZoneRelay$Polygon" "defect" "I"] ++ wsX40)
def wsX4_becomeLike : List Cond := .code yX4_becomeLike cX4_becomeLike 2 none :: ([.fieldLink RX4 9 "ZoneRelay$Polygon" "xs" "[I", .methodLink RX4 22 arraycopyName, .native arraycopyName, .static arraycopyName, .initialized "java/lang/System", .fieldLink RX4 15 "ZoneRelay$Polygon" "ys" "[I", .fieldLink RX4 28 "ZoneRelay$Polygon" "size" "I", .fieldLink RX4 18 "ZoneRelay$Polygon" "defect" "I"] ++ wsX40)
def wsX4_empty : List Cond := .code yX4_empty cX4_empty 1 none :: ([.fieldLink RX4 28 "ZoneRelay$Polygon" "size" "I", .fieldLink RX4 18 "ZoneRelay$Polygon" "defect" "I"] ++ wsX40)
def wsX4_turnsLeftEverywhere : List Cond := .code yX4_turnsLeftEverywhere cX4_turnsLeftEverywhere 6 (some .boolean) :: ([.fieldLink RX4 28 "ZoneRelay$Polygon" "size" "I", .fieldLink RX4 9 "ZoneRelay$Polygon" "xs" "[I", .fieldLink RX4 15 "ZoneRelay$Polygon" "ys" "[I", .methodLink RX4 35 yX4_after, .instanceMethod yX4_after, .selects RX4 yX4_after yX4_after, .initialized RX4, .code yX4_after cX4_after 2 (some .int)] ++ wsX40)
def wsJ6_compare_7cf53 : List Cond := .code yJ6_compare_7cf53 cJ6_compare_7cf53 2 (some .int) :: ([])
def wsX4_countTurnsOfY : List Cond := .code yX4_countTurnsOfY cX4_countTurnsOfY 5 (some .int) :: ([.fieldLink RX4 28 "ZoneRelay$Polygon" "size" "I", .fieldLink RX4 15 "ZoneRelay$Polygon" "ys" "[I", .methodLink RX4 35 yX4_after, .instanceMethod yX4_after, .selects RX4 yX4_after yX4_after, .initialized RX4, .code yX4_after cX4_after 2 (some .int), .methodLink RX4 59 yJ6_compare_7cf53, .static yJ6_compare_7cf53, .initialized RJ6, .code yJ6_compare_7cf53 cJ6_compare_7cf53 2 (some .int)] ++ wsX40)
def wsX4_findDefect : List Cond := .code yX4_findDefect cX4_findDefect 1 (some .int) :: ([.fieldLink RX4 28 "ZoneRelay$Polygon" "size" "I", .methodLink RX4 52 yX4_turnsLeftEverywhere, .instanceMethod yX4_turnsLeftEverywhere, .selects RX4 yX4_turnsLeftEverywhere yX4_turnsLeftEverywhere, .initialized RX4, .code yX4_turnsLeftEverywhere cX4_turnsLeftEverywhere 6 (some .boolean), .fieldLink RX4 9 "ZoneRelay$Polygon" "xs" "[I", .fieldLink RX4 15 "ZoneRelay$Polygon" "ys" "[I", .methodLink RX4 35 yX4_after, .instanceMethod yX4_after, .selects RX4 yX4_after yX4_after, .code yX4_after cX4_after 2 (some .int), .methodLink RX4 56 yX4_countTurnsOfY, .instanceMethod yX4_countTurnsOfY, .selects RX4 yX4_countTurnsOfY yX4_countTurnsOfY, .code yX4_countTurnsOfY cX4_countTurnsOfY 5 (some .int), .methodLink RX4 59 yJ6_compare_7cf53, .static yJ6_compare_7cf53, .initialized RJ6, .code yJ6_compare_7cf53 cJ6_compare_7cf53 2 (some .int)] ++ wsX40)
def wsX4_append_r1 : List Cond := [Cond.fieldLink RX4 28 "ZoneRelay$Polygon" "size" "I", Cond.fieldLink RX4 9 "ZoneRelay$Polygon" "xs" "[I", Cond.fieldLink RX4 15 "ZoneRelay$Polygon" "ys" "[I", Cond.fieldLink RX4 18 "ZoneRelay$Polygon" "defect" "I", Cond.methodLink RX4 31 yX4_findDefect, Cond.instanceMethod yX4_findDefect, Cond.selects RX4 yX4_findDefect yX4_findDefect, Cond.initialized RX4, Cond.code yX4_findDefect cX4_findDefect 1 (some .int), Cond.methodLink RX4 52 yX4_turnsLeftEverywhere, Cond.instanceMethod yX4_turnsLeftEverywhere, Cond.selects RX4 yX4_turnsLeftEverywhere yX4_turnsLeftEverywhere, Cond.code yX4_turnsLeftEverywhere cX4_turnsLeftEverywhere 6 (some .boolean), Cond.methodLink RX4 35 yX4_after, Cond.instanceMethod yX4_after, Cond.selects RX4 yX4_after yX4_after, Cond.code yX4_after cX4_after 2 (some .int), Cond.methodLink RX4 56 yX4_countTurnsOfY, Cond.instanceMethod yX4_countTurnsOfY, Cond.selects RX4 yX4_countTurnsOfY yX4_countTurnsOfY, Cond.code yX4_countTurnsOfY cX4_countTurnsOfY 5 (some .int), Cond.methodLink RX4 59 yJ6_compare_7cf53, Cond.static yJ6_compare_7cf53, Cond.initialized RJ6]
def wsX4_append_r2 : List Cond := [Cond.code yJ6_compare_7cf53 cJ6_compare_7cf53 2 (some .int)]
def wsX4_append : List Cond := .code yX4_append cX4_append 3 none :: ((wsX4_append_r1 ++ wsX4_append_r2) ++ wsX40)
def wsJ8_hugeLength_7cf53 : List Cond := .code yJ8_hugeLength_7cf53 cJ8_hugeLength_7cf53 3 (some .int) :: ([.constant RJ8 200 (2147483639)])
def wsJ8_newLength_cabcc : List Cond := .code yJ8_newLength_cabcc cJ8_newLength_cabcc 4 (some .int) :: ([.methodLink RJ8 194 Lib.Math.max.name, .static Lib.Math.max.name, .initialized "java/lang/Math", .code Lib.Math.max.name Lib.Math.max.code 2 (some .int), .constant RJ8 200 (2147483639), .methodLink RJ8 201 yJ8_hugeLength_7cf53, .static yJ8_hugeLength_7cf53, .initialized RJ8, .code yJ8_hugeLength_7cf53 cJ8_hugeLength_7cf53 3 (some .int)])
def wsJ5_newCapacity_0f7a4 : List Cond := .code yJ5_newCapacity_0f7a4 cJ5_newCapacity_0f7a4 6 (some .int) :: ([.fieldLink RJ5 15 "java/lang/AbstractStringBuilder" "value" "[B", .fieldLink RJ5 22 "java/lang/AbstractStringBuilder" "coder" "B", .constant RJ5 39 (2147483647), .methodLink RJ5 114 yJ8_newLength_cabcc, .static yJ8_newLength_cabcc, .initialized RJ8, .code yJ8_newLength_cabcc cJ8_newLength_cabcc 4 (some .int), .methodLink RJ8 194 Lib.Math.max.name, .static Lib.Math.max.name, .initialized "java/lang/Math", .code Lib.Math.max.name Lib.Math.max.code 2 (some .int), .constant RJ8 200 (2147483639), .methodLink RJ8 201 yJ8_hugeLength_7cf53, .static yJ8_hugeLength_7cf53, .code yJ8_hugeLength_7cf53 cJ8_hugeLength_7cf53 3 (some .int)] ++ wsJ40)
def wsJ7_copyOf_9075b : List Cond := .code yJ7_copyOf_9075b cJ7_copyOf_9075b 3 (some (.array .byte)) :: ([.methodLink RJ7 310 ⟨"[B", "clone", "()Ljava/lang/Object;"⟩, .sameMethod "[B" "java/lang/Object" "clone" "()Ljava/lang/Object;", .native ⟨"java/lang/Object", "clone", "()Ljava/lang/Object;"⟩, .instanceMethod ⟨"java/lang/Object", "clone", "()Ljava/lang/Object;"⟩, .selects "[B" ⟨"[B", "clone", "()Ljava/lang/Object;"⟩ ⟨"java/lang/Object", "clone", "()Ljava/lang/Object;"⟩, .classLink RJ7 311 "[B", .arrayClass .byte, .methodLink RJ7 304 Lib.Math.min.name, .static Lib.Math.min.name, .initialized "java/lang/Math", .code Lib.Math.min.name Lib.Math.min.code 2 (some .int), .methodLink RJ7 150 arraycopyName, .native arraycopyName, .static arraycopyName, .initialized "java/lang/System"])
def wsJ5_ensureCapacityInternal_d00df_r1 : List Cond := [Cond.fieldLink RJ5 15 "java/lang/AbstractStringBuilder" "value" "[B", Cond.fieldLink RJ5 22 "java/lang/AbstractStringBuilder" "coder" "B", Cond.methodLink RJ5 104 ⟨"java/lang/AbstractStringBuilder", "newCapacity", "(I)I"⟩, Cond.sameMethod "java/lang/AbstractStringBuilder" "java/lang/AbstractStringBuilder" "newCapacity" "(I)I", Cond.selects RJ4 ⟨"java/lang/AbstractStringBuilder", "newCapacity", "(I)I"⟩ yJ5_newCapacity_0f7a4, Cond.instanceMethod yJ5_newCapacity_0f7a4, Cond.initialized RJ5, Cond.code yJ5_newCapacity_0f7a4 cJ5_newCapacity_0f7a4 6 (some .int), Cond.constant RJ5 39 (2147483647), Cond.methodLink RJ5 114 yJ8_newLength_cabcc, Cond.static yJ8_newLength_cabcc, Cond.initialized RJ8, Cond.code yJ8_newLength_cabcc cJ8_newLength_cabcc 4 (some .int), Cond.methodLink RJ8 194 Lib.Math.max.name, Cond.static Lib.Math.max.name, Cond.initialized "java/lang/Math", Cond.code Lib.Math.max.name Lib.Math.max.code 2 (some .int), Cond.constant RJ8 200 (2147483639), Cond.methodLink RJ8 201 yJ8_hugeLength_7cf53, Cond.static yJ8_hugeLength_7cf53, Cond.code yJ8_hugeLength_7cf53 cJ8_hugeLength_7cf53 3 (some .int), Cond.methodLink RJ5 108 yJ7_copyOf_9075b, Cond.static yJ7_copyOf_9075b, Cond.initialized RJ7]
def wsJ5_ensureCapacityInternal_d00df_r2 : List Cond := [Cond.code yJ7_copyOf_9075b cJ7_copyOf_9075b 3 (some (.array .byte)), Cond.methodLink RJ7 310 ⟨"[B", "clone", "()Ljava/lang/Object;"⟩, Cond.sameMethod "[B" "java/lang/Object" "clone" "()Ljava/lang/Object;", Cond.native ⟨"java/lang/Object", "clone", "()Ljava/lang/Object;"⟩, Cond.instanceMethod ⟨"java/lang/Object", "clone", "()Ljava/lang/Object;"⟩, Cond.selects "[B" ⟨"[B", "clone", "()Ljava/lang/Object;"⟩ ⟨"java/lang/Object", "clone", "()Ljava/lang/Object;"⟩, Cond.classLink RJ7 311 "[B", Cond.arrayClass .byte, Cond.methodLink RJ7 304 Lib.Math.min.name, Cond.static Lib.Math.min.name, Cond.code Lib.Math.min.name Lib.Math.min.code 2 (some .int), Cond.methodLink RJ7 150 arraycopyName, Cond.native arraycopyName, Cond.static arraycopyName, Cond.initialized "java/lang/System"]
def wsJ5_ensureCapacityInternal_d00df : List Cond := .code yJ5_ensureCapacityInternal_d00df cJ5_ensureCapacityInternal_d00df 3 none :: ((wsJ5_ensureCapacityInternal_d00df_r1 ++ wsJ5_ensureCapacityInternal_d00df_r2) ++ wsJ40)
def wsJ5_isLatin1_aae02 : List Cond := .code yJ5_isLatin1_aae02 cJ5_isLatin1_aae02 1 (some .boolean) :: ([.fieldLink RJ5 18 "java/lang/String" "COMPACT_STRINGS" "Z", .fieldLink RJ5 22 "java/lang/AbstractStringBuilder" "coder" "B"] ++ wsJ40)
def wsJ7_rangeCheck_23922 : List Cond := .code yJ7_rangeCheck_23922 cJ7_rangeCheck_23922 3 none :: ([])
def wsJ7_fill_eb02e : List Cond := .code yJ7_fill_eb02e cJ7_fill_eb02e 5 none :: ([.methodLink RJ7 13 yJ7_rangeCheck_23922, .static yJ7_rangeCheck_23922, .initialized RJ7, .code yJ7_rangeCheck_23922 cJ7_rangeCheck_23922 3 none])
def wsJ1_fillNull_b72d1 : List Cond := .code yJ1_fillNull_b72d1 cJ1_fillNull_b72d1 3 none :: ([.methodLink RJ1 236 yJ7_fill_eb02e, .static yJ7_fill_eb02e, .initialized RJ7, .code yJ7_fill_eb02e cJ7_fill_eb02e 5 none, .methodLink RJ7 13 yJ7_rangeCheck_23922, .static yJ7_rangeCheck_23922, .code yJ7_rangeCheck_23922 cJ7_rangeCheck_23922 3 none])
def wsJ2_fillNull_b72d1 : List Cond := .code yJ2_fillNull_b72d1 cJ2_fillNull_b72d1 3 none :: ([.methodLink RJ2 380 yJ7_fill_eb02e, .static yJ7_fill_eb02e, .initialized RJ7, .code yJ7_fill_eb02e cJ7_fill_eb02e 5 none, .methodLink RJ7 13 yJ7_rangeCheck_23922, .static yJ7_rangeCheck_23922, .code yJ7_rangeCheck_23922 cJ7_rangeCheck_23922 3 none])
def wsJ5_setLength_d00df_r1 : List Cond := [Cond.fieldLink RJ5 79 "java/lang/AbstractStringBuilder" "count" "I", Cond.fieldLink RJ5 15 "java/lang/AbstractStringBuilder" "value" "[B", Cond.fieldLink RJ5 73 "java/lang/AbstractStringBuilder" "maybeLatin1" "Z", Cond.methodLink RJ5 100 ⟨"java/lang/AbstractStringBuilder", "ensureCapacityInternal", "(I)V"⟩, Cond.sameMethod "java/lang/AbstractStringBuilder" "java/lang/AbstractStringBuilder" "ensureCapacityInternal" "(I)V", Cond.selects RJ4 ⟨"java/lang/AbstractStringBuilder", "ensureCapacityInternal", "(I)V"⟩ yJ5_ensureCapacityInternal_d00df, Cond.instanceMethod yJ5_ensureCapacityInternal_d00df, Cond.initialized RJ5, Cond.code yJ5_ensureCapacityInternal_d00df cJ5_ensureCapacityInternal_d00df 3 none, Cond.fieldLink RJ5 22 "java/lang/AbstractStringBuilder" "coder" "B", Cond.methodLink RJ5 104 ⟨"java/lang/AbstractStringBuilder", "newCapacity", "(I)I"⟩, Cond.sameMethod "java/lang/AbstractStringBuilder" "java/lang/AbstractStringBuilder" "newCapacity" "(I)I", Cond.selects RJ4 ⟨"java/lang/AbstractStringBuilder", "newCapacity", "(I)I"⟩ yJ5_newCapacity_0f7a4, Cond.instanceMethod yJ5_newCapacity_0f7a4, Cond.code yJ5_newCapacity_0f7a4 cJ5_newCapacity_0f7a4 6 (some .int), Cond.constant RJ5 39 (2147483647), Cond.methodLink RJ5 114 yJ8_newLength_cabcc, Cond.static yJ8_newLength_cabcc, Cond.initialized RJ8, Cond.code yJ8_newLength_cabcc cJ8_newLength_cabcc 4 (some .int), Cond.methodLink RJ8 194 Lib.Math.max.name, Cond.static Lib.Math.max.name, Cond.initialized "java/lang/Math", Cond.code Lib.Math.max.name Lib.Math.max.code 2 (some .int)]
def wsJ5_setLength_d00df_r2 : List Cond := [Cond.constant RJ8 200 (2147483639), Cond.methodLink RJ8 201 yJ8_hugeLength_7cf53, Cond.static yJ8_hugeLength_7cf53, Cond.code yJ8_hugeLength_7cf53 cJ8_hugeLength_7cf53 3 (some .int), Cond.methodLink RJ5 108 yJ7_copyOf_9075b, Cond.static yJ7_copyOf_9075b, Cond.initialized RJ7, Cond.code yJ7_copyOf_9075b cJ7_copyOf_9075b 3 (some (.array .byte)), Cond.methodLink RJ7 310 ⟨"[B", "clone", "()Ljava/lang/Object;"⟩, Cond.sameMethod "[B" "java/lang/Object" "clone" "()Ljava/lang/Object;", Cond.native ⟨"java/lang/Object", "clone", "()Ljava/lang/Object;"⟩, Cond.instanceMethod ⟨"java/lang/Object", "clone", "()Ljava/lang/Object;"⟩, Cond.selects "[B" ⟨"[B", "clone", "()Ljava/lang/Object;"⟩ ⟨"java/lang/Object", "clone", "()Ljava/lang/Object;"⟩, Cond.classLink RJ7 311 "[B", Cond.arrayClass .byte, Cond.methodLink RJ7 304 Lib.Math.min.name, Cond.static Lib.Math.min.name, Cond.code Lib.Math.min.name Lib.Math.min.code 2 (some .int), Cond.methodLink RJ7 150 arraycopyName, Cond.native arraycopyName, Cond.static arraycopyName, Cond.initialized "java/lang/System", Cond.methodLink RJ5 83 ⟨"java/lang/AbstractStringBuilder", "isLatin1", "()Z"⟩, Cond.sameMethod "java/lang/AbstractStringBuilder" "java/lang/AbstractStringBuilder" "isLatin1" "()Z"]
def wsJ5_setLength_d00df_r3 : List Cond := [Cond.selects RJ4 ⟨"java/lang/AbstractStringBuilder", "isLatin1", "()Z"⟩ yJ5_isLatin1_aae02, Cond.instanceMethod yJ5_isLatin1_aae02, Cond.code yJ5_isLatin1_aae02 cJ5_isLatin1_aae02 1 (some .boolean), Cond.fieldLink RJ5 18 "java/lang/String" "COMPACT_STRINGS" "Z", Cond.methodLink RJ5 133 yJ1_fillNull_b72d1, Cond.static yJ1_fillNull_b72d1, Cond.initialized RJ1, Cond.code yJ1_fillNull_b72d1 cJ1_fillNull_b72d1 3 none, Cond.methodLink RJ1 236 yJ7_fill_eb02e, Cond.static yJ7_fill_eb02e, Cond.code yJ7_fill_eb02e cJ7_fill_eb02e 5 none, Cond.methodLink RJ7 13 yJ7_rangeCheck_23922, Cond.static yJ7_rangeCheck_23922, Cond.code yJ7_rangeCheck_23922 cJ7_rangeCheck_23922 3 none, Cond.methodLink RJ5 137 yJ2_fillNull_b72d1, Cond.static yJ2_fillNull_b72d1, Cond.initialized RJ2, Cond.code yJ2_fillNull_b72d1 cJ2_fillNull_b72d1 3 none, Cond.methodLink RJ2 380 yJ7_fill_eb02e]
def wsJ5_setLength_d00df : List Cond := .code yJ5_setLength_d00df cJ5_setLength_d00df 2 none :: ((wsJ5_setLength_d00df_r1 ++ (wsJ5_setLength_d00df_r2 ++ wsJ5_setLength_d00df_r3)) ++ wsJ40)
def wsJ4_setLength_d00df_r1 : List Cond := [Cond.methodLink RJ4 333 yJ5_setLength_d00df, Cond.sameMethod "java/lang/AbstractStringBuilder" "java/lang/AbstractStringBuilder" "setLength" "(I)V", Cond.superclass RJ4 RJ5, Cond.instanceMethod yJ5_setLength_d00df, Cond.initialized RJ5, Cond.code yJ5_setLength_d00df cJ5_setLength_d00df 2 none, Cond.fieldLink RJ5 79 "java/lang/AbstractStringBuilder" "count" "I", Cond.fieldLink RJ5 15 "java/lang/AbstractStringBuilder" "value" "[B", Cond.fieldLink RJ5 73 "java/lang/AbstractStringBuilder" "maybeLatin1" "Z", Cond.methodLink RJ5 100 ⟨"java/lang/AbstractStringBuilder", "ensureCapacityInternal", "(I)V"⟩, Cond.sameMethod "java/lang/AbstractStringBuilder" "java/lang/AbstractStringBuilder" "ensureCapacityInternal" "(I)V", Cond.selects RJ4 ⟨"java/lang/AbstractStringBuilder", "ensureCapacityInternal", "(I)V"⟩ yJ5_ensureCapacityInternal_d00df, Cond.instanceMethod yJ5_ensureCapacityInternal_d00df, Cond.code yJ5_ensureCapacityInternal_d00df cJ5_ensureCapacityInternal_d00df 3 none, Cond.fieldLink RJ5 22 "java/lang/AbstractStringBuilder" "coder" "B", Cond.methodLink RJ5 104 ⟨"java/lang/AbstractStringBuilder", "newCapacity", "(I)I"⟩, Cond.sameMethod "java/lang/AbstractStringBuilder" "java/lang/AbstractStringBuilder" "newCapacity" "(I)I", Cond.selects RJ4 ⟨"java/lang/AbstractStringBuilder", "newCapacity", "(I)I"⟩ yJ5_newCapacity_0f7a4, Cond.instanceMethod yJ5_newCapacity_0f7a4, Cond.code yJ5_newCapacity_0f7a4 cJ5_newCapacity_0f7a4 6 (some .int), Cond.constant RJ5 39 (2147483647), Cond.methodLink RJ5 114 yJ8_newLength_cabcc, Cond.static yJ8_newLength_cabcc, Cond.initialized RJ8]
def wsJ4_setLength_d00df_r2 : List Cond := [Cond.code yJ8_newLength_cabcc cJ8_newLength_cabcc 4 (some .int), Cond.methodLink RJ8 194 Lib.Math.max.name, Cond.static Lib.Math.max.name, Cond.initialized "java/lang/Math", Cond.code Lib.Math.max.name Lib.Math.max.code 2 (some .int), Cond.constant RJ8 200 (2147483639), Cond.methodLink RJ8 201 yJ8_hugeLength_7cf53, Cond.static yJ8_hugeLength_7cf53, Cond.code yJ8_hugeLength_7cf53 cJ8_hugeLength_7cf53 3 (some .int), Cond.methodLink RJ5 108 yJ7_copyOf_9075b, Cond.static yJ7_copyOf_9075b, Cond.initialized RJ7, Cond.code yJ7_copyOf_9075b cJ7_copyOf_9075b 3 (some (.array .byte)), Cond.methodLink RJ7 310 ⟨"[B", "clone", "()Ljava/lang/Object;"⟩, Cond.sameMethod "[B" "java/lang/Object" "clone" "()Ljava/lang/Object;", Cond.native ⟨"java/lang/Object", "clone", "()Ljava/lang/Object;"⟩, Cond.instanceMethod ⟨"java/lang/Object", "clone", "()Ljava/lang/Object;"⟩, Cond.selects "[B" ⟨"[B", "clone", "()Ljava/lang/Object;"⟩ ⟨"java/lang/Object", "clone", "()Ljava/lang/Object;"⟩, Cond.classLink RJ7 311 "[B", Cond.arrayClass .byte, Cond.methodLink RJ7 304 Lib.Math.min.name, Cond.static Lib.Math.min.name, Cond.code Lib.Math.min.name Lib.Math.min.code 2 (some .int), Cond.methodLink RJ7 150 arraycopyName]
def wsJ4_setLength_d00df_r3 : List Cond := [Cond.native arraycopyName, Cond.static arraycopyName, Cond.initialized "java/lang/System", Cond.methodLink RJ5 83 ⟨"java/lang/AbstractStringBuilder", "isLatin1", "()Z"⟩, Cond.sameMethod "java/lang/AbstractStringBuilder" "java/lang/AbstractStringBuilder" "isLatin1" "()Z", Cond.selects RJ4 ⟨"java/lang/AbstractStringBuilder", "isLatin1", "()Z"⟩ yJ5_isLatin1_aae02, Cond.instanceMethod yJ5_isLatin1_aae02, Cond.code yJ5_isLatin1_aae02 cJ5_isLatin1_aae02 1 (some .boolean), Cond.fieldLink RJ5 18 "java/lang/String" "COMPACT_STRINGS" "Z", Cond.methodLink RJ5 133 yJ1_fillNull_b72d1, Cond.static yJ1_fillNull_b72d1, Cond.initialized RJ1, Cond.code yJ1_fillNull_b72d1 cJ1_fillNull_b72d1 3 none, Cond.methodLink RJ1 236 yJ7_fill_eb02e, Cond.static yJ7_fill_eb02e, Cond.code yJ7_fill_eb02e cJ7_fill_eb02e 5 none, Cond.methodLink RJ7 13 yJ7_rangeCheck_23922, Cond.static yJ7_rangeCheck_23922, Cond.code yJ7_rangeCheck_23922 cJ7_rangeCheck_23922 3 none, Cond.methodLink RJ5 137 yJ2_fillNull_b72d1, Cond.static yJ2_fillNull_b72d1, Cond.initialized RJ2, Cond.code yJ2_fillNull_b72d1 cJ2_fillNull_b72d1 3 none, Cond.methodLink RJ2 380 yJ7_fill_eb02e]
def wsJ4_setLength_d00df : List Cond := .code yJ4_setLength_d00df cJ4_setLength_d00df 2 none :: ((wsJ4_setLength_d00df_r1 ++ (wsJ4_setLength_d00df_r2 ++ wsJ4_setLength_d00df_r3)) ++ wsJ40)
def wsJ1_canEncode_fc78d : List Cond := .code yJ1_canEncode_fc78d cJ1_canEncode_fc78d 1 (some .boolean) :: ([])
def wsJ2_newBytesLength_0f7a4 : List Cond := .code yJ2_newBytesLength_0f7a4 cJ2_newBytesLength_0f7a4 1 (some .int) :: ([.constant RJ2 20 (1073741823)])
def wsJ2_newBytesFor_77867 : List Cond := .code yJ2_newBytesFor_77867 cJ2_newBytesFor_77867 1 (some (.array .byte)) :: ([.arrayClass .byte, .methodLink RJ2 11 yJ2_newBytesLength_0f7a4, .static yJ2_newBytesLength_0f7a4, .initialized RJ2, .code yJ2_newBytesLength_0f7a4 cJ2_newBytesLength_0f7a4 1 (some .int), .constant RJ2 20 (1073741823)])
def wsJ2_length_9d52b : List Cond := .code yJ2_length_9d52b cJ2_length_9d52b 1 (some .int) :: ([])
def wsJ3_checkFromIndexSize_8c36e : List Cond := .code yJ3_checkFromIndexSize_8c36e cJ3_checkFromIndexSize_8c36e 4 (some .int) :: ([])
def wsJ0_checkBoundsOffCount_cabcc : List Cond := .code yJ0_checkBoundsOffCount_cabcc cJ0_checkBoundsOffCount_cabcc 3 (some .int) :: ([.fieldLink RJ0 1053 "jdk/internal/util/Preconditions" "SIOOBE_FORMATTER" "Ljava/util/function/BiFunction;", .methodLink RJ0 1065 yJ3_checkFromIndexSize_8c36e, .static yJ3_checkFromIndexSize_8c36e, .initialized RJ3, .code yJ3_checkFromIndexSize_8c36e cJ3_checkFromIndexSize_8c36e 4 (some .int)])
def wsJ2_checkBoundsOffCount_d044e : List Cond := .code yJ2_checkBoundsOffCount_d044e cJ2_checkBoundsOffCount_d044e 3 none :: ([.methodLink RJ2 48 yJ2_length_9d52b, .static yJ2_length_9d52b, .initialized RJ2, .code yJ2_length_9d52b cJ2_length_9d52b 1 (some .int), .methodLink RJ2 419 yJ0_checkBoundsOffCount_cabcc, .static yJ0_checkBoundsOffCount_cabcc, .initialized RJ0, .code yJ0_checkBoundsOffCount_cabcc cJ0_checkBoundsOffCount_cabcc 3 (some .int), .fieldLink RJ0 1053 "jdk/internal/util/Preconditions" "SIOOBE_FORMATTER" "Ljava/util/function/BiFunction;", .methodLink RJ0 1065 yJ3_checkFromIndexSize_8c36e, .static yJ3_checkFromIndexSize_8c36e, .initialized RJ3, .code yJ3_checkFromIndexSize_8c36e cJ3_checkFromIndexSize_8c36e 4 (some .int)])
def wsJ2_putChar_b72d1 : List Cond := .code yJ2_putChar_b72d1 cJ2_putChar_b72d1 3 none :: ([.fieldLink RJ2 44 "java/lang/StringUTF16" "$assertionsDisabled" "Z", .fieldLink RJ2 59 "java/lang/StringUTF16" "HI_BYTE_SHIFT" "I", .fieldLink RJ2 63 "java/lang/StringUTF16" "LO_BYTE_SHIFT" "I", .methodLink RJ2 48 yJ2_length_9d52b, .static yJ2_length_9d52b, .initialized RJ2, .code yJ2_length_9d52b cJ2_length_9d52b 1 (some .int)])
def wsJ2_inflate_0e8fd : List Cond := .code yJ2_inflate_0e8fd cJ2_inflate_0e8fd 6 none :: ([.methodLink RJ2 173 yJ2_checkBoundsOffCount_d044e, .static yJ2_checkBoundsOffCount_d044e, .initialized RJ2, .code yJ2_checkBoundsOffCount_d044e cJ2_checkBoundsOffCount_d044e 3 none, .methodLink RJ2 48 yJ2_length_9d52b, .static yJ2_length_9d52b, .code yJ2_length_9d52b cJ2_length_9d52b 1 (some .int), .methodLink RJ2 419 yJ0_checkBoundsOffCount_cabcc, .static yJ0_checkBoundsOffCount_cabcc, .initialized RJ0, .code yJ0_checkBoundsOffCount_cabcc cJ0_checkBoundsOffCount_cabcc 3 (some .int), .fieldLink RJ0 1053 "jdk/internal/util/Preconditions" "SIOOBE_FORMATTER" "Ljava/util/function/BiFunction;", .methodLink RJ0 1065 yJ3_checkFromIndexSize_8c36e, .static yJ3_checkFromIndexSize_8c36e, .initialized RJ3, .code yJ3_checkFromIndexSize_8c36e cJ3_checkFromIndexSize_8c36e 4 (some .int), .methodLink RJ2 111 yJ2_putChar_b72d1, .static yJ2_putChar_b72d1, .code yJ2_putChar_b72d1 cJ2_putChar_b72d1 3 none, .fieldLink RJ2 44 "java/lang/StringUTF16" "$assertionsDisabled" "Z", .fieldLink RJ2 59 "java/lang/StringUTF16" "HI_BYTE_SHIFT" "I", .fieldLink RJ2 63 "java/lang/StringUTF16" "LO_BYTE_SHIFT" "I"])
def wsJ1_inflate_0e8fd_r1 : List Cond := [Cond.methodLink RJ1 240 yJ2_inflate_0e8fd, Cond.static yJ2_inflate_0e8fd, Cond.initialized RJ2, Cond.code yJ2_inflate_0e8fd cJ2_inflate_0e8fd 6 none, Cond.methodLink RJ2 173 yJ2_checkBoundsOffCount_d044e, Cond.static yJ2_checkBoundsOffCount_d044e, Cond.code yJ2_checkBoundsOffCount_d044e cJ2_checkBoundsOffCount_d044e 3 none, Cond.methodLink RJ2 48 yJ2_length_9d52b, Cond.static yJ2_length_9d52b, Cond.code yJ2_length_9d52b cJ2_length_9d52b 1 (some .int), Cond.methodLink RJ2 419 yJ0_checkBoundsOffCount_cabcc, Cond.static yJ0_checkBoundsOffCount_cabcc, Cond.initialized RJ0, Cond.code yJ0_checkBoundsOffCount_cabcc cJ0_checkBoundsOffCount_cabcc 3 (some .int), Cond.fieldLink RJ0 1053 "jdk/internal/util/Preconditions" "SIOOBE_FORMATTER" "Ljava/util/function/BiFunction;", Cond.methodLink RJ0 1065 yJ3_checkFromIndexSize_8c36e, Cond.static yJ3_checkFromIndexSize_8c36e, Cond.initialized RJ3, Cond.code yJ3_checkFromIndexSize_8c36e cJ3_checkFromIndexSize_8c36e 4 (some .int), Cond.methodLink RJ2 111 yJ2_putChar_b72d1, Cond.static yJ2_putChar_b72d1, Cond.code yJ2_putChar_b72d1 cJ2_putChar_b72d1 3 none, Cond.fieldLink RJ2 44 "java/lang/StringUTF16" "$assertionsDisabled" "Z", Cond.fieldLink RJ2 59 "java/lang/StringUTF16" "HI_BYTE_SHIFT" "I"]
def wsJ1_inflate_0e8fd_r2 : List Cond := [Cond.fieldLink RJ2 63 "java/lang/StringUTF16" "LO_BYTE_SHIFT" "I"]
def wsJ1_inflate_0e8fd : List Cond := .code yJ1_inflate_0e8fd cJ1_inflate_0e8fd 5 none :: ((wsJ1_inflate_0e8fd_r1 ++ wsJ1_inflate_0e8fd_r2))
def wsJ5_inflate_da8c8_r1 : List Cond := [Cond.fieldLink RJ5 15 "java/lang/AbstractStringBuilder" "value" "[B", Cond.fieldLink RJ5 79 "java/lang/AbstractStringBuilder" "count" "I", Cond.fieldLink RJ5 22 "java/lang/AbstractStringBuilder" "coder" "B", Cond.methodLink RJ5 83 ⟨"java/lang/AbstractStringBuilder", "isLatin1", "()Z"⟩, Cond.sameMethod "java/lang/AbstractStringBuilder" "java/lang/AbstractStringBuilder" "isLatin1" "()Z", Cond.selects RJ4 ⟨"java/lang/AbstractStringBuilder", "isLatin1", "()Z"⟩ yJ5_isLatin1_aae02, Cond.instanceMethod yJ5_isLatin1_aae02, Cond.initialized RJ5, Cond.code yJ5_isLatin1_aae02 cJ5_isLatin1_aae02 1 (some .boolean), Cond.fieldLink RJ5 18 "java/lang/String" "COMPACT_STRINGS" "Z", Cond.methodLink RJ5 26 yJ2_newBytesFor_77867, Cond.static yJ2_newBytesFor_77867, Cond.initialized RJ2, Cond.code yJ2_newBytesFor_77867 cJ2_newBytesFor_77867 1 (some (.array .byte)), Cond.arrayClass .byte, Cond.methodLink RJ2 11 yJ2_newBytesLength_0f7a4, Cond.static yJ2_newBytesLength_0f7a4, Cond.code yJ2_newBytesLength_0f7a4 cJ2_newBytesLength_0f7a4 1 (some .int), Cond.constant RJ2 20 (1073741823), Cond.methodLink RJ5 125 yJ1_inflate_0e8fd, Cond.static yJ1_inflate_0e8fd, Cond.initialized RJ1, Cond.code yJ1_inflate_0e8fd cJ1_inflate_0e8fd 5 none, Cond.methodLink RJ1 240 yJ2_inflate_0e8fd]
def wsJ5_inflate_da8c8_r2 : List Cond := [Cond.static yJ2_inflate_0e8fd, Cond.code yJ2_inflate_0e8fd cJ2_inflate_0e8fd 6 none, Cond.methodLink RJ2 173 yJ2_checkBoundsOffCount_d044e, Cond.static yJ2_checkBoundsOffCount_d044e, Cond.code yJ2_checkBoundsOffCount_d044e cJ2_checkBoundsOffCount_d044e 3 none, Cond.methodLink RJ2 48 yJ2_length_9d52b, Cond.static yJ2_length_9d52b, Cond.code yJ2_length_9d52b cJ2_length_9d52b 1 (some .int), Cond.methodLink RJ2 419 yJ0_checkBoundsOffCount_cabcc, Cond.static yJ0_checkBoundsOffCount_cabcc, Cond.initialized RJ0, Cond.code yJ0_checkBoundsOffCount_cabcc cJ0_checkBoundsOffCount_cabcc 3 (some .int), Cond.fieldLink RJ0 1053 "jdk/internal/util/Preconditions" "SIOOBE_FORMATTER" "Ljava/util/function/BiFunction;", Cond.methodLink RJ0 1065 yJ3_checkFromIndexSize_8c36e, Cond.static yJ3_checkFromIndexSize_8c36e, Cond.initialized RJ3, Cond.code yJ3_checkFromIndexSize_8c36e cJ3_checkFromIndexSize_8c36e 4 (some .int), Cond.methodLink RJ2 111 yJ2_putChar_b72d1, Cond.static yJ2_putChar_b72d1, Cond.code yJ2_putChar_b72d1 cJ2_putChar_b72d1 3 none, Cond.fieldLink RJ2 44 "java/lang/StringUTF16" "$assertionsDisabled" "Z", Cond.fieldLink RJ2 59 "java/lang/StringUTF16" "HI_BYTE_SHIFT" "I", Cond.fieldLink RJ2 63 "java/lang/StringUTF16" "LO_BYTE_SHIFT" "I"]
def wsJ5_inflate_da8c8 : List Cond := .code yJ5_inflate_da8c8 cJ5_inflate_da8c8 2 none :: ((wsJ5_inflate_da8c8_r1 ++ wsJ5_inflate_da8c8_r2) ++ wsJ40)
def wsJ3_checkIndex_8e157 : List Cond := .code yJ3_checkIndex_8e157 cJ3_checkIndex_8e157 3 (some .int) :: ([])
def wsJ0_checkIndex_df160 : List Cond := .code yJ0_checkIndex_df160 cJ0_checkIndex_df160 2 none :: ([.fieldLink RJ0 1053 "jdk/internal/util/Preconditions" "SIOOBE_FORMATTER" "Ljava/util/function/BiFunction;", .methodLink RJ0 1059 yJ3_checkIndex_8e157, .static yJ3_checkIndex_8e157, .initialized RJ3, .code yJ3_checkIndex_8e157 cJ3_checkIndex_8e157 3 (some .int)])
def wsJ2_checkIndex_2214a : List Cond := .code yJ2_checkIndex_2214a cJ2_checkIndex_2214a 2 none :: ([.methodLink RJ2 48 yJ2_length_9d52b, .static yJ2_length_9d52b, .initialized RJ2, .code yJ2_length_9d52b cJ2_length_9d52b 1 (some .int), .methodLink RJ2 414 yJ0_checkIndex_df160, .static yJ0_checkIndex_df160, .initialized RJ0, .code yJ0_checkIndex_df160 cJ0_checkIndex_df160 2 none, .fieldLink RJ0 1053 "jdk/internal/util/Preconditions" "SIOOBE_FORMATTER" "Ljava/util/function/BiFunction;", .methodLink RJ0 1059 yJ3_checkIndex_8e157, .static yJ3_checkIndex_8e157, .initialized RJ3, .code yJ3_checkIndex_8e157 cJ3_checkIndex_8e157 3 (some .int)])
def wsJ2_putCharSB_b72d1 : List Cond := .code yJ2_putCharSB_b72d1 cJ2_putCharSB_b72d1 3 none :: ([.methodLink RJ2 67 yJ2_checkIndex_2214a, .static yJ2_checkIndex_2214a, .initialized RJ2, .code yJ2_checkIndex_2214a cJ2_checkIndex_2214a 2 none, .methodLink RJ2 48 yJ2_length_9d52b, .static yJ2_length_9d52b, .code yJ2_length_9d52b cJ2_length_9d52b 1 (some .int), .methodLink RJ2 414 yJ0_checkIndex_df160, .static yJ0_checkIndex_df160, .initialized RJ0, .code yJ0_checkIndex_df160 cJ0_checkIndex_df160 2 none, .fieldLink RJ0 1053 "jdk/internal/util/Preconditions" "SIOOBE_FORMATTER" "Ljava/util/function/BiFunction;", .methodLink RJ0 1059 yJ3_checkIndex_8e157, .static yJ3_checkIndex_8e157, .initialized RJ3, .code yJ3_checkIndex_8e157 cJ3_checkIndex_8e157 3 (some .int), .methodLink RJ2 111 yJ2_putChar_b72d1, .static yJ2_putChar_b72d1, .code yJ2_putChar_b72d1 cJ2_putChar_b72d1 3 none, .fieldLink RJ2 44 "java/lang/StringUTF16" "$assertionsDisabled" "Z", .fieldLink RJ2 59 "java/lang/StringUTF16" "HI_BYTE_SHIFT" "I", .fieldLink RJ2 63 "java/lang/StringUTF16" "LO_BYTE_SHIFT" "I"])
def wsJ5_append_3fe6f_r1 : List Cond := [Cond.fieldLink RJ5 79 "java/lang/AbstractStringBuilder" "count" "I", Cond.fieldLink RJ5 15 "java/lang/AbstractStringBuilder" "value" "[B", Cond.methodLink RJ5 100 ⟨"java/lang/AbstractStringBuilder", "ensureCapacityInternal", "(I)V"⟩, Cond.sameMethod "java/lang/AbstractStringBuilder" "java/lang/AbstractStringBuilder" "ensureCapacityInternal" "(I)V", Cond.selects RJ4 ⟨"java/lang/AbstractStringBuilder", "ensureCapacityInternal", "(I)V"⟩ yJ5_ensureCapacityInternal_d00df, Cond.instanceMethod yJ5_ensureCapacityInternal_d00df, Cond.initialized RJ5, Cond.code yJ5_ensureCapacityInternal_d00df cJ5_ensureCapacityInternal_d00df 3 none, Cond.fieldLink RJ5 22 "java/lang/AbstractStringBuilder" "coder" "B", Cond.methodLink RJ5 104 ⟨"java/lang/AbstractStringBuilder", "newCapacity", "(I)I"⟩, Cond.sameMethod "java/lang/AbstractStringBuilder" "java/lang/AbstractStringBuilder" "newCapacity" "(I)I", Cond.selects RJ4 ⟨"java/lang/AbstractStringBuilder", "newCapacity", "(I)I"⟩ yJ5_newCapacity_0f7a4, Cond.instanceMethod yJ5_newCapacity_0f7a4, Cond.code yJ5_newCapacity_0f7a4 cJ5_newCapacity_0f7a4 6 (some .int), Cond.constant RJ5 39 (2147483647), Cond.methodLink RJ5 114 yJ8_newLength_cabcc, Cond.static yJ8_newLength_cabcc, Cond.initialized RJ8, Cond.code yJ8_newLength_cabcc cJ8_newLength_cabcc 4 (some .int), Cond.methodLink RJ8 194 Lib.Math.max.name, Cond.static Lib.Math.max.name, Cond.initialized "java/lang/Math", Cond.code Lib.Math.max.name Lib.Math.max.code 2 (some .int), Cond.constant RJ8 200 (2147483639)]
def wsJ5_append_3fe6f_r2 : List Cond := [Cond.methodLink RJ8 201 yJ8_hugeLength_7cf53, Cond.static yJ8_hugeLength_7cf53, Cond.code yJ8_hugeLength_7cf53 cJ8_hugeLength_7cf53 3 (some .int), Cond.methodLink RJ5 108 yJ7_copyOf_9075b, Cond.static yJ7_copyOf_9075b, Cond.initialized RJ7, Cond.code yJ7_copyOf_9075b cJ7_copyOf_9075b 3 (some (.array .byte)), Cond.methodLink RJ7 310 ⟨"[B", "clone", "()Ljava/lang/Object;"⟩, Cond.sameMethod "[B" "java/lang/Object" "clone" "()Ljava/lang/Object;", Cond.native ⟨"java/lang/Object", "clone", "()Ljava/lang/Object;"⟩, Cond.instanceMethod ⟨"java/lang/Object", "clone", "()Ljava/lang/Object;"⟩, Cond.selects "[B" ⟨"[B", "clone", "()Ljava/lang/Object;"⟩ ⟨"java/lang/Object", "clone", "()Ljava/lang/Object;"⟩, Cond.classLink RJ7 311 "[B", Cond.arrayClass .byte, Cond.methodLink RJ7 304 Lib.Math.min.name, Cond.static Lib.Math.min.name, Cond.code Lib.Math.min.name Lib.Math.min.code 2 (some .int), Cond.methodLink RJ7 150 arraycopyName, Cond.native arraycopyName, Cond.static arraycopyName, Cond.initialized "java/lang/System", Cond.methodLink RJ5 83 ⟨"java/lang/AbstractStringBuilder", "isLatin1", "()Z"⟩, Cond.sameMethod "java/lang/AbstractStringBuilder" "java/lang/AbstractStringBuilder" "isLatin1" "()Z", Cond.selects RJ4 ⟨"java/lang/AbstractStringBuilder", "isLatin1", "()Z"⟩ yJ5_isLatin1_aae02]
def wsJ5_append_3fe6f_r3 : List Cond := [Cond.instanceMethod yJ5_isLatin1_aae02, Cond.code yJ5_isLatin1_aae02 cJ5_isLatin1_aae02 1 (some .boolean), Cond.fieldLink RJ5 18 "java/lang/String" "COMPACT_STRINGS" "Z", Cond.methodLink RJ5 191 yJ1_canEncode_fc78d, Cond.static yJ1_canEncode_fc78d, Cond.initialized RJ1, Cond.code yJ1_canEncode_fc78d cJ1_canEncode_fc78d 1 (some .boolean), Cond.methodLink RJ5 195 ⟨"java/lang/AbstractStringBuilder", "inflate", "()V"⟩, Cond.sameMethod "java/lang/AbstractStringBuilder" "java/lang/AbstractStringBuilder" "inflate" "()V", Cond.selects RJ4 ⟨"java/lang/AbstractStringBuilder", "inflate", "()V"⟩ yJ5_inflate_da8c8, Cond.instanceMethod yJ5_inflate_da8c8, Cond.code yJ5_inflate_da8c8 cJ5_inflate_da8c8 2 none, Cond.methodLink RJ5 26 yJ2_newBytesFor_77867, Cond.static yJ2_newBytesFor_77867, Cond.initialized RJ2, Cond.code yJ2_newBytesFor_77867 cJ2_newBytesFor_77867 1 (some (.array .byte)), Cond.methodLink RJ2 11 yJ2_newBytesLength_0f7a4, Cond.static yJ2_newBytesLength_0f7a4, Cond.code yJ2_newBytesLength_0f7a4 cJ2_newBytesLength_0f7a4 1 (some .int), Cond.constant RJ2 20 (1073741823), Cond.methodLink RJ5 125 yJ1_inflate_0e8fd, Cond.static yJ1_inflate_0e8fd, Cond.code yJ1_inflate_0e8fd cJ1_inflate_0e8fd 5 none, Cond.methodLink RJ1 240 yJ2_inflate_0e8fd]
def wsJ5_append_3fe6f_r4 : List Cond := [Cond.static yJ2_inflate_0e8fd, Cond.code yJ2_inflate_0e8fd cJ2_inflate_0e8fd 6 none, Cond.methodLink RJ2 173 yJ2_checkBoundsOffCount_d044e, Cond.static yJ2_checkBoundsOffCount_d044e, Cond.code yJ2_checkBoundsOffCount_d044e cJ2_checkBoundsOffCount_d044e 3 none, Cond.methodLink RJ2 48 yJ2_length_9d52b, Cond.static yJ2_length_9d52b, Cond.code yJ2_length_9d52b cJ2_length_9d52b 1 (some .int), Cond.methodLink RJ2 419 yJ0_checkBoundsOffCount_cabcc, Cond.static yJ0_checkBoundsOffCount_cabcc, Cond.initialized RJ0, Cond.code yJ0_checkBoundsOffCount_cabcc cJ0_checkBoundsOffCount_cabcc 3 (some .int), Cond.fieldLink RJ0 1053 "jdk/internal/util/Preconditions" "SIOOBE_FORMATTER" "Ljava/util/function/BiFunction;", Cond.methodLink RJ0 1065 yJ3_checkFromIndexSize_8c36e, Cond.static yJ3_checkFromIndexSize_8c36e, Cond.initialized RJ3, Cond.code yJ3_checkFromIndexSize_8c36e cJ3_checkFromIndexSize_8c36e 4 (some .int), Cond.methodLink RJ2 111 yJ2_putChar_b72d1, Cond.static yJ2_putChar_b72d1, Cond.code yJ2_putChar_b72d1 cJ2_putChar_b72d1 3 none, Cond.fieldLink RJ2 44 "java/lang/StringUTF16" "$assertionsDisabled" "Z", Cond.fieldLink RJ2 59 "java/lang/StringUTF16" "HI_BYTE_SHIFT" "I", Cond.fieldLink RJ2 63 "java/lang/StringUTF16" "LO_BYTE_SHIFT" "I", Cond.methodLink RJ5 197 yJ2_putCharSB_b72d1]
def wsJ5_append_3fe6f_r5 : List Cond := [Cond.static yJ2_putCharSB_b72d1, Cond.code yJ2_putCharSB_b72d1 cJ2_putCharSB_b72d1 3 none, Cond.methodLink RJ2 67 yJ2_checkIndex_2214a, Cond.static yJ2_checkIndex_2214a, Cond.code yJ2_checkIndex_2214a cJ2_checkIndex_2214a 2 none, Cond.methodLink RJ2 414 yJ0_checkIndex_df160, Cond.static yJ0_checkIndex_df160, Cond.code yJ0_checkIndex_df160 cJ0_checkIndex_df160 2 none, Cond.methodLink RJ0 1059 yJ3_checkIndex_8e157, Cond.static yJ3_checkIndex_8e157, Cond.code yJ3_checkIndex_8e157 cJ3_checkIndex_8e157 3 (some .int)]
def wsJ5_append_3fe6f : List Cond := .code yJ5_append_3fe6f cJ5_append_3fe6f 2 (some (.object "java/lang/AbstractStringBuilder")) :: ((wsJ5_append_3fe6f_r1 ++ (wsJ5_append_3fe6f_r2 ++ (wsJ5_append_3fe6f_r3 ++ (wsJ5_append_3fe6f_r4 ++ wsJ5_append_3fe6f_r5)))) ++ wsJ40)
def wsJ4_append_cf468_r1 : List Cond := [Cond.methodLink RJ4 50 yJ5_append_3fe6f, Cond.sameMethod "java/lang/AbstractStringBuilder" "java/lang/AbstractStringBuilder" "append" "(C)Ljava/lang/AbstractStringBuilder;", Cond.superclass RJ4 RJ5, Cond.instanceMethod yJ5_append_3fe6f, Cond.initialized RJ5, Cond.code yJ5_append_3fe6f cJ5_append_3fe6f 2 (some (.object "java/lang/AbstractStringBuilder")), Cond.fieldLink RJ5 79 "java/lang/AbstractStringBuilder" "count" "I", Cond.fieldLink RJ5 15 "java/lang/AbstractStringBuilder" "value" "[B", Cond.methodLink RJ5 100 ⟨"java/lang/AbstractStringBuilder", "ensureCapacityInternal", "(I)V"⟩, Cond.sameMethod "java/lang/AbstractStringBuilder" "java/lang/AbstractStringBuilder" "ensureCapacityInternal" "(I)V", Cond.selects RJ4 ⟨"java/lang/AbstractStringBuilder", "ensureCapacityInternal", "(I)V"⟩ yJ5_ensureCapacityInternal_d00df, Cond.instanceMethod yJ5_ensureCapacityInternal_d00df, Cond.code yJ5_ensureCapacityInternal_d00df cJ5_ensureCapacityInternal_d00df 3 none, Cond.fieldLink RJ5 22 "java/lang/AbstractStringBuilder" "coder" "B", Cond.methodLink RJ5 104 ⟨"java/lang/AbstractStringBuilder", "newCapacity", "(I)I"⟩, Cond.sameMethod "java/lang/AbstractStringBuilder" "java/lang/AbstractStringBuilder" "newCapacity" "(I)I", Cond.selects RJ4 ⟨"java/lang/AbstractStringBuilder", "newCapacity", "(I)I"⟩ yJ5_newCapacity_0f7a4, Cond.instanceMethod yJ5_newCapacity_0f7a4, Cond.code yJ5_newCapacity_0f7a4 cJ5_newCapacity_0f7a4 6 (some .int), Cond.constant RJ5 39 (2147483647), Cond.methodLink RJ5 114 yJ8_newLength_cabcc, Cond.static yJ8_newLength_cabcc, Cond.initialized RJ8, Cond.code yJ8_newLength_cabcc cJ8_newLength_cabcc 4 (some .int)]
def wsJ4_append_cf468_r2 : List Cond := [Cond.methodLink RJ8 194 Lib.Math.max.name, Cond.static Lib.Math.max.name, Cond.initialized "java/lang/Math", Cond.code Lib.Math.max.name Lib.Math.max.code 2 (some .int), Cond.constant RJ8 200 (2147483639), Cond.methodLink RJ8 201 yJ8_hugeLength_7cf53, Cond.static yJ8_hugeLength_7cf53, Cond.code yJ8_hugeLength_7cf53 cJ8_hugeLength_7cf53 3 (some .int), Cond.methodLink RJ5 108 yJ7_copyOf_9075b, Cond.static yJ7_copyOf_9075b, Cond.initialized RJ7, Cond.code yJ7_copyOf_9075b cJ7_copyOf_9075b 3 (some (.array .byte)), Cond.methodLink RJ7 310 ⟨"[B", "clone", "()Ljava/lang/Object;"⟩, Cond.sameMethod "[B" "java/lang/Object" "clone" "()Ljava/lang/Object;", Cond.native ⟨"java/lang/Object", "clone", "()Ljava/lang/Object;"⟩, Cond.instanceMethod ⟨"java/lang/Object", "clone", "()Ljava/lang/Object;"⟩, Cond.selects "[B" ⟨"[B", "clone", "()Ljava/lang/Object;"⟩ ⟨"java/lang/Object", "clone", "()Ljava/lang/Object;"⟩, Cond.classLink RJ7 311 "[B", Cond.arrayClass .byte, Cond.methodLink RJ7 304 Lib.Math.min.name, Cond.static Lib.Math.min.name, Cond.code Lib.Math.min.name Lib.Math.min.code 2 (some .int), Cond.methodLink RJ7 150 arraycopyName, Cond.native arraycopyName]
def wsJ4_append_cf468_r3 : List Cond := [Cond.static arraycopyName, Cond.initialized "java/lang/System", Cond.methodLink RJ5 83 ⟨"java/lang/AbstractStringBuilder", "isLatin1", "()Z"⟩, Cond.sameMethod "java/lang/AbstractStringBuilder" "java/lang/AbstractStringBuilder" "isLatin1" "()Z", Cond.selects RJ4 ⟨"java/lang/AbstractStringBuilder", "isLatin1", "()Z"⟩ yJ5_isLatin1_aae02, Cond.instanceMethod yJ5_isLatin1_aae02, Cond.code yJ5_isLatin1_aae02 cJ5_isLatin1_aae02 1 (some .boolean), Cond.fieldLink RJ5 18 "java/lang/String" "COMPACT_STRINGS" "Z", Cond.methodLink RJ5 191 yJ1_canEncode_fc78d, Cond.static yJ1_canEncode_fc78d, Cond.initialized RJ1, Cond.code yJ1_canEncode_fc78d cJ1_canEncode_fc78d 1 (some .boolean), Cond.methodLink RJ5 195 ⟨"java/lang/AbstractStringBuilder", "inflate", "()V"⟩, Cond.sameMethod "java/lang/AbstractStringBuilder" "java/lang/AbstractStringBuilder" "inflate" "()V", Cond.selects RJ4 ⟨"java/lang/AbstractStringBuilder", "inflate", "()V"⟩ yJ5_inflate_da8c8, Cond.instanceMethod yJ5_inflate_da8c8, Cond.code yJ5_inflate_da8c8 cJ5_inflate_da8c8 2 none, Cond.methodLink RJ5 26 yJ2_newBytesFor_77867, Cond.static yJ2_newBytesFor_77867, Cond.initialized RJ2, Cond.code yJ2_newBytesFor_77867 cJ2_newBytesFor_77867 1 (some (.array .byte)), Cond.methodLink RJ2 11 yJ2_newBytesLength_0f7a4, Cond.static yJ2_newBytesLength_0f7a4, Cond.code yJ2_newBytesLength_0f7a4 cJ2_newBytesLength_0f7a4 1 (some .int)]
def wsJ4_append_cf468_r4 : List Cond := [Cond.constant RJ2 20 (1073741823), Cond.methodLink RJ5 125 yJ1_inflate_0e8fd, Cond.static yJ1_inflate_0e8fd, Cond.code yJ1_inflate_0e8fd cJ1_inflate_0e8fd 5 none, Cond.methodLink RJ1 240 yJ2_inflate_0e8fd, Cond.static yJ2_inflate_0e8fd, Cond.code yJ2_inflate_0e8fd cJ2_inflate_0e8fd 6 none, Cond.methodLink RJ2 173 yJ2_checkBoundsOffCount_d044e, Cond.static yJ2_checkBoundsOffCount_d044e, Cond.code yJ2_checkBoundsOffCount_d044e cJ2_checkBoundsOffCount_d044e 3 none, Cond.methodLink RJ2 48 yJ2_length_9d52b, Cond.static yJ2_length_9d52b, Cond.code yJ2_length_9d52b cJ2_length_9d52b 1 (some .int), Cond.methodLink RJ2 419 yJ0_checkBoundsOffCount_cabcc, Cond.static yJ0_checkBoundsOffCount_cabcc, Cond.initialized RJ0, Cond.code yJ0_checkBoundsOffCount_cabcc cJ0_checkBoundsOffCount_cabcc 3 (some .int), Cond.fieldLink RJ0 1053 "jdk/internal/util/Preconditions" "SIOOBE_FORMATTER" "Ljava/util/function/BiFunction;", Cond.methodLink RJ0 1065 yJ3_checkFromIndexSize_8c36e, Cond.static yJ3_checkFromIndexSize_8c36e, Cond.initialized RJ3, Cond.code yJ3_checkFromIndexSize_8c36e cJ3_checkFromIndexSize_8c36e 4 (some .int), Cond.methodLink RJ2 111 yJ2_putChar_b72d1, Cond.static yJ2_putChar_b72d1]
def wsJ4_append_cf468_r5 : List Cond := [Cond.code yJ2_putChar_b72d1 cJ2_putChar_b72d1 3 none, Cond.fieldLink RJ2 44 "java/lang/StringUTF16" "$assertionsDisabled" "Z", Cond.fieldLink RJ2 59 "java/lang/StringUTF16" "HI_BYTE_SHIFT" "I", Cond.fieldLink RJ2 63 "java/lang/StringUTF16" "LO_BYTE_SHIFT" "I", Cond.methodLink RJ5 197 yJ2_putCharSB_b72d1, Cond.static yJ2_putCharSB_b72d1, Cond.code yJ2_putCharSB_b72d1 cJ2_putCharSB_b72d1 3 none, Cond.methodLink RJ2 67 yJ2_checkIndex_2214a, Cond.static yJ2_checkIndex_2214a, Cond.code yJ2_checkIndex_2214a cJ2_checkIndex_2214a 2 none, Cond.methodLink RJ2 414 yJ0_checkIndex_df160, Cond.static yJ0_checkIndex_df160, Cond.code yJ0_checkIndex_df160 cJ0_checkIndex_df160 2 none, Cond.methodLink RJ0 1059 yJ3_checkIndex_8e157, Cond.static yJ3_checkIndex_8e157, Cond.code yJ3_checkIndex_8e157 cJ3_checkIndex_8e157 3 (some .int)]
def wsJ4_append_cf468 : List Cond := .code yJ4_append_cf468 cJ4_append_cf468 2 (some (.object "java/lang/StringBuilder")) :: ((wsJ4_append_cf468_r1 ++ (wsJ4_append_cf468_r2 ++ (wsJ4_append_cf468_r3 ++ (wsJ4_append_cf468_r4 ++ wsJ4_append_cf468_r5)))) ++ wsJ40)
def wsJ6_stringSize_0f7a4 : List Cond := .code yJ6_stringSize_0f7a4 cJ6_stringSize_0f7a4 4 (some .int) :: ([])
def wsJ6_getChars_ba4f3 : List Cond := .code yJ6_getChars_ba4f3 cJ6_getChars_ba4f3 7 (some .int) :: ([.fieldLink RJ6 83 "java/lang/Integer" "DigitOnes" "[B", .fieldLink RJ6 87 "java/lang/Integer" "DigitTens" "[B"])
def wsJ3_checkFromToIndex_8c36e : List Cond := .code yJ3_checkFromToIndex_8c36e cJ3_checkFromToIndex_8c36e 4 (some .int) :: ([])
def wsJ0_checkBoundsBeginEnd_23922 : List Cond := .code yJ0_checkBoundsBeginEnd_23922 cJ0_checkBoundsBeginEnd_23922 3 none :: ([.fieldLink RJ0 1053 "jdk/internal/util/Preconditions" "SIOOBE_FORMATTER" "Ljava/util/function/BiFunction;", .methodLink RJ0 1062 yJ3_checkFromToIndex_8c36e, .static yJ3_checkFromToIndex_8c36e, .initialized RJ3, .code yJ3_checkFromToIndex_8c36e cJ3_checkFromToIndex_8c36e 4 (some .int)])
def wsJ2_checkBoundsBeginEnd_d044e : List Cond := .code yJ2_checkBoundsBeginEnd_d044e cJ2_checkBoundsBeginEnd_d044e 3 none :: ([.methodLink RJ2 48 yJ2_length_9d52b, .static yJ2_length_9d52b, .initialized RJ2, .code yJ2_length_9d52b cJ2_length_9d52b 1 (some .int), .methodLink RJ2 241 yJ0_checkBoundsBeginEnd_23922, .static yJ0_checkBoundsBeginEnd_23922, .initialized RJ0, .code yJ0_checkBoundsBeginEnd_23922 cJ0_checkBoundsBeginEnd_23922 3 none, .fieldLink RJ0 1053 "jdk/internal/util/Preconditions" "SIOOBE_FORMATTER" "Ljava/util/function/BiFunction;", .methodLink RJ0 1062 yJ3_checkFromToIndex_8c36e, .static yJ3_checkFromToIndex_8c36e, .initialized RJ3, .code yJ3_checkFromToIndex_8c36e cJ3_checkFromToIndex_8c36e 4 (some .int)])
def wsJ2_getChars_ba4f3 : List Cond := .code yJ2_getChars_ba4f3 cJ2_getChars_ba4f3 7 (some .int) :: ([.fieldLink RJ2 403 "java/lang/Integer" "DigitOnes" "[B", .fieldLink RJ2 407 "java/lang/Integer" "DigitTens" "[B", .methodLink RJ2 111 yJ2_putChar_b72d1, .static yJ2_putChar_b72d1, .initialized RJ2, .code yJ2_putChar_b72d1 cJ2_putChar_b72d1 3 none, .fieldLink RJ2 44 "java/lang/StringUTF16" "$assertionsDisabled" "Z", .fieldLink RJ2 59 "java/lang/StringUTF16" "HI_BYTE_SHIFT" "I", .fieldLink RJ2 63 "java/lang/StringUTF16" "LO_BYTE_SHIFT" "I", .methodLink RJ2 48 yJ2_length_9d52b, .static yJ2_length_9d52b, .code yJ2_length_9d52b cJ2_length_9d52b 1 (some .int)])
def wsJ2_getChars_46870_r1 : List Cond := [Cond.fieldLink RJ2 44 "java/lang/StringUTF16" "$assertionsDisabled" "Z", Cond.methodLink RJ2 96 yJ2_checkBoundsBeginEnd_d044e, Cond.static yJ2_checkBoundsBeginEnd_d044e, Cond.initialized RJ2, Cond.code yJ2_checkBoundsBeginEnd_d044e cJ2_checkBoundsBeginEnd_d044e 3 none, Cond.methodLink RJ2 48 yJ2_length_9d52b, Cond.static yJ2_length_9d52b, Cond.code yJ2_length_9d52b cJ2_length_9d52b 1 (some .int), Cond.methodLink RJ2 241 yJ0_checkBoundsBeginEnd_23922, Cond.static yJ0_checkBoundsBeginEnd_23922, Cond.initialized RJ0, Cond.code yJ0_checkBoundsBeginEnd_23922 cJ0_checkBoundsBeginEnd_23922 3 none, Cond.fieldLink RJ0 1053 "jdk/internal/util/Preconditions" "SIOOBE_FORMATTER" "Ljava/util/function/BiFunction;", Cond.methodLink RJ0 1062 yJ3_checkFromToIndex_8c36e, Cond.static yJ3_checkFromToIndex_8c36e, Cond.initialized RJ3, Cond.code yJ3_checkFromToIndex_8c36e cJ3_checkFromToIndex_8c36e 4 (some .int), Cond.methodLink RJ2 393 yJ2_getChars_ba4f3, Cond.static yJ2_getChars_ba4f3, Cond.code yJ2_getChars_ba4f3 cJ2_getChars_ba4f3 7 (some .int), Cond.fieldLink RJ2 403 "java/lang/Integer" "DigitOnes" "[B", Cond.fieldLink RJ2 407 "java/lang/Integer" "DigitTens" "[B", Cond.methodLink RJ2 111 yJ2_putChar_b72d1, Cond.static yJ2_putChar_b72d1]
def wsJ2_getChars_46870_r2 : List Cond := [Cond.code yJ2_putChar_b72d1 cJ2_putChar_b72d1 3 none, Cond.fieldLink RJ2 59 "java/lang/StringUTF16" "HI_BYTE_SHIFT" "I", Cond.fieldLink RJ2 63 "java/lang/StringUTF16" "LO_BYTE_SHIFT" "I"]
def wsJ2_getChars_46870 : List Cond := .code yJ2_getChars_46870 cJ2_getChars_46870 5 (some .int) :: ((wsJ2_getChars_46870_r1 ++ wsJ2_getChars_46870_r2))
def wsJ5_append_c97b9_r1 : List Cond := [Cond.fieldLink RJ5 79 "java/lang/AbstractStringBuilder" "count" "I", Cond.fieldLink RJ5 15 "java/lang/AbstractStringBuilder" "value" "[B", Cond.methodLink RJ5 245 yJ6_stringSize_0f7a4, Cond.static yJ6_stringSize_0f7a4, Cond.initialized RJ6, Cond.code yJ6_stringSize_0f7a4 cJ6_stringSize_0f7a4 4 (some .int), Cond.methodLink RJ5 100 ⟨"java/lang/AbstractStringBuilder", "ensureCapacityInternal", "(I)V"⟩, Cond.sameMethod "java/lang/AbstractStringBuilder" "java/lang/AbstractStringBuilder" "ensureCapacityInternal" "(I)V", Cond.selects RJ4 ⟨"java/lang/AbstractStringBuilder", "ensureCapacityInternal", "(I)V"⟩ yJ5_ensureCapacityInternal_d00df, Cond.instanceMethod yJ5_ensureCapacityInternal_d00df, Cond.initialized RJ5, Cond.code yJ5_ensureCapacityInternal_d00df cJ5_ensureCapacityInternal_d00df 3 none, Cond.fieldLink RJ5 22 "java/lang/AbstractStringBuilder" "coder" "B", Cond.methodLink RJ5 104 ⟨"java/lang/AbstractStringBuilder", "newCapacity", "(I)I"⟩, Cond.sameMethod "java/lang/AbstractStringBuilder" "java/lang/AbstractStringBuilder" "newCapacity" "(I)I", Cond.selects RJ4 ⟨"java/lang/AbstractStringBuilder", "newCapacity", "(I)I"⟩ yJ5_newCapacity_0f7a4, Cond.instanceMethod yJ5_newCapacity_0f7a4, Cond.code yJ5_newCapacity_0f7a4 cJ5_newCapacity_0f7a4 6 (some .int), Cond.constant RJ5 39 (2147483647), Cond.methodLink RJ5 114 yJ8_newLength_cabcc, Cond.static yJ8_newLength_cabcc, Cond.initialized RJ8, Cond.code yJ8_newLength_cabcc cJ8_newLength_cabcc 4 (some .int), Cond.methodLink RJ8 194 Lib.Math.max.name]
def wsJ5_append_c97b9_r2 : List Cond := [Cond.static Lib.Math.max.name, Cond.initialized "java/lang/Math", Cond.code Lib.Math.max.name Lib.Math.max.code 2 (some .int), Cond.constant RJ8 200 (2147483639), Cond.methodLink RJ8 201 yJ8_hugeLength_7cf53, Cond.static yJ8_hugeLength_7cf53, Cond.code yJ8_hugeLength_7cf53 cJ8_hugeLength_7cf53 3 (some .int), Cond.methodLink RJ5 108 yJ7_copyOf_9075b, Cond.static yJ7_copyOf_9075b, Cond.initialized RJ7, Cond.code yJ7_copyOf_9075b cJ7_copyOf_9075b 3 (some (.array .byte)), Cond.methodLink RJ7 310 ⟨"[B", "clone", "()Ljava/lang/Object;"⟩, Cond.sameMethod "[B" "java/lang/Object" "clone" "()Ljava/lang/Object;", Cond.native ⟨"java/lang/Object", "clone", "()Ljava/lang/Object;"⟩, Cond.instanceMethod ⟨"java/lang/Object", "clone", "()Ljava/lang/Object;"⟩, Cond.selects "[B" ⟨"[B", "clone", "()Ljava/lang/Object;"⟩ ⟨"java/lang/Object", "clone", "()Ljava/lang/Object;"⟩, Cond.classLink RJ7 311 "[B", Cond.arrayClass .byte, Cond.methodLink RJ7 304 Lib.Math.min.name, Cond.static Lib.Math.min.name, Cond.code Lib.Math.min.name Lib.Math.min.code 2 (some .int), Cond.methodLink RJ7 150 arraycopyName, Cond.native arraycopyName, Cond.static arraycopyName]
def wsJ5_append_c97b9_r3 : List Cond := [Cond.initialized "java/lang/System", Cond.methodLink RJ5 83 ⟨"java/lang/AbstractStringBuilder", "isLatin1", "()Z"⟩, Cond.sameMethod "java/lang/AbstractStringBuilder" "java/lang/AbstractStringBuilder" "isLatin1" "()Z", Cond.selects RJ4 ⟨"java/lang/AbstractStringBuilder", "isLatin1", "()Z"⟩ yJ5_isLatin1_aae02, Cond.instanceMethod yJ5_isLatin1_aae02, Cond.code yJ5_isLatin1_aae02 cJ5_isLatin1_aae02 1 (some .boolean), Cond.fieldLink RJ5 18 "java/lang/String" "COMPACT_STRINGS" "Z", Cond.methodLink RJ5 248 yJ6_getChars_ba4f3, Cond.static yJ6_getChars_ba4f3, Cond.code yJ6_getChars_ba4f3 cJ6_getChars_ba4f3 7 (some .int), Cond.fieldLink RJ6 83 "java/lang/Integer" "DigitOnes" "[B", Cond.fieldLink RJ6 87 "java/lang/Integer" "DigitTens" "[B", Cond.methodLink RJ5 251 yJ2_getChars_46870, Cond.static yJ2_getChars_46870, Cond.initialized RJ2, Cond.code yJ2_getChars_46870 cJ2_getChars_46870 5 (some .int), Cond.fieldLink RJ2 44 "java/lang/StringUTF16" "$assertionsDisabled" "Z", Cond.methodLink RJ2 96 yJ2_checkBoundsBeginEnd_d044e, Cond.static yJ2_checkBoundsBeginEnd_d044e, Cond.code yJ2_checkBoundsBeginEnd_d044e cJ2_checkBoundsBeginEnd_d044e 3 none, Cond.methodLink RJ2 48 yJ2_length_9d52b, Cond.static yJ2_length_9d52b, Cond.code yJ2_length_9d52b cJ2_length_9d52b 1 (some .int), Cond.methodLink RJ2 241 yJ0_checkBoundsBeginEnd_23922]
def wsJ5_append_c97b9_r4 : List Cond := [Cond.static yJ0_checkBoundsBeginEnd_23922, Cond.initialized RJ0, Cond.code yJ0_checkBoundsBeginEnd_23922 cJ0_checkBoundsBeginEnd_23922 3 none, Cond.fieldLink RJ0 1053 "jdk/internal/util/Preconditions" "SIOOBE_FORMATTER" "Ljava/util/function/BiFunction;", Cond.methodLink RJ0 1062 yJ3_checkFromToIndex_8c36e, Cond.static yJ3_checkFromToIndex_8c36e, Cond.initialized RJ3, Cond.code yJ3_checkFromToIndex_8c36e cJ3_checkFromToIndex_8c36e 4 (some .int), Cond.methodLink RJ2 393 yJ2_getChars_ba4f3, Cond.static yJ2_getChars_ba4f3, Cond.code yJ2_getChars_ba4f3 cJ2_getChars_ba4f3 7 (some .int), Cond.fieldLink RJ2 403 "java/lang/Integer" "DigitOnes" "[B", Cond.fieldLink RJ2 407 "java/lang/Integer" "DigitTens" "[B", Cond.methodLink RJ2 111 yJ2_putChar_b72d1, Cond.static yJ2_putChar_b72d1, Cond.code yJ2_putChar_b72d1 cJ2_putChar_b72d1 3 none, Cond.fieldLink RJ2 59 "java/lang/StringUTF16" "HI_BYTE_SHIFT" "I", Cond.fieldLink RJ2 63 "java/lang/StringUTF16" "LO_BYTE_SHIFT" "I"]
def wsJ5_append_c97b9 : List Cond := .code yJ5_append_c97b9 cJ5_append_c97b9 4 (some (.object "java/lang/AbstractStringBuilder")) :: ((wsJ5_append_c97b9_r1 ++ (wsJ5_append_c97b9_r2 ++ (wsJ5_append_c97b9_r3 ++ wsJ5_append_c97b9_r4))) ++ wsJ40)
def wsJ4_append_bf812_r1 : List Cond := [Cond.methodLink RJ4 53 yJ5_append_c97b9, Cond.sameMethod "java/lang/AbstractStringBuilder" "java/lang/AbstractStringBuilder" "append" "(I)Ljava/lang/AbstractStringBuilder;", Cond.superclass RJ4 RJ5, Cond.instanceMethod yJ5_append_c97b9, Cond.initialized RJ5, Cond.code yJ5_append_c97b9 cJ5_append_c97b9 4 (some (.object "java/lang/AbstractStringBuilder")), Cond.fieldLink RJ5 79 "java/lang/AbstractStringBuilder" "count" "I", Cond.fieldLink RJ5 15 "java/lang/AbstractStringBuilder" "value" "[B", Cond.methodLink RJ5 245 yJ6_stringSize_0f7a4, Cond.static yJ6_stringSize_0f7a4, Cond.initialized RJ6, Cond.code yJ6_stringSize_0f7a4 cJ6_stringSize_0f7a4 4 (some .int), Cond.methodLink RJ5 100 ⟨"java/lang/AbstractStringBuilder", "ensureCapacityInternal", "(I)V"⟩, Cond.sameMethod "java/lang/AbstractStringBuilder" "java/lang/AbstractStringBuilder" "ensureCapacityInternal" "(I)V", Cond.selects RJ4 ⟨"java/lang/AbstractStringBuilder", "ensureCapacityInternal", "(I)V"⟩ yJ5_ensureCapacityInternal_d00df, Cond.instanceMethod yJ5_ensureCapacityInternal_d00df, Cond.code yJ5_ensureCapacityInternal_d00df cJ5_ensureCapacityInternal_d00df 3 none, Cond.fieldLink RJ5 22 "java/lang/AbstractStringBuilder" "coder" "B", Cond.methodLink RJ5 104 ⟨"java/lang/AbstractStringBuilder", "newCapacity", "(I)I"⟩, Cond.sameMethod "java/lang/AbstractStringBuilder" "java/lang/AbstractStringBuilder" "newCapacity" "(I)I", Cond.selects RJ4 ⟨"java/lang/AbstractStringBuilder", "newCapacity", "(I)I"⟩ yJ5_newCapacity_0f7a4, Cond.instanceMethod yJ5_newCapacity_0f7a4, Cond.code yJ5_newCapacity_0f7a4 cJ5_newCapacity_0f7a4 6 (some .int), Cond.constant RJ5 39 (2147483647)]
def wsJ4_append_bf812_r2 : List Cond := [Cond.methodLink RJ5 114 yJ8_newLength_cabcc, Cond.static yJ8_newLength_cabcc, Cond.initialized RJ8, Cond.code yJ8_newLength_cabcc cJ8_newLength_cabcc 4 (some .int), Cond.methodLink RJ8 194 Lib.Math.max.name, Cond.static Lib.Math.max.name, Cond.initialized "java/lang/Math", Cond.code Lib.Math.max.name Lib.Math.max.code 2 (some .int), Cond.constant RJ8 200 (2147483639), Cond.methodLink RJ8 201 yJ8_hugeLength_7cf53, Cond.static yJ8_hugeLength_7cf53, Cond.code yJ8_hugeLength_7cf53 cJ8_hugeLength_7cf53 3 (some .int), Cond.methodLink RJ5 108 yJ7_copyOf_9075b, Cond.static yJ7_copyOf_9075b, Cond.initialized RJ7, Cond.code yJ7_copyOf_9075b cJ7_copyOf_9075b 3 (some (.array .byte)), Cond.methodLink RJ7 310 ⟨"[B", "clone", "()Ljava/lang/Object;"⟩, Cond.sameMethod "[B" "java/lang/Object" "clone" "()Ljava/lang/Object;", Cond.native ⟨"java/lang/Object", "clone", "()Ljava/lang/Object;"⟩, Cond.instanceMethod ⟨"java/lang/Object", "clone", "()Ljava/lang/Object;"⟩, Cond.selects "[B" ⟨"[B", "clone", "()Ljava/lang/Object;"⟩ ⟨"java/lang/Object", "clone", "()Ljava/lang/Object;"⟩, Cond.classLink RJ7 311 "[B", Cond.arrayClass .byte, Cond.methodLink RJ7 304 Lib.Math.min.name]
def wsJ4_append_bf812_r3 : List Cond := [Cond.static Lib.Math.min.name, Cond.code Lib.Math.min.name Lib.Math.min.code 2 (some .int), Cond.methodLink RJ7 150 arraycopyName, Cond.native arraycopyName, Cond.static arraycopyName, Cond.initialized "java/lang/System", Cond.methodLink RJ5 83 ⟨"java/lang/AbstractStringBuilder", "isLatin1", "()Z"⟩, Cond.sameMethod "java/lang/AbstractStringBuilder" "java/lang/AbstractStringBuilder" "isLatin1" "()Z", Cond.selects RJ4 ⟨"java/lang/AbstractStringBuilder", "isLatin1", "()Z"⟩ yJ5_isLatin1_aae02, Cond.instanceMethod yJ5_isLatin1_aae02, Cond.code yJ5_isLatin1_aae02 cJ5_isLatin1_aae02 1 (some .boolean), Cond.fieldLink RJ5 18 "java/lang/String" "COMPACT_STRINGS" "Z", Cond.methodLink RJ5 248 yJ6_getChars_ba4f3, Cond.static yJ6_getChars_ba4f3, Cond.code yJ6_getChars_ba4f3 cJ6_getChars_ba4f3 7 (some .int), Cond.fieldLink RJ6 83 "java/lang/Integer" "DigitOnes" "[B", Cond.fieldLink RJ6 87 "java/lang/Integer" "DigitTens" "[B", Cond.methodLink RJ5 251 yJ2_getChars_46870, Cond.static yJ2_getChars_46870, Cond.initialized RJ2, Cond.code yJ2_getChars_46870 cJ2_getChars_46870 5 (some .int), Cond.fieldLink RJ2 44 "java/lang/StringUTF16" "$assertionsDisabled" "Z", Cond.methodLink RJ2 96 yJ2_checkBoundsBeginEnd_d044e, Cond.static yJ2_checkBoundsBeginEnd_d044e]
def wsJ4_append_bf812_r4 : List Cond := [Cond.code yJ2_checkBoundsBeginEnd_d044e cJ2_checkBoundsBeginEnd_d044e 3 none, Cond.methodLink RJ2 48 yJ2_length_9d52b, Cond.static yJ2_length_9d52b, Cond.code yJ2_length_9d52b cJ2_length_9d52b 1 (some .int), Cond.methodLink RJ2 241 yJ0_checkBoundsBeginEnd_23922, Cond.static yJ0_checkBoundsBeginEnd_23922, Cond.initialized RJ0, Cond.code yJ0_checkBoundsBeginEnd_23922 cJ0_checkBoundsBeginEnd_23922 3 none, Cond.fieldLink RJ0 1053 "jdk/internal/util/Preconditions" "SIOOBE_FORMATTER" "Ljava/util/function/BiFunction;", Cond.methodLink RJ0 1062 yJ3_checkFromToIndex_8c36e, Cond.static yJ3_checkFromToIndex_8c36e, Cond.initialized RJ3, Cond.code yJ3_checkFromToIndex_8c36e cJ3_checkFromToIndex_8c36e 4 (some .int), Cond.methodLink RJ2 393 yJ2_getChars_ba4f3, Cond.static yJ2_getChars_ba4f3, Cond.code yJ2_getChars_ba4f3 cJ2_getChars_ba4f3 7 (some .int), Cond.fieldLink RJ2 403 "java/lang/Integer" "DigitOnes" "[B", Cond.fieldLink RJ2 407 "java/lang/Integer" "DigitTens" "[B", Cond.methodLink RJ2 111 yJ2_putChar_b72d1, Cond.static yJ2_putChar_b72d1, Cond.code yJ2_putChar_b72d1 cJ2_putChar_b72d1 3 none, Cond.fieldLink RJ2 59 "java/lang/StringUTF16" "HI_BYTE_SHIFT" "I", Cond.fieldLink RJ2 63 "java/lang/StringUTF16" "LO_BYTE_SHIFT" "I"]
def wsJ4_append_bf812 : List Cond := .code yJ4_append_bf812 cJ4_append_bf812 2 (some (.object "java/lang/StringBuilder")) :: ((wsJ4_append_bf812_r1 ++ (wsJ4_append_bf812_r2 ++ (wsJ4_append_bf812_r3 ++ wsJ4_append_bf812_r4))) ++ wsJ40)
def wsX4_writeTo_r1 : List Cond := [Cond.fieldLink RX4 28 "ZoneRelay$Polygon" "size" "I", Cond.fieldLink RX4 9 "ZoneRelay$Polygon" "xs" "[I", Cond.fieldLink RX4 15 "ZoneRelay$Polygon" "ys" "[I", Cond.methodLink RX4 39 yJ4_setLength_d00df, Cond.instanceMethod yJ4_setLength_d00df, Cond.selects RJ4 yJ4_setLength_d00df yJ4_setLength_d00df, Cond.initialized RJ4, Cond.code yJ4_setLength_d00df cJ4_setLength_d00df 2 none, Cond.methodLink RJ4 333 yJ5_setLength_d00df, Cond.sameMethod "java/lang/AbstractStringBuilder" "java/lang/AbstractStringBuilder" "setLength" "(I)V", Cond.superclass RJ4 RJ5, Cond.instanceMethod yJ5_setLength_d00df, Cond.initialized RJ5, Cond.code yJ5_setLength_d00df cJ5_setLength_d00df 2 none, Cond.fieldLink RJ5 79 "java/lang/AbstractStringBuilder" "count" "I", Cond.fieldLink RJ5 15 "java/lang/AbstractStringBuilder" "value" "[B", Cond.fieldLink RJ5 73 "java/lang/AbstractStringBuilder" "maybeLatin1" "Z", Cond.methodLink RJ5 100 ⟨"java/lang/AbstractStringBuilder", "ensureCapacityInternal", "(I)V"⟩, Cond.sameMethod "java/lang/AbstractStringBuilder" "java/lang/AbstractStringBuilder" "ensureCapacityInternal" "(I)V", Cond.selects RJ4 ⟨"java/lang/AbstractStringBuilder", "ensureCapacityInternal", "(I)V"⟩ yJ5_ensureCapacityInternal_d00df, Cond.instanceMethod yJ5_ensureCapacityInternal_d00df, Cond.code yJ5_ensureCapacityInternal_d00df cJ5_ensureCapacityInternal_d00df 3 none, Cond.fieldLink RJ5 22 "java/lang/AbstractStringBuilder" "coder" "B", Cond.methodLink RJ5 104 ⟨"java/lang/AbstractStringBuilder", "newCapacity", "(I)I"⟩]
def wsX4_writeTo_r2 : List Cond := [Cond.sameMethod "java/lang/AbstractStringBuilder" "java/lang/AbstractStringBuilder" "newCapacity" "(I)I", Cond.selects RJ4 ⟨"java/lang/AbstractStringBuilder", "newCapacity", "(I)I"⟩ yJ5_newCapacity_0f7a4, Cond.instanceMethod yJ5_newCapacity_0f7a4, Cond.code yJ5_newCapacity_0f7a4 cJ5_newCapacity_0f7a4 6 (some .int), Cond.constant RJ5 39 (2147483647), Cond.methodLink RJ5 114 yJ8_newLength_cabcc, Cond.static yJ8_newLength_cabcc, Cond.initialized RJ8, Cond.code yJ8_newLength_cabcc cJ8_newLength_cabcc 4 (some .int), Cond.methodLink RJ8 194 Lib.Math.max.name, Cond.static Lib.Math.max.name, Cond.initialized "java/lang/Math", Cond.code Lib.Math.max.name Lib.Math.max.code 2 (some .int), Cond.constant RJ8 200 (2147483639), Cond.methodLink RJ8 201 yJ8_hugeLength_7cf53, Cond.static yJ8_hugeLength_7cf53, Cond.code yJ8_hugeLength_7cf53 cJ8_hugeLength_7cf53 3 (some .int), Cond.methodLink RJ5 108 yJ7_copyOf_9075b, Cond.static yJ7_copyOf_9075b, Cond.initialized RJ7, Cond.code yJ7_copyOf_9075b cJ7_copyOf_9075b 3 (some (.array .byte)), Cond.methodLink RJ7 310 ⟨"[B", "clone", "()Ljava/lang/Object;"⟩, Cond.sameMethod "[B" "java/lang/Object" "clone" "()Ljava/lang/Object;", Cond.native ⟨"java/lang/Object", "clone", "()Ljava/lang/Object;"⟩]
def wsX4_writeTo_r3 : List Cond := [Cond.instanceMethod ⟨"java/lang/Object", "clone", "()Ljava/lang/Object;"⟩, Cond.selects "[B" ⟨"[B", "clone", "()Ljava/lang/Object;"⟩ ⟨"java/lang/Object", "clone", "()Ljava/lang/Object;"⟩, Cond.classLink RJ7 311 "[B", Cond.arrayClass .byte, Cond.methodLink RJ7 304 Lib.Math.min.name, Cond.static Lib.Math.min.name, Cond.code Lib.Math.min.name Lib.Math.min.code 2 (some .int), Cond.methodLink RJ7 150 arraycopyName, Cond.native arraycopyName, Cond.static arraycopyName, Cond.initialized "java/lang/System", Cond.methodLink RJ5 83 ⟨"java/lang/AbstractStringBuilder", "isLatin1", "()Z"⟩, Cond.sameMethod "java/lang/AbstractStringBuilder" "java/lang/AbstractStringBuilder" "isLatin1" "()Z", Cond.selects RJ4 ⟨"java/lang/AbstractStringBuilder", "isLatin1", "()Z"⟩ yJ5_isLatin1_aae02, Cond.instanceMethod yJ5_isLatin1_aae02, Cond.code yJ5_isLatin1_aae02 cJ5_isLatin1_aae02 1 (some .boolean), Cond.fieldLink RJ5 18 "java/lang/String" "COMPACT_STRINGS" "Z", Cond.methodLink RJ5 133 yJ1_fillNull_b72d1, Cond.static yJ1_fillNull_b72d1, Cond.initialized RJ1, Cond.code yJ1_fillNull_b72d1 cJ1_fillNull_b72d1 3 none, Cond.methodLink RJ1 236 yJ7_fill_eb02e, Cond.static yJ7_fill_eb02e, Cond.code yJ7_fill_eb02e cJ7_fill_eb02e 5 none]
def wsX4_writeTo_r4 : List Cond := [Cond.methodLink RJ7 13 yJ7_rangeCheck_23922, Cond.static yJ7_rangeCheck_23922, Cond.code yJ7_rangeCheck_23922 cJ7_rangeCheck_23922 3 none, Cond.methodLink RJ5 137 yJ2_fillNull_b72d1, Cond.static yJ2_fillNull_b72d1, Cond.initialized RJ2, Cond.code yJ2_fillNull_b72d1 cJ2_fillNull_b72d1 3 none, Cond.methodLink RJ2 380 yJ7_fill_eb02e, Cond.methodLink RX4 45 yJ4_append_cf468, Cond.instanceMethod yJ4_append_cf468, Cond.selects RJ4 yJ4_append_cf468 yJ4_append_cf468, Cond.code yJ4_append_cf468 cJ4_append_cf468 2 (some (.object "java/lang/StringBuilder")), Cond.methodLink RJ4 50 yJ5_append_3fe6f, Cond.sameMethod "java/lang/AbstractStringBuilder" "java/lang/AbstractStringBuilder" "append" "(C)Ljava/lang/AbstractStringBuilder;", Cond.instanceMethod yJ5_append_3fe6f, Cond.code yJ5_append_3fe6f cJ5_append_3fe6f 2 (some (.object "java/lang/AbstractStringBuilder")), Cond.methodLink RJ5 191 yJ1_canEncode_fc78d, Cond.static yJ1_canEncode_fc78d, Cond.code yJ1_canEncode_fc78d cJ1_canEncode_fc78d 1 (some .boolean), Cond.methodLink RJ5 195 ⟨"java/lang/AbstractStringBuilder", "inflate", "()V"⟩, Cond.sameMethod "java/lang/AbstractStringBuilder" "java/lang/AbstractStringBuilder" "inflate" "()V", Cond.selects RJ4 ⟨"java/lang/AbstractStringBuilder", "inflate", "()V"⟩ yJ5_inflate_da8c8, Cond.instanceMethod yJ5_inflate_da8c8, Cond.code yJ5_inflate_da8c8 cJ5_inflate_da8c8 2 none]
def wsX4_writeTo_r5 : List Cond := [Cond.methodLink RJ5 26 yJ2_newBytesFor_77867, Cond.static yJ2_newBytesFor_77867, Cond.code yJ2_newBytesFor_77867 cJ2_newBytesFor_77867 1 (some (.array .byte)), Cond.methodLink RJ2 11 yJ2_newBytesLength_0f7a4, Cond.static yJ2_newBytesLength_0f7a4, Cond.code yJ2_newBytesLength_0f7a4 cJ2_newBytesLength_0f7a4 1 (some .int), Cond.constant RJ2 20 (1073741823), Cond.methodLink RJ5 125 yJ1_inflate_0e8fd, Cond.static yJ1_inflate_0e8fd, Cond.code yJ1_inflate_0e8fd cJ1_inflate_0e8fd 5 none, Cond.methodLink RJ1 240 yJ2_inflate_0e8fd, Cond.static yJ2_inflate_0e8fd, Cond.code yJ2_inflate_0e8fd cJ2_inflate_0e8fd 6 none, Cond.methodLink RJ2 173 yJ2_checkBoundsOffCount_d044e, Cond.static yJ2_checkBoundsOffCount_d044e, Cond.code yJ2_checkBoundsOffCount_d044e cJ2_checkBoundsOffCount_d044e 3 none, Cond.methodLink RJ2 48 yJ2_length_9d52b, Cond.static yJ2_length_9d52b, Cond.code yJ2_length_9d52b cJ2_length_9d52b 1 (some .int), Cond.methodLink RJ2 419 yJ0_checkBoundsOffCount_cabcc, Cond.static yJ0_checkBoundsOffCount_cabcc, Cond.initialized RJ0, Cond.code yJ0_checkBoundsOffCount_cabcc cJ0_checkBoundsOffCount_cabcc 3 (some .int), Cond.fieldLink RJ0 1053 "jdk/internal/util/Preconditions" "SIOOBE_FORMATTER" "Ljava/util/function/BiFunction;"]
def wsX4_writeTo_r6 : List Cond := [Cond.methodLink RJ0 1065 yJ3_checkFromIndexSize_8c36e, Cond.static yJ3_checkFromIndexSize_8c36e, Cond.initialized RJ3, Cond.code yJ3_checkFromIndexSize_8c36e cJ3_checkFromIndexSize_8c36e 4 (some .int), Cond.methodLink RJ2 111 yJ2_putChar_b72d1, Cond.static yJ2_putChar_b72d1, Cond.code yJ2_putChar_b72d1 cJ2_putChar_b72d1 3 none, Cond.fieldLink RJ2 44 "java/lang/StringUTF16" "$assertionsDisabled" "Z", Cond.fieldLink RJ2 59 "java/lang/StringUTF16" "HI_BYTE_SHIFT" "I", Cond.fieldLink RJ2 63 "java/lang/StringUTF16" "LO_BYTE_SHIFT" "I", Cond.methodLink RJ5 197 yJ2_putCharSB_b72d1, Cond.static yJ2_putCharSB_b72d1, Cond.code yJ2_putCharSB_b72d1 cJ2_putCharSB_b72d1 3 none, Cond.methodLink RJ2 67 yJ2_checkIndex_2214a, Cond.static yJ2_checkIndex_2214a, Cond.code yJ2_checkIndex_2214a cJ2_checkIndex_2214a 2 none, Cond.methodLink RJ2 414 yJ0_checkIndex_df160, Cond.static yJ0_checkIndex_df160, Cond.code yJ0_checkIndex_df160 cJ0_checkIndex_df160 2 none, Cond.methodLink RJ0 1059 yJ3_checkIndex_8e157, Cond.static yJ3_checkIndex_8e157, Cond.code yJ3_checkIndex_8e157 cJ3_checkIndex_8e157 3 (some .int), Cond.methodLink RX4 49 yJ4_append_bf812, Cond.instanceMethod yJ4_append_bf812]
def wsX4_writeTo_r7 : List Cond := [Cond.selects RJ4 yJ4_append_bf812 yJ4_append_bf812, Cond.code yJ4_append_bf812 cJ4_append_bf812 2 (some (.object "java/lang/StringBuilder")), Cond.methodLink RJ4 53 yJ5_append_c97b9, Cond.sameMethod "java/lang/AbstractStringBuilder" "java/lang/AbstractStringBuilder" "append" "(I)Ljava/lang/AbstractStringBuilder;", Cond.instanceMethod yJ5_append_c97b9, Cond.code yJ5_append_c97b9 cJ5_append_c97b9 4 (some (.object "java/lang/AbstractStringBuilder")), Cond.methodLink RJ5 245 yJ6_stringSize_0f7a4, Cond.static yJ6_stringSize_0f7a4, Cond.initialized RJ6, Cond.code yJ6_stringSize_0f7a4 cJ6_stringSize_0f7a4 4 (some .int), Cond.methodLink RJ5 248 yJ6_getChars_ba4f3, Cond.static yJ6_getChars_ba4f3, Cond.code yJ6_getChars_ba4f3 cJ6_getChars_ba4f3 7 (some .int), Cond.fieldLink RJ6 83 "java/lang/Integer" "DigitOnes" "[B", Cond.fieldLink RJ6 87 "java/lang/Integer" "DigitTens" "[B", Cond.methodLink RJ5 251 yJ2_getChars_46870, Cond.static yJ2_getChars_46870, Cond.code yJ2_getChars_46870 cJ2_getChars_46870 5 (some .int), Cond.methodLink RJ2 96 yJ2_checkBoundsBeginEnd_d044e, Cond.static yJ2_checkBoundsBeginEnd_d044e, Cond.code yJ2_checkBoundsBeginEnd_d044e cJ2_checkBoundsBeginEnd_d044e 3 none, Cond.methodLink RJ2 241 yJ0_checkBoundsBeginEnd_23922, Cond.static yJ0_checkBoundsBeginEnd_23922, Cond.code yJ0_checkBoundsBeginEnd_23922 cJ0_checkBoundsBeginEnd_23922 3 none]
def wsX4_writeTo_r8 : List Cond := [Cond.methodLink RJ0 1062 yJ3_checkFromToIndex_8c36e, Cond.static yJ3_checkFromToIndex_8c36e, Cond.code yJ3_checkFromToIndex_8c36e cJ3_checkFromToIndex_8c36e 4 (some .int), Cond.methodLink RJ2 393 yJ2_getChars_ba4f3, Cond.static yJ2_getChars_ba4f3, Cond.code yJ2_getChars_ba4f3 cJ2_getChars_ba4f3 7 (some .int), Cond.fieldLink RJ2 403 "java/lang/Integer" "DigitOnes" "[B", Cond.fieldLink RJ2 407 "java/lang/Integer" "DigitTens" "[B"]
def wsX4_writeTo : List Cond := .code yX4_writeTo cX4_writeTo 3 none :: ((wsX4_writeTo_r1 ++ (wsX4_writeTo_r2 ++ (wsX4_writeTo_r3 ++ (wsX4_writeTo_r4 ++ (wsX4_writeTo_r5 ++ (wsX4_writeTo_r6 ++ (wsX4_writeTo_r7 ++ wsX4_writeTo_r8))))))) ++ wsX40 ++ wsJ40)
def wsX5_init : List Cond := .code yX5_init cX5_init 1 none :: ([.methodLink RX5 3 objectInit, .instanceMethod objectInit, .code objectInit ⟨#[0xb1]⟩ 1 none, .arrayClass .int, .fieldLink RX5 9 "ZoneRelay$Reader" "xs" "[I", .fieldLink RX5 15 "ZoneRelay$Reader" "ys" "[I"] ++ wsX50)
def wsX5_startNumber : List Cond := .code yX5_startNumber cX5_startNumber 1 none :: ([.fieldLink RX5 63 "ZoneRelay$Reader" "isNegative" "Z", .fieldLink RX5 43 "ZoneRelay$Reader" "digits" "I", .fieldLink RX5 69 "ZoneRelay$Reader" "value" "I"] ++ wsX50)
def wsJ5_length_8abf5 : List Cond := .code yJ5_length_8abf5 cJ5_length_8abf5 1 (some .int) :: ([.fieldLink RJ5 79 "java/lang/AbstractStringBuilder" "count" "I"] ++ wsJ40)
def wsJ4_length_8abf5 : List Cond := .code yJ4_length_8abf5 cJ4_length_8abf5 1 (some .int) :: ([.methodLink RJ4 343 yJ5_length_8abf5, .sameMethod "java/lang/AbstractStringBuilder" "java/lang/AbstractStringBuilder" "length" "()I", .superclass RJ4 RJ5, .instanceMethod yJ5_length_8abf5, .initialized RJ5, .code yJ5_length_8abf5 cJ5_length_8abf5 1 (some .int), .fieldLink RJ5 79 "java/lang/AbstractStringBuilder" "count" "I"] ++ wsJ40)
def wsJ2_getChar_3b067 : List Cond := .code yJ2_getChar_3b067 cJ2_getChar_3b067 2 (some .char) :: ([.fieldLink RJ2 44 "java/lang/StringUTF16" "$assertionsDisabled" "Z", .fieldLink RJ2 59 "java/lang/StringUTF16" "HI_BYTE_SHIFT" "I", .fieldLink RJ2 63 "java/lang/StringUTF16" "LO_BYTE_SHIFT" "I", .methodLink RJ2 48 yJ2_length_9d52b, .static yJ2_length_9d52b, .initialized RJ2, .code yJ2_length_9d52b cJ2_length_9d52b 1 (some .int)])
def wsJ5_charAt_5068e_r1 : List Cond := [Cond.fieldLink RJ5 22 "java/lang/AbstractStringBuilder" "coder" "B", Cond.fieldLink RJ5 15 "java/lang/AbstractStringBuilder" "value" "[B", Cond.fieldLink RJ5 79 "java/lang/AbstractStringBuilder" "count" "I", Cond.methodLink RJ5 138 Lib.Math.min.name, Cond.static Lib.Math.min.name, Cond.initialized "java/lang/Math", Cond.code Lib.Math.min.name Lib.Math.min.code 2 (some .int), Cond.methodLink RJ5 144 yJ0_checkIndex_df160, Cond.static yJ0_checkIndex_df160, Cond.initialized RJ0, Cond.code yJ0_checkIndex_df160 cJ0_checkIndex_df160 2 none, Cond.fieldLink RJ0 1053 "jdk/internal/util/Preconditions" "SIOOBE_FORMATTER" "Ljava/util/function/BiFunction;", Cond.methodLink RJ0 1059 yJ3_checkIndex_8e157, Cond.static yJ3_checkIndex_8e157, Cond.initialized RJ3, Cond.code yJ3_checkIndex_8e157 cJ3_checkIndex_8e157 3 (some .int), Cond.methodLink RJ5 148 yJ2_getChar_3b067, Cond.static yJ2_getChar_3b067, Cond.initialized RJ2, Cond.code yJ2_getChar_3b067 cJ2_getChar_3b067 2 (some .char), Cond.fieldLink RJ2 44 "java/lang/StringUTF16" "$assertionsDisabled" "Z", Cond.fieldLink RJ2 59 "java/lang/StringUTF16" "HI_BYTE_SHIFT" "I", Cond.fieldLink RJ2 63 "java/lang/StringUTF16" "LO_BYTE_SHIFT" "I", Cond.methodLink RJ2 48 yJ2_length_9d52b]
def wsJ5_charAt_5068e_r2 : List Cond := [Cond.static yJ2_length_9d52b, Cond.code yJ2_length_9d52b cJ2_length_9d52b 1 (some .int)]
def wsJ5_charAt_5068e : List Cond := .code yJ5_charAt_5068e cJ5_charAt_5068e 5 (some .char) :: ((wsJ5_charAt_5068e_r1 ++ wsJ5_charAt_5068e_r2) ++ wsJ40)
def wsJ4_charAt_5068e_r1 : List Cond := [Cond.methodLink RJ4 329 yJ5_charAt_5068e, Cond.sameMethod "java/lang/AbstractStringBuilder" "java/lang/AbstractStringBuilder" "charAt" "(I)C", Cond.superclass RJ4 RJ5, Cond.instanceMethod yJ5_charAt_5068e, Cond.initialized RJ5, Cond.code yJ5_charAt_5068e cJ5_charAt_5068e 5 (some .char), Cond.fieldLink RJ5 22 "java/lang/AbstractStringBuilder" "coder" "B", Cond.fieldLink RJ5 15 "java/lang/AbstractStringBuilder" "value" "[B", Cond.fieldLink RJ5 79 "java/lang/AbstractStringBuilder" "count" "I", Cond.methodLink RJ5 138 Lib.Math.min.name, Cond.static Lib.Math.min.name, Cond.initialized "java/lang/Math", Cond.code Lib.Math.min.name Lib.Math.min.code 2 (some .int), Cond.methodLink RJ5 144 yJ0_checkIndex_df160, Cond.static yJ0_checkIndex_df160, Cond.initialized RJ0, Cond.code yJ0_checkIndex_df160 cJ0_checkIndex_df160 2 none, Cond.fieldLink RJ0 1053 "jdk/internal/util/Preconditions" "SIOOBE_FORMATTER" "Ljava/util/function/BiFunction;", Cond.methodLink RJ0 1059 yJ3_checkIndex_8e157, Cond.static yJ3_checkIndex_8e157, Cond.initialized RJ3, Cond.code yJ3_checkIndex_8e157 cJ3_checkIndex_8e157 3 (some .int), Cond.methodLink RJ5 148 yJ2_getChar_3b067, Cond.static yJ2_getChar_3b067]
def wsJ4_charAt_5068e_r2 : List Cond := [Cond.initialized RJ2, Cond.code yJ2_getChar_3b067 cJ2_getChar_3b067 2 (some .char), Cond.fieldLink RJ2 44 "java/lang/StringUTF16" "$assertionsDisabled" "Z", Cond.fieldLink RJ2 59 "java/lang/StringUTF16" "HI_BYTE_SHIFT" "I", Cond.fieldLink RJ2 63 "java/lang/StringUTF16" "LO_BYTE_SHIFT" "I", Cond.methodLink RJ2 48 yJ2_length_9d52b, Cond.static yJ2_length_9d52b, Cond.code yJ2_length_9d52b cJ2_length_9d52b 1 (some .int)]
def wsJ4_charAt_5068e : List Cond := .code yJ4_charAt_5068e cJ4_charAt_5068e 2 (some .char) :: ((wsJ4_charAt_5068e_r1 ++ wsJ4_charAt_5068e_r2) ++ wsJ40)
def wsX5_takesMinus : List Cond := .code yX5_takesMinus cX5_takesMinus 1 (some .boolean) :: ([.fieldLink RX5 63 "ZoneRelay$Reader" "isNegative" "Z", .fieldLink RX5 43 "ZoneRelay$Reader" "digits" "I"] ++ wsX50)
def wsX5_number : List Cond := .code yX5_number cX5_number 1 (some .int) :: ([.fieldLink RX5 63 "ZoneRelay$Reader" "isNegative" "Z", .fieldLink RX5 69 "ZoneRelay$Reader" "value" "I"] ++ wsX50)
def wsX5_takesComma : List Cond := .code yX5_takesComma cX5_takesComma 1 (some .boolean) :: ([.fieldLink RX5 22 "ZoneRelay$Reader" "isAtY" "Z", .fieldLink RX5 43 "ZoneRelay$Reader" "digits" "I", .fieldLink RX5 18 "ZoneRelay$Reader" "corners" "I", .fieldLink RX5 9 "ZoneRelay$Reader" "xs" "[I", .methodLink RX5 66 yX5_number, .instanceMethod yX5_number, .selects RX5 yX5_number yX5_number, .initialized RX5, .code yX5_number cX5_number 1 (some .int), .fieldLink RX5 63 "ZoneRelay$Reader" "isNegative" "Z", .fieldLink RX5 69 "ZoneRelay$Reader" "value" "I", .methodLink RX5 26 yX5_startNumber, .instanceMethod yX5_startNumber, .selects RX5 yX5_startNumber yX5_startNumber, .code yX5_startNumber cX5_startNumber 1 none] ++ wsX50)
def wsX5_endCorner : List Cond := .code yX5_endCorner cX5_endCorner 1 none :: ([.fieldLink RX5 18 "ZoneRelay$Reader" "corners" "I", .fieldLink RX5 15 "ZoneRelay$Reader" "ys" "[I", .fieldLink RX5 22 "ZoneRelay$Reader" "isAtY" "Z", .methodLink RX5 66 yX5_number, .instanceMethod yX5_number, .selects RX5 yX5_number yX5_number, .initialized RX5, .code yX5_number cX5_number 1 (some .int), .fieldLink RX5 63 "ZoneRelay$Reader" "isNegative" "Z", .fieldLink RX5 69 "ZoneRelay$Reader" "value" "I", .methodLink RX5 26 yX5_startNumber, .instanceMethod yX5_startNumber, .selects RX5 yX5_startNumber yX5_startNumber, .code yX5_startNumber cX5_startNumber 1 none, .fieldLink RX5 43 "ZoneRelay$Reader" "digits" "I"] ++ wsX50)
def wsX5_takesSlash : List Cond := .code yX5_takesSlash cX5_takesSlash 1 (some .boolean) :: ([.fieldLink RX5 22 "ZoneRelay$Reader" "isAtY" "Z", .fieldLink RX5 43 "ZoneRelay$Reader" "digits" "I", .fieldLink RX5 18 "ZoneRelay$Reader" "corners" "I", .methodLink RX5 46 yX5_endCorner, .instanceMethod yX5_endCorner, .selects RX5 yX5_endCorner yX5_endCorner, .initialized RX5, .code yX5_endCorner cX5_endCorner 1 none, .fieldLink RX5 15 "ZoneRelay$Reader" "ys" "[I", .methodLink RX5 66 yX5_number, .instanceMethod yX5_number, .selects RX5 yX5_number yX5_number, .code yX5_number cX5_number 1 (some .int), .fieldLink RX5 63 "ZoneRelay$Reader" "isNegative" "Z", .fieldLink RX5 69 "ZoneRelay$Reader" "value" "I", .methodLink RX5 26 yX5_startNumber, .instanceMethod yX5_startNumber, .selects RX5 yX5_startNumber yX5_startNumber, .code yX5_startNumber cX5_startNumber 1 none] ++ wsX50)
def wsX10_outside : List Cond := .code yX10_outside cX10_outside 3 (some .boolean) :: ([])
def wsX5_takesDigit : List Cond := .code yX5_takesDigit cX5_takesDigit 3 (some .boolean) :: ([.fieldLink RX5 43 "ZoneRelay$Reader" "digits" "I", .fieldLink RX5 69 "ZoneRelay$Reader" "value" "I", .static yX10_outside, .initialized RX10, .code yX10_outside cX10_outside 3 (some .boolean)] ++ wsX50)
def wsX5_takes_r1 : List Cond := [Cond.methodLink RX5 49 yX5_takesMinus, Cond.instanceMethod yX5_takesMinus, Cond.selects RX5 yX5_takesMinus yX5_takesMinus, Cond.initialized RX5, Cond.code yX5_takesMinus cX5_takesMinus 1 (some .boolean), Cond.fieldLink RX5 63 "ZoneRelay$Reader" "isNegative" "Z", Cond.fieldLink RX5 43 "ZoneRelay$Reader" "digits" "I", Cond.methodLink RX5 53 yX5_takesComma, Cond.instanceMethod yX5_takesComma, Cond.selects RX5 yX5_takesComma yX5_takesComma, Cond.code yX5_takesComma cX5_takesComma 1 (some .boolean), Cond.fieldLink RX5 22 "ZoneRelay$Reader" "isAtY" "Z", Cond.fieldLink RX5 18 "ZoneRelay$Reader" "corners" "I", Cond.fieldLink RX5 9 "ZoneRelay$Reader" "xs" "[I", Cond.methodLink RX5 66 yX5_number, Cond.instanceMethod yX5_number, Cond.selects RX5 yX5_number yX5_number, Cond.code yX5_number cX5_number 1 (some .int), Cond.fieldLink RX5 69 "ZoneRelay$Reader" "value" "I", Cond.methodLink RX5 26 yX5_startNumber, Cond.instanceMethod yX5_startNumber, Cond.selects RX5 yX5_startNumber yX5_startNumber, Cond.code yX5_startNumber cX5_startNumber 1 none, Cond.methodLink RX5 56 yX5_takesSlash]
def wsX5_takes_r2 : List Cond := [Cond.instanceMethod yX5_takesSlash, Cond.selects RX5 yX5_takesSlash yX5_takesSlash, Cond.code yX5_takesSlash cX5_takesSlash 1 (some .boolean), Cond.methodLink RX5 46 yX5_endCorner, Cond.instanceMethod yX5_endCorner, Cond.selects RX5 yX5_endCorner yX5_endCorner, Cond.code yX5_endCorner cX5_endCorner 1 none, Cond.fieldLink RX5 15 "ZoneRelay$Reader" "ys" "[I", Cond.methodLink RX5 59 yX5_takesDigit, Cond.instanceMethod yX5_takesDigit, Cond.selects RX5 yX5_takesDigit yX5_takesDigit, Cond.code yX5_takesDigit cX5_takesDigit 3 (some .boolean), Cond.static yX10_outside, Cond.initialized RX10, Cond.code yX10_outside cX10_outside 3 (some .boolean)]
def wsX5_takes : List Cond := .code yX5_takes cX5_takes 2 (some .boolean) :: ((wsX5_takes_r1 ++ wsX5_takes_r2) ++ wsX50)
def wsX5_findFlaw_r1 : List Cond := [Cond.fieldLink RX5 18 "ZoneRelay$Reader" "corners" "I", Cond.fieldLink RX5 22 "ZoneRelay$Reader" "isAtY" "Z", Cond.fieldLink RX5 43 "ZoneRelay$Reader" "digits" "I", Cond.methodLink RX5 26 yX5_startNumber, Cond.instanceMethod yX5_startNumber, Cond.selects RX5 yX5_startNumber yX5_startNumber, Cond.initialized RX5, Cond.code yX5_startNumber cX5_startNumber 1 none, Cond.fieldLink RX5 63 "ZoneRelay$Reader" "isNegative" "Z", Cond.fieldLink RX5 69 "ZoneRelay$Reader" "value" "I", Cond.methodLink RX5 29 yJ4_length_8abf5, Cond.instanceMethod yJ4_length_8abf5, Cond.selects RJ4 yJ4_length_8abf5 yJ4_length_8abf5, Cond.initialized RJ4, Cond.code yJ4_length_8abf5 cJ4_length_8abf5 1 (some .int), Cond.methodLink RJ4 343 yJ5_length_8abf5, Cond.sameMethod "java/lang/AbstractStringBuilder" "java/lang/AbstractStringBuilder" "length" "()I", Cond.superclass RJ4 RJ5, Cond.instanceMethod yJ5_length_8abf5, Cond.initialized RJ5, Cond.code yJ5_length_8abf5 cJ5_length_8abf5 1 (some .int), Cond.fieldLink RJ5 79 "java/lang/AbstractStringBuilder" "count" "I", Cond.methodLink RX5 35 yJ4_charAt_5068e, Cond.instanceMethod yJ4_charAt_5068e]
def wsX5_findFlaw_r2 : List Cond := [Cond.selects RJ4 yJ4_charAt_5068e yJ4_charAt_5068e, Cond.code yJ4_charAt_5068e cJ4_charAt_5068e 2 (some .char), Cond.methodLink RJ4 329 yJ5_charAt_5068e, Cond.sameMethod "java/lang/AbstractStringBuilder" "java/lang/AbstractStringBuilder" "charAt" "(I)C", Cond.instanceMethod yJ5_charAt_5068e, Cond.code yJ5_charAt_5068e cJ5_charAt_5068e 5 (some .char), Cond.fieldLink RJ5 22 "java/lang/AbstractStringBuilder" "coder" "B", Cond.fieldLink RJ5 15 "java/lang/AbstractStringBuilder" "value" "[B", Cond.methodLink RJ5 138 Lib.Math.min.name, Cond.static Lib.Math.min.name, Cond.initialized "java/lang/Math", Cond.code Lib.Math.min.name Lib.Math.min.code 2 (some .int), Cond.methodLink RJ5 144 yJ0_checkIndex_df160, Cond.static yJ0_checkIndex_df160, Cond.initialized RJ0, Cond.code yJ0_checkIndex_df160 cJ0_checkIndex_df160 2 none, Cond.fieldLink RJ0 1053 "jdk/internal/util/Preconditions" "SIOOBE_FORMATTER" "Ljava/util/function/BiFunction;", Cond.methodLink RJ0 1059 yJ3_checkIndex_8e157, Cond.static yJ3_checkIndex_8e157, Cond.initialized RJ3, Cond.code yJ3_checkIndex_8e157 cJ3_checkIndex_8e157 3 (some .int), Cond.methodLink RJ5 148 yJ2_getChar_3b067, Cond.static yJ2_getChar_3b067, Cond.initialized RJ2]
def wsX5_findFlaw_r3 : List Cond := [Cond.code yJ2_getChar_3b067 cJ2_getChar_3b067 2 (some .char), Cond.fieldLink RJ2 44 "java/lang/StringUTF16" "$assertionsDisabled" "Z", Cond.fieldLink RJ2 59 "java/lang/StringUTF16" "HI_BYTE_SHIFT" "I", Cond.fieldLink RJ2 63 "java/lang/StringUTF16" "LO_BYTE_SHIFT" "I", Cond.methodLink RJ2 48 yJ2_length_9d52b, Cond.static yJ2_length_9d52b, Cond.code yJ2_length_9d52b cJ2_length_9d52b 1 (some .int), Cond.methodLink RX5 39 yX5_takes, Cond.instanceMethod yX5_takes, Cond.selects RX5 yX5_takes yX5_takes, Cond.code yX5_takes cX5_takes 2 (some .boolean), Cond.methodLink RX5 49 yX5_takesMinus, Cond.instanceMethod yX5_takesMinus, Cond.selects RX5 yX5_takesMinus yX5_takesMinus, Cond.code yX5_takesMinus cX5_takesMinus 1 (some .boolean), Cond.methodLink RX5 53 yX5_takesComma, Cond.instanceMethod yX5_takesComma, Cond.selects RX5 yX5_takesComma yX5_takesComma, Cond.code yX5_takesComma cX5_takesComma 1 (some .boolean), Cond.fieldLink RX5 9 "ZoneRelay$Reader" "xs" "[I", Cond.methodLink RX5 66 yX5_number, Cond.instanceMethod yX5_number, Cond.selects RX5 yX5_number yX5_number, Cond.code yX5_number cX5_number 1 (some .int)]
def wsX5_findFlaw_r4 : List Cond := [Cond.methodLink RX5 56 yX5_takesSlash, Cond.instanceMethod yX5_takesSlash, Cond.selects RX5 yX5_takesSlash yX5_takesSlash, Cond.code yX5_takesSlash cX5_takesSlash 1 (some .boolean), Cond.methodLink RX5 46 yX5_endCorner, Cond.instanceMethod yX5_endCorner, Cond.selects RX5 yX5_endCorner yX5_endCorner, Cond.code yX5_endCorner cX5_endCorner 1 none, Cond.fieldLink RX5 15 "ZoneRelay$Reader" "ys" "[I", Cond.methodLink RX5 59 yX5_takesDigit, Cond.instanceMethod yX5_takesDigit, Cond.selects RX5 yX5_takesDigit yX5_takesDigit, Cond.code yX5_takesDigit cX5_takesDigit 3 (some .boolean), Cond.static yX10_outside, Cond.initialized RX10, Cond.code yX10_outside cX10_outside 3 (some .boolean)]
def wsX5_findFlaw : List Cond := .code yX5_findFlaw cX5_findFlaw 3 (some .int) :: ((wsX5_findFlaw_r1 ++ (wsX5_findFlaw_r2 ++ (wsX5_findFlaw_r3 ++ wsX5_findFlaw_r4))) ++ wsX50 ++ wsJ40)
def wsX9_init : List Cond := .code yX9_init cX9_init 2 none :: ([.methodLink RX9 3 objectInit, .instanceMethod objectInit, .code objectInit ⟨#[0xb1]⟩ 1 none, .fieldLink RX9 9 "ZoneRelay$Zone" "direction" "I", .fieldLink RX9 15 "ZoneRelay$Zone" "delay" "I"] ++ wsX90)
def wsX7_init : List Cond := .code yX7_init cX7_init 1 none :: ([.methodLink RX7 1 objectInit, .instanceMethod objectInit, .code objectInit ⟨#[0xb1]⟩ 1 none, .classLink RX7 7 RX3, .instantiable RX3 4, .initialized RX3, .fieldLink RX7 10 "ZoneRelay$Signal" "now" "LZoneRelay$Phasors;", .fieldLink RX7 16 "ZoneRelay$Signal" "from" "LZoneRelay$Phasors;", .fieldLink RX7 19 "ZoneRelay$Signal" "to" "LZoneRelay$Phasors;", .instanceMethod yX3_init, .code yX3_init cX3_init 1 none, .methodLink RX3 1 objectInit] ++ wsX30 ++ wsX70)
def wsX8_init : List Cond := .code yX8_init cX8_init 1 none :: ([.methodLink RX8 3 objectInit, .instanceMethod objectInit, .code objectInit ⟨#[0xb1]⟩ 1 none, .arrayClass .int, .fieldLink RX8 9 "ZoneRelay$Window" "samples" "[I"] ++ wsX80)
def wsX6_init_r1 : List Cond := [Cond.methodLink RX6 3 objectInit, Cond.instanceMethod objectInit, Cond.code objectInit ⟨#[0xb1]⟩ 1 none, Cond.classLink RX6 9 RX4, Cond.fieldLink RX6 11 "ZoneRelay$Relay" "polygons" "[LZoneRelay$Polygon;", Cond.arrayClass .int, Cond.fieldLink RX6 17 "ZoneRelay$Relay" "settings" "[I", Cond.classLink RX6 21 RX9, Cond.instantiable RX9 4, Cond.initialized RX9, Cond.fieldLink RX6 26 "ZoneRelay$Relay" "zones" "[LZoneRelay$Zone;", Cond.classLink RX6 30 RX2, Cond.instantiable RX2 2, Cond.initialized RX2, Cond.fieldLink RX6 33 "ZoneRelay$Relay" "network" "LZoneRelay$Network;", Cond.classLink RX6 37 RX7, Cond.instantiable RX7 5, Cond.initialized RX7, Cond.fieldLink RX6 40 "ZoneRelay$Relay" "signal" "LZoneRelay$Signal;", Cond.classLink RX6 44 RX8, Cond.instantiable RX8 3, Cond.initialized RX8, Cond.fieldLink RX6 47 "ZoneRelay$Relay" "voltage" "LZoneRelay$Window;", Cond.fieldLink RX6 51 "ZoneRelay$Relay" "current" "LZoneRelay$Window;"]
def wsX6_init_r2 : List Cond := [Cond.classLink RX6 54 RX3, Cond.instantiable RX3 4, Cond.initialized RX3, Cond.fieldLink RX6 57 "ZoneRelay$Relay" "estimate" "LZoneRelay$Phasors;", Cond.classLink RX6 61 RX0, Cond.instantiable RX0 4, Cond.initialized RX0, Cond.fieldLink RX6 64 "ZoneRelay$Relay" "impedance" "LZoneRelay$Impedance;", Cond.classLink RX6 68 RX1, Cond.instantiable RX1 3, Cond.initialized RX1, Cond.fieldLink RX6 71 "ZoneRelay$Relay" "log" "LZoneRelay$Log;", Cond.fieldLink RX6 75 "ZoneRelay$Relay" "trippedBy" "I", Cond.instantiable RX4 4, Cond.initialized RX4, Cond.methodLink RX6 23 yX9_init, Cond.instanceMethod yX9_init, Cond.code yX9_init cX9_init 2 none, Cond.methodLink RX9 3 objectInit, Cond.fieldLink RX9 9 "ZoneRelay$Zone" "direction" "I", Cond.fieldLink RX9 15 "ZoneRelay$Zone" "delay" "I", Cond.instanceMethod yX2_init, Cond.code yX2_init cX2_init 1 none, Cond.methodLink RX2 3 objectInit]
def wsX6_init_r3 : List Cond := [Cond.fieldLink RX2 9 "ZoneRelay$Network" "first" "[I", Cond.fieldLink RX2 15 "ZoneRelay$Network" "second" "[I", Cond.instanceMethod yX7_init, Cond.code yX7_init cX7_init 1 none, Cond.methodLink RX7 1 objectInit, Cond.classLink RX7 7 RX3, Cond.fieldLink RX7 10 "ZoneRelay$Signal" "now" "LZoneRelay$Phasors;", Cond.fieldLink RX7 16 "ZoneRelay$Signal" "from" "LZoneRelay$Phasors;", Cond.fieldLink RX7 19 "ZoneRelay$Signal" "to" "LZoneRelay$Phasors;", Cond.instanceMethod yX3_init, Cond.code yX3_init cX3_init 1 none, Cond.methodLink RX3 1 objectInit, Cond.instanceMethod yX8_init, Cond.code yX8_init cX8_init 1 none, Cond.methodLink RX8 3 objectInit, Cond.fieldLink RX8 9 "ZoneRelay$Window" "samples" "[I", Cond.instanceMethod yX0_init, Cond.code yX0_init cX0_init 1 none, Cond.methodLink RX0 1 objectInit, Cond.fieldLink RX0 7 "ZoneRelay$Impedance" "d" "J", Cond.instanceMethod yX1_init, Cond.code yX1_init cX1_init 1 none, Cond.methodLink RX1 3 objectInit, Cond.fieldLink RX1 9 "ZoneRelay$Log" "times" "[I"]
def wsX6_init_r4 : List Cond := [Cond.fieldLink RX1 15 "ZoneRelay$Log" "kinds" "[I", Cond.instanceMethod yX4_init, Cond.code yX4_init cX4_init 1 none, Cond.methodLink RX4 3 objectInit, Cond.fieldLink RX4 9 "ZoneRelay$Polygon" "xs" "[I", Cond.fieldLink RX4 15 "ZoneRelay$Polygon" "ys" "[I", Cond.fieldLink RX4 18 "ZoneRelay$Polygon" "defect" "I"]
def wsX6_init : List Cond := .code yX6_init cX6_init 2 none :: ((wsX6_init_r1 ++ (wsX6_init_r2 ++ (wsX6_init_r3 ++ wsX6_init_r4))) ++ wsX60 ++ wsX90 ++ wsX20 ++ wsX70 ++ wsX80 ++ wsX30 ++ wsX00 ++ wsX10 ++ wsX40)
def wsX9_becomeLike : List Cond := .code yX9_becomeLike cX9_becomeLike 2 none :: ([.fieldLink RX9 15 "ZoneRelay$Zone" "delay" "I", .fieldLink RX9 9 "ZoneRelay$Zone" "direction" "I", .fieldLink RX9 18 "ZoneRelay$Zone" "timer" "I", .fieldLink RX9 21 "ZoneRelay$Zone" "picked" "Z"] ++ wsX90)
def wsX7_becomeLike : List Cond := .code yX7_becomeLike cX7_becomeLike 2 none :: ([.fieldLink RX7 10 "ZoneRelay$Signal" "now" "LZoneRelay$Phasors;", .fieldLink RX7 16 "ZoneRelay$Signal" "from" "LZoneRelay$Phasors;", .fieldLink RX7 19 "ZoneRelay$Signal" "to" "LZoneRelay$Phasors;", .fieldLink RX7 26 "ZoneRelay$Signal" "length" "I", .fieldLink RX7 30 "ZoneRelay$Signal" "left" "I", .methodLink RX7 22 yX3_becomeLike, .instanceMethod yX3_becomeLike, .selects RX3 yX3_becomeLike yX3_becomeLike, .initialized RX3, .code yX3_becomeLike cX3_becomeLike 2 none, .fieldLink RX3 7 "ZoneRelay$Phasors" "va" "I", .fieldLink RX3 13 "ZoneRelay$Phasors" "vb" "I", .fieldLink RX3 16 "ZoneRelay$Phasors" "ia" "I", .fieldLink RX3 19 "ZoneRelay$Phasors" "ib" "I", .methodLink RX3 22 yX3_put, .instanceMethod yX3_put, .selects RX3 yX3_put yX3_put, .code yX3_put cX3_put 5 none] ++ wsX70 ++ wsX30)
def wsX8_becomeLike : List Cond := .code yX8_becomeLike cX8_becomeLike 2 none :: ([.fieldLink RX8 9 "ZoneRelay$Window" "samples" "[I", .methodLink RX8 15 arraycopyName, .native arraycopyName, .static arraycopyName, .initialized "java/lang/System", .fieldLink RX8 21 "ZoneRelay$Window" "cosineSum" "J", .fieldLink RX8 25 "ZoneRelay$Window" "sineSum" "J"] ++ wsX80)
def wsX6_becomeLike_r1 : List Cond := [Cond.fieldLink RX6 11 "ZoneRelay$Relay" "polygons" "[LZoneRelay$Polygon;", Cond.fieldLink RX6 26 "ZoneRelay$Relay" "zones" "[LZoneRelay$Zone;", Cond.fieldLink RX6 17 "ZoneRelay$Relay" "settings" "[I", Cond.methodLink RX6 87 arraycopyName, Cond.native arraycopyName, Cond.static arraycopyName, Cond.initialized "java/lang/System", Cond.fieldLink RX6 33 "ZoneRelay$Relay" "network" "LZoneRelay$Network;", Cond.fieldLink RX6 40 "ZoneRelay$Relay" "signal" "LZoneRelay$Signal;", Cond.fieldLink RX6 47 "ZoneRelay$Relay" "voltage" "LZoneRelay$Window;", Cond.fieldLink RX6 51 "ZoneRelay$Relay" "current" "LZoneRelay$Window;", Cond.fieldLink RX6 57 "ZoneRelay$Relay" "estimate" "LZoneRelay$Phasors;", Cond.fieldLink RX6 64 "ZoneRelay$Relay" "impedance" "LZoneRelay$Impedance;", Cond.fieldLink RX6 71 "ZoneRelay$Relay" "log" "LZoneRelay$Log;", Cond.fieldLink RX6 111 "ZoneRelay$Relay" "memoryA" "I", Cond.fieldLink RX6 114 "ZoneRelay$Relay" "memoryB" "I", Cond.fieldLink RX6 117 "ZoneRelay$Relay" "memoryAge" "I", Cond.fieldLink RX6 120 "ZoneRelay$Relay" "between" "I", Cond.fieldLink RX6 123 "ZoneRelay$Relay" "swing" "Z", Cond.fieldLink RX6 127 "ZoneRelay$Relay" "inLoad" "Z", Cond.fieldLink RX6 75 "ZoneRelay$Relay" "trippedBy" "I", Cond.fieldLink RX6 130 "ZoneRelay$Relay" "time" "I", Cond.methodLink RX6 80 yX4_becomeLike, Cond.instanceMethod yX4_becomeLike]
def wsX6_becomeLike_r2 : List Cond := [Cond.selects RX4 yX4_becomeLike yX4_becomeLike, Cond.initialized RX4, Cond.code yX4_becomeLike cX4_becomeLike 2 none, Cond.fieldLink RX4 9 "ZoneRelay$Polygon" "xs" "[I", Cond.methodLink RX4 22 arraycopyName, Cond.fieldLink RX4 15 "ZoneRelay$Polygon" "ys" "[I", Cond.fieldLink RX4 28 "ZoneRelay$Polygon" "size" "I", Cond.fieldLink RX4 18 "ZoneRelay$Polygon" "defect" "I", Cond.methodLink RX6 84 yX9_becomeLike, Cond.instanceMethod yX9_becomeLike, Cond.selects RX9 yX9_becomeLike yX9_becomeLike, Cond.initialized RX9, Cond.code yX9_becomeLike cX9_becomeLike 2 none, Cond.fieldLink RX9 15 "ZoneRelay$Zone" "delay" "I", Cond.fieldLink RX9 9 "ZoneRelay$Zone" "direction" "I", Cond.fieldLink RX9 18 "ZoneRelay$Zone" "timer" "I", Cond.fieldLink RX9 21 "ZoneRelay$Zone" "picked" "Z", Cond.methodLink RX6 93 yX2_becomeLike, Cond.instanceMethod yX2_becomeLike, Cond.selects RX2 yX2_becomeLike yX2_becomeLike, Cond.initialized RX2, Cond.code yX2_becomeLike cX2_becomeLike 2 none, Cond.fieldLink RX2 9 "ZoneRelay$Network" "first" "[I", Cond.methodLink RX2 18 arraycopyName]
def wsX6_becomeLike_r3 : List Cond := [Cond.fieldLink RX2 15 "ZoneRelay$Network" "second" "[I", Cond.methodLink RX6 96 yX7_becomeLike, Cond.instanceMethod yX7_becomeLike, Cond.selects RX7 yX7_becomeLike yX7_becomeLike, Cond.initialized RX7, Cond.code yX7_becomeLike cX7_becomeLike 2 none, Cond.fieldLink RX7 10 "ZoneRelay$Signal" "now" "LZoneRelay$Phasors;", Cond.fieldLink RX7 16 "ZoneRelay$Signal" "from" "LZoneRelay$Phasors;", Cond.fieldLink RX7 19 "ZoneRelay$Signal" "to" "LZoneRelay$Phasors;", Cond.fieldLink RX7 26 "ZoneRelay$Signal" "length" "I", Cond.fieldLink RX7 30 "ZoneRelay$Signal" "left" "I", Cond.methodLink RX7 22 yX3_becomeLike, Cond.instanceMethod yX3_becomeLike, Cond.selects RX3 yX3_becomeLike yX3_becomeLike, Cond.initialized RX3, Cond.code yX3_becomeLike cX3_becomeLike 2 none, Cond.fieldLink RX3 7 "ZoneRelay$Phasors" "va" "I", Cond.fieldLink RX3 13 "ZoneRelay$Phasors" "vb" "I", Cond.fieldLink RX3 16 "ZoneRelay$Phasors" "ia" "I", Cond.fieldLink RX3 19 "ZoneRelay$Phasors" "ib" "I", Cond.methodLink RX3 22 yX3_put, Cond.instanceMethod yX3_put, Cond.selects RX3 yX3_put yX3_put, Cond.code yX3_put cX3_put 5 none]
def wsX6_becomeLike_r4 : List Cond := [Cond.methodLink RX6 99 yX8_becomeLike, Cond.instanceMethod yX8_becomeLike, Cond.selects RX8 yX8_becomeLike yX8_becomeLike, Cond.initialized RX8, Cond.code yX8_becomeLike cX8_becomeLike 2 none, Cond.fieldLink RX8 9 "ZoneRelay$Window" "samples" "[I", Cond.methodLink RX8 15 arraycopyName, Cond.fieldLink RX8 21 "ZoneRelay$Window" "cosineSum" "J", Cond.fieldLink RX8 25 "ZoneRelay$Window" "sineSum" "J", Cond.methodLink RX6 102 yX3_becomeLike, Cond.methodLink RX6 105 yX0_becomeLike, Cond.instanceMethod yX0_becomeLike, Cond.selects RX0 yX0_becomeLike yX0_becomeLike, Cond.initialized RX0, Cond.code yX0_becomeLike cX0_becomeLike 2 none, Cond.fieldLink RX0 13 "ZoneRelay$Impedance" "exists" "Z", Cond.fieldLink RX0 17 "ZoneRelay$Impedance" "x" "J", Cond.fieldLink RX0 20 "ZoneRelay$Impedance" "y" "J", Cond.fieldLink RX0 7 "ZoneRelay$Impedance" "d" "J", Cond.methodLink RX6 108 yX1_becomeLike, Cond.instanceMethod yX1_becomeLike, Cond.selects RX1 yX1_becomeLike yX1_becomeLike, Cond.initialized RX1, Cond.code yX1_becomeLike cX1_becomeLike 2 none]
def wsX6_becomeLike_r5 : List Cond := [Cond.fieldLink RX1 9 "ZoneRelay$Log" "times" "[I", Cond.methodLink RX1 18 arraycopyName, Cond.fieldLink RX1 15 "ZoneRelay$Log" "kinds" "[I", Cond.fieldLink RX1 24 "ZoneRelay$Log" "total" "I"]
def wsX6_becomeLike : List Cond := .code yX6_becomeLike cX6_becomeLike 3 none :: ((wsX6_becomeLike_r1 ++ (wsX6_becomeLike_r2 ++ (wsX6_becomeLike_r3 ++ (wsX6_becomeLike_r4 ++ wsX6_becomeLike_r5)))) ++ wsX60 ++ wsX40 ++ wsX90 ++ wsX20 ++ wsX70 ++ wsX30 ++ wsX80 ++ wsX00 ++ wsX10)
def wsX6_rearm : List Cond := .code yX6_rearm cX6_rearm 2 none :: ([.fieldLink RX6 75 "ZoneRelay$Relay" "trippedBy" "I", .fieldLink RX6 26 "ZoneRelay$Relay" "zones" "[LZoneRelay$Zone;", .fieldLink RX6 133 "ZoneRelay$Zone" "timer" "I"] ++ wsX60 ++ wsX90)
def wsX7_onTheWay : List Cond := .code yX7_onTheWay cX7_onTheWay 3 (some .int) :: ([.fieldLink RX7 26 "ZoneRelay$Signal" "length" "I", .fieldLink RX7 30 "ZoneRelay$Signal" "left" "I"] ++ wsX70)
def wsX7_advance : List Cond := .code yX7_advance cX7_advance 1 none :: ([.fieldLink RX7 30 "ZoneRelay$Signal" "left" "I", .fieldLink RX7 10 "ZoneRelay$Signal" "now" "LZoneRelay$Phasors;", .fieldLink RX7 16 "ZoneRelay$Signal" "from" "LZoneRelay$Phasors;", .fieldLink RX7 36 "ZoneRelay$Phasors" "va" "I", .fieldLink RX7 19 "ZoneRelay$Signal" "to" "LZoneRelay$Phasors;", .fieldLink RX7 43 "ZoneRelay$Phasors" "vb" "I", .fieldLink RX7 46 "ZoneRelay$Phasors" "ia" "I", .fieldLink RX7 49 "ZoneRelay$Phasors" "ib" "I", .methodLink RX7 39 yX7_onTheWay, .instanceMethod yX7_onTheWay, .selects RX7 yX7_onTheWay yX7_onTheWay, .initialized RX7, .code yX7_onTheWay cX7_onTheWay 3 (some .int), .fieldLink RX7 26 "ZoneRelay$Signal" "length" "I", .methodLink RX7 52 yX3_put, .instanceMethod yX3_put, .selects RX3 yX3_put yX3_put, .initialized RX3, .code yX3_put cX3_put 5 none, .fieldLink RX3 7 "ZoneRelay$Phasors" "va" "I", .fieldLink RX3 13 "ZoneRelay$Phasors" "vb" "I", .fieldLink RX3 16 "ZoneRelay$Phasors" "ia" "I", .fieldLink RX3 19 "ZoneRelay$Phasors" "ib" "I"] ++ wsX70 ++ wsX30)
def wsX8_take : List Cond := .code yX8_take cX8_take 10 none :: ([.fieldLink RX8 9 "ZoneRelay$Window" "samples" "[I", .fieldLink RX8 21 "ZoneRelay$Window" "cosineSum" "J", .fieldLink RX8 25 "ZoneRelay$Window" "sineSum" "J", .methodLink RX8 28 yJ9_floorMod_7cf53, .static yJ9_floorMod_7cf53, .initialized RJ9, .code yJ9_floorMod_7cf53 cJ9_floorMod_7cf53 3 (some .int)] ++ wsX80)
def wsX8_estimateA : List Cond := .code yX8_estimateA cX8_estimateA 1 (some .int) :: ([.fieldLink RX8 21 "ZoneRelay$Window" "cosineSum" "J", .constantLong RX8 37 (49152)] ++ wsX80)
def wsX8_estimateB : List Cond := .code yX8_estimateB cX8_estimateB 1 (some .int) :: ([.fieldLink RX8 25 "ZoneRelay$Window" "sineSum" "J", .constantLong RX8 37 (49152)] ++ wsX80)
def wsX6_estimateFrom_r1 : List Cond := [Cond.fieldLink RX6 47 "ZoneRelay$Relay" "voltage" "LZoneRelay$Window;", Cond.fieldLink RX6 130 "ZoneRelay$Relay" "time" "I", Cond.fieldLink RX6 171 "ZoneRelay$Phasors" "va" "I", Cond.fieldLink RX6 174 "ZoneRelay$Phasors" "vb" "I", Cond.fieldLink RX6 51 "ZoneRelay$Relay" "current" "LZoneRelay$Window;", Cond.fieldLink RX6 181 "ZoneRelay$Phasors" "ia" "I", Cond.fieldLink RX6 184 "ZoneRelay$Phasors" "ib" "I", Cond.fieldLink RX6 57 "ZoneRelay$Relay" "estimate" "LZoneRelay$Phasors;", Cond.methodLink RX6 177 yX8_take, Cond.instanceMethod yX8_take, Cond.selects RX8 yX8_take yX8_take, Cond.initialized RX8, Cond.code yX8_take cX8_take 10 none, Cond.fieldLink RX8 9 "ZoneRelay$Window" "samples" "[I", Cond.fieldLink RX8 21 "ZoneRelay$Window" "cosineSum" "J", Cond.fieldLink RX8 25 "ZoneRelay$Window" "sineSum" "J", Cond.methodLink RX8 28 yJ9_floorMod_7cf53, Cond.static yJ9_floorMod_7cf53, Cond.initialized RJ9, Cond.code yJ9_floorMod_7cf53 cJ9_floorMod_7cf53 3 (some .int), Cond.methodLink RX6 187 yX8_estimateA, Cond.instanceMethod yX8_estimateA, Cond.selects RX8 yX8_estimateA yX8_estimateA, Cond.code yX8_estimateA cX8_estimateA 1 (some .int)]
def wsX6_estimateFrom_r2 : List Cond := [Cond.constantLong RX8 37 (49152), Cond.methodLink RX6 191 yX8_estimateB, Cond.instanceMethod yX8_estimateB, Cond.selects RX8 yX8_estimateB yX8_estimateB, Cond.code yX8_estimateB cX8_estimateB 1 (some .int), Cond.methodLink RX6 194 yX3_put, Cond.instanceMethod yX3_put, Cond.selects RX3 yX3_put yX3_put, Cond.initialized RX3, Cond.code yX3_put cX3_put 5 none, Cond.fieldLink RX3 7 "ZoneRelay$Phasors" "va" "I", Cond.fieldLink RX3 13 "ZoneRelay$Phasors" "vb" "I", Cond.fieldLink RX3 16 "ZoneRelay$Phasors" "ia" "I", Cond.fieldLink RX3 19 "ZoneRelay$Phasors" "ib" "I"]
def wsX6_estimateFrom : List Cond := .code yX6_estimateFrom cX6_estimateFrom 2 none :: ((wsX6_estimateFrom_r1 ++ wsX6_estimateFrom_r2) ++ wsX60 ++ wsX30 ++ wsX80)
def wsX6_remember : List Cond := .code yX6_remember cX6_remember 7 none :: ([.fieldLink RX6 57 "ZoneRelay$Relay" "estimate" "LZoneRelay$Phasors;", .fieldLink RX6 171 "ZoneRelay$Phasors" "va" "I", .fieldLink RX6 174 "ZoneRelay$Phasors" "vb" "I", .fieldLink RX6 17 "ZoneRelay$Relay" "settings" "[I", .fieldLink RX6 111 "ZoneRelay$Relay" "memoryA" "I", .fieldLink RX6 114 "ZoneRelay$Relay" "memoryB" "I", .fieldLink RX6 117 "ZoneRelay$Relay" "memoryAge" "I"] ++ wsX60 ++ wsX30)
def wsX6_endSwing : List Cond := .code yX6_endSwing cX6_endSwing 1 none :: ([.fieldLink RX6 123 "ZoneRelay$Relay" "swing" "Z", .fieldLink RX6 71 "ZoneRelay$Relay" "log" "LZoneRelay$Log;", .fieldLink RX6 130 "ZoneRelay$Relay" "time" "I", .methodLink RX6 205 yX1_note, .instanceMethod yX1_note, .selects RX1 yX1_note yX1_note, .initialized RX1, .code yX1_note cX1_note 4 none, .fieldLink RX1 24 "ZoneRelay$Log" "total" "I", .fieldLink RX1 9 "ZoneRelay$Log" "times" "[I", .fieldLink RX1 15 "ZoneRelay$Log" "kinds" "[I", .methodLink RX1 28 yJ9_floorMod_7cf53, .static yJ9_floorMod_7cf53, .initialized RJ9, .code yJ9_floorMod_7cf53 cJ9_floorMod_7cf53 3 (some .int)] ++ wsX60 ++ wsX10)
def wsX6_watchSwing_r1 : List Cond := [Cond.fieldLink RX6 64 "ZoneRelay$Relay" "impedance" "LZoneRelay$Impedance;", Cond.fieldLink RX6 11 "ZoneRelay$Relay" "polygons" "[LZoneRelay$Polygon;", Cond.fieldLink RX6 120 "ZoneRelay$Relay" "between" "I", Cond.fieldLink RX6 123 "ZoneRelay$Relay" "swing" "Z", Cond.fieldLink RX6 17 "ZoneRelay$Relay" "settings" "[I", Cond.fieldLink RX6 71 "ZoneRelay$Relay" "log" "LZoneRelay$Log;", Cond.fieldLink RX6 130 "ZoneRelay$Relay" "time" "I", Cond.methodLink RX6 198 yX0_isIn, Cond.instanceMethod yX0_isIn, Cond.selects RX0 yX0_isIn yX0_isIn, Cond.initialized RX0, Cond.code yX0_isIn cX0_isIn 2 (some .boolean), Cond.fieldLink RX0 13 "ZoneRelay$Impedance" "exists" "Z", Cond.fieldLink RX0 17 "ZoneRelay$Impedance" "x" "J", Cond.fieldLink RX0 20 "ZoneRelay$Impedance" "y" "J", Cond.fieldLink RX0 7 "ZoneRelay$Impedance" "d" "J", Cond.methodLink RX0 40 yX4_holds, Cond.instanceMethod yX4_holds, Cond.selects RX4 yX4_holds yX4_holds, Cond.initialized RX4, Cond.code yX4_holds cX4_holds 13 (some .boolean), Cond.fieldLink RX4 18 "ZoneRelay$Polygon" "defect" "I", Cond.fieldLink RX4 28 "ZoneRelay$Polygon" "size" "I", Cond.fieldLink RX4 9 "ZoneRelay$Polygon" "xs" "[I"]
def wsX6_watchSwing_r2 : List Cond := [Cond.fieldLink RX4 15 "ZoneRelay$Polygon" "ys" "[I", Cond.methodLink RX4 35 yX4_after, Cond.instanceMethod yX4_after, Cond.selects RX4 yX4_after yX4_after, Cond.code yX4_after cX4_after 2 (some .int), Cond.methodLink RX6 202 yX6_endSwing, Cond.instanceMethod yX6_endSwing, Cond.selects RX6 yX6_endSwing yX6_endSwing, Cond.initialized RX6, Cond.code yX6_endSwing cX6_endSwing 1 none, Cond.methodLink RX6 205 yX1_note, Cond.instanceMethod yX1_note, Cond.selects RX1 yX1_note yX1_note, Cond.initialized RX1, Cond.code yX1_note cX1_note 4 none, Cond.fieldLink RX1 24 "ZoneRelay$Log" "total" "I", Cond.fieldLink RX1 9 "ZoneRelay$Log" "times" "[I", Cond.fieldLink RX1 15 "ZoneRelay$Log" "kinds" "[I", Cond.methodLink RX1 28 yJ9_floorMod_7cf53, Cond.static yJ9_floorMod_7cf53, Cond.initialized RJ9, Cond.code yJ9_floorMod_7cf53 cJ9_floorMod_7cf53 3 (some .int)]
def wsX6_watchSwing : List Cond := .code yX6_watchSwing cX6_watchSwing 1 none :: ((wsX6_watchSwing_r1 ++ wsX6_watchSwing_r2) ++ wsX60 ++ wsX00 ++ wsX40 ++ wsX10)
def wsX6_torque : List Cond := .code yX6_torque cX6_torque 10 (some .long) :: ([.fieldLink RX6 117 "ZoneRelay$Relay" "memoryAge" "I", .fieldLink RX6 17 "ZoneRelay$Relay" "settings" "[I", .fieldLink RX6 111 "ZoneRelay$Relay" "memoryA" "I", .fieldLink RX6 57 "ZoneRelay$Relay" "estimate" "LZoneRelay$Phasors;", .fieldLink RX6 171 "ZoneRelay$Phasors" "va" "I", .fieldLink RX6 114 "ZoneRelay$Relay" "memoryB" "I", .fieldLink RX6 174 "ZoneRelay$Phasors" "vb" "I", .fieldLink RX6 181 "ZoneRelay$Phasors" "ia" "I", .fieldLink RX6 184 "ZoneRelay$Phasors" "ib" "I", .fieldLink RX6 33 "ZoneRelay$Relay" "network" "LZoneRelay$Network;", .fieldLink RX6 224 "ZoneRelay$Network" "first" "[I", .fieldLink RX6 227 "ZoneRelay$Network" "second" "[I"] ++ wsX60 ++ wsX30 ++ wsX20)
def wsX9_fits : List Cond := .code yX9_fits cX9_fits 3 (some .boolean) :: ([.fieldLink RX9 9 "ZoneRelay$Zone" "direction" "I"] ++ wsX90)
def wsX10_isInSet : List Cond := .code yX10_isInSet cX10_isInSet 2 (some .boolean) :: ([])
def wsX6_isBlocked : List Cond := .code yX6_isBlocked cX6_isBlocked 2 (some .boolean) :: ([.fieldLink RX6 123 "ZoneRelay$Relay" "swing" "Z", .fieldLink RX6 17 "ZoneRelay$Relay" "settings" "[I", .fieldLink RX6 127 "ZoneRelay$Relay" "inLoad" "Z", .static yX10_isInSet, .initialized RX10, .code yX10_isInSet cX10_isInSet 2 (some .boolean)] ++ wsX60)
def wsX6_pickUpZones_r1 : List Cond := [Cond.fieldLink RX6 26 "ZoneRelay$Relay" "zones" "[LZoneRelay$Zone;", Cond.fieldLink RX6 64 "ZoneRelay$Relay" "impedance" "LZoneRelay$Impedance;", Cond.fieldLink RX6 11 "ZoneRelay$Relay" "polygons" "[LZoneRelay$Polygon;", Cond.fieldLink RX6 221 "ZoneRelay$Zone" "picked" "Z", Cond.fieldLink RX6 71 "ZoneRelay$Relay" "log" "LZoneRelay$Log;", Cond.fieldLink RX6 130 "ZoneRelay$Relay" "time" "I", Cond.methodLink RX6 209 yX6_torque, Cond.instanceMethod yX6_torque, Cond.selects RX6 yX6_torque yX6_torque, Cond.initialized RX6, Cond.code yX6_torque cX6_torque 10 (some .long), Cond.fieldLink RX6 117 "ZoneRelay$Relay" "memoryAge" "I", Cond.fieldLink RX6 17 "ZoneRelay$Relay" "settings" "[I", Cond.fieldLink RX6 111 "ZoneRelay$Relay" "memoryA" "I", Cond.fieldLink RX6 57 "ZoneRelay$Relay" "estimate" "LZoneRelay$Phasors;", Cond.fieldLink RX6 171 "ZoneRelay$Phasors" "va" "I", Cond.fieldLink RX6 114 "ZoneRelay$Relay" "memoryB" "I", Cond.fieldLink RX6 174 "ZoneRelay$Phasors" "vb" "I", Cond.fieldLink RX6 181 "ZoneRelay$Phasors" "ia" "I", Cond.fieldLink RX6 184 "ZoneRelay$Phasors" "ib" "I", Cond.fieldLink RX6 33 "ZoneRelay$Relay" "network" "LZoneRelay$Network;", Cond.fieldLink RX6 224 "ZoneRelay$Network" "first" "[I", Cond.fieldLink RX6 227 "ZoneRelay$Network" "second" "[I", Cond.methodLink RX6 213 yX9_fits]
def wsX6_pickUpZones_r2 : List Cond := [Cond.instanceMethod yX9_fits, Cond.selects RX9 yX9_fits yX9_fits, Cond.initialized RX9, Cond.code yX9_fits cX9_fits 3 (some .boolean), Cond.fieldLink RX9 9 "ZoneRelay$Zone" "direction" "I", Cond.methodLink RX6 217 yX6_isBlocked, Cond.instanceMethod yX6_isBlocked, Cond.selects RX6 yX6_isBlocked yX6_isBlocked, Cond.code yX6_isBlocked cX6_isBlocked 2 (some .boolean), Cond.fieldLink RX6 123 "ZoneRelay$Relay" "swing" "Z", Cond.fieldLink RX6 127 "ZoneRelay$Relay" "inLoad" "Z", Cond.static yX10_isInSet, Cond.initialized RX10, Cond.code yX10_isInSet cX10_isInSet 2 (some .boolean), Cond.methodLink RX6 198 yX0_isIn, Cond.instanceMethod yX0_isIn, Cond.selects RX0 yX0_isIn yX0_isIn, Cond.initialized RX0, Cond.code yX0_isIn cX0_isIn 2 (some .boolean), Cond.fieldLink RX0 13 "ZoneRelay$Impedance" "exists" "Z", Cond.fieldLink RX0 17 "ZoneRelay$Impedance" "x" "J", Cond.fieldLink RX0 20 "ZoneRelay$Impedance" "y" "J", Cond.fieldLink RX0 7 "ZoneRelay$Impedance" "d" "J", Cond.methodLink RX0 40 yX4_holds]
def wsX6_pickUpZones_r3 : List Cond := [Cond.instanceMethod yX4_holds, Cond.selects RX4 yX4_holds yX4_holds, Cond.initialized RX4, Cond.code yX4_holds cX4_holds 13 (some .boolean), Cond.fieldLink RX4 18 "ZoneRelay$Polygon" "defect" "I", Cond.fieldLink RX4 28 "ZoneRelay$Polygon" "size" "I", Cond.fieldLink RX4 9 "ZoneRelay$Polygon" "xs" "[I", Cond.fieldLink RX4 15 "ZoneRelay$Polygon" "ys" "[I", Cond.methodLink RX4 35 yX4_after, Cond.instanceMethod yX4_after, Cond.selects RX4 yX4_after yX4_after, Cond.code yX4_after cX4_after 2 (some .int), Cond.methodLink RX6 205 yX1_note, Cond.instanceMethod yX1_note, Cond.selects RX1 yX1_note yX1_note, Cond.initialized RX1, Cond.code yX1_note cX1_note 4 none, Cond.fieldLink RX1 24 "ZoneRelay$Log" "total" "I", Cond.fieldLink RX1 9 "ZoneRelay$Log" "times" "[I", Cond.fieldLink RX1 15 "ZoneRelay$Log" "kinds" "[I", Cond.methodLink RX1 28 yJ9_floorMod_7cf53, Cond.static yJ9_floorMod_7cf53, Cond.initialized RJ9, Cond.code yJ9_floorMod_7cf53 cJ9_floorMod_7cf53 3 (some .int)]
def wsX6_pickUpZones : List Cond := .code yX6_pickUpZones cX6_pickUpZones 5 none :: ((wsX6_pickUpZones_r1 ++ (wsX6_pickUpZones_r2 ++ wsX6_pickUpZones_r3)) ++ wsX60 ++ wsX90 ++ wsX30 ++ wsX20 ++ wsX00 ++ wsX40 ++ wsX10)
def wsX6_runTimers : List Cond := .code yX6_runTimers cX6_runTimers 2 none :: ([.fieldLink RX6 26 "ZoneRelay$Relay" "zones" "[LZoneRelay$Zone;", .fieldLink RX6 221 "ZoneRelay$Zone" "picked" "Z", .fieldLink RX6 133 "ZoneRelay$Zone" "timer" "I"] ++ wsX60 ++ wsX90)
def wsX6_trip : List Cond := .code yX6_trip cX6_trip 2 none :: ([.fieldLink RX6 75 "ZoneRelay$Relay" "trippedBy" "I", .fieldLink RX6 26 "ZoneRelay$Relay" "zones" "[LZoneRelay$Zone;", .fieldLink RX6 133 "ZoneRelay$Zone" "timer" "I", .fieldLink RX6 233 "ZoneRelay$Zone" "delay" "I", .fieldLink RX6 71 "ZoneRelay$Relay" "log" "LZoneRelay$Log;", .fieldLink RX6 130 "ZoneRelay$Relay" "time" "I", .methodLink RX6 205 yX1_note, .instanceMethod yX1_note, .selects RX1 yX1_note yX1_note, .initialized RX1, .code yX1_note cX1_note 4 none, .fieldLink RX1 24 "ZoneRelay$Log" "total" "I", .fieldLink RX1 9 "ZoneRelay$Log" "times" "[I", .fieldLink RX1 15 "ZoneRelay$Log" "kinds" "[I", .methodLink RX1 28 yJ9_floorMod_7cf53, .static yJ9_floorMod_7cf53, .initialized RJ9, .code yJ9_floorMod_7cf53 cJ9_floorMod_7cf53 3 (some .int)] ++ wsX60 ++ wsX90 ++ wsX10)
def wsX6_takeSample_r1 : List Cond := [Cond.fieldLink RX6 40 "ZoneRelay$Relay" "signal" "LZoneRelay$Signal;", Cond.fieldLink RX6 142 "ZoneRelay$Signal" "now" "LZoneRelay$Phasors;", Cond.fieldLink RX6 64 "ZoneRelay$Relay" "impedance" "LZoneRelay$Impedance;", Cond.fieldLink RX6 57 "ZoneRelay$Relay" "estimate" "LZoneRelay$Phasors;", Cond.fieldLink RX6 17 "ZoneRelay$Relay" "settings" "[I", Cond.fieldLink RX6 127 "ZoneRelay$Relay" "inLoad" "Z", Cond.fieldLink RX6 130 "ZoneRelay$Relay" "time" "I", Cond.methodLink RX6 139 yX7_advance, Cond.instanceMethod yX7_advance, Cond.selects RX7 yX7_advance yX7_advance, Cond.initialized RX7, Cond.code yX7_advance cX7_advance 1 none, Cond.fieldLink RX7 30 "ZoneRelay$Signal" "left" "I", Cond.fieldLink RX7 10 "ZoneRelay$Signal" "now" "LZoneRelay$Phasors;", Cond.fieldLink RX7 16 "ZoneRelay$Signal" "from" "LZoneRelay$Phasors;", Cond.fieldLink RX7 36 "ZoneRelay$Phasors" "va" "I", Cond.fieldLink RX7 19 "ZoneRelay$Signal" "to" "LZoneRelay$Phasors;", Cond.fieldLink RX7 43 "ZoneRelay$Phasors" "vb" "I", Cond.fieldLink RX7 46 "ZoneRelay$Phasors" "ia" "I", Cond.fieldLink RX7 49 "ZoneRelay$Phasors" "ib" "I", Cond.methodLink RX7 39 yX7_onTheWay, Cond.instanceMethod yX7_onTheWay, Cond.selects RX7 yX7_onTheWay yX7_onTheWay, Cond.code yX7_onTheWay cX7_onTheWay 3 (some .int)]
def wsX6_takeSample_r2 : List Cond := [Cond.fieldLink RX7 26 "ZoneRelay$Signal" "length" "I", Cond.methodLink RX7 52 yX3_put, Cond.instanceMethod yX3_put, Cond.selects RX3 yX3_put yX3_put, Cond.initialized RX3, Cond.code yX3_put cX3_put 5 none, Cond.fieldLink RX3 7 "ZoneRelay$Phasors" "va" "I", Cond.fieldLink RX3 13 "ZoneRelay$Phasors" "vb" "I", Cond.fieldLink RX3 16 "ZoneRelay$Phasors" "ia" "I", Cond.fieldLink RX3 19 "ZoneRelay$Phasors" "ib" "I", Cond.methodLink RX6 145 yX6_estimateFrom, Cond.instanceMethod yX6_estimateFrom, Cond.selects RX6 yX6_estimateFrom yX6_estimateFrom, Cond.initialized RX6, Cond.code yX6_estimateFrom cX6_estimateFrom 2 none, Cond.fieldLink RX6 47 "ZoneRelay$Relay" "voltage" "LZoneRelay$Window;", Cond.fieldLink RX6 171 "ZoneRelay$Phasors" "va" "I", Cond.fieldLink RX6 174 "ZoneRelay$Phasors" "vb" "I", Cond.fieldLink RX6 51 "ZoneRelay$Relay" "current" "LZoneRelay$Window;", Cond.fieldLink RX6 181 "ZoneRelay$Phasors" "ia" "I", Cond.fieldLink RX6 184 "ZoneRelay$Phasors" "ib" "I", Cond.methodLink RX6 177 yX8_take, Cond.instanceMethod yX8_take, Cond.selects RX8 yX8_take yX8_take]
def wsX6_takeSample_r3 : List Cond := [Cond.initialized RX8, Cond.code yX8_take cX8_take 10 none, Cond.fieldLink RX8 9 "ZoneRelay$Window" "samples" "[I", Cond.fieldLink RX8 21 "ZoneRelay$Window" "cosineSum" "J", Cond.fieldLink RX8 25 "ZoneRelay$Window" "sineSum" "J", Cond.methodLink RX8 28 yJ9_floorMod_7cf53, Cond.static yJ9_floorMod_7cf53, Cond.initialized RJ9, Cond.code yJ9_floorMod_7cf53 cJ9_floorMod_7cf53 3 (some .int), Cond.methodLink RX6 187 yX8_estimateA, Cond.instanceMethod yX8_estimateA, Cond.selects RX8 yX8_estimateA yX8_estimateA, Cond.code yX8_estimateA cX8_estimateA 1 (some .int), Cond.constantLong RX8 37 (49152), Cond.methodLink RX6 191 yX8_estimateB, Cond.instanceMethod yX8_estimateB, Cond.selects RX8 yX8_estimateB yX8_estimateB, Cond.code yX8_estimateB cX8_estimateB 1 (some .int), Cond.methodLink RX6 194 yX3_put, Cond.methodLink RX6 148 yX6_remember, Cond.instanceMethod yX6_remember, Cond.selects RX6 yX6_remember yX6_remember, Cond.code yX6_remember cX6_remember 7 none, Cond.fieldLink RX6 111 "ZoneRelay$Relay" "memoryA" "I"]
def wsX6_takeSample_r4 : List Cond := [Cond.fieldLink RX6 114 "ZoneRelay$Relay" "memoryB" "I", Cond.fieldLink RX6 117 "ZoneRelay$Relay" "memoryAge" "I", Cond.methodLink RX6 151 yX0_become, Cond.instanceMethod yX0_become, Cond.selects RX0 yX0_become yX0_become, Cond.initialized RX0, Cond.code yX0_become cX0_become 11 none, Cond.fieldLink RX0 23 "ZoneRelay$Phasors" "va" "I", Cond.fieldLink RX0 29 "ZoneRelay$Phasors" "vb" "I", Cond.fieldLink RX0 32 "ZoneRelay$Phasors" "ia" "I", Cond.fieldLink RX0 35 "ZoneRelay$Phasors" "ib" "I", Cond.fieldLink RX0 7 "ZoneRelay$Impedance" "d" "J", Cond.constantLong RX0 38 (1000), Cond.fieldLink RX0 17 "ZoneRelay$Impedance" "x" "J", Cond.fieldLink RX0 20 "ZoneRelay$Impedance" "y" "J", Cond.fieldLink RX0 13 "ZoneRelay$Impedance" "exists" "Z", Cond.methodLink RX6 155 yX0_isInLoad, Cond.instanceMethod yX0_isInLoad, Cond.selects RX0 yX0_isInLoad yX0_isInLoad, Cond.code yX0_isInLoad cX0_isInLoad 3 (some .boolean), Cond.methodLink RX0 46 Lib.MathLoose.abs_long.x, Cond.static Lib.MathLoose.abs_long.x, Cond.initialized "java/lang/Math", Cond.code Lib.MathLoose.abs_long.x Lib.MathLoose.abs_long.code 2 (some .long)]
def wsX6_takeSample_r5 : List Cond := [Cond.methodLink RX6 159 yX6_watchSwing, Cond.instanceMethod yX6_watchSwing, Cond.selects RX6 yX6_watchSwing yX6_watchSwing, Cond.code yX6_watchSwing cX6_watchSwing 1 none, Cond.fieldLink RX6 11 "ZoneRelay$Relay" "polygons" "[LZoneRelay$Polygon;", Cond.fieldLink RX6 120 "ZoneRelay$Relay" "between" "I", Cond.fieldLink RX6 123 "ZoneRelay$Relay" "swing" "Z", Cond.fieldLink RX6 71 "ZoneRelay$Relay" "log" "LZoneRelay$Log;", Cond.methodLink RX6 198 yX0_isIn, Cond.instanceMethod yX0_isIn, Cond.selects RX0 yX0_isIn yX0_isIn, Cond.code yX0_isIn cX0_isIn 2 (some .boolean), Cond.methodLink RX0 40 yX4_holds, Cond.instanceMethod yX4_holds, Cond.selects RX4 yX4_holds yX4_holds, Cond.initialized RX4, Cond.code yX4_holds cX4_holds 13 (some .boolean), Cond.fieldLink RX4 18 "ZoneRelay$Polygon" "defect" "I", Cond.fieldLink RX4 28 "ZoneRelay$Polygon" "size" "I", Cond.fieldLink RX4 9 "ZoneRelay$Polygon" "xs" "[I", Cond.fieldLink RX4 15 "ZoneRelay$Polygon" "ys" "[I", Cond.methodLink RX4 35 yX4_after, Cond.instanceMethod yX4_after, Cond.selects RX4 yX4_after yX4_after]
def wsX6_takeSample_r6 : List Cond := [Cond.code yX4_after cX4_after 2 (some .int), Cond.methodLink RX6 202 yX6_endSwing, Cond.instanceMethod yX6_endSwing, Cond.selects RX6 yX6_endSwing yX6_endSwing, Cond.code yX6_endSwing cX6_endSwing 1 none, Cond.methodLink RX6 205 yX1_note, Cond.instanceMethod yX1_note, Cond.selects RX1 yX1_note yX1_note, Cond.initialized RX1, Cond.code yX1_note cX1_note 4 none, Cond.fieldLink RX1 24 "ZoneRelay$Log" "total" "I", Cond.fieldLink RX1 9 "ZoneRelay$Log" "times" "[I", Cond.fieldLink RX1 15 "ZoneRelay$Log" "kinds" "[I", Cond.methodLink RX1 28 yJ9_floorMod_7cf53, Cond.methodLink RX6 162 yX6_pickUpZones, Cond.instanceMethod yX6_pickUpZones, Cond.selects RX6 yX6_pickUpZones yX6_pickUpZones, Cond.code yX6_pickUpZones cX6_pickUpZones 5 none, Cond.fieldLink RX6 26 "ZoneRelay$Relay" "zones" "[LZoneRelay$Zone;", Cond.fieldLink RX6 221 "ZoneRelay$Zone" "picked" "Z", Cond.methodLink RX6 209 yX6_torque, Cond.instanceMethod yX6_torque, Cond.selects RX6 yX6_torque yX6_torque, Cond.code yX6_torque cX6_torque 10 (some .long)]
def wsX6_takeSample_r7 : List Cond := [Cond.fieldLink RX6 33 "ZoneRelay$Relay" "network" "LZoneRelay$Network;", Cond.fieldLink RX6 224 "ZoneRelay$Network" "first" "[I", Cond.fieldLink RX6 227 "ZoneRelay$Network" "second" "[I", Cond.methodLink RX6 213 yX9_fits, Cond.instanceMethod yX9_fits, Cond.selects RX9 yX9_fits yX9_fits, Cond.initialized RX9, Cond.code yX9_fits cX9_fits 3 (some .boolean), Cond.fieldLink RX9 9 "ZoneRelay$Zone" "direction" "I", Cond.methodLink RX6 217 yX6_isBlocked, Cond.instanceMethod yX6_isBlocked, Cond.selects RX6 yX6_isBlocked yX6_isBlocked, Cond.code yX6_isBlocked cX6_isBlocked 2 (some .boolean), Cond.static yX10_isInSet, Cond.initialized RX10, Cond.code yX10_isInSet cX10_isInSet 2 (some .boolean), Cond.methodLink RX6 165 yX6_runTimers, Cond.instanceMethod yX6_runTimers, Cond.selects RX6 yX6_runTimers yX6_runTimers, Cond.code yX6_runTimers cX6_runTimers 2 none, Cond.fieldLink RX6 133 "ZoneRelay$Zone" "timer" "I", Cond.methodLink RX6 168 yX6_trip, Cond.instanceMethod yX6_trip, Cond.selects RX6 yX6_trip yX6_trip]
def wsX6_takeSample_r8 : List Cond := [Cond.code yX6_trip cX6_trip 2 none, Cond.fieldLink RX6 75 "ZoneRelay$Relay" "trippedBy" "I", Cond.fieldLink RX6 233 "ZoneRelay$Zone" "delay" "I"]
def wsX6_takeSample : List Cond := .code yX6_takeSample cX6_takeSample 1 none :: ((wsX6_takeSample_r1 ++ (wsX6_takeSample_r2 ++ (wsX6_takeSample_r3 ++ (wsX6_takeSample_r4 ++ (wsX6_takeSample_r5 ++ (wsX6_takeSample_r6 ++ (wsX6_takeSample_r7 ++ wsX6_takeSample_r8))))))) ++ wsX60 ++ wsX70 ++ wsX30 ++ wsX80 ++ wsX00 ++ wsX40 ++ wsX10 ++ wsX90 ++ wsX20)
def wsX6_samplesUntilTrip_r1 : List Cond := [Cond.fieldLink RX6 75 "ZoneRelay$Relay" "trippedBy" "I", Cond.methodLink RX6 136 yX6_takeSample, Cond.instanceMethod yX6_takeSample, Cond.selects RX6 yX6_takeSample yX6_takeSample, Cond.initialized RX6, Cond.code yX6_takeSample cX6_takeSample 1 none, Cond.fieldLink RX6 40 "ZoneRelay$Relay" "signal" "LZoneRelay$Signal;", Cond.fieldLink RX6 142 "ZoneRelay$Signal" "now" "LZoneRelay$Phasors;", Cond.fieldLink RX6 64 "ZoneRelay$Relay" "impedance" "LZoneRelay$Impedance;", Cond.fieldLink RX6 57 "ZoneRelay$Relay" "estimate" "LZoneRelay$Phasors;", Cond.fieldLink RX6 17 "ZoneRelay$Relay" "settings" "[I", Cond.fieldLink RX6 127 "ZoneRelay$Relay" "inLoad" "Z", Cond.fieldLink RX6 130 "ZoneRelay$Relay" "time" "I", Cond.methodLink RX6 139 yX7_advance, Cond.instanceMethod yX7_advance, Cond.selects RX7 yX7_advance yX7_advance, Cond.initialized RX7, Cond.code yX7_advance cX7_advance 1 none, Cond.fieldLink RX7 30 "ZoneRelay$Signal" "left" "I", Cond.fieldLink RX7 10 "ZoneRelay$Signal" "now" "LZoneRelay$Phasors;", Cond.fieldLink RX7 16 "ZoneRelay$Signal" "from" "LZoneRelay$Phasors;", Cond.fieldLink RX7 36 "ZoneRelay$Phasors" "va" "I", Cond.fieldLink RX7 19 "ZoneRelay$Signal" "to" "LZoneRelay$Phasors;", Cond.fieldLink RX7 43 "ZoneRelay$Phasors" "vb" "I"]
def wsX6_samplesUntilTrip_r2 : List Cond := [Cond.fieldLink RX7 46 "ZoneRelay$Phasors" "ia" "I", Cond.fieldLink RX7 49 "ZoneRelay$Phasors" "ib" "I", Cond.methodLink RX7 39 yX7_onTheWay, Cond.instanceMethod yX7_onTheWay, Cond.selects RX7 yX7_onTheWay yX7_onTheWay, Cond.code yX7_onTheWay cX7_onTheWay 3 (some .int), Cond.fieldLink RX7 26 "ZoneRelay$Signal" "length" "I", Cond.methodLink RX7 52 yX3_put, Cond.instanceMethod yX3_put, Cond.selects RX3 yX3_put yX3_put, Cond.initialized RX3, Cond.code yX3_put cX3_put 5 none, Cond.fieldLink RX3 7 "ZoneRelay$Phasors" "va" "I", Cond.fieldLink RX3 13 "ZoneRelay$Phasors" "vb" "I", Cond.fieldLink RX3 16 "ZoneRelay$Phasors" "ia" "I", Cond.fieldLink RX3 19 "ZoneRelay$Phasors" "ib" "I", Cond.methodLink RX6 145 yX6_estimateFrom, Cond.instanceMethod yX6_estimateFrom, Cond.selects RX6 yX6_estimateFrom yX6_estimateFrom, Cond.code yX6_estimateFrom cX6_estimateFrom 2 none, Cond.fieldLink RX6 47 "ZoneRelay$Relay" "voltage" "LZoneRelay$Window;", Cond.fieldLink RX6 171 "ZoneRelay$Phasors" "va" "I", Cond.fieldLink RX6 174 "ZoneRelay$Phasors" "vb" "I", Cond.fieldLink RX6 51 "ZoneRelay$Relay" "current" "LZoneRelay$Window;"]
def wsX6_samplesUntilTrip_r3 : List Cond := [Cond.fieldLink RX6 181 "ZoneRelay$Phasors" "ia" "I", Cond.fieldLink RX6 184 "ZoneRelay$Phasors" "ib" "I", Cond.methodLink RX6 177 yX8_take, Cond.instanceMethod yX8_take, Cond.selects RX8 yX8_take yX8_take, Cond.initialized RX8, Cond.code yX8_take cX8_take 10 none, Cond.fieldLink RX8 9 "ZoneRelay$Window" "samples" "[I", Cond.fieldLink RX8 21 "ZoneRelay$Window" "cosineSum" "J", Cond.fieldLink RX8 25 "ZoneRelay$Window" "sineSum" "J", Cond.methodLink RX8 28 yJ9_floorMod_7cf53, Cond.static yJ9_floorMod_7cf53, Cond.initialized RJ9, Cond.code yJ9_floorMod_7cf53 cJ9_floorMod_7cf53 3 (some .int), Cond.methodLink RX6 187 yX8_estimateA, Cond.instanceMethod yX8_estimateA, Cond.selects RX8 yX8_estimateA yX8_estimateA, Cond.code yX8_estimateA cX8_estimateA 1 (some .int), Cond.constantLong RX8 37 (49152), Cond.methodLink RX6 191 yX8_estimateB, Cond.instanceMethod yX8_estimateB, Cond.selects RX8 yX8_estimateB yX8_estimateB, Cond.code yX8_estimateB cX8_estimateB 1 (some .int), Cond.methodLink RX6 194 yX3_put]
def wsX6_samplesUntilTrip_r4 : List Cond := [Cond.methodLink RX6 148 yX6_remember, Cond.instanceMethod yX6_remember, Cond.selects RX6 yX6_remember yX6_remember, Cond.code yX6_remember cX6_remember 7 none, Cond.fieldLink RX6 111 "ZoneRelay$Relay" "memoryA" "I", Cond.fieldLink RX6 114 "ZoneRelay$Relay" "memoryB" "I", Cond.fieldLink RX6 117 "ZoneRelay$Relay" "memoryAge" "I", Cond.methodLink RX6 151 yX0_become, Cond.instanceMethod yX0_become, Cond.selects RX0 yX0_become yX0_become, Cond.initialized RX0, Cond.code yX0_become cX0_become 11 none, Cond.fieldLink RX0 23 "ZoneRelay$Phasors" "va" "I", Cond.fieldLink RX0 29 "ZoneRelay$Phasors" "vb" "I", Cond.fieldLink RX0 32 "ZoneRelay$Phasors" "ia" "I", Cond.fieldLink RX0 35 "ZoneRelay$Phasors" "ib" "I", Cond.fieldLink RX0 7 "ZoneRelay$Impedance" "d" "J", Cond.constantLong RX0 38 (1000), Cond.fieldLink RX0 17 "ZoneRelay$Impedance" "x" "J", Cond.fieldLink RX0 20 "ZoneRelay$Impedance" "y" "J", Cond.fieldLink RX0 13 "ZoneRelay$Impedance" "exists" "Z", Cond.methodLink RX6 155 yX0_isInLoad, Cond.instanceMethod yX0_isInLoad, Cond.selects RX0 yX0_isInLoad yX0_isInLoad]
def wsX6_samplesUntilTrip_r5 : List Cond := [Cond.code yX0_isInLoad cX0_isInLoad 3 (some .boolean), Cond.methodLink RX0 46 Lib.MathLoose.abs_long.x, Cond.static Lib.MathLoose.abs_long.x, Cond.initialized "java/lang/Math", Cond.code Lib.MathLoose.abs_long.x Lib.MathLoose.abs_long.code 2 (some .long), Cond.methodLink RX6 159 yX6_watchSwing, Cond.instanceMethod yX6_watchSwing, Cond.selects RX6 yX6_watchSwing yX6_watchSwing, Cond.code yX6_watchSwing cX6_watchSwing 1 none, Cond.fieldLink RX6 11 "ZoneRelay$Relay" "polygons" "[LZoneRelay$Polygon;", Cond.fieldLink RX6 120 "ZoneRelay$Relay" "between" "I", Cond.fieldLink RX6 123 "ZoneRelay$Relay" "swing" "Z", Cond.fieldLink RX6 71 "ZoneRelay$Relay" "log" "LZoneRelay$Log;", Cond.methodLink RX6 198 yX0_isIn, Cond.instanceMethod yX0_isIn, Cond.selects RX0 yX0_isIn yX0_isIn, Cond.code yX0_isIn cX0_isIn 2 (some .boolean), Cond.methodLink RX0 40 yX4_holds, Cond.instanceMethod yX4_holds, Cond.selects RX4 yX4_holds yX4_holds, Cond.initialized RX4, Cond.code yX4_holds cX4_holds 13 (some .boolean), Cond.fieldLink RX4 18 "ZoneRelay$Polygon" "defect" "I", Cond.fieldLink RX4 28 "ZoneRelay$Polygon" "size" "I"]
def wsX6_samplesUntilTrip_r6 : List Cond := [Cond.fieldLink RX4 9 "ZoneRelay$Polygon" "xs" "[I", Cond.fieldLink RX4 15 "ZoneRelay$Polygon" "ys" "[I", Cond.methodLink RX4 35 yX4_after, Cond.instanceMethod yX4_after, Cond.selects RX4 yX4_after yX4_after, Cond.code yX4_after cX4_after 2 (some .int), Cond.methodLink RX6 202 yX6_endSwing, Cond.instanceMethod yX6_endSwing, Cond.selects RX6 yX6_endSwing yX6_endSwing, Cond.code yX6_endSwing cX6_endSwing 1 none, Cond.methodLink RX6 205 yX1_note, Cond.instanceMethod yX1_note, Cond.selects RX1 yX1_note yX1_note, Cond.initialized RX1, Cond.code yX1_note cX1_note 4 none, Cond.fieldLink RX1 24 "ZoneRelay$Log" "total" "I", Cond.fieldLink RX1 9 "ZoneRelay$Log" "times" "[I", Cond.fieldLink RX1 15 "ZoneRelay$Log" "kinds" "[I", Cond.methodLink RX1 28 yJ9_floorMod_7cf53, Cond.methodLink RX6 162 yX6_pickUpZones, Cond.instanceMethod yX6_pickUpZones, Cond.selects RX6 yX6_pickUpZones yX6_pickUpZones, Cond.code yX6_pickUpZones cX6_pickUpZones 5 none, Cond.fieldLink RX6 26 "ZoneRelay$Relay" "zones" "[LZoneRelay$Zone;"]
def wsX6_samplesUntilTrip_r7 : List Cond := [Cond.fieldLink RX6 221 "ZoneRelay$Zone" "picked" "Z", Cond.methodLink RX6 209 yX6_torque, Cond.instanceMethod yX6_torque, Cond.selects RX6 yX6_torque yX6_torque, Cond.code yX6_torque cX6_torque 10 (some .long), Cond.fieldLink RX6 33 "ZoneRelay$Relay" "network" "LZoneRelay$Network;", Cond.fieldLink RX6 224 "ZoneRelay$Network" "first" "[I", Cond.fieldLink RX6 227 "ZoneRelay$Network" "second" "[I", Cond.methodLink RX6 213 yX9_fits, Cond.instanceMethod yX9_fits, Cond.selects RX9 yX9_fits yX9_fits, Cond.initialized RX9, Cond.code yX9_fits cX9_fits 3 (some .boolean), Cond.fieldLink RX9 9 "ZoneRelay$Zone" "direction" "I", Cond.methodLink RX6 217 yX6_isBlocked, Cond.instanceMethod yX6_isBlocked, Cond.selects RX6 yX6_isBlocked yX6_isBlocked, Cond.code yX6_isBlocked cX6_isBlocked 2 (some .boolean), Cond.static yX10_isInSet, Cond.initialized RX10, Cond.code yX10_isInSet cX10_isInSet 2 (some .boolean), Cond.methodLink RX6 165 yX6_runTimers, Cond.instanceMethod yX6_runTimers, Cond.selects RX6 yX6_runTimers yX6_runTimers]
def wsX6_samplesUntilTrip_r8 : List Cond := [Cond.code yX6_runTimers cX6_runTimers 2 none, Cond.fieldLink RX6 133 "ZoneRelay$Zone" "timer" "I", Cond.methodLink RX6 168 yX6_trip, Cond.instanceMethod yX6_trip, Cond.selects RX6 yX6_trip yX6_trip, Cond.code yX6_trip cX6_trip 2 none, Cond.fieldLink RX6 233 "ZoneRelay$Zone" "delay" "I"]
def wsX6_samplesUntilTrip : List Cond := .code yX6_samplesUntilTrip cX6_samplesUntilTrip 3 (some .int) :: ((wsX6_samplesUntilTrip_r1 ++ (wsX6_samplesUntilTrip_r2 ++ (wsX6_samplesUntilTrip_r3 ++ (wsX6_samplesUntilTrip_r4 ++ (wsX6_samplesUntilTrip_r5 ++ (wsX6_samplesUntilTrip_r6 ++ (wsX6_samplesUntilTrip_r7 ++ wsX6_samplesUntilTrip_r8))))))) ++ wsX60 ++ wsX70 ++ wsX30 ++ wsX80 ++ wsX00 ++ wsX40 ++ wsX10 ++ wsX90 ++ wsX20)
def wsX7_endRamp : List Cond := .code yX7_endRamp cX7_endRamp 1 none :: ([.fieldLink RX7 30 "ZoneRelay$Signal" "left" "I"] ++ wsX70)
def wsX7_jumpTo : List Cond := .code yX7_jumpTo cX7_jumpTo 2 none :: ([.fieldLink RX7 10 "ZoneRelay$Signal" "now" "LZoneRelay$Phasors;", .methodLink RX7 22 yX3_becomeLike, .instanceMethod yX3_becomeLike, .selects RX3 yX3_becomeLike yX3_becomeLike, .initialized RX3, .code yX3_becomeLike cX3_becomeLike 2 none, .fieldLink RX3 7 "ZoneRelay$Phasors" "va" "I", .fieldLink RX3 13 "ZoneRelay$Phasors" "vb" "I", .fieldLink RX3 16 "ZoneRelay$Phasors" "ia" "I", .fieldLink RX3 19 "ZoneRelay$Phasors" "ib" "I", .methodLink RX3 22 yX3_put, .instanceMethod yX3_put, .selects RX3 yX3_put yX3_put, .code yX3_put cX3_put 5 none, .methodLink RX7 33 yX7_endRamp, .instanceMethod yX7_endRamp, .selects RX7 yX7_endRamp yX7_endRamp, .initialized RX7, .code yX7_endRamp cX7_endRamp 1 none, .fieldLink RX7 30 "ZoneRelay$Signal" "left" "I"] ++ wsX70 ++ wsX30)
def wsX7_beginRamp : List Cond := .code yX7_beginRamp cX7_beginRamp 2 none :: ([.fieldLink RX7 16 "ZoneRelay$Signal" "from" "LZoneRelay$Phasors;", .fieldLink RX7 10 "ZoneRelay$Signal" "now" "LZoneRelay$Phasors;", .fieldLink RX7 26 "ZoneRelay$Signal" "length" "I", .fieldLink RX7 30 "ZoneRelay$Signal" "left" "I", .methodLink RX7 22 yX3_becomeLike, .instanceMethod yX3_becomeLike, .selects RX3 yX3_becomeLike yX3_becomeLike, .initialized RX3, .code yX3_becomeLike cX3_becomeLike 2 none, .fieldLink RX3 7 "ZoneRelay$Phasors" "va" "I", .fieldLink RX3 13 "ZoneRelay$Phasors" "vb" "I", .fieldLink RX3 16 "ZoneRelay$Phasors" "ia" "I", .fieldLink RX3 19 "ZoneRelay$Phasors" "ib" "I", .methodLink RX3 22 yX3_put, .instanceMethod yX3_put, .selects RX3 yX3_put yX3_put, .code yX3_put cX3_put 5 none] ++ wsX70 ++ wsX30)
def wsJ5_init_d00df : List Cond := .code yJ5_init_d00df cJ5_init_d00df 2 none :: ([.methodLink RJ5 3 objectInit, .instanceMethod objectInit, .code objectInit ⟨#[0xb1]⟩ 1 none, .fieldLink RJ5 18 "java/lang/String" "COMPACT_STRINGS" "Z", .arrayClass .byte, .fieldLink RJ5 15 "java/lang/AbstractStringBuilder" "value" "[B", .fieldLink RJ5 22 "java/lang/AbstractStringBuilder" "coder" "B", .methodLink RJ5 26 yJ2_newBytesFor_77867, .static yJ2_newBytesFor_77867, .initialized RJ2, .code yJ2_newBytesFor_77867 cJ2_newBytesFor_77867 1 (some (.array .byte)), .methodLink RJ2 11 yJ2_newBytesLength_0f7a4, .static yJ2_newBytesLength_0f7a4, .code yJ2_newBytesLength_0f7a4 cJ2_newBytesLength_0f7a4 1 (some .int), .constant RJ2 20 (1073741823)] ++ wsJ40)
def wsJ4_init_da8c8 : List Cond := .code yJ4_init_da8c8 cJ4_init_da8c8 1 none :: ([.methodLink RJ4 1 yJ5_init_d00df, .instanceMethod yJ5_init_d00df, .initialized RJ5, .code yJ5_init_d00df cJ5_init_d00df 2 none, .methodLink RJ5 3 objectInit, .instanceMethod objectInit, .code objectInit ⟨#[0xb1]⟩ 1 none, .fieldLink RJ5 18 "java/lang/String" "COMPACT_STRINGS" "Z", .arrayClass .byte, .fieldLink RJ5 15 "java/lang/AbstractStringBuilder" "value" "[B", .fieldLink RJ5 22 "java/lang/AbstractStringBuilder" "coder" "B", .methodLink RJ5 26 yJ2_newBytesFor_77867, .static yJ2_newBytesFor_77867, .initialized RJ2, .code yJ2_newBytesFor_77867 cJ2_newBytesFor_77867 1 (some (.array .byte)), .methodLink RJ2 11 yJ2_newBytesLength_0f7a4, .static yJ2_newBytesLength_0f7a4, .code yJ2_newBytesLength_0f7a4 cJ2_newBytesLength_0f7a4 1 (some .int), .constant RJ2 20 (1073741823)] ++ wsJ40)
def wsX10_init_r1 : List Cond := [Cond.methodLink RX10 1 objectInit, Cond.instanceMethod objectInit, Cond.code objectInit ⟨#[0xb1]⟩ 1 none, Cond.classLink RX10 7 RX6, Cond.instantiable RX6 18, Cond.initialized RX6, Cond.fieldLink RX10 10 "ZoneRelay" "relay" "LZoneRelay$Relay;", Cond.fieldLink RX10 16 "ZoneRelay" "copy" "LZoneRelay$Relay;", Cond.fieldLink RX10 19 "ZoneRelay" "slots" "[LZoneRelay$Relay;", Cond.classLink RX10 23 RX3, Cond.instantiable RX3 4, Cond.initialized RX3, Cond.fieldLink RX10 26 "ZoneRelay" "faulted" "LZoneRelay$Phasors;", Cond.fieldLink RX10 30 "ZoneRelay" "unfaulted" "LZoneRelay$Phasors;", Cond.classLink RX10 33 RX0, Cond.instantiable RX0 4, Cond.initialized RX0, Cond.fieldLink RX10 36 "ZoneRelay" "seen" "LZoneRelay$Impedance;", Cond.classLink RX10 40 RJ4, Cond.instantiable RJ4 4, Cond.initialized RJ4, Cond.fieldLink RX10 43 "ZoneRelay" "pad" "Ljava/lang/StringBuilder;", Cond.classLink RX10 47 RX5, Cond.instantiable RX5 7]
def wsX10_init_r2 : List Cond := [Cond.initialized RX5, Cond.fieldLink RX10 50 "ZoneRelay" "reader" "LZoneRelay$Reader;", Cond.fieldLink RX10 54 "ZoneRelay" "spelled" "Ljava/lang/StringBuilder;", Cond.methodLink RX10 9 yX6_init, Cond.instanceMethod yX6_init, Cond.code yX6_init cX6_init 2 none, Cond.methodLink RX6 3 objectInit, Cond.classLink RX6 9 RX4, Cond.fieldLink RX6 11 "ZoneRelay$Relay" "polygons" "[LZoneRelay$Polygon;", Cond.arrayClass .int, Cond.fieldLink RX6 17 "ZoneRelay$Relay" "settings" "[I", Cond.classLink RX6 21 RX9, Cond.instantiable RX9 4, Cond.initialized RX9, Cond.fieldLink RX6 26 "ZoneRelay$Relay" "zones" "[LZoneRelay$Zone;", Cond.classLink RX6 30 RX2, Cond.instantiable RX2 2, Cond.initialized RX2, Cond.fieldLink RX6 33 "ZoneRelay$Relay" "network" "LZoneRelay$Network;", Cond.classLink RX6 37 RX7, Cond.instantiable RX7 5, Cond.initialized RX7, Cond.fieldLink RX6 40 "ZoneRelay$Relay" "signal" "LZoneRelay$Signal;", Cond.classLink RX6 44 RX8]
def wsX10_init_r3 : List Cond := [Cond.instantiable RX8 3, Cond.initialized RX8, Cond.fieldLink RX6 47 "ZoneRelay$Relay" "voltage" "LZoneRelay$Window;", Cond.fieldLink RX6 51 "ZoneRelay$Relay" "current" "LZoneRelay$Window;", Cond.classLink RX6 54 RX3, Cond.fieldLink RX6 57 "ZoneRelay$Relay" "estimate" "LZoneRelay$Phasors;", Cond.classLink RX6 61 RX0, Cond.fieldLink RX6 64 "ZoneRelay$Relay" "impedance" "LZoneRelay$Impedance;", Cond.classLink RX6 68 RX1, Cond.instantiable RX1 3, Cond.initialized RX1, Cond.fieldLink RX6 71 "ZoneRelay$Relay" "log" "LZoneRelay$Log;", Cond.fieldLink RX6 75 "ZoneRelay$Relay" "trippedBy" "I", Cond.instantiable RX4 4, Cond.initialized RX4, Cond.methodLink RX6 23 yX9_init, Cond.instanceMethod yX9_init, Cond.code yX9_init cX9_init 2 none, Cond.methodLink RX9 3 objectInit, Cond.fieldLink RX9 9 "ZoneRelay$Zone" "direction" "I", Cond.fieldLink RX9 15 "ZoneRelay$Zone" "delay" "I", Cond.instanceMethod yX2_init, Cond.code yX2_init cX2_init 1 none, Cond.methodLink RX2 3 objectInit]
def wsX10_init_r4 : List Cond := [Cond.fieldLink RX2 9 "ZoneRelay$Network" "first" "[I", Cond.fieldLink RX2 15 "ZoneRelay$Network" "second" "[I", Cond.instanceMethod yX7_init, Cond.code yX7_init cX7_init 1 none, Cond.methodLink RX7 1 objectInit, Cond.classLink RX7 7 RX3, Cond.fieldLink RX7 10 "ZoneRelay$Signal" "now" "LZoneRelay$Phasors;", Cond.fieldLink RX7 16 "ZoneRelay$Signal" "from" "LZoneRelay$Phasors;", Cond.fieldLink RX7 19 "ZoneRelay$Signal" "to" "LZoneRelay$Phasors;", Cond.instanceMethod yX3_init, Cond.code yX3_init cX3_init 1 none, Cond.methodLink RX3 1 objectInit, Cond.instanceMethod yX8_init, Cond.code yX8_init cX8_init 1 none, Cond.methodLink RX8 3 objectInit, Cond.fieldLink RX8 9 "ZoneRelay$Window" "samples" "[I", Cond.instanceMethod yX0_init, Cond.code yX0_init cX0_init 1 none, Cond.methodLink RX0 1 objectInit, Cond.fieldLink RX0 7 "ZoneRelay$Impedance" "d" "J", Cond.instanceMethod yX1_init, Cond.code yX1_init cX1_init 1 none, Cond.methodLink RX1 3 objectInit, Cond.fieldLink RX1 9 "ZoneRelay$Log" "times" "[I"]
def wsX10_init_r5 : List Cond := [Cond.fieldLink RX1 15 "ZoneRelay$Log" "kinds" "[I", Cond.instanceMethod yX4_init, Cond.code yX4_init cX4_init 1 none, Cond.methodLink RX4 3 objectInit, Cond.fieldLink RX4 9 "ZoneRelay$Polygon" "xs" "[I", Cond.fieldLink RX4 15 "ZoneRelay$Polygon" "ys" "[I", Cond.fieldLink RX4 18 "ZoneRelay$Polygon" "defect" "I", Cond.methodLink RX10 42 yJ4_init_da8c8, Cond.instanceMethod yJ4_init_da8c8, Cond.code yJ4_init_da8c8 cJ4_init_da8c8 1 none, Cond.methodLink RJ4 1 yJ5_init_d00df, Cond.instanceMethod yJ5_init_d00df, Cond.initialized RJ5, Cond.code yJ5_init_d00df cJ5_init_d00df 2 none, Cond.methodLink RJ5 3 objectInit, Cond.fieldLink RJ5 18 "java/lang/String" "COMPACT_STRINGS" "Z", Cond.arrayClass .byte, Cond.fieldLink RJ5 15 "java/lang/AbstractStringBuilder" "value" "[B", Cond.fieldLink RJ5 22 "java/lang/AbstractStringBuilder" "coder" "B", Cond.methodLink RJ5 26 yJ2_newBytesFor_77867, Cond.static yJ2_newBytesFor_77867, Cond.initialized RJ2, Cond.code yJ2_newBytesFor_77867 cJ2_newBytesFor_77867 1 (some (.array .byte)), Cond.methodLink RJ2 11 yJ2_newBytesLength_0f7a4]
def wsX10_init_r6 : List Cond := [Cond.static yJ2_newBytesLength_0f7a4, Cond.code yJ2_newBytesLength_0f7a4 cJ2_newBytesLength_0f7a4 1 (some .int), Cond.constant RJ2 20 (1073741823), Cond.instanceMethod yX5_init, Cond.code yX5_init cX5_init 1 none, Cond.methodLink RX5 3 objectInit, Cond.fieldLink RX5 9 "ZoneRelay$Reader" "xs" "[I", Cond.fieldLink RX5 15 "ZoneRelay$Reader" "ys" "[I"]
def wsX10_init : List Cond := .code yX10_init cX10_init 1 none :: ((wsX10_init_r1 ++ (wsX10_init_r2 ++ (wsX10_init_r3 ++ (wsX10_init_r4 ++ (wsX10_init_r5 ++ wsX10_init_r6))))) ++ wsX60 ++ wsX100 ++ wsX30 ++ wsX00 ++ wsJ40 ++ wsX50 ++ wsX90 ++ wsX20 ++ wsX70 ++ wsX80 ++ wsX10 ++ wsX40)
def wsX10_beyondLimit : List Cond := .code yX10_beyondLimit cX10_beyondLimit 1 (some .boolean) :: ([.methodLink RX10 57 yX10_outside, .static yX10_outside, .initialized RX10, .code yX10_outside cX10_outside 3 (some .boolean)])
def wsX10_corner_r1 : List Cond := [Cond.fieldLink RX10 10 "ZoneRelay" "relay" "LZoneRelay$Relay;", Cond.fieldLink RX10 65 "ZoneRelay$Relay" "polygons" "[LZoneRelay$Polygon;", Cond.fieldLink RX10 69 "ZoneRelay$Polygon" "size" "I", Cond.methodLink RX10 57 yX10_outside, Cond.static yX10_outside, Cond.initialized RX10, Cond.code yX10_outside cX10_outside 3 (some .boolean), Cond.methodLink RX10 61 yX10_beyondLimit, Cond.static yX10_beyondLimit, Cond.code yX10_beyondLimit cX10_beyondLimit 1 (some .boolean), Cond.methodLink RX10 75 yX4_append, Cond.instanceMethod yX4_append, Cond.selects RX4 yX4_append yX4_append, Cond.initialized RX4, Cond.code yX4_append cX4_append 3 none, Cond.fieldLink RX4 28 "ZoneRelay$Polygon" "size" "I", Cond.fieldLink RX4 9 "ZoneRelay$Polygon" "xs" "[I", Cond.fieldLink RX4 15 "ZoneRelay$Polygon" "ys" "[I", Cond.fieldLink RX4 18 "ZoneRelay$Polygon" "defect" "I", Cond.methodLink RX4 31 yX4_findDefect, Cond.instanceMethod yX4_findDefect, Cond.selects RX4 yX4_findDefect yX4_findDefect, Cond.code yX4_findDefect cX4_findDefect 1 (some .int), Cond.methodLink RX4 52 yX4_turnsLeftEverywhere]
def wsX10_corner_r2 : List Cond := [Cond.instanceMethod yX4_turnsLeftEverywhere, Cond.selects RX4 yX4_turnsLeftEverywhere yX4_turnsLeftEverywhere, Cond.code yX4_turnsLeftEverywhere cX4_turnsLeftEverywhere 6 (some .boolean), Cond.methodLink RX4 35 yX4_after, Cond.instanceMethod yX4_after, Cond.selects RX4 yX4_after yX4_after, Cond.code yX4_after cX4_after 2 (some .int), Cond.methodLink RX4 56 yX4_countTurnsOfY, Cond.instanceMethod yX4_countTurnsOfY, Cond.selects RX4 yX4_countTurnsOfY yX4_countTurnsOfY, Cond.code yX4_countTurnsOfY cX4_countTurnsOfY 5 (some .int), Cond.methodLink RX4 59 yJ6_compare_7cf53, Cond.static yJ6_compare_7cf53, Cond.initialized RJ6, Cond.code yJ6_compare_7cf53 cJ6_compare_7cf53 2 (some .int)]
def wsX10_corner : List Cond := .code yX10_corner cX10_corner 5 (some .int) :: ((wsX10_corner_r1 ++ wsX10_corner_r2) ++ wsX100 ++ wsX60 ++ wsX40)
def wsX10_clear : List Cond := .code yX10_clear cX10_clear 3 (some .int) :: ([.fieldLink RX10 10 "ZoneRelay" "relay" "LZoneRelay$Relay;", .fieldLink RX10 65 "ZoneRelay$Relay" "polygons" "[LZoneRelay$Polygon;", .fieldLink RX10 69 "ZoneRelay$Polygon" "size" "I", .methodLink RX10 57 yX10_outside, .static yX10_outside, .initialized RX10, .code yX10_outside cX10_outside 3 (some .boolean), .methodLink RX10 79 yX4_empty, .instanceMethod yX4_empty, .selects RX4 yX4_empty yX4_empty, .initialized RX4, .code yX4_empty cX4_empty 1 none, .fieldLink RX4 28 "ZoneRelay$Polygon" "size" "I", .fieldLink RX4 18 "ZoneRelay$Polygon" "defect" "I"] ++ wsX100 ++ wsX60 ++ wsX40)
def wsX10_at : List Cond := .code yX10_at cX10_at 5 (some .int) :: ([.fieldLink RX10 10 "ZoneRelay" "relay" "LZoneRelay$Relay;", .fieldLink RX10 65 "ZoneRelay$Relay" "polygons" "[LZoneRelay$Polygon;", .fieldLink RX10 69 "ZoneRelay$Polygon" "size" "I", .constant RX10 82 (100000), .fieldLink RX10 83 "ZoneRelay$Polygon" "xs" "[I", .fieldLink RX10 87 "ZoneRelay$Polygon" "ys" "[I", .methodLink RX10 57 yX10_outside, .static yX10_outside, .initialized RX10, .code yX10_outside cX10_outside 3 (some .boolean)] ++ wsX100 ++ wsX60 ++ wsX40)
def wsX10_sound : List Cond := .code yX10_sound cX10_sound 2 (some .int) :: ([.fieldLink RX10 10 "ZoneRelay" "relay" "LZoneRelay$Relay;", .fieldLink RX10 65 "ZoneRelay$Relay" "polygons" "[LZoneRelay$Polygon;", .fieldLink RX10 90 "ZoneRelay$Polygon" "defect" "I", .methodLink RX10 57 yX10_outside, .static yX10_outside, .initialized RX10, .code yX10_outside cX10_outside 3 (some .boolean)] ++ wsX100 ++ wsX60 ++ wsX40)
def wsX10_asNumber : List Cond := .code yX10_asNumber cX10_asNumber 1 (some .int) :: ([])
def wsX10_contains : List Cond := .code yX10_contains cX10_contains 4 (some .int) :: ([.constant RX10 93 (-100000), .constant RX10 82 (100000), .fieldLink RX10 10 "ZoneRelay" "relay" "LZoneRelay$Relay;", .fieldLink RX10 65 "ZoneRelay$Relay" "polygons" "[LZoneRelay$Polygon;", .methodLink RX10 57 yX10_outside, .static yX10_outside, .initialized RX10, .code yX10_outside cX10_outside 3 (some .boolean), .methodLink RX10 94 yX4_holds, .instanceMethod yX4_holds, .selects RX4 yX4_holds yX4_holds, .initialized RX4, .code yX4_holds cX4_holds 13 (some .boolean), .fieldLink RX4 18 "ZoneRelay$Polygon" "defect" "I", .fieldLink RX4 28 "ZoneRelay$Polygon" "size" "I", .fieldLink RX4 9 "ZoneRelay$Polygon" "xs" "[I", .fieldLink RX4 15 "ZoneRelay$Polygon" "ys" "[I", .methodLink RX4 35 yX4_after, .instanceMethod yX4_after, .selects RX4 yX4_after yX4_after, .code yX4_after cX4_after 2 (some .int), .methodLink RX10 98 yX10_asNumber, .static yX10_asNumber, .code yX10_asNumber cX10_asNumber 1 (some .int)] ++ wsX100 ++ wsX60 ++ wsX40)
def wsX10_set : List Cond := .code yX10_set cX10_set 4 (some .int) :: ([.fieldLink RX10 102 "ZoneRelay" "LOWEST_SETTING" "[I", .fieldLink RX10 105 "ZoneRelay" "HIGHEST_SETTING" "[I", .fieldLink RX10 10 "ZoneRelay" "relay" "LZoneRelay$Relay;", .fieldLink RX10 108 "ZoneRelay$Relay" "settings" "[I", .methodLink RX10 57 yX10_outside, .static yX10_outside, .initialized RX10, .code yX10_outside cX10_outside 3 (some .boolean)] ++ wsX100 ++ wsX60)
def wsX10_zone : List Cond := .code yX10_zone cX10_zone 6 (some .int) :: ([.fieldLink RX10 10 "ZoneRelay" "relay" "LZoneRelay$Relay;", .fieldLink RX10 111 "ZoneRelay$Relay" "zones" "[LZoneRelay$Zone;", .fieldLink RX10 115 "ZoneRelay$Zone" "delay" "I", .fieldLink RX10 120 "ZoneRelay$Zone" "direction" "I", .methodLink RX10 57 yX10_outside, .static yX10_outside, .initialized RX10, .code yX10_outside cX10_outside 3 (some .boolean)] ++ wsX100 ++ wsX60 ++ wsX90)
def wsX10_apply_r1 : List Cond := [Cond.fieldLink RX10 10 "ZoneRelay" "relay" "LZoneRelay$Relay;", Cond.fieldLink RX10 123 "ZoneRelay$Relay" "signal" "LZoneRelay$Signal;", Cond.fieldLink RX10 127 "ZoneRelay$Signal" "now" "LZoneRelay$Phasors;", Cond.fieldLink RX10 139 "ZoneRelay$Relay" "time" "I", Cond.methodLink RX10 61 yX10_beyondLimit, Cond.static yX10_beyondLimit, Cond.initialized RX10, Cond.code yX10_beyondLimit cX10_beyondLimit 1 (some .boolean), Cond.methodLink RX10 57 yX10_outside, Cond.static yX10_outside, Cond.code yX10_outside cX10_outside 3 (some .boolean), Cond.methodLink RX10 132 yX3_put, Cond.instanceMethod yX3_put, Cond.selects RX3 yX3_put yX3_put, Cond.initialized RX3, Cond.code yX3_put cX3_put 5 none, Cond.fieldLink RX3 7 "ZoneRelay$Phasors" "va" "I", Cond.fieldLink RX3 13 "ZoneRelay$Phasors" "vb" "I", Cond.fieldLink RX3 16 "ZoneRelay$Phasors" "ia" "I", Cond.fieldLink RX3 19 "ZoneRelay$Phasors" "ib" "I", Cond.methodLink RX10 136 yX7_endRamp, Cond.instanceMethod yX7_endRamp, Cond.selects RX7 yX7_endRamp yX7_endRamp, Cond.initialized RX7]
def wsX10_apply_r2 : List Cond := [Cond.code yX7_endRamp cX7_endRamp 1 none, Cond.fieldLink RX7 30 "ZoneRelay$Signal" "left" "I"]
def wsX10_apply : List Cond := .code yX10_apply cX10_apply 5 (some .int) :: ((wsX10_apply_r1 ++ wsX10_apply_r2) ++ wsX100 ++ wsX60 ++ wsX70 ++ wsX30)
def wsX10_ramp_r1 : List Cond := [Cond.fieldLink RX10 10 "ZoneRelay" "relay" "LZoneRelay$Relay;", Cond.fieldLink RX10 123 "ZoneRelay$Relay" "signal" "LZoneRelay$Signal;", Cond.fieldLink RX10 142 "ZoneRelay$Signal" "to" "LZoneRelay$Phasors;", Cond.fieldLink RX10 139 "ZoneRelay$Relay" "time" "I", Cond.methodLink RX10 57 yX10_outside, Cond.static yX10_outside, Cond.initialized RX10, Cond.code yX10_outside cX10_outside 3 (some .boolean), Cond.methodLink RX10 61 yX10_beyondLimit, Cond.static yX10_beyondLimit, Cond.code yX10_beyondLimit cX10_beyondLimit 1 (some .boolean), Cond.methodLink RX10 132 yX3_put, Cond.instanceMethod yX3_put, Cond.selects RX3 yX3_put yX3_put, Cond.initialized RX3, Cond.code yX3_put cX3_put 5 none, Cond.fieldLink RX3 7 "ZoneRelay$Phasors" "va" "I", Cond.fieldLink RX3 13 "ZoneRelay$Phasors" "vb" "I", Cond.fieldLink RX3 16 "ZoneRelay$Phasors" "ia" "I", Cond.fieldLink RX3 19 "ZoneRelay$Phasors" "ib" "I", Cond.methodLink RX10 145 yX7_beginRamp, Cond.instanceMethod yX7_beginRamp, Cond.selects RX7 yX7_beginRamp yX7_beginRamp, Cond.initialized RX7]
def wsX10_ramp_r2 : List Cond := [Cond.code yX7_beginRamp cX7_beginRamp 2 none, Cond.fieldLink RX7 16 "ZoneRelay$Signal" "from" "LZoneRelay$Phasors;", Cond.fieldLink RX7 10 "ZoneRelay$Signal" "now" "LZoneRelay$Phasors;", Cond.fieldLink RX7 26 "ZoneRelay$Signal" "length" "I", Cond.fieldLink RX7 30 "ZoneRelay$Signal" "left" "I", Cond.methodLink RX7 22 yX3_becomeLike, Cond.instanceMethod yX3_becomeLike, Cond.selects RX3 yX3_becomeLike yX3_becomeLike, Cond.code yX3_becomeLike cX3_becomeLike 2 none, Cond.methodLink RX3 22 yX3_put]
def wsX10_ramp : List Cond := .code yX10_ramp cX10_ramp 6 (some .int) :: ((wsX10_ramp_r1 ++ wsX10_ramp_r2) ++ wsX100 ++ wsX60 ++ wsX70 ++ wsX30)
def wsX10_network : List Cond := .code yX10_network cX10_network 6 (some .int) :: ([.fieldLink RX10 10 "ZoneRelay" "relay" "LZoneRelay$Relay;", .fieldLink RX10 149 "ZoneRelay$Relay" "network" "LZoneRelay$Network;", .fieldLink RX10 153 "ZoneRelay$Network" "first" "[I", .fieldLink RX10 158 "ZoneRelay$Network" "second" "[I", .methodLink RX10 57 yX10_outside, .static yX10_outside, .initialized RX10, .code yX10_outside cX10_outside 3 (some .boolean)] ++ wsX100 ++ wsX60 ++ wsX20)
def wsX10_isNoFault : List Cond := .code yX10_isNoFault cX10_isNoFault 2 (some .boolean) :: ([.methodLink RX10 57 yX10_outside, .static yX10_outside, .initialized RX10, .code yX10_outside cX10_outside 3 (some .boolean)])
def wsX10_fault_r1 : List Cond := [Cond.fieldLink RX10 10 "ZoneRelay" "relay" "LZoneRelay$Relay;", Cond.fieldLink RX10 149 "ZoneRelay$Relay" "network" "LZoneRelay$Network;", Cond.fieldLink RX10 26 "ZoneRelay" "faulted" "LZoneRelay$Phasors;", Cond.fieldLink RX10 123 "ZoneRelay$Relay" "signal" "LZoneRelay$Signal;", Cond.fieldLink RX10 139 "ZoneRelay$Relay" "time" "I", Cond.methodLink RX10 161 yX10_isNoFault, Cond.static yX10_isNoFault, Cond.initialized RX10, Cond.code yX10_isNoFault cX10_isNoFault 2 (some .boolean), Cond.methodLink RX10 57 yX10_outside, Cond.static yX10_outside, Cond.code yX10_outside cX10_outside 3 (some .boolean), Cond.methodLink RX10 165 yX2_findFaulted, Cond.instanceMethod yX2_findFaulted, Cond.selects RX2 yX2_findFaulted yX2_findFaulted, Cond.initialized RX2, Cond.code yX2_findFaulted cX2_findFaulted 4 (some .boolean), Cond.fieldLink RX2 9 "ZoneRelay$Network" "first" "[I", Cond.fieldLink RX2 15 "ZoneRelay$Network" "second" "[I", Cond.methodLink RX2 24 yX2_solve, Cond.instanceMethod yX2_solve, Cond.selects RX2 yX2_solve yX2_solve, Cond.code yX2_solve cX2_solve 24 (some .boolean), Cond.constantLong RX2 28 (1000)]
def wsX10_fault_r2 : List Cond := [Cond.constantLong RX2 30 (-1000), Cond.methodLink RX2 32 yX2_limited, Cond.static yX2_limited, Cond.code yX2_limited cX2_limited 2 (some .int), Cond.constantLong RX2 42 (-20000), Cond.constantLong RX2 44 (20000), Cond.methodLink RX2 46 Lib.MathLoose.min_long.x, Cond.static Lib.MathLoose.min_long.x, Cond.initialized "java/lang/Math", Cond.code Lib.MathLoose.min_long.x Lib.MathLoose.min_long.code 4 (some .long), Cond.methodLink RX2 52 Lib.MathLoose.max_long.x, Cond.static Lib.MathLoose.max_long.x, Cond.code Lib.MathLoose.max_long.x Lib.MathLoose.max_long.code 4 (some .long), Cond.methodLink RX2 36 yX3_put, Cond.instanceMethod yX3_put, Cond.selects RX3 yX3_put yX3_put, Cond.initialized RX3, Cond.code yX3_put cX3_put 5 none, Cond.fieldLink RX3 7 "ZoneRelay$Phasors" "va" "I", Cond.fieldLink RX3 13 "ZoneRelay$Phasors" "vb" "I", Cond.fieldLink RX3 16 "ZoneRelay$Phasors" "ia" "I", Cond.fieldLink RX3 19 "ZoneRelay$Phasors" "ib" "I", Cond.methodLink RX10 169 yX7_jumpTo, Cond.instanceMethod yX7_jumpTo]
def wsX10_fault_r3 : List Cond := [Cond.selects RX7 yX7_jumpTo yX7_jumpTo, Cond.initialized RX7, Cond.code yX7_jumpTo cX7_jumpTo 2 none, Cond.fieldLink RX7 10 "ZoneRelay$Signal" "now" "LZoneRelay$Phasors;", Cond.methodLink RX7 22 yX3_becomeLike, Cond.instanceMethod yX3_becomeLike, Cond.selects RX3 yX3_becomeLike yX3_becomeLike, Cond.code yX3_becomeLike cX3_becomeLike 2 none, Cond.methodLink RX3 22 yX3_put, Cond.methodLink RX7 33 yX7_endRamp, Cond.instanceMethod yX7_endRamp, Cond.selects RX7 yX7_endRamp yX7_endRamp, Cond.code yX7_endRamp cX7_endRamp 1 none, Cond.fieldLink RX7 30 "ZoneRelay$Signal" "left" "I"]
def wsX10_fault : List Cond := .code yX10_fault cX10_fault 3 (some .int) :: ((wsX10_fault_r1 ++ (wsX10_fault_r2 ++ wsX10_fault_r3)) ++ wsX100 ++ wsX60 ++ wsX20 ++ wsX30 ++ wsX70)
def wsX10_healthy_r1 : List Cond := [Cond.fieldLink RX10 10 "ZoneRelay" "relay" "LZoneRelay$Relay;", Cond.fieldLink RX10 149 "ZoneRelay$Relay" "network" "LZoneRelay$Network;", Cond.fieldLink RX10 30 "ZoneRelay" "unfaulted" "LZoneRelay$Phasors;", Cond.fieldLink RX10 123 "ZoneRelay$Relay" "signal" "LZoneRelay$Signal;", Cond.fieldLink RX10 139 "ZoneRelay$Relay" "time" "I", Cond.methodLink RX10 173 yX2_findUnfaulted, Cond.instanceMethod yX2_findUnfaulted, Cond.selects RX2 yX2_findUnfaulted yX2_findUnfaulted, Cond.initialized RX2, Cond.code yX2_findUnfaulted cX2_findUnfaulted 2 (some .boolean), Cond.fieldLink RX2 9 "ZoneRelay$Network" "first" "[I", Cond.fieldLink RX2 15 "ZoneRelay$Network" "second" "[I", Cond.methodLink RX2 24 yX2_solve, Cond.instanceMethod yX2_solve, Cond.selects RX2 yX2_solve yX2_solve, Cond.code yX2_solve cX2_solve 24 (some .boolean), Cond.constantLong RX2 28 (1000), Cond.constantLong RX2 30 (-1000), Cond.methodLink RX2 32 yX2_limited, Cond.static yX2_limited, Cond.code yX2_limited cX2_limited 2 (some .int), Cond.constantLong RX2 42 (-20000), Cond.constantLong RX2 44 (20000), Cond.methodLink RX2 46 Lib.MathLoose.min_long.x]
def wsX10_healthy_r2 : List Cond := [Cond.static Lib.MathLoose.min_long.x, Cond.initialized "java/lang/Math", Cond.code Lib.MathLoose.min_long.x Lib.MathLoose.min_long.code 4 (some .long), Cond.methodLink RX2 52 Lib.MathLoose.max_long.x, Cond.static Lib.MathLoose.max_long.x, Cond.code Lib.MathLoose.max_long.x Lib.MathLoose.max_long.code 4 (some .long), Cond.methodLink RX2 36 yX3_put, Cond.instanceMethod yX3_put, Cond.selects RX3 yX3_put yX3_put, Cond.initialized RX3, Cond.code yX3_put cX3_put 5 none, Cond.fieldLink RX3 7 "ZoneRelay$Phasors" "va" "I", Cond.fieldLink RX3 13 "ZoneRelay$Phasors" "vb" "I", Cond.fieldLink RX3 16 "ZoneRelay$Phasors" "ia" "I", Cond.fieldLink RX3 19 "ZoneRelay$Phasors" "ib" "I", Cond.methodLink RX10 169 yX7_jumpTo, Cond.instanceMethod yX7_jumpTo, Cond.selects RX7 yX7_jumpTo yX7_jumpTo, Cond.initialized RX7, Cond.code yX7_jumpTo cX7_jumpTo 2 none, Cond.fieldLink RX7 10 "ZoneRelay$Signal" "now" "LZoneRelay$Phasors;", Cond.methodLink RX7 22 yX3_becomeLike, Cond.instanceMethod yX3_becomeLike, Cond.selects RX3 yX3_becomeLike yX3_becomeLike]
def wsX10_healthy_r3 : List Cond := [Cond.code yX3_becomeLike cX3_becomeLike 2 none, Cond.methodLink RX3 22 yX3_put, Cond.methodLink RX7 33 yX7_endRamp, Cond.instanceMethod yX7_endRamp, Cond.selects RX7 yX7_endRamp yX7_endRamp, Cond.code yX7_endRamp cX7_endRamp 1 none, Cond.fieldLink RX7 30 "ZoneRelay$Signal" "left" "I"]
def wsX10_healthy : List Cond := .code yX10_healthy cX10_healthy 1 (some .int) :: ((wsX10_healthy_r1 ++ (wsX10_healthy_r2 ++ wsX10_healthy_r3)) ++ wsX100 ++ wsX60 ++ wsX20 ++ wsX30 ++ wsX70)
def wsX10_phasor : List Cond := .code yX10_phasor cX10_phasor 3 (some .long) :: ([.fieldLink RX10 10 "ZoneRelay" "relay" "LZoneRelay$Relay;", .fieldLink RX10 123 "ZoneRelay$Relay" "signal" "LZoneRelay$Signal;", .fieldLink RX10 127 "ZoneRelay$Signal" "now" "LZoneRelay$Phasors;", .fieldLink RX10 177 "ZoneRelay$Phasors" "va" "I", .fieldLink RX10 180 "ZoneRelay$Phasors" "vb" "I", .fieldLink RX10 183 "ZoneRelay$Phasors" "ia" "I", .fieldLink RX10 186 "ZoneRelay$Phasors" "ib" "I", .fieldLink RX10 189 "ZoneRelay$Signal" "left" "I", .constantLong RX10 192 (-1000000000000000002)] ++ wsX100 ++ wsX60 ++ wsX70 ++ wsX30)
def wsX10_pass_r1 : List Cond := [Cond.fieldLink RX10 10 "ZoneRelay" "relay" "LZoneRelay$Relay;", Cond.fieldLink RX10 139 "ZoneRelay$Relay" "time" "I", Cond.constant RX10 194 (100000000), Cond.methodLink RX10 57 yX10_outside, Cond.static yX10_outside, Cond.initialized RX10, Cond.code yX10_outside cX10_outside 3 (some .boolean), Cond.methodLink RX10 195 yX6_takeSample, Cond.instanceMethod yX6_takeSample, Cond.selects RX6 yX6_takeSample yX6_takeSample, Cond.initialized RX6, Cond.code yX6_takeSample cX6_takeSample 1 none, Cond.fieldLink RX6 40 "ZoneRelay$Relay" "signal" "LZoneRelay$Signal;", Cond.fieldLink RX6 142 "ZoneRelay$Signal" "now" "LZoneRelay$Phasors;", Cond.fieldLink RX6 64 "ZoneRelay$Relay" "impedance" "LZoneRelay$Impedance;", Cond.fieldLink RX6 57 "ZoneRelay$Relay" "estimate" "LZoneRelay$Phasors;", Cond.fieldLink RX6 17 "ZoneRelay$Relay" "settings" "[I", Cond.fieldLink RX6 127 "ZoneRelay$Relay" "inLoad" "Z", Cond.fieldLink RX6 130 "ZoneRelay$Relay" "time" "I", Cond.methodLink RX6 139 yX7_advance, Cond.instanceMethod yX7_advance, Cond.selects RX7 yX7_advance yX7_advance, Cond.initialized RX7, Cond.code yX7_advance cX7_advance 1 none]
def wsX10_pass_r2 : List Cond := [Cond.fieldLink RX7 30 "ZoneRelay$Signal" "left" "I", Cond.fieldLink RX7 10 "ZoneRelay$Signal" "now" "LZoneRelay$Phasors;", Cond.fieldLink RX7 16 "ZoneRelay$Signal" "from" "LZoneRelay$Phasors;", Cond.fieldLink RX7 36 "ZoneRelay$Phasors" "va" "I", Cond.fieldLink RX7 19 "ZoneRelay$Signal" "to" "LZoneRelay$Phasors;", Cond.fieldLink RX7 43 "ZoneRelay$Phasors" "vb" "I", Cond.fieldLink RX7 46 "ZoneRelay$Phasors" "ia" "I", Cond.fieldLink RX7 49 "ZoneRelay$Phasors" "ib" "I", Cond.methodLink RX7 39 yX7_onTheWay, Cond.instanceMethod yX7_onTheWay, Cond.selects RX7 yX7_onTheWay yX7_onTheWay, Cond.code yX7_onTheWay cX7_onTheWay 3 (some .int), Cond.fieldLink RX7 26 "ZoneRelay$Signal" "length" "I", Cond.methodLink RX7 52 yX3_put, Cond.instanceMethod yX3_put, Cond.selects RX3 yX3_put yX3_put, Cond.initialized RX3, Cond.code yX3_put cX3_put 5 none, Cond.fieldLink RX3 7 "ZoneRelay$Phasors" "va" "I", Cond.fieldLink RX3 13 "ZoneRelay$Phasors" "vb" "I", Cond.fieldLink RX3 16 "ZoneRelay$Phasors" "ia" "I", Cond.fieldLink RX3 19 "ZoneRelay$Phasors" "ib" "I", Cond.methodLink RX6 145 yX6_estimateFrom, Cond.instanceMethod yX6_estimateFrom]
def wsX10_pass_r3 : List Cond := [Cond.selects RX6 yX6_estimateFrom yX6_estimateFrom, Cond.code yX6_estimateFrom cX6_estimateFrom 2 none, Cond.fieldLink RX6 47 "ZoneRelay$Relay" "voltage" "LZoneRelay$Window;", Cond.fieldLink RX6 171 "ZoneRelay$Phasors" "va" "I", Cond.fieldLink RX6 174 "ZoneRelay$Phasors" "vb" "I", Cond.fieldLink RX6 51 "ZoneRelay$Relay" "current" "LZoneRelay$Window;", Cond.fieldLink RX6 181 "ZoneRelay$Phasors" "ia" "I", Cond.fieldLink RX6 184 "ZoneRelay$Phasors" "ib" "I", Cond.methodLink RX6 177 yX8_take, Cond.instanceMethod yX8_take, Cond.selects RX8 yX8_take yX8_take, Cond.initialized RX8, Cond.code yX8_take cX8_take 10 none, Cond.fieldLink RX8 9 "ZoneRelay$Window" "samples" "[I", Cond.fieldLink RX8 21 "ZoneRelay$Window" "cosineSum" "J", Cond.fieldLink RX8 25 "ZoneRelay$Window" "sineSum" "J", Cond.methodLink RX8 28 yJ9_floorMod_7cf53, Cond.static yJ9_floorMod_7cf53, Cond.initialized RJ9, Cond.code yJ9_floorMod_7cf53 cJ9_floorMod_7cf53 3 (some .int), Cond.methodLink RX6 187 yX8_estimateA, Cond.instanceMethod yX8_estimateA, Cond.selects RX8 yX8_estimateA yX8_estimateA, Cond.code yX8_estimateA cX8_estimateA 1 (some .int)]
def wsX10_pass_r4 : List Cond := [Cond.constantLong RX8 37 (49152), Cond.methodLink RX6 191 yX8_estimateB, Cond.instanceMethod yX8_estimateB, Cond.selects RX8 yX8_estimateB yX8_estimateB, Cond.code yX8_estimateB cX8_estimateB 1 (some .int), Cond.methodLink RX6 194 yX3_put, Cond.methodLink RX6 148 yX6_remember, Cond.instanceMethod yX6_remember, Cond.selects RX6 yX6_remember yX6_remember, Cond.code yX6_remember cX6_remember 7 none, Cond.fieldLink RX6 111 "ZoneRelay$Relay" "memoryA" "I", Cond.fieldLink RX6 114 "ZoneRelay$Relay" "memoryB" "I", Cond.fieldLink RX6 117 "ZoneRelay$Relay" "memoryAge" "I", Cond.methodLink RX6 151 yX0_become, Cond.instanceMethod yX0_become, Cond.selects RX0 yX0_become yX0_become, Cond.initialized RX0, Cond.code yX0_become cX0_become 11 none, Cond.fieldLink RX0 23 "ZoneRelay$Phasors" "va" "I", Cond.fieldLink RX0 29 "ZoneRelay$Phasors" "vb" "I", Cond.fieldLink RX0 32 "ZoneRelay$Phasors" "ia" "I", Cond.fieldLink RX0 35 "ZoneRelay$Phasors" "ib" "I", Cond.fieldLink RX0 7 "ZoneRelay$Impedance" "d" "J", Cond.constantLong RX0 38 (1000)]
def wsX10_pass_r5 : List Cond := [Cond.fieldLink RX0 17 "ZoneRelay$Impedance" "x" "J", Cond.fieldLink RX0 20 "ZoneRelay$Impedance" "y" "J", Cond.fieldLink RX0 13 "ZoneRelay$Impedance" "exists" "Z", Cond.methodLink RX6 155 yX0_isInLoad, Cond.instanceMethod yX0_isInLoad, Cond.selects RX0 yX0_isInLoad yX0_isInLoad, Cond.code yX0_isInLoad cX0_isInLoad 3 (some .boolean), Cond.methodLink RX0 46 Lib.MathLoose.abs_long.x, Cond.static Lib.MathLoose.abs_long.x, Cond.initialized "java/lang/Math", Cond.code Lib.MathLoose.abs_long.x Lib.MathLoose.abs_long.code 2 (some .long), Cond.methodLink RX6 159 yX6_watchSwing, Cond.instanceMethod yX6_watchSwing, Cond.selects RX6 yX6_watchSwing yX6_watchSwing, Cond.code yX6_watchSwing cX6_watchSwing 1 none, Cond.fieldLink RX6 11 "ZoneRelay$Relay" "polygons" "[LZoneRelay$Polygon;", Cond.fieldLink RX6 120 "ZoneRelay$Relay" "between" "I", Cond.fieldLink RX6 123 "ZoneRelay$Relay" "swing" "Z", Cond.fieldLink RX6 71 "ZoneRelay$Relay" "log" "LZoneRelay$Log;", Cond.methodLink RX6 198 yX0_isIn, Cond.instanceMethod yX0_isIn, Cond.selects RX0 yX0_isIn yX0_isIn, Cond.code yX0_isIn cX0_isIn 2 (some .boolean), Cond.methodLink RX0 40 yX4_holds]
def wsX10_pass_r6 : List Cond := [Cond.instanceMethod yX4_holds, Cond.selects RX4 yX4_holds yX4_holds, Cond.initialized RX4, Cond.code yX4_holds cX4_holds 13 (some .boolean), Cond.fieldLink RX4 18 "ZoneRelay$Polygon" "defect" "I", Cond.fieldLink RX4 28 "ZoneRelay$Polygon" "size" "I", Cond.fieldLink RX4 9 "ZoneRelay$Polygon" "xs" "[I", Cond.fieldLink RX4 15 "ZoneRelay$Polygon" "ys" "[I", Cond.methodLink RX4 35 yX4_after, Cond.instanceMethod yX4_after, Cond.selects RX4 yX4_after yX4_after, Cond.code yX4_after cX4_after 2 (some .int), Cond.methodLink RX6 202 yX6_endSwing, Cond.instanceMethod yX6_endSwing, Cond.selects RX6 yX6_endSwing yX6_endSwing, Cond.code yX6_endSwing cX6_endSwing 1 none, Cond.methodLink RX6 205 yX1_note, Cond.instanceMethod yX1_note, Cond.selects RX1 yX1_note yX1_note, Cond.initialized RX1, Cond.code yX1_note cX1_note 4 none, Cond.fieldLink RX1 24 "ZoneRelay$Log" "total" "I", Cond.fieldLink RX1 9 "ZoneRelay$Log" "times" "[I", Cond.fieldLink RX1 15 "ZoneRelay$Log" "kinds" "[I"]
def wsX10_pass_r7 : List Cond := [Cond.methodLink RX1 28 yJ9_floorMod_7cf53, Cond.methodLink RX6 162 yX6_pickUpZones, Cond.instanceMethod yX6_pickUpZones, Cond.selects RX6 yX6_pickUpZones yX6_pickUpZones, Cond.code yX6_pickUpZones cX6_pickUpZones 5 none, Cond.fieldLink RX6 26 "ZoneRelay$Relay" "zones" "[LZoneRelay$Zone;", Cond.fieldLink RX6 221 "ZoneRelay$Zone" "picked" "Z", Cond.methodLink RX6 209 yX6_torque, Cond.instanceMethod yX6_torque, Cond.selects RX6 yX6_torque yX6_torque, Cond.code yX6_torque cX6_torque 10 (some .long), Cond.fieldLink RX6 33 "ZoneRelay$Relay" "network" "LZoneRelay$Network;", Cond.fieldLink RX6 224 "ZoneRelay$Network" "first" "[I", Cond.fieldLink RX6 227 "ZoneRelay$Network" "second" "[I", Cond.methodLink RX6 213 yX9_fits, Cond.instanceMethod yX9_fits, Cond.selects RX9 yX9_fits yX9_fits, Cond.initialized RX9, Cond.code yX9_fits cX9_fits 3 (some .boolean), Cond.fieldLink RX9 9 "ZoneRelay$Zone" "direction" "I", Cond.methodLink RX6 217 yX6_isBlocked, Cond.instanceMethod yX6_isBlocked, Cond.selects RX6 yX6_isBlocked yX6_isBlocked, Cond.code yX6_isBlocked cX6_isBlocked 2 (some .boolean)]
def wsX10_pass_r8 : List Cond := [Cond.static yX10_isInSet, Cond.code yX10_isInSet cX10_isInSet 2 (some .boolean), Cond.methodLink RX6 165 yX6_runTimers, Cond.instanceMethod yX6_runTimers, Cond.selects RX6 yX6_runTimers yX6_runTimers, Cond.code yX6_runTimers cX6_runTimers 2 none, Cond.fieldLink RX6 133 "ZoneRelay$Zone" "timer" "I", Cond.methodLink RX6 168 yX6_trip, Cond.instanceMethod yX6_trip, Cond.selects RX6 yX6_trip yX6_trip, Cond.code yX6_trip cX6_trip 2 none, Cond.fieldLink RX6 75 "ZoneRelay$Relay" "trippedBy" "I", Cond.fieldLink RX6 233 "ZoneRelay$Zone" "delay" "I"]
def wsX10_pass : List Cond := .code yX10_pass cX10_pass 3 (some .int) :: ((wsX10_pass_r1 ++ (wsX10_pass_r2 ++ (wsX10_pass_r3 ++ (wsX10_pass_r4 ++ (wsX10_pass_r5 ++ (wsX10_pass_r6 ++ (wsX10_pass_r7 ++ wsX10_pass_r8))))))) ++ wsX100 ++ wsX60 ++ wsX70 ++ wsX30 ++ wsX80 ++ wsX00 ++ wsX40 ++ wsX10 ++ wsX90 ++ wsX20)
def wsX10_measure_r1 : List Cond := [Cond.fieldLink RX10 10 "ZoneRelay" "relay" "LZoneRelay$Relay;", Cond.fieldLink RX10 198 "ZoneRelay$Relay" "impedance" "LZoneRelay$Impedance;", Cond.fieldLink RX10 201 "ZoneRelay$Relay" "estimate" "LZoneRelay$Phasors;", Cond.fieldLink RX10 177 "ZoneRelay$Phasors" "va" "I", Cond.fieldLink RX10 180 "ZoneRelay$Phasors" "vb" "I", Cond.fieldLink RX10 183 "ZoneRelay$Phasors" "ia" "I", Cond.fieldLink RX10 186 "ZoneRelay$Phasors" "ib" "I", Cond.fieldLink RX10 204 "ZoneRelay$Relay" "memoryA" "I", Cond.fieldLink RX10 207 "ZoneRelay$Relay" "memoryB" "I", Cond.fieldLink RX10 210 "ZoneRelay$Relay" "memoryAge" "I", Cond.fieldLink RX10 213 "ZoneRelay$Impedance" "exists" "Z", Cond.fieldLink RX10 217 "ZoneRelay$Impedance" "x" "J", Cond.constantLong RX10 225 (-1000000000000000006), Cond.fieldLink RX10 227 "ZoneRelay$Impedance" "y" "J", Cond.fieldLink RX10 230 "ZoneRelay$Relay" "between" "I", Cond.fieldLink RX10 233 "ZoneRelay$Relay" "swing" "Z", Cond.fieldLink RX10 236 "ZoneRelay$Relay" "inLoad" "Z", Cond.constantLong RX10 192 (-1000000000000000002), Cond.methodLink RX10 98 yX10_asNumber, Cond.static yX10_asNumber, Cond.initialized RX10, Cond.code yX10_asNumber cX10_asNumber 1 (some .int), Cond.methodLink RX10 221 yX0_truncated, Cond.instanceMethod yX0_truncated]
def wsX10_measure_r2 : List Cond := [Cond.selects RX0 yX0_truncated yX0_truncated, Cond.initialized RX0, Cond.code yX0_truncated cX0_truncated 3 (some .long), Cond.fieldLink RX0 7 "ZoneRelay$Impedance" "d" "J"]
def wsX10_measure : List Cond := .code yX10_measure cX10_measure 3 (some .long) :: ((wsX10_measure_r1 ++ wsX10_measure_r2) ++ wsX100 ++ wsX60 ++ wsX30 ++ wsX00)
def wsX10_state : List Cond := .code yX10_state cX10_state 4 (some .int) :: ([.fieldLink RX10 10 "ZoneRelay" "relay" "LZoneRelay$Relay;", .fieldLink RX10 111 "ZoneRelay$Relay" "zones" "[LZoneRelay$Zone;", .fieldLink RX10 239 "ZoneRelay$Zone" "picked" "Z", .fieldLink RX10 242 "ZoneRelay$Zone" "timer" "I", .fieldLink RX10 115 "ZoneRelay$Zone" "delay" "I", .methodLink RX10 245 Lib.Math.max.name, .static Lib.Math.max.name, .initialized "java/lang/Math", .code Lib.Math.max.name Lib.Math.max.code 2 (some .int), .fieldLink RX10 120 "ZoneRelay$Zone" "direction" "I", .methodLink RX10 57 yX10_outside, .static yX10_outside, .initialized RX10, .code yX10_outside cX10_outside 3 (some .boolean), .methodLink RX10 98 yX10_asNumber, .static yX10_asNumber, .code yX10_asNumber cX10_asNumber 1 (some .int)] ++ wsX100 ++ wsX60 ++ wsX90)
def wsX10_tripped : List Cond := .code yX10_tripped cX10_tripped 1 (some .int) :: ([.fieldLink RX10 10 "ZoneRelay" "relay" "LZoneRelay$Relay;", .fieldLink RX10 251 "ZoneRelay$Relay" "trippedBy" "I"] ++ wsX100 ++ wsX60)
def wsX10_reset : List Cond := .code yX10_reset cX10_reset 2 (some .int) :: ([.fieldLink RX10 10 "ZoneRelay" "relay" "LZoneRelay$Relay;", .fieldLink RX10 251 "ZoneRelay$Relay" "trippedBy" "I", .methodLink RX10 254 yX6_rearm, .instanceMethod yX6_rearm, .selects RX6 yX6_rearm yX6_rearm, .initialized RX6, .code yX6_rearm cX6_rearm 2 none, .fieldLink RX6 75 "ZoneRelay$Relay" "trippedBy" "I", .fieldLink RX6 26 "ZoneRelay$Relay" "zones" "[LZoneRelay$Zone;", .fieldLink RX6 133 "ZoneRelay$Zone" "timer" "I"] ++ wsX100 ++ wsX60 ++ wsX90)
def wsX10_event : List Cond := .code yX10_event cX10_event 4 (some .int) :: ([.fieldLink RX10 10 "ZoneRelay" "relay" "LZoneRelay$Relay;", .fieldLink RX10 257 "ZoneRelay$Relay" "log" "LZoneRelay$Log;", .fieldLink RX10 266 "ZoneRelay$Log" "times" "[I", .fieldLink RX10 269 "ZoneRelay$Log" "kinds" "[I", .methodLink RX10 57 yX10_outside, .static yX10_outside, .initialized RX10, .code yX10_outside cX10_outside 3 (some .boolean), .methodLink RX10 261 yX1_keeps, .instanceMethod yX1_keeps, .selects RX1 yX1_keeps yX1_keeps, .initialized RX1, .code yX1_keeps cX1_keeps 2 (some .boolean), .fieldLink RX1 24 "ZoneRelay$Log" "total" "I"] ++ wsX100 ++ wsX60 ++ wsX10)
def wsX10_zonesOfFault_r1 : List Cond := [Cond.fieldLink RX10 10 "ZoneRelay" "relay" "LZoneRelay$Relay;", Cond.fieldLink RX10 149 "ZoneRelay$Relay" "network" "LZoneRelay$Network;", Cond.fieldLink RX10 26 "ZoneRelay" "faulted" "LZoneRelay$Phasors;", Cond.fieldLink RX10 36 "ZoneRelay" "seen" "LZoneRelay$Impedance;", Cond.fieldLink RX10 108 "ZoneRelay$Relay" "settings" "[I", Cond.fieldLink RX10 65 "ZoneRelay$Relay" "polygons" "[LZoneRelay$Polygon;", Cond.methodLink RX10 165 yX2_findFaulted, Cond.instanceMethod yX2_findFaulted, Cond.selects RX2 yX2_findFaulted yX2_findFaulted, Cond.initialized RX2, Cond.code yX2_findFaulted cX2_findFaulted 4 (some .boolean), Cond.fieldLink RX2 9 "ZoneRelay$Network" "first" "[I", Cond.fieldLink RX2 15 "ZoneRelay$Network" "second" "[I", Cond.methodLink RX2 24 yX2_solve, Cond.instanceMethod yX2_solve, Cond.selects RX2 yX2_solve yX2_solve, Cond.code yX2_solve cX2_solve 24 (some .boolean), Cond.constantLong RX2 28 (1000), Cond.constantLong RX2 30 (-1000), Cond.methodLink RX2 32 yX2_limited, Cond.static yX2_limited, Cond.code yX2_limited cX2_limited 2 (some .int), Cond.constantLong RX2 42 (-20000), Cond.constantLong RX2 44 (20000)]
def wsX10_zonesOfFault_r2 : List Cond := [Cond.methodLink RX2 46 Lib.MathLoose.min_long.x, Cond.static Lib.MathLoose.min_long.x, Cond.initialized "java/lang/Math", Cond.code Lib.MathLoose.min_long.x Lib.MathLoose.min_long.code 4 (some .long), Cond.methodLink RX2 52 Lib.MathLoose.max_long.x, Cond.static Lib.MathLoose.max_long.x, Cond.code Lib.MathLoose.max_long.x Lib.MathLoose.max_long.code 4 (some .long), Cond.methodLink RX2 36 yX3_put, Cond.instanceMethod yX3_put, Cond.selects RX3 yX3_put yX3_put, Cond.initialized RX3, Cond.code yX3_put cX3_put 5 none, Cond.fieldLink RX3 7 "ZoneRelay$Phasors" "va" "I", Cond.fieldLink RX3 13 "ZoneRelay$Phasors" "vb" "I", Cond.fieldLink RX3 16 "ZoneRelay$Phasors" "ia" "I", Cond.fieldLink RX3 19 "ZoneRelay$Phasors" "ib" "I", Cond.methodLink RX10 316 yX0_become, Cond.instanceMethod yX0_become, Cond.selects RX0 yX0_become yX0_become, Cond.initialized RX0, Cond.code yX0_become cX0_become 11 none, Cond.fieldLink RX0 23 "ZoneRelay$Phasors" "va" "I", Cond.fieldLink RX0 29 "ZoneRelay$Phasors" "vb" "I", Cond.fieldLink RX0 32 "ZoneRelay$Phasors" "ia" "I"]
def wsX10_zonesOfFault_r3 : List Cond := [Cond.fieldLink RX0 35 "ZoneRelay$Phasors" "ib" "I", Cond.fieldLink RX0 7 "ZoneRelay$Impedance" "d" "J", Cond.constantLong RX0 38 (1000), Cond.fieldLink RX0 17 "ZoneRelay$Impedance" "x" "J", Cond.fieldLink RX0 20 "ZoneRelay$Impedance" "y" "J", Cond.fieldLink RX0 13 "ZoneRelay$Impedance" "exists" "Z", Cond.methodLink RX10 320 yX0_isIn, Cond.instanceMethod yX0_isIn, Cond.selects RX0 yX0_isIn yX0_isIn, Cond.code yX0_isIn cX0_isIn 2 (some .boolean), Cond.methodLink RX0 40 yX4_holds, Cond.instanceMethod yX4_holds, Cond.selects RX4 yX4_holds yX4_holds, Cond.initialized RX4, Cond.code yX4_holds cX4_holds 13 (some .boolean), Cond.fieldLink RX4 18 "ZoneRelay$Polygon" "defect" "I", Cond.fieldLink RX4 28 "ZoneRelay$Polygon" "size" "I", Cond.fieldLink RX4 9 "ZoneRelay$Polygon" "xs" "[I", Cond.fieldLink RX4 15 "ZoneRelay$Polygon" "ys" "[I", Cond.methodLink RX4 35 yX4_after, Cond.instanceMethod yX4_after, Cond.selects RX4 yX4_after yX4_after, Cond.code yX4_after cX4_after 2 (some .int)]
def wsX10_zonesOfFault : List Cond := .code yX10_zonesOfFault cX10_zonesOfFault 5 (some .int) :: ((wsX10_zonesOfFault_r1 ++ (wsX10_zonesOfFault_r2 ++ wsX10_zonesOfFault_r3)) ++ wsX100 ++ wsX60 ++ wsX20 ++ wsX30 ++ wsX00 ++ wsX40)
def wsX10_covers_r1 : List Cond := [Cond.methodLink RX10 161 yX10_isNoFault, Cond.static yX10_isNoFault, Cond.initialized RX10, Cond.code yX10_isNoFault cX10_isNoFault 2 (some .boolean), Cond.methodLink RX10 57 yX10_outside, Cond.static yX10_outside, Cond.code yX10_outside cX10_outside 3 (some .boolean), Cond.methodLink RX10 272 yX10_zonesOfFault, Cond.instanceMethod yX10_zonesOfFault, Cond.selects RX10 yX10_zonesOfFault yX10_zonesOfFault, Cond.code yX10_zonesOfFault cX10_zonesOfFault 5 (some .int), Cond.fieldLink RX10 10 "ZoneRelay" "relay" "LZoneRelay$Relay;", Cond.fieldLink RX10 149 "ZoneRelay$Relay" "network" "LZoneRelay$Network;", Cond.fieldLink RX10 26 "ZoneRelay" "faulted" "LZoneRelay$Phasors;", Cond.fieldLink RX10 36 "ZoneRelay" "seen" "LZoneRelay$Impedance;", Cond.fieldLink RX10 108 "ZoneRelay$Relay" "settings" "[I", Cond.fieldLink RX10 65 "ZoneRelay$Relay" "polygons" "[LZoneRelay$Polygon;", Cond.methodLink RX10 165 yX2_findFaulted, Cond.instanceMethod yX2_findFaulted, Cond.selects RX2 yX2_findFaulted yX2_findFaulted, Cond.initialized RX2, Cond.code yX2_findFaulted cX2_findFaulted 4 (some .boolean), Cond.fieldLink RX2 9 "ZoneRelay$Network" "first" "[I", Cond.fieldLink RX2 15 "ZoneRelay$Network" "second" "[I"]
def wsX10_covers_r2 : List Cond := [Cond.methodLink RX2 24 yX2_solve, Cond.instanceMethod yX2_solve, Cond.selects RX2 yX2_solve yX2_solve, Cond.code yX2_solve cX2_solve 24 (some .boolean), Cond.constantLong RX2 28 (1000), Cond.constantLong RX2 30 (-1000), Cond.methodLink RX2 32 yX2_limited, Cond.static yX2_limited, Cond.code yX2_limited cX2_limited 2 (some .int), Cond.constantLong RX2 42 (-20000), Cond.constantLong RX2 44 (20000), Cond.methodLink RX2 46 Lib.MathLoose.min_long.x, Cond.static Lib.MathLoose.min_long.x, Cond.initialized "java/lang/Math", Cond.code Lib.MathLoose.min_long.x Lib.MathLoose.min_long.code 4 (some .long), Cond.methodLink RX2 52 Lib.MathLoose.max_long.x, Cond.static Lib.MathLoose.max_long.x, Cond.code Lib.MathLoose.max_long.x Lib.MathLoose.max_long.code 4 (some .long), Cond.methodLink RX2 36 yX3_put, Cond.instanceMethod yX3_put, Cond.selects RX3 yX3_put yX3_put, Cond.initialized RX3, Cond.code yX3_put cX3_put 5 none, Cond.fieldLink RX3 7 "ZoneRelay$Phasors" "va" "I"]
def wsX10_covers_r3 : List Cond := [Cond.fieldLink RX3 13 "ZoneRelay$Phasors" "vb" "I", Cond.fieldLink RX3 16 "ZoneRelay$Phasors" "ia" "I", Cond.fieldLink RX3 19 "ZoneRelay$Phasors" "ib" "I", Cond.methodLink RX10 316 yX0_become, Cond.instanceMethod yX0_become, Cond.selects RX0 yX0_become yX0_become, Cond.initialized RX0, Cond.code yX0_become cX0_become 11 none, Cond.fieldLink RX0 23 "ZoneRelay$Phasors" "va" "I", Cond.fieldLink RX0 29 "ZoneRelay$Phasors" "vb" "I", Cond.fieldLink RX0 32 "ZoneRelay$Phasors" "ia" "I", Cond.fieldLink RX0 35 "ZoneRelay$Phasors" "ib" "I", Cond.fieldLink RX0 7 "ZoneRelay$Impedance" "d" "J", Cond.constantLong RX0 38 (1000), Cond.fieldLink RX0 17 "ZoneRelay$Impedance" "x" "J", Cond.fieldLink RX0 20 "ZoneRelay$Impedance" "y" "J", Cond.fieldLink RX0 13 "ZoneRelay$Impedance" "exists" "Z", Cond.methodLink RX10 320 yX0_isIn, Cond.instanceMethod yX0_isIn, Cond.selects RX0 yX0_isIn yX0_isIn, Cond.code yX0_isIn cX0_isIn 2 (some .boolean), Cond.methodLink RX0 40 yX4_holds, Cond.instanceMethod yX4_holds, Cond.selects RX4 yX4_holds yX4_holds]
def wsX10_covers_r4 : List Cond := [Cond.initialized RX4, Cond.code yX4_holds cX4_holds 13 (some .boolean), Cond.fieldLink RX4 18 "ZoneRelay$Polygon" "defect" "I", Cond.fieldLink RX4 28 "ZoneRelay$Polygon" "size" "I", Cond.fieldLink RX4 9 "ZoneRelay$Polygon" "xs" "[I", Cond.fieldLink RX4 15 "ZoneRelay$Polygon" "ys" "[I", Cond.methodLink RX4 35 yX4_after, Cond.instanceMethod yX4_after, Cond.selects RX4 yX4_after yX4_after, Cond.code yX4_after cX4_after 2 (some .int)]
def wsX10_covers : List Cond := .code yX10_covers cX10_covers 3 (some .int) :: ((wsX10_covers_r1 ++ (wsX10_covers_r2 ++ (wsX10_covers_r3 ++ wsX10_covers_r4))) ++ wsX100 ++ wsX60 ++ wsX20 ++ wsX30 ++ wsX00 ++ wsX40)
def wsX10_reach_r1 : List Cond := [Cond.methodLink RX10 57 yX10_outside, Cond.static yX10_outside, Cond.initialized RX10, Cond.code yX10_outside cX10_outside 3 (some .boolean), Cond.methodLink RX10 272 yX10_zonesOfFault, Cond.instanceMethod yX10_zonesOfFault, Cond.selects RX10 yX10_zonesOfFault yX10_zonesOfFault, Cond.code yX10_zonesOfFault cX10_zonesOfFault 5 (some .int), Cond.fieldLink RX10 10 "ZoneRelay" "relay" "LZoneRelay$Relay;", Cond.fieldLink RX10 149 "ZoneRelay$Relay" "network" "LZoneRelay$Network;", Cond.fieldLink RX10 26 "ZoneRelay" "faulted" "LZoneRelay$Phasors;", Cond.fieldLink RX10 36 "ZoneRelay" "seen" "LZoneRelay$Impedance;", Cond.fieldLink RX10 108 "ZoneRelay$Relay" "settings" "[I", Cond.fieldLink RX10 65 "ZoneRelay$Relay" "polygons" "[LZoneRelay$Polygon;", Cond.methodLink RX10 165 yX2_findFaulted, Cond.instanceMethod yX2_findFaulted, Cond.selects RX2 yX2_findFaulted yX2_findFaulted, Cond.initialized RX2, Cond.code yX2_findFaulted cX2_findFaulted 4 (some .boolean), Cond.fieldLink RX2 9 "ZoneRelay$Network" "first" "[I", Cond.fieldLink RX2 15 "ZoneRelay$Network" "second" "[I", Cond.methodLink RX2 24 yX2_solve, Cond.instanceMethod yX2_solve, Cond.selects RX2 yX2_solve yX2_solve]
def wsX10_reach_r2 : List Cond := [Cond.code yX2_solve cX2_solve 24 (some .boolean), Cond.constantLong RX2 28 (1000), Cond.constantLong RX2 30 (-1000), Cond.methodLink RX2 32 yX2_limited, Cond.static yX2_limited, Cond.code yX2_limited cX2_limited 2 (some .int), Cond.constantLong RX2 42 (-20000), Cond.constantLong RX2 44 (20000), Cond.methodLink RX2 46 Lib.MathLoose.min_long.x, Cond.static Lib.MathLoose.min_long.x, Cond.initialized "java/lang/Math", Cond.code Lib.MathLoose.min_long.x Lib.MathLoose.min_long.code 4 (some .long), Cond.methodLink RX2 52 Lib.MathLoose.max_long.x, Cond.static Lib.MathLoose.max_long.x, Cond.code Lib.MathLoose.max_long.x Lib.MathLoose.max_long.code 4 (some .long), Cond.methodLink RX2 36 yX3_put, Cond.instanceMethod yX3_put, Cond.selects RX3 yX3_put yX3_put, Cond.initialized RX3, Cond.code yX3_put cX3_put 5 none, Cond.fieldLink RX3 7 "ZoneRelay$Phasors" "va" "I", Cond.fieldLink RX3 13 "ZoneRelay$Phasors" "vb" "I", Cond.fieldLink RX3 16 "ZoneRelay$Phasors" "ia" "I", Cond.fieldLink RX3 19 "ZoneRelay$Phasors" "ib" "I"]
def wsX10_reach_r3 : List Cond := [Cond.methodLink RX10 316 yX0_become, Cond.instanceMethod yX0_become, Cond.selects RX0 yX0_become yX0_become, Cond.initialized RX0, Cond.code yX0_become cX0_become 11 none, Cond.fieldLink RX0 23 "ZoneRelay$Phasors" "va" "I", Cond.fieldLink RX0 29 "ZoneRelay$Phasors" "vb" "I", Cond.fieldLink RX0 32 "ZoneRelay$Phasors" "ia" "I", Cond.fieldLink RX0 35 "ZoneRelay$Phasors" "ib" "I", Cond.fieldLink RX0 7 "ZoneRelay$Impedance" "d" "J", Cond.constantLong RX0 38 (1000), Cond.fieldLink RX0 17 "ZoneRelay$Impedance" "x" "J", Cond.fieldLink RX0 20 "ZoneRelay$Impedance" "y" "J", Cond.fieldLink RX0 13 "ZoneRelay$Impedance" "exists" "Z", Cond.methodLink RX10 320 yX0_isIn, Cond.instanceMethod yX0_isIn, Cond.selects RX0 yX0_isIn yX0_isIn, Cond.code yX0_isIn cX0_isIn 2 (some .boolean), Cond.methodLink RX0 40 yX4_holds, Cond.instanceMethod yX4_holds, Cond.selects RX4 yX4_holds yX4_holds, Cond.initialized RX4, Cond.code yX4_holds cX4_holds 13 (some .boolean), Cond.fieldLink RX4 18 "ZoneRelay$Polygon" "defect" "I"]
def wsX10_reach_r4 : List Cond := [Cond.fieldLink RX4 28 "ZoneRelay$Polygon" "size" "I", Cond.fieldLink RX4 9 "ZoneRelay$Polygon" "xs" "[I", Cond.fieldLink RX4 15 "ZoneRelay$Polygon" "ys" "[I", Cond.methodLink RX4 35 yX4_after, Cond.instanceMethod yX4_after, Cond.selects RX4 yX4_after yX4_after, Cond.code yX4_after cX4_after 2 (some .int), Cond.methodLink RX10 275 yX10_isInSet, Cond.static yX10_isInSet, Cond.code yX10_isInSet cX10_isInSet 2 (some .boolean)]
def wsX10_reach : List Cond := .code yX10_reach cX10_reach 6 (some .int) :: ((wsX10_reach_r1 ++ (wsX10_reach_r2 ++ (wsX10_reach_r3 ++ wsX10_reach_r4))) ++ wsX100 ++ wsX60 ++ wsX20 ++ wsX30 ++ wsX00 ++ wsX40)
def wsX10_test_r1 : List Cond := [Cond.fieldLink RX10 10 "ZoneRelay" "relay" "LZoneRelay$Relay;", Cond.fieldLink RX10 149 "ZoneRelay$Relay" "network" "LZoneRelay$Network;", Cond.fieldLink RX10 26 "ZoneRelay" "faulted" "LZoneRelay$Phasors;", Cond.fieldLink RX10 30 "ZoneRelay" "unfaulted" "LZoneRelay$Phasors;", Cond.fieldLink RX10 16 "ZoneRelay" "copy" "LZoneRelay$Relay;", Cond.fieldLink RX10 123 "ZoneRelay$Relay" "signal" "LZoneRelay$Signal;", Cond.fieldLink RX10 251 "ZoneRelay$Relay" "trippedBy" "I", Cond.methodLink RX10 161 yX10_isNoFault, Cond.static yX10_isNoFault, Cond.initialized RX10, Cond.code yX10_isNoFault cX10_isNoFault 2 (some .boolean), Cond.methodLink RX10 57 yX10_outside, Cond.static yX10_outside, Cond.code yX10_outside cX10_outside 3 (some .boolean), Cond.methodLink RX10 165 yX2_findFaulted, Cond.instanceMethod yX2_findFaulted, Cond.selects RX2 yX2_findFaulted yX2_findFaulted, Cond.initialized RX2, Cond.code yX2_findFaulted cX2_findFaulted 4 (some .boolean), Cond.fieldLink RX2 9 "ZoneRelay$Network" "first" "[I", Cond.fieldLink RX2 15 "ZoneRelay$Network" "second" "[I", Cond.methodLink RX2 24 yX2_solve, Cond.instanceMethod yX2_solve, Cond.selects RX2 yX2_solve yX2_solve]
def wsX10_test_r2 : List Cond := [Cond.code yX2_solve cX2_solve 24 (some .boolean), Cond.constantLong RX2 28 (1000), Cond.constantLong RX2 30 (-1000), Cond.methodLink RX2 32 yX2_limited, Cond.static yX2_limited, Cond.code yX2_limited cX2_limited 2 (some .int), Cond.constantLong RX2 42 (-20000), Cond.constantLong RX2 44 (20000), Cond.methodLink RX2 46 Lib.MathLoose.min_long.x, Cond.static Lib.MathLoose.min_long.x, Cond.initialized "java/lang/Math", Cond.code Lib.MathLoose.min_long.x Lib.MathLoose.min_long.code 4 (some .long), Cond.methodLink RX2 52 Lib.MathLoose.max_long.x, Cond.static Lib.MathLoose.max_long.x, Cond.code Lib.MathLoose.max_long.x Lib.MathLoose.max_long.code 4 (some .long), Cond.methodLink RX2 36 yX3_put, Cond.instanceMethod yX3_put, Cond.selects RX3 yX3_put yX3_put, Cond.initialized RX3, Cond.code yX3_put cX3_put 5 none, Cond.fieldLink RX3 7 "ZoneRelay$Phasors" "va" "I", Cond.fieldLink RX3 13 "ZoneRelay$Phasors" "vb" "I", Cond.fieldLink RX3 16 "ZoneRelay$Phasors" "ia" "I", Cond.fieldLink RX3 19 "ZoneRelay$Phasors" "ib" "I"]
def wsX10_test_r3 : List Cond := [Cond.methodLink RX10 173 yX2_findUnfaulted, Cond.instanceMethod yX2_findUnfaulted, Cond.selects RX2 yX2_findUnfaulted yX2_findUnfaulted, Cond.code yX2_findUnfaulted cX2_findUnfaulted 2 (some .boolean), Cond.methodLink RX10 278 yX6_becomeLike, Cond.instanceMethod yX6_becomeLike, Cond.selects RX6 yX6_becomeLike yX6_becomeLike, Cond.initialized RX6, Cond.code yX6_becomeLike cX6_becomeLike 3 none, Cond.fieldLink RX6 11 "ZoneRelay$Relay" "polygons" "[LZoneRelay$Polygon;", Cond.fieldLink RX6 26 "ZoneRelay$Relay" "zones" "[LZoneRelay$Zone;", Cond.fieldLink RX6 17 "ZoneRelay$Relay" "settings" "[I", Cond.methodLink RX6 87 arraycopyName, Cond.native arraycopyName, Cond.static arraycopyName, Cond.initialized "java/lang/System", Cond.fieldLink RX6 33 "ZoneRelay$Relay" "network" "LZoneRelay$Network;", Cond.fieldLink RX6 40 "ZoneRelay$Relay" "signal" "LZoneRelay$Signal;", Cond.fieldLink RX6 47 "ZoneRelay$Relay" "voltage" "LZoneRelay$Window;", Cond.fieldLink RX6 51 "ZoneRelay$Relay" "current" "LZoneRelay$Window;", Cond.fieldLink RX6 57 "ZoneRelay$Relay" "estimate" "LZoneRelay$Phasors;", Cond.fieldLink RX6 64 "ZoneRelay$Relay" "impedance" "LZoneRelay$Impedance;", Cond.fieldLink RX6 71 "ZoneRelay$Relay" "log" "LZoneRelay$Log;", Cond.fieldLink RX6 111 "ZoneRelay$Relay" "memoryA" "I"]
def wsX10_test_r4 : List Cond := [Cond.fieldLink RX6 114 "ZoneRelay$Relay" "memoryB" "I", Cond.fieldLink RX6 117 "ZoneRelay$Relay" "memoryAge" "I", Cond.fieldLink RX6 120 "ZoneRelay$Relay" "between" "I", Cond.fieldLink RX6 123 "ZoneRelay$Relay" "swing" "Z", Cond.fieldLink RX6 127 "ZoneRelay$Relay" "inLoad" "Z", Cond.fieldLink RX6 75 "ZoneRelay$Relay" "trippedBy" "I", Cond.fieldLink RX6 130 "ZoneRelay$Relay" "time" "I", Cond.methodLink RX6 80 yX4_becomeLike, Cond.instanceMethod yX4_becomeLike, Cond.selects RX4 yX4_becomeLike yX4_becomeLike, Cond.initialized RX4, Cond.code yX4_becomeLike cX4_becomeLike 2 none, Cond.fieldLink RX4 9 "ZoneRelay$Polygon" "xs" "[I", Cond.methodLink RX4 22 arraycopyName, Cond.fieldLink RX4 15 "ZoneRelay$Polygon" "ys" "[I", Cond.fieldLink RX4 28 "ZoneRelay$Polygon" "size" "I", Cond.fieldLink RX4 18 "ZoneRelay$Polygon" "defect" "I", Cond.methodLink RX6 84 yX9_becomeLike, Cond.instanceMethod yX9_becomeLike, Cond.selects RX9 yX9_becomeLike yX9_becomeLike, Cond.initialized RX9, Cond.code yX9_becomeLike cX9_becomeLike 2 none, Cond.fieldLink RX9 15 "ZoneRelay$Zone" "delay" "I", Cond.fieldLink RX9 9 "ZoneRelay$Zone" "direction" "I"]
def wsX10_test_r5 : List Cond := [Cond.fieldLink RX9 18 "ZoneRelay$Zone" "timer" "I", Cond.fieldLink RX9 21 "ZoneRelay$Zone" "picked" "Z", Cond.methodLink RX6 93 yX2_becomeLike, Cond.instanceMethod yX2_becomeLike, Cond.selects RX2 yX2_becomeLike yX2_becomeLike, Cond.code yX2_becomeLike cX2_becomeLike 2 none, Cond.methodLink RX2 18 arraycopyName, Cond.methodLink RX6 96 yX7_becomeLike, Cond.instanceMethod yX7_becomeLike, Cond.selects RX7 yX7_becomeLike yX7_becomeLike, Cond.initialized RX7, Cond.code yX7_becomeLike cX7_becomeLike 2 none, Cond.fieldLink RX7 10 "ZoneRelay$Signal" "now" "LZoneRelay$Phasors;", Cond.fieldLink RX7 16 "ZoneRelay$Signal" "from" "LZoneRelay$Phasors;", Cond.fieldLink RX7 19 "ZoneRelay$Signal" "to" "LZoneRelay$Phasors;", Cond.fieldLink RX7 26 "ZoneRelay$Signal" "length" "I", Cond.fieldLink RX7 30 "ZoneRelay$Signal" "left" "I", Cond.methodLink RX7 22 yX3_becomeLike, Cond.instanceMethod yX3_becomeLike, Cond.selects RX3 yX3_becomeLike yX3_becomeLike, Cond.code yX3_becomeLike cX3_becomeLike 2 none, Cond.methodLink RX3 22 yX3_put, Cond.methodLink RX6 99 yX8_becomeLike, Cond.instanceMethod yX8_becomeLike]
def wsX10_test_r6 : List Cond := [Cond.selects RX8 yX8_becomeLike yX8_becomeLike, Cond.initialized RX8, Cond.code yX8_becomeLike cX8_becomeLike 2 none, Cond.fieldLink RX8 9 "ZoneRelay$Window" "samples" "[I", Cond.methodLink RX8 15 arraycopyName, Cond.fieldLink RX8 21 "ZoneRelay$Window" "cosineSum" "J", Cond.fieldLink RX8 25 "ZoneRelay$Window" "sineSum" "J", Cond.methodLink RX6 102 yX3_becomeLike, Cond.methodLink RX6 105 yX0_becomeLike, Cond.instanceMethod yX0_becomeLike, Cond.selects RX0 yX0_becomeLike yX0_becomeLike, Cond.initialized RX0, Cond.code yX0_becomeLike cX0_becomeLike 2 none, Cond.fieldLink RX0 13 "ZoneRelay$Impedance" "exists" "Z", Cond.fieldLink RX0 17 "ZoneRelay$Impedance" "x" "J", Cond.fieldLink RX0 20 "ZoneRelay$Impedance" "y" "J", Cond.fieldLink RX0 7 "ZoneRelay$Impedance" "d" "J", Cond.methodLink RX6 108 yX1_becomeLike, Cond.instanceMethod yX1_becomeLike, Cond.selects RX1 yX1_becomeLike yX1_becomeLike, Cond.initialized RX1, Cond.code yX1_becomeLike cX1_becomeLike 2 none, Cond.fieldLink RX1 9 "ZoneRelay$Log" "times" "[I", Cond.methodLink RX1 18 arraycopyName]
def wsX10_test_r7 : List Cond := [Cond.fieldLink RX1 15 "ZoneRelay$Log" "kinds" "[I", Cond.fieldLink RX1 24 "ZoneRelay$Log" "total" "I", Cond.methodLink RX10 254 yX6_rearm, Cond.instanceMethod yX6_rearm, Cond.selects RX6 yX6_rearm yX6_rearm, Cond.code yX6_rearm cX6_rearm 2 none, Cond.fieldLink RX6 133 "ZoneRelay$Zone" "timer" "I", Cond.methodLink RX10 169 yX7_jumpTo, Cond.instanceMethod yX7_jumpTo, Cond.selects RX7 yX7_jumpTo yX7_jumpTo, Cond.code yX7_jumpTo cX7_jumpTo 2 none, Cond.methodLink RX7 33 yX7_endRamp, Cond.instanceMethod yX7_endRamp, Cond.selects RX7 yX7_endRamp yX7_endRamp, Cond.code yX7_endRamp cX7_endRamp 1 none, Cond.methodLink RX10 282 yX6_samplesUntilTrip, Cond.instanceMethod yX6_samplesUntilTrip, Cond.selects RX6 yX6_samplesUntilTrip yX6_samplesUntilTrip, Cond.code yX6_samplesUntilTrip cX6_samplesUntilTrip 3 (some .int), Cond.methodLink RX6 136 yX6_takeSample, Cond.instanceMethod yX6_takeSample, Cond.selects RX6 yX6_takeSample yX6_takeSample, Cond.code yX6_takeSample cX6_takeSample 1 none, Cond.fieldLink RX6 142 "ZoneRelay$Signal" "now" "LZoneRelay$Phasors;"]
def wsX10_test_r8 : List Cond := [Cond.methodLink RX6 139 yX7_advance, Cond.instanceMethod yX7_advance, Cond.selects RX7 yX7_advance yX7_advance, Cond.code yX7_advance cX7_advance 1 none, Cond.fieldLink RX7 36 "ZoneRelay$Phasors" "va" "I", Cond.fieldLink RX7 43 "ZoneRelay$Phasors" "vb" "I", Cond.fieldLink RX7 46 "ZoneRelay$Phasors" "ia" "I", Cond.fieldLink RX7 49 "ZoneRelay$Phasors" "ib" "I", Cond.methodLink RX7 39 yX7_onTheWay, Cond.instanceMethod yX7_onTheWay, Cond.selects RX7 yX7_onTheWay yX7_onTheWay, Cond.code yX7_onTheWay cX7_onTheWay 3 (some .int), Cond.methodLink RX7 52 yX3_put, Cond.methodLink RX6 145 yX6_estimateFrom, Cond.instanceMethod yX6_estimateFrom, Cond.selects RX6 yX6_estimateFrom yX6_estimateFrom, Cond.code yX6_estimateFrom cX6_estimateFrom 2 none, Cond.fieldLink RX6 171 "ZoneRelay$Phasors" "va" "I", Cond.fieldLink RX6 174 "ZoneRelay$Phasors" "vb" "I", Cond.fieldLink RX6 181 "ZoneRelay$Phasors" "ia" "I", Cond.fieldLink RX6 184 "ZoneRelay$Phasors" "ib" "I", Cond.methodLink RX6 177 yX8_take, Cond.instanceMethod yX8_take, Cond.selects RX8 yX8_take yX8_take]
def wsX10_test_r9 : List Cond := [Cond.code yX8_take cX8_take 10 none, Cond.methodLink RX8 28 yJ9_floorMod_7cf53, Cond.static yJ9_floorMod_7cf53, Cond.initialized RJ9, Cond.code yJ9_floorMod_7cf53 cJ9_floorMod_7cf53 3 (some .int), Cond.methodLink RX6 187 yX8_estimateA, Cond.instanceMethod yX8_estimateA, Cond.selects RX8 yX8_estimateA yX8_estimateA, Cond.code yX8_estimateA cX8_estimateA 1 (some .int), Cond.constantLong RX8 37 (49152), Cond.methodLink RX6 191 yX8_estimateB, Cond.instanceMethod yX8_estimateB, Cond.selects RX8 yX8_estimateB yX8_estimateB, Cond.code yX8_estimateB cX8_estimateB 1 (some .int), Cond.methodLink RX6 194 yX3_put, Cond.methodLink RX6 148 yX6_remember, Cond.instanceMethod yX6_remember, Cond.selects RX6 yX6_remember yX6_remember, Cond.code yX6_remember cX6_remember 7 none, Cond.methodLink RX6 151 yX0_become, Cond.instanceMethod yX0_become, Cond.selects RX0 yX0_become yX0_become, Cond.code yX0_become cX0_become 11 none, Cond.fieldLink RX0 23 "ZoneRelay$Phasors" "va" "I"]
def wsX10_test_r10 : List Cond := [Cond.fieldLink RX0 29 "ZoneRelay$Phasors" "vb" "I", Cond.fieldLink RX0 32 "ZoneRelay$Phasors" "ia" "I", Cond.fieldLink RX0 35 "ZoneRelay$Phasors" "ib" "I", Cond.constantLong RX0 38 (1000), Cond.methodLink RX6 155 yX0_isInLoad, Cond.instanceMethod yX0_isInLoad, Cond.selects RX0 yX0_isInLoad yX0_isInLoad, Cond.code yX0_isInLoad cX0_isInLoad 3 (some .boolean), Cond.methodLink RX0 46 Lib.MathLoose.abs_long.x, Cond.static Lib.MathLoose.abs_long.x, Cond.code Lib.MathLoose.abs_long.x Lib.MathLoose.abs_long.code 2 (some .long), Cond.methodLink RX6 159 yX6_watchSwing, Cond.instanceMethod yX6_watchSwing, Cond.selects RX6 yX6_watchSwing yX6_watchSwing, Cond.code yX6_watchSwing cX6_watchSwing 1 none, Cond.methodLink RX6 198 yX0_isIn, Cond.instanceMethod yX0_isIn, Cond.selects RX0 yX0_isIn yX0_isIn, Cond.code yX0_isIn cX0_isIn 2 (some .boolean), Cond.methodLink RX0 40 yX4_holds, Cond.instanceMethod yX4_holds, Cond.selects RX4 yX4_holds yX4_holds, Cond.code yX4_holds cX4_holds 13 (some .boolean), Cond.methodLink RX4 35 yX4_after]
def wsX10_test_r11 : List Cond := [Cond.instanceMethod yX4_after, Cond.selects RX4 yX4_after yX4_after, Cond.code yX4_after cX4_after 2 (some .int), Cond.methodLink RX6 202 yX6_endSwing, Cond.instanceMethod yX6_endSwing, Cond.selects RX6 yX6_endSwing yX6_endSwing, Cond.code yX6_endSwing cX6_endSwing 1 none, Cond.methodLink RX6 205 yX1_note, Cond.instanceMethod yX1_note, Cond.selects RX1 yX1_note yX1_note, Cond.code yX1_note cX1_note 4 none, Cond.methodLink RX1 28 yJ9_floorMod_7cf53, Cond.methodLink RX6 162 yX6_pickUpZones, Cond.instanceMethod yX6_pickUpZones, Cond.selects RX6 yX6_pickUpZones yX6_pickUpZones, Cond.code yX6_pickUpZones cX6_pickUpZones 5 none, Cond.fieldLink RX6 221 "ZoneRelay$Zone" "picked" "Z", Cond.methodLink RX6 209 yX6_torque, Cond.instanceMethod yX6_torque, Cond.selects RX6 yX6_torque yX6_torque, Cond.code yX6_torque cX6_torque 10 (some .long), Cond.fieldLink RX6 224 "ZoneRelay$Network" "first" "[I", Cond.fieldLink RX6 227 "ZoneRelay$Network" "second" "[I", Cond.methodLink RX6 213 yX9_fits]
def wsX10_test_r12 : List Cond := [Cond.instanceMethod yX9_fits, Cond.selects RX9 yX9_fits yX9_fits, Cond.code yX9_fits cX9_fits 3 (some .boolean), Cond.methodLink RX6 217 yX6_isBlocked, Cond.instanceMethod yX6_isBlocked, Cond.selects RX6 yX6_isBlocked yX6_isBlocked, Cond.code yX6_isBlocked cX6_isBlocked 2 (some .boolean), Cond.static yX10_isInSet, Cond.code yX10_isInSet cX10_isInSet 2 (some .boolean), Cond.methodLink RX6 165 yX6_runTimers, Cond.instanceMethod yX6_runTimers, Cond.selects RX6 yX6_runTimers yX6_runTimers, Cond.code yX6_runTimers cX6_runTimers 2 none, Cond.methodLink RX6 168 yX6_trip, Cond.instanceMethod yX6_trip, Cond.selects RX6 yX6_trip yX6_trip, Cond.code yX6_trip cX6_trip 2 none, Cond.fieldLink RX6 233 "ZoneRelay$Zone" "delay" "I"]
def wsX10_test : List Cond := .code yX10_test cX10_test 6 (some .int) :: ((wsX10_test_r1 ++ (wsX10_test_r2 ++ (wsX10_test_r3 ++ (wsX10_test_r4 ++ (wsX10_test_r5 ++ (wsX10_test_r6 ++ (wsX10_test_r7 ++ (wsX10_test_r8 ++ (wsX10_test_r9 ++ (wsX10_test_r10 ++ (wsX10_test_r11 ++ wsX10_test_r12))))))))))) ++ wsX100 ++ wsX60 ++ wsX20 ++ wsX30 ++ wsX40 ++ wsX90 ++ wsX70 ++ wsX80 ++ wsX00 ++ wsX10)
def wsX10_forecast_r1 : List Cond := [Cond.fieldLink RX10 16 "ZoneRelay" "copy" "LZoneRelay$Relay;", Cond.fieldLink RX10 10 "ZoneRelay" "relay" "LZoneRelay$Relay;", Cond.methodLink RX10 57 yX10_outside, Cond.static yX10_outside, Cond.initialized RX10, Cond.code yX10_outside cX10_outside 3 (some .boolean), Cond.methodLink RX10 278 yX6_becomeLike, Cond.instanceMethod yX6_becomeLike, Cond.selects RX6 yX6_becomeLike yX6_becomeLike, Cond.initialized RX6, Cond.code yX6_becomeLike cX6_becomeLike 3 none, Cond.fieldLink RX6 11 "ZoneRelay$Relay" "polygons" "[LZoneRelay$Polygon;", Cond.fieldLink RX6 26 "ZoneRelay$Relay" "zones" "[LZoneRelay$Zone;", Cond.fieldLink RX6 17 "ZoneRelay$Relay" "settings" "[I", Cond.methodLink RX6 87 arraycopyName, Cond.native arraycopyName, Cond.static arraycopyName, Cond.initialized "java/lang/System", Cond.fieldLink RX6 33 "ZoneRelay$Relay" "network" "LZoneRelay$Network;", Cond.fieldLink RX6 40 "ZoneRelay$Relay" "signal" "LZoneRelay$Signal;", Cond.fieldLink RX6 47 "ZoneRelay$Relay" "voltage" "LZoneRelay$Window;", Cond.fieldLink RX6 51 "ZoneRelay$Relay" "current" "LZoneRelay$Window;", Cond.fieldLink RX6 57 "ZoneRelay$Relay" "estimate" "LZoneRelay$Phasors;", Cond.fieldLink RX6 64 "ZoneRelay$Relay" "impedance" "LZoneRelay$Impedance;"]
def wsX10_forecast_r2 : List Cond := [Cond.fieldLink RX6 71 "ZoneRelay$Relay" "log" "LZoneRelay$Log;", Cond.fieldLink RX6 111 "ZoneRelay$Relay" "memoryA" "I", Cond.fieldLink RX6 114 "ZoneRelay$Relay" "memoryB" "I", Cond.fieldLink RX6 117 "ZoneRelay$Relay" "memoryAge" "I", Cond.fieldLink RX6 120 "ZoneRelay$Relay" "between" "I", Cond.fieldLink RX6 123 "ZoneRelay$Relay" "swing" "Z", Cond.fieldLink RX6 127 "ZoneRelay$Relay" "inLoad" "Z", Cond.fieldLink RX6 75 "ZoneRelay$Relay" "trippedBy" "I", Cond.fieldLink RX6 130 "ZoneRelay$Relay" "time" "I", Cond.methodLink RX6 80 yX4_becomeLike, Cond.instanceMethod yX4_becomeLike, Cond.selects RX4 yX4_becomeLike yX4_becomeLike, Cond.initialized RX4, Cond.code yX4_becomeLike cX4_becomeLike 2 none, Cond.fieldLink RX4 9 "ZoneRelay$Polygon" "xs" "[I", Cond.methodLink RX4 22 arraycopyName, Cond.fieldLink RX4 15 "ZoneRelay$Polygon" "ys" "[I", Cond.fieldLink RX4 28 "ZoneRelay$Polygon" "size" "I", Cond.fieldLink RX4 18 "ZoneRelay$Polygon" "defect" "I", Cond.methodLink RX6 84 yX9_becomeLike, Cond.instanceMethod yX9_becomeLike, Cond.selects RX9 yX9_becomeLike yX9_becomeLike, Cond.initialized RX9, Cond.code yX9_becomeLike cX9_becomeLike 2 none]
def wsX10_forecast_r3 : List Cond := [Cond.fieldLink RX9 15 "ZoneRelay$Zone" "delay" "I", Cond.fieldLink RX9 9 "ZoneRelay$Zone" "direction" "I", Cond.fieldLink RX9 18 "ZoneRelay$Zone" "timer" "I", Cond.fieldLink RX9 21 "ZoneRelay$Zone" "picked" "Z", Cond.methodLink RX6 93 yX2_becomeLike, Cond.instanceMethod yX2_becomeLike, Cond.selects RX2 yX2_becomeLike yX2_becomeLike, Cond.initialized RX2, Cond.code yX2_becomeLike cX2_becomeLike 2 none, Cond.fieldLink RX2 9 "ZoneRelay$Network" "first" "[I", Cond.methodLink RX2 18 arraycopyName, Cond.fieldLink RX2 15 "ZoneRelay$Network" "second" "[I", Cond.methodLink RX6 96 yX7_becomeLike, Cond.instanceMethod yX7_becomeLike, Cond.selects RX7 yX7_becomeLike yX7_becomeLike, Cond.initialized RX7, Cond.code yX7_becomeLike cX7_becomeLike 2 none, Cond.fieldLink RX7 10 "ZoneRelay$Signal" "now" "LZoneRelay$Phasors;", Cond.fieldLink RX7 16 "ZoneRelay$Signal" "from" "LZoneRelay$Phasors;", Cond.fieldLink RX7 19 "ZoneRelay$Signal" "to" "LZoneRelay$Phasors;", Cond.fieldLink RX7 26 "ZoneRelay$Signal" "length" "I", Cond.fieldLink RX7 30 "ZoneRelay$Signal" "left" "I", Cond.methodLink RX7 22 yX3_becomeLike, Cond.instanceMethod yX3_becomeLike]
def wsX10_forecast_r4 : List Cond := [Cond.selects RX3 yX3_becomeLike yX3_becomeLike, Cond.initialized RX3, Cond.code yX3_becomeLike cX3_becomeLike 2 none, Cond.fieldLink RX3 7 "ZoneRelay$Phasors" "va" "I", Cond.fieldLink RX3 13 "ZoneRelay$Phasors" "vb" "I", Cond.fieldLink RX3 16 "ZoneRelay$Phasors" "ia" "I", Cond.fieldLink RX3 19 "ZoneRelay$Phasors" "ib" "I", Cond.methodLink RX3 22 yX3_put, Cond.instanceMethod yX3_put, Cond.selects RX3 yX3_put yX3_put, Cond.code yX3_put cX3_put 5 none, Cond.methodLink RX6 99 yX8_becomeLike, Cond.instanceMethod yX8_becomeLike, Cond.selects RX8 yX8_becomeLike yX8_becomeLike, Cond.initialized RX8, Cond.code yX8_becomeLike cX8_becomeLike 2 none, Cond.fieldLink RX8 9 "ZoneRelay$Window" "samples" "[I", Cond.methodLink RX8 15 arraycopyName, Cond.fieldLink RX8 21 "ZoneRelay$Window" "cosineSum" "J", Cond.fieldLink RX8 25 "ZoneRelay$Window" "sineSum" "J", Cond.methodLink RX6 102 yX3_becomeLike, Cond.methodLink RX6 105 yX0_becomeLike, Cond.instanceMethod yX0_becomeLike, Cond.selects RX0 yX0_becomeLike yX0_becomeLike]
def wsX10_forecast_r5 : List Cond := [Cond.initialized RX0, Cond.code yX0_becomeLike cX0_becomeLike 2 none, Cond.fieldLink RX0 13 "ZoneRelay$Impedance" "exists" "Z", Cond.fieldLink RX0 17 "ZoneRelay$Impedance" "x" "J", Cond.fieldLink RX0 20 "ZoneRelay$Impedance" "y" "J", Cond.fieldLink RX0 7 "ZoneRelay$Impedance" "d" "J", Cond.methodLink RX6 108 yX1_becomeLike, Cond.instanceMethod yX1_becomeLike, Cond.selects RX1 yX1_becomeLike yX1_becomeLike, Cond.initialized RX1, Cond.code yX1_becomeLike cX1_becomeLike 2 none, Cond.fieldLink RX1 9 "ZoneRelay$Log" "times" "[I", Cond.methodLink RX1 18 arraycopyName, Cond.fieldLink RX1 15 "ZoneRelay$Log" "kinds" "[I", Cond.fieldLink RX1 24 "ZoneRelay$Log" "total" "I", Cond.methodLink RX10 282 yX6_samplesUntilTrip, Cond.instanceMethod yX6_samplesUntilTrip, Cond.selects RX6 yX6_samplesUntilTrip yX6_samplesUntilTrip, Cond.code yX6_samplesUntilTrip cX6_samplesUntilTrip 3 (some .int), Cond.methodLink RX6 136 yX6_takeSample, Cond.instanceMethod yX6_takeSample, Cond.selects RX6 yX6_takeSample yX6_takeSample, Cond.code yX6_takeSample cX6_takeSample 1 none, Cond.fieldLink RX6 142 "ZoneRelay$Signal" "now" "LZoneRelay$Phasors;"]
def wsX10_forecast_r6 : List Cond := [Cond.methodLink RX6 139 yX7_advance, Cond.instanceMethod yX7_advance, Cond.selects RX7 yX7_advance yX7_advance, Cond.code yX7_advance cX7_advance 1 none, Cond.fieldLink RX7 36 "ZoneRelay$Phasors" "va" "I", Cond.fieldLink RX7 43 "ZoneRelay$Phasors" "vb" "I", Cond.fieldLink RX7 46 "ZoneRelay$Phasors" "ia" "I", Cond.fieldLink RX7 49 "ZoneRelay$Phasors" "ib" "I", Cond.methodLink RX7 39 yX7_onTheWay, Cond.instanceMethod yX7_onTheWay, Cond.selects RX7 yX7_onTheWay yX7_onTheWay, Cond.code yX7_onTheWay cX7_onTheWay 3 (some .int), Cond.methodLink RX7 52 yX3_put, Cond.methodLink RX6 145 yX6_estimateFrom, Cond.instanceMethod yX6_estimateFrom, Cond.selects RX6 yX6_estimateFrom yX6_estimateFrom, Cond.code yX6_estimateFrom cX6_estimateFrom 2 none, Cond.fieldLink RX6 171 "ZoneRelay$Phasors" "va" "I", Cond.fieldLink RX6 174 "ZoneRelay$Phasors" "vb" "I", Cond.fieldLink RX6 181 "ZoneRelay$Phasors" "ia" "I", Cond.fieldLink RX6 184 "ZoneRelay$Phasors" "ib" "I", Cond.methodLink RX6 177 yX8_take, Cond.instanceMethod yX8_take, Cond.selects RX8 yX8_take yX8_take]
def wsX10_forecast_r7 : List Cond := [Cond.code yX8_take cX8_take 10 none, Cond.methodLink RX8 28 yJ9_floorMod_7cf53, Cond.static yJ9_floorMod_7cf53, Cond.initialized RJ9, Cond.code yJ9_floorMod_7cf53 cJ9_floorMod_7cf53 3 (some .int), Cond.methodLink RX6 187 yX8_estimateA, Cond.instanceMethod yX8_estimateA, Cond.selects RX8 yX8_estimateA yX8_estimateA, Cond.code yX8_estimateA cX8_estimateA 1 (some .int), Cond.constantLong RX8 37 (49152), Cond.methodLink RX6 191 yX8_estimateB, Cond.instanceMethod yX8_estimateB, Cond.selects RX8 yX8_estimateB yX8_estimateB, Cond.code yX8_estimateB cX8_estimateB 1 (some .int), Cond.methodLink RX6 194 yX3_put, Cond.methodLink RX6 148 yX6_remember, Cond.instanceMethod yX6_remember, Cond.selects RX6 yX6_remember yX6_remember, Cond.code yX6_remember cX6_remember 7 none, Cond.methodLink RX6 151 yX0_become, Cond.instanceMethod yX0_become, Cond.selects RX0 yX0_become yX0_become, Cond.code yX0_become cX0_become 11 none, Cond.fieldLink RX0 23 "ZoneRelay$Phasors" "va" "I"]
def wsX10_forecast_r8 : List Cond := [Cond.fieldLink RX0 29 "ZoneRelay$Phasors" "vb" "I", Cond.fieldLink RX0 32 "ZoneRelay$Phasors" "ia" "I", Cond.fieldLink RX0 35 "ZoneRelay$Phasors" "ib" "I", Cond.constantLong RX0 38 (1000), Cond.methodLink RX6 155 yX0_isInLoad, Cond.instanceMethod yX0_isInLoad, Cond.selects RX0 yX0_isInLoad yX0_isInLoad, Cond.code yX0_isInLoad cX0_isInLoad 3 (some .boolean), Cond.methodLink RX0 46 Lib.MathLoose.abs_long.x, Cond.static Lib.MathLoose.abs_long.x, Cond.initialized "java/lang/Math", Cond.code Lib.MathLoose.abs_long.x Lib.MathLoose.abs_long.code 2 (some .long), Cond.methodLink RX6 159 yX6_watchSwing, Cond.instanceMethod yX6_watchSwing, Cond.selects RX6 yX6_watchSwing yX6_watchSwing, Cond.code yX6_watchSwing cX6_watchSwing 1 none, Cond.methodLink RX6 198 yX0_isIn, Cond.instanceMethod yX0_isIn, Cond.selects RX0 yX0_isIn yX0_isIn, Cond.code yX0_isIn cX0_isIn 2 (some .boolean), Cond.methodLink RX0 40 yX4_holds, Cond.instanceMethod yX4_holds, Cond.selects RX4 yX4_holds yX4_holds, Cond.code yX4_holds cX4_holds 13 (some .boolean)]
def wsX10_forecast_r9 : List Cond := [Cond.methodLink RX4 35 yX4_after, Cond.instanceMethod yX4_after, Cond.selects RX4 yX4_after yX4_after, Cond.code yX4_after cX4_after 2 (some .int), Cond.methodLink RX6 202 yX6_endSwing, Cond.instanceMethod yX6_endSwing, Cond.selects RX6 yX6_endSwing yX6_endSwing, Cond.code yX6_endSwing cX6_endSwing 1 none, Cond.methodLink RX6 205 yX1_note, Cond.instanceMethod yX1_note, Cond.selects RX1 yX1_note yX1_note, Cond.code yX1_note cX1_note 4 none, Cond.methodLink RX1 28 yJ9_floorMod_7cf53, Cond.methodLink RX6 162 yX6_pickUpZones, Cond.instanceMethod yX6_pickUpZones, Cond.selects RX6 yX6_pickUpZones yX6_pickUpZones, Cond.code yX6_pickUpZones cX6_pickUpZones 5 none, Cond.fieldLink RX6 221 "ZoneRelay$Zone" "picked" "Z", Cond.methodLink RX6 209 yX6_torque, Cond.instanceMethod yX6_torque, Cond.selects RX6 yX6_torque yX6_torque, Cond.code yX6_torque cX6_torque 10 (some .long), Cond.fieldLink RX6 224 "ZoneRelay$Network" "first" "[I", Cond.fieldLink RX6 227 "ZoneRelay$Network" "second" "[I"]
def wsX10_forecast_r10 : List Cond := [Cond.methodLink RX6 213 yX9_fits, Cond.instanceMethod yX9_fits, Cond.selects RX9 yX9_fits yX9_fits, Cond.code yX9_fits cX9_fits 3 (some .boolean), Cond.methodLink RX6 217 yX6_isBlocked, Cond.instanceMethod yX6_isBlocked, Cond.selects RX6 yX6_isBlocked yX6_isBlocked, Cond.code yX6_isBlocked cX6_isBlocked 2 (some .boolean), Cond.static yX10_isInSet, Cond.code yX10_isInSet cX10_isInSet 2 (some .boolean), Cond.methodLink RX6 165 yX6_runTimers, Cond.instanceMethod yX6_runTimers, Cond.selects RX6 yX6_runTimers yX6_runTimers, Cond.code yX6_runTimers cX6_runTimers 2 none, Cond.fieldLink RX6 133 "ZoneRelay$Zone" "timer" "I", Cond.methodLink RX6 168 yX6_trip, Cond.instanceMethod yX6_trip, Cond.selects RX6 yX6_trip yX6_trip, Cond.code yX6_trip cX6_trip 2 none, Cond.fieldLink RX6 233 "ZoneRelay$Zone" "delay" "I"]
def wsX10_forecast : List Cond := .code yX10_forecast cX10_forecast 2 (some .int) :: ((wsX10_forecast_r1 ++ (wsX10_forecast_r2 ++ (wsX10_forecast_r3 ++ (wsX10_forecast_r4 ++ (wsX10_forecast_r5 ++ (wsX10_forecast_r6 ++ (wsX10_forecast_r7 ++ (wsX10_forecast_r8 ++ (wsX10_forecast_r9 ++ wsX10_forecast_r10))))))))) ++ wsX100 ++ wsX60 ++ wsX40 ++ wsX90 ++ wsX20 ++ wsX70 ++ wsX30 ++ wsX80 ++ wsX00 ++ wsX10)
def wsX10_say_r1 : List Cond := [Cond.fieldLink RX10 43 "ZoneRelay" "pad" "Ljava/lang/StringBuilder;", Cond.methodLink RX10 57 yX10_outside, Cond.static yX10_outside, Cond.initialized RX10, Cond.code yX10_outside cX10_outside 3 (some .boolean), Cond.methodLink RX10 286 yJ4_length_8abf5, Cond.instanceMethod yJ4_length_8abf5, Cond.selects RJ4 yJ4_length_8abf5 yJ4_length_8abf5, Cond.initialized RJ4, Cond.code yJ4_length_8abf5 cJ4_length_8abf5 1 (some .int), Cond.methodLink RJ4 343 yJ5_length_8abf5, Cond.sameMethod "java/lang/AbstractStringBuilder" "java/lang/AbstractStringBuilder" "length" "()I", Cond.superclass RJ4 RJ5, Cond.instanceMethod yJ5_length_8abf5, Cond.initialized RJ5, Cond.code yJ5_length_8abf5 cJ5_length_8abf5 1 (some .int), Cond.fieldLink RJ5 79 "java/lang/AbstractStringBuilder" "count" "I", Cond.methodLink RX10 290 yJ4_append_cf468, Cond.instanceMethod yJ4_append_cf468, Cond.selects RJ4 yJ4_append_cf468 yJ4_append_cf468, Cond.code yJ4_append_cf468 cJ4_append_cf468 2 (some (.object "java/lang/StringBuilder")), Cond.methodLink RJ4 50 yJ5_append_3fe6f, Cond.sameMethod "java/lang/AbstractStringBuilder" "java/lang/AbstractStringBuilder" "append" "(C)Ljava/lang/AbstractStringBuilder;", Cond.instanceMethod yJ5_append_3fe6f]
def wsX10_say_r2 : List Cond := [Cond.code yJ5_append_3fe6f cJ5_append_3fe6f 2 (some (.object "java/lang/AbstractStringBuilder")), Cond.fieldLink RJ5 15 "java/lang/AbstractStringBuilder" "value" "[B", Cond.methodLink RJ5 100 ⟨"java/lang/AbstractStringBuilder", "ensureCapacityInternal", "(I)V"⟩, Cond.sameMethod "java/lang/AbstractStringBuilder" "java/lang/AbstractStringBuilder" "ensureCapacityInternal" "(I)V", Cond.selects RJ4 ⟨"java/lang/AbstractStringBuilder", "ensureCapacityInternal", "(I)V"⟩ yJ5_ensureCapacityInternal_d00df, Cond.instanceMethod yJ5_ensureCapacityInternal_d00df, Cond.code yJ5_ensureCapacityInternal_d00df cJ5_ensureCapacityInternal_d00df 3 none, Cond.fieldLink RJ5 22 "java/lang/AbstractStringBuilder" "coder" "B", Cond.methodLink RJ5 104 ⟨"java/lang/AbstractStringBuilder", "newCapacity", "(I)I"⟩, Cond.sameMethod "java/lang/AbstractStringBuilder" "java/lang/AbstractStringBuilder" "newCapacity" "(I)I", Cond.selects RJ4 ⟨"java/lang/AbstractStringBuilder", "newCapacity", "(I)I"⟩ yJ5_newCapacity_0f7a4, Cond.instanceMethod yJ5_newCapacity_0f7a4, Cond.code yJ5_newCapacity_0f7a4 cJ5_newCapacity_0f7a4 6 (some .int), Cond.constant RJ5 39 (2147483647), Cond.methodLink RJ5 114 yJ8_newLength_cabcc, Cond.static yJ8_newLength_cabcc, Cond.initialized RJ8, Cond.code yJ8_newLength_cabcc cJ8_newLength_cabcc 4 (some .int), Cond.methodLink RJ8 194 Lib.Math.max.name, Cond.static Lib.Math.max.name, Cond.initialized "java/lang/Math", Cond.code Lib.Math.max.name Lib.Math.max.code 2 (some .int), Cond.constant RJ8 200 (2147483639), Cond.methodLink RJ8 201 yJ8_hugeLength_7cf53]
def wsX10_say_r3 : List Cond := [Cond.static yJ8_hugeLength_7cf53, Cond.code yJ8_hugeLength_7cf53 cJ8_hugeLength_7cf53 3 (some .int), Cond.methodLink RJ5 108 yJ7_copyOf_9075b, Cond.static yJ7_copyOf_9075b, Cond.initialized RJ7, Cond.code yJ7_copyOf_9075b cJ7_copyOf_9075b 3 (some (.array .byte)), Cond.methodLink RJ7 310 ⟨"[B", "clone", "()Ljava/lang/Object;"⟩, Cond.sameMethod "[B" "java/lang/Object" "clone" "()Ljava/lang/Object;", Cond.native ⟨"java/lang/Object", "clone", "()Ljava/lang/Object;"⟩, Cond.instanceMethod ⟨"java/lang/Object", "clone", "()Ljava/lang/Object;"⟩, Cond.selects "[B" ⟨"[B", "clone", "()Ljava/lang/Object;"⟩ ⟨"java/lang/Object", "clone", "()Ljava/lang/Object;"⟩, Cond.classLink RJ7 311 "[B", Cond.arrayClass .byte, Cond.methodLink RJ7 304 Lib.Math.min.name, Cond.static Lib.Math.min.name, Cond.code Lib.Math.min.name Lib.Math.min.code 2 (some .int), Cond.methodLink RJ7 150 arraycopyName, Cond.native arraycopyName, Cond.static arraycopyName, Cond.initialized "java/lang/System", Cond.methodLink RJ5 83 ⟨"java/lang/AbstractStringBuilder", "isLatin1", "()Z"⟩, Cond.sameMethod "java/lang/AbstractStringBuilder" "java/lang/AbstractStringBuilder" "isLatin1" "()Z", Cond.selects RJ4 ⟨"java/lang/AbstractStringBuilder", "isLatin1", "()Z"⟩ yJ5_isLatin1_aae02, Cond.instanceMethod yJ5_isLatin1_aae02]
def wsX10_say_r4 : List Cond := [Cond.code yJ5_isLatin1_aae02 cJ5_isLatin1_aae02 1 (some .boolean), Cond.fieldLink RJ5 18 "java/lang/String" "COMPACT_STRINGS" "Z", Cond.methodLink RJ5 191 yJ1_canEncode_fc78d, Cond.static yJ1_canEncode_fc78d, Cond.initialized RJ1, Cond.code yJ1_canEncode_fc78d cJ1_canEncode_fc78d 1 (some .boolean), Cond.methodLink RJ5 195 ⟨"java/lang/AbstractStringBuilder", "inflate", "()V"⟩, Cond.sameMethod "java/lang/AbstractStringBuilder" "java/lang/AbstractStringBuilder" "inflate" "()V", Cond.selects RJ4 ⟨"java/lang/AbstractStringBuilder", "inflate", "()V"⟩ yJ5_inflate_da8c8, Cond.instanceMethod yJ5_inflate_da8c8, Cond.code yJ5_inflate_da8c8 cJ5_inflate_da8c8 2 none, Cond.methodLink RJ5 26 yJ2_newBytesFor_77867, Cond.static yJ2_newBytesFor_77867, Cond.initialized RJ2, Cond.code yJ2_newBytesFor_77867 cJ2_newBytesFor_77867 1 (some (.array .byte)), Cond.methodLink RJ2 11 yJ2_newBytesLength_0f7a4, Cond.static yJ2_newBytesLength_0f7a4, Cond.code yJ2_newBytesLength_0f7a4 cJ2_newBytesLength_0f7a4 1 (some .int), Cond.constant RJ2 20 (1073741823), Cond.methodLink RJ5 125 yJ1_inflate_0e8fd, Cond.static yJ1_inflate_0e8fd, Cond.code yJ1_inflate_0e8fd cJ1_inflate_0e8fd 5 none, Cond.methodLink RJ1 240 yJ2_inflate_0e8fd, Cond.static yJ2_inflate_0e8fd]
def wsX10_say_r5 : List Cond := [Cond.code yJ2_inflate_0e8fd cJ2_inflate_0e8fd 6 none, Cond.methodLink RJ2 173 yJ2_checkBoundsOffCount_d044e, Cond.static yJ2_checkBoundsOffCount_d044e, Cond.code yJ2_checkBoundsOffCount_d044e cJ2_checkBoundsOffCount_d044e 3 none, Cond.methodLink RJ2 48 yJ2_length_9d52b, Cond.static yJ2_length_9d52b, Cond.code yJ2_length_9d52b cJ2_length_9d52b 1 (some .int), Cond.methodLink RJ2 419 yJ0_checkBoundsOffCount_cabcc, Cond.static yJ0_checkBoundsOffCount_cabcc, Cond.initialized RJ0, Cond.code yJ0_checkBoundsOffCount_cabcc cJ0_checkBoundsOffCount_cabcc 3 (some .int), Cond.fieldLink RJ0 1053 "jdk/internal/util/Preconditions" "SIOOBE_FORMATTER" "Ljava/util/function/BiFunction;", Cond.methodLink RJ0 1065 yJ3_checkFromIndexSize_8c36e, Cond.static yJ3_checkFromIndexSize_8c36e, Cond.initialized RJ3, Cond.code yJ3_checkFromIndexSize_8c36e cJ3_checkFromIndexSize_8c36e 4 (some .int), Cond.methodLink RJ2 111 yJ2_putChar_b72d1, Cond.static yJ2_putChar_b72d1, Cond.code yJ2_putChar_b72d1 cJ2_putChar_b72d1 3 none, Cond.fieldLink RJ2 44 "java/lang/StringUTF16" "$assertionsDisabled" "Z", Cond.fieldLink RJ2 59 "java/lang/StringUTF16" "HI_BYTE_SHIFT" "I", Cond.fieldLink RJ2 63 "java/lang/StringUTF16" "LO_BYTE_SHIFT" "I", Cond.methodLink RJ5 197 yJ2_putCharSB_b72d1, Cond.static yJ2_putCharSB_b72d1]
def wsX10_say_r6 : List Cond := [Cond.code yJ2_putCharSB_b72d1 cJ2_putCharSB_b72d1 3 none, Cond.methodLink RJ2 67 yJ2_checkIndex_2214a, Cond.static yJ2_checkIndex_2214a, Cond.code yJ2_checkIndex_2214a cJ2_checkIndex_2214a 2 none, Cond.methodLink RJ2 414 yJ0_checkIndex_df160, Cond.static yJ0_checkIndex_df160, Cond.code yJ0_checkIndex_df160 cJ0_checkIndex_df160 2 none, Cond.methodLink RJ0 1059 yJ3_checkIndex_8e157, Cond.static yJ3_checkIndex_8e157, Cond.code yJ3_checkIndex_8e157 cJ3_checkIndex_8e157 3 (some .int)]
def wsX10_say : List Cond := .code yX10_say cX10_say 2 (some .int) :: ((wsX10_say_r1 ++ (wsX10_say_r2 ++ (wsX10_say_r3 ++ (wsX10_say_r4 ++ (wsX10_say_r5 ++ wsX10_say_r6))))) ++ wsX100 ++ wsJ40)
def wsX10_wipe_r1 : List Cond := [Cond.fieldLink RX10 43 "ZoneRelay" "pad" "Ljava/lang/StringBuilder;", Cond.methodLink RX10 286 yJ4_length_8abf5, Cond.instanceMethod yJ4_length_8abf5, Cond.selects RJ4 yJ4_length_8abf5 yJ4_length_8abf5, Cond.initialized RJ4, Cond.code yJ4_length_8abf5 cJ4_length_8abf5 1 (some .int), Cond.methodLink RJ4 343 yJ5_length_8abf5, Cond.sameMethod "java/lang/AbstractStringBuilder" "java/lang/AbstractStringBuilder" "length" "()I", Cond.superclass RJ4 RJ5, Cond.instanceMethod yJ5_length_8abf5, Cond.initialized RJ5, Cond.code yJ5_length_8abf5 cJ5_length_8abf5 1 (some .int), Cond.fieldLink RJ5 79 "java/lang/AbstractStringBuilder" "count" "I", Cond.methodLink RX10 293 yJ4_setLength_d00df, Cond.instanceMethod yJ4_setLength_d00df, Cond.selects RJ4 yJ4_setLength_d00df yJ4_setLength_d00df, Cond.code yJ4_setLength_d00df cJ4_setLength_d00df 2 none, Cond.methodLink RJ4 333 yJ5_setLength_d00df, Cond.sameMethod "java/lang/AbstractStringBuilder" "java/lang/AbstractStringBuilder" "setLength" "(I)V", Cond.instanceMethod yJ5_setLength_d00df, Cond.code yJ5_setLength_d00df cJ5_setLength_d00df 2 none, Cond.fieldLink RJ5 15 "java/lang/AbstractStringBuilder" "value" "[B", Cond.fieldLink RJ5 73 "java/lang/AbstractStringBuilder" "maybeLatin1" "Z", Cond.methodLink RJ5 100 ⟨"java/lang/AbstractStringBuilder", "ensureCapacityInternal", "(I)V"⟩]
def wsX10_wipe_r2 : List Cond := [Cond.sameMethod "java/lang/AbstractStringBuilder" "java/lang/AbstractStringBuilder" "ensureCapacityInternal" "(I)V", Cond.selects RJ4 ⟨"java/lang/AbstractStringBuilder", "ensureCapacityInternal", "(I)V"⟩ yJ5_ensureCapacityInternal_d00df, Cond.instanceMethod yJ5_ensureCapacityInternal_d00df, Cond.code yJ5_ensureCapacityInternal_d00df cJ5_ensureCapacityInternal_d00df 3 none, Cond.fieldLink RJ5 22 "java/lang/AbstractStringBuilder" "coder" "B", Cond.methodLink RJ5 104 ⟨"java/lang/AbstractStringBuilder", "newCapacity", "(I)I"⟩, Cond.sameMethod "java/lang/AbstractStringBuilder" "java/lang/AbstractStringBuilder" "newCapacity" "(I)I", Cond.selects RJ4 ⟨"java/lang/AbstractStringBuilder", "newCapacity", "(I)I"⟩ yJ5_newCapacity_0f7a4, Cond.instanceMethod yJ5_newCapacity_0f7a4, Cond.code yJ5_newCapacity_0f7a4 cJ5_newCapacity_0f7a4 6 (some .int), Cond.constant RJ5 39 (2147483647), Cond.methodLink RJ5 114 yJ8_newLength_cabcc, Cond.static yJ8_newLength_cabcc, Cond.initialized RJ8, Cond.code yJ8_newLength_cabcc cJ8_newLength_cabcc 4 (some .int), Cond.methodLink RJ8 194 Lib.Math.max.name, Cond.static Lib.Math.max.name, Cond.initialized "java/lang/Math", Cond.code Lib.Math.max.name Lib.Math.max.code 2 (some .int), Cond.constant RJ8 200 (2147483639), Cond.methodLink RJ8 201 yJ8_hugeLength_7cf53, Cond.static yJ8_hugeLength_7cf53, Cond.code yJ8_hugeLength_7cf53 cJ8_hugeLength_7cf53 3 (some .int), Cond.methodLink RJ5 108 yJ7_copyOf_9075b]
def wsX10_wipe_r3 : List Cond := [Cond.static yJ7_copyOf_9075b, Cond.initialized RJ7, Cond.code yJ7_copyOf_9075b cJ7_copyOf_9075b 3 (some (.array .byte)), Cond.methodLink RJ7 310 ⟨"[B", "clone", "()Ljava/lang/Object;"⟩, Cond.sameMethod "[B" "java/lang/Object" "clone" "()Ljava/lang/Object;", Cond.native ⟨"java/lang/Object", "clone", "()Ljava/lang/Object;"⟩, Cond.instanceMethod ⟨"java/lang/Object", "clone", "()Ljava/lang/Object;"⟩, Cond.selects "[B" ⟨"[B", "clone", "()Ljava/lang/Object;"⟩ ⟨"java/lang/Object", "clone", "()Ljava/lang/Object;"⟩, Cond.classLink RJ7 311 "[B", Cond.arrayClass .byte, Cond.methodLink RJ7 304 Lib.Math.min.name, Cond.static Lib.Math.min.name, Cond.code Lib.Math.min.name Lib.Math.min.code 2 (some .int), Cond.methodLink RJ7 150 arraycopyName, Cond.native arraycopyName, Cond.static arraycopyName, Cond.initialized "java/lang/System", Cond.methodLink RJ5 83 ⟨"java/lang/AbstractStringBuilder", "isLatin1", "()Z"⟩, Cond.sameMethod "java/lang/AbstractStringBuilder" "java/lang/AbstractStringBuilder" "isLatin1" "()Z", Cond.selects RJ4 ⟨"java/lang/AbstractStringBuilder", "isLatin1", "()Z"⟩ yJ5_isLatin1_aae02, Cond.instanceMethod yJ5_isLatin1_aae02, Cond.code yJ5_isLatin1_aae02 cJ5_isLatin1_aae02 1 (some .boolean), Cond.fieldLink RJ5 18 "java/lang/String" "COMPACT_STRINGS" "Z", Cond.methodLink RJ5 133 yJ1_fillNull_b72d1]
def wsX10_wipe_r4 : List Cond := [Cond.static yJ1_fillNull_b72d1, Cond.initialized RJ1, Cond.code yJ1_fillNull_b72d1 cJ1_fillNull_b72d1 3 none, Cond.methodLink RJ1 236 yJ7_fill_eb02e, Cond.static yJ7_fill_eb02e, Cond.code yJ7_fill_eb02e cJ7_fill_eb02e 5 none, Cond.methodLink RJ7 13 yJ7_rangeCheck_23922, Cond.static yJ7_rangeCheck_23922, Cond.code yJ7_rangeCheck_23922 cJ7_rangeCheck_23922 3 none, Cond.methodLink RJ5 137 yJ2_fillNull_b72d1, Cond.static yJ2_fillNull_b72d1, Cond.initialized RJ2, Cond.code yJ2_fillNull_b72d1 cJ2_fillNull_b72d1 3 none, Cond.methodLink RJ2 380 yJ7_fill_eb02e]
def wsX10_wipe : List Cond := .code yX10_wipe cX10_wipe 2 (some .int) :: ((wsX10_wipe_r1 ++ (wsX10_wipe_r2 ++ (wsX10_wipe_r3 ++ wsX10_wipe_r4))) ++ wsX100 ++ wsJ40)
def wsX10_flaw_r1 : List Cond := [Cond.fieldLink RX10 50 "ZoneRelay" "reader" "LZoneRelay$Reader;", Cond.fieldLink RX10 43 "ZoneRelay" "pad" "Ljava/lang/StringBuilder;", Cond.methodLink RX10 296 yX5_findFlaw, Cond.instanceMethod yX5_findFlaw, Cond.selects RX5 yX5_findFlaw yX5_findFlaw, Cond.initialized RX5, Cond.code yX5_findFlaw cX5_findFlaw 3 (some .int), Cond.fieldLink RX5 18 "ZoneRelay$Reader" "corners" "I", Cond.fieldLink RX5 22 "ZoneRelay$Reader" "isAtY" "Z", Cond.fieldLink RX5 43 "ZoneRelay$Reader" "digits" "I", Cond.methodLink RX5 26 yX5_startNumber, Cond.instanceMethod yX5_startNumber, Cond.selects RX5 yX5_startNumber yX5_startNumber, Cond.code yX5_startNumber cX5_startNumber 1 none, Cond.fieldLink RX5 63 "ZoneRelay$Reader" "isNegative" "Z", Cond.fieldLink RX5 69 "ZoneRelay$Reader" "value" "I", Cond.methodLink RX5 29 yJ4_length_8abf5, Cond.instanceMethod yJ4_length_8abf5, Cond.selects RJ4 yJ4_length_8abf5 yJ4_length_8abf5, Cond.initialized RJ4, Cond.code yJ4_length_8abf5 cJ4_length_8abf5 1 (some .int), Cond.methodLink RJ4 343 yJ5_length_8abf5, Cond.sameMethod "java/lang/AbstractStringBuilder" "java/lang/AbstractStringBuilder" "length" "()I", Cond.superclass RJ4 RJ5]
def wsX10_flaw_r2 : List Cond := [Cond.instanceMethod yJ5_length_8abf5, Cond.initialized RJ5, Cond.code yJ5_length_8abf5 cJ5_length_8abf5 1 (some .int), Cond.fieldLink RJ5 79 "java/lang/AbstractStringBuilder" "count" "I", Cond.methodLink RX5 35 yJ4_charAt_5068e, Cond.instanceMethod yJ4_charAt_5068e, Cond.selects RJ4 yJ4_charAt_5068e yJ4_charAt_5068e, Cond.code yJ4_charAt_5068e cJ4_charAt_5068e 2 (some .char), Cond.methodLink RJ4 329 yJ5_charAt_5068e, Cond.sameMethod "java/lang/AbstractStringBuilder" "java/lang/AbstractStringBuilder" "charAt" "(I)C", Cond.instanceMethod yJ5_charAt_5068e, Cond.code yJ5_charAt_5068e cJ5_charAt_5068e 5 (some .char), Cond.fieldLink RJ5 22 "java/lang/AbstractStringBuilder" "coder" "B", Cond.fieldLink RJ5 15 "java/lang/AbstractStringBuilder" "value" "[B", Cond.methodLink RJ5 138 Lib.Math.min.name, Cond.static Lib.Math.min.name, Cond.initialized "java/lang/Math", Cond.code Lib.Math.min.name Lib.Math.min.code 2 (some .int), Cond.methodLink RJ5 144 yJ0_checkIndex_df160, Cond.static yJ0_checkIndex_df160, Cond.initialized RJ0, Cond.code yJ0_checkIndex_df160 cJ0_checkIndex_df160 2 none, Cond.fieldLink RJ0 1053 "jdk/internal/util/Preconditions" "SIOOBE_FORMATTER" "Ljava/util/function/BiFunction;", Cond.methodLink RJ0 1059 yJ3_checkIndex_8e157]
def wsX10_flaw_r3 : List Cond := [Cond.static yJ3_checkIndex_8e157, Cond.initialized RJ3, Cond.code yJ3_checkIndex_8e157 cJ3_checkIndex_8e157 3 (some .int), Cond.methodLink RJ5 148 yJ2_getChar_3b067, Cond.static yJ2_getChar_3b067, Cond.initialized RJ2, Cond.code yJ2_getChar_3b067 cJ2_getChar_3b067 2 (some .char), Cond.fieldLink RJ2 44 "java/lang/StringUTF16" "$assertionsDisabled" "Z", Cond.fieldLink RJ2 59 "java/lang/StringUTF16" "HI_BYTE_SHIFT" "I", Cond.fieldLink RJ2 63 "java/lang/StringUTF16" "LO_BYTE_SHIFT" "I", Cond.methodLink RJ2 48 yJ2_length_9d52b, Cond.static yJ2_length_9d52b, Cond.code yJ2_length_9d52b cJ2_length_9d52b 1 (some .int), Cond.methodLink RX5 39 yX5_takes, Cond.instanceMethod yX5_takes, Cond.selects RX5 yX5_takes yX5_takes, Cond.code yX5_takes cX5_takes 2 (some .boolean), Cond.methodLink RX5 49 yX5_takesMinus, Cond.instanceMethod yX5_takesMinus, Cond.selects RX5 yX5_takesMinus yX5_takesMinus, Cond.code yX5_takesMinus cX5_takesMinus 1 (some .boolean), Cond.methodLink RX5 53 yX5_takesComma, Cond.instanceMethod yX5_takesComma, Cond.selects RX5 yX5_takesComma yX5_takesComma]
def wsX10_flaw_r4 : List Cond := [Cond.code yX5_takesComma cX5_takesComma 1 (some .boolean), Cond.fieldLink RX5 9 "ZoneRelay$Reader" "xs" "[I", Cond.methodLink RX5 66 yX5_number, Cond.instanceMethod yX5_number, Cond.selects RX5 yX5_number yX5_number, Cond.code yX5_number cX5_number 1 (some .int), Cond.methodLink RX5 56 yX5_takesSlash, Cond.instanceMethod yX5_takesSlash, Cond.selects RX5 yX5_takesSlash yX5_takesSlash, Cond.code yX5_takesSlash cX5_takesSlash 1 (some .boolean), Cond.methodLink RX5 46 yX5_endCorner, Cond.instanceMethod yX5_endCorner, Cond.selects RX5 yX5_endCorner yX5_endCorner, Cond.code yX5_endCorner cX5_endCorner 1 none, Cond.fieldLink RX5 15 "ZoneRelay$Reader" "ys" "[I", Cond.methodLink RX5 59 yX5_takesDigit, Cond.instanceMethod yX5_takesDigit, Cond.selects RX5 yX5_takesDigit yX5_takesDigit, Cond.code yX5_takesDigit cX5_takesDigit 3 (some .boolean), Cond.static yX10_outside, Cond.initialized RX10, Cond.code yX10_outside cX10_outside 3 (some .boolean)]
def wsX10_flaw : List Cond := .code yX10_flaw cX10_flaw 1 (some .int) :: ((wsX10_flaw_r1 ++ (wsX10_flaw_r2 ++ (wsX10_flaw_r3 ++ wsX10_flaw_r4))) ++ wsX100 ++ wsX50 ++ wsJ40)
def wsX10_load_r1 : List Cond := [Cond.fieldLink RX10 50 "ZoneRelay" "reader" "LZoneRelay$Reader;", Cond.fieldLink RX10 43 "ZoneRelay" "pad" "Ljava/lang/StringBuilder;", Cond.fieldLink RX10 10 "ZoneRelay" "relay" "LZoneRelay$Relay;", Cond.fieldLink RX10 65 "ZoneRelay$Relay" "polygons" "[LZoneRelay$Polygon;", Cond.fieldLink RX10 300 "ZoneRelay$Reader" "corners" "I", Cond.fieldLink RX10 303 "ZoneRelay$Reader" "xs" "[I", Cond.fieldLink RX10 304 "ZoneRelay$Reader" "ys" "[I", Cond.fieldLink RX10 69 "ZoneRelay$Polygon" "size" "I", Cond.methodLink RX10 57 yX10_outside, Cond.static yX10_outside, Cond.initialized RX10, Cond.code yX10_outside cX10_outside 3 (some .boolean), Cond.methodLink RX10 296 yX5_findFlaw, Cond.instanceMethod yX5_findFlaw, Cond.selects RX5 yX5_findFlaw yX5_findFlaw, Cond.initialized RX5, Cond.code yX5_findFlaw cX5_findFlaw 3 (some .int), Cond.fieldLink RX5 18 "ZoneRelay$Reader" "corners" "I", Cond.fieldLink RX5 22 "ZoneRelay$Reader" "isAtY" "Z", Cond.fieldLink RX5 43 "ZoneRelay$Reader" "digits" "I", Cond.methodLink RX5 26 yX5_startNumber, Cond.instanceMethod yX5_startNumber, Cond.selects RX5 yX5_startNumber yX5_startNumber, Cond.code yX5_startNumber cX5_startNumber 1 none]
def wsX10_load_r2 : List Cond := [Cond.fieldLink RX5 63 "ZoneRelay$Reader" "isNegative" "Z", Cond.fieldLink RX5 69 "ZoneRelay$Reader" "value" "I", Cond.methodLink RX5 29 yJ4_length_8abf5, Cond.instanceMethod yJ4_length_8abf5, Cond.selects RJ4 yJ4_length_8abf5 yJ4_length_8abf5, Cond.initialized RJ4, Cond.code yJ4_length_8abf5 cJ4_length_8abf5 1 (some .int), Cond.methodLink RJ4 343 yJ5_length_8abf5, Cond.sameMethod "java/lang/AbstractStringBuilder" "java/lang/AbstractStringBuilder" "length" "()I", Cond.superclass RJ4 RJ5, Cond.instanceMethod yJ5_length_8abf5, Cond.initialized RJ5, Cond.code yJ5_length_8abf5 cJ5_length_8abf5 1 (some .int), Cond.fieldLink RJ5 79 "java/lang/AbstractStringBuilder" "count" "I", Cond.methodLink RX5 35 yJ4_charAt_5068e, Cond.instanceMethod yJ4_charAt_5068e, Cond.selects RJ4 yJ4_charAt_5068e yJ4_charAt_5068e, Cond.code yJ4_charAt_5068e cJ4_charAt_5068e 2 (some .char), Cond.methodLink RJ4 329 yJ5_charAt_5068e, Cond.sameMethod "java/lang/AbstractStringBuilder" "java/lang/AbstractStringBuilder" "charAt" "(I)C", Cond.instanceMethod yJ5_charAt_5068e, Cond.code yJ5_charAt_5068e cJ5_charAt_5068e 5 (some .char), Cond.fieldLink RJ5 22 "java/lang/AbstractStringBuilder" "coder" "B", Cond.fieldLink RJ5 15 "java/lang/AbstractStringBuilder" "value" "[B"]
def wsX10_load_r3 : List Cond := [Cond.methodLink RJ5 138 Lib.Math.min.name, Cond.static Lib.Math.min.name, Cond.initialized "java/lang/Math", Cond.code Lib.Math.min.name Lib.Math.min.code 2 (some .int), Cond.methodLink RJ5 144 yJ0_checkIndex_df160, Cond.static yJ0_checkIndex_df160, Cond.initialized RJ0, Cond.code yJ0_checkIndex_df160 cJ0_checkIndex_df160 2 none, Cond.fieldLink RJ0 1053 "jdk/internal/util/Preconditions" "SIOOBE_FORMATTER" "Ljava/util/function/BiFunction;", Cond.methodLink RJ0 1059 yJ3_checkIndex_8e157, Cond.static yJ3_checkIndex_8e157, Cond.initialized RJ3, Cond.code yJ3_checkIndex_8e157 cJ3_checkIndex_8e157 3 (some .int), Cond.methodLink RJ5 148 yJ2_getChar_3b067, Cond.static yJ2_getChar_3b067, Cond.initialized RJ2, Cond.code yJ2_getChar_3b067 cJ2_getChar_3b067 2 (some .char), Cond.fieldLink RJ2 44 "java/lang/StringUTF16" "$assertionsDisabled" "Z", Cond.fieldLink RJ2 59 "java/lang/StringUTF16" "HI_BYTE_SHIFT" "I", Cond.fieldLink RJ2 63 "java/lang/StringUTF16" "LO_BYTE_SHIFT" "I", Cond.methodLink RJ2 48 yJ2_length_9d52b, Cond.static yJ2_length_9d52b, Cond.code yJ2_length_9d52b cJ2_length_9d52b 1 (some .int), Cond.methodLink RX5 39 yX5_takes]
def wsX10_load_r4 : List Cond := [Cond.instanceMethod yX5_takes, Cond.selects RX5 yX5_takes yX5_takes, Cond.code yX5_takes cX5_takes 2 (some .boolean), Cond.methodLink RX5 49 yX5_takesMinus, Cond.instanceMethod yX5_takesMinus, Cond.selects RX5 yX5_takesMinus yX5_takesMinus, Cond.code yX5_takesMinus cX5_takesMinus 1 (some .boolean), Cond.methodLink RX5 53 yX5_takesComma, Cond.instanceMethod yX5_takesComma, Cond.selects RX5 yX5_takesComma yX5_takesComma, Cond.code yX5_takesComma cX5_takesComma 1 (some .boolean), Cond.fieldLink RX5 9 "ZoneRelay$Reader" "xs" "[I", Cond.methodLink RX5 66 yX5_number, Cond.instanceMethod yX5_number, Cond.selects RX5 yX5_number yX5_number, Cond.code yX5_number cX5_number 1 (some .int), Cond.methodLink RX5 56 yX5_takesSlash, Cond.instanceMethod yX5_takesSlash, Cond.selects RX5 yX5_takesSlash yX5_takesSlash, Cond.code yX5_takesSlash cX5_takesSlash 1 (some .boolean), Cond.methodLink RX5 46 yX5_endCorner, Cond.instanceMethod yX5_endCorner, Cond.selects RX5 yX5_endCorner yX5_endCorner, Cond.code yX5_endCorner cX5_endCorner 1 none]
def wsX10_load_r5 : List Cond := [Cond.fieldLink RX5 15 "ZoneRelay$Reader" "ys" "[I", Cond.methodLink RX5 59 yX5_takesDigit, Cond.instanceMethod yX5_takesDigit, Cond.selects RX5 yX5_takesDigit yX5_takesDigit, Cond.code yX5_takesDigit cX5_takesDigit 3 (some .boolean), Cond.methodLink RX10 79 yX4_empty, Cond.instanceMethod yX4_empty, Cond.selects RX4 yX4_empty yX4_empty, Cond.initialized RX4, Cond.code yX4_empty cX4_empty 1 none, Cond.fieldLink RX4 28 "ZoneRelay$Polygon" "size" "I", Cond.fieldLink RX4 18 "ZoneRelay$Polygon" "defect" "I", Cond.methodLink RX10 75 yX4_append, Cond.instanceMethod yX4_append, Cond.selects RX4 yX4_append yX4_append, Cond.code yX4_append cX4_append 3 none, Cond.fieldLink RX4 9 "ZoneRelay$Polygon" "xs" "[I", Cond.fieldLink RX4 15 "ZoneRelay$Polygon" "ys" "[I", Cond.methodLink RX4 31 yX4_findDefect, Cond.instanceMethod yX4_findDefect, Cond.selects RX4 yX4_findDefect yX4_findDefect, Cond.code yX4_findDefect cX4_findDefect 1 (some .int), Cond.methodLink RX4 52 yX4_turnsLeftEverywhere, Cond.instanceMethod yX4_turnsLeftEverywhere]
def wsX10_load_r6 : List Cond := [Cond.selects RX4 yX4_turnsLeftEverywhere yX4_turnsLeftEverywhere, Cond.code yX4_turnsLeftEverywhere cX4_turnsLeftEverywhere 6 (some .boolean), Cond.methodLink RX4 35 yX4_after, Cond.instanceMethod yX4_after, Cond.selects RX4 yX4_after yX4_after, Cond.code yX4_after cX4_after 2 (some .int), Cond.methodLink RX4 56 yX4_countTurnsOfY, Cond.instanceMethod yX4_countTurnsOfY, Cond.selects RX4 yX4_countTurnsOfY yX4_countTurnsOfY, Cond.code yX4_countTurnsOfY cX4_countTurnsOfY 5 (some .int), Cond.methodLink RX4 59 yJ6_compare_7cf53, Cond.static yJ6_compare_7cf53, Cond.initialized RJ6, Cond.code yJ6_compare_7cf53 cJ6_compare_7cf53 2 (some .int), Cond.methodLink RX10 293 yJ4_setLength_d00df, Cond.instanceMethod yJ4_setLength_d00df, Cond.selects RJ4 yJ4_setLength_d00df yJ4_setLength_d00df, Cond.code yJ4_setLength_d00df cJ4_setLength_d00df 2 none, Cond.methodLink RJ4 333 yJ5_setLength_d00df, Cond.sameMethod "java/lang/AbstractStringBuilder" "java/lang/AbstractStringBuilder" "setLength" "(I)V", Cond.instanceMethod yJ5_setLength_d00df, Cond.code yJ5_setLength_d00df cJ5_setLength_d00df 2 none, Cond.fieldLink RJ5 73 "java/lang/AbstractStringBuilder" "maybeLatin1" "Z", Cond.methodLink RJ5 100 ⟨"java/lang/AbstractStringBuilder", "ensureCapacityInternal", "(I)V"⟩]
def wsX10_load_r7 : List Cond := [Cond.sameMethod "java/lang/AbstractStringBuilder" "java/lang/AbstractStringBuilder" "ensureCapacityInternal" "(I)V", Cond.selects RJ4 ⟨"java/lang/AbstractStringBuilder", "ensureCapacityInternal", "(I)V"⟩ yJ5_ensureCapacityInternal_d00df, Cond.instanceMethod yJ5_ensureCapacityInternal_d00df, Cond.code yJ5_ensureCapacityInternal_d00df cJ5_ensureCapacityInternal_d00df 3 none, Cond.methodLink RJ5 104 ⟨"java/lang/AbstractStringBuilder", "newCapacity", "(I)I"⟩, Cond.sameMethod "java/lang/AbstractStringBuilder" "java/lang/AbstractStringBuilder" "newCapacity" "(I)I", Cond.selects RJ4 ⟨"java/lang/AbstractStringBuilder", "newCapacity", "(I)I"⟩ yJ5_newCapacity_0f7a4, Cond.instanceMethod yJ5_newCapacity_0f7a4, Cond.code yJ5_newCapacity_0f7a4 cJ5_newCapacity_0f7a4 6 (some .int), Cond.constant RJ5 39 (2147483647), Cond.methodLink RJ5 114 yJ8_newLength_cabcc, Cond.static yJ8_newLength_cabcc, Cond.initialized RJ8, Cond.code yJ8_newLength_cabcc cJ8_newLength_cabcc 4 (some .int), Cond.methodLink RJ8 194 Lib.Math.max.name, Cond.static Lib.Math.max.name, Cond.code Lib.Math.max.name Lib.Math.max.code 2 (some .int), Cond.constant RJ8 200 (2147483639), Cond.methodLink RJ8 201 yJ8_hugeLength_7cf53, Cond.static yJ8_hugeLength_7cf53, Cond.code yJ8_hugeLength_7cf53 cJ8_hugeLength_7cf53 3 (some .int), Cond.methodLink RJ5 108 yJ7_copyOf_9075b, Cond.static yJ7_copyOf_9075b, Cond.initialized RJ7]
def wsX10_load_r8 : List Cond := [Cond.code yJ7_copyOf_9075b cJ7_copyOf_9075b 3 (some (.array .byte)), Cond.methodLink RJ7 310 ⟨"[B", "clone", "()Ljava/lang/Object;"⟩, Cond.sameMethod "[B" "java/lang/Object" "clone" "()Ljava/lang/Object;", Cond.native ⟨"java/lang/Object", "clone", "()Ljava/lang/Object;"⟩, Cond.instanceMethod ⟨"java/lang/Object", "clone", "()Ljava/lang/Object;"⟩, Cond.selects "[B" ⟨"[B", "clone", "()Ljava/lang/Object;"⟩ ⟨"java/lang/Object", "clone", "()Ljava/lang/Object;"⟩, Cond.classLink RJ7 311 "[B", Cond.arrayClass .byte, Cond.methodLink RJ7 304 Lib.Math.min.name, Cond.methodLink RJ7 150 arraycopyName, Cond.native arraycopyName, Cond.static arraycopyName, Cond.initialized "java/lang/System", Cond.methodLink RJ5 83 ⟨"java/lang/AbstractStringBuilder", "isLatin1", "()Z"⟩, Cond.sameMethod "java/lang/AbstractStringBuilder" "java/lang/AbstractStringBuilder" "isLatin1" "()Z", Cond.selects RJ4 ⟨"java/lang/AbstractStringBuilder", "isLatin1", "()Z"⟩ yJ5_isLatin1_aae02, Cond.instanceMethod yJ5_isLatin1_aae02, Cond.code yJ5_isLatin1_aae02 cJ5_isLatin1_aae02 1 (some .boolean), Cond.fieldLink RJ5 18 "java/lang/String" "COMPACT_STRINGS" "Z", Cond.methodLink RJ5 133 yJ1_fillNull_b72d1, Cond.static yJ1_fillNull_b72d1, Cond.initialized RJ1, Cond.code yJ1_fillNull_b72d1 cJ1_fillNull_b72d1 3 none, Cond.methodLink RJ1 236 yJ7_fill_eb02e]
def wsX10_load_r9 : List Cond := [Cond.static yJ7_fill_eb02e, Cond.code yJ7_fill_eb02e cJ7_fill_eb02e 5 none, Cond.methodLink RJ7 13 yJ7_rangeCheck_23922, Cond.static yJ7_rangeCheck_23922, Cond.code yJ7_rangeCheck_23922 cJ7_rangeCheck_23922 3 none, Cond.methodLink RJ5 137 yJ2_fillNull_b72d1, Cond.static yJ2_fillNull_b72d1, Cond.code yJ2_fillNull_b72d1 cJ2_fillNull_b72d1 3 none, Cond.methodLink RJ2 380 yJ7_fill_eb02e]
def wsX10_load : List Cond := .code yX10_load cX10_load 4 (some .int) :: ((wsX10_load_r1 ++ (wsX10_load_r2 ++ (wsX10_load_r3 ++ (wsX10_load_r4 ++ (wsX10_load_r5 ++ (wsX10_load_r6 ++ (wsX10_load_r7 ++ (wsX10_load_r8 ++ wsX10_load_r9)))))))) ++ wsX100 ++ wsX60 ++ wsX50 ++ wsX40 ++ wsJ40)
def wsX10_spell_r1 : List Cond := [Cond.fieldLink RX10 10 "ZoneRelay" "relay" "LZoneRelay$Relay;", Cond.fieldLink RX10 65 "ZoneRelay$Relay" "polygons" "[LZoneRelay$Polygon;", Cond.fieldLink RX10 54 "ZoneRelay" "spelled" "Ljava/lang/StringBuilder;", Cond.methodLink RX10 57 yX10_outside, Cond.static yX10_outside, Cond.initialized RX10, Cond.code yX10_outside cX10_outside 3 (some .boolean), Cond.methodLink RX10 305 yX4_writeTo, Cond.instanceMethod yX4_writeTo, Cond.selects RX4 yX4_writeTo yX4_writeTo, Cond.initialized RX4, Cond.code yX4_writeTo cX4_writeTo 3 none, Cond.fieldLink RX4 28 "ZoneRelay$Polygon" "size" "I", Cond.fieldLink RX4 9 "ZoneRelay$Polygon" "xs" "[I", Cond.fieldLink RX4 15 "ZoneRelay$Polygon" "ys" "[I", Cond.methodLink RX4 39 yJ4_setLength_d00df, Cond.instanceMethod yJ4_setLength_d00df, Cond.selects RJ4 yJ4_setLength_d00df yJ4_setLength_d00df, Cond.initialized RJ4, Cond.code yJ4_setLength_d00df cJ4_setLength_d00df 2 none, Cond.methodLink RJ4 333 yJ5_setLength_d00df, Cond.sameMethod "java/lang/AbstractStringBuilder" "java/lang/AbstractStringBuilder" "setLength" "(I)V", Cond.superclass RJ4 RJ5, Cond.instanceMethod yJ5_setLength_d00df]
def wsX10_spell_r2 : List Cond := [Cond.initialized RJ5, Cond.code yJ5_setLength_d00df cJ5_setLength_d00df 2 none, Cond.fieldLink RJ5 79 "java/lang/AbstractStringBuilder" "count" "I", Cond.fieldLink RJ5 15 "java/lang/AbstractStringBuilder" "value" "[B", Cond.fieldLink RJ5 73 "java/lang/AbstractStringBuilder" "maybeLatin1" "Z", Cond.methodLink RJ5 100 ⟨"java/lang/AbstractStringBuilder", "ensureCapacityInternal", "(I)V"⟩, Cond.sameMethod "java/lang/AbstractStringBuilder" "java/lang/AbstractStringBuilder" "ensureCapacityInternal" "(I)V", Cond.selects RJ4 ⟨"java/lang/AbstractStringBuilder", "ensureCapacityInternal", "(I)V"⟩ yJ5_ensureCapacityInternal_d00df, Cond.instanceMethod yJ5_ensureCapacityInternal_d00df, Cond.code yJ5_ensureCapacityInternal_d00df cJ5_ensureCapacityInternal_d00df 3 none, Cond.fieldLink RJ5 22 "java/lang/AbstractStringBuilder" "coder" "B", Cond.methodLink RJ5 104 ⟨"java/lang/AbstractStringBuilder", "newCapacity", "(I)I"⟩, Cond.sameMethod "java/lang/AbstractStringBuilder" "java/lang/AbstractStringBuilder" "newCapacity" "(I)I", Cond.selects RJ4 ⟨"java/lang/AbstractStringBuilder", "newCapacity", "(I)I"⟩ yJ5_newCapacity_0f7a4, Cond.instanceMethod yJ5_newCapacity_0f7a4, Cond.code yJ5_newCapacity_0f7a4 cJ5_newCapacity_0f7a4 6 (some .int), Cond.constant RJ5 39 (2147483647), Cond.methodLink RJ5 114 yJ8_newLength_cabcc, Cond.static yJ8_newLength_cabcc, Cond.initialized RJ8, Cond.code yJ8_newLength_cabcc cJ8_newLength_cabcc 4 (some .int), Cond.methodLink RJ8 194 Lib.Math.max.name, Cond.static Lib.Math.max.name, Cond.initialized "java/lang/Math"]
def wsX10_spell_r3 : List Cond := [Cond.code Lib.Math.max.name Lib.Math.max.code 2 (some .int), Cond.constant RJ8 200 (2147483639), Cond.methodLink RJ8 201 yJ8_hugeLength_7cf53, Cond.static yJ8_hugeLength_7cf53, Cond.code yJ8_hugeLength_7cf53 cJ8_hugeLength_7cf53 3 (some .int), Cond.methodLink RJ5 108 yJ7_copyOf_9075b, Cond.static yJ7_copyOf_9075b, Cond.initialized RJ7, Cond.code yJ7_copyOf_9075b cJ7_copyOf_9075b 3 (some (.array .byte)), Cond.methodLink RJ7 310 ⟨"[B", "clone", "()Ljava/lang/Object;"⟩, Cond.sameMethod "[B" "java/lang/Object" "clone" "()Ljava/lang/Object;", Cond.native ⟨"java/lang/Object", "clone", "()Ljava/lang/Object;"⟩, Cond.instanceMethod ⟨"java/lang/Object", "clone", "()Ljava/lang/Object;"⟩, Cond.selects "[B" ⟨"[B", "clone", "()Ljava/lang/Object;"⟩ ⟨"java/lang/Object", "clone", "()Ljava/lang/Object;"⟩, Cond.classLink RJ7 311 "[B", Cond.arrayClass .byte, Cond.methodLink RJ7 304 Lib.Math.min.name, Cond.static Lib.Math.min.name, Cond.code Lib.Math.min.name Lib.Math.min.code 2 (some .int), Cond.methodLink RJ7 150 arraycopyName, Cond.native arraycopyName, Cond.static arraycopyName, Cond.initialized "java/lang/System", Cond.methodLink RJ5 83 ⟨"java/lang/AbstractStringBuilder", "isLatin1", "()Z"⟩]
def wsX10_spell_r4 : List Cond := [Cond.sameMethod "java/lang/AbstractStringBuilder" "java/lang/AbstractStringBuilder" "isLatin1" "()Z", Cond.selects RJ4 ⟨"java/lang/AbstractStringBuilder", "isLatin1", "()Z"⟩ yJ5_isLatin1_aae02, Cond.instanceMethod yJ5_isLatin1_aae02, Cond.code yJ5_isLatin1_aae02 cJ5_isLatin1_aae02 1 (some .boolean), Cond.fieldLink RJ5 18 "java/lang/String" "COMPACT_STRINGS" "Z", Cond.methodLink RJ5 133 yJ1_fillNull_b72d1, Cond.static yJ1_fillNull_b72d1, Cond.initialized RJ1, Cond.code yJ1_fillNull_b72d1 cJ1_fillNull_b72d1 3 none, Cond.methodLink RJ1 236 yJ7_fill_eb02e, Cond.static yJ7_fill_eb02e, Cond.code yJ7_fill_eb02e cJ7_fill_eb02e 5 none, Cond.methodLink RJ7 13 yJ7_rangeCheck_23922, Cond.static yJ7_rangeCheck_23922, Cond.code yJ7_rangeCheck_23922 cJ7_rangeCheck_23922 3 none, Cond.methodLink RJ5 137 yJ2_fillNull_b72d1, Cond.static yJ2_fillNull_b72d1, Cond.initialized RJ2, Cond.code yJ2_fillNull_b72d1 cJ2_fillNull_b72d1 3 none, Cond.methodLink RJ2 380 yJ7_fill_eb02e, Cond.methodLink RX4 45 yJ4_append_cf468, Cond.instanceMethod yJ4_append_cf468, Cond.selects RJ4 yJ4_append_cf468 yJ4_append_cf468, Cond.code yJ4_append_cf468 cJ4_append_cf468 2 (some (.object "java/lang/StringBuilder"))]
def wsX10_spell_r5 : List Cond := [Cond.methodLink RJ4 50 yJ5_append_3fe6f, Cond.sameMethod "java/lang/AbstractStringBuilder" "java/lang/AbstractStringBuilder" "append" "(C)Ljava/lang/AbstractStringBuilder;", Cond.instanceMethod yJ5_append_3fe6f, Cond.code yJ5_append_3fe6f cJ5_append_3fe6f 2 (some (.object "java/lang/AbstractStringBuilder")), Cond.methodLink RJ5 191 yJ1_canEncode_fc78d, Cond.static yJ1_canEncode_fc78d, Cond.code yJ1_canEncode_fc78d cJ1_canEncode_fc78d 1 (some .boolean), Cond.methodLink RJ5 195 ⟨"java/lang/AbstractStringBuilder", "inflate", "()V"⟩, Cond.sameMethod "java/lang/AbstractStringBuilder" "java/lang/AbstractStringBuilder" "inflate" "()V", Cond.selects RJ4 ⟨"java/lang/AbstractStringBuilder", "inflate", "()V"⟩ yJ5_inflate_da8c8, Cond.instanceMethod yJ5_inflate_da8c8, Cond.code yJ5_inflate_da8c8 cJ5_inflate_da8c8 2 none, Cond.methodLink RJ5 26 yJ2_newBytesFor_77867, Cond.static yJ2_newBytesFor_77867, Cond.code yJ2_newBytesFor_77867 cJ2_newBytesFor_77867 1 (some (.array .byte)), Cond.methodLink RJ2 11 yJ2_newBytesLength_0f7a4, Cond.static yJ2_newBytesLength_0f7a4, Cond.code yJ2_newBytesLength_0f7a4 cJ2_newBytesLength_0f7a4 1 (some .int), Cond.constant RJ2 20 (1073741823), Cond.methodLink RJ5 125 yJ1_inflate_0e8fd, Cond.static yJ1_inflate_0e8fd, Cond.code yJ1_inflate_0e8fd cJ1_inflate_0e8fd 5 none, Cond.methodLink RJ1 240 yJ2_inflate_0e8fd, Cond.static yJ2_inflate_0e8fd]
def wsX10_spell_r6 : List Cond := [Cond.code yJ2_inflate_0e8fd cJ2_inflate_0e8fd 6 none, Cond.methodLink RJ2 173 yJ2_checkBoundsOffCount_d044e, Cond.static yJ2_checkBoundsOffCount_d044e, Cond.code yJ2_checkBoundsOffCount_d044e cJ2_checkBoundsOffCount_d044e 3 none, Cond.methodLink RJ2 48 yJ2_length_9d52b, Cond.static yJ2_length_9d52b, Cond.code yJ2_length_9d52b cJ2_length_9d52b 1 (some .int), Cond.methodLink RJ2 419 yJ0_checkBoundsOffCount_cabcc, Cond.static yJ0_checkBoundsOffCount_cabcc, Cond.initialized RJ0, Cond.code yJ0_checkBoundsOffCount_cabcc cJ0_checkBoundsOffCount_cabcc 3 (some .int), Cond.fieldLink RJ0 1053 "jdk/internal/util/Preconditions" "SIOOBE_FORMATTER" "Ljava/util/function/BiFunction;", Cond.methodLink RJ0 1065 yJ3_checkFromIndexSize_8c36e, Cond.static yJ3_checkFromIndexSize_8c36e, Cond.initialized RJ3, Cond.code yJ3_checkFromIndexSize_8c36e cJ3_checkFromIndexSize_8c36e 4 (some .int), Cond.methodLink RJ2 111 yJ2_putChar_b72d1, Cond.static yJ2_putChar_b72d1, Cond.code yJ2_putChar_b72d1 cJ2_putChar_b72d1 3 none, Cond.fieldLink RJ2 44 "java/lang/StringUTF16" "$assertionsDisabled" "Z", Cond.fieldLink RJ2 59 "java/lang/StringUTF16" "HI_BYTE_SHIFT" "I", Cond.fieldLink RJ2 63 "java/lang/StringUTF16" "LO_BYTE_SHIFT" "I", Cond.methodLink RJ5 197 yJ2_putCharSB_b72d1, Cond.static yJ2_putCharSB_b72d1]
def wsX10_spell_r7 : List Cond := [Cond.code yJ2_putCharSB_b72d1 cJ2_putCharSB_b72d1 3 none, Cond.methodLink RJ2 67 yJ2_checkIndex_2214a, Cond.static yJ2_checkIndex_2214a, Cond.code yJ2_checkIndex_2214a cJ2_checkIndex_2214a 2 none, Cond.methodLink RJ2 414 yJ0_checkIndex_df160, Cond.static yJ0_checkIndex_df160, Cond.code yJ0_checkIndex_df160 cJ0_checkIndex_df160 2 none, Cond.methodLink RJ0 1059 yJ3_checkIndex_8e157, Cond.static yJ3_checkIndex_8e157, Cond.code yJ3_checkIndex_8e157 cJ3_checkIndex_8e157 3 (some .int), Cond.methodLink RX4 49 yJ4_append_bf812, Cond.instanceMethod yJ4_append_bf812, Cond.selects RJ4 yJ4_append_bf812 yJ4_append_bf812, Cond.code yJ4_append_bf812 cJ4_append_bf812 2 (some (.object "java/lang/StringBuilder")), Cond.methodLink RJ4 53 yJ5_append_c97b9, Cond.sameMethod "java/lang/AbstractStringBuilder" "java/lang/AbstractStringBuilder" "append" "(I)Ljava/lang/AbstractStringBuilder;", Cond.instanceMethod yJ5_append_c97b9, Cond.code yJ5_append_c97b9 cJ5_append_c97b9 4 (some (.object "java/lang/AbstractStringBuilder")), Cond.methodLink RJ5 245 yJ6_stringSize_0f7a4, Cond.static yJ6_stringSize_0f7a4, Cond.initialized RJ6, Cond.code yJ6_stringSize_0f7a4 cJ6_stringSize_0f7a4 4 (some .int), Cond.methodLink RJ5 248 yJ6_getChars_ba4f3, Cond.static yJ6_getChars_ba4f3]
def wsX10_spell_r8 : List Cond := [Cond.code yJ6_getChars_ba4f3 cJ6_getChars_ba4f3 7 (some .int), Cond.fieldLink RJ6 83 "java/lang/Integer" "DigitOnes" "[B", Cond.fieldLink RJ6 87 "java/lang/Integer" "DigitTens" "[B", Cond.methodLink RJ5 251 yJ2_getChars_46870, Cond.static yJ2_getChars_46870, Cond.code yJ2_getChars_46870 cJ2_getChars_46870 5 (some .int), Cond.methodLink RJ2 96 yJ2_checkBoundsBeginEnd_d044e, Cond.static yJ2_checkBoundsBeginEnd_d044e, Cond.code yJ2_checkBoundsBeginEnd_d044e cJ2_checkBoundsBeginEnd_d044e 3 none, Cond.methodLink RJ2 241 yJ0_checkBoundsBeginEnd_23922, Cond.static yJ0_checkBoundsBeginEnd_23922, Cond.code yJ0_checkBoundsBeginEnd_23922 cJ0_checkBoundsBeginEnd_23922 3 none, Cond.methodLink RJ0 1062 yJ3_checkFromToIndex_8c36e, Cond.static yJ3_checkFromToIndex_8c36e, Cond.code yJ3_checkFromToIndex_8c36e cJ3_checkFromToIndex_8c36e 4 (some .int), Cond.methodLink RJ2 393 yJ2_getChars_ba4f3, Cond.static yJ2_getChars_ba4f3, Cond.code yJ2_getChars_ba4f3 cJ2_getChars_ba4f3 7 (some .int), Cond.fieldLink RJ2 403 "java/lang/Integer" "DigitOnes" "[B", Cond.fieldLink RJ2 407 "java/lang/Integer" "DigitTens" "[B", Cond.methodLink RX10 286 yJ4_length_8abf5, Cond.instanceMethod yJ4_length_8abf5, Cond.selects RJ4 yJ4_length_8abf5 yJ4_length_8abf5, Cond.code yJ4_length_8abf5 cJ4_length_8abf5 1 (some .int)]
def wsX10_spell_r9 : List Cond := [Cond.methodLink RJ4 343 yJ5_length_8abf5, Cond.sameMethod "java/lang/AbstractStringBuilder" "java/lang/AbstractStringBuilder" "length" "()I", Cond.instanceMethod yJ5_length_8abf5, Cond.code yJ5_length_8abf5 cJ5_length_8abf5 1 (some .int), Cond.methodLink RX10 309 yJ4_charAt_5068e, Cond.instanceMethod yJ4_charAt_5068e, Cond.selects RJ4 yJ4_charAt_5068e yJ4_charAt_5068e, Cond.code yJ4_charAt_5068e cJ4_charAt_5068e 2 (some .char), Cond.methodLink RJ4 329 yJ5_charAt_5068e, Cond.sameMethod "java/lang/AbstractStringBuilder" "java/lang/AbstractStringBuilder" "charAt" "(I)C", Cond.instanceMethod yJ5_charAt_5068e, Cond.code yJ5_charAt_5068e cJ5_charAt_5068e 5 (some .char), Cond.methodLink RJ5 138 Lib.Math.min.name, Cond.methodLink RJ5 144 yJ0_checkIndex_df160, Cond.methodLink RJ5 148 yJ2_getChar_3b067, Cond.static yJ2_getChar_3b067, Cond.code yJ2_getChar_3b067 cJ2_getChar_3b067 2 (some .char)]
def wsX10_spell : List Cond := .code yX10_spell cX10_spell 3 (some .int) :: ((wsX10_spell_r1 ++ (wsX10_spell_r2 ++ (wsX10_spell_r3 ++ (wsX10_spell_r4 ++ (wsX10_spell_r5 ++ (wsX10_spell_r6 ++ (wsX10_spell_r7 ++ (wsX10_spell_r8 ++ wsX10_spell_r9)))))))) ++ wsX100 ++ wsX60 ++ wsX40 ++ wsJ40)
def wsX10_count : List Cond := .code yX10_count cX10_count 3 (some .int) :: ([.fieldLink RX10 10 "ZoneRelay" "relay" "LZoneRelay$Relay;", .fieldLink RX10 149 "ZoneRelay$Relay" "network" "LZoneRelay$Network;", .fieldLink RX10 108 "ZoneRelay$Relay" "settings" "[I", .fieldLink RX10 139 "ZoneRelay$Relay" "time" "I", .fieldLink RX10 257 "ZoneRelay$Relay" "log" "LZoneRelay$Log;", .fieldLink RX10 313 "ZoneRelay$Log" "total" "I", .fieldLink RX10 43 "ZoneRelay" "pad" "Ljava/lang/StringBuilder;", .fieldLink RX10 153 "ZoneRelay$Network" "first" "[I", .fieldLink RX10 158 "ZoneRelay$Network" "second" "[I", .methodLink RX10 286 yJ4_length_8abf5, .instanceMethod yJ4_length_8abf5, .selects RJ4 yJ4_length_8abf5 yJ4_length_8abf5, .initialized RJ4, .code yJ4_length_8abf5 cJ4_length_8abf5 1 (some .int), .methodLink RJ4 343 yJ5_length_8abf5, .sameMethod "java/lang/AbstractStringBuilder" "java/lang/AbstractStringBuilder" "length" "()I", .superclass RJ4 RJ5, .instanceMethod yJ5_length_8abf5, .initialized RJ5, .code yJ5_length_8abf5 cJ5_length_8abf5 1 (some .int), .fieldLink RJ5 79 "java/lang/AbstractStringBuilder" "count" "I"] ++ wsX100 ++ wsX60 ++ wsX10 ++ wsX20 ++ wsJ40)
def wsX10_save_r1 : List Cond := [Cond.fieldLink RX10 19 "ZoneRelay" "slots" "[LZoneRelay$Relay;", Cond.classLink RX10 7 RX6, Cond.instantiable RX6 18, Cond.initialized RX6, Cond.fieldLink RX10 10 "ZoneRelay" "relay" "LZoneRelay$Relay;", Cond.fieldLink RX10 139 "ZoneRelay$Relay" "time" "I", Cond.methodLink RX10 57 yX10_outside, Cond.static yX10_outside, Cond.initialized RX10, Cond.code yX10_outside cX10_outside 3 (some .boolean), Cond.methodLink RX10 9 yX6_init, Cond.instanceMethod yX6_init, Cond.code yX6_init cX6_init 2 none, Cond.methodLink RX6 3 objectInit, Cond.instanceMethod objectInit, Cond.code objectInit ⟨#[0xb1]⟩ 1 none, Cond.classLink RX6 9 RX4, Cond.fieldLink RX6 11 "ZoneRelay$Relay" "polygons" "[LZoneRelay$Polygon;", Cond.arrayClass .int, Cond.fieldLink RX6 17 "ZoneRelay$Relay" "settings" "[I", Cond.classLink RX6 21 RX9, Cond.instantiable RX9 4, Cond.initialized RX9, Cond.fieldLink RX6 26 "ZoneRelay$Relay" "zones" "[LZoneRelay$Zone;"]
def wsX10_save_r2 : List Cond := [Cond.classLink RX6 30 RX2, Cond.instantiable RX2 2, Cond.initialized RX2, Cond.fieldLink RX6 33 "ZoneRelay$Relay" "network" "LZoneRelay$Network;", Cond.classLink RX6 37 RX7, Cond.instantiable RX7 5, Cond.initialized RX7, Cond.fieldLink RX6 40 "ZoneRelay$Relay" "signal" "LZoneRelay$Signal;", Cond.classLink RX6 44 RX8, Cond.instantiable RX8 3, Cond.initialized RX8, Cond.fieldLink RX6 47 "ZoneRelay$Relay" "voltage" "LZoneRelay$Window;", Cond.fieldLink RX6 51 "ZoneRelay$Relay" "current" "LZoneRelay$Window;", Cond.classLink RX6 54 RX3, Cond.instantiable RX3 4, Cond.initialized RX3, Cond.fieldLink RX6 57 "ZoneRelay$Relay" "estimate" "LZoneRelay$Phasors;", Cond.classLink RX6 61 RX0, Cond.instantiable RX0 4, Cond.initialized RX0, Cond.fieldLink RX6 64 "ZoneRelay$Relay" "impedance" "LZoneRelay$Impedance;", Cond.classLink RX6 68 RX1, Cond.instantiable RX1 3, Cond.initialized RX1]
def wsX10_save_r3 : List Cond := [Cond.fieldLink RX6 71 "ZoneRelay$Relay" "log" "LZoneRelay$Log;", Cond.fieldLink RX6 75 "ZoneRelay$Relay" "trippedBy" "I", Cond.instantiable RX4 4, Cond.initialized RX4, Cond.methodLink RX6 23 yX9_init, Cond.instanceMethod yX9_init, Cond.code yX9_init cX9_init 2 none, Cond.methodLink RX9 3 objectInit, Cond.fieldLink RX9 9 "ZoneRelay$Zone" "direction" "I", Cond.fieldLink RX9 15 "ZoneRelay$Zone" "delay" "I", Cond.instanceMethod yX2_init, Cond.code yX2_init cX2_init 1 none, Cond.methodLink RX2 3 objectInit, Cond.fieldLink RX2 9 "ZoneRelay$Network" "first" "[I", Cond.fieldLink RX2 15 "ZoneRelay$Network" "second" "[I", Cond.instanceMethod yX7_init, Cond.code yX7_init cX7_init 1 none, Cond.methodLink RX7 1 objectInit, Cond.classLink RX7 7 RX3, Cond.fieldLink RX7 10 "ZoneRelay$Signal" "now" "LZoneRelay$Phasors;", Cond.fieldLink RX7 16 "ZoneRelay$Signal" "from" "LZoneRelay$Phasors;", Cond.fieldLink RX7 19 "ZoneRelay$Signal" "to" "LZoneRelay$Phasors;", Cond.instanceMethod yX3_init, Cond.code yX3_init cX3_init 1 none]
def wsX10_save_r4 : List Cond := [Cond.methodLink RX3 1 objectInit, Cond.instanceMethod yX8_init, Cond.code yX8_init cX8_init 1 none, Cond.methodLink RX8 3 objectInit, Cond.fieldLink RX8 9 "ZoneRelay$Window" "samples" "[I", Cond.instanceMethod yX0_init, Cond.code yX0_init cX0_init 1 none, Cond.methodLink RX0 1 objectInit, Cond.fieldLink RX0 7 "ZoneRelay$Impedance" "d" "J", Cond.instanceMethod yX1_init, Cond.code yX1_init cX1_init 1 none, Cond.methodLink RX1 3 objectInit, Cond.fieldLink RX1 9 "ZoneRelay$Log" "times" "[I", Cond.fieldLink RX1 15 "ZoneRelay$Log" "kinds" "[I", Cond.instanceMethod yX4_init, Cond.code yX4_init cX4_init 1 none, Cond.methodLink RX4 3 objectInit, Cond.fieldLink RX4 9 "ZoneRelay$Polygon" "xs" "[I", Cond.fieldLink RX4 15 "ZoneRelay$Polygon" "ys" "[I", Cond.fieldLink RX4 18 "ZoneRelay$Polygon" "defect" "I", Cond.methodLink RX10 278 yX6_becomeLike, Cond.instanceMethod yX6_becomeLike, Cond.selects RX6 yX6_becomeLike yX6_becomeLike, Cond.code yX6_becomeLike cX6_becomeLike 3 none]
def wsX10_save_r5 : List Cond := [Cond.methodLink RX6 87 arraycopyName, Cond.native arraycopyName, Cond.static arraycopyName, Cond.initialized "java/lang/System", Cond.fieldLink RX6 111 "ZoneRelay$Relay" "memoryA" "I", Cond.fieldLink RX6 114 "ZoneRelay$Relay" "memoryB" "I", Cond.fieldLink RX6 117 "ZoneRelay$Relay" "memoryAge" "I", Cond.fieldLink RX6 120 "ZoneRelay$Relay" "between" "I", Cond.fieldLink RX6 123 "ZoneRelay$Relay" "swing" "Z", Cond.fieldLink RX6 127 "ZoneRelay$Relay" "inLoad" "Z", Cond.fieldLink RX6 130 "ZoneRelay$Relay" "time" "I", Cond.methodLink RX6 80 yX4_becomeLike, Cond.instanceMethod yX4_becomeLike, Cond.selects RX4 yX4_becomeLike yX4_becomeLike, Cond.code yX4_becomeLike cX4_becomeLike 2 none, Cond.methodLink RX4 22 arraycopyName, Cond.fieldLink RX4 28 "ZoneRelay$Polygon" "size" "I", Cond.methodLink RX6 84 yX9_becomeLike, Cond.instanceMethod yX9_becomeLike, Cond.selects RX9 yX9_becomeLike yX9_becomeLike, Cond.code yX9_becomeLike cX9_becomeLike 2 none, Cond.fieldLink RX9 18 "ZoneRelay$Zone" "timer" "I", Cond.fieldLink RX9 21 "ZoneRelay$Zone" "picked" "Z", Cond.methodLink RX6 93 yX2_becomeLike]
def wsX10_save_r6 : List Cond := [Cond.instanceMethod yX2_becomeLike, Cond.selects RX2 yX2_becomeLike yX2_becomeLike, Cond.code yX2_becomeLike cX2_becomeLike 2 none, Cond.methodLink RX2 18 arraycopyName, Cond.methodLink RX6 96 yX7_becomeLike, Cond.instanceMethod yX7_becomeLike, Cond.selects RX7 yX7_becomeLike yX7_becomeLike, Cond.code yX7_becomeLike cX7_becomeLike 2 none, Cond.fieldLink RX7 26 "ZoneRelay$Signal" "length" "I", Cond.fieldLink RX7 30 "ZoneRelay$Signal" "left" "I", Cond.methodLink RX7 22 yX3_becomeLike, Cond.instanceMethod yX3_becomeLike, Cond.selects RX3 yX3_becomeLike yX3_becomeLike, Cond.code yX3_becomeLike cX3_becomeLike 2 none, Cond.fieldLink RX3 7 "ZoneRelay$Phasors" "va" "I", Cond.fieldLink RX3 13 "ZoneRelay$Phasors" "vb" "I", Cond.fieldLink RX3 16 "ZoneRelay$Phasors" "ia" "I", Cond.fieldLink RX3 19 "ZoneRelay$Phasors" "ib" "I", Cond.methodLink RX3 22 yX3_put, Cond.instanceMethod yX3_put, Cond.selects RX3 yX3_put yX3_put, Cond.code yX3_put cX3_put 5 none, Cond.methodLink RX6 99 yX8_becomeLike, Cond.instanceMethod yX8_becomeLike]
def wsX10_save_r7 : List Cond := [Cond.selects RX8 yX8_becomeLike yX8_becomeLike, Cond.code yX8_becomeLike cX8_becomeLike 2 none, Cond.methodLink RX8 15 arraycopyName, Cond.fieldLink RX8 21 "ZoneRelay$Window" "cosineSum" "J", Cond.fieldLink RX8 25 "ZoneRelay$Window" "sineSum" "J", Cond.methodLink RX6 102 yX3_becomeLike, Cond.methodLink RX6 105 yX0_becomeLike, Cond.instanceMethod yX0_becomeLike, Cond.selects RX0 yX0_becomeLike yX0_becomeLike, Cond.code yX0_becomeLike cX0_becomeLike 2 none, Cond.fieldLink RX0 13 "ZoneRelay$Impedance" "exists" "Z", Cond.fieldLink RX0 17 "ZoneRelay$Impedance" "x" "J", Cond.fieldLink RX0 20 "ZoneRelay$Impedance" "y" "J", Cond.methodLink RX6 108 yX1_becomeLike, Cond.instanceMethod yX1_becomeLike, Cond.selects RX1 yX1_becomeLike yX1_becomeLike, Cond.code yX1_becomeLike cX1_becomeLike 2 none, Cond.methodLink RX1 18 arraycopyName, Cond.fieldLink RX1 24 "ZoneRelay$Log" "total" "I"]
def wsX10_save : List Cond := .code yX10_save cX10_save 2 (some .int) :: ((wsX10_save_r1 ++ (wsX10_save_r2 ++ (wsX10_save_r3 ++ (wsX10_save_r4 ++ (wsX10_save_r5 ++ (wsX10_save_r6 ++ wsX10_save_r7)))))) ++ wsX100 ++ wsX60 ++ wsX90 ++ wsX20 ++ wsX70 ++ wsX80 ++ wsX30 ++ wsX00 ++ wsX10 ++ wsX40)
def wsX10_restore_r1 : List Cond := [Cond.fieldLink RX10 19 "ZoneRelay" "slots" "[LZoneRelay$Relay;", Cond.fieldLink RX10 10 "ZoneRelay" "relay" "LZoneRelay$Relay;", Cond.fieldLink RX10 139 "ZoneRelay$Relay" "time" "I", Cond.methodLink RX10 57 yX10_outside, Cond.static yX10_outside, Cond.initialized RX10, Cond.code yX10_outside cX10_outside 3 (some .boolean), Cond.methodLink RX10 278 yX6_becomeLike, Cond.instanceMethod yX6_becomeLike, Cond.selects RX6 yX6_becomeLike yX6_becomeLike, Cond.initialized RX6, Cond.code yX6_becomeLike cX6_becomeLike 3 none, Cond.fieldLink RX6 11 "ZoneRelay$Relay" "polygons" "[LZoneRelay$Polygon;", Cond.fieldLink RX6 26 "ZoneRelay$Relay" "zones" "[LZoneRelay$Zone;", Cond.fieldLink RX6 17 "ZoneRelay$Relay" "settings" "[I", Cond.methodLink RX6 87 arraycopyName, Cond.native arraycopyName, Cond.static arraycopyName, Cond.initialized "java/lang/System", Cond.fieldLink RX6 33 "ZoneRelay$Relay" "network" "LZoneRelay$Network;", Cond.fieldLink RX6 40 "ZoneRelay$Relay" "signal" "LZoneRelay$Signal;", Cond.fieldLink RX6 47 "ZoneRelay$Relay" "voltage" "LZoneRelay$Window;", Cond.fieldLink RX6 51 "ZoneRelay$Relay" "current" "LZoneRelay$Window;", Cond.fieldLink RX6 57 "ZoneRelay$Relay" "estimate" "LZoneRelay$Phasors;"]
def wsX10_restore_r2 : List Cond := [Cond.fieldLink RX6 64 "ZoneRelay$Relay" "impedance" "LZoneRelay$Impedance;", Cond.fieldLink RX6 71 "ZoneRelay$Relay" "log" "LZoneRelay$Log;", Cond.fieldLink RX6 111 "ZoneRelay$Relay" "memoryA" "I", Cond.fieldLink RX6 114 "ZoneRelay$Relay" "memoryB" "I", Cond.fieldLink RX6 117 "ZoneRelay$Relay" "memoryAge" "I", Cond.fieldLink RX6 120 "ZoneRelay$Relay" "between" "I", Cond.fieldLink RX6 123 "ZoneRelay$Relay" "swing" "Z", Cond.fieldLink RX6 127 "ZoneRelay$Relay" "inLoad" "Z", Cond.fieldLink RX6 75 "ZoneRelay$Relay" "trippedBy" "I", Cond.fieldLink RX6 130 "ZoneRelay$Relay" "time" "I", Cond.methodLink RX6 80 yX4_becomeLike, Cond.instanceMethod yX4_becomeLike, Cond.selects RX4 yX4_becomeLike yX4_becomeLike, Cond.initialized RX4, Cond.code yX4_becomeLike cX4_becomeLike 2 none, Cond.fieldLink RX4 9 "ZoneRelay$Polygon" "xs" "[I", Cond.methodLink RX4 22 arraycopyName, Cond.fieldLink RX4 15 "ZoneRelay$Polygon" "ys" "[I", Cond.fieldLink RX4 28 "ZoneRelay$Polygon" "size" "I", Cond.fieldLink RX4 18 "ZoneRelay$Polygon" "defect" "I", Cond.methodLink RX6 84 yX9_becomeLike, Cond.instanceMethod yX9_becomeLike, Cond.selects RX9 yX9_becomeLike yX9_becomeLike, Cond.initialized RX9]
def wsX10_restore_r3 : List Cond := [Cond.code yX9_becomeLike cX9_becomeLike 2 none, Cond.fieldLink RX9 15 "ZoneRelay$Zone" "delay" "I", Cond.fieldLink RX9 9 "ZoneRelay$Zone" "direction" "I", Cond.fieldLink RX9 18 "ZoneRelay$Zone" "timer" "I", Cond.fieldLink RX9 21 "ZoneRelay$Zone" "picked" "Z", Cond.methodLink RX6 93 yX2_becomeLike, Cond.instanceMethod yX2_becomeLike, Cond.selects RX2 yX2_becomeLike yX2_becomeLike, Cond.initialized RX2, Cond.code yX2_becomeLike cX2_becomeLike 2 none, Cond.fieldLink RX2 9 "ZoneRelay$Network" "first" "[I", Cond.methodLink RX2 18 arraycopyName, Cond.fieldLink RX2 15 "ZoneRelay$Network" "second" "[I", Cond.methodLink RX6 96 yX7_becomeLike, Cond.instanceMethod yX7_becomeLike, Cond.selects RX7 yX7_becomeLike yX7_becomeLike, Cond.initialized RX7, Cond.code yX7_becomeLike cX7_becomeLike 2 none, Cond.fieldLink RX7 10 "ZoneRelay$Signal" "now" "LZoneRelay$Phasors;", Cond.fieldLink RX7 16 "ZoneRelay$Signal" "from" "LZoneRelay$Phasors;", Cond.fieldLink RX7 19 "ZoneRelay$Signal" "to" "LZoneRelay$Phasors;", Cond.fieldLink RX7 26 "ZoneRelay$Signal" "length" "I", Cond.fieldLink RX7 30 "ZoneRelay$Signal" "left" "I", Cond.methodLink RX7 22 yX3_becomeLike]
def wsX10_restore_r4 : List Cond := [Cond.instanceMethod yX3_becomeLike, Cond.selects RX3 yX3_becomeLike yX3_becomeLike, Cond.initialized RX3, Cond.code yX3_becomeLike cX3_becomeLike 2 none, Cond.fieldLink RX3 7 "ZoneRelay$Phasors" "va" "I", Cond.fieldLink RX3 13 "ZoneRelay$Phasors" "vb" "I", Cond.fieldLink RX3 16 "ZoneRelay$Phasors" "ia" "I", Cond.fieldLink RX3 19 "ZoneRelay$Phasors" "ib" "I", Cond.methodLink RX3 22 yX3_put, Cond.instanceMethod yX3_put, Cond.selects RX3 yX3_put yX3_put, Cond.code yX3_put cX3_put 5 none, Cond.methodLink RX6 99 yX8_becomeLike, Cond.instanceMethod yX8_becomeLike, Cond.selects RX8 yX8_becomeLike yX8_becomeLike, Cond.initialized RX8, Cond.code yX8_becomeLike cX8_becomeLike 2 none, Cond.fieldLink RX8 9 "ZoneRelay$Window" "samples" "[I", Cond.methodLink RX8 15 arraycopyName, Cond.fieldLink RX8 21 "ZoneRelay$Window" "cosineSum" "J", Cond.fieldLink RX8 25 "ZoneRelay$Window" "sineSum" "J", Cond.methodLink RX6 102 yX3_becomeLike, Cond.methodLink RX6 105 yX0_becomeLike, Cond.instanceMethod yX0_becomeLike]
def wsX10_restore_r5 : List Cond := [Cond.selects RX0 yX0_becomeLike yX0_becomeLike, Cond.initialized RX0, Cond.code yX0_becomeLike cX0_becomeLike 2 none, Cond.fieldLink RX0 13 "ZoneRelay$Impedance" "exists" "Z", Cond.fieldLink RX0 17 "ZoneRelay$Impedance" "x" "J", Cond.fieldLink RX0 20 "ZoneRelay$Impedance" "y" "J", Cond.fieldLink RX0 7 "ZoneRelay$Impedance" "d" "J", Cond.methodLink RX6 108 yX1_becomeLike, Cond.instanceMethod yX1_becomeLike, Cond.selects RX1 yX1_becomeLike yX1_becomeLike, Cond.initialized RX1, Cond.code yX1_becomeLike cX1_becomeLike 2 none, Cond.fieldLink RX1 9 "ZoneRelay$Log" "times" "[I", Cond.methodLink RX1 18 arraycopyName, Cond.fieldLink RX1 15 "ZoneRelay$Log" "kinds" "[I", Cond.fieldLink RX1 24 "ZoneRelay$Log" "total" "I"]
def wsX10_restore : List Cond := .code yX10_restore cX10_restore 2 (some .int) :: ((wsX10_restore_r1 ++ (wsX10_restore_r2 ++ (wsX10_restore_r3 ++ (wsX10_restore_r4 ++ wsX10_restore_r5)))) ++ wsX100 ++ wsX60 ++ wsX40 ++ wsX90 ++ wsX20 ++ wsX70 ++ wsX30 ++ wsX80 ++ wsX00 ++ wsX10)
def wsX11_quarter : List Cond := .code yX11_quarter cX11_quarter 1 (some .int) :: ([])
def wsX11_init_r1 : List Cond := [Cond.methodLink RX11 1 objectInit, Cond.instanceMethod objectInit, Cond.code objectInit ⟨#[0xb1]⟩ 1 none, Cond.arrayClass .long, Cond.fieldLink RX11 7 "ZoneRelayModel" "at" "[J", Cond.fieldLink RX11 13 "ZoneRelayModel" "aside" "[J", Cond.fieldLink RX11 16 "ZoneRelayModel" "slots" "[J", Cond.arrayClass .boolean, Cond.fieldLink RX11 19 "ZoneRelayModel" "isSaved" "[Z", Cond.arrayClass .int, Cond.fieldLink RX11 23 "ZoneRelayModel" "pad" "[I", Cond.fieldLink RX11 27 "ZoneRelayModel" "cosine" "[I", Cond.fieldLink RX11 30 "ZoneRelayModel" "read" "[I", Cond.fieldLink RX11 33 "ZoneRelayModel" "written" "[I", Cond.constantLong RX11 36 (10000), Cond.constantLong RX11 38 (100), Cond.constantLong RX11 40 (1000), Cond.constantLong RX11 42 (500), Cond.constantLong RX11 44 (3000), Cond.constantLong RX11 46 (20000), Cond.constantLong RX11 48 (5000), Cond.constantLong RX11 50 (48), Cond.constantLong RX11 52 (24), Cond.constantLong RX11 54 (4)]
def wsX11_init_r2 : List Cond := [Cond.constantLong RX11 56 (480), Cond.constantLong RX11 58 (1200), Cond.constantLong RX11 60 (-6), Cond.methodLink RX11 62 yX11_quarter, Cond.static yX11_quarter, Cond.initialized RX11, Cond.code yX11_quarter cX11_quarter 1 (some .int)]
def wsX11_init : List Cond := .code yX11_init cX11_init 3 none :: ((wsX11_init_r1 ++ wsX11_init_r2) ++ wsX110)
def wsX11_in : List Cond := .code yX11_in cX11_in 6 (some .boolean) :: ([])
def wsX11_size : List Cond := .code yX11_size cX11_size 2 (some .long) :: ([])
def wsX11_sine : List Cond := .code yX11_sine cX11_sine 3 (some .long) :: ([.fieldLink RX11 27 "ZoneRelayModel" "cosine" "[I", .constantLong RX11 66 (18), .constantLong RX11 52 (24)] ++ wsX110)
def wsX11_putAside : List Cond := .code yX11_putAside cX11_putAside 2 none :: ([.fieldLink RX11 13 "ZoneRelayModel" "aside" "[J", .fieldLink RX11 7 "ZoneRelayModel" "at" "[J"] ++ wsX110)
def wsX11_putBack : List Cond := .code yX11_putBack cX11_putBack 2 none :: ([.fieldLink RX11 7 "ZoneRelayModel" "at" "[J", .fieldLink RX11 13 "ZoneRelayModel" "aside" "[J"] ++ wsX110)
def wsX11_isPolygon : List Cond := .code yX11_isPolygon cX11_isPolygon 1 (some .boolean) :: ([.constantLong RX11 54 (4), .methodLink RX11 68 yX11_in, .static yX11_in, .initialized RX11, .code yX11_in cX11_in 6 (some .boolean)])
def wsX11_isZone : List Cond := .code yX11_isZone cX11_isZone 1 (some .boolean) :: ([.constantLong RX11 72 (2), .methodLink RX11 68 yX11_in, .static yX11_in, .initialized RX11, .code yX11_in cX11_in 6 (some .boolean)])
def wsX11_corners : List Cond := .code yX11_corners cX11_corners 2 (some .int) :: ([.fieldLink RX11 7 "ZoneRelayModel" "at" "[J"] ++ wsX110)
def wsX11_cornerAt : List Cond := .code yX11_cornerAt cX11_cornerAt 3 (some .int) :: ([])
def wsX11_coordinate : List Cond := .code yX11_coordinate cX11_coordinate 4 (some .long) :: ([.fieldLink RX11 7 "ZoneRelayModel" "at" "[J", .methodLink RX11 74 yX11_corners, .instanceMethod yX11_corners, .selects RX11 yX11_corners yX11_corners, .initialized RX11, .code yX11_corners cX11_corners 2 (some .int), .methodLink RX11 77 yX11_cornerAt, .static yX11_cornerAt, .code yX11_cornerAt cX11_cornerAt 3 (some .int)] ++ wsX110)
def wsX11_append : List Cond := .code yX11_append cX11_append 5 none :: ([.fieldLink RX11 7 "ZoneRelayModel" "at" "[J", .methodLink RX11 74 yX11_corners, .instanceMethod yX11_corners, .selects RX11 yX11_corners yX11_corners, .initialized RX11, .code yX11_corners cX11_corners 2 (some .int), .methodLink RX11 77 yX11_cornerAt, .static yX11_cornerAt, .code yX11_cornerAt cX11_cornerAt 3 (some .int)] ++ wsX110)
def wsX11_corner : List Cond := .code yX11_corner cX11_corner 4 (some .int) :: ([.constantLong RX11 85 (-20000), .constantLong RX11 46 (20000), .methodLink RX11 81 yX11_isPolygon, .static yX11_isPolygon, .initialized RX11, .code yX11_isPolygon cX11_isPolygon 1 (some .boolean), .constantLong RX11 54 (4), .methodLink RX11 68 yX11_in, .static yX11_in, .code yX11_in cX11_in 6 (some .boolean), .methodLink RX11 74 yX11_corners, .instanceMethod yX11_corners, .selects RX11 yX11_corners yX11_corners, .code yX11_corners cX11_corners 2 (some .int), .fieldLink RX11 7 "ZoneRelayModel" "at" "[J", .methodLink RX11 87 yX11_append, .instanceMethod yX11_append, .selects RX11 yX11_append yX11_append, .code yX11_append cX11_append 5 none, .methodLink RX11 77 yX11_cornerAt, .static yX11_cornerAt, .code yX11_cornerAt cX11_cornerAt 3 (some .int)] ++ wsX110)
def wsX11_clear : List Cond := .code yX11_clear cX11_clear 3 (some .int) :: ([.fieldLink RX11 7 "ZoneRelayModel" "at" "[J", .methodLink RX11 81 yX11_isPolygon, .static yX11_isPolygon, .initialized RX11, .code yX11_isPolygon cX11_isPolygon 1 (some .boolean), .constantLong RX11 54 (4), .methodLink RX11 68 yX11_in, .static yX11_in, .code yX11_in cX11_in 6 (some .boolean), .methodLink RX11 74 yX11_corners, .instanceMethod yX11_corners, .selects RX11 yX11_corners yX11_corners, .code yX11_corners cX11_corners 2 (some .int)] ++ wsX110)
def wsX11_at : List Cond := .code yX11_at cX11_at 4 (some .int) :: ([.fieldLink RX11 7 "ZoneRelayModel" "at" "[J", .constant RX11 91 (100000), .methodLink RX11 81 yX11_isPolygon, .static yX11_isPolygon, .initialized RX11, .code yX11_isPolygon cX11_isPolygon 1 (some .boolean), .constantLong RX11 54 (4), .methodLink RX11 68 yX11_in, .static yX11_in, .code yX11_in cX11_in 6 (some .boolean), .methodLink RX11 74 yX11_corners, .instanceMethod yX11_corners, .selects RX11 yX11_corners yX11_corners, .code yX11_corners cX11_corners 2 (some .int), .methodLink RX11 77 yX11_cornerAt, .static yX11_cornerAt, .code yX11_cornerAt cX11_cornerAt 3 (some .int)] ++ wsX110)
def wsX11_turnsLeft : List Cond := .code yX11_turnsLeft cX11_turnsLeft 15 (some .boolean) :: ([.methodLink RX11 92 yX11_coordinate, .instanceMethod yX11_coordinate, .selects RX11 yX11_coordinate yX11_coordinate, .initialized RX11, .code yX11_coordinate cX11_coordinate 4 (some .long), .fieldLink RX11 7 "ZoneRelayModel" "at" "[J", .methodLink RX11 74 yX11_corners, .instanceMethod yX11_corners, .selects RX11 yX11_corners yX11_corners, .code yX11_corners cX11_corners 2 (some .int), .methodLink RX11 77 yX11_cornerAt, .static yX11_cornerAt, .code yX11_cornerAt cX11_cornerAt 3 (some .int)] ++ wsX110)
def wsX11_signChanges : List Cond := .code yX11_signChanges cX11_signChanges 9 (some .int) :: ([.methodLink RX11 74 yX11_corners, .instanceMethod yX11_corners, .selects RX11 yX11_corners yX11_corners, .initialized RX11, .code yX11_corners cX11_corners 2 (some .int), .fieldLink RX11 7 "ZoneRelayModel" "at" "[J", .methodLink RX11 92 yX11_coordinate, .instanceMethod yX11_coordinate, .selects RX11 yX11_coordinate yX11_coordinate, .code yX11_coordinate cX11_coordinate 4 (some .long), .methodLink RX11 77 yX11_cornerAt, .static yX11_cornerAt, .code yX11_cornerAt cX11_cornerAt 3 (some .int)] ++ wsX110)
def wsX11_soundness : List Cond := .code yX11_soundness cX11_soundness 4 (some .int) :: ([.methodLink RX11 74 yX11_corners, .instanceMethod yX11_corners, .selects RX11 yX11_corners yX11_corners, .initialized RX11, .code yX11_corners cX11_corners 2 (some .int), .fieldLink RX11 7 "ZoneRelayModel" "at" "[J", .methodLink RX11 96 yX11_turnsLeft, .instanceMethod yX11_turnsLeft, .selects RX11 yX11_turnsLeft yX11_turnsLeft, .code yX11_turnsLeft cX11_turnsLeft 15 (some .boolean), .methodLink RX11 92 yX11_coordinate, .instanceMethod yX11_coordinate, .selects RX11 yX11_coordinate yX11_coordinate, .code yX11_coordinate cX11_coordinate 4 (some .long), .methodLink RX11 77 yX11_cornerAt, .static yX11_cornerAt, .code yX11_cornerAt cX11_cornerAt 3 (some .int), .methodLink RX11 100 yX11_signChanges, .instanceMethod yX11_signChanges, .selects RX11 yX11_signChanges yX11_signChanges, .code yX11_signChanges cX11_signChanges 9 (some .int)] ++ wsX110)
def wsX11_sound_r1 : List Cond := [Cond.methodLink RX11 81 yX11_isPolygon, Cond.static yX11_isPolygon, Cond.initialized RX11, Cond.code yX11_isPolygon cX11_isPolygon 1 (some .boolean), Cond.constantLong RX11 54 (4), Cond.methodLink RX11 68 yX11_in, Cond.static yX11_in, Cond.code yX11_in cX11_in 6 (some .boolean), Cond.methodLink RX11 103 yX11_soundness, Cond.instanceMethod yX11_soundness, Cond.selects RX11 yX11_soundness yX11_soundness, Cond.code yX11_soundness cX11_soundness 4 (some .int), Cond.methodLink RX11 74 yX11_corners, Cond.instanceMethod yX11_corners, Cond.selects RX11 yX11_corners yX11_corners, Cond.code yX11_corners cX11_corners 2 (some .int), Cond.fieldLink RX11 7 "ZoneRelayModel" "at" "[J", Cond.methodLink RX11 96 yX11_turnsLeft, Cond.instanceMethod yX11_turnsLeft, Cond.selects RX11 yX11_turnsLeft yX11_turnsLeft, Cond.code yX11_turnsLeft cX11_turnsLeft 15 (some .boolean), Cond.methodLink RX11 92 yX11_coordinate, Cond.instanceMethod yX11_coordinate, Cond.selects RX11 yX11_coordinate yX11_coordinate]
def wsX11_sound_r2 : List Cond := [Cond.code yX11_coordinate cX11_coordinate 4 (some .long), Cond.methodLink RX11 77 yX11_cornerAt, Cond.static yX11_cornerAt, Cond.code yX11_cornerAt cX11_cornerAt 3 (some .int), Cond.methodLink RX11 100 yX11_signChanges, Cond.instanceMethod yX11_signChanges, Cond.selects RX11 yX11_signChanges yX11_signChanges, Cond.code yX11_signChanges cX11_signChanges 9 (some .int)]
def wsX11_sound : List Cond := .code yX11_sound cX11_sound 2 (some .int) :: ((wsX11_sound_r1 ++ wsX11_sound_r2) ++ wsX110)
def wsX11_holds_r1 : List Cond := [Cond.methodLink RX11 103 yX11_soundness, Cond.instanceMethod yX11_soundness, Cond.selects RX11 yX11_soundness yX11_soundness, Cond.initialized RX11, Cond.code yX11_soundness cX11_soundness 4 (some .int), Cond.methodLink RX11 74 yX11_corners, Cond.instanceMethod yX11_corners, Cond.selects RX11 yX11_corners yX11_corners, Cond.code yX11_corners cX11_corners 2 (some .int), Cond.fieldLink RX11 7 "ZoneRelayModel" "at" "[J", Cond.methodLink RX11 96 yX11_turnsLeft, Cond.instanceMethod yX11_turnsLeft, Cond.selects RX11 yX11_turnsLeft yX11_turnsLeft, Cond.code yX11_turnsLeft cX11_turnsLeft 15 (some .boolean), Cond.methodLink RX11 92 yX11_coordinate, Cond.instanceMethod yX11_coordinate, Cond.selects RX11 yX11_coordinate yX11_coordinate, Cond.code yX11_coordinate cX11_coordinate 4 (some .long), Cond.methodLink RX11 77 yX11_cornerAt, Cond.static yX11_cornerAt, Cond.code yX11_cornerAt cX11_cornerAt 3 (some .int), Cond.methodLink RX11 100 yX11_signChanges, Cond.instanceMethod yX11_signChanges, Cond.selects RX11 yX11_signChanges yX11_signChanges]
def wsX11_holds_r2 : List Cond := [Cond.code yX11_signChanges cX11_signChanges 9 (some .int)]
def wsX11_holds : List Cond := .code yX11_holds cX11_holds 18 (some .boolean) :: ((wsX11_holds_r1 ++ wsX11_holds_r2) ++ wsX110)
def wsX11_contains_r1 : List Cond := [Cond.constantLong RX11 106 (-100000), Cond.constantLong RX11 108 (100000), Cond.methodLink RX11 81 yX11_isPolygon, Cond.static yX11_isPolygon, Cond.initialized RX11, Cond.code yX11_isPolygon cX11_isPolygon 1 (some .boolean), Cond.constantLong RX11 54 (4), Cond.methodLink RX11 68 yX11_in, Cond.static yX11_in, Cond.code yX11_in cX11_in 6 (some .boolean), Cond.methodLink RX11 110 yX11_holds, Cond.instanceMethod yX11_holds, Cond.selects RX11 yX11_holds yX11_holds, Cond.code yX11_holds cX11_holds 18 (some .boolean), Cond.methodLink RX11 103 yX11_soundness, Cond.instanceMethod yX11_soundness, Cond.selects RX11 yX11_soundness yX11_soundness, Cond.code yX11_soundness cX11_soundness 4 (some .int), Cond.methodLink RX11 74 yX11_corners, Cond.instanceMethod yX11_corners, Cond.selects RX11 yX11_corners yX11_corners, Cond.code yX11_corners cX11_corners 2 (some .int), Cond.fieldLink RX11 7 "ZoneRelayModel" "at" "[J", Cond.methodLink RX11 96 yX11_turnsLeft]
def wsX11_contains_r2 : List Cond := [Cond.instanceMethod yX11_turnsLeft, Cond.selects RX11 yX11_turnsLeft yX11_turnsLeft, Cond.code yX11_turnsLeft cX11_turnsLeft 15 (some .boolean), Cond.methodLink RX11 92 yX11_coordinate, Cond.instanceMethod yX11_coordinate, Cond.selects RX11 yX11_coordinate yX11_coordinate, Cond.code yX11_coordinate cX11_coordinate 4 (some .long), Cond.methodLink RX11 77 yX11_cornerAt, Cond.static yX11_cornerAt, Cond.code yX11_cornerAt cX11_cornerAt 3 (some .int), Cond.methodLink RX11 100 yX11_signChanges, Cond.instanceMethod yX11_signChanges, Cond.selects RX11 yX11_signChanges yX11_signChanges, Cond.code yX11_signChanges cX11_signChanges 9 (some .int)]
def wsX11_contains : List Cond := .code yX11_contains cX11_contains 4 (some .int) :: ((wsX11_contains_r1 ++ wsX11_contains_r2) ++ wsX110)
def wsX11_takes : List Cond := .code yX11_takes cX11_takes 2 (some .boolean) :: ([.constantLong RX11 46 (20000), .constantLong RX11 40 (1000), .constantLong RX11 36 (10000), .constantLong RX11 114 (7), .methodLink RX11 68 yX11_in, .static yX11_in, .initialized RX11, .code yX11_in cX11_in 6 (some .boolean)])
def wsX11_set : List Cond := .code yX11_set cX11_set 4 (some .int) :: ([.fieldLink RX11 7 "ZoneRelayModel" "at" "[J", .methodLink RX11 116 yX11_takes, .static yX11_takes, .initialized RX11, .code yX11_takes cX11_takes 2 (some .boolean), .constantLong RX11 46 (20000), .constantLong RX11 40 (1000), .constantLong RX11 36 (10000), .constantLong RX11 114 (7), .methodLink RX11 68 yX11_in, .static yX11_in, .code yX11_in cX11_in 6 (some .boolean)] ++ wsX110)
def wsX11_zone : List Cond := .code yX11_zone cX11_zone 5 (some .int) :: ([.constantLong RX11 122 (2400), .constantLong RX11 72 (2), .fieldLink RX11 7 "ZoneRelayModel" "at" "[J", .methodLink RX11 119 yX11_isZone, .static yX11_isZone, .initialized RX11, .code yX11_isZone cX11_isZone 1 (some .boolean), .methodLink RX11 68 yX11_in, .static yX11_in, .code yX11_in cX11_in 6 (some .boolean)] ++ wsX110)
def wsX11_arePhasors : List Cond := .code yX11_arePhasors cX11_arePhasors 4 (some .boolean) :: ([.constantLong RX11 85 (-20000), .constantLong RX11 46 (20000), .methodLink RX11 68 yX11_in, .static yX11_in, .initialized RX11, .code yX11_in cX11_in 6 (some .boolean)])
def wsX11_putFour : List Cond := .code yX11_putFour cX11_putFour 10 none :: ([.fieldLink RX11 7 "ZoneRelayModel" "at" "[J"] ++ wsX110)
def wsX11_apply : List Cond := .code yX11_apply cX11_apply 5 (some .int) :: ([.fieldLink RX11 7 "ZoneRelayModel" "at" "[J", .methodLink RX11 124 yX11_arePhasors, .static yX11_arePhasors, .initialized RX11, .code yX11_arePhasors cX11_arePhasors 4 (some .boolean), .constantLong RX11 85 (-20000), .constantLong RX11 46 (20000), .methodLink RX11 68 yX11_in, .static yX11_in, .code yX11_in cX11_in 6 (some .boolean), .methodLink RX11 128 yX11_putFour, .instanceMethod yX11_putFour, .selects RX11 yX11_putFour yX11_putFour, .code yX11_putFour cX11_putFour 10 none] ++ wsX110)
def wsX11_ramp : List Cond := .code yX11_ramp cX11_ramp 6 (some .int) :: ([.constantLong RX11 122 (2400), .fieldLink RX11 7 "ZoneRelayModel" "at" "[J", .methodLink RX11 68 yX11_in, .static yX11_in, .initialized RX11, .code yX11_in cX11_in 6 (some .boolean), .methodLink RX11 124 yX11_arePhasors, .static yX11_arePhasors, .code yX11_arePhasors cX11_arePhasors 4 (some .boolean), .constantLong RX11 85 (-20000), .constantLong RX11 46 (20000), .methodLink RX11 128 yX11_putFour, .instanceMethod yX11_putFour, .selects RX11 yX11_putFour yX11_putFour, .code yX11_putFour cX11_putFour 10 none] ++ wsX110)
def wsX11_network : List Cond := .code yX11_network cX11_network 7 (some .int) :: ([.constantLong RX11 46 (20000), .constantLong RX11 132 (3), .fieldLink RX11 7 "ZoneRelayModel" "at" "[J", .methodLink RX11 68 yX11_in, .static yX11_in, .initialized RX11, .code yX11_in cX11_in 6 (some .boolean)] ++ wsX110)
def wsX11_limited : List Cond := .code yX11_limited cX11_limited 2 (some .long) :: ([.constantLong RX11 46 (20000), .constantLong RX11 85 (-20000)])
def wsX11_finds : List Cond := .code yX11_finds cX11_finds 21 (some .boolean) :: ([.fieldLink RX11 7 "ZoneRelayModel" "at" "[J", .constantLong RX11 40 (1000), .constantLong RX11 134 (-1000), .fieldLink RX11 140 "ZoneRelayModel" "foundVa" "J", .fieldLink RX11 144 "ZoneRelayModel" "foundVb" "J", .fieldLink RX11 147 "ZoneRelayModel" "foundIa" "J", .fieldLink RX11 150 "ZoneRelayModel" "foundIb" "J", .methodLink RX11 136 yX11_limited, .static yX11_limited, .initialized RX11, .code yX11_limited cX11_limited 2 (some .long), .constantLong RX11 46 (20000), .constantLong RX11 85 (-20000)] ++ wsX110)
def wsX11_findsFault : List Cond := .code yX11_findsFault cX11_findsFault 3 (some .boolean) :: ([.fieldLink RX11 7 "ZoneRelayModel" "at" "[J", .constantLong RX11 40 (1000), .methodLink RX11 153 yX11_finds, .instanceMethod yX11_finds, .selects RX11 yX11_finds yX11_finds, .initialized RX11, .code yX11_finds cX11_finds 21 (some .boolean), .constantLong RX11 134 (-1000), .fieldLink RX11 140 "ZoneRelayModel" "foundVa" "J", .fieldLink RX11 144 "ZoneRelayModel" "foundVb" "J", .fieldLink RX11 147 "ZoneRelayModel" "foundIa" "J", .fieldLink RX11 150 "ZoneRelayModel" "foundIb" "J", .methodLink RX11 136 yX11_limited, .static yX11_limited, .code yX11_limited cX11_limited 2 (some .long), .constantLong RX11 46 (20000), .constantLong RX11 85 (-20000)] ++ wsX110)
def wsX11_findsHealthy : List Cond := .code yX11_findsHealthy cX11_findsHealthy 1 (some .boolean) :: ([.fieldLink RX11 7 "ZoneRelayModel" "at" "[J", .methodLink RX11 153 yX11_finds, .instanceMethod yX11_finds, .selects RX11 yX11_finds yX11_finds, .initialized RX11, .code yX11_finds cX11_finds 21 (some .boolean), .constantLong RX11 40 (1000), .constantLong RX11 134 (-1000), .fieldLink RX11 140 "ZoneRelayModel" "foundVa" "J", .fieldLink RX11 144 "ZoneRelayModel" "foundVb" "J", .fieldLink RX11 147 "ZoneRelayModel" "foundIa" "J", .fieldLink RX11 150 "ZoneRelayModel" "foundIb" "J", .methodLink RX11 136 yX11_limited, .static yX11_limited, .code yX11_limited cX11_limited 2 (some .long), .constantLong RX11 46 (20000), .constantLong RX11 85 (-20000)] ++ wsX110)
def wsX11_applyFound : List Cond := .code yX11_applyFound cX11_applyFound 1 none :: ([.fieldLink RX11 140 "ZoneRelayModel" "foundVa" "J", .fieldLink RX11 144 "ZoneRelayModel" "foundVb" "J", .fieldLink RX11 147 "ZoneRelayModel" "foundIa" "J", .fieldLink RX11 150 "ZoneRelayModel" "foundIb" "J", .fieldLink RX11 7 "ZoneRelayModel" "at" "[J", .methodLink RX11 128 yX11_putFour, .instanceMethod yX11_putFour, .selects RX11 yX11_putFour yX11_putFour, .initialized RX11, .code yX11_putFour cX11_putFour 10 none] ++ wsX110)
def wsX11_isFault : List Cond := .code yX11_isFault cX11_isFault 2 (some .boolean) :: ([.constantLong RX11 40 (1000), .constantLong RX11 46 (20000), .methodLink RX11 68 yX11_in, .static yX11_in, .initialized RX11, .code yX11_in cX11_in 6 (some .boolean)])
def wsX11_fault_r1 : List Cond := [Cond.fieldLink RX11 7 "ZoneRelayModel" "at" "[J", Cond.methodLink RX11 157 yX11_isFault, Cond.static yX11_isFault, Cond.initialized RX11, Cond.code yX11_isFault cX11_isFault 2 (some .boolean), Cond.constantLong RX11 40 (1000), Cond.constantLong RX11 46 (20000), Cond.methodLink RX11 68 yX11_in, Cond.static yX11_in, Cond.code yX11_in cX11_in 6 (some .boolean), Cond.methodLink RX11 160 yX11_findsFault, Cond.instanceMethod yX11_findsFault, Cond.selects RX11 yX11_findsFault yX11_findsFault, Cond.code yX11_findsFault cX11_findsFault 3 (some .boolean), Cond.methodLink RX11 153 yX11_finds, Cond.instanceMethod yX11_finds, Cond.selects RX11 yX11_finds yX11_finds, Cond.code yX11_finds cX11_finds 21 (some .boolean), Cond.constantLong RX11 134 (-1000), Cond.fieldLink RX11 140 "ZoneRelayModel" "foundVa" "J", Cond.fieldLink RX11 144 "ZoneRelayModel" "foundVb" "J", Cond.fieldLink RX11 147 "ZoneRelayModel" "foundIa" "J", Cond.fieldLink RX11 150 "ZoneRelayModel" "foundIb" "J", Cond.methodLink RX11 136 yX11_limited]
def wsX11_fault_r2 : List Cond := [Cond.static yX11_limited, Cond.code yX11_limited cX11_limited 2 (some .long), Cond.constantLong RX11 85 (-20000), Cond.methodLink RX11 163 yX11_applyFound, Cond.instanceMethod yX11_applyFound, Cond.selects RX11 yX11_applyFound yX11_applyFound, Cond.code yX11_applyFound cX11_applyFound 1 none, Cond.methodLink RX11 128 yX11_putFour, Cond.instanceMethod yX11_putFour, Cond.selects RX11 yX11_putFour yX11_putFour, Cond.code yX11_putFour cX11_putFour 10 none]
def wsX11_fault : List Cond := .code yX11_fault cX11_fault 3 (some .int) :: ((wsX11_fault_r1 ++ wsX11_fault_r2) ++ wsX110)
def wsX11_healthy_r1 : List Cond := [Cond.fieldLink RX11 7 "ZoneRelayModel" "at" "[J", Cond.methodLink RX11 166 yX11_findsHealthy, Cond.instanceMethod yX11_findsHealthy, Cond.selects RX11 yX11_findsHealthy yX11_findsHealthy, Cond.initialized RX11, Cond.code yX11_findsHealthy cX11_findsHealthy 1 (some .boolean), Cond.methodLink RX11 153 yX11_finds, Cond.instanceMethod yX11_finds, Cond.selects RX11 yX11_finds yX11_finds, Cond.code yX11_finds cX11_finds 21 (some .boolean), Cond.constantLong RX11 40 (1000), Cond.constantLong RX11 134 (-1000), Cond.fieldLink RX11 140 "ZoneRelayModel" "foundVa" "J", Cond.fieldLink RX11 144 "ZoneRelayModel" "foundVb" "J", Cond.fieldLink RX11 147 "ZoneRelayModel" "foundIa" "J", Cond.fieldLink RX11 150 "ZoneRelayModel" "foundIb" "J", Cond.methodLink RX11 136 yX11_limited, Cond.static yX11_limited, Cond.code yX11_limited cX11_limited 2 (some .long), Cond.constantLong RX11 46 (20000), Cond.constantLong RX11 85 (-20000), Cond.methodLink RX11 163 yX11_applyFound, Cond.instanceMethod yX11_applyFound, Cond.selects RX11 yX11_applyFound yX11_applyFound]
def wsX11_healthy_r2 : List Cond := [Cond.code yX11_applyFound cX11_applyFound 1 none, Cond.methodLink RX11 128 yX11_putFour, Cond.instanceMethod yX11_putFour, Cond.selects RX11 yX11_putFour yX11_putFour, Cond.code yX11_putFour cX11_putFour 10 none]
def wsX11_healthy : List Cond := .code yX11_healthy cX11_healthy 1 (some .int) :: ((wsX11_healthy_r1 ++ wsX11_healthy_r2) ++ wsX110)
def wsX11_phasor : List Cond := .code yX11_phasor cX11_phasor 2 (some .long) :: ([.constantLong RX11 54 (4), .fieldLink RX11 7 "ZoneRelayModel" "at" "[J", .constantLong RX11 170 (-1000000000000000002), .methodLink RX11 68 yX11_in, .static yX11_in, .initialized RX11, .code yX11_in cX11_in 6 (some .boolean)] ++ wsX110)
def wsX11_goOnRamp : List Cond := .code yX11_goOnRamp cX11_goOnRamp 4 none :: ([.fieldLink RX11 7 "ZoneRelayModel" "at" "[J"] ++ wsX110)
def wsX11_takeSample : List Cond := .code yX11_takeSample cX11_takeSample 4 none :: ([.fieldLink RX11 7 "ZoneRelayModel" "at" "[J", .constantLong RX11 52 (24), .fieldLink RX11 27 "ZoneRelayModel" "cosine" "[I", .constantLong RX11 175 (4096), .methodLink RX11 172 yX11_sine, .instanceMethod yX11_sine, .selects RX11 yX11_sine yX11_sine, .initialized RX11, .code yX11_sine cX11_sine 3 (some .long), .constantLong RX11 66 (18)] ++ wsX110)
def wsX11_estimate : List Cond := .code yX11_estimate cX11_estimate 8 none :: ([.fieldLink RX11 7 "ZoneRelayModel" "at" "[J", .fieldLink RX11 27 "ZoneRelayModel" "cosine" "[I", .constantLong RX11 177 (49152), .methodLink RX11 172 yX11_sine, .instanceMethod yX11_sine, .selects RX11 yX11_sine yX11_sine, .initialized RX11, .code yX11_sine cX11_sine 3 (some .long), .constantLong RX11 66 (18), .constantLong RX11 52 (24)] ++ wsX110)
def wsX11_remember : List Cond := .code yX11_remember cX11_remember 5 none :: ([.fieldLink RX11 7 "ZoneRelayModel" "at" "[J"] ++ wsX110)
def wsX11_note : List Cond := .code yX11_note cX11_note 3 none :: ([.fieldLink RX11 7 "ZoneRelayModel" "at" "[J", .constantLong RX11 179 (60)] ++ wsX110)
def wsX11_endSwing : List Cond := .code yX11_endSwing cX11_endSwing 1 none :: ([.fieldLink RX11 7 "ZoneRelayModel" "at" "[J", .methodLink RX11 181 yX11_note, .instanceMethod yX11_note, .selects RX11 yX11_note yX11_note, .initialized RX11, .code yX11_note cX11_note 3 none, .constantLong RX11 179 (60)] ++ wsX110)
def wsX11_laysPoint : List Cond := .code yX11_laysPoint cX11_laysPoint 9 (some .boolean) :: ([.constantLong RX11 40 (1000), .fieldLink RX11 185 "ZoneRelayModel" "pointX" "J", .fieldLink RX11 188 "ZoneRelayModel" "pointY" "J", .fieldLink RX11 191 "ZoneRelayModel" "pointBy" "J", .fieldLink RX11 7 "ZoneRelayModel" "at" "[J"] ++ wsX110)
def wsX11_isInLoad : List Cond := .code yX11_isInLoad cX11_isInLoad 1 (some .boolean) :: ([.fieldLink RX11 185 "ZoneRelayModel" "pointX" "J", .fieldLink RX11 7 "ZoneRelayModel" "at" "[J", .fieldLink RX11 191 "ZoneRelayModel" "pointBy" "J", .fieldLink RX11 188 "ZoneRelayModel" "pointY" "J", .constantLong RX11 40 (1000), .methodLink RX11 194 yX11_size, .static yX11_size, .initialized RX11, .code yX11_size cX11_size 2 (some .long)] ++ wsX110)
def wsX11_isInside_r1 : List Cond := [Cond.fieldLink RX11 185 "ZoneRelayModel" "pointX" "J", Cond.fieldLink RX11 188 "ZoneRelayModel" "pointY" "J", Cond.fieldLink RX11 191 "ZoneRelayModel" "pointBy" "J", Cond.methodLink RX11 110 yX11_holds, Cond.instanceMethod yX11_holds, Cond.selects RX11 yX11_holds yX11_holds, Cond.initialized RX11, Cond.code yX11_holds cX11_holds 18 (some .boolean), Cond.methodLink RX11 103 yX11_soundness, Cond.instanceMethod yX11_soundness, Cond.selects RX11 yX11_soundness yX11_soundness, Cond.code yX11_soundness cX11_soundness 4 (some .int), Cond.methodLink RX11 74 yX11_corners, Cond.instanceMethod yX11_corners, Cond.selects RX11 yX11_corners yX11_corners, Cond.code yX11_corners cX11_corners 2 (some .int), Cond.fieldLink RX11 7 "ZoneRelayModel" "at" "[J", Cond.methodLink RX11 96 yX11_turnsLeft, Cond.instanceMethod yX11_turnsLeft, Cond.selects RX11 yX11_turnsLeft yX11_turnsLeft, Cond.code yX11_turnsLeft cX11_turnsLeft 15 (some .boolean), Cond.methodLink RX11 92 yX11_coordinate, Cond.instanceMethod yX11_coordinate, Cond.selects RX11 yX11_coordinate yX11_coordinate]
def wsX11_isInside_r2 : List Cond := [Cond.code yX11_coordinate cX11_coordinate 4 (some .long), Cond.methodLink RX11 77 yX11_cornerAt, Cond.static yX11_cornerAt, Cond.code yX11_cornerAt cX11_cornerAt 3 (some .int), Cond.methodLink RX11 100 yX11_signChanges, Cond.instanceMethod yX11_signChanges, Cond.selects RX11 yX11_signChanges yX11_signChanges, Cond.code yX11_signChanges cX11_signChanges 9 (some .int)]
def wsX11_isInside : List Cond := .code yX11_isInside cX11_isInside 2 (some .boolean) :: ((wsX11_isInside_r1 ++ wsX11_isInside_r2) ++ wsX110)
def wsX11_watchSwing_r1 : List Cond := [Cond.fieldLink RX11 7 "ZoneRelayModel" "at" "[J", Cond.methodLink RX11 197 yX11_isInside, Cond.instanceMethod yX11_isInside, Cond.selects RX11 yX11_isInside yX11_isInside, Cond.initialized RX11, Cond.code yX11_isInside cX11_isInside 2 (some .boolean), Cond.fieldLink RX11 185 "ZoneRelayModel" "pointX" "J", Cond.fieldLink RX11 188 "ZoneRelayModel" "pointY" "J", Cond.fieldLink RX11 191 "ZoneRelayModel" "pointBy" "J", Cond.methodLink RX11 110 yX11_holds, Cond.instanceMethod yX11_holds, Cond.selects RX11 yX11_holds yX11_holds, Cond.code yX11_holds cX11_holds 18 (some .boolean), Cond.methodLink RX11 103 yX11_soundness, Cond.instanceMethod yX11_soundness, Cond.selects RX11 yX11_soundness yX11_soundness, Cond.code yX11_soundness cX11_soundness 4 (some .int), Cond.methodLink RX11 74 yX11_corners, Cond.instanceMethod yX11_corners, Cond.selects RX11 yX11_corners yX11_corners, Cond.code yX11_corners cX11_corners 2 (some .int), Cond.methodLink RX11 96 yX11_turnsLeft, Cond.instanceMethod yX11_turnsLeft, Cond.selects RX11 yX11_turnsLeft yX11_turnsLeft]
def wsX11_watchSwing_r2 : List Cond := [Cond.code yX11_turnsLeft cX11_turnsLeft 15 (some .boolean), Cond.methodLink RX11 92 yX11_coordinate, Cond.instanceMethod yX11_coordinate, Cond.selects RX11 yX11_coordinate yX11_coordinate, Cond.code yX11_coordinate cX11_coordinate 4 (some .long), Cond.methodLink RX11 77 yX11_cornerAt, Cond.static yX11_cornerAt, Cond.code yX11_cornerAt cX11_cornerAt 3 (some .int), Cond.methodLink RX11 100 yX11_signChanges, Cond.instanceMethod yX11_signChanges, Cond.selects RX11 yX11_signChanges yX11_signChanges, Cond.code yX11_signChanges cX11_signChanges 9 (some .int), Cond.methodLink RX11 200 yX11_endSwing, Cond.instanceMethod yX11_endSwing, Cond.selects RX11 yX11_endSwing yX11_endSwing, Cond.code yX11_endSwing cX11_endSwing 1 none, Cond.methodLink RX11 181 yX11_note, Cond.instanceMethod yX11_note, Cond.selects RX11 yX11_note yX11_note, Cond.code yX11_note cX11_note 3 none, Cond.constantLong RX11 179 (60)]
def wsX11_watchSwing : List Cond := .code yX11_watchSwing cX11_watchSwing 1 none :: ((wsX11_watchSwing_r1 ++ wsX11_watchSwing_r2) ++ wsX110)
def wsX11_fitsWay : List Cond := .code yX11_fitsWay cX11_fitsWay 13 (some .boolean) :: ([.fieldLink RX11 7 "ZoneRelayModel" "at" "[J", .constantLong RX11 72 (2)] ++ wsX110)
def wsX11_has : List Cond := .code yX11_has cX11_has 3 (some .boolean) :: ([.fieldLink RX11 7 "ZoneRelayModel" "at" "[J"] ++ wsX110)
def wsX11_picksUp_r1 : List Cond := [Cond.fieldLink RX11 7 "ZoneRelayModel" "at" "[J", Cond.methodLink RX11 203 yX11_has, Cond.instanceMethod yX11_has, Cond.selects RX11 yX11_has yX11_has, Cond.initialized RX11, Cond.code yX11_has cX11_has 3 (some .boolean), Cond.methodLink RX11 197 yX11_isInside, Cond.instanceMethod yX11_isInside, Cond.selects RX11 yX11_isInside yX11_isInside, Cond.code yX11_isInside cX11_isInside 2 (some .boolean), Cond.fieldLink RX11 185 "ZoneRelayModel" "pointX" "J", Cond.fieldLink RX11 188 "ZoneRelayModel" "pointY" "J", Cond.fieldLink RX11 191 "ZoneRelayModel" "pointBy" "J", Cond.methodLink RX11 110 yX11_holds, Cond.instanceMethod yX11_holds, Cond.selects RX11 yX11_holds yX11_holds, Cond.code yX11_holds cX11_holds 18 (some .boolean), Cond.methodLink RX11 103 yX11_soundness, Cond.instanceMethod yX11_soundness, Cond.selects RX11 yX11_soundness yX11_soundness, Cond.code yX11_soundness cX11_soundness 4 (some .int), Cond.methodLink RX11 74 yX11_corners, Cond.instanceMethod yX11_corners, Cond.selects RX11 yX11_corners yX11_corners]
def wsX11_picksUp_r2 : List Cond := [Cond.code yX11_corners cX11_corners 2 (some .int), Cond.methodLink RX11 96 yX11_turnsLeft, Cond.instanceMethod yX11_turnsLeft, Cond.selects RX11 yX11_turnsLeft yX11_turnsLeft, Cond.code yX11_turnsLeft cX11_turnsLeft 15 (some .boolean), Cond.methodLink RX11 92 yX11_coordinate, Cond.instanceMethod yX11_coordinate, Cond.selects RX11 yX11_coordinate yX11_coordinate, Cond.code yX11_coordinate cX11_coordinate 4 (some .long), Cond.methodLink RX11 77 yX11_cornerAt, Cond.static yX11_cornerAt, Cond.code yX11_cornerAt cX11_cornerAt 3 (some .int), Cond.methodLink RX11 100 yX11_signChanges, Cond.instanceMethod yX11_signChanges, Cond.selects RX11 yX11_signChanges yX11_signChanges, Cond.code yX11_signChanges cX11_signChanges 9 (some .int), Cond.methodLink RX11 206 yX11_fitsWay, Cond.instanceMethod yX11_fitsWay, Cond.selects RX11 yX11_fitsWay yX11_fitsWay, Cond.code yX11_fitsWay cX11_fitsWay 13 (some .boolean), Cond.constantLong RX11 72 (2)]
def wsX11_picksUp : List Cond := .code yX11_picksUp cX11_picksUp 4 (some .boolean) :: ((wsX11_picksUp_r1 ++ wsX11_picksUp_r2) ++ wsX110)
def wsX11_goOnZones_r1 : List Cond := [Cond.fieldLink RX11 7 "ZoneRelayModel" "at" "[J", Cond.methodLink RX11 209 yX11_picksUp, Cond.instanceMethod yX11_picksUp, Cond.selects RX11 yX11_picksUp yX11_picksUp, Cond.initialized RX11, Cond.code yX11_picksUp cX11_picksUp 4 (some .boolean), Cond.methodLink RX11 203 yX11_has, Cond.instanceMethod yX11_has, Cond.selects RX11 yX11_has yX11_has, Cond.code yX11_has cX11_has 3 (some .boolean), Cond.methodLink RX11 197 yX11_isInside, Cond.instanceMethod yX11_isInside, Cond.selects RX11 yX11_isInside yX11_isInside, Cond.code yX11_isInside cX11_isInside 2 (some .boolean), Cond.fieldLink RX11 185 "ZoneRelayModel" "pointX" "J", Cond.fieldLink RX11 188 "ZoneRelayModel" "pointY" "J", Cond.fieldLink RX11 191 "ZoneRelayModel" "pointBy" "J", Cond.methodLink RX11 110 yX11_holds, Cond.instanceMethod yX11_holds, Cond.selects RX11 yX11_holds yX11_holds, Cond.code yX11_holds cX11_holds 18 (some .boolean), Cond.methodLink RX11 103 yX11_soundness, Cond.instanceMethod yX11_soundness, Cond.selects RX11 yX11_soundness yX11_soundness]
def wsX11_goOnZones_r2 : List Cond := [Cond.code yX11_soundness cX11_soundness 4 (some .int), Cond.methodLink RX11 74 yX11_corners, Cond.instanceMethod yX11_corners, Cond.selects RX11 yX11_corners yX11_corners, Cond.code yX11_corners cX11_corners 2 (some .int), Cond.methodLink RX11 96 yX11_turnsLeft, Cond.instanceMethod yX11_turnsLeft, Cond.selects RX11 yX11_turnsLeft yX11_turnsLeft, Cond.code yX11_turnsLeft cX11_turnsLeft 15 (some .boolean), Cond.methodLink RX11 92 yX11_coordinate, Cond.instanceMethod yX11_coordinate, Cond.selects RX11 yX11_coordinate yX11_coordinate, Cond.code yX11_coordinate cX11_coordinate 4 (some .long), Cond.methodLink RX11 77 yX11_cornerAt, Cond.static yX11_cornerAt, Cond.code yX11_cornerAt cX11_cornerAt 3 (some .int), Cond.methodLink RX11 100 yX11_signChanges, Cond.instanceMethod yX11_signChanges, Cond.selects RX11 yX11_signChanges yX11_signChanges, Cond.code yX11_signChanges cX11_signChanges 9 (some .int), Cond.methodLink RX11 206 yX11_fitsWay, Cond.instanceMethod yX11_fitsWay, Cond.selects RX11 yX11_fitsWay yX11_fitsWay, Cond.code yX11_fitsWay cX11_fitsWay 13 (some .boolean)]
def wsX11_goOnZones_r3 : List Cond := [Cond.constantLong RX11 72 (2), Cond.methodLink RX11 181 yX11_note, Cond.instanceMethod yX11_note, Cond.selects RX11 yX11_note yX11_note, Cond.code yX11_note cX11_note 3 none, Cond.constantLong RX11 179 (60)]
def wsX11_goOnZones : List Cond := .code yX11_goOnZones cX11_goOnZones 5 none :: ((wsX11_goOnZones_r1 ++ (wsX11_goOnZones_r2 ++ wsX11_goOnZones_r3)) ++ wsX110)
def wsX11_sample_r1 : List Cond := [Cond.fieldLink RX11 7 "ZoneRelayModel" "at" "[J", Cond.fieldLink RX11 185 "ZoneRelayModel" "pointX" "J", Cond.fieldLink RX11 191 "ZoneRelayModel" "pointBy" "J", Cond.fieldLink RX11 188 "ZoneRelayModel" "pointY" "J", Cond.methodLink RX11 212 yX11_goOnRamp, Cond.instanceMethod yX11_goOnRamp, Cond.selects RX11 yX11_goOnRamp yX11_goOnRamp, Cond.initialized RX11, Cond.code yX11_goOnRamp cX11_goOnRamp 4 none, Cond.methodLink RX11 215 yX11_takeSample, Cond.instanceMethod yX11_takeSample, Cond.selects RX11 yX11_takeSample yX11_takeSample, Cond.code yX11_takeSample cX11_takeSample 4 none, Cond.constantLong RX11 52 (24), Cond.fieldLink RX11 27 "ZoneRelayModel" "cosine" "[I", Cond.constantLong RX11 175 (4096), Cond.methodLink RX11 172 yX11_sine, Cond.instanceMethod yX11_sine, Cond.selects RX11 yX11_sine yX11_sine, Cond.code yX11_sine cX11_sine 3 (some .long), Cond.constantLong RX11 66 (18), Cond.methodLink RX11 219 yX11_estimate, Cond.instanceMethod yX11_estimate, Cond.selects RX11 yX11_estimate yX11_estimate]
def wsX11_sample_r2 : List Cond := [Cond.code yX11_estimate cX11_estimate 8 none, Cond.constantLong RX11 177 (49152), Cond.methodLink RX11 222 yX11_remember, Cond.instanceMethod yX11_remember, Cond.selects RX11 yX11_remember yX11_remember, Cond.code yX11_remember cX11_remember 5 none, Cond.methodLink RX11 225 yX11_laysPoint, Cond.instanceMethod yX11_laysPoint, Cond.selects RX11 yX11_laysPoint yX11_laysPoint, Cond.code yX11_laysPoint cX11_laysPoint 9 (some .boolean), Cond.constantLong RX11 40 (1000), Cond.methodLink RX11 229 yX11_isInLoad, Cond.instanceMethod yX11_isInLoad, Cond.selects RX11 yX11_isInLoad yX11_isInLoad, Cond.code yX11_isInLoad cX11_isInLoad 1 (some .boolean), Cond.methodLink RX11 194 yX11_size, Cond.static yX11_size, Cond.code yX11_size cX11_size 2 (some .long), Cond.methodLink RX11 232 yX11_watchSwing, Cond.instanceMethod yX11_watchSwing, Cond.selects RX11 yX11_watchSwing yX11_watchSwing, Cond.code yX11_watchSwing cX11_watchSwing 1 none, Cond.methodLink RX11 197 yX11_isInside, Cond.instanceMethod yX11_isInside]
def wsX11_sample_r3 : List Cond := [Cond.selects RX11 yX11_isInside yX11_isInside, Cond.code yX11_isInside cX11_isInside 2 (some .boolean), Cond.methodLink RX11 110 yX11_holds, Cond.instanceMethod yX11_holds, Cond.selects RX11 yX11_holds yX11_holds, Cond.code yX11_holds cX11_holds 18 (some .boolean), Cond.methodLink RX11 103 yX11_soundness, Cond.instanceMethod yX11_soundness, Cond.selects RX11 yX11_soundness yX11_soundness, Cond.code yX11_soundness cX11_soundness 4 (some .int), Cond.methodLink RX11 74 yX11_corners, Cond.instanceMethod yX11_corners, Cond.selects RX11 yX11_corners yX11_corners, Cond.code yX11_corners cX11_corners 2 (some .int), Cond.methodLink RX11 96 yX11_turnsLeft, Cond.instanceMethod yX11_turnsLeft, Cond.selects RX11 yX11_turnsLeft yX11_turnsLeft, Cond.code yX11_turnsLeft cX11_turnsLeft 15 (some .boolean), Cond.methodLink RX11 92 yX11_coordinate, Cond.instanceMethod yX11_coordinate, Cond.selects RX11 yX11_coordinate yX11_coordinate, Cond.code yX11_coordinate cX11_coordinate 4 (some .long), Cond.methodLink RX11 77 yX11_cornerAt, Cond.static yX11_cornerAt]
def wsX11_sample_r4 : List Cond := [Cond.code yX11_cornerAt cX11_cornerAt 3 (some .int), Cond.methodLink RX11 100 yX11_signChanges, Cond.instanceMethod yX11_signChanges, Cond.selects RX11 yX11_signChanges yX11_signChanges, Cond.code yX11_signChanges cX11_signChanges 9 (some .int), Cond.methodLink RX11 200 yX11_endSwing, Cond.instanceMethod yX11_endSwing, Cond.selects RX11 yX11_endSwing yX11_endSwing, Cond.code yX11_endSwing cX11_endSwing 1 none, Cond.methodLink RX11 181 yX11_note, Cond.instanceMethod yX11_note, Cond.selects RX11 yX11_note yX11_note, Cond.code yX11_note cX11_note 3 none, Cond.constantLong RX11 179 (60), Cond.methodLink RX11 235 yX11_goOnZones, Cond.instanceMethod yX11_goOnZones, Cond.selects RX11 yX11_goOnZones yX11_goOnZones, Cond.code yX11_goOnZones cX11_goOnZones 5 none, Cond.methodLink RX11 209 yX11_picksUp, Cond.instanceMethod yX11_picksUp, Cond.selects RX11 yX11_picksUp yX11_picksUp, Cond.code yX11_picksUp cX11_picksUp 4 (some .boolean), Cond.methodLink RX11 203 yX11_has, Cond.instanceMethod yX11_has]
def wsX11_sample_r5 : List Cond := [Cond.selects RX11 yX11_has yX11_has, Cond.code yX11_has cX11_has 3 (some .boolean), Cond.methodLink RX11 206 yX11_fitsWay, Cond.instanceMethod yX11_fitsWay, Cond.selects RX11 yX11_fitsWay yX11_fitsWay, Cond.code yX11_fitsWay cX11_fitsWay 13 (some .boolean), Cond.constantLong RX11 72 (2)]
def wsX11_sample : List Cond := .code yX11_sample cX11_sample 2 none :: ((wsX11_sample_r1 ++ (wsX11_sample_r2 ++ (wsX11_sample_r3 ++ (wsX11_sample_r4 ++ wsX11_sample_r5)))) ++ wsX110)
def wsX11_pass_r1 : List Cond := [Cond.constantLong RX11 48 (5000), Cond.fieldLink RX11 7 "ZoneRelayModel" "at" "[J", Cond.constantLong RX11 238 (100000000), Cond.methodLink RX11 68 yX11_in, Cond.static yX11_in, Cond.initialized RX11, Cond.code yX11_in cX11_in 6 (some .boolean), Cond.methodLink RX11 240 yX11_sample, Cond.instanceMethod yX11_sample, Cond.selects RX11 yX11_sample yX11_sample, Cond.code yX11_sample cX11_sample 2 none, Cond.fieldLink RX11 185 "ZoneRelayModel" "pointX" "J", Cond.fieldLink RX11 191 "ZoneRelayModel" "pointBy" "J", Cond.fieldLink RX11 188 "ZoneRelayModel" "pointY" "J", Cond.methodLink RX11 212 yX11_goOnRamp, Cond.instanceMethod yX11_goOnRamp, Cond.selects RX11 yX11_goOnRamp yX11_goOnRamp, Cond.code yX11_goOnRamp cX11_goOnRamp 4 none, Cond.methodLink RX11 215 yX11_takeSample, Cond.instanceMethod yX11_takeSample, Cond.selects RX11 yX11_takeSample yX11_takeSample, Cond.code yX11_takeSample cX11_takeSample 4 none, Cond.constantLong RX11 52 (24), Cond.fieldLink RX11 27 "ZoneRelayModel" "cosine" "[I"]
def wsX11_pass_r2 : List Cond := [Cond.constantLong RX11 175 (4096), Cond.methodLink RX11 172 yX11_sine, Cond.instanceMethod yX11_sine, Cond.selects RX11 yX11_sine yX11_sine, Cond.code yX11_sine cX11_sine 3 (some .long), Cond.constantLong RX11 66 (18), Cond.methodLink RX11 219 yX11_estimate, Cond.instanceMethod yX11_estimate, Cond.selects RX11 yX11_estimate yX11_estimate, Cond.code yX11_estimate cX11_estimate 8 none, Cond.constantLong RX11 177 (49152), Cond.methodLink RX11 222 yX11_remember, Cond.instanceMethod yX11_remember, Cond.selects RX11 yX11_remember yX11_remember, Cond.code yX11_remember cX11_remember 5 none, Cond.methodLink RX11 225 yX11_laysPoint, Cond.instanceMethod yX11_laysPoint, Cond.selects RX11 yX11_laysPoint yX11_laysPoint, Cond.code yX11_laysPoint cX11_laysPoint 9 (some .boolean), Cond.constantLong RX11 40 (1000), Cond.methodLink RX11 229 yX11_isInLoad, Cond.instanceMethod yX11_isInLoad, Cond.selects RX11 yX11_isInLoad yX11_isInLoad, Cond.code yX11_isInLoad cX11_isInLoad 1 (some .boolean)]
def wsX11_pass_r3 : List Cond := [Cond.methodLink RX11 194 yX11_size, Cond.static yX11_size, Cond.code yX11_size cX11_size 2 (some .long), Cond.methodLink RX11 232 yX11_watchSwing, Cond.instanceMethod yX11_watchSwing, Cond.selects RX11 yX11_watchSwing yX11_watchSwing, Cond.code yX11_watchSwing cX11_watchSwing 1 none, Cond.methodLink RX11 197 yX11_isInside, Cond.instanceMethod yX11_isInside, Cond.selects RX11 yX11_isInside yX11_isInside, Cond.code yX11_isInside cX11_isInside 2 (some .boolean), Cond.methodLink RX11 110 yX11_holds, Cond.instanceMethod yX11_holds, Cond.selects RX11 yX11_holds yX11_holds, Cond.code yX11_holds cX11_holds 18 (some .boolean), Cond.methodLink RX11 103 yX11_soundness, Cond.instanceMethod yX11_soundness, Cond.selects RX11 yX11_soundness yX11_soundness, Cond.code yX11_soundness cX11_soundness 4 (some .int), Cond.methodLink RX11 74 yX11_corners, Cond.instanceMethod yX11_corners, Cond.selects RX11 yX11_corners yX11_corners, Cond.code yX11_corners cX11_corners 2 (some .int), Cond.methodLink RX11 96 yX11_turnsLeft]
def wsX11_pass_r4 : List Cond := [Cond.instanceMethod yX11_turnsLeft, Cond.selects RX11 yX11_turnsLeft yX11_turnsLeft, Cond.code yX11_turnsLeft cX11_turnsLeft 15 (some .boolean), Cond.methodLink RX11 92 yX11_coordinate, Cond.instanceMethod yX11_coordinate, Cond.selects RX11 yX11_coordinate yX11_coordinate, Cond.code yX11_coordinate cX11_coordinate 4 (some .long), Cond.methodLink RX11 77 yX11_cornerAt, Cond.static yX11_cornerAt, Cond.code yX11_cornerAt cX11_cornerAt 3 (some .int), Cond.methodLink RX11 100 yX11_signChanges, Cond.instanceMethod yX11_signChanges, Cond.selects RX11 yX11_signChanges yX11_signChanges, Cond.code yX11_signChanges cX11_signChanges 9 (some .int), Cond.methodLink RX11 200 yX11_endSwing, Cond.instanceMethod yX11_endSwing, Cond.selects RX11 yX11_endSwing yX11_endSwing, Cond.code yX11_endSwing cX11_endSwing 1 none, Cond.methodLink RX11 181 yX11_note, Cond.instanceMethod yX11_note, Cond.selects RX11 yX11_note yX11_note, Cond.code yX11_note cX11_note 3 none, Cond.constantLong RX11 179 (60), Cond.methodLink RX11 235 yX11_goOnZones]
def wsX11_pass_r5 : List Cond := [Cond.instanceMethod yX11_goOnZones, Cond.selects RX11 yX11_goOnZones yX11_goOnZones, Cond.code yX11_goOnZones cX11_goOnZones 5 none, Cond.methodLink RX11 209 yX11_picksUp, Cond.instanceMethod yX11_picksUp, Cond.selects RX11 yX11_picksUp yX11_picksUp, Cond.code yX11_picksUp cX11_picksUp 4 (some .boolean), Cond.methodLink RX11 203 yX11_has, Cond.instanceMethod yX11_has, Cond.selects RX11 yX11_has yX11_has, Cond.code yX11_has cX11_has 3 (some .boolean), Cond.methodLink RX11 206 yX11_fitsWay, Cond.instanceMethod yX11_fitsWay, Cond.selects RX11 yX11_fitsWay yX11_fitsWay, Cond.code yX11_fitsWay cX11_fitsWay 13 (some .boolean), Cond.constantLong RX11 72 (2)]
def wsX11_pass : List Cond := .code yX11_pass cX11_pass 3 (some .int) :: ((wsX11_pass_r1 ++ (wsX11_pass_r2 ++ (wsX11_pass_r3 ++ (wsX11_pass_r4 ++ wsX11_pass_r5)))) ++ wsX110)
def wsX11_measure : List Cond := .code yX11_measure cX11_measure 2 (some .long) :: ([.constantLong RX11 243 (12), .constantLong RX11 170 (-1000000000000000002), .constantLong RX11 245 (8), .constantLong RX11 247 (9), .fieldLink RX11 7 "ZoneRelayModel" "at" "[J", .constantLong RX11 249 (-1000000000000000006), .methodLink RX11 68 yX11_in, .static yX11_in, .initialized RX11, .code yX11_in cX11_in 6 (some .boolean)] ++ wsX110)
def wsX11_state : List Cond := .code yX11_state cX11_state 5 (some .int) :: ([.fieldLink RX11 7 "ZoneRelayModel" "at" "[J", .methodLink RX11 119 yX11_isZone, .static yX11_isZone, .initialized RX11, .code yX11_isZone cX11_isZone 1 (some .boolean), .constantLong RX11 72 (2), .methodLink RX11 68 yX11_in, .static yX11_in, .code yX11_in cX11_in 6 (some .boolean)] ++ wsX110)
def wsX11_tripped : List Cond := .code yX11_tripped cX11_tripped 1 (some .int) :: ([.fieldLink RX11 7 "ZoneRelayModel" "at" "[J"] ++ wsX110)
def wsX11_reset : List Cond := .code yX11_reset cX11_reset 3 (some .int) :: ([.fieldLink RX11 7 "ZoneRelayModel" "at" "[J", .constantLong RX11 60 (-6)] ++ wsX110)
def wsX11_event : List Cond := .code yX11_event cX11_event 4 (some .int) :: ([.fieldLink RX11 7 "ZoneRelayModel" "at" "[J", .constantLong RX11 179 (60), .methodLink RX11 68 yX11_in, .static yX11_in, .initialized RX11, .code yX11_in cX11_in 6 (some .boolean)] ++ wsX110)
def wsX11_covered_r1 : List Cond := [Cond.fieldLink RX11 140 "ZoneRelayModel" "foundVa" "J", Cond.fieldLink RX11 144 "ZoneRelayModel" "foundVb" "J", Cond.fieldLink RX11 147 "ZoneRelayModel" "foundIa" "J", Cond.fieldLink RX11 150 "ZoneRelayModel" "foundIb" "J", Cond.methodLink RX11 225 yX11_laysPoint, Cond.instanceMethod yX11_laysPoint, Cond.selects RX11 yX11_laysPoint yX11_laysPoint, Cond.initialized RX11, Cond.code yX11_laysPoint cX11_laysPoint 9 (some .boolean), Cond.constantLong RX11 40 (1000), Cond.fieldLink RX11 185 "ZoneRelayModel" "pointX" "J", Cond.fieldLink RX11 188 "ZoneRelayModel" "pointY" "J", Cond.fieldLink RX11 191 "ZoneRelayModel" "pointBy" "J", Cond.fieldLink RX11 7 "ZoneRelayModel" "at" "[J", Cond.methodLink RX11 197 yX11_isInside, Cond.instanceMethod yX11_isInside, Cond.selects RX11 yX11_isInside yX11_isInside, Cond.code yX11_isInside cX11_isInside 2 (some .boolean), Cond.methodLink RX11 110 yX11_holds, Cond.instanceMethod yX11_holds, Cond.selects RX11 yX11_holds yX11_holds, Cond.code yX11_holds cX11_holds 18 (some .boolean), Cond.methodLink RX11 103 yX11_soundness, Cond.instanceMethod yX11_soundness]
def wsX11_covered_r2 : List Cond := [Cond.selects RX11 yX11_soundness yX11_soundness, Cond.code yX11_soundness cX11_soundness 4 (some .int), Cond.methodLink RX11 74 yX11_corners, Cond.instanceMethod yX11_corners, Cond.selects RX11 yX11_corners yX11_corners, Cond.code yX11_corners cX11_corners 2 (some .int), Cond.methodLink RX11 96 yX11_turnsLeft, Cond.instanceMethod yX11_turnsLeft, Cond.selects RX11 yX11_turnsLeft yX11_turnsLeft, Cond.code yX11_turnsLeft cX11_turnsLeft 15 (some .boolean), Cond.methodLink RX11 92 yX11_coordinate, Cond.instanceMethod yX11_coordinate, Cond.selects RX11 yX11_coordinate yX11_coordinate, Cond.code yX11_coordinate cX11_coordinate 4 (some .long), Cond.methodLink RX11 77 yX11_cornerAt, Cond.static yX11_cornerAt, Cond.code yX11_cornerAt cX11_cornerAt 3 (some .int), Cond.methodLink RX11 100 yX11_signChanges, Cond.instanceMethod yX11_signChanges, Cond.selects RX11 yX11_signChanges yX11_signChanges, Cond.code yX11_signChanges cX11_signChanges 9 (some .int)]
def wsX11_covered : List Cond := .code yX11_covered cX11_covered 4 (some .int) :: ((wsX11_covered_r1 ++ wsX11_covered_r2) ++ wsX110)
def wsX11_covers_r1 : List Cond := [Cond.methodLink RX11 157 yX11_isFault, Cond.static yX11_isFault, Cond.initialized RX11, Cond.code yX11_isFault cX11_isFault 2 (some .boolean), Cond.constantLong RX11 40 (1000), Cond.constantLong RX11 46 (20000), Cond.methodLink RX11 68 yX11_in, Cond.static yX11_in, Cond.code yX11_in cX11_in 6 (some .boolean), Cond.methodLink RX11 160 yX11_findsFault, Cond.instanceMethod yX11_findsFault, Cond.selects RX11 yX11_findsFault yX11_findsFault, Cond.code yX11_findsFault cX11_findsFault 3 (some .boolean), Cond.fieldLink RX11 7 "ZoneRelayModel" "at" "[J", Cond.methodLink RX11 153 yX11_finds, Cond.instanceMethod yX11_finds, Cond.selects RX11 yX11_finds yX11_finds, Cond.code yX11_finds cX11_finds 21 (some .boolean), Cond.constantLong RX11 134 (-1000), Cond.fieldLink RX11 140 "ZoneRelayModel" "foundVa" "J", Cond.fieldLink RX11 144 "ZoneRelayModel" "foundVb" "J", Cond.fieldLink RX11 147 "ZoneRelayModel" "foundIa" "J", Cond.fieldLink RX11 150 "ZoneRelayModel" "foundIb" "J", Cond.methodLink RX11 136 yX11_limited]
def wsX11_covers_r2 : List Cond := [Cond.static yX11_limited, Cond.code yX11_limited cX11_limited 2 (some .long), Cond.constantLong RX11 85 (-20000), Cond.methodLink RX11 251 yX11_covered, Cond.instanceMethod yX11_covered, Cond.selects RX11 yX11_covered yX11_covered, Cond.code yX11_covered cX11_covered 4 (some .int), Cond.methodLink RX11 225 yX11_laysPoint, Cond.instanceMethod yX11_laysPoint, Cond.selects RX11 yX11_laysPoint yX11_laysPoint, Cond.code yX11_laysPoint cX11_laysPoint 9 (some .boolean), Cond.fieldLink RX11 185 "ZoneRelayModel" "pointX" "J", Cond.fieldLink RX11 188 "ZoneRelayModel" "pointY" "J", Cond.fieldLink RX11 191 "ZoneRelayModel" "pointBy" "J", Cond.methodLink RX11 197 yX11_isInside, Cond.instanceMethod yX11_isInside, Cond.selects RX11 yX11_isInside yX11_isInside, Cond.code yX11_isInside cX11_isInside 2 (some .boolean), Cond.methodLink RX11 110 yX11_holds, Cond.instanceMethod yX11_holds, Cond.selects RX11 yX11_holds yX11_holds, Cond.code yX11_holds cX11_holds 18 (some .boolean), Cond.methodLink RX11 103 yX11_soundness, Cond.instanceMethod yX11_soundness]
def wsX11_covers_r3 : List Cond := [Cond.selects RX11 yX11_soundness yX11_soundness, Cond.code yX11_soundness cX11_soundness 4 (some .int), Cond.methodLink RX11 74 yX11_corners, Cond.instanceMethod yX11_corners, Cond.selects RX11 yX11_corners yX11_corners, Cond.code yX11_corners cX11_corners 2 (some .int), Cond.methodLink RX11 96 yX11_turnsLeft, Cond.instanceMethod yX11_turnsLeft, Cond.selects RX11 yX11_turnsLeft yX11_turnsLeft, Cond.code yX11_turnsLeft cX11_turnsLeft 15 (some .boolean), Cond.methodLink RX11 92 yX11_coordinate, Cond.instanceMethod yX11_coordinate, Cond.selects RX11 yX11_coordinate yX11_coordinate, Cond.code yX11_coordinate cX11_coordinate 4 (some .long), Cond.methodLink RX11 77 yX11_cornerAt, Cond.static yX11_cornerAt, Cond.code yX11_cornerAt cX11_cornerAt 3 (some .int), Cond.methodLink RX11 100 yX11_signChanges, Cond.instanceMethod yX11_signChanges, Cond.selects RX11 yX11_signChanges yX11_signChanges, Cond.code yX11_signChanges cX11_signChanges 9 (some .int)]
def wsX11_covers : List Cond := .code yX11_covers cX11_covers 3 (some .int) :: ((wsX11_covers_r1 ++ (wsX11_covers_r2 ++ wsX11_covers_r3)) ++ wsX110)
def wsX11_reach_r1 : List Cond := [Cond.constantLong RX11 46 (20000), Cond.methodLink RX11 119 yX11_isZone, Cond.static yX11_isZone, Cond.initialized RX11, Cond.code yX11_isZone cX11_isZone 1 (some .boolean), Cond.constantLong RX11 72 (2), Cond.methodLink RX11 68 yX11_in, Cond.static yX11_in, Cond.code yX11_in cX11_in 6 (some .boolean), Cond.methodLink RX11 160 yX11_findsFault, Cond.instanceMethod yX11_findsFault, Cond.selects RX11 yX11_findsFault yX11_findsFault, Cond.code yX11_findsFault cX11_findsFault 3 (some .boolean), Cond.fieldLink RX11 7 "ZoneRelayModel" "at" "[J", Cond.constantLong RX11 40 (1000), Cond.methodLink RX11 153 yX11_finds, Cond.instanceMethod yX11_finds, Cond.selects RX11 yX11_finds yX11_finds, Cond.code yX11_finds cX11_finds 21 (some .boolean), Cond.constantLong RX11 134 (-1000), Cond.fieldLink RX11 140 "ZoneRelayModel" "foundVa" "J", Cond.fieldLink RX11 144 "ZoneRelayModel" "foundVb" "J", Cond.fieldLink RX11 147 "ZoneRelayModel" "foundIa" "J", Cond.fieldLink RX11 150 "ZoneRelayModel" "foundIb" "J"]
def wsX11_reach_r2 : List Cond := [Cond.methodLink RX11 136 yX11_limited, Cond.static yX11_limited, Cond.code yX11_limited cX11_limited 2 (some .long), Cond.constantLong RX11 85 (-20000), Cond.methodLink RX11 251 yX11_covered, Cond.instanceMethod yX11_covered, Cond.selects RX11 yX11_covered yX11_covered, Cond.code yX11_covered cX11_covered 4 (some .int), Cond.methodLink RX11 225 yX11_laysPoint, Cond.instanceMethod yX11_laysPoint, Cond.selects RX11 yX11_laysPoint yX11_laysPoint, Cond.code yX11_laysPoint cX11_laysPoint 9 (some .boolean), Cond.fieldLink RX11 185 "ZoneRelayModel" "pointX" "J", Cond.fieldLink RX11 188 "ZoneRelayModel" "pointY" "J", Cond.fieldLink RX11 191 "ZoneRelayModel" "pointBy" "J", Cond.methodLink RX11 197 yX11_isInside, Cond.instanceMethod yX11_isInside, Cond.selects RX11 yX11_isInside yX11_isInside, Cond.code yX11_isInside cX11_isInside 2 (some .boolean), Cond.methodLink RX11 110 yX11_holds, Cond.instanceMethod yX11_holds, Cond.selects RX11 yX11_holds yX11_holds, Cond.code yX11_holds cX11_holds 18 (some .boolean), Cond.methodLink RX11 103 yX11_soundness]
def wsX11_reach_r3 : List Cond := [Cond.instanceMethod yX11_soundness, Cond.selects RX11 yX11_soundness yX11_soundness, Cond.code yX11_soundness cX11_soundness 4 (some .int), Cond.methodLink RX11 74 yX11_corners, Cond.instanceMethod yX11_corners, Cond.selects RX11 yX11_corners yX11_corners, Cond.code yX11_corners cX11_corners 2 (some .int), Cond.methodLink RX11 96 yX11_turnsLeft, Cond.instanceMethod yX11_turnsLeft, Cond.selects RX11 yX11_turnsLeft yX11_turnsLeft, Cond.code yX11_turnsLeft cX11_turnsLeft 15 (some .boolean), Cond.methodLink RX11 92 yX11_coordinate, Cond.instanceMethod yX11_coordinate, Cond.selects RX11 yX11_coordinate yX11_coordinate, Cond.code yX11_coordinate cX11_coordinate 4 (some .long), Cond.methodLink RX11 77 yX11_cornerAt, Cond.static yX11_cornerAt, Cond.code yX11_cornerAt cX11_cornerAt 3 (some .int), Cond.methodLink RX11 100 yX11_signChanges, Cond.instanceMethod yX11_signChanges, Cond.selects RX11 yX11_signChanges yX11_signChanges, Cond.code yX11_signChanges cX11_signChanges 9 (some .int)]
def wsX11_reach : List Cond := .code yX11_reach cX11_reach 4 (some .int) :: ((wsX11_reach_r1 ++ (wsX11_reach_r2 ++ wsX11_reach_r3)) ++ wsX110)
def wsX11_samplesToTrip_r1 : List Cond := [Cond.fieldLink RX11 7 "ZoneRelayModel" "at" "[J", Cond.methodLink RX11 240 yX11_sample, Cond.instanceMethod yX11_sample, Cond.selects RX11 yX11_sample yX11_sample, Cond.initialized RX11, Cond.code yX11_sample cX11_sample 2 none, Cond.fieldLink RX11 185 "ZoneRelayModel" "pointX" "J", Cond.fieldLink RX11 191 "ZoneRelayModel" "pointBy" "J", Cond.fieldLink RX11 188 "ZoneRelayModel" "pointY" "J", Cond.methodLink RX11 212 yX11_goOnRamp, Cond.instanceMethod yX11_goOnRamp, Cond.selects RX11 yX11_goOnRamp yX11_goOnRamp, Cond.code yX11_goOnRamp cX11_goOnRamp 4 none, Cond.methodLink RX11 215 yX11_takeSample, Cond.instanceMethod yX11_takeSample, Cond.selects RX11 yX11_takeSample yX11_takeSample, Cond.code yX11_takeSample cX11_takeSample 4 none, Cond.constantLong RX11 52 (24), Cond.fieldLink RX11 27 "ZoneRelayModel" "cosine" "[I", Cond.constantLong RX11 175 (4096), Cond.methodLink RX11 172 yX11_sine, Cond.instanceMethod yX11_sine, Cond.selects RX11 yX11_sine yX11_sine, Cond.code yX11_sine cX11_sine 3 (some .long)]
def wsX11_samplesToTrip_r2 : List Cond := [Cond.constantLong RX11 66 (18), Cond.methodLink RX11 219 yX11_estimate, Cond.instanceMethod yX11_estimate, Cond.selects RX11 yX11_estimate yX11_estimate, Cond.code yX11_estimate cX11_estimate 8 none, Cond.constantLong RX11 177 (49152), Cond.methodLink RX11 222 yX11_remember, Cond.instanceMethod yX11_remember, Cond.selects RX11 yX11_remember yX11_remember, Cond.code yX11_remember cX11_remember 5 none, Cond.methodLink RX11 225 yX11_laysPoint, Cond.instanceMethod yX11_laysPoint, Cond.selects RX11 yX11_laysPoint yX11_laysPoint, Cond.code yX11_laysPoint cX11_laysPoint 9 (some .boolean), Cond.constantLong RX11 40 (1000), Cond.methodLink RX11 229 yX11_isInLoad, Cond.instanceMethod yX11_isInLoad, Cond.selects RX11 yX11_isInLoad yX11_isInLoad, Cond.code yX11_isInLoad cX11_isInLoad 1 (some .boolean), Cond.methodLink RX11 194 yX11_size, Cond.static yX11_size, Cond.code yX11_size cX11_size 2 (some .long), Cond.methodLink RX11 232 yX11_watchSwing, Cond.instanceMethod yX11_watchSwing]
def wsX11_samplesToTrip_r3 : List Cond := [Cond.selects RX11 yX11_watchSwing yX11_watchSwing, Cond.code yX11_watchSwing cX11_watchSwing 1 none, Cond.methodLink RX11 197 yX11_isInside, Cond.instanceMethod yX11_isInside, Cond.selects RX11 yX11_isInside yX11_isInside, Cond.code yX11_isInside cX11_isInside 2 (some .boolean), Cond.methodLink RX11 110 yX11_holds, Cond.instanceMethod yX11_holds, Cond.selects RX11 yX11_holds yX11_holds, Cond.code yX11_holds cX11_holds 18 (some .boolean), Cond.methodLink RX11 103 yX11_soundness, Cond.instanceMethod yX11_soundness, Cond.selects RX11 yX11_soundness yX11_soundness, Cond.code yX11_soundness cX11_soundness 4 (some .int), Cond.methodLink RX11 74 yX11_corners, Cond.instanceMethod yX11_corners, Cond.selects RX11 yX11_corners yX11_corners, Cond.code yX11_corners cX11_corners 2 (some .int), Cond.methodLink RX11 96 yX11_turnsLeft, Cond.instanceMethod yX11_turnsLeft, Cond.selects RX11 yX11_turnsLeft yX11_turnsLeft, Cond.code yX11_turnsLeft cX11_turnsLeft 15 (some .boolean), Cond.methodLink RX11 92 yX11_coordinate, Cond.instanceMethod yX11_coordinate]
def wsX11_samplesToTrip_r4 : List Cond := [Cond.selects RX11 yX11_coordinate yX11_coordinate, Cond.code yX11_coordinate cX11_coordinate 4 (some .long), Cond.methodLink RX11 77 yX11_cornerAt, Cond.static yX11_cornerAt, Cond.code yX11_cornerAt cX11_cornerAt 3 (some .int), Cond.methodLink RX11 100 yX11_signChanges, Cond.instanceMethod yX11_signChanges, Cond.selects RX11 yX11_signChanges yX11_signChanges, Cond.code yX11_signChanges cX11_signChanges 9 (some .int), Cond.methodLink RX11 200 yX11_endSwing, Cond.instanceMethod yX11_endSwing, Cond.selects RX11 yX11_endSwing yX11_endSwing, Cond.code yX11_endSwing cX11_endSwing 1 none, Cond.methodLink RX11 181 yX11_note, Cond.instanceMethod yX11_note, Cond.selects RX11 yX11_note yX11_note, Cond.code yX11_note cX11_note 3 none, Cond.constantLong RX11 179 (60), Cond.methodLink RX11 235 yX11_goOnZones, Cond.instanceMethod yX11_goOnZones, Cond.selects RX11 yX11_goOnZones yX11_goOnZones, Cond.code yX11_goOnZones cX11_goOnZones 5 none, Cond.methodLink RX11 209 yX11_picksUp, Cond.instanceMethod yX11_picksUp]
def wsX11_samplesToTrip_r5 : List Cond := [Cond.selects RX11 yX11_picksUp yX11_picksUp, Cond.code yX11_picksUp cX11_picksUp 4 (some .boolean), Cond.methodLink RX11 203 yX11_has, Cond.instanceMethod yX11_has, Cond.selects RX11 yX11_has yX11_has, Cond.code yX11_has cX11_has 3 (some .boolean), Cond.methodLink RX11 206 yX11_fitsWay, Cond.instanceMethod yX11_fitsWay, Cond.selects RX11 yX11_fitsWay yX11_fitsWay, Cond.code yX11_fitsWay cX11_fitsWay 13 (some .boolean), Cond.constantLong RX11 72 (2)]
def wsX11_samplesToTrip : List Cond := .code yX11_samplesToTrip cX11_samplesToTrip 3 (some .int) :: ((wsX11_samplesToTrip_r1 ++ (wsX11_samplesToTrip_r2 ++ (wsX11_samplesToTrip_r3 ++ (wsX11_samplesToTrip_r4 ++ wsX11_samplesToTrip_r5)))) ++ wsX110)
def wsX11_test_r1 : List Cond := [Cond.constantLong RX11 122 (2400), Cond.fieldLink RX11 7 "ZoneRelayModel" "at" "[J", Cond.methodLink RX11 157 yX11_isFault, Cond.static yX11_isFault, Cond.initialized RX11, Cond.code yX11_isFault cX11_isFault 2 (some .boolean), Cond.constantLong RX11 40 (1000), Cond.constantLong RX11 46 (20000), Cond.methodLink RX11 68 yX11_in, Cond.static yX11_in, Cond.code yX11_in cX11_in 6 (some .boolean), Cond.methodLink RX11 166 yX11_findsHealthy, Cond.instanceMethod yX11_findsHealthy, Cond.selects RX11 yX11_findsHealthy yX11_findsHealthy, Cond.code yX11_findsHealthy cX11_findsHealthy 1 (some .boolean), Cond.methodLink RX11 153 yX11_finds, Cond.instanceMethod yX11_finds, Cond.selects RX11 yX11_finds yX11_finds, Cond.code yX11_finds cX11_finds 21 (some .boolean), Cond.constantLong RX11 134 (-1000), Cond.fieldLink RX11 140 "ZoneRelayModel" "foundVa" "J", Cond.fieldLink RX11 144 "ZoneRelayModel" "foundVb" "J", Cond.fieldLink RX11 147 "ZoneRelayModel" "foundIa" "J", Cond.fieldLink RX11 150 "ZoneRelayModel" "foundIb" "J"]
def wsX11_test_r2 : List Cond := [Cond.methodLink RX11 136 yX11_limited, Cond.static yX11_limited, Cond.code yX11_limited cX11_limited 2 (some .long), Cond.constantLong RX11 85 (-20000), Cond.methodLink RX11 160 yX11_findsFault, Cond.instanceMethod yX11_findsFault, Cond.selects RX11 yX11_findsFault yX11_findsFault, Cond.code yX11_findsFault cX11_findsFault 3 (some .boolean), Cond.methodLink RX11 255 yX11_putAside, Cond.instanceMethod yX11_putAside, Cond.selects RX11 yX11_putAside yX11_putAside, Cond.code yX11_putAside cX11_putAside 2 none, Cond.fieldLink RX11 13 "ZoneRelayModel" "aside" "[J", Cond.methodLink RX11 258 yX11_reset, Cond.instanceMethod yX11_reset, Cond.selects RX11 yX11_reset yX11_reset, Cond.code yX11_reset cX11_reset 3 (some .int), Cond.constantLong RX11 60 (-6), Cond.methodLink RX11 261 yX11_healthy, Cond.instanceMethod yX11_healthy, Cond.selects RX11 yX11_healthy yX11_healthy, Cond.code yX11_healthy cX11_healthy 1 (some .int), Cond.methodLink RX11 163 yX11_applyFound, Cond.instanceMethod yX11_applyFound]
def wsX11_test_r3 : List Cond := [Cond.selects RX11 yX11_applyFound yX11_applyFound, Cond.code yX11_applyFound cX11_applyFound 1 none, Cond.methodLink RX11 128 yX11_putFour, Cond.instanceMethod yX11_putFour, Cond.selects RX11 yX11_putFour yX11_putFour, Cond.code yX11_putFour cX11_putFour 10 none, Cond.methodLink RX11 240 yX11_sample, Cond.instanceMethod yX11_sample, Cond.selects RX11 yX11_sample yX11_sample, Cond.code yX11_sample cX11_sample 2 none, Cond.fieldLink RX11 185 "ZoneRelayModel" "pointX" "J", Cond.fieldLink RX11 191 "ZoneRelayModel" "pointBy" "J", Cond.fieldLink RX11 188 "ZoneRelayModel" "pointY" "J", Cond.methodLink RX11 212 yX11_goOnRamp, Cond.instanceMethod yX11_goOnRamp, Cond.selects RX11 yX11_goOnRamp yX11_goOnRamp, Cond.code yX11_goOnRamp cX11_goOnRamp 4 none, Cond.methodLink RX11 215 yX11_takeSample, Cond.instanceMethod yX11_takeSample, Cond.selects RX11 yX11_takeSample yX11_takeSample, Cond.code yX11_takeSample cX11_takeSample 4 none, Cond.constantLong RX11 52 (24), Cond.fieldLink RX11 27 "ZoneRelayModel" "cosine" "[I", Cond.constantLong RX11 175 (4096)]
def wsX11_test_r4 : List Cond := [Cond.methodLink RX11 172 yX11_sine, Cond.instanceMethod yX11_sine, Cond.selects RX11 yX11_sine yX11_sine, Cond.code yX11_sine cX11_sine 3 (some .long), Cond.constantLong RX11 66 (18), Cond.methodLink RX11 219 yX11_estimate, Cond.instanceMethod yX11_estimate, Cond.selects RX11 yX11_estimate yX11_estimate, Cond.code yX11_estimate cX11_estimate 8 none, Cond.constantLong RX11 177 (49152), Cond.methodLink RX11 222 yX11_remember, Cond.instanceMethod yX11_remember, Cond.selects RX11 yX11_remember yX11_remember, Cond.code yX11_remember cX11_remember 5 none, Cond.methodLink RX11 225 yX11_laysPoint, Cond.instanceMethod yX11_laysPoint, Cond.selects RX11 yX11_laysPoint yX11_laysPoint, Cond.code yX11_laysPoint cX11_laysPoint 9 (some .boolean), Cond.methodLink RX11 229 yX11_isInLoad, Cond.instanceMethod yX11_isInLoad, Cond.selects RX11 yX11_isInLoad yX11_isInLoad, Cond.code yX11_isInLoad cX11_isInLoad 1 (some .boolean), Cond.methodLink RX11 194 yX11_size, Cond.static yX11_size]
def wsX11_test_r5 : List Cond := [Cond.code yX11_size cX11_size 2 (some .long), Cond.methodLink RX11 232 yX11_watchSwing, Cond.instanceMethod yX11_watchSwing, Cond.selects RX11 yX11_watchSwing yX11_watchSwing, Cond.code yX11_watchSwing cX11_watchSwing 1 none, Cond.methodLink RX11 197 yX11_isInside, Cond.instanceMethod yX11_isInside, Cond.selects RX11 yX11_isInside yX11_isInside, Cond.code yX11_isInside cX11_isInside 2 (some .boolean), Cond.methodLink RX11 110 yX11_holds, Cond.instanceMethod yX11_holds, Cond.selects RX11 yX11_holds yX11_holds, Cond.code yX11_holds cX11_holds 18 (some .boolean), Cond.methodLink RX11 103 yX11_soundness, Cond.instanceMethod yX11_soundness, Cond.selects RX11 yX11_soundness yX11_soundness, Cond.code yX11_soundness cX11_soundness 4 (some .int), Cond.methodLink RX11 74 yX11_corners, Cond.instanceMethod yX11_corners, Cond.selects RX11 yX11_corners yX11_corners, Cond.code yX11_corners cX11_corners 2 (some .int), Cond.methodLink RX11 96 yX11_turnsLeft, Cond.instanceMethod yX11_turnsLeft, Cond.selects RX11 yX11_turnsLeft yX11_turnsLeft]
def wsX11_test_r6 : List Cond := [Cond.code yX11_turnsLeft cX11_turnsLeft 15 (some .boolean), Cond.methodLink RX11 92 yX11_coordinate, Cond.instanceMethod yX11_coordinate, Cond.selects RX11 yX11_coordinate yX11_coordinate, Cond.code yX11_coordinate cX11_coordinate 4 (some .long), Cond.methodLink RX11 77 yX11_cornerAt, Cond.static yX11_cornerAt, Cond.code yX11_cornerAt cX11_cornerAt 3 (some .int), Cond.methodLink RX11 100 yX11_signChanges, Cond.instanceMethod yX11_signChanges, Cond.selects RX11 yX11_signChanges yX11_signChanges, Cond.code yX11_signChanges cX11_signChanges 9 (some .int), Cond.methodLink RX11 200 yX11_endSwing, Cond.instanceMethod yX11_endSwing, Cond.selects RX11 yX11_endSwing yX11_endSwing, Cond.code yX11_endSwing cX11_endSwing 1 none, Cond.methodLink RX11 181 yX11_note, Cond.instanceMethod yX11_note, Cond.selects RX11 yX11_note yX11_note, Cond.code yX11_note cX11_note 3 none, Cond.constantLong RX11 179 (60), Cond.methodLink RX11 235 yX11_goOnZones, Cond.instanceMethod yX11_goOnZones, Cond.selects RX11 yX11_goOnZones yX11_goOnZones]
def wsX11_test_r7 : List Cond := [Cond.code yX11_goOnZones cX11_goOnZones 5 none, Cond.methodLink RX11 209 yX11_picksUp, Cond.instanceMethod yX11_picksUp, Cond.selects RX11 yX11_picksUp yX11_picksUp, Cond.code yX11_picksUp cX11_picksUp 4 (some .boolean), Cond.methodLink RX11 203 yX11_has, Cond.instanceMethod yX11_has, Cond.selects RX11 yX11_has yX11_has, Cond.code yX11_has cX11_has 3 (some .boolean), Cond.methodLink RX11 206 yX11_fitsWay, Cond.instanceMethod yX11_fitsWay, Cond.selects RX11 yX11_fitsWay yX11_fitsWay, Cond.code yX11_fitsWay cX11_fitsWay 13 (some .boolean), Cond.constantLong RX11 72 (2), Cond.methodLink RX11 264 yX11_fault, Cond.instanceMethod yX11_fault, Cond.selects RX11 yX11_fault yX11_fault, Cond.code yX11_fault cX11_fault 3 (some .int), Cond.methodLink RX11 268 yX11_samplesToTrip, Cond.instanceMethod yX11_samplesToTrip, Cond.selects RX11 yX11_samplesToTrip yX11_samplesToTrip, Cond.code yX11_samplesToTrip cX11_samplesToTrip 3 (some .int), Cond.methodLink RX11 271 yX11_putBack, Cond.instanceMethod yX11_putBack]
def wsX11_test_r8 : List Cond := [Cond.selects RX11 yX11_putBack yX11_putBack, Cond.code yX11_putBack cX11_putBack 2 none]
def wsX11_test : List Cond := .code yX11_test cX11_test 7 (some .int) :: ((wsX11_test_r1 ++ (wsX11_test_r2 ++ (wsX11_test_r3 ++ (wsX11_test_r4 ++ (wsX11_test_r5 ++ (wsX11_test_r6 ++ (wsX11_test_r7 ++ wsX11_test_r8))))))) ++ wsX110)
def wsX11_forecast_r1 : List Cond := [Cond.constantLong RX11 48 (5000), Cond.methodLink RX11 68 yX11_in, Cond.static yX11_in, Cond.initialized RX11, Cond.code yX11_in cX11_in 6 (some .boolean), Cond.methodLink RX11 255 yX11_putAside, Cond.instanceMethod yX11_putAside, Cond.selects RX11 yX11_putAside yX11_putAside, Cond.code yX11_putAside cX11_putAside 2 none, Cond.fieldLink RX11 13 "ZoneRelayModel" "aside" "[J", Cond.fieldLink RX11 7 "ZoneRelayModel" "at" "[J", Cond.methodLink RX11 268 yX11_samplesToTrip, Cond.instanceMethod yX11_samplesToTrip, Cond.selects RX11 yX11_samplesToTrip yX11_samplesToTrip, Cond.code yX11_samplesToTrip cX11_samplesToTrip 3 (some .int), Cond.methodLink RX11 240 yX11_sample, Cond.instanceMethod yX11_sample, Cond.selects RX11 yX11_sample yX11_sample, Cond.code yX11_sample cX11_sample 2 none, Cond.fieldLink RX11 185 "ZoneRelayModel" "pointX" "J", Cond.fieldLink RX11 191 "ZoneRelayModel" "pointBy" "J", Cond.fieldLink RX11 188 "ZoneRelayModel" "pointY" "J", Cond.methodLink RX11 212 yX11_goOnRamp, Cond.instanceMethod yX11_goOnRamp]
def wsX11_forecast_r2 : List Cond := [Cond.selects RX11 yX11_goOnRamp yX11_goOnRamp, Cond.code yX11_goOnRamp cX11_goOnRamp 4 none, Cond.methodLink RX11 215 yX11_takeSample, Cond.instanceMethod yX11_takeSample, Cond.selects RX11 yX11_takeSample yX11_takeSample, Cond.code yX11_takeSample cX11_takeSample 4 none, Cond.constantLong RX11 52 (24), Cond.fieldLink RX11 27 "ZoneRelayModel" "cosine" "[I", Cond.constantLong RX11 175 (4096), Cond.methodLink RX11 172 yX11_sine, Cond.instanceMethod yX11_sine, Cond.selects RX11 yX11_sine yX11_sine, Cond.code yX11_sine cX11_sine 3 (some .long), Cond.constantLong RX11 66 (18), Cond.methodLink RX11 219 yX11_estimate, Cond.instanceMethod yX11_estimate, Cond.selects RX11 yX11_estimate yX11_estimate, Cond.code yX11_estimate cX11_estimate 8 none, Cond.constantLong RX11 177 (49152), Cond.methodLink RX11 222 yX11_remember, Cond.instanceMethod yX11_remember, Cond.selects RX11 yX11_remember yX11_remember, Cond.code yX11_remember cX11_remember 5 none, Cond.methodLink RX11 225 yX11_laysPoint]
def wsX11_forecast_r3 : List Cond := [Cond.instanceMethod yX11_laysPoint, Cond.selects RX11 yX11_laysPoint yX11_laysPoint, Cond.code yX11_laysPoint cX11_laysPoint 9 (some .boolean), Cond.constantLong RX11 40 (1000), Cond.methodLink RX11 229 yX11_isInLoad, Cond.instanceMethod yX11_isInLoad, Cond.selects RX11 yX11_isInLoad yX11_isInLoad, Cond.code yX11_isInLoad cX11_isInLoad 1 (some .boolean), Cond.methodLink RX11 194 yX11_size, Cond.static yX11_size, Cond.code yX11_size cX11_size 2 (some .long), Cond.methodLink RX11 232 yX11_watchSwing, Cond.instanceMethod yX11_watchSwing, Cond.selects RX11 yX11_watchSwing yX11_watchSwing, Cond.code yX11_watchSwing cX11_watchSwing 1 none, Cond.methodLink RX11 197 yX11_isInside, Cond.instanceMethod yX11_isInside, Cond.selects RX11 yX11_isInside yX11_isInside, Cond.code yX11_isInside cX11_isInside 2 (some .boolean), Cond.methodLink RX11 110 yX11_holds, Cond.instanceMethod yX11_holds, Cond.selects RX11 yX11_holds yX11_holds, Cond.code yX11_holds cX11_holds 18 (some .boolean), Cond.methodLink RX11 103 yX11_soundness]
def wsX11_forecast_r4 : List Cond := [Cond.instanceMethod yX11_soundness, Cond.selects RX11 yX11_soundness yX11_soundness, Cond.code yX11_soundness cX11_soundness 4 (some .int), Cond.methodLink RX11 74 yX11_corners, Cond.instanceMethod yX11_corners, Cond.selects RX11 yX11_corners yX11_corners, Cond.code yX11_corners cX11_corners 2 (some .int), Cond.methodLink RX11 96 yX11_turnsLeft, Cond.instanceMethod yX11_turnsLeft, Cond.selects RX11 yX11_turnsLeft yX11_turnsLeft, Cond.code yX11_turnsLeft cX11_turnsLeft 15 (some .boolean), Cond.methodLink RX11 92 yX11_coordinate, Cond.instanceMethod yX11_coordinate, Cond.selects RX11 yX11_coordinate yX11_coordinate, Cond.code yX11_coordinate cX11_coordinate 4 (some .long), Cond.methodLink RX11 77 yX11_cornerAt, Cond.static yX11_cornerAt, Cond.code yX11_cornerAt cX11_cornerAt 3 (some .int), Cond.methodLink RX11 100 yX11_signChanges, Cond.instanceMethod yX11_signChanges, Cond.selects RX11 yX11_signChanges yX11_signChanges, Cond.code yX11_signChanges cX11_signChanges 9 (some .int), Cond.methodLink RX11 200 yX11_endSwing, Cond.instanceMethod yX11_endSwing]
def wsX11_forecast_r5 : List Cond := [Cond.selects RX11 yX11_endSwing yX11_endSwing, Cond.code yX11_endSwing cX11_endSwing 1 none, Cond.methodLink RX11 181 yX11_note, Cond.instanceMethod yX11_note, Cond.selects RX11 yX11_note yX11_note, Cond.code yX11_note cX11_note 3 none, Cond.constantLong RX11 179 (60), Cond.methodLink RX11 235 yX11_goOnZones, Cond.instanceMethod yX11_goOnZones, Cond.selects RX11 yX11_goOnZones yX11_goOnZones, Cond.code yX11_goOnZones cX11_goOnZones 5 none, Cond.methodLink RX11 209 yX11_picksUp, Cond.instanceMethod yX11_picksUp, Cond.selects RX11 yX11_picksUp yX11_picksUp, Cond.code yX11_picksUp cX11_picksUp 4 (some .boolean), Cond.methodLink RX11 203 yX11_has, Cond.instanceMethod yX11_has, Cond.selects RX11 yX11_has yX11_has, Cond.code yX11_has cX11_has 3 (some .boolean), Cond.methodLink RX11 206 yX11_fitsWay, Cond.instanceMethod yX11_fitsWay, Cond.selects RX11 yX11_fitsWay yX11_fitsWay, Cond.code yX11_fitsWay cX11_fitsWay 13 (some .boolean), Cond.constantLong RX11 72 (2)]
def wsX11_forecast_r6 : List Cond := [Cond.methodLink RX11 271 yX11_putBack, Cond.instanceMethod yX11_putBack, Cond.selects RX11 yX11_putBack yX11_putBack, Cond.code yX11_putBack cX11_putBack 2 none]
def wsX11_forecast : List Cond := .code yX11_forecast cX11_forecast 3 (some .int) :: ((wsX11_forecast_r1 ++ (wsX11_forecast_r2 ++ (wsX11_forecast_r3 ++ (wsX11_forecast_r4 ++ (wsX11_forecast_r5 ++ wsX11_forecast_r6))))) ++ wsX110)
def wsX11_say : List Cond := .code yX11_say cX11_say 2 (some .int) :: ([.constantLong RX11 274 (33), .constantLong RX11 276 (126), .fieldLink RX11 278 "ZoneRelayModel" "padMany" "I", .fieldLink RX11 23 "ZoneRelayModel" "pad" "[I", .methodLink RX11 68 yX11_in, .static yX11_in, .initialized RX11, .code yX11_in cX11_in 6 (some .boolean)] ++ wsX110)
def wsX11_wipe : List Cond := .code yX11_wipe cX11_wipe 2 (some .int) :: ([.fieldLink RX11 278 "ZoneRelayModel" "padMany" "I"] ++ wsX110)
def wsX11_nextSign : List Cond := .code yX11_nextSign cX11_nextSign 1 (some .int) :: ([.fieldLink RX11 282 "ZoneRelayModel" "reading" "I", .fieldLink RX11 278 "ZoneRelayModel" "padMany" "I", .fieldLink RX11 23 "ZoneRelayModel" "pad" "[I"] ++ wsX110)
def wsX11_takesSign : List Cond := .code yX11_takesSign cX11_takesSign 2 (some .boolean) :: ([.fieldLink RX11 285 "ZoneRelayModel" "isWrong" "Z", .fieldLink RX11 282 "ZoneRelayModel" "reading" "I", .methodLink RX11 289 yX11_nextSign, .instanceMethod yX11_nextSign, .selects RX11 yX11_nextSign yX11_nextSign, .initialized RX11, .code yX11_nextSign cX11_nextSign 1 (some .int), .fieldLink RX11 278 "ZoneRelayModel" "padMany" "I", .fieldLink RX11 23 "ZoneRelayModel" "pad" "[I"] ++ wsX110)
def wsX11_readNumber : List Cond := .code yX11_readNumber cX11_readNumber 3 (some .int) :: ([.fieldLink RX11 285 "ZoneRelayModel" "isWrong" "Z", .constantLong RX11 247 (9), .fieldLink RX11 282 "ZoneRelayModel" "reading" "I", .constantLong RX11 50 (48), .constantLong RX11 295 (57), .methodLink RX11 292 yX11_takesSign, .instanceMethod yX11_takesSign, .selects RX11 yX11_takesSign yX11_takesSign, .initialized RX11, .code yX11_takesSign cX11_takesSign 2 (some .boolean), .methodLink RX11 289 yX11_nextSign, .instanceMethod yX11_nextSign, .selects RX11 yX11_nextSign yX11_nextSign, .code yX11_nextSign cX11_nextSign 1 (some .int), .fieldLink RX11 278 "ZoneRelayModel" "padMany" "I", .fieldLink RX11 23 "ZoneRelayModel" "pad" "[I", .methodLink RX11 68 yX11_in, .static yX11_in, .code yX11_in cX11_in 6 (some .boolean)] ++ wsX110)
def wsX11_readCorner_r1 : List Cond := [Cond.fieldLink RX11 30 "ZoneRelayModel" "read" "[I", Cond.fieldLink RX11 297 "ZoneRelayModel" "readMany" "I", Cond.fieldLink RX11 285 "ZoneRelayModel" "isWrong" "Z", Cond.methodLink RX11 300 yX11_readNumber, Cond.instanceMethod yX11_readNumber, Cond.selects RX11 yX11_readNumber yX11_readNumber, Cond.initialized RX11, Cond.code yX11_readNumber cX11_readNumber 3 (some .int), Cond.constantLong RX11 247 (9), Cond.fieldLink RX11 282 "ZoneRelayModel" "reading" "I", Cond.constantLong RX11 50 (48), Cond.constantLong RX11 295 (57), Cond.methodLink RX11 292 yX11_takesSign, Cond.instanceMethod yX11_takesSign, Cond.selects RX11 yX11_takesSign yX11_takesSign, Cond.code yX11_takesSign cX11_takesSign 2 (some .boolean), Cond.methodLink RX11 289 yX11_nextSign, Cond.instanceMethod yX11_nextSign, Cond.selects RX11 yX11_nextSign yX11_nextSign, Cond.code yX11_nextSign cX11_nextSign 1 (some .int), Cond.fieldLink RX11 278 "ZoneRelayModel" "padMany" "I", Cond.fieldLink RX11 23 "ZoneRelayModel" "pad" "[I", Cond.methodLink RX11 68 yX11_in, Cond.static yX11_in]
def wsX11_readCorner_r2 : List Cond := [Cond.code yX11_in cX11_in 6 (some .boolean)]
def wsX11_readCorner : List Cond := .code yX11_readCorner cX11_readCorner 1 none :: ((wsX11_readCorner_r1 ++ wsX11_readCorner_r2) ++ wsX110)
def wsX11_flaw_r1 : List Cond := [Cond.fieldLink RX11 282 "ZoneRelayModel" "reading" "I", Cond.fieldLink RX11 285 "ZoneRelayModel" "isWrong" "Z", Cond.fieldLink RX11 297 "ZoneRelayModel" "readMany" "I", Cond.fieldLink RX11 278 "ZoneRelayModel" "padMany" "I", Cond.methodLink RX11 303 yX11_readCorner, Cond.instanceMethod yX11_readCorner, Cond.selects RX11 yX11_readCorner yX11_readCorner, Cond.initialized RX11, Cond.code yX11_readCorner cX11_readCorner 1 none, Cond.fieldLink RX11 30 "ZoneRelayModel" "read" "[I", Cond.methodLink RX11 300 yX11_readNumber, Cond.instanceMethod yX11_readNumber, Cond.selects RX11 yX11_readNumber yX11_readNumber, Cond.code yX11_readNumber cX11_readNumber 3 (some .int), Cond.constantLong RX11 247 (9), Cond.constantLong RX11 50 (48), Cond.constantLong RX11 295 (57), Cond.methodLink RX11 292 yX11_takesSign, Cond.instanceMethod yX11_takesSign, Cond.selects RX11 yX11_takesSign yX11_takesSign, Cond.code yX11_takesSign cX11_takesSign 2 (some .boolean), Cond.methodLink RX11 289 yX11_nextSign, Cond.instanceMethod yX11_nextSign, Cond.selects RX11 yX11_nextSign yX11_nextSign]
def wsX11_flaw_r2 : List Cond := [Cond.code yX11_nextSign cX11_nextSign 1 (some .int), Cond.fieldLink RX11 23 "ZoneRelayModel" "pad" "[I", Cond.methodLink RX11 68 yX11_in, Cond.static yX11_in, Cond.code yX11_in cX11_in 6 (some .boolean)]
def wsX11_flaw : List Cond := .code yX11_flaw cX11_flaw 1 (some .int) :: ((wsX11_flaw_r1 ++ wsX11_flaw_r2) ++ wsX110)
def wsX11_load_r1 : List Cond := [Cond.fieldLink RX11 7 "ZoneRelayModel" "at" "[J", Cond.fieldLink RX11 297 "ZoneRelayModel" "readMany" "I", Cond.fieldLink RX11 30 "ZoneRelayModel" "read" "[I", Cond.fieldLink RX11 278 "ZoneRelayModel" "padMany" "I", Cond.methodLink RX11 81 yX11_isPolygon, Cond.static yX11_isPolygon, Cond.initialized RX11, Cond.code yX11_isPolygon cX11_isPolygon 1 (some .boolean), Cond.constantLong RX11 54 (4), Cond.methodLink RX11 68 yX11_in, Cond.static yX11_in, Cond.code yX11_in cX11_in 6 (some .boolean), Cond.methodLink RX11 306 yX11_flaw, Cond.instanceMethod yX11_flaw, Cond.selects RX11 yX11_flaw yX11_flaw, Cond.code yX11_flaw cX11_flaw 1 (some .int), Cond.fieldLink RX11 282 "ZoneRelayModel" "reading" "I", Cond.fieldLink RX11 285 "ZoneRelayModel" "isWrong" "Z", Cond.methodLink RX11 303 yX11_readCorner, Cond.instanceMethod yX11_readCorner, Cond.selects RX11 yX11_readCorner yX11_readCorner, Cond.code yX11_readCorner cX11_readCorner 1 none, Cond.methodLink RX11 300 yX11_readNumber, Cond.instanceMethod yX11_readNumber]
def wsX11_load_r2 : List Cond := [Cond.selects RX11 yX11_readNumber yX11_readNumber, Cond.code yX11_readNumber cX11_readNumber 3 (some .int), Cond.constantLong RX11 247 (9), Cond.constantLong RX11 50 (48), Cond.constantLong RX11 295 (57), Cond.methodLink RX11 292 yX11_takesSign, Cond.instanceMethod yX11_takesSign, Cond.selects RX11 yX11_takesSign yX11_takesSign, Cond.code yX11_takesSign cX11_takesSign 2 (some .boolean), Cond.methodLink RX11 289 yX11_nextSign, Cond.instanceMethod yX11_nextSign, Cond.selects RX11 yX11_nextSign yX11_nextSign, Cond.code yX11_nextSign cX11_nextSign 1 (some .int), Cond.fieldLink RX11 23 "ZoneRelayModel" "pad" "[I", Cond.methodLink RX11 87 yX11_append, Cond.instanceMethod yX11_append, Cond.selects RX11 yX11_append yX11_append, Cond.code yX11_append cX11_append 5 none, Cond.methodLink RX11 74 yX11_corners, Cond.instanceMethod yX11_corners, Cond.selects RX11 yX11_corners yX11_corners, Cond.code yX11_corners cX11_corners 2 (some .int), Cond.methodLink RX11 77 yX11_cornerAt, Cond.static yX11_cornerAt]
def wsX11_load_r3 : List Cond := [Cond.code yX11_cornerAt cX11_cornerAt 3 (some .int)]
def wsX11_load : List Cond := .code yX11_load cX11_load 3 (some .int) :: ((wsX11_load_r1 ++ (wsX11_load_r2 ++ wsX11_load_r3)) ++ wsX110)
def wsX11_write : List Cond := .code yX11_write cX11_write 2 none :: ([.fieldLink RX11 33 "ZoneRelayModel" "written" "[I", .fieldLink RX11 309 "ZoneRelayModel" "writtenMany" "I"] ++ wsX110)
def wsX11_writeNumber : List Cond := .code yX11_writeNumber cX11_writeNumber 7 none :: ([.constantLong RX11 315 (10), .methodLink RX11 312 yX11_write, .instanceMethod yX11_write, .selects RX11 yX11_write yX11_write, .initialized RX11, .code yX11_write cX11_write 2 none, .fieldLink RX11 33 "ZoneRelayModel" "written" "[I", .fieldLink RX11 309 "ZoneRelayModel" "writtenMany" "I", .methodLink RX11 194 yX11_size, .static yX11_size, .code yX11_size cX11_size 2 (some .long)] ++ wsX110)
def wsX11_spell_r1 : List Cond := [Cond.fieldLink RX11 309 "ZoneRelayModel" "writtenMany" "I", Cond.fieldLink RX11 7 "ZoneRelayModel" "at" "[J", Cond.fieldLink RX11 33 "ZoneRelayModel" "written" "[I", Cond.methodLink RX11 81 yX11_isPolygon, Cond.static yX11_isPolygon, Cond.initialized RX11, Cond.code yX11_isPolygon cX11_isPolygon 1 (some .boolean), Cond.constantLong RX11 54 (4), Cond.methodLink RX11 68 yX11_in, Cond.static yX11_in, Cond.code yX11_in cX11_in 6 (some .boolean), Cond.methodLink RX11 74 yX11_corners, Cond.instanceMethod yX11_corners, Cond.selects RX11 yX11_corners yX11_corners, Cond.code yX11_corners cX11_corners 2 (some .int), Cond.methodLink RX11 312 yX11_write, Cond.instanceMethod yX11_write, Cond.selects RX11 yX11_write yX11_write, Cond.code yX11_write cX11_write 2 none, Cond.methodLink RX11 77 yX11_cornerAt, Cond.static yX11_cornerAt, Cond.code yX11_cornerAt cX11_cornerAt 3 (some .int), Cond.methodLink RX11 317 yX11_writeNumber, Cond.instanceMethod yX11_writeNumber]
def wsX11_spell_r2 : List Cond := [Cond.selects RX11 yX11_writeNumber yX11_writeNumber, Cond.code yX11_writeNumber cX11_writeNumber 7 none, Cond.constantLong RX11 315 (10), Cond.methodLink RX11 194 yX11_size, Cond.static yX11_size, Cond.code yX11_size cX11_size 2 (some .long)]
def wsX11_spell : List Cond := .code yX11_spell cX11_spell 4 (some .int) :: ((wsX11_spell_r1 ++ wsX11_spell_r2) ++ wsX110)
def wsX11_count : List Cond := .code yX11_count cX11_count 2 (some .int) :: ([.constantLong RX11 321 (17), .fieldLink RX11 7 "ZoneRelayModel" "at" "[J", .fieldLink RX11 278 "ZoneRelayModel" "padMany" "I", .methodLink RX11 68 yX11_in, .static yX11_in, .initialized RX11, .code yX11_in cX11_in 6 (some .boolean)] ++ wsX110)
def wsX11_save : List Cond := .code yX11_save cX11_save 3 (some .int) :: ([.fieldLink RX11 16 "ZoneRelayModel" "slots" "[J", .fieldLink RX11 7 "ZoneRelayModel" "at" "[J", .fieldLink RX11 19 "ZoneRelayModel" "isSaved" "[Z", .methodLink RX11 68 yX11_in, .static yX11_in, .initialized RX11, .code yX11_in cX11_in 6 (some .boolean)] ++ wsX110)
def wsX11_restore : List Cond := .code yX11_restore cX11_restore 3 (some .int) :: ([.fieldLink RX11 19 "ZoneRelayModel" "isSaved" "[Z", .fieldLink RX11 7 "ZoneRelayModel" "at" "[J", .fieldLink RX11 16 "ZoneRelayModel" "slots" "[J", .methodLink RX11 68 yX11_in, .static yX11_in, .initialized RX11, .code yX11_in cX11_in 6 (some .boolean)] ++ wsX110)
def wsJ9_abs_067f4 : List Cond := .code yJ9_abs_067f4 cJ9_abs_067f4 2 (some .long) :: ([])
def wsJ9_max_7cf53 : List Cond := .code yJ9_max_7cf53 cJ9_max_7cf53 2 (some .int) :: ([])
def wsJ9_max_f86c9 : List Cond := .code yJ9_max_f86c9 cJ9_max_f86c9 4 (some .long) :: ([])
def wsJ9_min_7cf53 : List Cond := .code yJ9_min_7cf53 cJ9_min_7cf53 2 (some .int) :: ([])
def wsJ9_min_f86c9 : List Cond := .code yJ9_min_f86c9 cJ9_min_f86c9 4 (some .long) :: ([])
def wsL_law_r1 : List Cond := [Cond.classLink RL 7 RX10, Cond.instantiable RX10 9, Cond.initialized RX10, Cond.classLink RL 10 RX11, Cond.instantiable RX11 20, Cond.initialized RX11, Cond.methodLink RL 9 yX10_init, Cond.instanceMethod yX10_init, Cond.code yX10_init cX10_init 1 none, Cond.methodLink RX10 1 objectInit, Cond.instanceMethod objectInit, Cond.code objectInit ⟨#[0xb1]⟩ 1 none, Cond.classLink RX10 7 RX6, Cond.instantiable RX6 18, Cond.initialized RX6, Cond.fieldLink RX10 10 "ZoneRelay" "relay" "LZoneRelay$Relay;", Cond.fieldLink RX10 16 "ZoneRelay" "copy" "LZoneRelay$Relay;", Cond.fieldLink RX10 19 "ZoneRelay" "slots" "[LZoneRelay$Relay;", Cond.classLink RX10 23 RX3, Cond.instantiable RX3 4, Cond.initialized RX3, Cond.fieldLink RX10 26 "ZoneRelay" "faulted" "LZoneRelay$Phasors;", Cond.fieldLink RX10 30 "ZoneRelay" "unfaulted" "LZoneRelay$Phasors;", Cond.classLink RX10 33 RX0]
def wsL_law_r2 : List Cond := [Cond.instantiable RX0 4, Cond.initialized RX0, Cond.fieldLink RX10 36 "ZoneRelay" "seen" "LZoneRelay$Impedance;", Cond.classLink RX10 40 RJ4, Cond.instantiable RJ4 4, Cond.initialized RJ4, Cond.fieldLink RX10 43 "ZoneRelay" "pad" "Ljava/lang/StringBuilder;", Cond.classLink RX10 47 RX5, Cond.instantiable RX5 7, Cond.initialized RX5, Cond.fieldLink RX10 50 "ZoneRelay" "reader" "LZoneRelay$Reader;", Cond.fieldLink RX10 54 "ZoneRelay" "spelled" "Ljava/lang/StringBuilder;", Cond.methodLink RX10 9 yX6_init, Cond.instanceMethod yX6_init, Cond.code yX6_init cX6_init 2 none, Cond.methodLink RX6 3 objectInit, Cond.classLink RX6 9 RX4, Cond.fieldLink RX6 11 "ZoneRelay$Relay" "polygons" "[LZoneRelay$Polygon;", Cond.arrayClass .int, Cond.fieldLink RX6 17 "ZoneRelay$Relay" "settings" "[I", Cond.classLink RX6 21 RX9, Cond.instantiable RX9 4, Cond.initialized RX9, Cond.fieldLink RX6 26 "ZoneRelay$Relay" "zones" "[LZoneRelay$Zone;"]
def wsL_law_r3 : List Cond := [Cond.classLink RX6 30 RX2, Cond.instantiable RX2 2, Cond.initialized RX2, Cond.fieldLink RX6 33 "ZoneRelay$Relay" "network" "LZoneRelay$Network;", Cond.classLink RX6 37 RX7, Cond.instantiable RX7 5, Cond.initialized RX7, Cond.fieldLink RX6 40 "ZoneRelay$Relay" "signal" "LZoneRelay$Signal;", Cond.classLink RX6 44 RX8, Cond.instantiable RX8 3, Cond.initialized RX8, Cond.fieldLink RX6 47 "ZoneRelay$Relay" "voltage" "LZoneRelay$Window;", Cond.fieldLink RX6 51 "ZoneRelay$Relay" "current" "LZoneRelay$Window;", Cond.classLink RX6 54 RX3, Cond.fieldLink RX6 57 "ZoneRelay$Relay" "estimate" "LZoneRelay$Phasors;", Cond.classLink RX6 61 RX0, Cond.fieldLink RX6 64 "ZoneRelay$Relay" "impedance" "LZoneRelay$Impedance;", Cond.classLink RX6 68 RX1, Cond.instantiable RX1 3, Cond.initialized RX1, Cond.fieldLink RX6 71 "ZoneRelay$Relay" "log" "LZoneRelay$Log;", Cond.fieldLink RX6 75 "ZoneRelay$Relay" "trippedBy" "I", Cond.instantiable RX4 4, Cond.initialized RX4]
def wsL_law_r4 : List Cond := [Cond.methodLink RX6 23 yX9_init, Cond.instanceMethod yX9_init, Cond.code yX9_init cX9_init 2 none, Cond.methodLink RX9 3 objectInit, Cond.fieldLink RX9 9 "ZoneRelay$Zone" "direction" "I", Cond.fieldLink RX9 15 "ZoneRelay$Zone" "delay" "I", Cond.instanceMethod yX2_init, Cond.code yX2_init cX2_init 1 none, Cond.methodLink RX2 3 objectInit, Cond.fieldLink RX2 9 "ZoneRelay$Network" "first" "[I", Cond.fieldLink RX2 15 "ZoneRelay$Network" "second" "[I", Cond.instanceMethod yX7_init, Cond.code yX7_init cX7_init 1 none, Cond.methodLink RX7 1 objectInit, Cond.classLink RX7 7 RX3, Cond.fieldLink RX7 10 "ZoneRelay$Signal" "now" "LZoneRelay$Phasors;", Cond.fieldLink RX7 16 "ZoneRelay$Signal" "from" "LZoneRelay$Phasors;", Cond.fieldLink RX7 19 "ZoneRelay$Signal" "to" "LZoneRelay$Phasors;", Cond.instanceMethod yX3_init, Cond.code yX3_init cX3_init 1 none, Cond.methodLink RX3 1 objectInit, Cond.instanceMethod yX8_init, Cond.code yX8_init cX8_init 1 none, Cond.methodLink RX8 3 objectInit]
def wsL_law_r5 : List Cond := [Cond.fieldLink RX8 9 "ZoneRelay$Window" "samples" "[I", Cond.instanceMethod yX0_init, Cond.code yX0_init cX0_init 1 none, Cond.methodLink RX0 1 objectInit, Cond.fieldLink RX0 7 "ZoneRelay$Impedance" "d" "J", Cond.instanceMethod yX1_init, Cond.code yX1_init cX1_init 1 none, Cond.methodLink RX1 3 objectInit, Cond.fieldLink RX1 9 "ZoneRelay$Log" "times" "[I", Cond.fieldLink RX1 15 "ZoneRelay$Log" "kinds" "[I", Cond.instanceMethod yX4_init, Cond.code yX4_init cX4_init 1 none, Cond.methodLink RX4 3 objectInit, Cond.fieldLink RX4 9 "ZoneRelay$Polygon" "xs" "[I", Cond.fieldLink RX4 15 "ZoneRelay$Polygon" "ys" "[I", Cond.fieldLink RX4 18 "ZoneRelay$Polygon" "defect" "I", Cond.methodLink RX10 42 yJ4_init_da8c8, Cond.instanceMethod yJ4_init_da8c8, Cond.code yJ4_init_da8c8 cJ4_init_da8c8 1 none, Cond.methodLink RJ4 1 yJ5_init_d00df, Cond.instanceMethod yJ5_init_d00df, Cond.initialized RJ5, Cond.code yJ5_init_d00df cJ5_init_d00df 2 none, Cond.methodLink RJ5 3 objectInit]
def wsL_law_r6 : List Cond := [Cond.fieldLink RJ5 18 "java/lang/String" "COMPACT_STRINGS" "Z", Cond.arrayClass .byte, Cond.fieldLink RJ5 15 "java/lang/AbstractStringBuilder" "value" "[B", Cond.fieldLink RJ5 22 "java/lang/AbstractStringBuilder" "coder" "B", Cond.methodLink RJ5 26 yJ2_newBytesFor_77867, Cond.static yJ2_newBytesFor_77867, Cond.initialized RJ2, Cond.code yJ2_newBytesFor_77867 cJ2_newBytesFor_77867 1 (some (.array .byte)), Cond.methodLink RJ2 11 yJ2_newBytesLength_0f7a4, Cond.static yJ2_newBytesLength_0f7a4, Cond.code yJ2_newBytesLength_0f7a4 cJ2_newBytesLength_0f7a4 1 (some .int), Cond.constant RJ2 20 (1073741823), Cond.instanceMethod yX5_init, Cond.code yX5_init cX5_init 1 none, Cond.methodLink RX5 3 objectInit, Cond.fieldLink RX5 9 "ZoneRelay$Reader" "xs" "[I", Cond.fieldLink RX5 15 "ZoneRelay$Reader" "ys" "[I", Cond.methodLink RL 12 yX11_init, Cond.instanceMethod yX11_init, Cond.code yX11_init cX11_init 3 none, Cond.methodLink RX11 1 objectInit, Cond.arrayClass .long, Cond.fieldLink RX11 7 "ZoneRelayModel" "at" "[J", Cond.fieldLink RX11 13 "ZoneRelayModel" "aside" "[J"]
def wsL_law_r7 : List Cond := [Cond.fieldLink RX11 16 "ZoneRelayModel" "slots" "[J", Cond.arrayClass .boolean, Cond.fieldLink RX11 19 "ZoneRelayModel" "isSaved" "[Z", Cond.fieldLink RX11 23 "ZoneRelayModel" "pad" "[I", Cond.fieldLink RX11 27 "ZoneRelayModel" "cosine" "[I", Cond.fieldLink RX11 30 "ZoneRelayModel" "read" "[I", Cond.fieldLink RX11 33 "ZoneRelayModel" "written" "[I", Cond.constantLong RX11 36 (10000), Cond.constantLong RX11 38 (100), Cond.constantLong RX11 40 (1000), Cond.constantLong RX11 42 (500), Cond.constantLong RX11 44 (3000), Cond.constantLong RX11 46 (20000), Cond.constantLong RX11 48 (5000), Cond.constantLong RX11 50 (48), Cond.constantLong RX11 52 (24), Cond.constantLong RX11 54 (4), Cond.constantLong RX11 56 (480), Cond.constantLong RX11 58 (1200), Cond.constantLong RX11 60 (-6), Cond.methodLink RX11 62 yX11_quarter, Cond.static yX11_quarter, Cond.code yX11_quarter cX11_quarter 1 (some .int), Cond.methodLink RL 13 yX10_corner]
def wsL_law_r8 : List Cond := [Cond.instanceMethod yX10_corner, Cond.selects RX10 yX10_corner yX10_corner, Cond.code yX10_corner cX10_corner 5 (some .int), Cond.fieldLink RX10 65 "ZoneRelay$Relay" "polygons" "[LZoneRelay$Polygon;", Cond.fieldLink RX10 69 "ZoneRelay$Polygon" "size" "I", Cond.methodLink RX10 57 yX10_outside, Cond.static yX10_outside, Cond.code yX10_outside cX10_outside 3 (some .boolean), Cond.methodLink RX10 61 yX10_beyondLimit, Cond.static yX10_beyondLimit, Cond.code yX10_beyondLimit cX10_beyondLimit 1 (some .boolean), Cond.methodLink RX10 75 yX4_append, Cond.instanceMethod yX4_append, Cond.selects RX4 yX4_append yX4_append, Cond.code yX4_append cX4_append 3 none, Cond.fieldLink RX4 28 "ZoneRelay$Polygon" "size" "I", Cond.methodLink RX4 31 yX4_findDefect, Cond.instanceMethod yX4_findDefect, Cond.selects RX4 yX4_findDefect yX4_findDefect, Cond.code yX4_findDefect cX4_findDefect 1 (some .int), Cond.methodLink RX4 52 yX4_turnsLeftEverywhere, Cond.instanceMethod yX4_turnsLeftEverywhere, Cond.selects RX4 yX4_turnsLeftEverywhere yX4_turnsLeftEverywhere, Cond.code yX4_turnsLeftEverywhere cX4_turnsLeftEverywhere 6 (some .boolean)]
def wsL_law_r9 : List Cond := [Cond.methodLink RX4 35 yX4_after, Cond.instanceMethod yX4_after, Cond.selects RX4 yX4_after yX4_after, Cond.code yX4_after cX4_after 2 (some .int), Cond.methodLink RX4 56 yX4_countTurnsOfY, Cond.instanceMethod yX4_countTurnsOfY, Cond.selects RX4 yX4_countTurnsOfY yX4_countTurnsOfY, Cond.code yX4_countTurnsOfY cX4_countTurnsOfY 5 (some .int), Cond.methodLink RX4 59 yJ6_compare_7cf53, Cond.static yJ6_compare_7cf53, Cond.initialized RJ6, Cond.code yJ6_compare_7cf53 cJ6_compare_7cf53 2 (some .int), Cond.methodLink RL 17 yX11_corner, Cond.instanceMethod yX11_corner, Cond.selects RX11 yX11_corner yX11_corner, Cond.code yX11_corner cX11_corner 4 (some .int), Cond.constantLong RX11 85 (-20000), Cond.methodLink RX11 81 yX11_isPolygon, Cond.static yX11_isPolygon, Cond.code yX11_isPolygon cX11_isPolygon 1 (some .boolean), Cond.methodLink RX11 68 yX11_in, Cond.static yX11_in, Cond.code yX11_in cX11_in 6 (some .boolean), Cond.methodLink RX11 74 yX11_corners]
def wsL_law_r10 : List Cond := [Cond.instanceMethod yX11_corners, Cond.selects RX11 yX11_corners yX11_corners, Cond.code yX11_corners cX11_corners 2 (some .int), Cond.methodLink RX11 87 yX11_append, Cond.instanceMethod yX11_append, Cond.selects RX11 yX11_append yX11_append, Cond.code yX11_append cX11_append 5 none, Cond.methodLink RX11 77 yX11_cornerAt, Cond.static yX11_cornerAt, Cond.code yX11_cornerAt cX11_cornerAt 3 (some .int), Cond.methodLink RL 18 yX10_clear, Cond.instanceMethod yX10_clear, Cond.selects RX10 yX10_clear yX10_clear, Cond.code yX10_clear cX10_clear 3 (some .int), Cond.methodLink RX10 79 yX4_empty, Cond.instanceMethod yX4_empty, Cond.selects RX4 yX4_empty yX4_empty, Cond.code yX4_empty cX4_empty 1 none, Cond.methodLink RL 22 yX11_clear, Cond.instanceMethod yX11_clear, Cond.selects RX11 yX11_clear yX11_clear, Cond.code yX11_clear cX11_clear 3 (some .int), Cond.methodLink RL 23 yX10_at, Cond.instanceMethod yX10_at]
def wsL_law_r11 : List Cond := [Cond.selects RX10 yX10_at yX10_at, Cond.code yX10_at cX10_at 5 (some .int), Cond.constant RX10 82 (100000), Cond.fieldLink RX10 83 "ZoneRelay$Polygon" "xs" "[I", Cond.fieldLink RX10 87 "ZoneRelay$Polygon" "ys" "[I", Cond.methodLink RL 26 yX11_at, Cond.instanceMethod yX11_at, Cond.selects RX11 yX11_at yX11_at, Cond.code yX11_at cX11_at 4 (some .int), Cond.constant RX11 91 (100000), Cond.methodLink RL 27 yX10_sound, Cond.instanceMethod yX10_sound, Cond.selects RX10 yX10_sound yX10_sound, Cond.code yX10_sound cX10_sound 2 (some .int), Cond.fieldLink RX10 90 "ZoneRelay$Polygon" "defect" "I", Cond.methodLink RL 30 yX11_sound, Cond.instanceMethod yX11_sound, Cond.selects RX11 yX11_sound yX11_sound, Cond.code yX11_sound cX11_sound 2 (some .int), Cond.methodLink RX11 103 yX11_soundness, Cond.instanceMethod yX11_soundness, Cond.selects RX11 yX11_soundness yX11_soundness, Cond.code yX11_soundness cX11_soundness 4 (some .int), Cond.methodLink RX11 96 yX11_turnsLeft]
def wsL_law_r12 : List Cond := [Cond.instanceMethod yX11_turnsLeft, Cond.selects RX11 yX11_turnsLeft yX11_turnsLeft, Cond.code yX11_turnsLeft cX11_turnsLeft 15 (some .boolean), Cond.methodLink RX11 92 yX11_coordinate, Cond.instanceMethod yX11_coordinate, Cond.selects RX11 yX11_coordinate yX11_coordinate, Cond.code yX11_coordinate cX11_coordinate 4 (some .long), Cond.methodLink RX11 100 yX11_signChanges, Cond.instanceMethod yX11_signChanges, Cond.selects RX11 yX11_signChanges yX11_signChanges, Cond.code yX11_signChanges cX11_signChanges 9 (some .int), Cond.methodLink RL 31 yX10_contains, Cond.instanceMethod yX10_contains, Cond.selects RX10 yX10_contains yX10_contains, Cond.code yX10_contains cX10_contains 4 (some .int), Cond.constant RX10 93 (-100000), Cond.methodLink RX10 94 yX4_holds, Cond.instanceMethod yX4_holds, Cond.selects RX4 yX4_holds yX4_holds, Cond.code yX4_holds cX4_holds 13 (some .boolean), Cond.methodLink RX10 98 yX10_asNumber, Cond.static yX10_asNumber, Cond.code yX10_asNumber cX10_asNumber 1 (some .int), Cond.methodLink RL 34 yX11_contains]
def wsL_law_r13 : List Cond := [Cond.instanceMethod yX11_contains, Cond.selects RX11 yX11_contains yX11_contains, Cond.code yX11_contains cX11_contains 4 (some .int), Cond.constantLong RX11 106 (-100000), Cond.constantLong RX11 108 (100000), Cond.methodLink RX11 110 yX11_holds, Cond.instanceMethod yX11_holds, Cond.selects RX11 yX11_holds yX11_holds, Cond.code yX11_holds cX11_holds 18 (some .boolean), Cond.methodLink RL 35 yX10_set, Cond.instanceMethod yX10_set, Cond.selects RX10 yX10_set yX10_set, Cond.code yX10_set cX10_set 4 (some .int), Cond.fieldLink RX10 102 "ZoneRelay" "LOWEST_SETTING" "[I", Cond.fieldLink RX10 105 "ZoneRelay" "HIGHEST_SETTING" "[I", Cond.fieldLink RX10 108 "ZoneRelay$Relay" "settings" "[I", Cond.methodLink RL 39 yX11_set, Cond.instanceMethod yX11_set, Cond.selects RX11 yX11_set yX11_set, Cond.code yX11_set cX11_set 4 (some .int), Cond.methodLink RX11 116 yX11_takes, Cond.static yX11_takes, Cond.code yX11_takes cX11_takes 2 (some .boolean), Cond.constantLong RX11 114 (7)]
def wsL_law_r14 : List Cond := [Cond.methodLink RL 40 yX10_zone, Cond.instanceMethod yX10_zone, Cond.selects RX10 yX10_zone yX10_zone, Cond.code yX10_zone cX10_zone 6 (some .int), Cond.fieldLink RX10 111 "ZoneRelay$Relay" "zones" "[LZoneRelay$Zone;", Cond.fieldLink RX10 115 "ZoneRelay$Zone" "delay" "I", Cond.fieldLink RX10 120 "ZoneRelay$Zone" "direction" "I", Cond.methodLink RL 43 yX11_zone, Cond.instanceMethod yX11_zone, Cond.selects RX11 yX11_zone yX11_zone, Cond.code yX11_zone cX11_zone 5 (some .int), Cond.constantLong RX11 122 (2400), Cond.constantLong RX11 72 (2), Cond.methodLink RX11 119 yX11_isZone, Cond.static yX11_isZone, Cond.code yX11_isZone cX11_isZone 1 (some .boolean), Cond.methodLink RL 44 yX10_apply, Cond.instanceMethod yX10_apply, Cond.selects RX10 yX10_apply yX10_apply, Cond.code yX10_apply cX10_apply 5 (some .int), Cond.fieldLink RX10 123 "ZoneRelay$Relay" "signal" "LZoneRelay$Signal;", Cond.fieldLink RX10 127 "ZoneRelay$Signal" "now" "LZoneRelay$Phasors;", Cond.fieldLink RX10 139 "ZoneRelay$Relay" "time" "I", Cond.methodLink RX10 132 yX3_put]
def wsL_law_r15 : List Cond := [Cond.instanceMethod yX3_put, Cond.selects RX3 yX3_put yX3_put, Cond.code yX3_put cX3_put 5 none, Cond.fieldLink RX3 7 "ZoneRelay$Phasors" "va" "I", Cond.fieldLink RX3 13 "ZoneRelay$Phasors" "vb" "I", Cond.fieldLink RX3 16 "ZoneRelay$Phasors" "ia" "I", Cond.fieldLink RX3 19 "ZoneRelay$Phasors" "ib" "I", Cond.methodLink RX10 136 yX7_endRamp, Cond.instanceMethod yX7_endRamp, Cond.selects RX7 yX7_endRamp yX7_endRamp, Cond.code yX7_endRamp cX7_endRamp 1 none, Cond.fieldLink RX7 30 "ZoneRelay$Signal" "left" "I", Cond.methodLink RL 48 yX11_apply, Cond.instanceMethod yX11_apply, Cond.selects RX11 yX11_apply yX11_apply, Cond.code yX11_apply cX11_apply 5 (some .int), Cond.methodLink RX11 124 yX11_arePhasors, Cond.static yX11_arePhasors, Cond.code yX11_arePhasors cX11_arePhasors 4 (some .boolean), Cond.methodLink RX11 128 yX11_putFour, Cond.instanceMethod yX11_putFour, Cond.selects RX11 yX11_putFour yX11_putFour, Cond.code yX11_putFour cX11_putFour 10 none, Cond.methodLink RL 49 yX10_ramp]
def wsL_law_r16 : List Cond := [Cond.instanceMethod yX10_ramp, Cond.selects RX10 yX10_ramp yX10_ramp, Cond.code yX10_ramp cX10_ramp 6 (some .int), Cond.fieldLink RX10 142 "ZoneRelay$Signal" "to" "LZoneRelay$Phasors;", Cond.methodLink RX10 145 yX7_beginRamp, Cond.instanceMethod yX7_beginRamp, Cond.selects RX7 yX7_beginRamp yX7_beginRamp, Cond.code yX7_beginRamp cX7_beginRamp 2 none, Cond.fieldLink RX7 26 "ZoneRelay$Signal" "length" "I", Cond.methodLink RX7 22 yX3_becomeLike, Cond.instanceMethod yX3_becomeLike, Cond.selects RX3 yX3_becomeLike yX3_becomeLike, Cond.code yX3_becomeLike cX3_becomeLike 2 none, Cond.methodLink RX3 22 yX3_put, Cond.methodLink RL 53 yX11_ramp, Cond.instanceMethod yX11_ramp, Cond.selects RX11 yX11_ramp yX11_ramp, Cond.code yX11_ramp cX11_ramp 6 (some .int), Cond.methodLink RL 54 yX10_network, Cond.instanceMethod yX10_network, Cond.selects RX10 yX10_network yX10_network, Cond.code yX10_network cX10_network 6 (some .int), Cond.fieldLink RX10 149 "ZoneRelay$Relay" "network" "LZoneRelay$Network;", Cond.fieldLink RX10 153 "ZoneRelay$Network" "first" "[I"]
def wsL_law_r17 : List Cond := [Cond.fieldLink RX10 158 "ZoneRelay$Network" "second" "[I", Cond.methodLink RL 57 yX11_network, Cond.instanceMethod yX11_network, Cond.selects RX11 yX11_network yX11_network, Cond.code yX11_network cX11_network 7 (some .int), Cond.constantLong RX11 132 (3), Cond.methodLink RL 58 yX10_fault, Cond.instanceMethod yX10_fault, Cond.selects RX10 yX10_fault yX10_fault, Cond.code yX10_fault cX10_fault 3 (some .int), Cond.methodLink RX10 161 yX10_isNoFault, Cond.static yX10_isNoFault, Cond.code yX10_isNoFault cX10_isNoFault 2 (some .boolean), Cond.methodLink RX10 165 yX2_findFaulted, Cond.instanceMethod yX2_findFaulted, Cond.selects RX2 yX2_findFaulted yX2_findFaulted, Cond.code yX2_findFaulted cX2_findFaulted 4 (some .boolean), Cond.methodLink RX2 24 yX2_solve, Cond.instanceMethod yX2_solve, Cond.selects RX2 yX2_solve yX2_solve, Cond.code yX2_solve cX2_solve 24 (some .boolean), Cond.constantLong RX2 28 (1000), Cond.constantLong RX2 30 (-1000), Cond.methodLink RX2 32 yX2_limited]
def wsL_law_r18 : List Cond := [Cond.static yX2_limited, Cond.code yX2_limited cX2_limited 2 (some .int), Cond.constantLong RX2 42 (-20000), Cond.constantLong RX2 44 (20000), Cond.methodLink RX2 46 Lib.MathLoose.min_long.x, Cond.static Lib.MathLoose.min_long.x, Cond.initialized "java/lang/Math", Cond.code Lib.MathLoose.min_long.x Lib.MathLoose.min_long.code 4 (some .long), Cond.methodLink RX2 52 Lib.MathLoose.max_long.x, Cond.static Lib.MathLoose.max_long.x, Cond.code Lib.MathLoose.max_long.x Lib.MathLoose.max_long.code 4 (some .long), Cond.methodLink RX2 36 yX3_put, Cond.methodLink RX10 169 yX7_jumpTo, Cond.instanceMethod yX7_jumpTo, Cond.selects RX7 yX7_jumpTo yX7_jumpTo, Cond.code yX7_jumpTo cX7_jumpTo 2 none, Cond.methodLink RX7 33 yX7_endRamp, Cond.methodLink RL 61 yX11_fault, Cond.instanceMethod yX11_fault, Cond.selects RX11 yX11_fault yX11_fault, Cond.code yX11_fault cX11_fault 3 (some .int), Cond.methodLink RX11 157 yX11_isFault, Cond.static yX11_isFault, Cond.code yX11_isFault cX11_isFault 2 (some .boolean)]
def wsL_law_r19 : List Cond := [Cond.methodLink RX11 160 yX11_findsFault, Cond.instanceMethod yX11_findsFault, Cond.selects RX11 yX11_findsFault yX11_findsFault, Cond.code yX11_findsFault cX11_findsFault 3 (some .boolean), Cond.methodLink RX11 153 yX11_finds, Cond.instanceMethod yX11_finds, Cond.selects RX11 yX11_finds yX11_finds, Cond.code yX11_finds cX11_finds 21 (some .boolean), Cond.constantLong RX11 134 (-1000), Cond.fieldLink RX11 140 "ZoneRelayModel" "foundVa" "J", Cond.fieldLink RX11 144 "ZoneRelayModel" "foundVb" "J", Cond.fieldLink RX11 147 "ZoneRelayModel" "foundIa" "J", Cond.fieldLink RX11 150 "ZoneRelayModel" "foundIb" "J", Cond.methodLink RX11 136 yX11_limited, Cond.static yX11_limited, Cond.code yX11_limited cX11_limited 2 (some .long), Cond.methodLink RX11 163 yX11_applyFound, Cond.instanceMethod yX11_applyFound, Cond.selects RX11 yX11_applyFound yX11_applyFound, Cond.code yX11_applyFound cX11_applyFound 1 none, Cond.methodLink RL 62 yX10_healthy, Cond.instanceMethod yX10_healthy, Cond.selects RX10 yX10_healthy yX10_healthy, Cond.code yX10_healthy cX10_healthy 1 (some .int)]
def wsL_law_r20 : List Cond := [Cond.methodLink RX10 173 yX2_findUnfaulted, Cond.instanceMethod yX2_findUnfaulted, Cond.selects RX2 yX2_findUnfaulted yX2_findUnfaulted, Cond.code yX2_findUnfaulted cX2_findUnfaulted 2 (some .boolean), Cond.methodLink RL 66 yX11_healthy, Cond.instanceMethod yX11_healthy, Cond.selects RX11 yX11_healthy yX11_healthy, Cond.code yX11_healthy cX11_healthy 1 (some .int), Cond.methodLink RX11 166 yX11_findsHealthy, Cond.instanceMethod yX11_findsHealthy, Cond.selects RX11 yX11_findsHealthy yX11_findsHealthy, Cond.code yX11_findsHealthy cX11_findsHealthy 1 (some .boolean), Cond.methodLink RL 67 yX10_phasor, Cond.instanceMethod yX10_phasor, Cond.selects RX10 yX10_phasor yX10_phasor, Cond.code yX10_phasor cX10_phasor 3 (some .long), Cond.fieldLink RX10 177 "ZoneRelay$Phasors" "va" "I", Cond.fieldLink RX10 180 "ZoneRelay$Phasors" "vb" "I", Cond.fieldLink RX10 183 "ZoneRelay$Phasors" "ia" "I", Cond.fieldLink RX10 186 "ZoneRelay$Phasors" "ib" "I", Cond.fieldLink RX10 189 "ZoneRelay$Signal" "left" "I", Cond.constantLong RX10 192 (-1000000000000000002), Cond.methodLink RL 71 yX11_phasor, Cond.instanceMethod yX11_phasor]
def wsL_law_r21 : List Cond := [Cond.selects RX11 yX11_phasor yX11_phasor, Cond.code yX11_phasor cX11_phasor 2 (some .long), Cond.constantLong RX11 170 (-1000000000000000002), Cond.methodLink RL 72 yX10_pass, Cond.instanceMethod yX10_pass, Cond.selects RX10 yX10_pass yX10_pass, Cond.code yX10_pass cX10_pass 3 (some .int), Cond.constant RX10 194 (100000000), Cond.methodLink RX10 195 yX6_takeSample, Cond.instanceMethod yX6_takeSample, Cond.selects RX6 yX6_takeSample yX6_takeSample, Cond.code yX6_takeSample cX6_takeSample 1 none, Cond.fieldLink RX6 142 "ZoneRelay$Signal" "now" "LZoneRelay$Phasors;", Cond.fieldLink RX6 127 "ZoneRelay$Relay" "inLoad" "Z", Cond.fieldLink RX6 130 "ZoneRelay$Relay" "time" "I", Cond.methodLink RX6 139 yX7_advance, Cond.instanceMethod yX7_advance, Cond.selects RX7 yX7_advance yX7_advance, Cond.code yX7_advance cX7_advance 1 none, Cond.fieldLink RX7 36 "ZoneRelay$Phasors" "va" "I", Cond.fieldLink RX7 43 "ZoneRelay$Phasors" "vb" "I", Cond.fieldLink RX7 46 "ZoneRelay$Phasors" "ia" "I", Cond.fieldLink RX7 49 "ZoneRelay$Phasors" "ib" "I", Cond.methodLink RX7 39 yX7_onTheWay]
def wsL_law_r22 : List Cond := [Cond.instanceMethod yX7_onTheWay, Cond.selects RX7 yX7_onTheWay yX7_onTheWay, Cond.code yX7_onTheWay cX7_onTheWay 3 (some .int), Cond.methodLink RX7 52 yX3_put, Cond.methodLink RX6 145 yX6_estimateFrom, Cond.instanceMethod yX6_estimateFrom, Cond.selects RX6 yX6_estimateFrom yX6_estimateFrom, Cond.code yX6_estimateFrom cX6_estimateFrom 2 none, Cond.fieldLink RX6 171 "ZoneRelay$Phasors" "va" "I", Cond.fieldLink RX6 174 "ZoneRelay$Phasors" "vb" "I", Cond.fieldLink RX6 181 "ZoneRelay$Phasors" "ia" "I", Cond.fieldLink RX6 184 "ZoneRelay$Phasors" "ib" "I", Cond.methodLink RX6 177 yX8_take, Cond.instanceMethod yX8_take, Cond.selects RX8 yX8_take yX8_take, Cond.code yX8_take cX8_take 10 none, Cond.fieldLink RX8 21 "ZoneRelay$Window" "cosineSum" "J", Cond.fieldLink RX8 25 "ZoneRelay$Window" "sineSum" "J", Cond.methodLink RX8 28 yJ9_floorMod_7cf53, Cond.static yJ9_floorMod_7cf53, Cond.initialized RJ9, Cond.code yJ9_floorMod_7cf53 cJ9_floorMod_7cf53 3 (some .int), Cond.methodLink RX6 187 yX8_estimateA, Cond.instanceMethod yX8_estimateA]
def wsL_law_r23 : List Cond := [Cond.selects RX8 yX8_estimateA yX8_estimateA, Cond.code yX8_estimateA cX8_estimateA 1 (some .int), Cond.constantLong RX8 37 (49152), Cond.methodLink RX6 191 yX8_estimateB, Cond.instanceMethod yX8_estimateB, Cond.selects RX8 yX8_estimateB yX8_estimateB, Cond.code yX8_estimateB cX8_estimateB 1 (some .int), Cond.methodLink RX6 194 yX3_put, Cond.methodLink RX6 148 yX6_remember, Cond.instanceMethod yX6_remember, Cond.selects RX6 yX6_remember yX6_remember, Cond.code yX6_remember cX6_remember 7 none, Cond.fieldLink RX6 111 "ZoneRelay$Relay" "memoryA" "I", Cond.fieldLink RX6 114 "ZoneRelay$Relay" "memoryB" "I", Cond.fieldLink RX6 117 "ZoneRelay$Relay" "memoryAge" "I", Cond.methodLink RX6 151 yX0_become, Cond.instanceMethod yX0_become, Cond.selects RX0 yX0_become yX0_become, Cond.code yX0_become cX0_become 11 none, Cond.fieldLink RX0 23 "ZoneRelay$Phasors" "va" "I", Cond.fieldLink RX0 29 "ZoneRelay$Phasors" "vb" "I", Cond.fieldLink RX0 32 "ZoneRelay$Phasors" "ia" "I", Cond.fieldLink RX0 35 "ZoneRelay$Phasors" "ib" "I", Cond.constantLong RX0 38 (1000)]
def wsL_law_r24 : List Cond := [Cond.fieldLink RX0 17 "ZoneRelay$Impedance" "x" "J", Cond.fieldLink RX0 20 "ZoneRelay$Impedance" "y" "J", Cond.fieldLink RX0 13 "ZoneRelay$Impedance" "exists" "Z", Cond.methodLink RX6 155 yX0_isInLoad, Cond.instanceMethod yX0_isInLoad, Cond.selects RX0 yX0_isInLoad yX0_isInLoad, Cond.code yX0_isInLoad cX0_isInLoad 3 (some .boolean), Cond.methodLink RX0 46 Lib.MathLoose.abs_long.x, Cond.static Lib.MathLoose.abs_long.x, Cond.code Lib.MathLoose.abs_long.x Lib.MathLoose.abs_long.code 2 (some .long), Cond.methodLink RX6 159 yX6_watchSwing, Cond.instanceMethod yX6_watchSwing, Cond.selects RX6 yX6_watchSwing yX6_watchSwing, Cond.code yX6_watchSwing cX6_watchSwing 1 none, Cond.fieldLink RX6 120 "ZoneRelay$Relay" "between" "I", Cond.fieldLink RX6 123 "ZoneRelay$Relay" "swing" "Z", Cond.methodLink RX6 198 yX0_isIn, Cond.instanceMethod yX0_isIn, Cond.selects RX0 yX0_isIn yX0_isIn, Cond.code yX0_isIn cX0_isIn 2 (some .boolean), Cond.methodLink RX0 40 yX4_holds, Cond.methodLink RX6 202 yX6_endSwing, Cond.instanceMethod yX6_endSwing, Cond.selects RX6 yX6_endSwing yX6_endSwing]
def wsL_law_r25 : List Cond := [Cond.code yX6_endSwing cX6_endSwing 1 none, Cond.methodLink RX6 205 yX1_note, Cond.instanceMethod yX1_note, Cond.selects RX1 yX1_note yX1_note, Cond.code yX1_note cX1_note 4 none, Cond.fieldLink RX1 24 "ZoneRelay$Log" "total" "I", Cond.methodLink RX1 28 yJ9_floorMod_7cf53, Cond.methodLink RX6 162 yX6_pickUpZones, Cond.instanceMethod yX6_pickUpZones, Cond.selects RX6 yX6_pickUpZones yX6_pickUpZones, Cond.code yX6_pickUpZones cX6_pickUpZones 5 none, Cond.fieldLink RX6 221 "ZoneRelay$Zone" "picked" "Z", Cond.methodLink RX6 209 yX6_torque, Cond.instanceMethod yX6_torque, Cond.selects RX6 yX6_torque yX6_torque, Cond.code yX6_torque cX6_torque 10 (some .long), Cond.fieldLink RX6 224 "ZoneRelay$Network" "first" "[I", Cond.fieldLink RX6 227 "ZoneRelay$Network" "second" "[I", Cond.methodLink RX6 213 yX9_fits, Cond.instanceMethod yX9_fits, Cond.selects RX9 yX9_fits yX9_fits, Cond.code yX9_fits cX9_fits 3 (some .boolean), Cond.methodLink RX6 217 yX6_isBlocked, Cond.instanceMethod yX6_isBlocked]
def wsL_law_r26 : List Cond := [Cond.selects RX6 yX6_isBlocked yX6_isBlocked, Cond.code yX6_isBlocked cX6_isBlocked 2 (some .boolean), Cond.static yX10_isInSet, Cond.code yX10_isInSet cX10_isInSet 2 (some .boolean), Cond.methodLink RX6 165 yX6_runTimers, Cond.instanceMethod yX6_runTimers, Cond.selects RX6 yX6_runTimers yX6_runTimers, Cond.code yX6_runTimers cX6_runTimers 2 none, Cond.fieldLink RX6 133 "ZoneRelay$Zone" "timer" "I", Cond.methodLink RX6 168 yX6_trip, Cond.instanceMethod yX6_trip, Cond.selects RX6 yX6_trip yX6_trip, Cond.code yX6_trip cX6_trip 2 none, Cond.fieldLink RX6 233 "ZoneRelay$Zone" "delay" "I", Cond.methodLink RL 75 yX11_pass, Cond.instanceMethod yX11_pass, Cond.selects RX11 yX11_pass yX11_pass, Cond.code yX11_pass cX11_pass 3 (some .int), Cond.constantLong RX11 238 (100000000), Cond.methodLink RX11 240 yX11_sample, Cond.instanceMethod yX11_sample, Cond.selects RX11 yX11_sample yX11_sample, Cond.code yX11_sample cX11_sample 2 none, Cond.fieldLink RX11 185 "ZoneRelayModel" "pointX" "J"]
def wsL_law_r27 : List Cond := [Cond.fieldLink RX11 191 "ZoneRelayModel" "pointBy" "J", Cond.fieldLink RX11 188 "ZoneRelayModel" "pointY" "J", Cond.methodLink RX11 212 yX11_goOnRamp, Cond.instanceMethod yX11_goOnRamp, Cond.selects RX11 yX11_goOnRamp yX11_goOnRamp, Cond.code yX11_goOnRamp cX11_goOnRamp 4 none, Cond.methodLink RX11 215 yX11_takeSample, Cond.instanceMethod yX11_takeSample, Cond.selects RX11 yX11_takeSample yX11_takeSample, Cond.code yX11_takeSample cX11_takeSample 4 none, Cond.constantLong RX11 175 (4096), Cond.methodLink RX11 172 yX11_sine, Cond.instanceMethod yX11_sine, Cond.selects RX11 yX11_sine yX11_sine, Cond.code yX11_sine cX11_sine 3 (some .long), Cond.constantLong RX11 66 (18), Cond.methodLink RX11 219 yX11_estimate, Cond.instanceMethod yX11_estimate, Cond.selects RX11 yX11_estimate yX11_estimate, Cond.code yX11_estimate cX11_estimate 8 none, Cond.constantLong RX11 177 (49152), Cond.methodLink RX11 222 yX11_remember, Cond.instanceMethod yX11_remember, Cond.selects RX11 yX11_remember yX11_remember]
def wsL_law_r28 : List Cond := [Cond.code yX11_remember cX11_remember 5 none, Cond.methodLink RX11 225 yX11_laysPoint, Cond.instanceMethod yX11_laysPoint, Cond.selects RX11 yX11_laysPoint yX11_laysPoint, Cond.code yX11_laysPoint cX11_laysPoint 9 (some .boolean), Cond.methodLink RX11 229 yX11_isInLoad, Cond.instanceMethod yX11_isInLoad, Cond.selects RX11 yX11_isInLoad yX11_isInLoad, Cond.code yX11_isInLoad cX11_isInLoad 1 (some .boolean), Cond.methodLink RX11 194 yX11_size, Cond.static yX11_size, Cond.code yX11_size cX11_size 2 (some .long), Cond.methodLink RX11 232 yX11_watchSwing, Cond.instanceMethod yX11_watchSwing, Cond.selects RX11 yX11_watchSwing yX11_watchSwing, Cond.code yX11_watchSwing cX11_watchSwing 1 none, Cond.methodLink RX11 197 yX11_isInside, Cond.instanceMethod yX11_isInside, Cond.selects RX11 yX11_isInside yX11_isInside, Cond.code yX11_isInside cX11_isInside 2 (some .boolean), Cond.methodLink RX11 200 yX11_endSwing, Cond.instanceMethod yX11_endSwing, Cond.selects RX11 yX11_endSwing yX11_endSwing, Cond.code yX11_endSwing cX11_endSwing 1 none]
def wsL_law_r29 : List Cond := [Cond.methodLink RX11 181 yX11_note, Cond.instanceMethod yX11_note, Cond.selects RX11 yX11_note yX11_note, Cond.code yX11_note cX11_note 3 none, Cond.constantLong RX11 179 (60), Cond.methodLink RX11 235 yX11_goOnZones, Cond.instanceMethod yX11_goOnZones, Cond.selects RX11 yX11_goOnZones yX11_goOnZones, Cond.code yX11_goOnZones cX11_goOnZones 5 none, Cond.methodLink RX11 209 yX11_picksUp, Cond.instanceMethod yX11_picksUp, Cond.selects RX11 yX11_picksUp yX11_picksUp, Cond.code yX11_picksUp cX11_picksUp 4 (some .boolean), Cond.methodLink RX11 203 yX11_has, Cond.instanceMethod yX11_has, Cond.selects RX11 yX11_has yX11_has, Cond.code yX11_has cX11_has 3 (some .boolean), Cond.methodLink RX11 206 yX11_fitsWay, Cond.instanceMethod yX11_fitsWay, Cond.selects RX11 yX11_fitsWay yX11_fitsWay, Cond.code yX11_fitsWay cX11_fitsWay 13 (some .boolean), Cond.methodLink RL 76 yX10_measure, Cond.instanceMethod yX10_measure, Cond.selects RX10 yX10_measure yX10_measure]
def wsL_law_r30 : List Cond := [Cond.code yX10_measure cX10_measure 3 (some .long), Cond.fieldLink RX10 198 "ZoneRelay$Relay" "impedance" "LZoneRelay$Impedance;", Cond.fieldLink RX10 201 "ZoneRelay$Relay" "estimate" "LZoneRelay$Phasors;", Cond.fieldLink RX10 204 "ZoneRelay$Relay" "memoryA" "I", Cond.fieldLink RX10 207 "ZoneRelay$Relay" "memoryB" "I", Cond.fieldLink RX10 210 "ZoneRelay$Relay" "memoryAge" "I", Cond.fieldLink RX10 213 "ZoneRelay$Impedance" "exists" "Z", Cond.fieldLink RX10 217 "ZoneRelay$Impedance" "x" "J", Cond.constantLong RX10 225 (-1000000000000000006), Cond.fieldLink RX10 227 "ZoneRelay$Impedance" "y" "J", Cond.fieldLink RX10 230 "ZoneRelay$Relay" "between" "I", Cond.fieldLink RX10 233 "ZoneRelay$Relay" "swing" "Z", Cond.fieldLink RX10 236 "ZoneRelay$Relay" "inLoad" "Z", Cond.methodLink RX10 221 yX0_truncated, Cond.instanceMethod yX0_truncated, Cond.selects RX0 yX0_truncated yX0_truncated, Cond.code yX0_truncated cX0_truncated 3 (some .long), Cond.methodLink RL 79 yX11_measure, Cond.instanceMethod yX11_measure, Cond.selects RX11 yX11_measure yX11_measure, Cond.code yX11_measure cX11_measure 2 (some .long), Cond.constantLong RX11 243 (12), Cond.constantLong RX11 245 (8), Cond.constantLong RX11 247 (9)]
def wsL_law_r31 : List Cond := [Cond.constantLong RX11 249 (-1000000000000000006), Cond.methodLink RL 80 yX10_state, Cond.instanceMethod yX10_state, Cond.selects RX10 yX10_state yX10_state, Cond.code yX10_state cX10_state 4 (some .int), Cond.fieldLink RX10 239 "ZoneRelay$Zone" "picked" "Z", Cond.fieldLink RX10 242 "ZoneRelay$Zone" "timer" "I", Cond.methodLink RX10 245 Lib.Math.max.name, Cond.static Lib.Math.max.name, Cond.code Lib.Math.max.name Lib.Math.max.code 2 (some .int), Cond.methodLink RL 83 yX11_state, Cond.instanceMethod yX11_state, Cond.selects RX11 yX11_state yX11_state, Cond.code yX11_state cX11_state 5 (some .int), Cond.methodLink RL 84 yX10_tripped, Cond.instanceMethod yX10_tripped, Cond.selects RX10 yX10_tripped yX10_tripped, Cond.code yX10_tripped cX10_tripped 1 (some .int), Cond.fieldLink RX10 251 "ZoneRelay$Relay" "trippedBy" "I", Cond.methodLink RL 87 yX11_tripped, Cond.instanceMethod yX11_tripped, Cond.selects RX11 yX11_tripped yX11_tripped, Cond.code yX11_tripped cX11_tripped 1 (some .int), Cond.methodLink RL 88 yX10_reset]
def wsL_law_r32 : List Cond := [Cond.instanceMethod yX10_reset, Cond.selects RX10 yX10_reset yX10_reset, Cond.code yX10_reset cX10_reset 2 (some .int), Cond.methodLink RX10 254 yX6_rearm, Cond.instanceMethod yX6_rearm, Cond.selects RX6 yX6_rearm yX6_rearm, Cond.code yX6_rearm cX6_rearm 2 none, Cond.methodLink RL 91 yX11_reset, Cond.instanceMethod yX11_reset, Cond.selects RX11 yX11_reset yX11_reset, Cond.code yX11_reset cX11_reset 3 (some .int), Cond.methodLink RL 92 yX10_event, Cond.instanceMethod yX10_event, Cond.selects RX10 yX10_event yX10_event, Cond.code yX10_event cX10_event 4 (some .int), Cond.fieldLink RX10 257 "ZoneRelay$Relay" "log" "LZoneRelay$Log;", Cond.fieldLink RX10 266 "ZoneRelay$Log" "times" "[I", Cond.fieldLink RX10 269 "ZoneRelay$Log" "kinds" "[I", Cond.methodLink RX10 261 yX1_keeps, Cond.instanceMethod yX1_keeps, Cond.selects RX1 yX1_keeps yX1_keeps, Cond.code yX1_keeps cX1_keeps 2 (some .boolean), Cond.methodLink RL 95 yX11_event, Cond.instanceMethod yX11_event]
def wsL_law_r33 : List Cond := [Cond.selects RX11 yX11_event yX11_event, Cond.code yX11_event cX11_event 4 (some .int), Cond.methodLink RL 96 yX10_covers, Cond.instanceMethod yX10_covers, Cond.selects RX10 yX10_covers yX10_covers, Cond.code yX10_covers cX10_covers 3 (some .int), Cond.methodLink RX10 272 yX10_zonesOfFault, Cond.instanceMethod yX10_zonesOfFault, Cond.selects RX10 yX10_zonesOfFault yX10_zonesOfFault, Cond.code yX10_zonesOfFault cX10_zonesOfFault 5 (some .int), Cond.methodLink RX10 316 yX0_become, Cond.methodLink RX10 320 yX0_isIn, Cond.methodLink RL 99 yX11_covers, Cond.instanceMethod yX11_covers, Cond.selects RX11 yX11_covers yX11_covers, Cond.code yX11_covers cX11_covers 3 (some .int), Cond.methodLink RX11 251 yX11_covered, Cond.instanceMethod yX11_covered, Cond.selects RX11 yX11_covered yX11_covered, Cond.code yX11_covered cX11_covered 4 (some .int), Cond.methodLink RL 100 yX10_reach, Cond.instanceMethod yX10_reach, Cond.selects RX10 yX10_reach yX10_reach, Cond.code yX10_reach cX10_reach 6 (some .int)]
def wsL_law_r34 : List Cond := [Cond.methodLink RX10 275 yX10_isInSet, Cond.methodLink RL 103 yX11_reach, Cond.instanceMethod yX11_reach, Cond.selects RX11 yX11_reach yX11_reach, Cond.code yX11_reach cX11_reach 4 (some .int), Cond.methodLink RL 104 yX10_test, Cond.instanceMethod yX10_test, Cond.selects RX10 yX10_test yX10_test, Cond.code yX10_test cX10_test 6 (some .int), Cond.methodLink RX10 278 yX6_becomeLike, Cond.instanceMethod yX6_becomeLike, Cond.selects RX6 yX6_becomeLike yX6_becomeLike, Cond.code yX6_becomeLike cX6_becomeLike 3 none, Cond.methodLink RX6 87 arraycopyName, Cond.native arraycopyName, Cond.static arraycopyName, Cond.initialized "java/lang/System", Cond.methodLink RX6 80 yX4_becomeLike, Cond.instanceMethod yX4_becomeLike, Cond.selects RX4 yX4_becomeLike yX4_becomeLike, Cond.code yX4_becomeLike cX4_becomeLike 2 none, Cond.methodLink RX4 22 arraycopyName, Cond.methodLink RX6 84 yX9_becomeLike, Cond.instanceMethod yX9_becomeLike]
def wsL_law_r35 : List Cond := [Cond.selects RX9 yX9_becomeLike yX9_becomeLike, Cond.code yX9_becomeLike cX9_becomeLike 2 none, Cond.fieldLink RX9 18 "ZoneRelay$Zone" "timer" "I", Cond.fieldLink RX9 21 "ZoneRelay$Zone" "picked" "Z", Cond.methodLink RX6 93 yX2_becomeLike, Cond.instanceMethod yX2_becomeLike, Cond.selects RX2 yX2_becomeLike yX2_becomeLike, Cond.code yX2_becomeLike cX2_becomeLike 2 none, Cond.methodLink RX2 18 arraycopyName, Cond.methodLink RX6 96 yX7_becomeLike, Cond.instanceMethod yX7_becomeLike, Cond.selects RX7 yX7_becomeLike yX7_becomeLike, Cond.code yX7_becomeLike cX7_becomeLike 2 none, Cond.methodLink RX6 99 yX8_becomeLike, Cond.instanceMethod yX8_becomeLike, Cond.selects RX8 yX8_becomeLike yX8_becomeLike, Cond.code yX8_becomeLike cX8_becomeLike 2 none, Cond.methodLink RX8 15 arraycopyName, Cond.methodLink RX6 102 yX3_becomeLike, Cond.methodLink RX6 105 yX0_becomeLike, Cond.instanceMethod yX0_becomeLike, Cond.selects RX0 yX0_becomeLike yX0_becomeLike, Cond.code yX0_becomeLike cX0_becomeLike 2 none, Cond.methodLink RX6 108 yX1_becomeLike]
def wsL_law_r36 : List Cond := [Cond.instanceMethod yX1_becomeLike, Cond.selects RX1 yX1_becomeLike yX1_becomeLike, Cond.code yX1_becomeLike cX1_becomeLike 2 none, Cond.methodLink RX1 18 arraycopyName, Cond.methodLink RX10 282 yX6_samplesUntilTrip, Cond.instanceMethod yX6_samplesUntilTrip, Cond.selects RX6 yX6_samplesUntilTrip yX6_samplesUntilTrip, Cond.code yX6_samplesUntilTrip cX6_samplesUntilTrip 3 (some .int), Cond.methodLink RX6 136 yX6_takeSample, Cond.methodLink RL 107 yX11_test, Cond.instanceMethod yX11_test, Cond.selects RX11 yX11_test yX11_test, Cond.code yX11_test cX11_test 7 (some .int), Cond.methodLink RX11 255 yX11_putAside, Cond.instanceMethod yX11_putAside, Cond.selects RX11 yX11_putAside yX11_putAside, Cond.code yX11_putAside cX11_putAside 2 none, Cond.methodLink RX11 258 yX11_reset, Cond.methodLink RX11 261 yX11_healthy, Cond.methodLink RX11 264 yX11_fault, Cond.methodLink RX11 268 yX11_samplesToTrip, Cond.instanceMethod yX11_samplesToTrip, Cond.selects RX11 yX11_samplesToTrip yX11_samplesToTrip, Cond.code yX11_samplesToTrip cX11_samplesToTrip 3 (some .int)]
def wsL_law_r37 : List Cond := [Cond.methodLink RX11 271 yX11_putBack, Cond.instanceMethod yX11_putBack, Cond.selects RX11 yX11_putBack yX11_putBack, Cond.code yX11_putBack cX11_putBack 2 none, Cond.methodLink RL 108 yX10_forecast, Cond.instanceMethod yX10_forecast, Cond.selects RX10 yX10_forecast yX10_forecast, Cond.code yX10_forecast cX10_forecast 2 (some .int), Cond.methodLink RL 111 yX11_forecast, Cond.instanceMethod yX11_forecast, Cond.selects RX11 yX11_forecast yX11_forecast, Cond.code yX11_forecast cX11_forecast 3 (some .int), Cond.methodLink RL 112 yX10_say, Cond.instanceMethod yX10_say, Cond.selects RX10 yX10_say yX10_say, Cond.code yX10_say cX10_say 2 (some .int), Cond.methodLink RX10 286 yJ4_length_8abf5, Cond.instanceMethod yJ4_length_8abf5, Cond.selects RJ4 yJ4_length_8abf5 yJ4_length_8abf5, Cond.code yJ4_length_8abf5 cJ4_length_8abf5 1 (some .int), Cond.methodLink RJ4 343 yJ5_length_8abf5, Cond.sameMethod "java/lang/AbstractStringBuilder" "java/lang/AbstractStringBuilder" "length" "()I", Cond.superclass RJ4 RJ5, Cond.instanceMethod yJ5_length_8abf5]
def wsL_law_r38 : List Cond := [Cond.code yJ5_length_8abf5 cJ5_length_8abf5 1 (some .int), Cond.fieldLink RJ5 79 "java/lang/AbstractStringBuilder" "count" "I", Cond.methodLink RX10 290 yJ4_append_cf468, Cond.instanceMethod yJ4_append_cf468, Cond.selects RJ4 yJ4_append_cf468 yJ4_append_cf468, Cond.code yJ4_append_cf468 cJ4_append_cf468 2 (some (.object "java/lang/StringBuilder")), Cond.methodLink RJ4 50 yJ5_append_3fe6f, Cond.sameMethod "java/lang/AbstractStringBuilder" "java/lang/AbstractStringBuilder" "append" "(C)Ljava/lang/AbstractStringBuilder;", Cond.instanceMethod yJ5_append_3fe6f, Cond.code yJ5_append_3fe6f cJ5_append_3fe6f 2 (some (.object "java/lang/AbstractStringBuilder")), Cond.methodLink RJ5 100 ⟨"java/lang/AbstractStringBuilder", "ensureCapacityInternal", "(I)V"⟩, Cond.sameMethod "java/lang/AbstractStringBuilder" "java/lang/AbstractStringBuilder" "ensureCapacityInternal" "(I)V", Cond.selects RJ4 ⟨"java/lang/AbstractStringBuilder", "ensureCapacityInternal", "(I)V"⟩ yJ5_ensureCapacityInternal_d00df, Cond.instanceMethod yJ5_ensureCapacityInternal_d00df, Cond.code yJ5_ensureCapacityInternal_d00df cJ5_ensureCapacityInternal_d00df 3 none, Cond.methodLink RJ5 104 ⟨"java/lang/AbstractStringBuilder", "newCapacity", "(I)I"⟩, Cond.sameMethod "java/lang/AbstractStringBuilder" "java/lang/AbstractStringBuilder" "newCapacity" "(I)I", Cond.selects RJ4 ⟨"java/lang/AbstractStringBuilder", "newCapacity", "(I)I"⟩ yJ5_newCapacity_0f7a4, Cond.instanceMethod yJ5_newCapacity_0f7a4, Cond.code yJ5_newCapacity_0f7a4 cJ5_newCapacity_0f7a4 6 (some .int), Cond.constant RJ5 39 (2147483647), Cond.methodLink RJ5 114 yJ8_newLength_cabcc, Cond.static yJ8_newLength_cabcc, Cond.initialized RJ8]
def wsL_law_r39 : List Cond := [Cond.code yJ8_newLength_cabcc cJ8_newLength_cabcc 4 (some .int), Cond.methodLink RJ8 194 Lib.Math.max.name, Cond.constant RJ8 200 (2147483639), Cond.methodLink RJ8 201 yJ8_hugeLength_7cf53, Cond.static yJ8_hugeLength_7cf53, Cond.code yJ8_hugeLength_7cf53 cJ8_hugeLength_7cf53 3 (some .int), Cond.methodLink RJ5 108 yJ7_copyOf_9075b, Cond.static yJ7_copyOf_9075b, Cond.initialized RJ7, Cond.code yJ7_copyOf_9075b cJ7_copyOf_9075b 3 (some (.array .byte)), Cond.methodLink RJ7 310 ⟨"[B", "clone", "()Ljava/lang/Object;"⟩, Cond.sameMethod "[B" "java/lang/Object" "clone" "()Ljava/lang/Object;", Cond.native ⟨"java/lang/Object", "clone", "()Ljava/lang/Object;"⟩, Cond.instanceMethod ⟨"java/lang/Object", "clone", "()Ljava/lang/Object;"⟩, Cond.selects "[B" ⟨"[B", "clone", "()Ljava/lang/Object;"⟩ ⟨"java/lang/Object", "clone", "()Ljava/lang/Object;"⟩, Cond.classLink RJ7 311 "[B", Cond.methodLink RJ7 304 Lib.Math.min.name, Cond.static Lib.Math.min.name, Cond.code Lib.Math.min.name Lib.Math.min.code 2 (some .int), Cond.methodLink RJ7 150 arraycopyName, Cond.methodLink RJ5 83 ⟨"java/lang/AbstractStringBuilder", "isLatin1", "()Z"⟩, Cond.sameMethod "java/lang/AbstractStringBuilder" "java/lang/AbstractStringBuilder" "isLatin1" "()Z", Cond.selects RJ4 ⟨"java/lang/AbstractStringBuilder", "isLatin1", "()Z"⟩ yJ5_isLatin1_aae02, Cond.instanceMethod yJ5_isLatin1_aae02]
def wsL_law_r40 : List Cond := [Cond.code yJ5_isLatin1_aae02 cJ5_isLatin1_aae02 1 (some .boolean), Cond.methodLink RJ5 191 yJ1_canEncode_fc78d, Cond.static yJ1_canEncode_fc78d, Cond.initialized RJ1, Cond.code yJ1_canEncode_fc78d cJ1_canEncode_fc78d 1 (some .boolean), Cond.methodLink RJ5 195 ⟨"java/lang/AbstractStringBuilder", "inflate", "()V"⟩, Cond.sameMethod "java/lang/AbstractStringBuilder" "java/lang/AbstractStringBuilder" "inflate" "()V", Cond.selects RJ4 ⟨"java/lang/AbstractStringBuilder", "inflate", "()V"⟩ yJ5_inflate_da8c8, Cond.instanceMethod yJ5_inflate_da8c8, Cond.code yJ5_inflate_da8c8 cJ5_inflate_da8c8 2 none, Cond.methodLink RJ5 125 yJ1_inflate_0e8fd, Cond.static yJ1_inflate_0e8fd, Cond.code yJ1_inflate_0e8fd cJ1_inflate_0e8fd 5 none, Cond.methodLink RJ1 240 yJ2_inflate_0e8fd, Cond.static yJ2_inflate_0e8fd, Cond.code yJ2_inflate_0e8fd cJ2_inflate_0e8fd 6 none, Cond.methodLink RJ2 173 yJ2_checkBoundsOffCount_d044e, Cond.static yJ2_checkBoundsOffCount_d044e, Cond.code yJ2_checkBoundsOffCount_d044e cJ2_checkBoundsOffCount_d044e 3 none, Cond.methodLink RJ2 48 yJ2_length_9d52b, Cond.static yJ2_length_9d52b, Cond.code yJ2_length_9d52b cJ2_length_9d52b 1 (some .int), Cond.methodLink RJ2 419 yJ0_checkBoundsOffCount_cabcc, Cond.static yJ0_checkBoundsOffCount_cabcc]
def wsL_law_r41 : List Cond := [Cond.initialized RJ0, Cond.code yJ0_checkBoundsOffCount_cabcc cJ0_checkBoundsOffCount_cabcc 3 (some .int), Cond.fieldLink RJ0 1053 "jdk/internal/util/Preconditions" "SIOOBE_FORMATTER" "Ljava/util/function/BiFunction;", Cond.methodLink RJ0 1065 yJ3_checkFromIndexSize_8c36e, Cond.static yJ3_checkFromIndexSize_8c36e, Cond.initialized RJ3, Cond.code yJ3_checkFromIndexSize_8c36e cJ3_checkFromIndexSize_8c36e 4 (some .int), Cond.methodLink RJ2 111 yJ2_putChar_b72d1, Cond.static yJ2_putChar_b72d1, Cond.code yJ2_putChar_b72d1 cJ2_putChar_b72d1 3 none, Cond.fieldLink RJ2 44 "java/lang/StringUTF16" "$assertionsDisabled" "Z", Cond.fieldLink RJ2 59 "java/lang/StringUTF16" "HI_BYTE_SHIFT" "I", Cond.fieldLink RJ2 63 "java/lang/StringUTF16" "LO_BYTE_SHIFT" "I", Cond.methodLink RJ5 197 yJ2_putCharSB_b72d1, Cond.static yJ2_putCharSB_b72d1, Cond.code yJ2_putCharSB_b72d1 cJ2_putCharSB_b72d1 3 none, Cond.methodLink RJ2 67 yJ2_checkIndex_2214a, Cond.static yJ2_checkIndex_2214a, Cond.code yJ2_checkIndex_2214a cJ2_checkIndex_2214a 2 none, Cond.methodLink RJ2 414 yJ0_checkIndex_df160, Cond.static yJ0_checkIndex_df160, Cond.code yJ0_checkIndex_df160 cJ0_checkIndex_df160 2 none, Cond.methodLink RJ0 1059 yJ3_checkIndex_8e157, Cond.static yJ3_checkIndex_8e157]
def wsL_law_r42 : List Cond := [Cond.code yJ3_checkIndex_8e157 cJ3_checkIndex_8e157 3 (some .int), Cond.methodLink RL 115 yX11_say, Cond.instanceMethod yX11_say, Cond.selects RX11 yX11_say yX11_say, Cond.code yX11_say cX11_say 2 (some .int), Cond.constantLong RX11 274 (33), Cond.constantLong RX11 276 (126), Cond.fieldLink RX11 278 "ZoneRelayModel" "padMany" "I", Cond.methodLink RL 116 yX10_wipe, Cond.instanceMethod yX10_wipe, Cond.selects RX10 yX10_wipe yX10_wipe, Cond.code yX10_wipe cX10_wipe 2 (some .int), Cond.methodLink RX10 293 yJ4_setLength_d00df, Cond.instanceMethod yJ4_setLength_d00df, Cond.selects RJ4 yJ4_setLength_d00df yJ4_setLength_d00df, Cond.code yJ4_setLength_d00df cJ4_setLength_d00df 2 none, Cond.methodLink RJ4 333 yJ5_setLength_d00df, Cond.sameMethod "java/lang/AbstractStringBuilder" "java/lang/AbstractStringBuilder" "setLength" "(I)V", Cond.instanceMethod yJ5_setLength_d00df, Cond.code yJ5_setLength_d00df cJ5_setLength_d00df 2 none, Cond.fieldLink RJ5 73 "java/lang/AbstractStringBuilder" "maybeLatin1" "Z", Cond.methodLink RJ5 133 yJ1_fillNull_b72d1, Cond.static yJ1_fillNull_b72d1, Cond.code yJ1_fillNull_b72d1 cJ1_fillNull_b72d1 3 none]
def wsL_law_r43 : List Cond := [Cond.methodLink RJ1 236 yJ7_fill_eb02e, Cond.static yJ7_fill_eb02e, Cond.code yJ7_fill_eb02e cJ7_fill_eb02e 5 none, Cond.methodLink RJ7 13 yJ7_rangeCheck_23922, Cond.static yJ7_rangeCheck_23922, Cond.code yJ7_rangeCheck_23922 cJ7_rangeCheck_23922 3 none, Cond.methodLink RJ5 137 yJ2_fillNull_b72d1, Cond.static yJ2_fillNull_b72d1, Cond.code yJ2_fillNull_b72d1 cJ2_fillNull_b72d1 3 none, Cond.methodLink RJ2 380 yJ7_fill_eb02e, Cond.methodLink RL 119 yX11_wipe, Cond.instanceMethod yX11_wipe, Cond.selects RX11 yX11_wipe yX11_wipe, Cond.code yX11_wipe cX11_wipe 2 (some .int), Cond.methodLink RL 120 yX10_flaw, Cond.instanceMethod yX10_flaw, Cond.selects RX10 yX10_flaw yX10_flaw, Cond.code yX10_flaw cX10_flaw 1 (some .int), Cond.methodLink RX10 296 yX5_findFlaw, Cond.instanceMethod yX5_findFlaw, Cond.selects RX5 yX5_findFlaw yX5_findFlaw, Cond.code yX5_findFlaw cX5_findFlaw 3 (some .int), Cond.fieldLink RX5 18 "ZoneRelay$Reader" "corners" "I", Cond.fieldLink RX5 22 "ZoneRelay$Reader" "isAtY" "Z"]
def wsL_law_r44 : List Cond := [Cond.fieldLink RX5 43 "ZoneRelay$Reader" "digits" "I", Cond.methodLink RX5 26 yX5_startNumber, Cond.instanceMethod yX5_startNumber, Cond.selects RX5 yX5_startNumber yX5_startNumber, Cond.code yX5_startNumber cX5_startNumber 1 none, Cond.fieldLink RX5 63 "ZoneRelay$Reader" "isNegative" "Z", Cond.fieldLink RX5 69 "ZoneRelay$Reader" "value" "I", Cond.methodLink RX5 29 yJ4_length_8abf5, Cond.methodLink RX5 35 yJ4_charAt_5068e, Cond.instanceMethod yJ4_charAt_5068e, Cond.selects RJ4 yJ4_charAt_5068e yJ4_charAt_5068e, Cond.code yJ4_charAt_5068e cJ4_charAt_5068e 2 (some .char), Cond.methodLink RJ4 329 yJ5_charAt_5068e, Cond.sameMethod "java/lang/AbstractStringBuilder" "java/lang/AbstractStringBuilder" "charAt" "(I)C", Cond.instanceMethod yJ5_charAt_5068e, Cond.code yJ5_charAt_5068e cJ5_charAt_5068e 5 (some .char), Cond.methodLink RJ5 138 Lib.Math.min.name, Cond.methodLink RJ5 144 yJ0_checkIndex_df160, Cond.methodLink RJ5 148 yJ2_getChar_3b067, Cond.static yJ2_getChar_3b067, Cond.code yJ2_getChar_3b067 cJ2_getChar_3b067 2 (some .char), Cond.methodLink RX5 39 yX5_takes, Cond.instanceMethod yX5_takes, Cond.selects RX5 yX5_takes yX5_takes]
def wsL_law_r45 : List Cond := [Cond.code yX5_takes cX5_takes 2 (some .boolean), Cond.methodLink RX5 49 yX5_takesMinus, Cond.instanceMethod yX5_takesMinus, Cond.selects RX5 yX5_takesMinus yX5_takesMinus, Cond.code yX5_takesMinus cX5_takesMinus 1 (some .boolean), Cond.methodLink RX5 53 yX5_takesComma, Cond.instanceMethod yX5_takesComma, Cond.selects RX5 yX5_takesComma yX5_takesComma, Cond.code yX5_takesComma cX5_takesComma 1 (some .boolean), Cond.methodLink RX5 66 yX5_number, Cond.instanceMethod yX5_number, Cond.selects RX5 yX5_number yX5_number, Cond.code yX5_number cX5_number 1 (some .int), Cond.methodLink RX5 56 yX5_takesSlash, Cond.instanceMethod yX5_takesSlash, Cond.selects RX5 yX5_takesSlash yX5_takesSlash, Cond.code yX5_takesSlash cX5_takesSlash 1 (some .boolean), Cond.methodLink RX5 46 yX5_endCorner, Cond.instanceMethod yX5_endCorner, Cond.selects RX5 yX5_endCorner yX5_endCorner, Cond.code yX5_endCorner cX5_endCorner 1 none, Cond.methodLink RX5 59 yX5_takesDigit, Cond.instanceMethod yX5_takesDigit, Cond.selects RX5 yX5_takesDigit yX5_takesDigit]
def wsL_law_r46 : List Cond := [Cond.code yX5_takesDigit cX5_takesDigit 3 (some .boolean), Cond.methodLink RL 123 yX11_flaw, Cond.instanceMethod yX11_flaw, Cond.selects RX11 yX11_flaw yX11_flaw, Cond.code yX11_flaw cX11_flaw 1 (some .int), Cond.fieldLink RX11 282 "ZoneRelayModel" "reading" "I", Cond.fieldLink RX11 285 "ZoneRelayModel" "isWrong" "Z", Cond.fieldLink RX11 297 "ZoneRelayModel" "readMany" "I", Cond.methodLink RX11 303 yX11_readCorner, Cond.instanceMethod yX11_readCorner, Cond.selects RX11 yX11_readCorner yX11_readCorner, Cond.code yX11_readCorner cX11_readCorner 1 none, Cond.methodLink RX11 300 yX11_readNumber, Cond.instanceMethod yX11_readNumber, Cond.selects RX11 yX11_readNumber yX11_readNumber, Cond.code yX11_readNumber cX11_readNumber 3 (some .int), Cond.constantLong RX11 295 (57), Cond.methodLink RX11 292 yX11_takesSign, Cond.instanceMethod yX11_takesSign, Cond.selects RX11 yX11_takesSign yX11_takesSign, Cond.code yX11_takesSign cX11_takesSign 2 (some .boolean), Cond.methodLink RX11 289 yX11_nextSign, Cond.instanceMethod yX11_nextSign, Cond.selects RX11 yX11_nextSign yX11_nextSign]
def wsL_law_r47 : List Cond := [Cond.code yX11_nextSign cX11_nextSign 1 (some .int), Cond.methodLink RL 124 yX10_load, Cond.instanceMethod yX10_load, Cond.selects RX10 yX10_load yX10_load, Cond.code yX10_load cX10_load 4 (some .int), Cond.fieldLink RX10 300 "ZoneRelay$Reader" "corners" "I", Cond.fieldLink RX10 303 "ZoneRelay$Reader" "xs" "[I", Cond.fieldLink RX10 304 "ZoneRelay$Reader" "ys" "[I", Cond.methodLink RL 127 yX11_load, Cond.instanceMethod yX11_load, Cond.selects RX11 yX11_load yX11_load, Cond.code yX11_load cX11_load 3 (some .int), Cond.methodLink RX11 306 yX11_flaw, Cond.methodLink RL 128 yX10_spell, Cond.instanceMethod yX10_spell, Cond.selects RX10 yX10_spell yX10_spell, Cond.code yX10_spell cX10_spell 3 (some .int), Cond.methodLink RX10 305 yX4_writeTo, Cond.instanceMethod yX4_writeTo, Cond.selects RX4 yX4_writeTo yX4_writeTo, Cond.code yX4_writeTo cX4_writeTo 3 none, Cond.methodLink RX4 39 yJ4_setLength_d00df, Cond.methodLink RX4 45 yJ4_append_cf468, Cond.methodLink RX4 49 yJ4_append_bf812]
def wsL_law_r48 : List Cond := [Cond.instanceMethod yJ4_append_bf812, Cond.selects RJ4 yJ4_append_bf812 yJ4_append_bf812, Cond.code yJ4_append_bf812 cJ4_append_bf812 2 (some (.object "java/lang/StringBuilder")), Cond.methodLink RJ4 53 yJ5_append_c97b9, Cond.sameMethod "java/lang/AbstractStringBuilder" "java/lang/AbstractStringBuilder" "append" "(I)Ljava/lang/AbstractStringBuilder;", Cond.instanceMethod yJ5_append_c97b9, Cond.code yJ5_append_c97b9 cJ5_append_c97b9 4 (some (.object "java/lang/AbstractStringBuilder")), Cond.methodLink RJ5 245 yJ6_stringSize_0f7a4, Cond.static yJ6_stringSize_0f7a4, Cond.code yJ6_stringSize_0f7a4 cJ6_stringSize_0f7a4 4 (some .int), Cond.methodLink RJ5 248 yJ6_getChars_ba4f3, Cond.static yJ6_getChars_ba4f3, Cond.code yJ6_getChars_ba4f3 cJ6_getChars_ba4f3 7 (some .int), Cond.fieldLink RJ6 83 "java/lang/Integer" "DigitOnes" "[B", Cond.fieldLink RJ6 87 "java/lang/Integer" "DigitTens" "[B", Cond.methodLink RJ5 251 yJ2_getChars_46870, Cond.static yJ2_getChars_46870, Cond.code yJ2_getChars_46870 cJ2_getChars_46870 5 (some .int), Cond.methodLink RJ2 96 yJ2_checkBoundsBeginEnd_d044e, Cond.static yJ2_checkBoundsBeginEnd_d044e, Cond.code yJ2_checkBoundsBeginEnd_d044e cJ2_checkBoundsBeginEnd_d044e 3 none, Cond.methodLink RJ2 241 yJ0_checkBoundsBeginEnd_23922, Cond.static yJ0_checkBoundsBeginEnd_23922, Cond.code yJ0_checkBoundsBeginEnd_23922 cJ0_checkBoundsBeginEnd_23922 3 none]
def wsL_law_r49 : List Cond := [Cond.methodLink RJ0 1062 yJ3_checkFromToIndex_8c36e, Cond.static yJ3_checkFromToIndex_8c36e, Cond.code yJ3_checkFromToIndex_8c36e cJ3_checkFromToIndex_8c36e 4 (some .int), Cond.methodLink RJ2 393 yJ2_getChars_ba4f3, Cond.static yJ2_getChars_ba4f3, Cond.code yJ2_getChars_ba4f3 cJ2_getChars_ba4f3 7 (some .int), Cond.fieldLink RJ2 403 "java/lang/Integer" "DigitOnes" "[B", Cond.fieldLink RJ2 407 "java/lang/Integer" "DigitTens" "[B", Cond.methodLink RX10 309 yJ4_charAt_5068e, Cond.methodLink RL 131 yX11_spell, Cond.instanceMethod yX11_spell, Cond.selects RX11 yX11_spell yX11_spell, Cond.code yX11_spell cX11_spell 4 (some .int), Cond.fieldLink RX11 309 "ZoneRelayModel" "writtenMany" "I", Cond.methodLink RX11 312 yX11_write, Cond.instanceMethod yX11_write, Cond.selects RX11 yX11_write yX11_write, Cond.code yX11_write cX11_write 2 none, Cond.methodLink RX11 317 yX11_writeNumber, Cond.instanceMethod yX11_writeNumber, Cond.selects RX11 yX11_writeNumber yX11_writeNumber, Cond.code yX11_writeNumber cX11_writeNumber 7 none, Cond.constantLong RX11 315 (10), Cond.methodLink RL 132 yX10_count]
def wsL_law_r50 : List Cond := [Cond.instanceMethod yX10_count, Cond.selects RX10 yX10_count yX10_count, Cond.code yX10_count cX10_count 3 (some .int), Cond.fieldLink RX10 313 "ZoneRelay$Log" "total" "I", Cond.methodLink RL 135 yX11_count, Cond.instanceMethod yX11_count, Cond.selects RX11 yX11_count yX11_count, Cond.code yX11_count cX11_count 2 (some .int), Cond.constantLong RX11 321 (17), Cond.methodLink RL 136 yX10_save, Cond.instanceMethod yX10_save, Cond.selects RX10 yX10_save yX10_save, Cond.code yX10_save cX10_save 2 (some .int), Cond.methodLink RL 139 yX11_save, Cond.instanceMethod yX11_save, Cond.selects RX11 yX11_save yX11_save, Cond.code yX11_save cX11_save 3 (some .int), Cond.methodLink RL 140 yX10_restore, Cond.instanceMethod yX10_restore, Cond.selects RX10 yX10_restore yX10_restore, Cond.code yX10_restore cX10_restore 2 (some .int), Cond.methodLink RL 143 yX11_restore, Cond.instanceMethod yX11_restore, Cond.selects RX11 yX11_restore yX11_restore]
def wsL_law_r51 : List Cond := [Cond.code yX11_restore cX11_restore 3 (some .int)]
def wsL_law : List Cond := (wsL_law_r1 ++ (wsL_law_r2 ++ (wsL_law_r3 ++ (wsL_law_r4 ++ (wsL_law_r5 ++ (wsL_law_r6 ++ (wsL_law_r7 ++ (wsL_law_r8 ++ (wsL_law_r9 ++ (wsL_law_r10 ++ (wsL_law_r11 ++ (wsL_law_r12 ++ (wsL_law_r13 ++ (wsL_law_r14 ++ (wsL_law_r15 ++ (wsL_law_r16 ++ (wsL_law_r17 ++ (wsL_law_r18 ++ (wsL_law_r19 ++ (wsL_law_r20 ++ (wsL_law_r21 ++ (wsL_law_r22 ++ (wsL_law_r23 ++ (wsL_law_r24 ++ (wsL_law_r25 ++ (wsL_law_r26 ++ (wsL_law_r27 ++ (wsL_law_r28 ++ (wsL_law_r29 ++ (wsL_law_r30 ++ (wsL_law_r31 ++ (wsL_law_r32 ++ (wsL_law_r33 ++ (wsL_law_r34 ++ (wsL_law_r35 ++ (wsL_law_r36 ++ (wsL_law_r37 ++ (wsL_law_r38 ++ (wsL_law_r39 ++ (wsL_law_r40 ++ (wsL_law_r41 ++ (wsL_law_r42 ++ (wsL_law_r43 ++ (wsL_law_r44 ++ (wsL_law_r45 ++ (wsL_law_r46 ++ (wsL_law_r47 ++ (wsL_law_r48 ++ (wsL_law_r49 ++ (wsL_law_r50 ++ wsL_law_r51)))))))))))))))))))))))))))))))))))))))))))))))))) ++ wsX100 ++ wsX110 ++ wsX60 ++ wsX30 ++ wsX00 ++ wsJ40 ++ wsX50 ++ wsX90 ++ wsX20 ++ wsX70 ++ wsX80 ++ wsX10 ++ wsX40 ++ ([] : List Cond)
set_option maxRecDepth 20000 in
theorem wsL_law_in : ∀ w ∈ wsL_law, w ∈ lw_tbl := fun w h => (goodIn_p wsL_law [93, 96, 101, 110, 137, 154, 160, 215, 233, 255, 273, 372, 375, 381, 384, 404, 1060, 1077, 462, 465, 468, 472, 476, 480, 484, 488, 491, 1144, 1147, 1150, 1155, 1159, 1162, 495, 499, 1166, 503, 1170, 508, 1175, 1179, 1183, 1187, 1191, 512, 517, 520, 1195, 1201, 524, 1205, 1208, 532, 1213, 1216, 536, 540, 544, 1222, 1225, 1229, 548, 552, 556, 1233, 561, 1237, 565, 568, 572, 576, 581, 586, 589, 594, 1242, 1245, 1249, 1253, 1257, 1261, 599, 603, 1265, 1269, 607, 1273, 612, 617, 621, 625, 630, 634, 637, 643, 648, 653, 657, 662, 665, 669, 673, 678, 682, 687, 691, 695, 699, 702, 706, 710, 1278, 1283, 1287, 1291, 1295, 1301, 1306, 1310, 1314, 1317, 1321, 1325, 1329, 1333, 1338, 1342, 1346, 1350, 714, 718, 1354, 723, 726, 1362, 730, 1366, 734, 738, 1370, 742, 746, 1374, 750, 754, 1378, 1382, 760, 1386, 765, 769, 773, 780, 785, 790, 794, 800, 804, 809, 1390, 1394, 1401, 1405, 814, 1409, 818, 822, 825, 829, 832, 836, 840, 843, 848, 852, 862, 868, 871, 875, 878, 881, 884, 887, 890, 895, 898, 907, 910, 913, 916, 1413, 920, 924, 927, 930, 933, 936, 939, 1419, 944, 948, 952, 957, 960, 965, 969, 973, 977, 981, 985, 989, 993, 1423, 1427, 1431, 1435, 1439, 998, 1444, 1002, 1006, 1012, 1015, 1018, 1021, 1028, 1031, 1034, 1037, 1040, 1449, 1453, 1457, 1047, 1462, 1051, 1467, 1055, 1471] (by decide +kernel) (by decide +kernel) w h).1
theorem inlX0 : ∀ w ∈ wsX00, w ∈ wsL_law := fun _ h => List.mem_append_left _ (List.mem_append_left _ (List.mem_append_left _ (List.mem_append_left _ (List.mem_append_left _ (List.mem_append_left _ (List.mem_append_left _ (List.mem_append_left _ (List.mem_append_left _ (List.mem_append_right _ h)))))))))
theorem inX0 : ∀ w ∈ wsX00, w ∈ lw_tbl := fun w h => wsL_law_in w (inlX0 w h)
theorem inlX1 : ∀ w ∈ wsX10, w ∈ wsL_law := fun _ h => List.mem_append_left _ (List.mem_append_left _ (List.mem_append_right _ h))
theorem inX1 : ∀ w ∈ wsX10, w ∈ lw_tbl := fun w h => wsL_law_in w (inlX1 w h)
theorem inlX2 : ∀ w ∈ wsX20, w ∈ wsL_law := fun _ h => List.mem_append_left _ (List.mem_append_left _ (List.mem_append_left _ (List.mem_append_left _ (List.mem_append_left _ (List.mem_append_right _ h)))))
theorem inX2 : ∀ w ∈ wsX20, w ∈ lw_tbl := fun w h => wsL_law_in w (inlX2 w h)
theorem inlX3 : ∀ w ∈ wsX30, w ∈ wsL_law := fun _ h => List.mem_append_left _ (List.mem_append_left _ (List.mem_append_left _ (List.mem_append_left _ (List.mem_append_left _ (List.mem_append_left _ (List.mem_append_left _ (List.mem_append_left _ (List.mem_append_left _ (List.mem_append_left _ (List.mem_append_right _ h))))))))))
theorem inX3 : ∀ w ∈ wsX30, w ∈ lw_tbl := fun w h => wsL_law_in w (inlX3 w h)
theorem inlX4 : ∀ w ∈ wsX40, w ∈ wsL_law := fun _ h => List.mem_append_left _ (List.mem_append_right _ h)
theorem inX4 : ∀ w ∈ wsX40, w ∈ lw_tbl := fun w h => wsL_law_in w (inlX4 w h)
theorem inlX5 : ∀ w ∈ wsX50, w ∈ wsL_law := fun _ h => List.mem_append_left _ (List.mem_append_left _ (List.mem_append_left _ (List.mem_append_left _ (List.mem_append_left _ (List.mem_append_left _ (List.mem_append_left _ (List.mem_append_right _ h)))))))
theorem inX5 : ∀ w ∈ wsX50, w ∈ lw_tbl := fun w h => wsL_law_in w (inlX5 w h)
theorem inlX6 : ∀ w ∈ wsX60, w ∈ wsL_law := fun _ h => List.mem_append_left _ (List.mem_append_left _ (List.mem_append_left _ (List.mem_append_left _ (List.mem_append_left _ (List.mem_append_left _ (List.mem_append_left _ (List.mem_append_left _ (List.mem_append_left _ (List.mem_append_left _ (List.mem_append_left _ (List.mem_append_right _ h)))))))))))
theorem inX6 : ∀ w ∈ wsX60, w ∈ lw_tbl := fun w h => wsL_law_in w (inlX6 w h)
theorem inlX7 : ∀ w ∈ wsX70, w ∈ wsL_law := fun _ h => List.mem_append_left _ (List.mem_append_left _ (List.mem_append_left _ (List.mem_append_left _ (List.mem_append_right _ h))))
theorem inX7 : ∀ w ∈ wsX70, w ∈ lw_tbl := fun w h => wsL_law_in w (inlX7 w h)
theorem inlX8 : ∀ w ∈ wsX80, w ∈ wsL_law := fun _ h => List.mem_append_left _ (List.mem_append_left _ (List.mem_append_left _ (List.mem_append_right _ h)))
theorem inX8 : ∀ w ∈ wsX80, w ∈ lw_tbl := fun w h => wsL_law_in w (inlX8 w h)
theorem inlX9 : ∀ w ∈ wsX90, w ∈ wsL_law := fun _ h => List.mem_append_left _ (List.mem_append_left _ (List.mem_append_left _ (List.mem_append_left _ (List.mem_append_left _ (List.mem_append_left _ (List.mem_append_right _ h))))))
theorem inX9 : ∀ w ∈ wsX90, w ∈ lw_tbl := fun w h => wsL_law_in w (inlX9 w h)
theorem inlX10 : ∀ w ∈ wsX100, w ∈ wsL_law := fun _ h => List.mem_append_left _ (List.mem_append_left _ (List.mem_append_left _ (List.mem_append_left _ (List.mem_append_left _ (List.mem_append_left _ (List.mem_append_left _ (List.mem_append_left _ (List.mem_append_left _ (List.mem_append_left _ (List.mem_append_left _ (List.mem_append_left _ (List.mem_append_left _ (List.mem_append_right _ h)))))))))))))
theorem inX10 : ∀ w ∈ wsX100, w ∈ lw_tbl := fun w h => wsL_law_in w (inlX10 w h)
theorem inlX11 : ∀ w ∈ wsX110, w ∈ wsL_law := fun _ h => List.mem_append_left _ (List.mem_append_left _ (List.mem_append_left _ (List.mem_append_left _ (List.mem_append_left _ (List.mem_append_left _ (List.mem_append_left _ (List.mem_append_left _ (List.mem_append_left _ (List.mem_append_left _ (List.mem_append_left _ (List.mem_append_left _ (List.mem_append_right _ h))))))))))))
theorem inX11 : ∀ w ∈ wsX110, w ∈ lw_tbl := fun w h => wsL_law_in w (inlX11 w h)
theorem inJ5 : ∀ w ∈ wsJ50, w ∈ lw_tbl := by decide +kernel
theorem inJx8e188 : ∀ w ∈ wsJx8e1880, w ∈ lw_tbl := by decide +kernel
theorem inJ6 : ∀ w ∈ wsJ60, w ∈ lw_tbl := by decide +kernel
theorem inJ9 : ∀ w ∈ wsJ90, w ∈ lw_tbl := by decide +kernel
theorem inJ0 : ∀ w ∈ wsJ00, w ∈ lw_tbl := by decide +kernel
theorem inlJ4 : ∀ w ∈ wsJ40, w ∈ wsL_law := fun _ h => List.mem_append_left _ (List.mem_append_left _ (List.mem_append_left _ (List.mem_append_left _ (List.mem_append_left _ (List.mem_append_left _ (List.mem_append_left _ (List.mem_append_left _ (List.mem_append_right _ h))))))))
theorem inJ4 : ∀ w ∈ wsJ40, w ∈ lw_tbl := fun w h => wsL_law_in w (inlJ4 w h)
theorem inJ1 : ∀ w ∈ wsJ10, w ∈ lw_tbl := by decide +kernel
theorem inJ2 : ∀ w ∈ wsJ20, w ∈ lw_tbl := by decide +kernel
theorem inJ10 : ∀ w ∈ wsJ100, w ∈ lw_tbl := by decide +kernel
theorem inJ7 : ∀ w ∈ wsJ70, w ∈ lw_tbl := by decide +kernel
theorem inJ8 : ∀ w ∈ wsJ80, w ∈ lw_tbl := by decide +kernel
theorem inJ3 : ∀ w ∈ wsJ30, w ∈ lw_tbl := by decide +kernel
theorem dX0_init_0 : decode cX0_init 0 = .ok (.aload_n 0, 1) := by decide +kernel
theorem dX0_init_1 : decode cX0_init 1 = .ok (.invokespecial 1, 3) := by decide +kernel
theorem dX0_init_4 : decode cX0_init 4 = .ok (.aload_n 0, 1) := by decide +kernel
theorem dX0_init_5 : decode cX0_init 5 = .ok (.lconst 1, 1) := by decide +kernel
theorem dX0_init_6 : decode cX0_init 6 = .ok (.putfield 7, 3) := by decide +kernel
theorem dX0_init_9 : decode cX0_init 9 = .ok (.return_, 1) := by decide +kernel
theorem dX0_becomeLike_0 : decode cX0_becomeLike 0 = .ok (.aload_n 0, 1) := by decide +kernel
theorem dX0_becomeLike_1 : decode cX0_becomeLike 1 = .ok (.aload_n 1, 1) := by decide +kernel
theorem dX0_becomeLike_2 : decode cX0_becomeLike 2 = .ok (.getfield 13, 3) := by decide +kernel
theorem dX0_becomeLike_5 : decode cX0_becomeLike 5 = .ok (.putfield 13, 3) := by decide +kernel
theorem dX0_becomeLike_8 : decode cX0_becomeLike 8 = .ok (.aload_n 0, 1) := by decide +kernel
theorem dX0_becomeLike_9 : decode cX0_becomeLike 9 = .ok (.aload_n 1, 1) := by decide +kernel
theorem dX0_becomeLike_10 : decode cX0_becomeLike 10 = .ok (.getfield 17, 3) := by decide +kernel
theorem dX0_becomeLike_13 : decode cX0_becomeLike 13 = .ok (.putfield 17, 3) := by decide +kernel
theorem dX0_becomeLike_16 : decode cX0_becomeLike 16 = .ok (.aload_n 0, 1) := by decide +kernel
theorem dX0_becomeLike_17 : decode cX0_becomeLike 17 = .ok (.aload_n 1, 1) := by decide +kernel
theorem dX0_becomeLike_18 : decode cX0_becomeLike 18 = .ok (.getfield 20, 3) := by decide +kernel
theorem dX0_becomeLike_21 : decode cX0_becomeLike 21 = .ok (.putfield 20, 3) := by decide +kernel
theorem dX0_becomeLike_24 : decode cX0_becomeLike 24 = .ok (.aload_n 0, 1) := by decide +kernel
theorem dX0_becomeLike_25 : decode cX0_becomeLike 25 = .ok (.aload_n 1, 1) := by decide +kernel
theorem dX0_becomeLike_26 : decode cX0_becomeLike 26 = .ok (.getfield 7, 3) := by decide +kernel
theorem dX0_becomeLike_29 : decode cX0_becomeLike 29 = .ok (.putfield 7, 3) := by decide +kernel
theorem dX0_becomeLike_32 : decode cX0_becomeLike 32 = .ok (.return_, 1) := by decide +kernel
theorem dX0_become_0 : decode cX0_become 0 = .ok (.aload_n 1, 1) := by decide +kernel
theorem dX0_become_1 : decode cX0_become 1 = .ok (.getfield 23, 3) := by decide +kernel
theorem dX0_become_4 : decode cX0_become 4 = .ok (.i2l, 1) := by decide +kernel
theorem dX0_become_5 : decode cX0_become 5 = .ok (.lstore_n 3, 1) := by decide +kernel
theorem dX0_become_6 : decode cX0_become 6 = .ok (.aload_n 1, 1) := by decide +kernel
theorem dX0_become_7 : decode cX0_become 7 = .ok (.getfield 29, 3) := by decide +kernel
theorem dX0_become_10 : decode cX0_become 10 = .ok (.i2l, 1) := by decide +kernel
theorem dX0_become_11 : decode cX0_become 11 = .ok (.lstore 5, 2) := by decide +kernel
theorem dX0_become_13 : decode cX0_become 13 = .ok (.aload_n 1, 1) := by decide +kernel
theorem dX0_become_14 : decode cX0_become 14 = .ok (.getfield 32, 3) := by decide +kernel
theorem dX0_become_17 : decode cX0_become 17 = .ok (.i2l, 1) := by decide +kernel
theorem dX0_become_18 : decode cX0_become 18 = .ok (.lstore 7, 2) := by decide +kernel
theorem dX0_become_20 : decode cX0_become 20 = .ok (.aload_n 1, 1) := by decide +kernel
theorem dX0_become_21 : decode cX0_become 21 = .ok (.getfield 35, 3) := by decide +kernel
theorem dX0_become_24 : decode cX0_become 24 = .ok (.i2l, 1) := by decide +kernel
theorem dX0_become_25 : decode cX0_become 25 = .ok (.lstore 9, 2) := by decide +kernel
theorem dX0_become_27 : decode cX0_become 27 = .ok (.aload_n 0, 1) := by decide +kernel
theorem dX0_become_28 : decode cX0_become 28 = .ok (.lload 7, 2) := by decide +kernel
theorem dX0_become_30 : decode cX0_become 30 = .ok (.lload 7, 2) := by decide +kernel
theorem dX0_become_32 : decode cX0_become 32 = .ok (.lmul, 1) := by decide +kernel
theorem dX0_become_33 : decode cX0_become 33 = .ok (.lload 9, 2) := by decide +kernel
theorem dX0_become_35 : decode cX0_become 35 = .ok (.lload 9, 2) := by decide +kernel
theorem dX0_become_37 : decode cX0_become 37 = .ok (.lmul, 1) := by decide +kernel
theorem dX0_become_38 : decode cX0_become 38 = .ok (.ladd, 1) := by decide +kernel
theorem dX0_become_39 : decode cX0_become 39 = .ok (.putfield 7, 3) := by decide +kernel
theorem dX0_become_42 : decode cX0_become 42 = .ok (.aload_n 0, 1) := by decide +kernel
theorem dX0_become_43 : decode cX0_become 43 = .ok (.ldc2_w 38, 3) := by decide +kernel
theorem dX0_become_46 : decode cX0_become 46 = .ok (.lload_n 3, 1) := by decide +kernel
theorem dX0_become_47 : decode cX0_become 47 = .ok (.lload 7, 2) := by decide +kernel
theorem dX0_become_49 : decode cX0_become 49 = .ok (.lmul, 1) := by decide +kernel
theorem dX0_become_50 : decode cX0_become 50 = .ok (.lload 5, 2) := by decide +kernel
theorem dX0_become_52 : decode cX0_become 52 = .ok (.lload 9, 2) := by decide +kernel
theorem dX0_become_54 : decode cX0_become 54 = .ok (.lmul, 1) := by decide +kernel
theorem dX0_become_55 : decode cX0_become 55 = .ok (.ladd, 1) := by decide +kernel
theorem dX0_become_56 : decode cX0_become 56 = .ok (.lmul, 1) := by decide +kernel
theorem dX0_become_57 : decode cX0_become 57 = .ok (.putfield 17, 3) := by decide +kernel
theorem dX0_become_60 : decode cX0_become 60 = .ok (.aload_n 0, 1) := by decide +kernel
theorem dX0_become_61 : decode cX0_become 61 = .ok (.ldc2_w 38, 3) := by decide +kernel
theorem dX0_become_64 : decode cX0_become 64 = .ok (.lload 5, 2) := by decide +kernel
theorem dX0_become_66 : decode cX0_become 66 = .ok (.lload 7, 2) := by decide +kernel
theorem dX0_become_68 : decode cX0_become 68 = .ok (.lmul, 1) := by decide +kernel
theorem dX0_become_69 : decode cX0_become 69 = .ok (.lload_n 3, 1) := by decide +kernel
theorem dX0_become_70 : decode cX0_become 70 = .ok (.lload 9, 2) := by decide +kernel
theorem dX0_become_72 : decode cX0_become 72 = .ok (.lmul, 1) := by decide +kernel
theorem dX0_become_73 : decode cX0_become 73 = .ok (.lsub, 1) := by decide +kernel
theorem dX0_become_74 : decode cX0_become 74 = .ok (.lmul, 1) := by decide +kernel
theorem dX0_become_75 : decode cX0_become 75 = .ok (.putfield 20, 3) := by decide +kernel
theorem dX0_become_78 : decode cX0_become 78 = .ok (.aload_n 0, 1) := by decide +kernel
theorem dX0_become_79 : decode cX0_become 79 = .ok (.aload_n 0, 1) := by decide +kernel
theorem dX0_become_80 : decode cX0_become 80 = .ok (.getfield 7, 3) := by decide +kernel
theorem dX0_become_83 : decode cX0_become 83 = .ok (.lconst 0, 1) := by decide +kernel
theorem dX0_become_84 : decode cX0_become 84 = .ok (.lcmp, 1) := by decide +kernel
theorem dX0_become_85 : decode cX0_become 85 = .ok (.ifCond .le 20, 3) := by decide +kernel
theorem dX0_become_88 : decode cX0_become 88 = .ok (.aload_n 0, 1) := by decide +kernel
theorem dX0_become_89 : decode cX0_become 89 = .ok (.getfield 7, 3) := by decide +kernel
theorem dX0_become_92 : decode cX0_become 92 = .ok (.iload_n 2, 1) := by decide +kernel
theorem dX0_become_93 : decode cX0_become 93 = .ok (.i2l, 1) := by decide +kernel
theorem dX0_become_94 : decode cX0_become 94 = .ok (.iload_n 2, 1) := by decide +kernel
theorem dX0_become_95 : decode cX0_become 95 = .ok (.i2l, 1) := by decide +kernel
theorem dX0_become_96 : decode cX0_become 96 = .ok (.lmul, 1) := by decide +kernel
theorem dX0_become_97 : decode cX0_become 97 = .ok (.lcmp, 1) := by decide +kernel
theorem dX0_become_98 : decode cX0_become 98 = .ok (.ifCond .lt 7, 3) := by decide +kernel
theorem dX0_become_101 : decode cX0_become 101 = .ok (.iconst 1, 1) := by decide +kernel
theorem dX0_become_102 : decode cX0_become 102 = .ok (.goto 4, 3) := by decide +kernel
theorem dX0_become_105 : decode cX0_become 105 = .ok (.iconst 0, 1) := by decide +kernel
theorem dX0_become_106 : decode cX0_become 106 = .ok (.putfield 13, 3) := by decide +kernel
theorem dX0_become_109 : decode cX0_become 109 = .ok (.return_, 1) := by decide +kernel
theorem dX0_truncated_0 : decode cX0_truncated 0 = .ok (.aload_n 0, 1) := by decide +kernel
theorem dX0_truncated_1 : decode cX0_truncated 1 = .ok (.getfield 7, 3) := by decide +kernel
theorem dX0_truncated_4 : decode cX0_truncated 4 = .ok (.lconst 0, 1) := by decide +kernel
theorem dX0_truncated_5 : decode cX0_truncated 5 = .ok (.lcmp, 1) := by decide +kernel
theorem dX0_truncated_6 : decode cX0_truncated 6 = .ok (.ifCond .ne 7, 3) := by decide +kernel
theorem dX0_truncated_9 : decode cX0_truncated 9 = .ok (.lconst 0, 1) := by decide +kernel
theorem dX0_truncated_10 : decode cX0_truncated 10 = .ok (.goto 9, 3) := by decide +kernel
theorem dX0_truncated_13 : decode cX0_truncated 13 = .ok (.lload_n 1, 1) := by decide +kernel
theorem dX0_truncated_14 : decode cX0_truncated 14 = .ok (.aload_n 0, 1) := by decide +kernel
theorem dX0_truncated_15 : decode cX0_truncated 15 = .ok (.getfield 7, 3) := by decide +kernel
theorem dX0_truncated_18 : decode cX0_truncated 18 = .ok (.ldiv, 1) := by decide +kernel
theorem dX0_truncated_19 : decode cX0_truncated 19 = .ok (.lreturn, 1) := by decide +kernel
set_option maxRecDepth 20000 in
theorem ggX0_isIn_X4_holds : GoodIn wsX0_isIn wsX4_holds := goodIn_r _ [9, 10, 11, 12, 13, 14, 15, 16, 8, 17, 22, 23, 24, 25] (by decide +kernel) (by decide +kernel)
set_option maxRecDepth 20000 in
theorem gX0_isIn_X4_holds : GoodIn wsX0_isIn (wsV RX0 40 RX4 yX4_holds wsX4_holds) := goodIn_app (goodIn_of _ (by decide +kernel)) ggX0_isIn_X4_holds
theorem dX0_isIn_0 : decode cX0_isIn 0 = .ok (.aload_n 0, 1) := by decide +kernel
theorem dX0_isIn_1 : decode cX0_isIn 1 = .ok (.getfield 13, 3) := by decide +kernel
theorem dX0_isIn_4 : decode cX0_isIn 4 = .ok (.ifCond .eq 26, 3) := by decide +kernel
theorem dX0_isIn_7 : decode cX0_isIn 7 = .ok (.aload_n 1, 1) := by decide +kernel
theorem dX0_isIn_8 : decode cX0_isIn 8 = .ok (.aload_n 0, 1) := by decide +kernel
theorem dX0_isIn_9 : decode cX0_isIn 9 = .ok (.getfield 17, 3) := by decide +kernel
theorem dX0_isIn_12 : decode cX0_isIn 12 = .ok (.aload_n 0, 1) := by decide +kernel
theorem dX0_isIn_13 : decode cX0_isIn 13 = .ok (.getfield 20, 3) := by decide +kernel
theorem dX0_isIn_16 : decode cX0_isIn 16 = .ok (.aload_n 0, 1) := by decide +kernel
theorem dX0_isIn_17 : decode cX0_isIn 17 = .ok (.getfield 7, 3) := by decide +kernel
theorem dX0_isIn_20 : decode cX0_isIn 20 = .ok (.invokevirtual 40, 3) := by decide +kernel
theorem dX0_isIn_23 : decode cX0_isIn 23 = .ok (.ifCond .eq 7, 3) := by decide +kernel
theorem dX0_isIn_26 : decode cX0_isIn 26 = .ok (.iconst 1, 1) := by decide +kernel
theorem dX0_isIn_27 : decode cX0_isIn 27 = .ok (.goto 4, 3) := by decide +kernel
theorem dX0_isIn_30 : decode cX0_isIn 30 = .ok (.iconst 0, 1) := by decide +kernel
theorem dX0_isIn_31 : decode cX0_isIn 31 = .ok (.ireturn, 1) := by decide +kernel
theorem dX0_isInLoad_0 : decode cX0_isInLoad 0 = .ok (.aload_n 0, 1) := by decide +kernel
theorem dX0_isInLoad_1 : decode cX0_isInLoad 1 = .ok (.getfield 13, 3) := by decide +kernel
theorem dX0_isInLoad_4 : decode cX0_isInLoad 4 = .ok (.ifCond .eq 50, 3) := by decide +kernel
theorem dX0_isInLoad_7 : decode cX0_isInLoad 7 = .ok (.aload_n 0, 1) := by decide +kernel
theorem dX0_isInLoad_8 : decode cX0_isInLoad 8 = .ok (.getfield 17, 3) := by decide +kernel
theorem dX0_isInLoad_11 : decode cX0_isInLoad 11 = .ok (.invokestatic 46, 3) := by decide +kernel
theorem dX0_isInLoad_14 : decode cX0_isInLoad 14 = .ok (.iload_n 1, 1) := by decide +kernel
theorem dX0_isInLoad_15 : decode cX0_isInLoad 15 = .ok (.i2l, 1) := by decide +kernel
theorem dX0_isInLoad_16 : decode cX0_isInLoad 16 = .ok (.aload_n 0, 1) := by decide +kernel
theorem dX0_isInLoad_17 : decode cX0_isInLoad 17 = .ok (.getfield 7, 3) := by decide +kernel
theorem dX0_isInLoad_20 : decode cX0_isInLoad 20 = .ok (.lmul, 1) := by decide +kernel
theorem dX0_isInLoad_21 : decode cX0_isInLoad 21 = .ok (.lcmp, 1) := by decide +kernel
theorem dX0_isInLoad_22 : decode cX0_isInLoad 22 = .ok (.ifCond .lt 32, 3) := by decide +kernel
theorem dX0_isInLoad_25 : decode cX0_isInLoad 25 = .ok (.aload_n 0, 1) := by decide +kernel
theorem dX0_isInLoad_26 : decode cX0_isInLoad 26 = .ok (.getfield 20, 3) := by decide +kernel
theorem dX0_isInLoad_29 : decode cX0_isInLoad 29 = .ok (.invokestatic 46, 3) := by decide +kernel
theorem dX0_isInLoad_32 : decode cX0_isInLoad 32 = .ok (.ldc2_w 38, 3) := by decide +kernel
theorem dX0_isInLoad_35 : decode cX0_isInLoad 35 = .ok (.lmul, 1) := by decide +kernel
theorem dX0_isInLoad_36 : decode cX0_isInLoad 36 = .ok (.iload_n 2, 1) := by decide +kernel
theorem dX0_isInLoad_37 : decode cX0_isInLoad 37 = .ok (.i2l, 1) := by decide +kernel
theorem dX0_isInLoad_38 : decode cX0_isInLoad 38 = .ok (.aload_n 0, 1) := by decide +kernel
theorem dX0_isInLoad_39 : decode cX0_isInLoad 39 = .ok (.getfield 17, 3) := by decide +kernel
theorem dX0_isInLoad_42 : decode cX0_isInLoad 42 = .ok (.invokestatic 46, 3) := by decide +kernel
theorem dX0_isInLoad_45 : decode cX0_isInLoad 45 = .ok (.lmul, 1) := by decide +kernel
theorem dX0_isInLoad_46 : decode cX0_isInLoad 46 = .ok (.lcmp, 1) := by decide +kernel
theorem dX0_isInLoad_47 : decode cX0_isInLoad 47 = .ok (.ifCond .gt 7, 3) := by decide +kernel
theorem dX0_isInLoad_50 : decode cX0_isInLoad 50 = .ok (.iconst 1, 1) := by decide +kernel
theorem dX0_isInLoad_51 : decode cX0_isInLoad 51 = .ok (.goto 4, 3) := by decide +kernel
theorem dX0_isInLoad_54 : decode cX0_isInLoad 54 = .ok (.iconst 0, 1) := by decide +kernel
theorem dX0_isInLoad_55 : decode cX0_isInLoad 55 = .ok (.ireturn, 1) := by decide +kernel
theorem dX1_init_0 : decode cX1_init 0 = .ok (.aload_n 0, 1) := by decide +kernel
theorem dX1_init_1 : decode cX1_init 1 = .ok (.invokespecial 3, 3) := by decide +kernel
theorem dX1_init_4 : decode cX1_init 4 = .ok (.aload_n 0, 1) := by decide +kernel
theorem dX1_init_5 : decode cX1_init 5 = .ok (.bipush 60, 2) := by decide +kernel
theorem dX1_init_7 : decode cX1_init 7 = .ok (.newarray .int, 2) := by decide +kernel
theorem dX1_init_9 : decode cX1_init 9 = .ok (.putfield 9, 3) := by decide +kernel
theorem dX1_init_12 : decode cX1_init 12 = .ok (.aload_n 0, 1) := by decide +kernel
theorem dX1_init_13 : decode cX1_init 13 = .ok (.bipush 60, 2) := by decide +kernel
theorem dX1_init_15 : decode cX1_init 15 = .ok (.newarray .int, 2) := by decide +kernel
theorem dX1_init_17 : decode cX1_init 17 = .ok (.putfield 15, 3) := by decide +kernel
theorem dX1_init_20 : decode cX1_init 20 = .ok (.return_, 1) := by decide +kernel
theorem dX1_becomeLike_0 : decode cX1_becomeLike 0 = .ok (.aload_n 1, 1) := by decide +kernel
theorem dX1_becomeLike_1 : decode cX1_becomeLike 1 = .ok (.getfield 9, 3) := by decide +kernel
theorem dX1_becomeLike_4 : decode cX1_becomeLike 4 = .ok (.iconst 0, 1) := by decide +kernel
theorem dX1_becomeLike_5 : decode cX1_becomeLike 5 = .ok (.aload_n 0, 1) := by decide +kernel
theorem dX1_becomeLike_6 : decode cX1_becomeLike 6 = .ok (.getfield 9, 3) := by decide +kernel
theorem dX1_becomeLike_9 : decode cX1_becomeLike 9 = .ok (.iconst 0, 1) := by decide +kernel
theorem dX1_becomeLike_10 : decode cX1_becomeLike 10 = .ok (.bipush 60, 2) := by decide +kernel
theorem dX1_becomeLike_12 : decode cX1_becomeLike 12 = .ok (.invokestatic 18, 3) := by decide +kernel
theorem dX1_becomeLike_15 : decode cX1_becomeLike 15 = .ok (.aload_n 1, 1) := by decide +kernel
theorem dX1_becomeLike_16 : decode cX1_becomeLike 16 = .ok (.getfield 15, 3) := by decide +kernel
theorem dX1_becomeLike_19 : decode cX1_becomeLike 19 = .ok (.iconst 0, 1) := by decide +kernel
theorem dX1_becomeLike_20 : decode cX1_becomeLike 20 = .ok (.aload_n 0, 1) := by decide +kernel
theorem dX1_becomeLike_21 : decode cX1_becomeLike 21 = .ok (.getfield 15, 3) := by decide +kernel
theorem dX1_becomeLike_24 : decode cX1_becomeLike 24 = .ok (.iconst 0, 1) := by decide +kernel
theorem dX1_becomeLike_25 : decode cX1_becomeLike 25 = .ok (.bipush 60, 2) := by decide +kernel
theorem dX1_becomeLike_27 : decode cX1_becomeLike 27 = .ok (.invokestatic 18, 3) := by decide +kernel
theorem dX1_becomeLike_30 : decode cX1_becomeLike 30 = .ok (.aload_n 0, 1) := by decide +kernel
theorem dX1_becomeLike_31 : decode cX1_becomeLike 31 = .ok (.aload_n 1, 1) := by decide +kernel
theorem dX1_becomeLike_32 : decode cX1_becomeLike 32 = .ok (.getfield 24, 3) := by decide +kernel
theorem dX1_becomeLike_35 : decode cX1_becomeLike 35 = .ok (.putfield 24, 3) := by decide +kernel
theorem dX1_becomeLike_38 : decode cX1_becomeLike 38 = .ok (.return_, 1) := by decide +kernel
set_option maxRecDepth 20000 in
theorem ggX1_note_J9_floorMod_7cf53 : GoodIn wsX1_note wsJ9_floorMod_7cf53 := goodIn_r _ [7] (by decide +kernel) (by decide +kernel)
set_option maxRecDepth 20000 in
theorem gX1_note_J9_floorMod_7cf53 : GoodIn wsX1_note (va_wsS RX1 28 yJ9_floorMod_7cf53 wsJ9_floorMod_7cf53) := goodIn_app (goodIn_of _ (by decide +kernel)) ggX1_note_J9_floorMod_7cf53
theorem dX1_note_0 : decode cX1_note 0 = .ok (.aload_n 0, 1) := by decide +kernel
theorem dX1_note_1 : decode cX1_note 1 = .ok (.getfield 24, 3) := by decide +kernel
theorem dX1_note_4 : decode cX1_note 4 = .ok (.bipush 60, 2) := by decide +kernel
theorem dX1_note_6 : decode cX1_note 6 = .ok (.invokestatic 28, 3) := by decide +kernel
theorem dX1_note_9 : decode cX1_note 9 = .ok (.istore_n 3, 1) := by decide +kernel
theorem dX1_note_10 : decode cX1_note 10 = .ok (.aload_n 0, 1) := by decide +kernel
theorem dX1_note_11 : decode cX1_note 11 = .ok (.getfield 9, 3) := by decide +kernel
theorem dX1_note_14 : decode cX1_note 14 = .ok (.iload_n 3, 1) := by decide +kernel
theorem dX1_note_15 : decode cX1_note 15 = .ok (.iload_n 1, 1) := by decide +kernel
theorem dX1_note_16 : decode cX1_note 16 = .ok (.iastore, 1) := by decide +kernel
theorem dX1_note_17 : decode cX1_note 17 = .ok (.aload_n 0, 1) := by decide +kernel
theorem dX1_note_18 : decode cX1_note 18 = .ok (.getfield 15, 3) := by decide +kernel
theorem dX1_note_21 : decode cX1_note 21 = .ok (.iload_n 3, 1) := by decide +kernel
theorem dX1_note_22 : decode cX1_note 22 = .ok (.iload_n 2, 1) := by decide +kernel
theorem dX1_note_23 : decode cX1_note 23 = .ok (.iastore, 1) := by decide +kernel
theorem dX1_note_24 : decode cX1_note 24 = .ok (.aload_n 0, 1) := by decide +kernel
theorem dX1_note_25 : decode cX1_note 25 = .ok (.dup, 1) := by decide +kernel
theorem dX1_note_26 : decode cX1_note 26 = .ok (.getfield 24, 3) := by decide +kernel
theorem dX1_note_29 : decode cX1_note 29 = .ok (.iconst 1, 1) := by decide +kernel
theorem dX1_note_30 : decode cX1_note 30 = .ok (.iadd, 1) := by decide +kernel
theorem dX1_note_31 : decode cX1_note 31 = .ok (.putfield 24, 3) := by decide +kernel
theorem dX1_note_34 : decode cX1_note 34 = .ok (.return_, 1) := by decide +kernel
theorem dX1_keeps_0 : decode cX1_keeps 0 = .ok (.iload_n 1, 1) := by decide +kernel
theorem dX1_keeps_1 : decode cX1_keeps 1 = .ok (.ifCond .lt 26, 3) := by decide +kernel
theorem dX1_keeps_4 : decode cX1_keeps 4 = .ok (.iload_n 1, 1) := by decide +kernel
theorem dX1_keeps_5 : decode cX1_keeps 5 = .ok (.aload_n 0, 1) := by decide +kernel
theorem dX1_keeps_6 : decode cX1_keeps 6 = .ok (.getfield 24, 3) := by decide +kernel
theorem dX1_keeps_9 : decode cX1_keeps 9 = .ok (.if_icmp .ge 18, 3) := by decide +kernel
theorem dX1_keeps_12 : decode cX1_keeps 12 = .ok (.iload_n 1, 1) := by decide +kernel
theorem dX1_keeps_13 : decode cX1_keeps 13 = .ok (.aload_n 0, 1) := by decide +kernel
theorem dX1_keeps_14 : decode cX1_keeps 14 = .ok (.getfield 24, 3) := by decide +kernel
theorem dX1_keeps_17 : decode cX1_keeps 17 = .ok (.bipush 60, 2) := by decide +kernel
theorem dX1_keeps_19 : decode cX1_keeps 19 = .ok (.isub, 1) := by decide +kernel
theorem dX1_keeps_20 : decode cX1_keeps 20 = .ok (.if_icmp .lt 7, 3) := by decide +kernel
theorem dX1_keeps_23 : decode cX1_keeps 23 = .ok (.iconst 1, 1) := by decide +kernel
theorem dX1_keeps_24 : decode cX1_keeps 24 = .ok (.goto 4, 3) := by decide +kernel
theorem dX1_keeps_27 : decode cX1_keeps 27 = .ok (.iconst 0, 1) := by decide +kernel
theorem dX1_keeps_28 : decode cX1_keeps 28 = .ok (.ireturn, 1) := by decide +kernel
theorem dX2_init_0 : decode cX2_init 0 = .ok (.aload_n 0, 1) := by decide +kernel
theorem dX2_init_1 : decode cX2_init 1 = .ok (.invokespecial 3, 3) := by decide +kernel
theorem dX2_init_4 : decode cX2_init 4 = .ok (.aload_n 0, 1) := by decide +kernel
theorem dX2_init_5 : decode cX2_init 5 = .ok (.iconst 4, 1) := by decide +kernel
theorem dX2_init_6 : decode cX2_init 6 = .ok (.newarray .int, 2) := by decide +kernel
theorem dX2_init_8 : decode cX2_init 8 = .ok (.dup, 1) := by decide +kernel
theorem dX2_init_9 : decode cX2_init 9 = .ok (.iconst 0, 1) := by decide +kernel
theorem dX2_init_10 : decode cX2_init 10 = .ok (.sipush 10000, 3) := by decide +kernel
theorem dX2_init_13 : decode cX2_init 13 = .ok (.iastore, 1) := by decide +kernel
theorem dX2_init_14 : decode cX2_init 14 = .ok (.dup, 1) := by decide +kernel
theorem dX2_init_15 : decode cX2_init 15 = .ok (.iconst 1, 1) := by decide +kernel
theorem dX2_init_16 : decode cX2_init 16 = .ok (.bipush 100, 2) := by decide +kernel
theorem dX2_init_18 : decode cX2_init 18 = .ok (.iastore, 1) := by decide +kernel
theorem dX2_init_19 : decode cX2_init 19 = .ok (.dup, 1) := by decide +kernel
theorem dX2_init_20 : decode cX2_init 20 = .ok (.iconst 2, 1) := by decide +kernel
theorem dX2_init_21 : decode cX2_init 21 = .ok (.sipush 500, 3) := by decide +kernel
theorem dX2_init_24 : decode cX2_init 24 = .ok (.iastore, 1) := by decide +kernel
theorem dX2_init_25 : decode cX2_init 25 = .ok (.dup, 1) := by decide +kernel
theorem dX2_init_26 : decode cX2_init 26 = .ok (.iconst 3, 1) := by decide +kernel
theorem dX2_init_27 : decode cX2_init 27 = .ok (.sipush 20000, 3) := by decide +kernel
theorem dX2_init_30 : decode cX2_init 30 = .ok (.iastore, 1) := by decide +kernel
theorem dX2_init_31 : decode cX2_init 31 = .ok (.putfield 9, 3) := by decide +kernel
theorem dX2_init_34 : decode cX2_init 34 = .ok (.aload_n 0, 1) := by decide +kernel
theorem dX2_init_35 : decode cX2_init 35 = .ok (.iconst 4, 1) := by decide +kernel
theorem dX2_init_36 : decode cX2_init 36 = .ok (.newarray .int, 2) := by decide +kernel
theorem dX2_init_38 : decode cX2_init 38 = .ok (.dup, 1) := by decide +kernel
theorem dX2_init_39 : decode cX2_init 39 = .ok (.iconst 0, 1) := by decide +kernel
theorem dX2_init_40 : decode cX2_init 40 = .ok (.iconst 0, 1) := by decide +kernel
theorem dX2_init_41 : decode cX2_init 41 = .ok (.iastore, 1) := by decide +kernel
theorem dX2_init_42 : decode cX2_init 42 = .ok (.dup, 1) := by decide +kernel
theorem dX2_init_43 : decode cX2_init 43 = .ok (.iconst 1, 1) := by decide +kernel
theorem dX2_init_44 : decode cX2_init 44 = .ok (.sipush 1000, 3) := by decide +kernel
theorem dX2_init_47 : decode cX2_init 47 = .ok (.iastore, 1) := by decide +kernel
theorem dX2_init_48 : decode cX2_init 48 = .ok (.dup, 1) := by decide +kernel
theorem dX2_init_49 : decode cX2_init 49 = .ok (.iconst 2, 1) := by decide +kernel
theorem dX2_init_50 : decode cX2_init 50 = .ok (.sipush 3000, 3) := by decide +kernel
theorem dX2_init_53 : decode cX2_init 53 = .ok (.iastore, 1) := by decide +kernel
theorem dX2_init_54 : decode cX2_init 54 = .ok (.dup, 1) := by decide +kernel
theorem dX2_init_55 : decode cX2_init 55 = .ok (.iconst 3, 1) := by decide +kernel
theorem dX2_init_56 : decode cX2_init 56 = .ok (.sipush 5000, 3) := by decide +kernel
theorem dX2_init_59 : decode cX2_init 59 = .ok (.iastore, 1) := by decide +kernel
theorem dX2_init_60 : decode cX2_init 60 = .ok (.putfield 15, 3) := by decide +kernel
theorem dX2_init_63 : decode cX2_init 63 = .ok (.return_, 1) := by decide +kernel
theorem dX2_becomeLike_0 : decode cX2_becomeLike 0 = .ok (.aload_n 1, 1) := by decide +kernel
theorem dX2_becomeLike_1 : decode cX2_becomeLike 1 = .ok (.getfield 9, 3) := by decide +kernel
theorem dX2_becomeLike_4 : decode cX2_becomeLike 4 = .ok (.iconst 0, 1) := by decide +kernel
theorem dX2_becomeLike_5 : decode cX2_becomeLike 5 = .ok (.aload_n 0, 1) := by decide +kernel
theorem dX2_becomeLike_6 : decode cX2_becomeLike 6 = .ok (.getfield 9, 3) := by decide +kernel
theorem dX2_becomeLike_9 : decode cX2_becomeLike 9 = .ok (.iconst 0, 1) := by decide +kernel
theorem dX2_becomeLike_10 : decode cX2_becomeLike 10 = .ok (.iconst 4, 1) := by decide +kernel
theorem dX2_becomeLike_11 : decode cX2_becomeLike 11 = .ok (.invokestatic 18, 3) := by decide +kernel
theorem dX2_becomeLike_14 : decode cX2_becomeLike 14 = .ok (.aload_n 1, 1) := by decide +kernel
theorem dX2_becomeLike_15 : decode cX2_becomeLike 15 = .ok (.getfield 15, 3) := by decide +kernel
theorem dX2_becomeLike_18 : decode cX2_becomeLike 18 = .ok (.iconst 0, 1) := by decide +kernel
theorem dX2_becomeLike_19 : decode cX2_becomeLike 19 = .ok (.aload_n 0, 1) := by decide +kernel
theorem dX2_becomeLike_20 : decode cX2_becomeLike 20 = .ok (.getfield 15, 3) := by decide +kernel
theorem dX2_becomeLike_23 : decode cX2_becomeLike 23 = .ok (.iconst 0, 1) := by decide +kernel
theorem dX2_becomeLike_24 : decode cX2_becomeLike 24 = .ok (.iconst 4, 1) := by decide +kernel
theorem dX2_becomeLike_25 : decode cX2_becomeLike 25 = .ok (.invokestatic 18, 3) := by decide +kernel
theorem dX2_becomeLike_28 : decode cX2_becomeLike 28 = .ok (.return_, 1) := by decide +kernel
set_option maxRecDepth 20000 in
theorem ggX2_findFaulted_X2_solve : GoodIn wsX2_findFaulted wsX2_solve := goodIn_r _ [7, 1, 2, 8, 9, 10, 11, 6, 12, 13, 14, 15, 16, 17, 18, 19, 20, 21, 22, 23, 24, 25, 26, 27, 28, 29, 30, 31, 32, 33, 34, 35, 36] (by decide +kernel) (by decide +kernel)
set_option maxRecDepth 20000 in
theorem gX2_findFaulted_X2_solve : GoodIn wsX2_findFaulted (wsV RX2 24 RX2 yX2_solve wsX2_solve) := goodIn_app (goodIn_of _ (by decide +kernel)) ggX2_findFaulted_X2_solve
theorem dX2_findFaulted_0 : decode cX2_findFaulted 0 = .ok (.aload_n 0, 1) := by decide +kernel
theorem dX2_findFaulted_1 : decode cX2_findFaulted 1 = .ok (.aload_n 0, 1) := by decide +kernel
theorem dX2_findFaulted_2 : decode cX2_findFaulted 2 = .ok (.getfield 9, 3) := by decide +kernel
theorem dX2_findFaulted_5 : decode cX2_findFaulted 5 = .ok (.iconst 2, 1) := by decide +kernel
theorem dX2_findFaulted_6 : decode cX2_findFaulted 6 = .ok (.iaload, 1) := by decide +kernel
theorem dX2_findFaulted_7 : decode cX2_findFaulted 7 = .ok (.iload_n 1, 1) := by decide +kernel
theorem dX2_findFaulted_8 : decode cX2_findFaulted 8 = .ok (.imul, 1) := by decide +kernel
theorem dX2_findFaulted_9 : decode cX2_findFaulted 9 = .ok (.sipush 1000, 3) := by decide +kernel
theorem dX2_findFaulted_12 : decode cX2_findFaulted 12 = .ok (.idiv, 1) := by decide +kernel
theorem dX2_findFaulted_13 : decode cX2_findFaulted 13 = .ok (.iload_n 2, 1) := by decide +kernel
theorem dX2_findFaulted_14 : decode cX2_findFaulted 14 = .ok (.iadd, 1) := by decide +kernel
theorem dX2_findFaulted_15 : decode cX2_findFaulted 15 = .ok (.aload_n 0, 1) := by decide +kernel
theorem dX2_findFaulted_16 : decode cX2_findFaulted 16 = .ok (.getfield 15, 3) := by decide +kernel
theorem dX2_findFaulted_19 : decode cX2_findFaulted 19 = .ok (.iconst 2, 1) := by decide +kernel
theorem dX2_findFaulted_20 : decode cX2_findFaulted 20 = .ok (.iaload, 1) := by decide +kernel
theorem dX2_findFaulted_21 : decode cX2_findFaulted 21 = .ok (.iload_n 1, 1) := by decide +kernel
theorem dX2_findFaulted_22 : decode cX2_findFaulted 22 = .ok (.imul, 1) := by decide +kernel
theorem dX2_findFaulted_23 : decode cX2_findFaulted 23 = .ok (.sipush 1000, 3) := by decide +kernel
theorem dX2_findFaulted_26 : decode cX2_findFaulted 26 = .ok (.idiv, 1) := by decide +kernel
theorem dX2_findFaulted_27 : decode cX2_findFaulted 27 = .ok (.aload_n 3, 1) := by decide +kernel
theorem dX2_findFaulted_28 : decode cX2_findFaulted 28 = .ok (.invokevirtual 24, 3) := by decide +kernel
theorem dX2_findFaulted_31 : decode cX2_findFaulted 31 = .ok (.ireturn, 1) := by decide +kernel
set_option maxRecDepth 20000 in
theorem ggX2_findUnfaulted_X2_solve : GoodIn wsX2_findUnfaulted wsX2_solve := goodIn_r _ [7, 1, 2, 8, 9, 10, 11, 6, 12, 13, 14, 15, 16, 17, 18, 19, 20, 21, 22, 23, 24, 25, 26, 27, 28, 29, 30, 31, 32, 33, 34, 35, 36] (by decide +kernel) (by decide +kernel)
set_option maxRecDepth 20000 in
theorem gX2_findUnfaulted_X2_solve : GoodIn wsX2_findUnfaulted (wsV RX2 24 RX2 yX2_solve wsX2_solve) := goodIn_app (goodIn_of _ (by decide +kernel)) ggX2_findUnfaulted_X2_solve
theorem dX2_findUnfaulted_0 : decode cX2_findUnfaulted 0 = .ok (.aload_n 0, 1) := by decide +kernel
theorem dX2_findUnfaulted_1 : decode cX2_findUnfaulted 1 = .ok (.aload_n 0, 1) := by decide +kernel
theorem dX2_findUnfaulted_2 : decode cX2_findUnfaulted 2 = .ok (.getfield 9, 3) := by decide +kernel
theorem dX2_findUnfaulted_5 : decode cX2_findUnfaulted 5 = .ok (.iconst 2, 1) := by decide +kernel
theorem dX2_findUnfaulted_6 : decode cX2_findUnfaulted 6 = .ok (.iaload, 1) := by decide +kernel
theorem dX2_findUnfaulted_7 : decode cX2_findUnfaulted 7 = .ok (.aload_n 0, 1) := by decide +kernel
theorem dX2_findUnfaulted_8 : decode cX2_findUnfaulted 8 = .ok (.getfield 9, 3) := by decide +kernel
theorem dX2_findUnfaulted_11 : decode cX2_findUnfaulted 11 = .ok (.iconst 3, 1) := by decide +kernel
theorem dX2_findUnfaulted_12 : decode cX2_findUnfaulted 12 = .ok (.iaload, 1) := by decide +kernel
theorem dX2_findUnfaulted_13 : decode cX2_findUnfaulted 13 = .ok (.iadd, 1) := by decide +kernel
theorem dX2_findUnfaulted_14 : decode cX2_findUnfaulted 14 = .ok (.aload_n 0, 1) := by decide +kernel
theorem dX2_findUnfaulted_15 : decode cX2_findUnfaulted 15 = .ok (.getfield 15, 3) := by decide +kernel
theorem dX2_findUnfaulted_18 : decode cX2_findUnfaulted 18 = .ok (.iconst 2, 1) := by decide +kernel
theorem dX2_findUnfaulted_19 : decode cX2_findUnfaulted 19 = .ok (.iaload, 1) := by decide +kernel
theorem dX2_findUnfaulted_20 : decode cX2_findUnfaulted 20 = .ok (.aload_n 0, 1) := by decide +kernel
theorem dX2_findUnfaulted_21 : decode cX2_findUnfaulted 21 = .ok (.getfield 15, 3) := by decide +kernel
theorem dX2_findUnfaulted_24 : decode cX2_findUnfaulted 24 = .ok (.iconst 3, 1) := by decide +kernel
theorem dX2_findUnfaulted_25 : decode cX2_findUnfaulted 25 = .ok (.iaload, 1) := by decide +kernel
theorem dX2_findUnfaulted_26 : decode cX2_findUnfaulted 26 = .ok (.iadd, 1) := by decide +kernel
theorem dX2_findUnfaulted_27 : decode cX2_findUnfaulted 27 = .ok (.aload_n 1, 1) := by decide +kernel
theorem dX2_findUnfaulted_28 : decode cX2_findUnfaulted 28 = .ok (.invokevirtual 24, 3) := by decide +kernel
theorem dX2_findUnfaulted_31 : decode cX2_findUnfaulted 31 = .ok (.ireturn, 1) := by decide +kernel
set_option maxRecDepth 20000 in
theorem ggX2_solve_X2_limited : GoodIn wsX2_solve wsX2_limited := goodIn_r _ [8, 9, 10, 11, 12, 13, 14, 15, 16, 17] (by decide +kernel) (by decide +kernel)
set_option maxRecDepth 20000 in
theorem gX2_solve_X2_limited : GoodIn wsX2_solve (va_wsS RX2 32 yX2_limited wsX2_limited) := goodIn_app (goodIn_of _ (by decide +kernel)) ggX2_solve_X2_limited
set_option maxRecDepth 20000 in
theorem ggX2_solve_X3_put : GoodIn wsX2_solve wsX3_put := goodIn_r _ [22, 23, 24, 25, 26, 29, 30, 31, 32] (by decide +kernel) (by decide +kernel)
set_option maxRecDepth 20000 in
theorem gX2_solve_X3_put : GoodIn wsX2_solve (wsV RX2 36 RX3 yX3_put wsX3_put) := goodIn_app (goodIn_of _ (by decide +kernel)) ggX2_solve_X3_put
theorem dX2_solve_0 : decode cX2_solve 0 = .ok (.aload_n 0, 1) := by decide +kernel
theorem dX2_solve_1 : decode cX2_solve 1 = .ok (.getfield 9, 3) := by decide +kernel
theorem dX2_solve_4 : decode cX2_solve 4 = .ok (.iconst 0, 1) := by decide +kernel
theorem dX2_solve_5 : decode cX2_solve 5 = .ok (.iaload, 1) := by decide +kernel
theorem dX2_solve_6 : decode cX2_solve 6 = .ok (.i2l, 1) := by decide +kernel
theorem dX2_solve_7 : decode cX2_solve 7 = .ok (.lstore 4, 2) := by decide +kernel
theorem dX2_solve_9 : decode cX2_solve 9 = .ok (.aload_n 0, 1) := by decide +kernel
theorem dX2_solve_10 : decode cX2_solve 10 = .ok (.getfield 9, 3) := by decide +kernel
theorem dX2_solve_13 : decode cX2_solve 13 = .ok (.iconst 1, 1) := by decide +kernel
theorem dX2_solve_14 : decode cX2_solve 14 = .ok (.iaload, 1) := by decide +kernel
theorem dX2_solve_15 : decode cX2_solve 15 = .ok (.i2l, 1) := by decide +kernel
theorem dX2_solve_16 : decode cX2_solve 16 = .ok (.lstore 6, 2) := by decide +kernel
theorem dX2_solve_18 : decode cX2_solve 18 = .ok (.aload_n 0, 1) := by decide +kernel
theorem dX2_solve_19 : decode cX2_solve 19 = .ok (.getfield 15, 3) := by decide +kernel
theorem dX2_solve_22 : decode cX2_solve 22 = .ok (.iconst 1, 1) := by decide +kernel
theorem dX2_solve_23 : decode cX2_solve 23 = .ok (.iaload, 1) := by decide +kernel
theorem dX2_solve_24 : decode cX2_solve 24 = .ok (.i2l, 1) := by decide +kernel
theorem dX2_solve_25 : decode cX2_solve 25 = .ok (.lstore 8, 2) := by decide +kernel
theorem dX2_solve_27 : decode cX2_solve 27 = .ok (.iload_n 1, 1) := by decide +kernel
theorem dX2_solve_28 : decode cX2_solve 28 = .ok (.i2l, 1) := by decide +kernel
theorem dX2_solve_29 : decode cX2_solve 29 = .ok (.lload 6, 2) := by decide +kernel
theorem dX2_solve_31 : decode cX2_solve 31 = .ok (.ladd, 1) := by decide +kernel
theorem dX2_solve_32 : decode cX2_solve 32 = .ok (.lstore 10, 2) := by decide +kernel
theorem dX2_solve_34 : decode cX2_solve 34 = .ok (.iload_n 2, 1) := by decide +kernel
theorem dX2_solve_35 : decode cX2_solve 35 = .ok (.i2l, 1) := by decide +kernel
theorem dX2_solve_36 : decode cX2_solve 36 = .ok (.lload 8, 2) := by decide +kernel
theorem dX2_solve_38 : decode cX2_solve 38 = .ok (.ladd, 1) := by decide +kernel
theorem dX2_solve_39 : decode cX2_solve 39 = .ok (.lstore 12, 2) := by decide +kernel
theorem dX2_solve_41 : decode cX2_solve 41 = .ok (.lload 10, 2) := by decide +kernel
theorem dX2_solve_43 : decode cX2_solve 43 = .ok (.lload 10, 2) := by decide +kernel
theorem dX2_solve_45 : decode cX2_solve 45 = .ok (.lmul, 1) := by decide +kernel
theorem dX2_solve_46 : decode cX2_solve 46 = .ok (.lload 12, 2) := by decide +kernel
theorem dX2_solve_48 : decode cX2_solve 48 = .ok (.lload 12, 2) := by decide +kernel
theorem dX2_solve_50 : decode cX2_solve 50 = .ok (.lmul, 1) := by decide +kernel
theorem dX2_solve_51 : decode cX2_solve 51 = .ok (.ladd, 1) := by decide +kernel
theorem dX2_solve_52 : decode cX2_solve 52 = .ok (.lstore 14, 2) := by decide +kernel
theorem dX2_solve_54 : decode cX2_solve 54 = .ok (.lload 14, 2) := by decide +kernel
theorem dX2_solve_56 : decode cX2_solve 56 = .ok (.lconst 0, 1) := by decide +kernel
theorem dX2_solve_57 : decode cX2_solve 57 = .ok (.lcmp, 1) := by decide +kernel
theorem dX2_solve_58 : decode cX2_solve 58 = .ok (.ifCond .ne 5, 3) := by decide +kernel
theorem dX2_solve_61 : decode cX2_solve 61 = .ok (.iconst 0, 1) := by decide +kernel
theorem dX2_solve_62 : decode cX2_solve 62 = .ok (.ireturn, 1) := by decide +kernel
theorem dX2_solve_63 : decode cX2_solve 63 = .ok (.ldc2_w 28, 3) := by decide +kernel
theorem dX2_solve_66 : decode cX2_solve 66 = .ok (.lload 4, 2) := by decide +kernel
theorem dX2_solve_68 : decode cX2_solve 68 = .ok (.lmul, 1) := by decide +kernel
theorem dX2_solve_69 : decode cX2_solve 69 = .ok (.lload 10, 2) := by decide +kernel
theorem dX2_solve_71 : decode cX2_solve 71 = .ok (.lmul, 1) := by decide +kernel
theorem dX2_solve_72 : decode cX2_solve 72 = .ok (.lload 14, 2) := by decide +kernel
theorem dX2_solve_74 : decode cX2_solve 74 = .ok (.ldiv, 1) := by decide +kernel
theorem dX2_solve_75 : decode cX2_solve 75 = .ok (.lstore 16, 2) := by decide +kernel
theorem dX2_solve_77 : decode cX2_solve 77 = .ok (.ldc2_w 30, 3) := by decide +kernel
theorem dX2_solve_80 : decode cX2_solve 80 = .ok (.lload 4, 2) := by decide +kernel
theorem dX2_solve_82 : decode cX2_solve 82 = .ok (.lmul, 1) := by decide +kernel
theorem dX2_solve_83 : decode cX2_solve 83 = .ok (.lload 12, 2) := by decide +kernel
theorem dX2_solve_85 : decode cX2_solve 85 = .ok (.lmul, 1) := by decide +kernel
theorem dX2_solve_86 : decode cX2_solve 86 = .ok (.lload 14, 2) := by decide +kernel
theorem dX2_solve_88 : decode cX2_solve 88 = .ok (.ldiv, 1) := by decide +kernel
theorem dX2_solve_89 : decode cX2_solve 89 = .ok (.lstore 18, 2) := by decide +kernel
theorem dX2_solve_91 : decode cX2_solve 91 = .ok (.lload 4, 2) := by decide +kernel
theorem dX2_solve_93 : decode cX2_solve 93 = .ok (.lload 16, 2) := by decide +kernel
theorem dX2_solve_95 : decode cX2_solve 95 = .ok (.lload 6, 2) := by decide +kernel
theorem dX2_solve_97 : decode cX2_solve 97 = .ok (.lmul, 1) := by decide +kernel
theorem dX2_solve_98 : decode cX2_solve 98 = .ok (.lload 18, 2) := by decide +kernel
theorem dX2_solve_100 : decode cX2_solve 100 = .ok (.lload 8, 2) := by decide +kernel
theorem dX2_solve_102 : decode cX2_solve 102 = .ok (.lmul, 1) := by decide +kernel
theorem dX2_solve_103 : decode cX2_solve 103 = .ok (.lsub, 1) := by decide +kernel
theorem dX2_solve_104 : decode cX2_solve 104 = .ok (.ldc2_w 28, 3) := by decide +kernel
theorem dX2_solve_107 : decode cX2_solve 107 = .ok (.ldiv, 1) := by decide +kernel
theorem dX2_solve_108 : decode cX2_solve 108 = .ok (.lsub, 1) := by decide +kernel
theorem dX2_solve_109 : decode cX2_solve 109 = .ok (.lstore 20, 2) := by decide +kernel
theorem dX2_solve_111 : decode cX2_solve 111 = .ok (.lload 16, 2) := by decide +kernel
theorem dX2_solve_113 : decode cX2_solve 113 = .ok (.lload 8, 2) := by decide +kernel
theorem dX2_solve_115 : decode cX2_solve 115 = .ok (.lmul, 1) := by decide +kernel
theorem dX2_solve_116 : decode cX2_solve 116 = .ok (.lload 18, 2) := by decide +kernel
theorem dX2_solve_118 : decode cX2_solve 118 = .ok (.lload 6, 2) := by decide +kernel
theorem dX2_solve_120 : decode cX2_solve 120 = .ok (.lmul, 1) := by decide +kernel
theorem dX2_solve_121 : decode cX2_solve 121 = .ok (.ladd, 1) := by decide +kernel
theorem dX2_solve_122 : decode cX2_solve 122 = .ok (.lneg, 1) := by decide +kernel
theorem dX2_solve_123 : decode cX2_solve 123 = .ok (.ldc2_w 28, 3) := by decide +kernel
theorem dX2_solve_126 : decode cX2_solve 126 = .ok (.ldiv, 1) := by decide +kernel
theorem dX2_solve_127 : decode cX2_solve 127 = .ok (.lstore 22, 2) := by decide +kernel
theorem dX2_solve_129 : decode cX2_solve 129 = .ok (.aload_n 3, 1) := by decide +kernel
theorem dX2_solve_130 : decode cX2_solve 130 = .ok (.lload 20, 2) := by decide +kernel
theorem dX2_solve_132 : decode cX2_solve 132 = .ok (.invokestatic 32, 3) := by decide +kernel
theorem dX2_solve_135 : decode cX2_solve 135 = .ok (.lload 22, 2) := by decide +kernel
theorem dX2_solve_137 : decode cX2_solve 137 = .ok (.invokestatic 32, 3) := by decide +kernel
theorem dX2_solve_140 : decode cX2_solve 140 = .ok (.lload 16, 2) := by decide +kernel
theorem dX2_solve_142 : decode cX2_solve 142 = .ok (.invokestatic 32, 3) := by decide +kernel
theorem dX2_solve_145 : decode cX2_solve 145 = .ok (.lload 18, 2) := by decide +kernel
theorem dX2_solve_147 : decode cX2_solve 147 = .ok (.invokestatic 32, 3) := by decide +kernel
theorem dX2_solve_150 : decode cX2_solve 150 = .ok (.invokevirtual 36, 3) := by decide +kernel
theorem dX2_solve_153 : decode cX2_solve 153 = .ok (.iconst 1, 1) := by decide +kernel
theorem dX2_solve_154 : decode cX2_solve 154 = .ok (.ireturn, 1) := by decide +kernel
theorem dX2_limited_0 : decode cX2_limited 0 = .ok (.ldc2_w 42, 3) := by decide +kernel
theorem dX2_limited_3 : decode cX2_limited 3 = .ok (.ldc2_w 44, 3) := by decide +kernel
theorem dX2_limited_6 : decode cX2_limited 6 = .ok (.lload_n 0, 1) := by decide +kernel
theorem dX2_limited_7 : decode cX2_limited 7 = .ok (.invokestatic 46, 3) := by decide +kernel
theorem dX2_limited_10 : decode cX2_limited 10 = .ok (.invokestatic 52, 3) := by decide +kernel
theorem dX2_limited_13 : decode cX2_limited 13 = .ok (.l2i, 1) := by decide +kernel
theorem dX2_limited_14 : decode cX2_limited 14 = .ok (.ireturn, 1) := by decide +kernel
theorem dX3_init_0 : decode cX3_init 0 = .ok (.aload_n 0, 1) := by decide +kernel
theorem dX3_init_1 : decode cX3_init 1 = .ok (.invokespecial 1, 3) := by decide +kernel
theorem dX3_init_4 : decode cX3_init 4 = .ok (.return_, 1) := by decide +kernel
theorem dX3_put_0 : decode cX3_put 0 = .ok (.aload_n 0, 1) := by decide +kernel
theorem dX3_put_1 : decode cX3_put 1 = .ok (.iload_n 1, 1) := by decide +kernel
theorem dX3_put_2 : decode cX3_put 2 = .ok (.putfield 7, 3) := by decide +kernel
theorem dX3_put_5 : decode cX3_put 5 = .ok (.aload_n 0, 1) := by decide +kernel
theorem dX3_put_6 : decode cX3_put 6 = .ok (.iload_n 2, 1) := by decide +kernel
theorem dX3_put_7 : decode cX3_put 7 = .ok (.putfield 13, 3) := by decide +kernel
theorem dX3_put_10 : decode cX3_put 10 = .ok (.aload_n 0, 1) := by decide +kernel
theorem dX3_put_11 : decode cX3_put 11 = .ok (.iload_n 3, 1) := by decide +kernel
theorem dX3_put_12 : decode cX3_put 12 = .ok (.putfield 16, 3) := by decide +kernel
theorem dX3_put_15 : decode cX3_put 15 = .ok (.aload_n 0, 1) := by decide +kernel
theorem dX3_put_16 : decode cX3_put 16 = .ok (.iload 4, 2) := by decide +kernel
theorem dX3_put_18 : decode cX3_put 18 = .ok (.putfield 19, 3) := by decide +kernel
theorem dX3_put_21 : decode cX3_put 21 = .ok (.return_, 1) := by decide +kernel
set_option maxRecDepth 20000 in
theorem ggX3_becomeLike_X3_put : GoodIn wsX3_becomeLike wsX3_put := goodIn_r _ [9, 1, 2, 3, 4, 10, 11, 12, 13] (by decide +kernel) (by decide +kernel)
set_option maxRecDepth 20000 in
theorem gX3_becomeLike_X3_put : GoodIn wsX3_becomeLike (wsV RX3 22 RX3 yX3_put wsX3_put) := goodIn_app (goodIn_of _ (by decide +kernel)) ggX3_becomeLike_X3_put
theorem dX3_becomeLike_0 : decode cX3_becomeLike 0 = .ok (.aload_n 0, 1) := by decide +kernel
theorem dX3_becomeLike_1 : decode cX3_becomeLike 1 = .ok (.aload_n 1, 1) := by decide +kernel
theorem dX3_becomeLike_2 : decode cX3_becomeLike 2 = .ok (.getfield 7, 3) := by decide +kernel
theorem dX3_becomeLike_5 : decode cX3_becomeLike 5 = .ok (.aload_n 1, 1) := by decide +kernel
theorem dX3_becomeLike_6 : decode cX3_becomeLike 6 = .ok (.getfield 13, 3) := by decide +kernel
theorem dX3_becomeLike_9 : decode cX3_becomeLike 9 = .ok (.aload_n 1, 1) := by decide +kernel
theorem dX3_becomeLike_10 : decode cX3_becomeLike 10 = .ok (.getfield 16, 3) := by decide +kernel
theorem dX3_becomeLike_13 : decode cX3_becomeLike 13 = .ok (.aload_n 1, 1) := by decide +kernel
theorem dX3_becomeLike_14 : decode cX3_becomeLike 14 = .ok (.getfield 19, 3) := by decide +kernel
theorem dX3_becomeLike_17 : decode cX3_becomeLike 17 = .ok (.invokevirtual 22, 3) := by decide +kernel
theorem dX3_becomeLike_20 : decode cX3_becomeLike 20 = .ok (.return_, 1) := by decide +kernel
theorem dX4_init_0 : decode cX4_init 0 = .ok (.aload_n 0, 1) := by decide +kernel
theorem dX4_init_1 : decode cX4_init 1 = .ok (.invokespecial 3, 3) := by decide +kernel
theorem dX4_init_4 : decode cX4_init 4 = .ok (.aload_n 0, 1) := by decide +kernel
theorem dX4_init_5 : decode cX4_init 5 = .ok (.bipush 8, 2) := by decide +kernel
theorem dX4_init_7 : decode cX4_init 7 = .ok (.newarray .int, 2) := by decide +kernel
theorem dX4_init_9 : decode cX4_init 9 = .ok (.putfield 9, 3) := by decide +kernel
theorem dX4_init_12 : decode cX4_init 12 = .ok (.aload_n 0, 1) := by decide +kernel
theorem dX4_init_13 : decode cX4_init 13 = .ok (.bipush 8, 2) := by decide +kernel
theorem dX4_init_15 : decode cX4_init 15 = .ok (.newarray .int, 2) := by decide +kernel
theorem dX4_init_17 : decode cX4_init 17 = .ok (.putfield 15, 3) := by decide +kernel
theorem dX4_init_20 : decode cX4_init 20 = .ok (.aload_n 0, 1) := by decide +kernel
theorem dX4_init_21 : decode cX4_init 21 = .ok (.iconst 1, 1) := by decide +kernel
theorem dX4_init_22 : decode cX4_init 22 = .ok (.putfield 18, 3) := by decide +kernel
theorem dX4_init_25 : decode cX4_init 25 = .ok (.return_, 1) := by decide +kernel
theorem dX4_becomeLike_0 : decode cX4_becomeLike 0 = .ok (.aload_n 1, 1) := by decide +kernel
theorem dX4_becomeLike_1 : decode cX4_becomeLike 1 = .ok (.getfield 9, 3) := by decide +kernel
theorem dX4_becomeLike_4 : decode cX4_becomeLike 4 = .ok (.iconst 0, 1) := by decide +kernel
theorem dX4_becomeLike_5 : decode cX4_becomeLike 5 = .ok (.aload_n 0, 1) := by decide +kernel
theorem dX4_becomeLike_6 : decode cX4_becomeLike 6 = .ok (.getfield 9, 3) := by decide +kernel
theorem dX4_becomeLike_9 : decode cX4_becomeLike 9 = .ok (.iconst 0, 1) := by decide +kernel
theorem dX4_becomeLike_10 : decode cX4_becomeLike 10 = .ok (.bipush 8, 2) := by decide +kernel
theorem dX4_becomeLike_12 : decode cX4_becomeLike 12 = .ok (.invokestatic 22, 3) := by decide +kernel
theorem dX4_becomeLike_15 : decode cX4_becomeLike 15 = .ok (.aload_n 1, 1) := by decide +kernel
theorem dX4_becomeLike_16 : decode cX4_becomeLike 16 = .ok (.getfield 15, 3) := by decide +kernel
theorem dX4_becomeLike_19 : decode cX4_becomeLike 19 = .ok (.iconst 0, 1) := by decide +kernel
theorem dX4_becomeLike_20 : decode cX4_becomeLike 20 = .ok (.aload_n 0, 1) := by decide +kernel
theorem dX4_becomeLike_21 : decode cX4_becomeLike 21 = .ok (.getfield 15, 3) := by decide +kernel
theorem dX4_becomeLike_24 : decode cX4_becomeLike 24 = .ok (.iconst 0, 1) := by decide +kernel
theorem dX4_becomeLike_25 : decode cX4_becomeLike 25 = .ok (.bipush 8, 2) := by decide +kernel
theorem dX4_becomeLike_27 : decode cX4_becomeLike 27 = .ok (.invokestatic 22, 3) := by decide +kernel
theorem dX4_becomeLike_30 : decode cX4_becomeLike 30 = .ok (.aload_n 0, 1) := by decide +kernel
theorem dX4_becomeLike_31 : decode cX4_becomeLike 31 = .ok (.aload_n 1, 1) := by decide +kernel
theorem dX4_becomeLike_32 : decode cX4_becomeLike 32 = .ok (.getfield 28, 3) := by decide +kernel
theorem dX4_becomeLike_35 : decode cX4_becomeLike 35 = .ok (.putfield 28, 3) := by decide +kernel
theorem dX4_becomeLike_38 : decode cX4_becomeLike 38 = .ok (.aload_n 0, 1) := by decide +kernel
theorem dX4_becomeLike_39 : decode cX4_becomeLike 39 = .ok (.aload_n 1, 1) := by decide +kernel
theorem dX4_becomeLike_40 : decode cX4_becomeLike 40 = .ok (.getfield 18, 3) := by decide +kernel
theorem dX4_becomeLike_43 : decode cX4_becomeLike 43 = .ok (.putfield 18, 3) := by decide +kernel
theorem dX4_becomeLike_46 : decode cX4_becomeLike 46 = .ok (.return_, 1) := by decide +kernel
theorem dX4_empty_0 : decode cX4_empty 0 = .ok (.aload_n 0, 1) := by decide +kernel
theorem dX4_empty_1 : decode cX4_empty 1 = .ok (.iconst 0, 1) := by decide +kernel
theorem dX4_empty_2 : decode cX4_empty 2 = .ok (.putfield 28, 3) := by decide +kernel
theorem dX4_empty_5 : decode cX4_empty 5 = .ok (.aload_n 0, 1) := by decide +kernel
theorem dX4_empty_6 : decode cX4_empty 6 = .ok (.iconst 1, 1) := by decide +kernel
theorem dX4_empty_7 : decode cX4_empty 7 = .ok (.putfield 18, 3) := by decide +kernel
theorem dX4_empty_10 : decode cX4_empty 10 = .ok (.return_, 1) := by decide +kernel
set_option maxRecDepth 20000 in
theorem ggX4_append_X4_findDefect : GoodIn wsX4_append wsX4_findDefect := goodIn_r _ [9, 1, 10, 11, 12, 8, 13, 2, 3, 14, 15, 16, 17, 18, 19, 20, 21, 22, 23, 24, 25, 26, 27, 28, 29] (by decide +kernel) (by decide +kernel)
set_option maxRecDepth 20000 in
theorem gX4_append_X4_findDefect : GoodIn wsX4_append (wsV RX4 31 RX4 yX4_findDefect wsX4_findDefect) := goodIn_app (goodIn_of _ (by decide +kernel)) ggX4_append_X4_findDefect
theorem dX4_append_0 : decode cX4_append 0 = .ok (.aload_n 0, 1) := by decide +kernel
theorem dX4_append_1 : decode cX4_append 1 = .ok (.getfield 28, 3) := by decide +kernel
theorem dX4_append_4 : decode cX4_append 4 = .ok (.bipush 8, 2) := by decide +kernel
theorem dX4_append_6 : decode cX4_append 6 = .ok (.if_icmp .lt 4, 3) := by decide +kernel
theorem dX4_append_9 : decode cX4_append 9 = .ok (.return_, 1) := by decide +kernel
theorem dX4_append_10 : decode cX4_append 10 = .ok (.aload_n 0, 1) := by decide +kernel
theorem dX4_append_11 : decode cX4_append 11 = .ok (.getfield 9, 3) := by decide +kernel
theorem dX4_append_14 : decode cX4_append 14 = .ok (.aload_n 0, 1) := by decide +kernel
theorem dX4_append_15 : decode cX4_append 15 = .ok (.getfield 28, 3) := by decide +kernel
theorem dX4_append_18 : decode cX4_append 18 = .ok (.iload_n 1, 1) := by decide +kernel
theorem dX4_append_19 : decode cX4_append 19 = .ok (.iastore, 1) := by decide +kernel
theorem dX4_append_20 : decode cX4_append 20 = .ok (.aload_n 0, 1) := by decide +kernel
theorem dX4_append_21 : decode cX4_append 21 = .ok (.getfield 15, 3) := by decide +kernel
theorem dX4_append_24 : decode cX4_append 24 = .ok (.aload_n 0, 1) := by decide +kernel
theorem dX4_append_25 : decode cX4_append 25 = .ok (.getfield 28, 3) := by decide +kernel
theorem dX4_append_28 : decode cX4_append 28 = .ok (.iload_n 2, 1) := by decide +kernel
theorem dX4_append_29 : decode cX4_append 29 = .ok (.iastore, 1) := by decide +kernel
theorem dX4_append_30 : decode cX4_append 30 = .ok (.aload_n 0, 1) := by decide +kernel
theorem dX4_append_31 : decode cX4_append 31 = .ok (.dup, 1) := by decide +kernel
theorem dX4_append_32 : decode cX4_append 32 = .ok (.getfield 28, 3) := by decide +kernel
theorem dX4_append_35 : decode cX4_append 35 = .ok (.iconst 1, 1) := by decide +kernel
theorem dX4_append_36 : decode cX4_append 36 = .ok (.iadd, 1) := by decide +kernel
theorem dX4_append_37 : decode cX4_append 37 = .ok (.putfield 28, 3) := by decide +kernel
theorem dX4_append_40 : decode cX4_append 40 = .ok (.aload_n 0, 1) := by decide +kernel
theorem dX4_append_41 : decode cX4_append 41 = .ok (.aload_n 0, 1) := by decide +kernel
theorem dX4_append_42 : decode cX4_append 42 = .ok (.invokevirtual 31, 3) := by decide +kernel
theorem dX4_append_45 : decode cX4_append 45 = .ok (.putfield 18, 3) := by decide +kernel
theorem dX4_append_48 : decode cX4_append 48 = .ok (.return_, 1) := by decide +kernel
set_option maxRecDepth 20000 in
theorem ggX4_holds_X4_after : GoodIn wsX4_holds wsX4_after := goodIn_r _ [9, 2, 10, 11, 12, 13] (by decide +kernel) (by decide +kernel)
set_option maxRecDepth 20000 in
theorem gX4_holds_X4_after : GoodIn wsX4_holds (wsV RX4 35 RX4 yX4_after wsX4_after) := goodIn_app (goodIn_of _ (by decide +kernel)) ggX4_holds_X4_after
theorem dX4_holds_0 : decode cX4_holds 0 = .ok (.aload_n 0, 1) := by decide +kernel
theorem dX4_holds_1 : decode cX4_holds 1 = .ok (.getfield 18, 3) := by decide +kernel
theorem dX4_holds_4 : decode cX4_holds 4 = .ok (.ifCond .eq 5, 3) := by decide +kernel
theorem dX4_holds_7 : decode cX4_holds 7 = .ok (.iconst 0, 1) := by decide +kernel
theorem dX4_holds_8 : decode cX4_holds 8 = .ok (.ireturn, 1) := by decide +kernel
theorem dX4_holds_9 : decode cX4_holds 9 = .ok (.iconst 0, 1) := by decide +kernel
theorem dX4_holds_10 : decode cX4_holds 10 = .ok (.istore 7, 2) := by decide +kernel
theorem dX4_holds_12 : decode cX4_holds 12 = .ok (.iload 7, 2) := by decide +kernel
theorem dX4_holds_14 : decode cX4_holds 14 = .ok (.aload_n 0, 1) := by decide +kernel
theorem dX4_holds_15 : decode cX4_holds 15 = .ok (.getfield 28, 3) := by decide +kernel
theorem dX4_holds_18 : decode cX4_holds 18 = .ok (.if_icmp .ge 93, 3) := by decide +kernel
theorem dX4_holds_21 : decode cX4_holds 21 = .ok (.aload_n 0, 1) := by decide +kernel
theorem dX4_holds_22 : decode cX4_holds 22 = .ok (.iload 7, 2) := by decide +kernel
theorem dX4_holds_24 : decode cX4_holds 24 = .ok (.invokevirtual 35, 3) := by decide +kernel
theorem dX4_holds_27 : decode cX4_holds 27 = .ok (.istore 8, 2) := by decide +kernel
theorem dX4_holds_29 : decode cX4_holds 29 = .ok (.aload_n 0, 1) := by decide +kernel
theorem dX4_holds_30 : decode cX4_holds 30 = .ok (.getfield 9, 3) := by decide +kernel
theorem dX4_holds_33 : decode cX4_holds 33 = .ok (.iload 8, 2) := by decide +kernel
theorem dX4_holds_35 : decode cX4_holds 35 = .ok (.iaload, 1) := by decide +kernel
theorem dX4_holds_36 : decode cX4_holds 36 = .ok (.aload_n 0, 1) := by decide +kernel
theorem dX4_holds_37 : decode cX4_holds 37 = .ok (.getfield 9, 3) := by decide +kernel
theorem dX4_holds_40 : decode cX4_holds 40 = .ok (.iload 7, 2) := by decide +kernel
theorem dX4_holds_42 : decode cX4_holds 42 = .ok (.iaload, 1) := by decide +kernel
theorem dX4_holds_43 : decode cX4_holds 43 = .ok (.isub, 1) := by decide +kernel
theorem dX4_holds_44 : decode cX4_holds 44 = .ok (.i2l, 1) := by decide +kernel
theorem dX4_holds_45 : decode cX4_holds 45 = .ok (.lstore 9, 2) := by decide +kernel
theorem dX4_holds_47 : decode cX4_holds 47 = .ok (.aload_n 0, 1) := by decide +kernel
theorem dX4_holds_48 : decode cX4_holds 48 = .ok (.getfield 15, 3) := by decide +kernel
theorem dX4_holds_51 : decode cX4_holds 51 = .ok (.iload 8, 2) := by decide +kernel
theorem dX4_holds_53 : decode cX4_holds 53 = .ok (.iaload, 1) := by decide +kernel
theorem dX4_holds_54 : decode cX4_holds 54 = .ok (.aload_n 0, 1) := by decide +kernel
theorem dX4_holds_55 : decode cX4_holds 55 = .ok (.getfield 15, 3) := by decide +kernel
theorem dX4_holds_58 : decode cX4_holds 58 = .ok (.iload 7, 2) := by decide +kernel
theorem dX4_holds_60 : decode cX4_holds 60 = .ok (.iaload, 1) := by decide +kernel
theorem dX4_holds_61 : decode cX4_holds 61 = .ok (.isub, 1) := by decide +kernel
theorem dX4_holds_62 : decode cX4_holds 62 = .ok (.i2l, 1) := by decide +kernel
theorem dX4_holds_63 : decode cX4_holds 63 = .ok (.lstore 11, 2) := by decide +kernel
theorem dX4_holds_65 : decode cX4_holds 65 = .ok (.lload 9, 2) := by decide +kernel
theorem dX4_holds_67 : decode cX4_holds 67 = .ok (.lload_n 3, 1) := by decide +kernel
theorem dX4_holds_68 : decode cX4_holds 68 = .ok (.aload_n 0, 1) := by decide +kernel
theorem dX4_holds_69 : decode cX4_holds 69 = .ok (.getfield 15, 3) := by decide +kernel
theorem dX4_holds_72 : decode cX4_holds 72 = .ok (.iload 7, 2) := by decide +kernel
theorem dX4_holds_74 : decode cX4_holds 74 = .ok (.iaload, 1) := by decide +kernel
theorem dX4_holds_75 : decode cX4_holds 75 = .ok (.i2l, 1) := by decide +kernel
theorem dX4_holds_76 : decode cX4_holds 76 = .ok (.lload 5, 2) := by decide +kernel
theorem dX4_holds_78 : decode cX4_holds 78 = .ok (.lmul, 1) := by decide +kernel
theorem dX4_holds_79 : decode cX4_holds 79 = .ok (.lsub, 1) := by decide +kernel
theorem dX4_holds_80 : decode cX4_holds 80 = .ok (.lmul, 1) := by decide +kernel
theorem dX4_holds_81 : decode cX4_holds 81 = .ok (.lload 11, 2) := by decide +kernel
theorem dX4_holds_83 : decode cX4_holds 83 = .ok (.lload_n 1, 1) := by decide +kernel
theorem dX4_holds_84 : decode cX4_holds 84 = .ok (.aload_n 0, 1) := by decide +kernel
theorem dX4_holds_85 : decode cX4_holds 85 = .ok (.getfield 9, 3) := by decide +kernel
theorem dX4_holds_88 : decode cX4_holds 88 = .ok (.iload 7, 2) := by decide +kernel
theorem dX4_holds_90 : decode cX4_holds 90 = .ok (.iaload, 1) := by decide +kernel
theorem dX4_holds_91 : decode cX4_holds 91 = .ok (.i2l, 1) := by decide +kernel
theorem dX4_holds_92 : decode cX4_holds 92 = .ok (.lload 5, 2) := by decide +kernel
theorem dX4_holds_94 : decode cX4_holds 94 = .ok (.lmul, 1) := by decide +kernel
theorem dX4_holds_95 : decode cX4_holds 95 = .ok (.lsub, 1) := by decide +kernel
theorem dX4_holds_96 : decode cX4_holds 96 = .ok (.lmul, 1) := by decide +kernel
theorem dX4_holds_97 : decode cX4_holds 97 = .ok (.lsub, 1) := by decide +kernel
theorem dX4_holds_98 : decode cX4_holds 98 = .ok (.lconst 0, 1) := by decide +kernel
theorem dX4_holds_99 : decode cX4_holds 99 = .ok (.lcmp, 1) := by decide +kernel
theorem dX4_holds_100 : decode cX4_holds 100 = .ok (.ifCond .ge 5, 3) := by decide +kernel
theorem dX4_holds_103 : decode cX4_holds 103 = .ok (.iconst 0, 1) := by decide +kernel
theorem dX4_holds_104 : decode cX4_holds 104 = .ok (.ireturn, 1) := by decide +kernel
theorem dX4_holds_105 : decode cX4_holds 105 = .ok (.iinc 7 1, 3) := by decide +kernel
theorem dX4_holds_108 : decode cX4_holds 108 = .ok (.goto (-96), 3) := by decide +kernel
theorem dX4_holds_111 : decode cX4_holds 111 = .ok (.iconst 1, 1) := by decide +kernel
theorem dX4_holds_112 : decode cX4_holds 112 = .ok (.ireturn, 1) := by decide +kernel
set_option maxRecDepth 20000 in
theorem ggX4_writeTo_J4_setLength_d00df : GoodIn wsX4_writeTo wsJ4_setLength_d00df := goodIn_r _ [8, 9, 10, 11, 12, 13, 14, 15, 16, 17, 18, 19, 20, 21, 22, 23, 24, 25, 26, 27, 28, 29, 30, 31, 32, 33, 34, 35, 36, 37, 38, 39, 40, 41, 42, 43, 44, 45, 46, 47, 48, 49, 50, 51, 52, 53, 54, 55, 56, 57, 58, 59, 60, 61, 62, 63, 64, 65, 66, 67, 68, 69, 70, 71, 72, 73, 74, 75, 76, 77, 78, 79, 80, 181, 182, 183, 184] (by decide +kernel) (by decide +kernel)
set_option maxRecDepth 20000 in
theorem gX4_writeTo_J4_setLength_d00df : GoodIn wsX4_writeTo (wsV RX4 39 RJ4 yJ4_setLength_d00df wsJ4_setLength_d00df) := goodIn_app (goodIn_of _ (by decide +kernel)) ggX4_writeTo_J4_setLength_d00df
set_option maxRecDepth 20000 in
theorem ggX4_writeTo_J4_append_cf468 : GoodIn wsX4_writeTo wsJ4_append_cf468 := goodIn_r _ [84, 85, 86, 11, 87, 13, 88, 15, 16, 18, 19, 20, 21, 22, 23, 24, 25, 26, 27, 28, 29, 30, 31, 32, 33, 34, 35, 36, 37, 38, 39, 40, 41, 42, 43, 44, 45, 46, 47, 48, 49, 50, 51, 52, 53, 54, 55, 56, 57, 58, 59, 60, 61, 62, 63, 64, 65, 89, 90, 68, 91, 92, 93, 94, 95, 96, 97, 98, 78, 99, 100, 101, 102, 103, 104, 105, 106, 107, 108, 109, 110, 111, 112, 113, 114, 115, 116, 117, 118, 119, 120, 121, 122, 123, 124, 125, 126, 127, 128, 129, 130, 131, 132, 133, 134, 135, 136, 137, 138, 139, 140, 141, 142, 181, 182, 183, 184] (by decide +kernel) (by decide +kernel)
set_option maxRecDepth 20000 in
theorem gX4_writeTo_J4_append_cf468 : GoodIn wsX4_writeTo (wsV RX4 45 RJ4 yJ4_append_cf468 wsJ4_append_cf468) := goodIn_app (goodIn_of _ (by decide +kernel)) ggX4_writeTo_J4_append_cf468
set_option maxRecDepth 20000 in
theorem ggX4_writeTo_J4_append_bf812 : GoodIn wsX4_writeTo wsJ4_append_bf812 := goodIn_r _ [146, 147, 148, 11, 149, 13, 150, 15, 16, 151, 152, 153, 154, 18, 19, 20, 21, 22, 23, 24, 25, 26, 27, 28, 29, 30, 31, 32, 33, 34, 35, 36, 37, 38, 39, 40, 41, 42, 43, 44, 45, 46, 47, 48, 49, 50, 51, 52, 53, 54, 55, 56, 57, 58, 59, 60, 61, 62, 63, 64, 65, 155, 156, 157, 158, 159, 160, 161, 78, 162, 128, 163, 164, 165, 113, 114, 115, 166, 167, 118, 168, 120, 169, 170, 123, 171, 172, 173, 174, 175, 176, 125, 126, 127, 129, 130, 181, 182, 183, 184] (by decide +kernel) (by decide +kernel)
set_option maxRecDepth 20000 in
theorem gX4_writeTo_J4_append_bf812 : GoodIn wsX4_writeTo (wsV RX4 49 RJ4 yJ4_append_bf812 wsJ4_append_bf812) := goodIn_app (goodIn_of _ (by decide +kernel)) ggX4_writeTo_J4_append_bf812
theorem dX4_writeTo_0 : decode cX4_writeTo 0 = .ok (.aload_n 1, 1) := by decide +kernel
theorem dX4_writeTo_1 : decode cX4_writeTo 1 = .ok (.iconst 0, 1) := by decide +kernel
theorem dX4_writeTo_2 : decode cX4_writeTo 2 = .ok (.invokevirtual 39, 3) := by decide +kernel
theorem dX4_writeTo_5 : decode cX4_writeTo 5 = .ok (.iconst 0, 1) := by decide +kernel
theorem dX4_writeTo_6 : decode cX4_writeTo 6 = .ok (.istore_n 2, 1) := by decide +kernel
theorem dX4_writeTo_7 : decode cX4_writeTo 7 = .ok (.iload_n 2, 1) := by decide +kernel
theorem dX4_writeTo_8 : decode cX4_writeTo 8 = .ok (.aload_n 0, 1) := by decide +kernel
theorem dX4_writeTo_9 : decode cX4_writeTo 9 = .ok (.getfield 28, 3) := by decide +kernel
theorem dX4_writeTo_12 : decode cX4_writeTo 12 = .ok (.if_icmp .ge 49, 3) := by decide +kernel
theorem dX4_writeTo_15 : decode cX4_writeTo 15 = .ok (.iload_n 2, 1) := by decide +kernel
theorem dX4_writeTo_16 : decode cX4_writeTo 16 = .ok (.ifCond .le 10, 3) := by decide +kernel
theorem dX4_writeTo_19 : decode cX4_writeTo 19 = .ok (.aload_n 1, 1) := by decide +kernel
theorem dX4_writeTo_20 : decode cX4_writeTo 20 = .ok (.bipush 47, 2) := by decide +kernel
theorem dX4_writeTo_22 : decode cX4_writeTo 22 = .ok (.invokevirtual 45, 3) := by decide +kernel
theorem dX4_writeTo_25 : decode cX4_writeTo 25 = .ok (.pop, 1) := by decide +kernel
theorem dX4_writeTo_26 : decode cX4_writeTo 26 = .ok (.aload_n 1, 1) := by decide +kernel
theorem dX4_writeTo_27 : decode cX4_writeTo 27 = .ok (.aload_n 0, 1) := by decide +kernel
theorem dX4_writeTo_28 : decode cX4_writeTo 28 = .ok (.getfield 9, 3) := by decide +kernel
theorem dX4_writeTo_31 : decode cX4_writeTo 31 = .ok (.iload_n 2, 1) := by decide +kernel
theorem dX4_writeTo_32 : decode cX4_writeTo 32 = .ok (.iaload, 1) := by decide +kernel
theorem dX4_writeTo_33 : decode cX4_writeTo 33 = .ok (.invokevirtual 49, 3) := by decide +kernel
theorem dX4_writeTo_36 : decode cX4_writeTo 36 = .ok (.pop, 1) := by decide +kernel
theorem dX4_writeTo_37 : decode cX4_writeTo 37 = .ok (.aload_n 1, 1) := by decide +kernel
theorem dX4_writeTo_38 : decode cX4_writeTo 38 = .ok (.bipush 44, 2) := by decide +kernel
theorem dX4_writeTo_40 : decode cX4_writeTo 40 = .ok (.invokevirtual 45, 3) := by decide +kernel
theorem dX4_writeTo_43 : decode cX4_writeTo 43 = .ok (.pop, 1) := by decide +kernel
theorem dX4_writeTo_44 : decode cX4_writeTo 44 = .ok (.aload_n 1, 1) := by decide +kernel
theorem dX4_writeTo_45 : decode cX4_writeTo 45 = .ok (.aload_n 0, 1) := by decide +kernel
theorem dX4_writeTo_46 : decode cX4_writeTo 46 = .ok (.getfield 15, 3) := by decide +kernel
theorem dX4_writeTo_49 : decode cX4_writeTo 49 = .ok (.iload_n 2, 1) := by decide +kernel
theorem dX4_writeTo_50 : decode cX4_writeTo 50 = .ok (.iaload, 1) := by decide +kernel
theorem dX4_writeTo_51 : decode cX4_writeTo 51 = .ok (.invokevirtual 49, 3) := by decide +kernel
theorem dX4_writeTo_54 : decode cX4_writeTo 54 = .ok (.pop, 1) := by decide +kernel
theorem dX4_writeTo_55 : decode cX4_writeTo 55 = .ok (.iinc 2 1, 3) := by decide +kernel
theorem dX4_writeTo_58 : decode cX4_writeTo 58 = .ok (.goto (-51), 3) := by decide +kernel
theorem dX4_writeTo_61 : decode cX4_writeTo 61 = .ok (.return_, 1) := by decide +kernel
set_option maxRecDepth 20000 in
theorem ggX4_findDefect_X4_turnsLeftEverywhere : GoodIn wsX4_findDefect wsX4_turnsLeftEverywhere := goodIn_r _ [6, 1, 7, 8, 9, 10, 11, 5, 12, 21, 22, 23, 24] (by decide +kernel) (by decide +kernel)
set_option maxRecDepth 20000 in
theorem gX4_findDefect_X4_turnsLeftEverywhere : GoodIn wsX4_findDefect (wsV RX4 52 RX4 yX4_turnsLeftEverywhere wsX4_turnsLeftEverywhere) := goodIn_app (goodIn_of _ (by decide +kernel)) ggX4_findDefect_X4_turnsLeftEverywhere
set_option maxRecDepth 20000 in
theorem ggX4_findDefect_X4_countTurnsOfY : GoodIn wsX4_findDefect wsX4_countTurnsOfY := goodIn_r _ [16, 1, 8, 9, 10, 11, 5, 12, 17, 18, 19, 20, 21, 22, 23, 24] (by decide +kernel) (by decide +kernel)
set_option maxRecDepth 20000 in
theorem gX4_findDefect_X4_countTurnsOfY : GoodIn wsX4_findDefect (wsV RX4 56 RX4 yX4_countTurnsOfY wsX4_countTurnsOfY) := goodIn_app (goodIn_of _ (by decide +kernel)) ggX4_findDefect_X4_countTurnsOfY
theorem dX4_findDefect_0 : decode cX4_findDefect 0 = .ok (.aload_n 0, 1) := by decide +kernel
theorem dX4_findDefect_1 : decode cX4_findDefect 1 = .ok (.getfield 28, 3) := by decide +kernel
theorem dX4_findDefect_4 : decode cX4_findDefect 4 = .ok (.iconst 3, 1) := by decide +kernel
theorem dX4_findDefect_5 : decode cX4_findDefect 5 = .ok (.if_icmp .ge 5, 3) := by decide +kernel
theorem dX4_findDefect_8 : decode cX4_findDefect 8 = .ok (.iconst 1, 1) := by decide +kernel
theorem dX4_findDefect_9 : decode cX4_findDefect 9 = .ok (.ireturn, 1) := by decide +kernel
theorem dX4_findDefect_10 : decode cX4_findDefect 10 = .ok (.aload_n 0, 1) := by decide +kernel
theorem dX4_findDefect_11 : decode cX4_findDefect 11 = .ok (.invokevirtual 52, 3) := by decide +kernel
theorem dX4_findDefect_14 : decode cX4_findDefect 14 = .ok (.ifCond .ne 5, 3) := by decide +kernel
theorem dX4_findDefect_17 : decode cX4_findDefect 17 = .ok (.iconst 2, 1) := by decide +kernel
theorem dX4_findDefect_18 : decode cX4_findDefect 18 = .ok (.ireturn, 1) := by decide +kernel
theorem dX4_findDefect_19 : decode cX4_findDefect 19 = .ok (.aload_n 0, 1) := by decide +kernel
theorem dX4_findDefect_20 : decode cX4_findDefect 20 = .ok (.invokevirtual 56, 3) := by decide +kernel
theorem dX4_findDefect_23 : decode cX4_findDefect 23 = .ok (.iconst 2, 1) := by decide +kernel
theorem dX4_findDefect_24 : decode cX4_findDefect 24 = .ok (.if_icmp .ne 7, 3) := by decide +kernel
theorem dX4_findDefect_27 : decode cX4_findDefect 27 = .ok (.iconst 0, 1) := by decide +kernel
theorem dX4_findDefect_28 : decode cX4_findDefect 28 = .ok (.goto 4, 3) := by decide +kernel
theorem dX4_findDefect_31 : decode cX4_findDefect 31 = .ok (.iconst 3, 1) := by decide +kernel
theorem dX4_findDefect_32 : decode cX4_findDefect 32 = .ok (.ireturn, 1) := by decide +kernel
set_option maxRecDepth 20000 in
theorem ggX4_turnsLeftEverywhere_X4_after : GoodIn wsX4_turnsLeftEverywhere wsX4_after := goodIn_r _ [8, 1, 9, 10, 11, 12] (by decide +kernel) (by decide +kernel)
set_option maxRecDepth 20000 in
theorem gX4_turnsLeftEverywhere_X4_after : GoodIn wsX4_turnsLeftEverywhere (wsV RX4 35 RX4 yX4_after wsX4_after) := goodIn_app (goodIn_of _ (by decide +kernel)) ggX4_turnsLeftEverywhere_X4_after
theorem dX4_turnsLeftEverywhere_0 : decode cX4_turnsLeftEverywhere 0 = .ok (.iconst 0, 1) := by decide +kernel
theorem dX4_turnsLeftEverywhere_1 : decode cX4_turnsLeftEverywhere 1 = .ok (.istore_n 1, 1) := by decide +kernel
theorem dX4_turnsLeftEverywhere_2 : decode cX4_turnsLeftEverywhere 2 = .ok (.iload_n 1, 1) := by decide +kernel
theorem dX4_turnsLeftEverywhere_3 : decode cX4_turnsLeftEverywhere 3 = .ok (.aload_n 0, 1) := by decide +kernel
theorem dX4_turnsLeftEverywhere_4 : decode cX4_turnsLeftEverywhere 4 = .ok (.getfield 28, 3) := by decide +kernel
theorem dX4_turnsLeftEverywhere_7 : decode cX4_turnsLeftEverywhere 7 = .ok (.if_icmp .ge 91, 3) := by decide +kernel
theorem dX4_turnsLeftEverywhere_10 : decode cX4_turnsLeftEverywhere 10 = .ok (.aload_n 0, 1) := by decide +kernel
theorem dX4_turnsLeftEverywhere_11 : decode cX4_turnsLeftEverywhere 11 = .ok (.iload_n 1, 1) := by decide +kernel
theorem dX4_turnsLeftEverywhere_12 : decode cX4_turnsLeftEverywhere 12 = .ok (.invokevirtual 35, 3) := by decide +kernel
theorem dX4_turnsLeftEverywhere_15 : decode cX4_turnsLeftEverywhere 15 = .ok (.istore_n 2, 1) := by decide +kernel
theorem dX4_turnsLeftEverywhere_16 : decode cX4_turnsLeftEverywhere 16 = .ok (.aload_n 0, 1) := by decide +kernel
theorem dX4_turnsLeftEverywhere_17 : decode cX4_turnsLeftEverywhere 17 = .ok (.iload_n 2, 1) := by decide +kernel
theorem dX4_turnsLeftEverywhere_18 : decode cX4_turnsLeftEverywhere 18 = .ok (.invokevirtual 35, 3) := by decide +kernel
theorem dX4_turnsLeftEverywhere_21 : decode cX4_turnsLeftEverywhere 21 = .ok (.istore_n 3, 1) := by decide +kernel
theorem dX4_turnsLeftEverywhere_22 : decode cX4_turnsLeftEverywhere 22 = .ok (.aload_n 0, 1) := by decide +kernel
theorem dX4_turnsLeftEverywhere_23 : decode cX4_turnsLeftEverywhere 23 = .ok (.getfield 9, 3) := by decide +kernel
theorem dX4_turnsLeftEverywhere_26 : decode cX4_turnsLeftEverywhere 26 = .ok (.iload_n 2, 1) := by decide +kernel
theorem dX4_turnsLeftEverywhere_27 : decode cX4_turnsLeftEverywhere 27 = .ok (.iaload, 1) := by decide +kernel
theorem dX4_turnsLeftEverywhere_28 : decode cX4_turnsLeftEverywhere 28 = .ok (.aload_n 0, 1) := by decide +kernel
theorem dX4_turnsLeftEverywhere_29 : decode cX4_turnsLeftEverywhere 29 = .ok (.getfield 9, 3) := by decide +kernel
theorem dX4_turnsLeftEverywhere_32 : decode cX4_turnsLeftEverywhere 32 = .ok (.iload_n 1, 1) := by decide +kernel
theorem dX4_turnsLeftEverywhere_33 : decode cX4_turnsLeftEverywhere 33 = .ok (.iaload, 1) := by decide +kernel
theorem dX4_turnsLeftEverywhere_34 : decode cX4_turnsLeftEverywhere 34 = .ok (.isub, 1) := by decide +kernel
theorem dX4_turnsLeftEverywhere_35 : decode cX4_turnsLeftEverywhere 35 = .ok (.i2l, 1) := by decide +kernel
theorem dX4_turnsLeftEverywhere_36 : decode cX4_turnsLeftEverywhere 36 = .ok (.aload_n 0, 1) := by decide +kernel
theorem dX4_turnsLeftEverywhere_37 : decode cX4_turnsLeftEverywhere 37 = .ok (.getfield 15, 3) := by decide +kernel
theorem dX4_turnsLeftEverywhere_40 : decode cX4_turnsLeftEverywhere 40 = .ok (.iload_n 3, 1) := by decide +kernel
theorem dX4_turnsLeftEverywhere_41 : decode cX4_turnsLeftEverywhere 41 = .ok (.iaload, 1) := by decide +kernel
theorem dX4_turnsLeftEverywhere_42 : decode cX4_turnsLeftEverywhere 42 = .ok (.aload_n 0, 1) := by decide +kernel
theorem dX4_turnsLeftEverywhere_43 : decode cX4_turnsLeftEverywhere 43 = .ok (.getfield 15, 3) := by decide +kernel
theorem dX4_turnsLeftEverywhere_46 : decode cX4_turnsLeftEverywhere 46 = .ok (.iload_n 2, 1) := by decide +kernel
theorem dX4_turnsLeftEverywhere_47 : decode cX4_turnsLeftEverywhere 47 = .ok (.iaload, 1) := by decide +kernel
theorem dX4_turnsLeftEverywhere_48 : decode cX4_turnsLeftEverywhere 48 = .ok (.isub, 1) := by decide +kernel
theorem dX4_turnsLeftEverywhere_49 : decode cX4_turnsLeftEverywhere 49 = .ok (.i2l, 1) := by decide +kernel
theorem dX4_turnsLeftEverywhere_50 : decode cX4_turnsLeftEverywhere 50 = .ok (.lmul, 1) := by decide +kernel
theorem dX4_turnsLeftEverywhere_51 : decode cX4_turnsLeftEverywhere 51 = .ok (.aload_n 0, 1) := by decide +kernel
theorem dX4_turnsLeftEverywhere_52 : decode cX4_turnsLeftEverywhere 52 = .ok (.getfield 15, 3) := by decide +kernel
theorem dX4_turnsLeftEverywhere_55 : decode cX4_turnsLeftEverywhere 55 = .ok (.iload_n 2, 1) := by decide +kernel
theorem dX4_turnsLeftEverywhere_56 : decode cX4_turnsLeftEverywhere 56 = .ok (.iaload, 1) := by decide +kernel
theorem dX4_turnsLeftEverywhere_57 : decode cX4_turnsLeftEverywhere 57 = .ok (.aload_n 0, 1) := by decide +kernel
theorem dX4_turnsLeftEverywhere_58 : decode cX4_turnsLeftEverywhere 58 = .ok (.getfield 15, 3) := by decide +kernel
theorem dX4_turnsLeftEverywhere_61 : decode cX4_turnsLeftEverywhere 61 = .ok (.iload_n 1, 1) := by decide +kernel
theorem dX4_turnsLeftEverywhere_62 : decode cX4_turnsLeftEverywhere 62 = .ok (.iaload, 1) := by decide +kernel
theorem dX4_turnsLeftEverywhere_63 : decode cX4_turnsLeftEverywhere 63 = .ok (.isub, 1) := by decide +kernel
theorem dX4_turnsLeftEverywhere_64 : decode cX4_turnsLeftEverywhere 64 = .ok (.i2l, 1) := by decide +kernel
theorem dX4_turnsLeftEverywhere_65 : decode cX4_turnsLeftEverywhere 65 = .ok (.aload_n 0, 1) := by decide +kernel
theorem dX4_turnsLeftEverywhere_66 : decode cX4_turnsLeftEverywhere 66 = .ok (.getfield 9, 3) := by decide +kernel
theorem dX4_turnsLeftEverywhere_69 : decode cX4_turnsLeftEverywhere 69 = .ok (.iload_n 3, 1) := by decide +kernel
theorem dX4_turnsLeftEverywhere_70 : decode cX4_turnsLeftEverywhere 70 = .ok (.iaload, 1) := by decide +kernel
theorem dX4_turnsLeftEverywhere_71 : decode cX4_turnsLeftEverywhere 71 = .ok (.aload_n 0, 1) := by decide +kernel
theorem dX4_turnsLeftEverywhere_72 : decode cX4_turnsLeftEverywhere 72 = .ok (.getfield 9, 3) := by decide +kernel
theorem dX4_turnsLeftEverywhere_75 : decode cX4_turnsLeftEverywhere 75 = .ok (.iload_n 2, 1) := by decide +kernel
theorem dX4_turnsLeftEverywhere_76 : decode cX4_turnsLeftEverywhere 76 = .ok (.iaload, 1) := by decide +kernel
theorem dX4_turnsLeftEverywhere_77 : decode cX4_turnsLeftEverywhere 77 = .ok (.isub, 1) := by decide +kernel
theorem dX4_turnsLeftEverywhere_78 : decode cX4_turnsLeftEverywhere 78 = .ok (.i2l, 1) := by decide +kernel
theorem dX4_turnsLeftEverywhere_79 : decode cX4_turnsLeftEverywhere 79 = .ok (.lmul, 1) := by decide +kernel
theorem dX4_turnsLeftEverywhere_80 : decode cX4_turnsLeftEverywhere 80 = .ok (.lsub, 1) := by decide +kernel
theorem dX4_turnsLeftEverywhere_81 : decode cX4_turnsLeftEverywhere 81 = .ok (.lstore 4, 2) := by decide +kernel
theorem dX4_turnsLeftEverywhere_83 : decode cX4_turnsLeftEverywhere 83 = .ok (.lload 4, 2) := by decide +kernel
theorem dX4_turnsLeftEverywhere_85 : decode cX4_turnsLeftEverywhere 85 = .ok (.lconst 0, 1) := by decide +kernel
theorem dX4_turnsLeftEverywhere_86 : decode cX4_turnsLeftEverywhere 86 = .ok (.lcmp, 1) := by decide +kernel
theorem dX4_turnsLeftEverywhere_87 : decode cX4_turnsLeftEverywhere 87 = .ok (.ifCond .gt 5, 3) := by decide +kernel
theorem dX4_turnsLeftEverywhere_90 : decode cX4_turnsLeftEverywhere 90 = .ok (.iconst 0, 1) := by decide +kernel
theorem dX4_turnsLeftEverywhere_91 : decode cX4_turnsLeftEverywhere 91 = .ok (.ireturn, 1) := by decide +kernel
theorem dX4_turnsLeftEverywhere_92 : decode cX4_turnsLeftEverywhere 92 = .ok (.iinc 1 1, 3) := by decide +kernel
theorem dX4_turnsLeftEverywhere_95 : decode cX4_turnsLeftEverywhere 95 = .ok (.goto (-93), 3) := by decide +kernel
theorem dX4_turnsLeftEverywhere_98 : decode cX4_turnsLeftEverywhere 98 = .ok (.iconst 1, 1) := by decide +kernel
theorem dX4_turnsLeftEverywhere_99 : decode cX4_turnsLeftEverywhere 99 = .ok (.ireturn, 1) := by decide +kernel
set_option maxRecDepth 20000 in
theorem ggX4_countTurnsOfY_X4_after : GoodIn wsX4_countTurnsOfY wsX4_after := goodIn_r _ [7, 1, 12, 13, 14, 15] (by decide +kernel) (by decide +kernel)
set_option maxRecDepth 20000 in
theorem gX4_countTurnsOfY_X4_after : GoodIn wsX4_countTurnsOfY (wsV RX4 35 RX4 yX4_after wsX4_after) := goodIn_app (goodIn_of _ (by decide +kernel)) ggX4_countTurnsOfY_X4_after
set_option maxRecDepth 20000 in
theorem ggX4_countTurnsOfY_J6_compare_7cf53 : GoodIn wsX4_countTurnsOfY wsJ6_compare_7cf53 := goodIn_r _ [11] (by decide +kernel) (by decide +kernel)
set_option maxRecDepth 20000 in
theorem gX4_countTurnsOfY_J6_compare_7cf53 : GoodIn wsX4_countTurnsOfY (va_wsS RX4 59 yJ6_compare_7cf53 wsJ6_compare_7cf53) := goodIn_app (goodIn_of _ (by decide +kernel)) ggX4_countTurnsOfY_J6_compare_7cf53
theorem dX4_countTurnsOfY_0 : decode cX4_countTurnsOfY 0 = .ok (.iconst 0, 1) := by decide +kernel
theorem dX4_countTurnsOfY_1 : decode cX4_countTurnsOfY 1 = .ok (.istore_n 1, 1) := by decide +kernel
theorem dX4_countTurnsOfY_2 : decode cX4_countTurnsOfY 2 = .ok (.iconst 0, 1) := by decide +kernel
theorem dX4_countTurnsOfY_3 : decode cX4_countTurnsOfY 3 = .ok (.istore_n 2, 1) := by decide +kernel
theorem dX4_countTurnsOfY_4 : decode cX4_countTurnsOfY 4 = .ok (.iconst 0, 1) := by decide +kernel
theorem dX4_countTurnsOfY_5 : decode cX4_countTurnsOfY 5 = .ok (.istore_n 3, 1) := by decide +kernel
theorem dX4_countTurnsOfY_6 : decode cX4_countTurnsOfY 6 = .ok (.iload_n 3, 1) := by decide +kernel
theorem dX4_countTurnsOfY_7 : decode cX4_countTurnsOfY 7 = .ok (.aload_n 0, 1) := by decide +kernel
theorem dX4_countTurnsOfY_8 : decode cX4_countTurnsOfY 8 = .ok (.getfield 28, 3) := by decide +kernel
theorem dX4_countTurnsOfY_11 : decode cX4_countTurnsOfY 11 = .ok (.if_icmp .ge 42, 3) := by decide +kernel
theorem dX4_countTurnsOfY_14 : decode cX4_countTurnsOfY 14 = .ok (.aload_n 0, 1) := by decide +kernel
theorem dX4_countTurnsOfY_15 : decode cX4_countTurnsOfY 15 = .ok (.getfield 15, 3) := by decide +kernel
theorem dX4_countTurnsOfY_18 : decode cX4_countTurnsOfY 18 = .ok (.aload_n 0, 1) := by decide +kernel
theorem dX4_countTurnsOfY_19 : decode cX4_countTurnsOfY 19 = .ok (.iload_n 3, 1) := by decide +kernel
theorem dX4_countTurnsOfY_20 : decode cX4_countTurnsOfY 20 = .ok (.invokevirtual 35, 3) := by decide +kernel
theorem dX4_countTurnsOfY_23 : decode cX4_countTurnsOfY 23 = .ok (.iaload, 1) := by decide +kernel
theorem dX4_countTurnsOfY_24 : decode cX4_countTurnsOfY 24 = .ok (.aload_n 0, 1) := by decide +kernel
theorem dX4_countTurnsOfY_25 : decode cX4_countTurnsOfY 25 = .ok (.getfield 15, 3) := by decide +kernel
theorem dX4_countTurnsOfY_28 : decode cX4_countTurnsOfY 28 = .ok (.iload_n 3, 1) := by decide +kernel
theorem dX4_countTurnsOfY_29 : decode cX4_countTurnsOfY 29 = .ok (.iaload, 1) := by decide +kernel
theorem dX4_countTurnsOfY_30 : decode cX4_countTurnsOfY 30 = .ok (.invokestatic 59, 3) := by decide +kernel
theorem dX4_countTurnsOfY_33 : decode cX4_countTurnsOfY 33 = .ok (.istore 4, 2) := by decide +kernel
theorem dX4_countTurnsOfY_35 : decode cX4_countTurnsOfY 35 = .ok (.iload 4, 2) := by decide +kernel
theorem dX4_countTurnsOfY_37 : decode cX4_countTurnsOfY 37 = .ok (.ifCond .ne 7, 3) := by decide +kernel
theorem dX4_countTurnsOfY_40 : decode cX4_countTurnsOfY 40 = .ok (.iload_n 2, 1) := by decide +kernel
theorem dX4_countTurnsOfY_41 : decode cX4_countTurnsOfY 41 = .ok (.goto 5, 3) := by decide +kernel
theorem dX4_countTurnsOfY_44 : decode cX4_countTurnsOfY 44 = .ok (.iload 4, 2) := by decide +kernel
theorem dX4_countTurnsOfY_46 : decode cX4_countTurnsOfY 46 = .ok (.istore_n 2, 1) := by decide +kernel
theorem dX4_countTurnsOfY_47 : decode cX4_countTurnsOfY 47 = .ok (.iinc 3 1, 3) := by decide +kernel
theorem dX4_countTurnsOfY_50 : decode cX4_countTurnsOfY 50 = .ok (.goto (-44), 3) := by decide +kernel
theorem dX4_countTurnsOfY_53 : decode cX4_countTurnsOfY 53 = .ok (.iconst 0, 1) := by decide +kernel
theorem dX4_countTurnsOfY_54 : decode cX4_countTurnsOfY 54 = .ok (.istore_n 3, 1) := by decide +kernel
theorem dX4_countTurnsOfY_55 : decode cX4_countTurnsOfY 55 = .ok (.iload_n 3, 1) := by decide +kernel
theorem dX4_countTurnsOfY_56 : decode cX4_countTurnsOfY 56 = .ok (.aload_n 0, 1) := by decide +kernel
theorem dX4_countTurnsOfY_57 : decode cX4_countTurnsOfY 57 = .ok (.getfield 28, 3) := by decide +kernel
theorem dX4_countTurnsOfY_60 : decode cX4_countTurnsOfY 60 = .ok (.if_icmp .ge 47, 3) := by decide +kernel
theorem dX4_countTurnsOfY_63 : decode cX4_countTurnsOfY 63 = .ok (.aload_n 0, 1) := by decide +kernel
theorem dX4_countTurnsOfY_64 : decode cX4_countTurnsOfY 64 = .ok (.getfield 15, 3) := by decide +kernel
theorem dX4_countTurnsOfY_67 : decode cX4_countTurnsOfY 67 = .ok (.aload_n 0, 1) := by decide +kernel
theorem dX4_countTurnsOfY_68 : decode cX4_countTurnsOfY 68 = .ok (.iload_n 3, 1) := by decide +kernel
theorem dX4_countTurnsOfY_69 : decode cX4_countTurnsOfY 69 = .ok (.invokevirtual 35, 3) := by decide +kernel
theorem dX4_countTurnsOfY_72 : decode cX4_countTurnsOfY 72 = .ok (.iaload, 1) := by decide +kernel
theorem dX4_countTurnsOfY_73 : decode cX4_countTurnsOfY 73 = .ok (.aload_n 0, 1) := by decide +kernel
theorem dX4_countTurnsOfY_74 : decode cX4_countTurnsOfY 74 = .ok (.getfield 15, 3) := by decide +kernel
theorem dX4_countTurnsOfY_77 : decode cX4_countTurnsOfY 77 = .ok (.iload_n 3, 1) := by decide +kernel
theorem dX4_countTurnsOfY_78 : decode cX4_countTurnsOfY 78 = .ok (.iaload, 1) := by decide +kernel
theorem dX4_countTurnsOfY_79 : decode cX4_countTurnsOfY 79 = .ok (.invokestatic 59, 3) := by decide +kernel
theorem dX4_countTurnsOfY_82 : decode cX4_countTurnsOfY 82 = .ok (.istore 4, 2) := by decide +kernel
theorem dX4_countTurnsOfY_84 : decode cX4_countTurnsOfY 84 = .ok (.iload 4, 2) := by decide +kernel
theorem dX4_countTurnsOfY_86 : decode cX4_countTurnsOfY 86 = .ok (.ifCond .eq 15, 3) := by decide +kernel
theorem dX4_countTurnsOfY_89 : decode cX4_countTurnsOfY 89 = .ok (.iload 4, 2) := by decide +kernel
theorem dX4_countTurnsOfY_91 : decode cX4_countTurnsOfY 91 = .ok (.iload_n 2, 1) := by decide +kernel
theorem dX4_countTurnsOfY_92 : decode cX4_countTurnsOfY 92 = .ok (.if_icmp .eq 9, 3) := by decide +kernel
theorem dX4_countTurnsOfY_95 : decode cX4_countTurnsOfY 95 = .ok (.iinc 1 1, 3) := by decide +kernel
theorem dX4_countTurnsOfY_98 : decode cX4_countTurnsOfY 98 = .ok (.iload 4, 2) := by decide +kernel
theorem dX4_countTurnsOfY_100 : decode cX4_countTurnsOfY 100 = .ok (.istore_n 2, 1) := by decide +kernel
theorem dX4_countTurnsOfY_101 : decode cX4_countTurnsOfY 101 = .ok (.iinc 3 1, 3) := by decide +kernel
theorem dX4_countTurnsOfY_104 : decode cX4_countTurnsOfY 104 = .ok (.goto (-49), 3) := by decide +kernel
theorem dX4_countTurnsOfY_107 : decode cX4_countTurnsOfY 107 = .ok (.iload_n 1, 1) := by decide +kernel
theorem dX4_countTurnsOfY_108 : decode cX4_countTurnsOfY 108 = .ok (.ireturn, 1) := by decide +kernel
theorem dX4_after_0 : decode cX4_after 0 = .ok (.iload_n 1, 1) := by decide +kernel
theorem dX4_after_1 : decode cX4_after 1 = .ok (.iconst 1, 1) := by decide +kernel
theorem dX4_after_2 : decode cX4_after 2 = .ok (.iadd, 1) := by decide +kernel
theorem dX4_after_3 : decode cX4_after 3 = .ok (.aload_n 0, 1) := by decide +kernel
theorem dX4_after_4 : decode cX4_after 4 = .ok (.getfield 28, 3) := by decide +kernel
theorem dX4_after_7 : decode cX4_after 7 = .ok (.if_icmp .ge 9, 3) := by decide +kernel
theorem dX4_after_10 : decode cX4_after 10 = .ok (.iload_n 1, 1) := by decide +kernel
theorem dX4_after_11 : decode cX4_after 11 = .ok (.iconst 1, 1) := by decide +kernel
theorem dX4_after_12 : decode cX4_after 12 = .ok (.iadd, 1) := by decide +kernel
theorem dX4_after_13 : decode cX4_after 13 = .ok (.goto 4, 3) := by decide +kernel
theorem dX4_after_16 : decode cX4_after 16 = .ok (.iconst 0, 1) := by decide +kernel
theorem dX4_after_17 : decode cX4_after 17 = .ok (.ireturn, 1) := by decide +kernel
theorem dX5_init_0 : decode cX5_init 0 = .ok (.aload_n 0, 1) := by decide +kernel
theorem dX5_init_1 : decode cX5_init 1 = .ok (.invokespecial 3, 3) := by decide +kernel
theorem dX5_init_4 : decode cX5_init 4 = .ok (.aload_n 0, 1) := by decide +kernel
theorem dX5_init_5 : decode cX5_init 5 = .ok (.bipush 8, 2) := by decide +kernel
theorem dX5_init_7 : decode cX5_init 7 = .ok (.newarray .int, 2) := by decide +kernel
theorem dX5_init_9 : decode cX5_init 9 = .ok (.putfield 9, 3) := by decide +kernel
theorem dX5_init_12 : decode cX5_init 12 = .ok (.aload_n 0, 1) := by decide +kernel
theorem dX5_init_13 : decode cX5_init 13 = .ok (.bipush 8, 2) := by decide +kernel
theorem dX5_init_15 : decode cX5_init 15 = .ok (.newarray .int, 2) := by decide +kernel
theorem dX5_init_17 : decode cX5_init 17 = .ok (.putfield 15, 3) := by decide +kernel
theorem dX5_init_20 : decode cX5_init 20 = .ok (.return_, 1) := by decide +kernel
set_option maxRecDepth 20000 in
theorem ggX5_findFlaw_X5_startNumber : GoodIn wsX5_findFlaw wsX5_startNumber := goodIn_r _ [8, 9, 3, 10, 89, 90, 91, 92, 93, 94, 95] (by decide +kernel) (by decide +kernel)
set_option maxRecDepth 20000 in
theorem gX5_findFlaw_X5_startNumber : GoodIn wsX5_findFlaw (wsV RX5 26 RX5 yX5_startNumber wsX5_startNumber) := goodIn_app (goodIn_of _ (by decide +kernel)) ggX5_findFlaw_X5_startNumber
set_option maxRecDepth 20000 in
theorem ggX5_findFlaw_J4_length_8abf5 : GoodIn wsX5_findFlaw wsJ4_length_8abf5 := goodIn_r _ [15, 16, 17, 18, 19, 20, 21, 22, 96, 97, 98, 99] (by decide +kernel) (by decide +kernel)
set_option maxRecDepth 20000 in
theorem gX5_findFlaw_J4_length_8abf5 : GoodIn wsX5_findFlaw (wsV RX5 29 RJ4 yJ4_length_8abf5 wsJ4_length_8abf5) := goodIn_app (goodIn_of _ (by decide +kernel)) ggX5_findFlaw_J4_length_8abf5
set_option maxRecDepth 20000 in
theorem ggX5_findFlaw_J4_charAt_5068e : GoodIn wsX5_findFlaw wsJ4_charAt_5068e := goodIn_r _ [26, 27, 28, 18, 29, 20, 30, 31, 32, 22, 33, 34, 35, 36, 37, 38, 39, 40, 41, 42, 43, 44, 45, 46, 47, 48, 49, 50, 51, 52, 53, 54, 55, 96, 97, 98, 99] (by decide +kernel) (by decide +kernel)
set_option maxRecDepth 20000 in
theorem gX5_findFlaw_J4_charAt_5068e : GoodIn wsX5_findFlaw (wsV RX5 35 RJ4 yJ4_charAt_5068e wsJ4_charAt_5068e) := goodIn_app (goodIn_of _ (by decide +kernel)) ggX5_findFlaw_J4_charAt_5068e
set_option maxRecDepth 20000 in
theorem ggX5_findFlaw_X5_takes : GoodIn wsX5_findFlaw wsX5_takes := goodIn_r _ [59, 60, 61, 62, 7, 63, 9, 3, 64, 65, 66, 67, 2, 1, 68, 69, 70, 71, 72, 10, 4, 5, 6, 8, 73, 74, 75, 76, 77, 78, 79, 80, 81, 82, 83, 84, 85, 86, 87, 88, 89, 90, 91, 92, 93, 94, 95] (by decide +kernel) (by decide +kernel)
set_option maxRecDepth 20000 in
theorem gX5_findFlaw_X5_takes : GoodIn wsX5_findFlaw (wsV RX5 39 RX5 yX5_takes wsX5_takes) := goodIn_app (goodIn_of _ (by decide +kernel)) ggX5_findFlaw_X5_takes
set_option maxRecDepth 20000 in
theorem ggX5_findFlaw_X5_endCorner : GoodIn wsX5_findFlaw wsX5_endCorner := goodIn_r _ [80, 1, 81, 2, 69, 70, 71, 7, 72, 9, 10, 4, 5, 6, 8, 3, 89, 90, 91, 92, 93, 94, 95] (by decide +kernel) (by decide +kernel)
set_option maxRecDepth 20000 in
theorem gX5_findFlaw_X5_endCorner : GoodIn wsX5_findFlaw (wsV RX5 46 RX5 yX5_endCorner wsX5_endCorner) := goodIn_app (goodIn_of _ (by decide +kernel)) ggX5_findFlaw_X5_endCorner
theorem dX5_findFlaw_0 : decode cX5_findFlaw 0 = .ok (.aload_n 0, 1) := by decide +kernel
theorem dX5_findFlaw_1 : decode cX5_findFlaw 1 = .ok (.iconst 0, 1) := by decide +kernel
theorem dX5_findFlaw_2 : decode cX5_findFlaw 2 = .ok (.putfield 18, 3) := by decide +kernel
theorem dX5_findFlaw_5 : decode cX5_findFlaw 5 = .ok (.aload_n 0, 1) := by decide +kernel
theorem dX5_findFlaw_6 : decode cX5_findFlaw 6 = .ok (.iconst 0, 1) := by decide +kernel
theorem dX5_findFlaw_7 : decode cX5_findFlaw 7 = .ok (.putfield 22, 3) := by decide +kernel
theorem dX5_findFlaw_10 : decode cX5_findFlaw 10 = .ok (.aload_n 0, 1) := by decide +kernel
theorem dX5_findFlaw_11 : decode cX5_findFlaw 11 = .ok (.invokevirtual 26, 3) := by decide +kernel
theorem dX5_findFlaw_14 : decode cX5_findFlaw 14 = .ok (.iconst 0, 1) := by decide +kernel
theorem dX5_findFlaw_15 : decode cX5_findFlaw 15 = .ok (.istore_n 2, 1) := by decide +kernel
theorem dX5_findFlaw_16 : decode cX5_findFlaw 16 = .ok (.iload_n 2, 1) := by decide +kernel
theorem dX5_findFlaw_17 : decode cX5_findFlaw 17 = .ok (.aload_n 1, 1) := by decide +kernel
theorem dX5_findFlaw_18 : decode cX5_findFlaw 18 = .ok (.invokevirtual 29, 3) := by decide +kernel
theorem dX5_findFlaw_21 : decode cX5_findFlaw 21 = .ok (.if_icmp .ge 23, 3) := by decide +kernel
theorem dX5_findFlaw_24 : decode cX5_findFlaw 24 = .ok (.aload_n 0, 1) := by decide +kernel
theorem dX5_findFlaw_25 : decode cX5_findFlaw 25 = .ok (.aload_n 1, 1) := by decide +kernel
theorem dX5_findFlaw_26 : decode cX5_findFlaw 26 = .ok (.iload_n 2, 1) := by decide +kernel
theorem dX5_findFlaw_27 : decode cX5_findFlaw 27 = .ok (.invokevirtual 35, 3) := by decide +kernel
theorem dX5_findFlaw_30 : decode cX5_findFlaw 30 = .ok (.invokevirtual 39, 3) := by decide +kernel
theorem dX5_findFlaw_33 : decode cX5_findFlaw 33 = .ok (.ifCond .ne 5, 3) := by decide +kernel
theorem dX5_findFlaw_36 : decode cX5_findFlaw 36 = .ok (.iload_n 2, 1) := by decide +kernel
theorem dX5_findFlaw_37 : decode cX5_findFlaw 37 = .ok (.ireturn, 1) := by decide +kernel
theorem dX5_findFlaw_38 : decode cX5_findFlaw 38 = .ok (.iinc 2 1, 3) := by decide +kernel
theorem dX5_findFlaw_41 : decode cX5_findFlaw 41 = .ok (.goto (-25), 3) := by decide +kernel
theorem dX5_findFlaw_44 : decode cX5_findFlaw 44 = .ok (.aload_n 0, 1) := by decide +kernel
theorem dX5_findFlaw_45 : decode cX5_findFlaw 45 = .ok (.getfield 22, 3) := by decide +kernel
theorem dX5_findFlaw_48 : decode cX5_findFlaw 48 = .ok (.ifCond .eq 10, 3) := by decide +kernel
theorem dX5_findFlaw_51 : decode cX5_findFlaw 51 = .ok (.aload_n 0, 1) := by decide +kernel
theorem dX5_findFlaw_52 : decode cX5_findFlaw 52 = .ok (.getfield 43, 3) := by decide +kernel
theorem dX5_findFlaw_55 : decode cX5_findFlaw 55 = .ok (.ifCond .ne 8, 3) := by decide +kernel
theorem dX5_findFlaw_58 : decode cX5_findFlaw 58 = .ok (.aload_n 1, 1) := by decide +kernel
theorem dX5_findFlaw_59 : decode cX5_findFlaw 59 = .ok (.invokevirtual 29, 3) := by decide +kernel
theorem dX5_findFlaw_62 : decode cX5_findFlaw 62 = .ok (.ireturn, 1) := by decide +kernel
theorem dX5_findFlaw_63 : decode cX5_findFlaw 63 = .ok (.aload_n 0, 1) := by decide +kernel
theorem dX5_findFlaw_64 : decode cX5_findFlaw 64 = .ok (.invokevirtual 46, 3) := by decide +kernel
theorem dX5_findFlaw_67 : decode cX5_findFlaw 67 = .ok (.bipush (-6), 2) := by decide +kernel
theorem dX5_findFlaw_69 : decode cX5_findFlaw 69 = .ok (.ireturn, 1) := by decide +kernel
set_option maxRecDepth 20000 in
theorem ggX5_takes_X5_takesMinus : GoodIn wsX5_takes wsX5_takesMinus := goodIn_r _ [5, 6, 7, 40, 41, 42, 43, 44, 45, 46] (by decide +kernel) (by decide +kernel)
set_option maxRecDepth 20000 in
theorem gX5_takes_X5_takesMinus : GoodIn wsX5_takes (wsV RX5 49 RX5 yX5_takesMinus wsX5_takesMinus) := goodIn_app (goodIn_of _ (by decide +kernel)) ggX5_takes_X5_takesMinus
set_option maxRecDepth 20000 in
theorem ggX5_takes_X5_takesComma : GoodIn wsX5_takes wsX5_takesComma := goodIn_r _ [11, 12, 7, 13, 14, 15, 16, 17, 4, 18, 6, 19, 20, 21, 22, 23, 40, 41, 42, 43, 44, 45, 46] (by decide +kernel) (by decide +kernel)
set_option maxRecDepth 20000 in
theorem gX5_takes_X5_takesComma : GoodIn wsX5_takes (wsV RX5 53 RX5 yX5_takesComma wsX5_takesComma) := goodIn_app (goodIn_of _ (by decide +kernel)) ggX5_takes_X5_takesComma
set_option maxRecDepth 20000 in
theorem ggX5_takes_X5_takesSlash : GoodIn wsX5_takes wsX5_takesSlash := goodIn_r _ [27, 12, 7, 13, 28, 29, 30, 4, 31, 32, 15, 16, 17, 18, 6, 19, 20, 21, 22, 23, 40, 41, 42, 43, 44, 45, 46] (by decide +kernel) (by decide +kernel)
set_option maxRecDepth 20000 in
theorem gX5_takes_X5_takesSlash : GoodIn wsX5_takes (wsV RX5 56 RX5 yX5_takesSlash wsX5_takesSlash) := goodIn_app (goodIn_of _ (by decide +kernel)) ggX5_takes_X5_takesSlash
set_option maxRecDepth 20000 in
theorem ggX5_takes_X5_takesDigit : GoodIn wsX5_takes wsX5_takesDigit := goodIn_r _ [36, 7, 19, 37, 38, 39, 40, 41, 42, 43, 44, 45, 46] (by decide +kernel) (by decide +kernel)
set_option maxRecDepth 20000 in
theorem gX5_takes_X5_takesDigit : GoodIn wsX5_takes (wsV RX5 59 RX5 yX5_takesDigit wsX5_takesDigit) := goodIn_app (goodIn_of _ (by decide +kernel)) ggX5_takes_X5_takesDigit
theorem dX5_takes_0 : decode cX5_takes 0 = .ok (.iload_n 1, 1) := by decide +kernel
theorem dX5_takes_1 : decode cX5_takes 1 = .ok (.bipush 45, 2) := by decide +kernel
theorem dX5_takes_3 : decode cX5_takes 3 = .ok (.if_icmp .ne 8, 3) := by decide +kernel
theorem dX5_takes_6 : decode cX5_takes 6 = .ok (.aload_n 0, 1) := by decide +kernel
theorem dX5_takes_7 : decode cX5_takes 7 = .ok (.invokevirtual 49, 3) := by decide +kernel
theorem dX5_takes_10 : decode cX5_takes 10 = .ok (.ireturn, 1) := by decide +kernel
theorem dX5_takes_11 : decode cX5_takes 11 = .ok (.iload_n 1, 1) := by decide +kernel
theorem dX5_takes_12 : decode cX5_takes 12 = .ok (.bipush 44, 2) := by decide +kernel
theorem dX5_takes_14 : decode cX5_takes 14 = .ok (.if_icmp .ne 8, 3) := by decide +kernel
theorem dX5_takes_17 : decode cX5_takes 17 = .ok (.aload_n 0, 1) := by decide +kernel
theorem dX5_takes_18 : decode cX5_takes 18 = .ok (.invokevirtual 53, 3) := by decide +kernel
theorem dX5_takes_21 : decode cX5_takes 21 = .ok (.ireturn, 1) := by decide +kernel
theorem dX5_takes_22 : decode cX5_takes 22 = .ok (.iload_n 1, 1) := by decide +kernel
theorem dX5_takes_23 : decode cX5_takes 23 = .ok (.bipush 47, 2) := by decide +kernel
theorem dX5_takes_25 : decode cX5_takes 25 = .ok (.if_icmp .ne 8, 3) := by decide +kernel
theorem dX5_takes_28 : decode cX5_takes 28 = .ok (.aload_n 0, 1) := by decide +kernel
theorem dX5_takes_29 : decode cX5_takes 29 = .ok (.invokevirtual 56, 3) := by decide +kernel
theorem dX5_takes_32 : decode cX5_takes 32 = .ok (.ireturn, 1) := by decide +kernel
theorem dX5_takes_33 : decode cX5_takes 33 = .ok (.aload_n 0, 1) := by decide +kernel
theorem dX5_takes_34 : decode cX5_takes 34 = .ok (.iload_n 1, 1) := by decide +kernel
theorem dX5_takes_35 : decode cX5_takes 35 = .ok (.bipush 48, 2) := by decide +kernel
theorem dX5_takes_37 : decode cX5_takes 37 = .ok (.isub, 1) := by decide +kernel
theorem dX5_takes_38 : decode cX5_takes 38 = .ok (.invokevirtual 59, 3) := by decide +kernel
theorem dX5_takes_41 : decode cX5_takes 41 = .ok (.ireturn, 1) := by decide +kernel
theorem dX5_takesMinus_0 : decode cX5_takesMinus 0 = .ok (.aload_n 0, 1) := by decide +kernel
theorem dX5_takesMinus_1 : decode cX5_takesMinus 1 = .ok (.getfield 63, 3) := by decide +kernel
theorem dX5_takesMinus_4 : decode cX5_takesMinus 4 = .ok (.ifCond .ne 10, 3) := by decide +kernel
theorem dX5_takesMinus_7 : decode cX5_takesMinus 7 = .ok (.aload_n 0, 1) := by decide +kernel
theorem dX5_takesMinus_8 : decode cX5_takesMinus 8 = .ok (.getfield 43, 3) := by decide +kernel
theorem dX5_takesMinus_11 : decode cX5_takesMinus 11 = .ok (.ifCond .le 5, 3) := by decide +kernel
theorem dX5_takesMinus_14 : decode cX5_takesMinus 14 = .ok (.iconst 0, 1) := by decide +kernel
theorem dX5_takesMinus_15 : decode cX5_takesMinus 15 = .ok (.ireturn, 1) := by decide +kernel
theorem dX5_takesMinus_16 : decode cX5_takesMinus 16 = .ok (.aload_n 0, 1) := by decide +kernel
theorem dX5_takesMinus_17 : decode cX5_takesMinus 17 = .ok (.iconst 1, 1) := by decide +kernel
theorem dX5_takesMinus_18 : decode cX5_takesMinus 18 = .ok (.putfield 63, 3) := by decide +kernel
theorem dX5_takesMinus_21 : decode cX5_takesMinus 21 = .ok (.iconst 1, 1) := by decide +kernel
theorem dX5_takesMinus_22 : decode cX5_takesMinus 22 = .ok (.ireturn, 1) := by decide +kernel
set_option maxRecDepth 20000 in
theorem ggX5_takesComma_X5_number : GoodIn wsX5_takesComma wsX5_number := goodIn_r _ [9, 10, 11, 16, 17, 18, 19, 20, 21, 22] (by decide +kernel) (by decide +kernel)
set_option maxRecDepth 20000 in
theorem gX5_takesComma_X5_number : GoodIn wsX5_takesComma (wsV RX5 66 RX5 yX5_number wsX5_number) := goodIn_app (goodIn_of _ (by decide +kernel)) ggX5_takesComma_X5_number
set_option maxRecDepth 20000 in
theorem ggX5_takesComma_X5_startNumber : GoodIn wsX5_takesComma wsX5_startNumber := goodIn_r _ [15, 10, 2, 11, 16, 17, 18, 19, 20, 21, 22] (by decide +kernel) (by decide +kernel)
set_option maxRecDepth 20000 in
theorem gX5_takesComma_X5_startNumber : GoodIn wsX5_takesComma (wsV RX5 26 RX5 yX5_startNumber wsX5_startNumber) := goodIn_app (goodIn_of _ (by decide +kernel)) ggX5_takesComma_X5_startNumber
theorem dX5_takesComma_0 : decode cX5_takesComma 0 = .ok (.aload_n 0, 1) := by decide +kernel
theorem dX5_takesComma_1 : decode cX5_takesComma 1 = .ok (.getfield 22, 3) := by decide +kernel
theorem dX5_takesComma_4 : decode cX5_takesComma 4 = .ok (.ifCond .ne 19, 3) := by decide +kernel
theorem dX5_takesComma_7 : decode cX5_takesComma 7 = .ok (.aload_n 0, 1) := by decide +kernel
theorem dX5_takesComma_8 : decode cX5_takesComma 8 = .ok (.getfield 43, 3) := by decide +kernel
theorem dX5_takesComma_11 : decode cX5_takesComma 11 = .ok (.ifCond .eq 12, 3) := by decide +kernel
theorem dX5_takesComma_14 : decode cX5_takesComma 14 = .ok (.aload_n 0, 1) := by decide +kernel
theorem dX5_takesComma_15 : decode cX5_takesComma 15 = .ok (.getfield 18, 3) := by decide +kernel
theorem dX5_takesComma_18 : decode cX5_takesComma 18 = .ok (.bipush 8, 2) := by decide +kernel
theorem dX5_takesComma_20 : decode cX5_takesComma 20 = .ok (.if_icmp .lt 5, 3) := by decide +kernel
theorem dX5_takesComma_23 : decode cX5_takesComma 23 = .ok (.iconst 0, 1) := by decide +kernel
theorem dX5_takesComma_24 : decode cX5_takesComma 24 = .ok (.ireturn, 1) := by decide +kernel
theorem dX5_takesComma_25 : decode cX5_takesComma 25 = .ok (.aload_n 0, 1) := by decide +kernel
theorem dX5_takesComma_26 : decode cX5_takesComma 26 = .ok (.getfield 9, 3) := by decide +kernel
theorem dX5_takesComma_29 : decode cX5_takesComma 29 = .ok (.aload_n 0, 1) := by decide +kernel
theorem dX5_takesComma_30 : decode cX5_takesComma 30 = .ok (.getfield 18, 3) := by decide +kernel
theorem dX5_takesComma_33 : decode cX5_takesComma 33 = .ok (.aload_n 0, 1) := by decide +kernel
theorem dX5_takesComma_34 : decode cX5_takesComma 34 = .ok (.invokevirtual 66, 3) := by decide +kernel
theorem dX5_takesComma_37 : decode cX5_takesComma 37 = .ok (.iastore, 1) := by decide +kernel
theorem dX5_takesComma_38 : decode cX5_takesComma 38 = .ok (.aload_n 0, 1) := by decide +kernel
theorem dX5_takesComma_39 : decode cX5_takesComma 39 = .ok (.iconst 1, 1) := by decide +kernel
theorem dX5_takesComma_40 : decode cX5_takesComma 40 = .ok (.putfield 22, 3) := by decide +kernel
theorem dX5_takesComma_43 : decode cX5_takesComma 43 = .ok (.aload_n 0, 1) := by decide +kernel
theorem dX5_takesComma_44 : decode cX5_takesComma 44 = .ok (.invokevirtual 26, 3) := by decide +kernel
theorem dX5_takesComma_47 : decode cX5_takesComma 47 = .ok (.iconst 1, 1) := by decide +kernel
theorem dX5_takesComma_48 : decode cX5_takesComma 48 = .ok (.ireturn, 1) := by decide +kernel
set_option maxRecDepth 20000 in
theorem ggX5_takesSlash_X5_endCorner : GoodIn wsX5_takesSlash wsX5_endCorner := goodIn_r _ [8, 3, 9, 1, 10, 11, 12, 7, 13, 14, 15, 16, 17, 18, 19, 2, 20, 21, 22, 23, 24, 25, 26] (by decide +kernel) (by decide +kernel)
set_option maxRecDepth 20000 in
theorem gX5_takesSlash_X5_endCorner : GoodIn wsX5_takesSlash (wsV RX5 46 RX5 yX5_endCorner wsX5_endCorner) := goodIn_app (goodIn_of _ (by decide +kernel)) ggX5_takesSlash_X5_endCorner
theorem dX5_takesSlash_0 : decode cX5_takesSlash 0 = .ok (.aload_n 0, 1) := by decide +kernel
theorem dX5_takesSlash_1 : decode cX5_takesSlash 1 = .ok (.getfield 22, 3) := by decide +kernel
theorem dX5_takesSlash_4 : decode cX5_takesSlash 4 = .ok (.ifCond .eq 19, 3) := by decide +kernel
theorem dX5_takesSlash_7 : decode cX5_takesSlash 7 = .ok (.aload_n 0, 1) := by decide +kernel
theorem dX5_takesSlash_8 : decode cX5_takesSlash 8 = .ok (.getfield 43, 3) := by decide +kernel
theorem dX5_takesSlash_11 : decode cX5_takesSlash 11 = .ok (.ifCond .eq 12, 3) := by decide +kernel
theorem dX5_takesSlash_14 : decode cX5_takesSlash 14 = .ok (.aload_n 0, 1) := by decide +kernel
theorem dX5_takesSlash_15 : decode cX5_takesSlash 15 = .ok (.getfield 18, 3) := by decide +kernel
theorem dX5_takesSlash_18 : decode cX5_takesSlash 18 = .ok (.bipush 7, 2) := by decide +kernel
theorem dX5_takesSlash_20 : decode cX5_takesSlash 20 = .ok (.if_icmp .lt 5, 3) := by decide +kernel
theorem dX5_takesSlash_23 : decode cX5_takesSlash 23 = .ok (.iconst 0, 1) := by decide +kernel
theorem dX5_takesSlash_24 : decode cX5_takesSlash 24 = .ok (.ireturn, 1) := by decide +kernel
theorem dX5_takesSlash_25 : decode cX5_takesSlash 25 = .ok (.aload_n 0, 1) := by decide +kernel
theorem dX5_takesSlash_26 : decode cX5_takesSlash 26 = .ok (.invokevirtual 46, 3) := by decide +kernel
theorem dX5_takesSlash_29 : decode cX5_takesSlash 29 = .ok (.iconst 1, 1) := by decide +kernel
theorem dX5_takesSlash_30 : decode cX5_takesSlash 30 = .ok (.ireturn, 1) := by decide +kernel
set_option maxRecDepth 20000 in
theorem ggX5_takesDigit_X10_outside : GoodIn wsX5_takesDigit wsX10_outside := goodIn_r _ [5] (by decide +kernel) (by decide +kernel)
set_option maxRecDepth 20000 in
theorem gX5_takesDigit_X10_outside_n72 : GoodIn wsX5_takesDigit (wsX10_outside) := ggX5_takesDigit_X10_outside
theorem dX5_takesDigit_0 : decode cX5_takesDigit 0 = .ok (.aload_n 0, 1) := by decide +kernel
theorem dX5_takesDigit_1 : decode cX5_takesDigit 1 = .ok (.getfield 43, 3) := by decide +kernel
theorem dX5_takesDigit_4 : decode cX5_takesDigit 4 = .ok (.ifCond .le 14, 3) := by decide +kernel
theorem dX5_takesDigit_7 : decode cX5_takesDigit 7 = .ok (.aload_n 0, 1) := by decide +kernel
theorem dX5_takesDigit_8 : decode cX5_takesDigit 8 = .ok (.getfield 69, 3) := by decide +kernel
theorem dX5_takesDigit_11 : decode cX5_takesDigit 11 = .ok (.ifCond .ne 7, 3) := by decide +kernel
theorem dX5_takesDigit_14 : decode cX5_takesDigit 14 = .ok (.iconst 1, 1) := by decide +kernel
theorem dX5_takesDigit_15 : decode cX5_takesDigit 15 = .ok (.goto 4, 3) := by decide +kernel
theorem dX5_takesDigit_18 : decode cX5_takesDigit 18 = .ok (.iconst 0, 1) := by decide +kernel
theorem dX5_takesDigit_19 : decode cX5_takesDigit 19 = .ok (.istore_n 2, 1) := by decide +kernel
theorem dX5_takesDigit_20 : decode cX5_takesDigit 20 = .ok (.iload_n 1, 1) := by decide +kernel
theorem dX5_takesDigit_21 : decode cX5_takesDigit 21 = .ok (.iconst 0, 1) := by decide +kernel
theorem dX5_takesDigit_22 : decode cX5_takesDigit 22 = .ok (.bipush 9, 2) := by decide +kernel
theorem dX5_takesDigit_24 : decode cX5_takesDigit 24 = .ok (.invokestatic 72, 3) := by decide +kernel
theorem dX5_takesDigit_27 : decode cX5_takesDigit 27 = .ok (.ifCond .ne 22, 3) := by decide +kernel
theorem dX5_takesDigit_30 : decode cX5_takesDigit 30 = .ok (.iload_n 2, 1) := by decide +kernel
theorem dX5_takesDigit_31 : decode cX5_takesDigit 31 = .ok (.ifCond .ne 18, 3) := by decide +kernel
theorem dX5_takesDigit_34 : decode cX5_takesDigit 34 = .ok (.aload_n 0, 1) := by decide +kernel
theorem dX5_takesDigit_35 : decode cX5_takesDigit 35 = .ok (.getfield 69, 3) := by decide +kernel
theorem dX5_takesDigit_38 : decode cX5_takesDigit 38 = .ok (.bipush 10, 2) := by decide +kernel
theorem dX5_takesDigit_40 : decode cX5_takesDigit 40 = .ok (.imul, 1) := by decide +kernel
theorem dX5_takesDigit_41 : decode cX5_takesDigit 41 = .ok (.iload_n 1, 1) := by decide +kernel
theorem dX5_takesDigit_42 : decode cX5_takesDigit 42 = .ok (.iadd, 1) := by decide +kernel
theorem dX5_takesDigit_43 : decode cX5_takesDigit 43 = .ok (.sipush 20000, 3) := by decide +kernel
theorem dX5_takesDigit_46 : decode cX5_takesDigit 46 = .ok (.if_icmp .le 5, 3) := by decide +kernel
theorem dX5_takesDigit_49 : decode cX5_takesDigit 49 = .ok (.iconst 0, 1) := by decide +kernel
theorem dX5_takesDigit_50 : decode cX5_takesDigit 50 = .ok (.ireturn, 1) := by decide +kernel
theorem dX5_takesDigit_51 : decode cX5_takesDigit 51 = .ok (.aload_n 0, 1) := by decide +kernel
theorem dX5_takesDigit_52 : decode cX5_takesDigit 52 = .ok (.aload_n 0, 1) := by decide +kernel
theorem dX5_takesDigit_53 : decode cX5_takesDigit 53 = .ok (.getfield 69, 3) := by decide +kernel
theorem dX5_takesDigit_56 : decode cX5_takesDigit 56 = .ok (.bipush 10, 2) := by decide +kernel
theorem dX5_takesDigit_58 : decode cX5_takesDigit 58 = .ok (.imul, 1) := by decide +kernel
theorem dX5_takesDigit_59 : decode cX5_takesDigit 59 = .ok (.iload_n 1, 1) := by decide +kernel
theorem dX5_takesDigit_60 : decode cX5_takesDigit 60 = .ok (.iadd, 1) := by decide +kernel
theorem dX5_takesDigit_61 : decode cX5_takesDigit 61 = .ok (.putfield 69, 3) := by decide +kernel
theorem dX5_takesDigit_64 : decode cX5_takesDigit 64 = .ok (.aload_n 0, 1) := by decide +kernel
theorem dX5_takesDigit_65 : decode cX5_takesDigit 65 = .ok (.dup, 1) := by decide +kernel
theorem dX5_takesDigit_66 : decode cX5_takesDigit 66 = .ok (.getfield 43, 3) := by decide +kernel
theorem dX5_takesDigit_69 : decode cX5_takesDigit 69 = .ok (.iconst 1, 1) := by decide +kernel
theorem dX5_takesDigit_70 : decode cX5_takesDigit 70 = .ok (.iadd, 1) := by decide +kernel
theorem dX5_takesDigit_71 : decode cX5_takesDigit 71 = .ok (.putfield 43, 3) := by decide +kernel
theorem dX5_takesDigit_74 : decode cX5_takesDigit 74 = .ok (.iconst 1, 1) := by decide +kernel
theorem dX5_takesDigit_75 : decode cX5_takesDigit 75 = .ok (.ireturn, 1) := by decide +kernel
theorem dX5_startNumber_0 : decode cX5_startNumber 0 = .ok (.aload_n 0, 1) := by decide +kernel
theorem dX5_startNumber_1 : decode cX5_startNumber 1 = .ok (.iconst 0, 1) := by decide +kernel
theorem dX5_startNumber_2 : decode cX5_startNumber 2 = .ok (.putfield 63, 3) := by decide +kernel
theorem dX5_startNumber_5 : decode cX5_startNumber 5 = .ok (.aload_n 0, 1) := by decide +kernel
theorem dX5_startNumber_6 : decode cX5_startNumber 6 = .ok (.iconst 0, 1) := by decide +kernel
theorem dX5_startNumber_7 : decode cX5_startNumber 7 = .ok (.putfield 43, 3) := by decide +kernel
theorem dX5_startNumber_10 : decode cX5_startNumber 10 = .ok (.aload_n 0, 1) := by decide +kernel
theorem dX5_startNumber_11 : decode cX5_startNumber 11 = .ok (.iconst 0, 1) := by decide +kernel
theorem dX5_startNumber_12 : decode cX5_startNumber 12 = .ok (.putfield 69, 3) := by decide +kernel
theorem dX5_startNumber_15 : decode cX5_startNumber 15 = .ok (.return_, 1) := by decide +kernel
theorem dX5_number_0 : decode cX5_number 0 = .ok (.aload_n 0, 1) := by decide +kernel
theorem dX5_number_1 : decode cX5_number 1 = .ok (.getfield 63, 3) := by decide +kernel
theorem dX5_number_4 : decode cX5_number 4 = .ok (.ifCond .eq 11, 3) := by decide +kernel
theorem dX5_number_7 : decode cX5_number 7 = .ok (.aload_n 0, 1) := by decide +kernel
theorem dX5_number_8 : decode cX5_number 8 = .ok (.getfield 69, 3) := by decide +kernel
theorem dX5_number_11 : decode cX5_number 11 = .ok (.ineg, 1) := by decide +kernel
theorem dX5_number_12 : decode cX5_number 12 = .ok (.goto 7, 3) := by decide +kernel
theorem dX5_number_15 : decode cX5_number 15 = .ok (.aload_n 0, 1) := by decide +kernel
theorem dX5_number_16 : decode cX5_number 16 = .ok (.getfield 69, 3) := by decide +kernel
theorem dX5_number_19 : decode cX5_number 19 = .ok (.ireturn, 1) := by decide +kernel
set_option maxRecDepth 20000 in
theorem ggX5_endCorner_X5_number : GoodIn wsX5_endCorner wsX5_number := goodIn_r _ [8, 9, 10, 16, 17, 18, 19, 20, 21, 22] (by decide +kernel) (by decide +kernel)
set_option maxRecDepth 20000 in
theorem gX5_endCorner_X5_number : GoodIn wsX5_endCorner (wsV RX5 66 RX5 yX5_number wsX5_number) := goodIn_app (goodIn_of _ (by decide +kernel)) ggX5_endCorner_X5_number
set_option maxRecDepth 20000 in
theorem ggX5_endCorner_X5_startNumber : GoodIn wsX5_endCorner wsX5_startNumber := goodIn_r _ [14, 9, 15, 10, 16, 17, 18, 19, 20, 21, 22] (by decide +kernel) (by decide +kernel)
set_option maxRecDepth 20000 in
theorem gX5_endCorner_X5_startNumber : GoodIn wsX5_endCorner (wsV RX5 26 RX5 yX5_startNumber wsX5_startNumber) := goodIn_app (goodIn_of _ (by decide +kernel)) ggX5_endCorner_X5_startNumber
theorem dX5_endCorner_0 : decode cX5_endCorner 0 = .ok (.aload_n 0, 1) := by decide +kernel
theorem dX5_endCorner_1 : decode cX5_endCorner 1 = .ok (.getfield 18, 3) := by decide +kernel
theorem dX5_endCorner_4 : decode cX5_endCorner 4 = .ok (.bipush 8, 2) := by decide +kernel
theorem dX5_endCorner_6 : decode cX5_endCorner 6 = .ok (.if_icmp .lt 4, 3) := by decide +kernel
theorem dX5_endCorner_9 : decode cX5_endCorner 9 = .ok (.return_, 1) := by decide +kernel
theorem dX5_endCorner_10 : decode cX5_endCorner 10 = .ok (.aload_n 0, 1) := by decide +kernel
theorem dX5_endCorner_11 : decode cX5_endCorner 11 = .ok (.getfield 15, 3) := by decide +kernel
theorem dX5_endCorner_14 : decode cX5_endCorner 14 = .ok (.aload_n 0, 1) := by decide +kernel
theorem dX5_endCorner_15 : decode cX5_endCorner 15 = .ok (.getfield 18, 3) := by decide +kernel
theorem dX5_endCorner_18 : decode cX5_endCorner 18 = .ok (.aload_n 0, 1) := by decide +kernel
theorem dX5_endCorner_19 : decode cX5_endCorner 19 = .ok (.invokevirtual 66, 3) := by decide +kernel
theorem dX5_endCorner_22 : decode cX5_endCorner 22 = .ok (.iastore, 1) := by decide +kernel
theorem dX5_endCorner_23 : decode cX5_endCorner 23 = .ok (.aload_n 0, 1) := by decide +kernel
theorem dX5_endCorner_24 : decode cX5_endCorner 24 = .ok (.dup, 1) := by decide +kernel
theorem dX5_endCorner_25 : decode cX5_endCorner 25 = .ok (.getfield 18, 3) := by decide +kernel
theorem dX5_endCorner_28 : decode cX5_endCorner 28 = .ok (.iconst 1, 1) := by decide +kernel
theorem dX5_endCorner_29 : decode cX5_endCorner 29 = .ok (.iadd, 1) := by decide +kernel
theorem dX5_endCorner_30 : decode cX5_endCorner 30 = .ok (.putfield 18, 3) := by decide +kernel
theorem dX5_endCorner_33 : decode cX5_endCorner 33 = .ok (.aload_n 0, 1) := by decide +kernel
theorem dX5_endCorner_34 : decode cX5_endCorner 34 = .ok (.iconst 0, 1) := by decide +kernel
theorem dX5_endCorner_35 : decode cX5_endCorner 35 = .ok (.putfield 22, 3) := by decide +kernel
theorem dX5_endCorner_38 : decode cX5_endCorner 38 = .ok (.aload_n 0, 1) := by decide +kernel
theorem dX5_endCorner_39 : decode cX5_endCorner 39 = .ok (.invokevirtual 26, 3) := by decide +kernel
theorem dX5_endCorner_42 : decode cX5_endCorner 42 = .ok (.return_, 1) := by decide +kernel
set_option maxRecDepth 20000 in
theorem ggX6_init_X9_init : GoodIn wsX6_init wsX9_init := goodIn_r _ [42, 43, 2, 3, 44, 45, 98, 99, 100, 101] (by decide +kernel) (by decide +kernel)
set_option maxRecDepth 20000 in
theorem gX6_init_X9_init : GoodIn wsX6_init (wsX9_init) := ggX6_init_X9_init
set_option maxRecDepth 20000 in
theorem ggX6_init_X2_init : GoodIn wsX6_init wsX2_init := goodIn_r _ [47, 48, 2, 3, 6, 49, 50, 102, 103] (by decide +kernel) (by decide +kernel)
set_option maxRecDepth 20000 in
theorem gX6_init_X2_init_n32 : GoodIn wsX6_init (wsX2_init) := ggX6_init_X2_init
set_option maxRecDepth 20000 in
theorem ggX6_init_X7_init : GoodIn wsX6_init wsX7_init := goodIn_r _ [52, 53, 2, 3, 54, 26, 27, 55, 56, 57, 58, 59, 60, 112, 113, 114, 115, 104, 105, 106, 107, 108] (by decide +kernel) (by decide +kernel)
set_option maxRecDepth 20000 in
theorem gX6_init_X7_init_n39 : GoodIn wsX6_init (wsX7_init) := ggX6_init_X7_init
set_option maxRecDepth 20000 in
theorem ggX6_init_X8_init : GoodIn wsX6_init wsX8_init := goodIn_r _ [62, 63, 2, 3, 6, 64, 109, 110, 111] (by decide +kernel) (by decide +kernel)
set_option maxRecDepth 20000 in
theorem gX6_init_X8_init_n46 : GoodIn wsX6_init (wsX8_init) := ggX6_init_X8_init
set_option maxRecDepth 20000 in
theorem ggX6_init_X3_init : GoodIn wsX6_init wsX3_init := goodIn_r _ [59, 60, 2, 3] (by decide +kernel) (by decide +kernel)
set_option maxRecDepth 20000 in
theorem gX6_init_X3_init_n56 : GoodIn wsX6_init (wsX3_init) := ggX6_init_X3_init
set_option maxRecDepth 20000 in
theorem ggX6_init_X0_init : GoodIn wsX6_init wsX0_init := goodIn_r _ [66, 67, 2, 3, 68, 116, 117, 118, 119] (by decide +kernel) (by decide +kernel)
set_option maxRecDepth 20000 in
theorem gX6_init_X0_init_n63 : GoodIn wsX6_init (wsX0_init) := ggX6_init_X0_init
set_option maxRecDepth 20000 in
theorem ggX6_init_X1_init : GoodIn wsX6_init wsX1_init := goodIn_r _ [70, 71, 2, 3, 6, 72, 73, 120, 121, 122] (by decide +kernel) (by decide +kernel)
set_option maxRecDepth 20000 in
theorem gX6_init_X1_init_n70 : GoodIn wsX6_init (wsX1_init) := ggX6_init_X1_init
set_option maxRecDepth 20000 in
theorem ggX6_init_X4_init : GoodIn wsX6_init wsX4_init := goodIn_r _ [75, 76, 2, 3, 6, 77, 78, 79, 123, 124, 125, 126] (by decide +kernel) (by decide +kernel)
set_option maxRecDepth 20000 in
theorem gX6_init_X4_init_n79 : GoodIn wsX6_init (wsX4_init) := ggX6_init_X4_init
theorem dX6_init_0 : decode cX6_init 0 = .ok (.aload_n 0, 1) := by decide +kernel
theorem dX6_init_1 : decode cX6_init 1 = .ok (.invokespecial 3, 3) := by decide +kernel
theorem dX6_init_4 : decode cX6_init 4 = .ok (.aload_n 0, 1) := by decide +kernel
theorem dX6_init_5 : decode cX6_init 5 = .ok (.iconst 5, 1) := by decide +kernel
theorem dX6_init_6 : decode cX6_init 6 = .ok (.anewarray 9, 3) := by decide +kernel
theorem dX6_init_9 : decode cX6_init 9 = .ok (.putfield 11, 3) := by decide +kernel
theorem dX6_init_12 : decode cX6_init 12 = .ok (.aload_n 0, 1) := by decide +kernel
theorem dX6_init_13 : decode cX6_init 13 = .ok (.bipush 8, 2) := by decide +kernel
theorem dX6_init_15 : decode cX6_init 15 = .ok (.newarray .int, 2) := by decide +kernel
theorem dX6_init_17 : decode cX6_init 17 = .ok (.dup, 1) := by decide +kernel
theorem dX6_init_18 : decode cX6_init 18 = .ok (.iconst 0, 1) := by decide +kernel
theorem dX6_init_19 : decode cX6_init 19 = .ok (.bipush 100, 2) := by decide +kernel
theorem dX6_init_21 : decode cX6_init 21 = .ok (.iastore, 1) := by decide +kernel
theorem dX6_init_22 : decode cX6_init 22 = .ok (.dup, 1) := by decide +kernel
theorem dX6_init_23 : decode cX6_init 23 = .ok (.iconst 1, 1) := by decide +kernel
theorem dX6_init_24 : decode cX6_init 24 = .ok (.sipush 1000, 3) := by decide +kernel
theorem dX6_init_27 : decode cX6_init 27 = .ok (.iastore, 1) := by decide +kernel
theorem dX6_init_28 : decode cX6_init 28 = .ok (.dup, 1) := by decide +kernel
theorem dX6_init_29 : decode cX6_init 29 = .ok (.iconst 2, 1) := by decide +kernel
theorem dX6_init_30 : decode cX6_init 30 = .ok (.bipush 48, 2) := by decide +kernel
theorem dX6_init_32 : decode cX6_init 32 = .ok (.iastore, 1) := by decide +kernel
theorem dX6_init_33 : decode cX6_init 33 = .ok (.dup, 1) := by decide +kernel
theorem dX6_init_34 : decode cX6_init 34 = .ok (.iconst 3, 1) := by decide +kernel
theorem dX6_init_35 : decode cX6_init 35 = .ok (.sipush 20000, 3) := by decide +kernel
theorem dX6_init_38 : decode cX6_init 38 = .ok (.iastore, 1) := by decide +kernel
theorem dX6_init_39 : decode cX6_init 39 = .ok (.dup, 1) := by decide +kernel
theorem dX6_init_40 : decode cX6_init 40 = .ok (.iconst 4, 1) := by decide +kernel
theorem dX6_init_41 : decode cX6_init 41 = .ok (.sipush 500, 3) := by decide +kernel
theorem dX6_init_44 : decode cX6_init 44 = .ok (.iastore, 1) := by decide +kernel
theorem dX6_init_45 : decode cX6_init 45 = .ok (.dup, 1) := by decide +kernel
theorem dX6_init_46 : decode cX6_init 46 = .ok (.iconst 5, 1) := by decide +kernel
theorem dX6_init_47 : decode cX6_init 47 = .ok (.iconst 0, 1) := by decide +kernel
theorem dX6_init_48 : decode cX6_init 48 = .ok (.iastore, 1) := by decide +kernel
theorem dX6_init_49 : decode cX6_init 49 = .ok (.dup, 1) := by decide +kernel
theorem dX6_init_50 : decode cX6_init 50 = .ok (.bipush 6, 2) := by decide +kernel
theorem dX6_init_52 : decode cX6_init 52 = .ok (.bipush 24, 2) := by decide +kernel
theorem dX6_init_54 : decode cX6_init 54 = .ok (.iastore, 1) := by decide +kernel
theorem dX6_init_55 : decode cX6_init 55 = .ok (.dup, 1) := by decide +kernel
theorem dX6_init_56 : decode cX6_init 56 = .ok (.bipush 7, 2) := by decide +kernel
theorem dX6_init_58 : decode cX6_init 58 = .ok (.iconst 0, 1) := by decide +kernel
theorem dX6_init_59 : decode cX6_init 59 = .ok (.iastore, 1) := by decide +kernel
theorem dX6_init_60 : decode cX6_init 60 = .ok (.putfield 17, 3) := by decide +kernel
theorem dX6_init_63 : decode cX6_init 63 = .ok (.aload_n 0, 1) := by decide +kernel
theorem dX6_init_64 : decode cX6_init 64 = .ok (.iconst 3, 1) := by decide +kernel
theorem dX6_init_65 : decode cX6_init 65 = .ok (.anewarray 21, 3) := by decide +kernel
theorem dX6_init_68 : decode cX6_init 68 = .ok (.dup, 1) := by decide +kernel
theorem dX6_init_69 : decode cX6_init 69 = .ok (.iconst 0, 1) := by decide +kernel
theorem dX6_init_70 : decode cX6_init 70 = .ok (.new 21, 3) := by decide +kernel
theorem dX6_init_73 : decode cX6_init 73 = .ok (.dup, 1) := by decide +kernel
theorem dX6_init_74 : decode cX6_init 74 = .ok (.iconst 4, 1) := by decide +kernel
theorem dX6_init_75 : decode cX6_init 75 = .ok (.invokespecial 23, 3) := by decide +kernel
theorem dX6_init_78 : decode cX6_init 78 = .ok (.aastore, 1) := by decide +kernel
theorem dX6_init_79 : decode cX6_init 79 = .ok (.dup, 1) := by decide +kernel
theorem dX6_init_80 : decode cX6_init 80 = .ok (.iconst 1, 1) := by decide +kernel
theorem dX6_init_81 : decode cX6_init 81 = .ok (.new 21, 3) := by decide +kernel
theorem dX6_init_84 : decode cX6_init 84 = .ok (.dup, 1) := by decide +kernel
theorem dX6_init_85 : decode cX6_init 85 = .ok (.sipush 480, 3) := by decide +kernel
theorem dX6_init_88 : decode cX6_init 88 = .ok (.invokespecial 23, 3) := by decide +kernel
theorem dX6_init_91 : decode cX6_init 91 = .ok (.aastore, 1) := by decide +kernel
theorem dX6_init_92 : decode cX6_init 92 = .ok (.dup, 1) := by decide +kernel
theorem dX6_init_93 : decode cX6_init 93 = .ok (.iconst 2, 1) := by decide +kernel
theorem dX6_init_94 : decode cX6_init 94 = .ok (.new 21, 3) := by decide +kernel
theorem dX6_init_97 : decode cX6_init 97 = .ok (.dup, 1) := by decide +kernel
theorem dX6_init_98 : decode cX6_init 98 = .ok (.sipush 1200, 3) := by decide +kernel
theorem dX6_init_101 : decode cX6_init 101 = .ok (.invokespecial 23, 3) := by decide +kernel
theorem dX6_init_104 : decode cX6_init 104 = .ok (.aastore, 1) := by decide +kernel
theorem dX6_init_105 : decode cX6_init 105 = .ok (.putfield 26, 3) := by decide +kernel
theorem dX6_init_108 : decode cX6_init 108 = .ok (.aload_n 0, 1) := by decide +kernel
theorem dX6_init_109 : decode cX6_init 109 = .ok (.new 30, 3) := by decide +kernel
theorem dX6_init_112 : decode cX6_init 112 = .ok (.dup, 1) := by decide +kernel
theorem dX6_init_113 : decode cX6_init 113 = .ok (.invokespecial 32, 3) := by decide +kernel
theorem dX6_init_116 : decode cX6_init 116 = .ok (.putfield 33, 3) := by decide +kernel
theorem dX6_init_119 : decode cX6_init 119 = .ok (.aload_n 0, 1) := by decide +kernel
theorem dX6_init_120 : decode cX6_init 120 = .ok (.new 37, 3) := by decide +kernel
theorem dX6_init_123 : decode cX6_init 123 = .ok (.dup, 1) := by decide +kernel
theorem dX6_init_124 : decode cX6_init 124 = .ok (.invokespecial 39, 3) := by decide +kernel
theorem dX6_init_127 : decode cX6_init 127 = .ok (.putfield 40, 3) := by decide +kernel
theorem dX6_init_130 : decode cX6_init 130 = .ok (.aload_n 0, 1) := by decide +kernel
theorem dX6_init_131 : decode cX6_init 131 = .ok (.new 44, 3) := by decide +kernel
theorem dX6_init_134 : decode cX6_init 134 = .ok (.dup, 1) := by decide +kernel
theorem dX6_init_135 : decode cX6_init 135 = .ok (.invokespecial 46, 3) := by decide +kernel
theorem dX6_init_138 : decode cX6_init 138 = .ok (.putfield 47, 3) := by decide +kernel
theorem dX6_init_141 : decode cX6_init 141 = .ok (.aload_n 0, 1) := by decide +kernel
theorem dX6_init_142 : decode cX6_init 142 = .ok (.new 44, 3) := by decide +kernel
theorem dX6_init_145 : decode cX6_init 145 = .ok (.dup, 1) := by decide +kernel
theorem dX6_init_146 : decode cX6_init 146 = .ok (.invokespecial 46, 3) := by decide +kernel
theorem dX6_init_149 : decode cX6_init 149 = .ok (.putfield 51, 3) := by decide +kernel
theorem dX6_init_152 : decode cX6_init 152 = .ok (.aload_n 0, 1) := by decide +kernel
theorem dX6_init_153 : decode cX6_init 153 = .ok (.new 54, 3) := by decide +kernel
theorem dX6_init_156 : decode cX6_init 156 = .ok (.dup, 1) := by decide +kernel
theorem dX6_init_157 : decode cX6_init 157 = .ok (.invokespecial 56, 3) := by decide +kernel
theorem dX6_init_160 : decode cX6_init 160 = .ok (.putfield 57, 3) := by decide +kernel
theorem dX6_init_163 : decode cX6_init 163 = .ok (.aload_n 0, 1) := by decide +kernel
theorem dX6_init_164 : decode cX6_init 164 = .ok (.new 61, 3) := by decide +kernel
theorem dX6_init_167 : decode cX6_init 167 = .ok (.dup, 1) := by decide +kernel
theorem dX6_init_168 : decode cX6_init 168 = .ok (.invokespecial 63, 3) := by decide +kernel
theorem dX6_init_171 : decode cX6_init 171 = .ok (.putfield 64, 3) := by decide +kernel
theorem dX6_init_174 : decode cX6_init 174 = .ok (.aload_n 0, 1) := by decide +kernel
theorem dX6_init_175 : decode cX6_init 175 = .ok (.new 68, 3) := by decide +kernel
theorem dX6_init_178 : decode cX6_init 178 = .ok (.dup, 1) := by decide +kernel
theorem dX6_init_179 : decode cX6_init 179 = .ok (.invokespecial 70, 3) := by decide +kernel
theorem dX6_init_182 : decode cX6_init 182 = .ok (.putfield 71, 3) := by decide +kernel
theorem dX6_init_185 : decode cX6_init 185 = .ok (.aload_n 0, 1) := by decide +kernel
theorem dX6_init_186 : decode cX6_init 186 = .ok (.bipush (-6), 2) := by decide +kernel
theorem dX6_init_188 : decode cX6_init 188 = .ok (.putfield 75, 3) := by decide +kernel
theorem dX6_init_191 : decode cX6_init 191 = .ok (.iconst 0, 1) := by decide +kernel
theorem dX6_init_192 : decode cX6_init 192 = .ok (.istore_n 1, 1) := by decide +kernel
theorem dX6_init_193 : decode cX6_init 193 = .ok (.iload_n 1, 1) := by decide +kernel
theorem dX6_init_194 : decode cX6_init 194 = .ok (.iconst 5, 1) := by decide +kernel
theorem dX6_init_195 : decode cX6_init 195 = .ok (.if_icmp .ge 22, 3) := by decide +kernel
theorem dX6_init_198 : decode cX6_init 198 = .ok (.aload_n 0, 1) := by decide +kernel
theorem dX6_init_199 : decode cX6_init 199 = .ok (.getfield 11, 3) := by decide +kernel
theorem dX6_init_202 : decode cX6_init 202 = .ok (.iload_n 1, 1) := by decide +kernel
theorem dX6_init_203 : decode cX6_init 203 = .ok (.new 9, 3) := by decide +kernel
theorem dX6_init_206 : decode cX6_init 206 = .ok (.dup, 1) := by decide +kernel
theorem dX6_init_207 : decode cX6_init 207 = .ok (.invokespecial 79, 3) := by decide +kernel
theorem dX6_init_210 : decode cX6_init 210 = .ok (.aastore, 1) := by decide +kernel
theorem dX6_init_211 : decode cX6_init 211 = .ok (.iinc 1 1, 3) := by decide +kernel
theorem dX6_init_214 : decode cX6_init 214 = .ok (.goto (-21), 3) := by decide +kernel
theorem dX6_init_217 : decode cX6_init 217 = .ok (.return_, 1) := by decide +kernel
set_option maxRecDepth 20000 in
theorem ggX6_becomeLike_X4_becomeLike : GoodIn wsX6_becomeLike wsX4_becomeLike := goodIn_r _ [27, 28, 29, 5, 6, 7, 30, 31, 32, 119, 120, 121, 122] (by decide +kernel) (by decide +kernel)
set_option maxRecDepth 20000 in
theorem gX6_becomeLike_X4_becomeLike : GoodIn wsX6_becomeLike (wsV RX6 80 RX4 yX4_becomeLike wsX4_becomeLike) := goodIn_app (goodIn_of _ (by decide +kernel)) ggX6_becomeLike_X4_becomeLike
set_option maxRecDepth 20000 in
theorem ggX6_becomeLike_X9_becomeLike : GoodIn wsX6_becomeLike wsX9_becomeLike := goodIn_r _ [37, 38, 39, 40, 41, 123, 124, 125, 126] (by decide +kernel) (by decide +kernel)
set_option maxRecDepth 20000 in
theorem gX6_becomeLike_X9_becomeLike : GoodIn wsX6_becomeLike (wsV RX6 84 RX9 yX9_becomeLike wsX9_becomeLike) := goodIn_app (goodIn_of _ (by decide +kernel)) ggX6_becomeLike_X9_becomeLike
set_option maxRecDepth 20000 in
theorem ggX6_becomeLike_X2_becomeLike : GoodIn wsX6_becomeLike wsX2_becomeLike := goodIn_r _ [46, 47, 48, 5, 6, 7, 49, 127, 128] (by decide +kernel) (by decide +kernel)
set_option maxRecDepth 20000 in
theorem gX6_becomeLike_X2_becomeLike : GoodIn wsX6_becomeLike (wsV RX6 93 RX2 yX2_becomeLike wsX2_becomeLike) := goodIn_app (goodIn_of _ (by decide +kernel)) ggX6_becomeLike_X2_becomeLike
set_option maxRecDepth 20000 in
theorem ggX6_becomeLike_X7_becomeLike : GoodIn wsX6_becomeLike wsX7_becomeLike := goodIn_r _ [54, 55, 56, 57, 58, 59, 60, 61, 62, 63, 64, 65, 66, 67, 68, 69, 70, 71, 72, 129, 130, 131, 132, 133, 134, 135, 136, 137] (by decide +kernel) (by decide +kernel)
set_option maxRecDepth 20000 in
theorem gX6_becomeLike_X7_becomeLike : GoodIn wsX6_becomeLike (wsV RX6 96 RX7 yX7_becomeLike wsX7_becomeLike) := goodIn_app (goodIn_of _ (by decide +kernel)) ggX6_becomeLike_X7_becomeLike
set_option maxRecDepth 20000 in
theorem ggX6_becomeLike_X8_becomeLike : GoodIn wsX6_becomeLike wsX8_becomeLike := goodIn_r _ [77, 78, 79, 5, 6, 7, 80, 81, 138, 139, 140] (by decide +kernel) (by decide +kernel)
set_option maxRecDepth 20000 in
theorem gX6_becomeLike_X8_becomeLike : GoodIn wsX6_becomeLike (wsV RX6 99 RX8 yX8_becomeLike wsX8_becomeLike) := goodIn_app (goodIn_of _ (by decide +kernel)) ggX6_becomeLike_X8_becomeLike
set_option maxRecDepth 20000 in
theorem ggX6_becomeLike_X3_becomeLike : GoodIn wsX6_becomeLike wsX3_becomeLike := goodIn_r _ [64, 65, 66, 67, 68, 69, 70, 71, 63, 72, 134, 135, 136, 137] (by decide +kernel) (by decide +kernel)
set_option maxRecDepth 20000 in
theorem gX6_becomeLike_X3_becomeLike : GoodIn wsX6_becomeLike (wsV RX6 102 RX3 yX3_becomeLike wsX3_becomeLike) := goodIn_app (goodIn_of _ (by decide +kernel)) ggX6_becomeLike_X3_becomeLike
set_option maxRecDepth 20000 in
theorem ggX6_becomeLike_X0_becomeLike : GoodIn wsX6_becomeLike wsX0_becomeLike := goodIn_r _ [87, 88, 89, 90, 91, 141, 142, 143, 144] (by decide +kernel) (by decide +kernel)
set_option maxRecDepth 20000 in
theorem gX6_becomeLike_X0_becomeLike : GoodIn wsX6_becomeLike (wsV RX6 105 RX0 yX0_becomeLike wsX0_becomeLike) := goodIn_app (goodIn_of _ (by decide +kernel)) ggX6_becomeLike_X0_becomeLike
set_option maxRecDepth 20000 in
theorem ggX6_becomeLike_X1_becomeLike : GoodIn wsX6_becomeLike wsX1_becomeLike := goodIn_r _ [96, 97, 98, 5, 6, 7, 99, 100, 145, 146, 147] (by decide +kernel) (by decide +kernel)
set_option maxRecDepth 20000 in
theorem gX6_becomeLike_X1_becomeLike : GoodIn wsX6_becomeLike (wsV RX6 108 RX1 yX1_becomeLike wsX1_becomeLike) := goodIn_app (goodIn_of _ (by decide +kernel)) ggX6_becomeLike_X1_becomeLike
theorem dX6_becomeLike_0 : decode cX6_becomeLike 0 = .ok (.iconst 0, 1) := by decide +kernel
theorem dX6_becomeLike_1 : decode cX6_becomeLike 1 = .ok (.istore_n 2, 1) := by decide +kernel
theorem dX6_becomeLike_2 : decode cX6_becomeLike 2 = .ok (.iload_n 2, 1) := by decide +kernel
theorem dX6_becomeLike_3 : decode cX6_becomeLike 3 = .ok (.iconst 5, 1) := by decide +kernel
theorem dX6_becomeLike_4 : decode cX6_becomeLike 4 = .ok (.if_icmp .ge 24, 3) := by decide +kernel
theorem dX6_becomeLike_7 : decode cX6_becomeLike 7 = .ok (.aload_n 0, 1) := by decide +kernel
theorem dX6_becomeLike_8 : decode cX6_becomeLike 8 = .ok (.getfield 11, 3) := by decide +kernel
theorem dX6_becomeLike_11 : decode cX6_becomeLike 11 = .ok (.iload_n 2, 1) := by decide +kernel
theorem dX6_becomeLike_12 : decode cX6_becomeLike 12 = .ok (.aaload, 1) := by decide +kernel
theorem dX6_becomeLike_13 : decode cX6_becomeLike 13 = .ok (.aload_n 1, 1) := by decide +kernel
theorem dX6_becomeLike_14 : decode cX6_becomeLike 14 = .ok (.getfield 11, 3) := by decide +kernel
theorem dX6_becomeLike_17 : decode cX6_becomeLike 17 = .ok (.iload_n 2, 1) := by decide +kernel
theorem dX6_becomeLike_18 : decode cX6_becomeLike 18 = .ok (.aaload, 1) := by decide +kernel
theorem dX6_becomeLike_19 : decode cX6_becomeLike 19 = .ok (.invokevirtual 80, 3) := by decide +kernel
theorem dX6_becomeLike_22 : decode cX6_becomeLike 22 = .ok (.iinc 2 1, 3) := by decide +kernel
theorem dX6_becomeLike_25 : decode cX6_becomeLike 25 = .ok (.goto (-23), 3) := by decide +kernel
theorem dX6_becomeLike_28 : decode cX6_becomeLike 28 = .ok (.iconst 0, 1) := by decide +kernel
theorem dX6_becomeLike_29 : decode cX6_becomeLike 29 = .ok (.istore_n 2, 1) := by decide +kernel
theorem dX6_becomeLike_30 : decode cX6_becomeLike 30 = .ok (.iload_n 2, 1) := by decide +kernel
theorem dX6_becomeLike_31 : decode cX6_becomeLike 31 = .ok (.iconst 3, 1) := by decide +kernel
theorem dX6_becomeLike_32 : decode cX6_becomeLike 32 = .ok (.if_icmp .ge 24, 3) := by decide +kernel
theorem dX6_becomeLike_35 : decode cX6_becomeLike 35 = .ok (.aload_n 0, 1) := by decide +kernel
theorem dX6_becomeLike_36 : decode cX6_becomeLike 36 = .ok (.getfield 26, 3) := by decide +kernel
theorem dX6_becomeLike_39 : decode cX6_becomeLike 39 = .ok (.iload_n 2, 1) := by decide +kernel
theorem dX6_becomeLike_40 : decode cX6_becomeLike 40 = .ok (.aaload, 1) := by decide +kernel
theorem dX6_becomeLike_41 : decode cX6_becomeLike 41 = .ok (.aload_n 1, 1) := by decide +kernel
theorem dX6_becomeLike_42 : decode cX6_becomeLike 42 = .ok (.getfield 26, 3) := by decide +kernel
theorem dX6_becomeLike_45 : decode cX6_becomeLike 45 = .ok (.iload_n 2, 1) := by decide +kernel
theorem dX6_becomeLike_46 : decode cX6_becomeLike 46 = .ok (.aaload, 1) := by decide +kernel
theorem dX6_becomeLike_47 : decode cX6_becomeLike 47 = .ok (.invokevirtual 84, 3) := by decide +kernel
theorem dX6_becomeLike_50 : decode cX6_becomeLike 50 = .ok (.iinc 2 1, 3) := by decide +kernel
theorem dX6_becomeLike_53 : decode cX6_becomeLike 53 = .ok (.goto (-23), 3) := by decide +kernel
theorem dX6_becomeLike_56 : decode cX6_becomeLike 56 = .ok (.aload_n 1, 1) := by decide +kernel
theorem dX6_becomeLike_57 : decode cX6_becomeLike 57 = .ok (.getfield 17, 3) := by decide +kernel
theorem dX6_becomeLike_60 : decode cX6_becomeLike 60 = .ok (.iconst 0, 1) := by decide +kernel
theorem dX6_becomeLike_61 : decode cX6_becomeLike 61 = .ok (.aload_n 0, 1) := by decide +kernel
theorem dX6_becomeLike_62 : decode cX6_becomeLike 62 = .ok (.getfield 17, 3) := by decide +kernel
theorem dX6_becomeLike_65 : decode cX6_becomeLike 65 = .ok (.iconst 0, 1) := by decide +kernel
theorem dX6_becomeLike_66 : decode cX6_becomeLike 66 = .ok (.bipush 8, 2) := by decide +kernel
theorem dX6_becomeLike_68 : decode cX6_becomeLike 68 = .ok (.invokestatic 87, 3) := by decide +kernel
theorem dX6_becomeLike_71 : decode cX6_becomeLike 71 = .ok (.aload_n 0, 1) := by decide +kernel
theorem dX6_becomeLike_72 : decode cX6_becomeLike 72 = .ok (.getfield 33, 3) := by decide +kernel
theorem dX6_becomeLike_75 : decode cX6_becomeLike 75 = .ok (.aload_n 1, 1) := by decide +kernel
theorem dX6_becomeLike_76 : decode cX6_becomeLike 76 = .ok (.getfield 33, 3) := by decide +kernel
theorem dX6_becomeLike_79 : decode cX6_becomeLike 79 = .ok (.invokevirtual 93, 3) := by decide +kernel
theorem dX6_becomeLike_82 : decode cX6_becomeLike 82 = .ok (.aload_n 0, 1) := by decide +kernel
theorem dX6_becomeLike_83 : decode cX6_becomeLike 83 = .ok (.getfield 40, 3) := by decide +kernel
theorem dX6_becomeLike_86 : decode cX6_becomeLike 86 = .ok (.aload_n 1, 1) := by decide +kernel
theorem dX6_becomeLike_87 : decode cX6_becomeLike 87 = .ok (.getfield 40, 3) := by decide +kernel
theorem dX6_becomeLike_90 : decode cX6_becomeLike 90 = .ok (.invokevirtual 96, 3) := by decide +kernel
theorem dX6_becomeLike_93 : decode cX6_becomeLike 93 = .ok (.aload_n 0, 1) := by decide +kernel
theorem dX6_becomeLike_94 : decode cX6_becomeLike 94 = .ok (.getfield 47, 3) := by decide +kernel
theorem dX6_becomeLike_97 : decode cX6_becomeLike 97 = .ok (.aload_n 1, 1) := by decide +kernel
theorem dX6_becomeLike_98 : decode cX6_becomeLike 98 = .ok (.getfield 47, 3) := by decide +kernel
theorem dX6_becomeLike_101 : decode cX6_becomeLike 101 = .ok (.invokevirtual 99, 3) := by decide +kernel
theorem dX6_becomeLike_104 : decode cX6_becomeLike 104 = .ok (.aload_n 0, 1) := by decide +kernel
theorem dX6_becomeLike_105 : decode cX6_becomeLike 105 = .ok (.getfield 51, 3) := by decide +kernel
theorem dX6_becomeLike_108 : decode cX6_becomeLike 108 = .ok (.aload_n 1, 1) := by decide +kernel
theorem dX6_becomeLike_109 : decode cX6_becomeLike 109 = .ok (.getfield 51, 3) := by decide +kernel
theorem dX6_becomeLike_112 : decode cX6_becomeLike 112 = .ok (.invokevirtual 99, 3) := by decide +kernel
theorem dX6_becomeLike_115 : decode cX6_becomeLike 115 = .ok (.aload_n 0, 1) := by decide +kernel
theorem dX6_becomeLike_116 : decode cX6_becomeLike 116 = .ok (.getfield 57, 3) := by decide +kernel
theorem dX6_becomeLike_119 : decode cX6_becomeLike 119 = .ok (.aload_n 1, 1) := by decide +kernel
theorem dX6_becomeLike_120 : decode cX6_becomeLike 120 = .ok (.getfield 57, 3) := by decide +kernel
theorem dX6_becomeLike_123 : decode cX6_becomeLike 123 = .ok (.invokevirtual 102, 3) := by decide +kernel
theorem dX6_becomeLike_126 : decode cX6_becomeLike 126 = .ok (.aload_n 0, 1) := by decide +kernel
theorem dX6_becomeLike_127 : decode cX6_becomeLike 127 = .ok (.getfield 64, 3) := by decide +kernel
theorem dX6_becomeLike_130 : decode cX6_becomeLike 130 = .ok (.aload_n 1, 1) := by decide +kernel
theorem dX6_becomeLike_131 : decode cX6_becomeLike 131 = .ok (.getfield 64, 3) := by decide +kernel
theorem dX6_becomeLike_134 : decode cX6_becomeLike 134 = .ok (.invokevirtual 105, 3) := by decide +kernel
theorem dX6_becomeLike_137 : decode cX6_becomeLike 137 = .ok (.aload_n 0, 1) := by decide +kernel
theorem dX6_becomeLike_138 : decode cX6_becomeLike 138 = .ok (.getfield 71, 3) := by decide +kernel
theorem dX6_becomeLike_141 : decode cX6_becomeLike 141 = .ok (.aload_n 1, 1) := by decide +kernel
theorem dX6_becomeLike_142 : decode cX6_becomeLike 142 = .ok (.getfield 71, 3) := by decide +kernel
theorem dX6_becomeLike_145 : decode cX6_becomeLike 145 = .ok (.invokevirtual 108, 3) := by decide +kernel
theorem dX6_becomeLike_148 : decode cX6_becomeLike 148 = .ok (.aload_n 0, 1) := by decide +kernel
theorem dX6_becomeLike_149 : decode cX6_becomeLike 149 = .ok (.aload_n 1, 1) := by decide +kernel
theorem dX6_becomeLike_150 : decode cX6_becomeLike 150 = .ok (.getfield 111, 3) := by decide +kernel
theorem dX6_becomeLike_153 : decode cX6_becomeLike 153 = .ok (.putfield 111, 3) := by decide +kernel
theorem dX6_becomeLike_156 : decode cX6_becomeLike 156 = .ok (.aload_n 0, 1) := by decide +kernel
theorem dX6_becomeLike_157 : decode cX6_becomeLike 157 = .ok (.aload_n 1, 1) := by decide +kernel
theorem dX6_becomeLike_158 : decode cX6_becomeLike 158 = .ok (.getfield 114, 3) := by decide +kernel
theorem dX6_becomeLike_161 : decode cX6_becomeLike 161 = .ok (.putfield 114, 3) := by decide +kernel
theorem dX6_becomeLike_164 : decode cX6_becomeLike 164 = .ok (.aload_n 0, 1) := by decide +kernel
theorem dX6_becomeLike_165 : decode cX6_becomeLike 165 = .ok (.aload_n 1, 1) := by decide +kernel
theorem dX6_becomeLike_166 : decode cX6_becomeLike 166 = .ok (.getfield 117, 3) := by decide +kernel
theorem dX6_becomeLike_169 : decode cX6_becomeLike 169 = .ok (.putfield 117, 3) := by decide +kernel
theorem dX6_becomeLike_172 : decode cX6_becomeLike 172 = .ok (.aload_n 0, 1) := by decide +kernel
theorem dX6_becomeLike_173 : decode cX6_becomeLike 173 = .ok (.aload_n 1, 1) := by decide +kernel
theorem dX6_becomeLike_174 : decode cX6_becomeLike 174 = .ok (.getfield 120, 3) := by decide +kernel
theorem dX6_becomeLike_177 : decode cX6_becomeLike 177 = .ok (.putfield 120, 3) := by decide +kernel
theorem dX6_becomeLike_180 : decode cX6_becomeLike 180 = .ok (.aload_n 0, 1) := by decide +kernel
theorem dX6_becomeLike_181 : decode cX6_becomeLike 181 = .ok (.aload_n 1, 1) := by decide +kernel
theorem dX6_becomeLike_182 : decode cX6_becomeLike 182 = .ok (.getfield 123, 3) := by decide +kernel
theorem dX6_becomeLike_185 : decode cX6_becomeLike 185 = .ok (.putfield 123, 3) := by decide +kernel
theorem dX6_becomeLike_188 : decode cX6_becomeLike 188 = .ok (.aload_n 0, 1) := by decide +kernel
theorem dX6_becomeLike_189 : decode cX6_becomeLike 189 = .ok (.aload_n 1, 1) := by decide +kernel
theorem dX6_becomeLike_190 : decode cX6_becomeLike 190 = .ok (.getfield 127, 3) := by decide +kernel
theorem dX6_becomeLike_193 : decode cX6_becomeLike 193 = .ok (.putfield 127, 3) := by decide +kernel
theorem dX6_becomeLike_196 : decode cX6_becomeLike 196 = .ok (.aload_n 0, 1) := by decide +kernel
theorem dX6_becomeLike_197 : decode cX6_becomeLike 197 = .ok (.aload_n 1, 1) := by decide +kernel
theorem dX6_becomeLike_198 : decode cX6_becomeLike 198 = .ok (.getfield 75, 3) := by decide +kernel
theorem dX6_becomeLike_201 : decode cX6_becomeLike 201 = .ok (.putfield 75, 3) := by decide +kernel
theorem dX6_becomeLike_204 : decode cX6_becomeLike 204 = .ok (.aload_n 0, 1) := by decide +kernel
theorem dX6_becomeLike_205 : decode cX6_becomeLike 205 = .ok (.aload_n 1, 1) := by decide +kernel
theorem dX6_becomeLike_206 : decode cX6_becomeLike 206 = .ok (.getfield 130, 3) := by decide +kernel
theorem dX6_becomeLike_209 : decode cX6_becomeLike 209 = .ok (.putfield 130, 3) := by decide +kernel
theorem dX6_becomeLike_212 : decode cX6_becomeLike 212 = .ok (.return_, 1) := by decide +kernel
theorem dX6_rearm_0 : decode cX6_rearm 0 = .ok (.aload_n 0, 1) := by decide +kernel
theorem dX6_rearm_1 : decode cX6_rearm 1 = .ok (.bipush (-6), 2) := by decide +kernel
theorem dX6_rearm_3 : decode cX6_rearm 3 = .ok (.putfield 75, 3) := by decide +kernel
theorem dX6_rearm_6 : decode cX6_rearm 6 = .ok (.iconst 0, 1) := by decide +kernel
theorem dX6_rearm_7 : decode cX6_rearm 7 = .ok (.istore_n 1, 1) := by decide +kernel
theorem dX6_rearm_8 : decode cX6_rearm 8 = .ok (.iload_n 1, 1) := by decide +kernel
theorem dX6_rearm_9 : decode cX6_rearm 9 = .ok (.iconst 3, 1) := by decide +kernel
theorem dX6_rearm_10 : decode cX6_rearm 10 = .ok (.if_icmp .ge 19, 3) := by decide +kernel
theorem dX6_rearm_13 : decode cX6_rearm 13 = .ok (.aload_n 0, 1) := by decide +kernel
theorem dX6_rearm_14 : decode cX6_rearm 14 = .ok (.getfield 26, 3) := by decide +kernel
theorem dX6_rearm_17 : decode cX6_rearm 17 = .ok (.iload_n 1, 1) := by decide +kernel
theorem dX6_rearm_18 : decode cX6_rearm 18 = .ok (.aaload, 1) := by decide +kernel
theorem dX6_rearm_19 : decode cX6_rearm 19 = .ok (.iconst 0, 1) := by decide +kernel
theorem dX6_rearm_20 : decode cX6_rearm 20 = .ok (.putfield 133, 3) := by decide +kernel
theorem dX6_rearm_23 : decode cX6_rearm 23 = .ok (.iinc 1 1, 3) := by decide +kernel
theorem dX6_rearm_26 : decode cX6_rearm 26 = .ok (.goto (-18), 3) := by decide +kernel
theorem dX6_rearm_29 : decode cX6_rearm 29 = .ok (.return_, 1) := by decide +kernel
set_option maxRecDepth 20000 in
theorem ggX6_samplesUntilTrip_X6_takeSample : GoodIn wsX6_samplesUntilTrip wsX6_takeSample := goodIn_r _ [6, 7, 8, 9, 10, 11, 12, 13, 14, 15, 16, 17, 18, 19, 20, 21, 22, 23, 24, 25, 26, 27, 28, 29, 30, 31, 32, 33, 34, 35, 36, 37, 38, 39, 40, 41, 42, 43, 5, 44, 45, 46, 47, 48, 49, 50, 51, 52, 53, 54, 55, 56, 57, 58, 59, 60, 61, 62, 63, 64, 65, 66, 67, 68, 69, 70, 71, 72, 73, 74, 75, 76, 77, 78, 79, 80, 81, 82, 83, 84, 85, 86, 87, 88, 89, 90, 91, 92, 93, 94, 95, 96, 97, 98, 99, 100, 101, 102, 103, 104, 105, 106, 107, 108, 109, 110, 111, 112, 113, 114, 115, 116, 117, 118, 119, 120, 121, 122, 123, 124, 125, 126, 127, 128, 129, 130, 131, 132, 133, 134, 135, 136, 137, 138, 139, 140, 141, 142, 143, 144, 145, 146, 147, 148, 149, 150, 151, 152, 153, 154, 155, 156, 157, 158, 159, 160, 161, 162, 163, 164, 165, 166, 167, 168, 169, 170, 171, 172, 173, 174, 1, 175, 176, 177, 178, 179, 180, 181, 182, 183, 184, 185, 186, 187, 188, 189, 190, 191, 192, 193, 194, 195, 196, 197, 198, 199, 200, 201, 202, 203, 204, 205, 206, 207, 208, 209, 210, 211, 212, 213, 214, 215, 216, 217, 218, 219, 220, 221, 222] (by decide +kernel) (by decide +kernel)
set_option maxRecDepth 20000 in
theorem gX6_samplesUntilTrip_X6_takeSample : GoodIn wsX6_samplesUntilTrip (wsV RX6 136 RX6 yX6_takeSample wsX6_takeSample) := goodIn_app (goodIn_of _ (by decide +kernel)) ggX6_samplesUntilTrip_X6_takeSample
theorem dX6_samplesUntilTrip_0 : decode cX6_samplesUntilTrip 0 = .ok (.iconst 0, 1) := by decide +kernel
theorem dX6_samplesUntilTrip_1 : decode cX6_samplesUntilTrip 1 = .ok (.istore_n 2, 1) := by decide +kernel
theorem dX6_samplesUntilTrip_2 : decode cX6_samplesUntilTrip 2 = .ok (.iload_n 2, 1) := by decide +kernel
theorem dX6_samplesUntilTrip_3 : decode cX6_samplesUntilTrip 3 = .ok (.iload_n 1, 1) := by decide +kernel
theorem dX6_samplesUntilTrip_4 : decode cX6_samplesUntilTrip 4 = .ok (.if_icmp .gt 29, 3) := by decide +kernel
theorem dX6_samplesUntilTrip_7 : decode cX6_samplesUntilTrip 7 = .ok (.aload_n 0, 1) := by decide +kernel
theorem dX6_samplesUntilTrip_8 : decode cX6_samplesUntilTrip 8 = .ok (.getfield 75, 3) := by decide +kernel
theorem dX6_samplesUntilTrip_11 : decode cX6_samplesUntilTrip 11 = .ok (.bipush (-6), 2) := by decide +kernel
theorem dX6_samplesUntilTrip_13 : decode cX6_samplesUntilTrip 13 = .ok (.if_icmp .eq 5, 3) := by decide +kernel
theorem dX6_samplesUntilTrip_16 : decode cX6_samplesUntilTrip 16 = .ok (.iload_n 2, 1) := by decide +kernel
theorem dX6_samplesUntilTrip_17 : decode cX6_samplesUntilTrip 17 = .ok (.ireturn, 1) := by decide +kernel
theorem dX6_samplesUntilTrip_18 : decode cX6_samplesUntilTrip 18 = .ok (.iload_n 2, 1) := by decide +kernel
theorem dX6_samplesUntilTrip_19 : decode cX6_samplesUntilTrip 19 = .ok (.iload_n 1, 1) := by decide +kernel
theorem dX6_samplesUntilTrip_20 : decode cX6_samplesUntilTrip 20 = .ok (.if_icmp .ge 7, 3) := by decide +kernel
theorem dX6_samplesUntilTrip_23 : decode cX6_samplesUntilTrip 23 = .ok (.aload_n 0, 1) := by decide +kernel
theorem dX6_samplesUntilTrip_24 : decode cX6_samplesUntilTrip 24 = .ok (.invokevirtual 136, 3) := by decide +kernel
theorem dX6_samplesUntilTrip_27 : decode cX6_samplesUntilTrip 27 = .ok (.iinc 2 1, 3) := by decide +kernel
theorem dX6_samplesUntilTrip_30 : decode cX6_samplesUntilTrip 30 = .ok (.goto (-28), 3) := by decide +kernel
theorem dX6_samplesUntilTrip_33 : decode cX6_samplesUntilTrip 33 = .ok (.bipush (-6), 2) := by decide +kernel
theorem dX6_samplesUntilTrip_35 : decode cX6_samplesUntilTrip 35 = .ok (.ireturn, 1) := by decide +kernel
set_option maxRecDepth 20000 in
theorem ggX6_takeSample_X7_advance : GoodIn wsX6_takeSample wsX7_advance := goodIn_r _ [12, 13, 14, 15, 16, 17, 18, 19, 20, 21, 22, 23, 11, 24, 25, 26, 27, 28, 29, 30, 31, 32, 33, 34, 190, 191, 192, 193, 194, 195, 196, 197, 198] (by decide +kernel) (by decide +kernel)
set_option maxRecDepth 20000 in
theorem gX6_takeSample_X7_advance : GoodIn wsX6_takeSample (wsV RX6 139 RX7 yX7_advance wsX7_advance) := goodIn_app (goodIn_of _ (by decide +kernel)) ggX6_takeSample_X7_advance
set_option maxRecDepth 20000 in
theorem ggX6_takeSample_X6_estimateFrom : GoodIn wsX6_takeSample wsX6_estimateFrom := goodIn_r _ [39, 40, 7, 41, 42, 43, 44, 45, 4, 46, 47, 48, 49, 50, 51, 52, 53, 54, 55, 56, 57, 58, 59, 60, 61, 62, 63, 64, 65, 66, 67, 27, 28, 29, 30, 31, 32, 33, 34, 172, 173, 174, 175, 176, 177, 178, 179, 180, 181, 182, 183, 184, 185, 186, 187, 188, 189, 195, 196, 197, 198, 199, 200, 201] (by decide +kernel) (by decide +kernel)
set_option maxRecDepth 20000 in
theorem gX6_takeSample_X6_estimateFrom : GoodIn wsX6_takeSample (wsV RX6 145 RX6 yX6_estimateFrom wsX6_estimateFrom) := goodIn_app (goodIn_of _ (by decide +kernel)) ggX6_takeSample_X6_estimateFrom
set_option maxRecDepth 20000 in
theorem ggX6_takeSample_X6_remember : GoodIn wsX6_takeSample wsX6_remember := goodIn_r _ [71, 4, 41, 42, 5, 72, 73, 74, 172, 173, 174, 175, 176, 177, 178, 179, 180, 181, 182, 183, 184, 185, 186, 187, 188, 189, 195, 196, 197, 198] (by decide +kernel) (by decide +kernel)
set_option maxRecDepth 20000 in
theorem gX6_takeSample_X6_remember : GoodIn wsX6_takeSample (wsV RX6 148 RX6 yX6_remember wsX6_remember) := goodIn_app (goodIn_of _ (by decide +kernel)) ggX6_takeSample_X6_remember
set_option maxRecDepth 20000 in
theorem ggX6_takeSample_X0_become : GoodIn wsX6_takeSample wsX0_become := goodIn_r _ [79, 80, 81, 82, 83, 84, 85, 86, 87, 88, 195, 196, 197, 198, 202, 203, 204, 205] (by decide +kernel) (by decide +kernel)
set_option maxRecDepth 20000 in
theorem gX6_takeSample_X0_become : GoodIn wsX6_takeSample (wsV RX6 151 RX0 yX0_become wsX0_become) := goodIn_app (goodIn_of _ (by decide +kernel)) ggX6_takeSample_X0_become
set_option maxRecDepth 20000 in
theorem ggX6_takeSample_X0_isInLoad : GoodIn wsX6_takeSample wsX0_isInLoad := goodIn_r _ [92, 88, 86, 93, 94, 95, 96, 84, 87, 85, 202, 203, 204, 205] (by decide +kernel) (by decide +kernel)
set_option maxRecDepth 20000 in
theorem gX6_takeSample_X0_isInLoad : GoodIn wsX6_takeSample (wsV RX6 155 RX0 yX0_isInLoad wsX0_isInLoad) := goodIn_app (goodIn_of _ (by decide +kernel)) ggX6_takeSample_X0_isInLoad
set_option maxRecDepth 20000 in
theorem ggX6_takeSample_X6_watchSwing : GoodIn wsX6_takeSample wsX6_watchSwing := goodIn_r _ [100, 3, 101, 102, 103, 5, 104, 7, 105, 106, 107, 78, 108, 88, 86, 87, 84, 109, 110, 111, 112, 113, 114, 115, 116, 117, 118, 119, 120, 121, 122, 123, 124, 38, 125, 126, 127, 128, 129, 130, 131, 132, 133, 134, 55, 56, 57, 172, 173, 174, 175, 176, 177, 178, 179, 180, 181, 182, 183, 184, 185, 186, 187, 188, 189, 202, 203, 204, 205, 206, 207, 208, 209, 210, 211, 212] (by decide +kernel) (by decide +kernel)
set_option maxRecDepth 20000 in
theorem gX6_takeSample_X6_watchSwing : GoodIn wsX6_takeSample (wsV RX6 159 RX6 yX6_watchSwing wsX6_watchSwing) := goodIn_app (goodIn_of _ (by decide +kernel)) ggX6_takeSample_X6_watchSwing
set_option maxRecDepth 20000 in
theorem ggX6_takeSample_X6_pickUpZones : GoodIn wsX6_takeSample wsX6_pickUpZones := goodIn_r _ [138, 139, 3, 101, 140, 104, 7, 141, 142, 143, 38, 144, 74, 5, 72, 4, 41, 73, 42, 44, 45, 145, 146, 147, 148, 149, 150, 151, 152, 153, 154, 155, 156, 157, 103, 6, 158, 159, 160, 105, 106, 107, 78, 108, 88, 86, 87, 84, 109, 110, 111, 112, 113, 114, 115, 116, 117, 118, 119, 120, 121, 126, 127, 128, 129, 130, 131, 132, 133, 134, 55, 56, 57, 172, 173, 174, 175, 176, 177, 178, 179, 180, 181, 182, 183, 184, 185, 186, 187, 188, 189, 213, 214, 215, 216, 195, 196, 197, 198, 217, 218, 202, 203, 204, 205, 206, 207, 208, 209, 210, 211, 212] (by decide +kernel) (by decide +kernel)
set_option maxRecDepth 20000 in
theorem gX6_takeSample_X6_pickUpZones : GoodIn wsX6_takeSample (wsV RX6 162 RX6 yX6_pickUpZones wsX6_pickUpZones) := goodIn_app (goodIn_of _ (by decide +kernel)) ggX6_takeSample_X6_pickUpZones
set_option maxRecDepth 20000 in
theorem ggX6_takeSample_X6_runTimers : GoodIn wsX6_takeSample wsX6_runTimers := goodIn_r _ [164, 139, 140, 165, 172, 173, 174, 175, 176, 177, 178, 179, 180, 181, 182, 183, 184, 185, 186, 187, 188, 189, 213, 214, 215, 216] (by decide +kernel) (by decide +kernel)
set_option maxRecDepth 20000 in
theorem gX6_takeSample_X6_runTimers : GoodIn wsX6_takeSample (wsV RX6 165 RX6 yX6_runTimers wsX6_runTimers) := goodIn_app (goodIn_of _ (by decide +kernel)) ggX6_takeSample_X6_runTimers
set_option maxRecDepth 20000 in
theorem ggX6_takeSample_X6_trip : GoodIn wsX6_takeSample wsX6_trip := goodIn_r _ [169, 170, 139, 165, 171, 104, 7, 126, 127, 128, 129, 130, 131, 132, 133, 134, 55, 56, 57, 172, 173, 174, 175, 176, 177, 178, 179, 180, 181, 182, 183, 184, 185, 186, 187, 188, 189, 213, 214, 215, 216, 210, 211, 212] (by decide +kernel) (by decide +kernel)
set_option maxRecDepth 20000 in
theorem gX6_takeSample_X6_trip : GoodIn wsX6_takeSample (wsV RX6 168 RX6 yX6_trip wsX6_trip) := goodIn_app (goodIn_of _ (by decide +kernel)) ggX6_takeSample_X6_trip
theorem dX6_takeSample_0 : decode cX6_takeSample 0 = .ok (.aload_n 0, 1) := by decide +kernel
theorem dX6_takeSample_1 : decode cX6_takeSample 1 = .ok (.getfield 40, 3) := by decide +kernel
theorem dX6_takeSample_4 : decode cX6_takeSample 4 = .ok (.invokevirtual 139, 3) := by decide +kernel
theorem dX6_takeSample_7 : decode cX6_takeSample 7 = .ok (.aload_n 0, 1) := by decide +kernel
theorem dX6_takeSample_8 : decode cX6_takeSample 8 = .ok (.aload_n 0, 1) := by decide +kernel
theorem dX6_takeSample_9 : decode cX6_takeSample 9 = .ok (.getfield 40, 3) := by decide +kernel
theorem dX6_takeSample_12 : decode cX6_takeSample 12 = .ok (.getfield 142, 3) := by decide +kernel
theorem dX6_takeSample_15 : decode cX6_takeSample 15 = .ok (.invokevirtual 145, 3) := by decide +kernel
theorem dX6_takeSample_18 : decode cX6_takeSample 18 = .ok (.aload_n 0, 1) := by decide +kernel
theorem dX6_takeSample_19 : decode cX6_takeSample 19 = .ok (.invokevirtual 148, 3) := by decide +kernel
theorem dX6_takeSample_22 : decode cX6_takeSample 22 = .ok (.aload_n 0, 1) := by decide +kernel
theorem dX6_takeSample_23 : decode cX6_takeSample 23 = .ok (.getfield 64, 3) := by decide +kernel
theorem dX6_takeSample_26 : decode cX6_takeSample 26 = .ok (.aload_n 0, 1) := by decide +kernel
theorem dX6_takeSample_27 : decode cX6_takeSample 27 = .ok (.getfield 57, 3) := by decide +kernel
theorem dX6_takeSample_30 : decode cX6_takeSample 30 = .ok (.aload_n 0, 1) := by decide +kernel
theorem dX6_takeSample_31 : decode cX6_takeSample 31 = .ok (.getfield 17, 3) := by decide +kernel
theorem dX6_takeSample_34 : decode cX6_takeSample 34 = .ok (.iconst 0, 1) := by decide +kernel
theorem dX6_takeSample_35 : decode cX6_takeSample 35 = .ok (.iaload, 1) := by decide +kernel
theorem dX6_takeSample_36 : decode cX6_takeSample 36 = .ok (.invokevirtual 151, 3) := by decide +kernel
theorem dX6_takeSample_39 : decode cX6_takeSample 39 = .ok (.aload_n 0, 1) := by decide +kernel
theorem dX6_takeSample_40 : decode cX6_takeSample 40 = .ok (.aload_n 0, 1) := by decide +kernel
theorem dX6_takeSample_41 : decode cX6_takeSample 41 = .ok (.getfield 64, 3) := by decide +kernel
theorem dX6_takeSample_44 : decode cX6_takeSample 44 = .ok (.aload_n 0, 1) := by decide +kernel
theorem dX6_takeSample_45 : decode cX6_takeSample 45 = .ok (.getfield 17, 3) := by decide +kernel
theorem dX6_takeSample_48 : decode cX6_takeSample 48 = .ok (.iconst 3, 1) := by decide +kernel
theorem dX6_takeSample_49 : decode cX6_takeSample 49 = .ok (.iaload, 1) := by decide +kernel
theorem dX6_takeSample_50 : decode cX6_takeSample 50 = .ok (.aload_n 0, 1) := by decide +kernel
theorem dX6_takeSample_51 : decode cX6_takeSample 51 = .ok (.getfield 17, 3) := by decide +kernel
theorem dX6_takeSample_54 : decode cX6_takeSample 54 = .ok (.iconst 4, 1) := by decide +kernel
theorem dX6_takeSample_55 : decode cX6_takeSample 55 = .ok (.iaload, 1) := by decide +kernel
theorem dX6_takeSample_56 : decode cX6_takeSample 56 = .ok (.invokevirtual 155, 3) := by decide +kernel
theorem dX6_takeSample_59 : decode cX6_takeSample 59 = .ok (.putfield 127, 3) := by decide +kernel
theorem dX6_takeSample_62 : decode cX6_takeSample 62 = .ok (.aload_n 0, 1) := by decide +kernel
theorem dX6_takeSample_63 : decode cX6_takeSample 63 = .ok (.invokevirtual 159, 3) := by decide +kernel
theorem dX6_takeSample_66 : decode cX6_takeSample 66 = .ok (.aload_n 0, 1) := by decide +kernel
theorem dX6_takeSample_67 : decode cX6_takeSample 67 = .ok (.invokevirtual 162, 3) := by decide +kernel
theorem dX6_takeSample_70 : decode cX6_takeSample 70 = .ok (.aload_n 0, 1) := by decide +kernel
theorem dX6_takeSample_71 : decode cX6_takeSample 71 = .ok (.invokevirtual 165, 3) := by decide +kernel
theorem dX6_takeSample_74 : decode cX6_takeSample 74 = .ok (.aload_n 0, 1) := by decide +kernel
theorem dX6_takeSample_75 : decode cX6_takeSample 75 = .ok (.invokevirtual 168, 3) := by decide +kernel
theorem dX6_takeSample_78 : decode cX6_takeSample 78 = .ok (.aload_n 0, 1) := by decide +kernel
theorem dX6_takeSample_79 : decode cX6_takeSample 79 = .ok (.dup, 1) := by decide +kernel
theorem dX6_takeSample_80 : decode cX6_takeSample 80 = .ok (.getfield 130, 3) := by decide +kernel
theorem dX6_takeSample_83 : decode cX6_takeSample 83 = .ok (.iconst 1, 1) := by decide +kernel
theorem dX6_takeSample_84 : decode cX6_takeSample 84 = .ok (.iadd, 1) := by decide +kernel
theorem dX6_takeSample_85 : decode cX6_takeSample 85 = .ok (.putfield 130, 3) := by decide +kernel
theorem dX6_takeSample_88 : decode cX6_takeSample 88 = .ok (.return_, 1) := by decide +kernel
set_option maxRecDepth 20000 in
theorem ggX6_estimateFrom_X8_take : GoodIn wsX6_estimateFrom wsX8_take := goodIn_r _ [13, 14, 15, 16, 17, 18, 19, 20, 61, 62, 63] (by decide +kernel) (by decide +kernel)
set_option maxRecDepth 20000 in
theorem gX6_estimateFrom_X8_take : GoodIn wsX6_estimateFrom (wsV RX6 177 RX8 yX8_take wsX8_take) := goodIn_app (goodIn_of _ (by decide +kernel)) ggX6_estimateFrom_X8_take
set_option maxRecDepth 20000 in
theorem ggX6_estimateFrom_X8_estimateA : GoodIn wsX6_estimateFrom wsX8_estimateA := goodIn_r _ [24, 15, 25, 61, 62, 63] (by decide +kernel) (by decide +kernel)
set_option maxRecDepth 20000 in
theorem gX6_estimateFrom_X8_estimateA : GoodIn wsX6_estimateFrom (wsV RX6 187 RX8 yX8_estimateA wsX8_estimateA) := goodIn_app (goodIn_of _ (by decide +kernel)) ggX6_estimateFrom_X8_estimateA
set_option maxRecDepth 20000 in
theorem ggX6_estimateFrom_X8_estimateB : GoodIn wsX6_estimateFrom wsX8_estimateB := goodIn_r _ [29, 16, 25, 61, 62, 63] (by decide +kernel) (by decide +kernel)
set_option maxRecDepth 20000 in
theorem gX6_estimateFrom_X8_estimateB : GoodIn wsX6_estimateFrom (wsV RX6 191 RX8 yX8_estimateB wsX8_estimateB) := goodIn_app (goodIn_of _ (by decide +kernel)) ggX6_estimateFrom_X8_estimateB
set_option maxRecDepth 20000 in
theorem ggX6_estimateFrom_X3_put : GoodIn wsX6_estimateFrom wsX3_put := goodIn_r _ [34, 35, 36, 37, 38, 57, 58, 59, 60] (by decide +kernel) (by decide +kernel)
set_option maxRecDepth 20000 in
theorem gX6_estimateFrom_X3_put : GoodIn wsX6_estimateFrom (wsV RX6 194 RX3 yX3_put wsX3_put) := goodIn_app (goodIn_of _ (by decide +kernel)) ggX6_estimateFrom_X3_put
theorem dX6_estimateFrom_0 : decode cX6_estimateFrom 0 = .ok (.aload_n 0, 1) := by decide +kernel
theorem dX6_estimateFrom_1 : decode cX6_estimateFrom 1 = .ok (.getfield 47, 3) := by decide +kernel
theorem dX6_estimateFrom_4 : decode cX6_estimateFrom 4 = .ok (.aload_n 0, 1) := by decide +kernel
theorem dX6_estimateFrom_5 : decode cX6_estimateFrom 5 = .ok (.getfield 130, 3) := by decide +kernel
theorem dX6_estimateFrom_8 : decode cX6_estimateFrom 8 = .ok (.aload_n 1, 1) := by decide +kernel
theorem dX6_estimateFrom_9 : decode cX6_estimateFrom 9 = .ok (.getfield 171, 3) := by decide +kernel
theorem dX6_estimateFrom_12 : decode cX6_estimateFrom 12 = .ok (.aload_n 1, 1) := by decide +kernel
theorem dX6_estimateFrom_13 : decode cX6_estimateFrom 13 = .ok (.getfield 174, 3) := by decide +kernel
theorem dX6_estimateFrom_16 : decode cX6_estimateFrom 16 = .ok (.invokevirtual 177, 3) := by decide +kernel
theorem dX6_estimateFrom_19 : decode cX6_estimateFrom 19 = .ok (.aload_n 0, 1) := by decide +kernel
theorem dX6_estimateFrom_20 : decode cX6_estimateFrom 20 = .ok (.getfield 51, 3) := by decide +kernel
theorem dX6_estimateFrom_23 : decode cX6_estimateFrom 23 = .ok (.aload_n 0, 1) := by decide +kernel
theorem dX6_estimateFrom_24 : decode cX6_estimateFrom 24 = .ok (.getfield 130, 3) := by decide +kernel
theorem dX6_estimateFrom_27 : decode cX6_estimateFrom 27 = .ok (.aload_n 1, 1) := by decide +kernel
theorem dX6_estimateFrom_28 : decode cX6_estimateFrom 28 = .ok (.getfield 181, 3) := by decide +kernel
theorem dX6_estimateFrom_31 : decode cX6_estimateFrom 31 = .ok (.aload_n 1, 1) := by decide +kernel
theorem dX6_estimateFrom_32 : decode cX6_estimateFrom 32 = .ok (.getfield 184, 3) := by decide +kernel
theorem dX6_estimateFrom_35 : decode cX6_estimateFrom 35 = .ok (.invokevirtual 177, 3) := by decide +kernel
theorem dX6_estimateFrom_38 : decode cX6_estimateFrom 38 = .ok (.aload_n 0, 1) := by decide +kernel
theorem dX6_estimateFrom_39 : decode cX6_estimateFrom 39 = .ok (.getfield 57, 3) := by decide +kernel
theorem dX6_estimateFrom_42 : decode cX6_estimateFrom 42 = .ok (.aload_n 0, 1) := by decide +kernel
theorem dX6_estimateFrom_43 : decode cX6_estimateFrom 43 = .ok (.getfield 47, 3) := by decide +kernel
theorem dX6_estimateFrom_46 : decode cX6_estimateFrom 46 = .ok (.invokevirtual 187, 3) := by decide +kernel
theorem dX6_estimateFrom_49 : decode cX6_estimateFrom 49 = .ok (.aload_n 0, 1) := by decide +kernel
theorem dX6_estimateFrom_50 : decode cX6_estimateFrom 50 = .ok (.getfield 47, 3) := by decide +kernel
theorem dX6_estimateFrom_53 : decode cX6_estimateFrom 53 = .ok (.invokevirtual 191, 3) := by decide +kernel
theorem dX6_estimateFrom_56 : decode cX6_estimateFrom 56 = .ok (.aload_n 0, 1) := by decide +kernel
theorem dX6_estimateFrom_57 : decode cX6_estimateFrom 57 = .ok (.getfield 51, 3) := by decide +kernel
theorem dX6_estimateFrom_60 : decode cX6_estimateFrom 60 = .ok (.invokevirtual 187, 3) := by decide +kernel
theorem dX6_estimateFrom_63 : decode cX6_estimateFrom 63 = .ok (.aload_n 0, 1) := by decide +kernel
theorem dX6_estimateFrom_64 : decode cX6_estimateFrom 64 = .ok (.getfield 51, 3) := by decide +kernel
theorem dX6_estimateFrom_67 : decode cX6_estimateFrom 67 = .ok (.invokevirtual 191, 3) := by decide +kernel
theorem dX6_estimateFrom_70 : decode cX6_estimateFrom 70 = .ok (.invokevirtual 194, 3) := by decide +kernel
theorem dX6_estimateFrom_73 : decode cX6_estimateFrom 73 = .ok (.return_, 1) := by decide +kernel
theorem dX6_remember_0 : decode cX6_remember 0 = .ok (.aload_n 0, 1) := by decide +kernel
theorem dX6_remember_1 : decode cX6_remember 1 = .ok (.getfield 57, 3) := by decide +kernel
theorem dX6_remember_4 : decode cX6_remember 4 = .ok (.getfield 171, 3) := by decide +kernel
theorem dX6_remember_7 : decode cX6_remember 7 = .ok (.i2l, 1) := by decide +kernel
theorem dX6_remember_8 : decode cX6_remember 8 = .ok (.lstore_n 1, 1) := by decide +kernel
theorem dX6_remember_9 : decode cX6_remember 9 = .ok (.aload_n 0, 1) := by decide +kernel
theorem dX6_remember_10 : decode cX6_remember 10 = .ok (.getfield 57, 3) := by decide +kernel
theorem dX6_remember_13 : decode cX6_remember 13 = .ok (.getfield 174, 3) := by decide +kernel
theorem dX6_remember_16 : decode cX6_remember 16 = .ok (.i2l, 1) := by decide +kernel
theorem dX6_remember_17 : decode cX6_remember 17 = .ok (.lstore_n 3, 1) := by decide +kernel
theorem dX6_remember_18 : decode cX6_remember 18 = .ok (.aload_n 0, 1) := by decide +kernel
theorem dX6_remember_19 : decode cX6_remember 19 = .ok (.getfield 17, 3) := by decide +kernel
theorem dX6_remember_22 : decode cX6_remember 22 = .ok (.iconst 1, 1) := by decide +kernel
theorem dX6_remember_23 : decode cX6_remember 23 = .ok (.iaload, 1) := by decide +kernel
theorem dX6_remember_24 : decode cX6_remember 24 = .ok (.i2l, 1) := by decide +kernel
theorem dX6_remember_25 : decode cX6_remember 25 = .ok (.lstore 5, 2) := by decide +kernel
theorem dX6_remember_27 : decode cX6_remember 27 = .ok (.lload_n 1, 1) := by decide +kernel
theorem dX6_remember_28 : decode cX6_remember 28 = .ok (.lload_n 1, 1) := by decide +kernel
theorem dX6_remember_29 : decode cX6_remember 29 = .ok (.lmul, 1) := by decide +kernel
theorem dX6_remember_30 : decode cX6_remember 30 = .ok (.lload_n 3, 1) := by decide +kernel
theorem dX6_remember_31 : decode cX6_remember 31 = .ok (.lload_n 3, 1) := by decide +kernel
theorem dX6_remember_32 : decode cX6_remember 32 = .ok (.lmul, 1) := by decide +kernel
theorem dX6_remember_33 : decode cX6_remember 33 = .ok (.ladd, 1) := by decide +kernel
theorem dX6_remember_34 : decode cX6_remember 34 = .ok (.lload 5, 2) := by decide +kernel
theorem dX6_remember_36 : decode cX6_remember 36 = .ok (.lload 5, 2) := by decide +kernel
theorem dX6_remember_38 : decode cX6_remember 38 = .ok (.lmul, 1) := by decide +kernel
theorem dX6_remember_39 : decode cX6_remember 39 = .ok (.lcmp, 1) := by decide +kernel
theorem dX6_remember_40 : decode cX6_remember 40 = .ok (.ifCond .lt 33, 3) := by decide +kernel
theorem dX6_remember_43 : decode cX6_remember 43 = .ok (.aload_n 0, 1) := by decide +kernel
theorem dX6_remember_44 : decode cX6_remember 44 = .ok (.aload_n 0, 1) := by decide +kernel
theorem dX6_remember_45 : decode cX6_remember 45 = .ok (.getfield 57, 3) := by decide +kernel
theorem dX6_remember_48 : decode cX6_remember 48 = .ok (.getfield 171, 3) := by decide +kernel
theorem dX6_remember_51 : decode cX6_remember 51 = .ok (.putfield 111, 3) := by decide +kernel
theorem dX6_remember_54 : decode cX6_remember 54 = .ok (.aload_n 0, 1) := by decide +kernel
theorem dX6_remember_55 : decode cX6_remember 55 = .ok (.aload_n 0, 1) := by decide +kernel
theorem dX6_remember_56 : decode cX6_remember 56 = .ok (.getfield 57, 3) := by decide +kernel
theorem dX6_remember_59 : decode cX6_remember 59 = .ok (.getfield 174, 3) := by decide +kernel
theorem dX6_remember_62 : decode cX6_remember 62 = .ok (.putfield 114, 3) := by decide +kernel
theorem dX6_remember_65 : decode cX6_remember 65 = .ok (.aload_n 0, 1) := by decide +kernel
theorem dX6_remember_66 : decode cX6_remember 66 = .ok (.iconst 0, 1) := by decide +kernel
theorem dX6_remember_67 : decode cX6_remember 67 = .ok (.putfield 117, 3) := by decide +kernel
theorem dX6_remember_70 : decode cX6_remember 70 = .ok (.goto 13, 3) := by decide +kernel
theorem dX6_remember_73 : decode cX6_remember 73 = .ok (.aload_n 0, 1) := by decide +kernel
theorem dX6_remember_74 : decode cX6_remember 74 = .ok (.dup, 1) := by decide +kernel
theorem dX6_remember_75 : decode cX6_remember 75 = .ok (.getfield 117, 3) := by decide +kernel
theorem dX6_remember_78 : decode cX6_remember 78 = .ok (.iconst 1, 1) := by decide +kernel
theorem dX6_remember_79 : decode cX6_remember 79 = .ok (.iadd, 1) := by decide +kernel
theorem dX6_remember_80 : decode cX6_remember 80 = .ok (.putfield 117, 3) := by decide +kernel
theorem dX6_remember_83 : decode cX6_remember 83 = .ok (.return_, 1) := by decide +kernel
set_option maxRecDepth 20000 in
theorem ggX6_watchSwing_X0_isIn : GoodIn wsX6_watchSwing wsX0_isIn := goodIn_r _ [12, 13, 14, 15, 16, 17, 18, 19, 20, 21, 22, 23, 24, 25, 26, 27, 28, 29, 65, 66, 67, 68, 69, 70, 71, 72] (by decide +kernel) (by decide +kernel)
set_option maxRecDepth 20000 in
theorem gX6_watchSwing_X0_isIn : GoodIn wsX6_watchSwing (wsV RX6 198 RX0 yX0_isIn wsX0_isIn) := goodIn_app (goodIn_of _ (by decide +kernel)) ggX6_watchSwing_X0_isIn
set_option maxRecDepth 20000 in
theorem ggX6_watchSwing_X6_endSwing : GoodIn wsX6_watchSwing wsX6_endSwing := goodIn_r _ [34, 4, 6, 7, 35, 36, 37, 38, 39, 40, 41, 42, 43, 44, 45, 46, 47, 48, 49, 50, 51, 52, 53, 54, 55, 56, 57, 58, 59, 60, 61, 62, 63, 64, 73, 74, 75] (by decide +kernel) (by decide +kernel)
set_option maxRecDepth 20000 in
theorem gX6_watchSwing_X6_endSwing : GoodIn wsX6_watchSwing (wsV RX6 202 RX6 yX6_endSwing wsX6_endSwing) := goodIn_app (goodIn_of _ (by decide +kernel)) ggX6_watchSwing_X6_endSwing
set_option maxRecDepth 20000 in
theorem ggX6_watchSwing_X1_note : GoodIn wsX6_watchSwing wsX1_note := goodIn_r _ [39, 40, 41, 42, 43, 44, 45, 46, 73, 74, 75] (by decide +kernel) (by decide +kernel)
set_option maxRecDepth 20000 in
theorem gX6_watchSwing_X1_note : GoodIn wsX6_watchSwing (wsV RX6 205 RX1 yX1_note wsX1_note) := goodIn_app (goodIn_of _ (by decide +kernel)) ggX6_watchSwing_X1_note
theorem dX6_watchSwing_0 : decode cX6_watchSwing 0 = .ok (.aload_n 0, 1) := by decide +kernel
theorem dX6_watchSwing_1 : decode cX6_watchSwing 1 = .ok (.getfield 64, 3) := by decide +kernel
theorem dX6_watchSwing_4 : decode cX6_watchSwing 4 = .ok (.aload_n 0, 1) := by decide +kernel
theorem dX6_watchSwing_5 : decode cX6_watchSwing 5 = .ok (.getfield 11, 3) := by decide +kernel
theorem dX6_watchSwing_8 : decode cX6_watchSwing 8 = .ok (.iconst 4, 1) := by decide +kernel
theorem dX6_watchSwing_9 : decode cX6_watchSwing 9 = .ok (.aaload, 1) := by decide +kernel
theorem dX6_watchSwing_10 : decode cX6_watchSwing 10 = .ok (.invokevirtual 198, 3) := by decide +kernel
theorem dX6_watchSwing_13 : decode cX6_watchSwing 13 = .ok (.ifCond .ne 15, 3) := by decide +kernel
theorem dX6_watchSwing_16 : decode cX6_watchSwing 16 = .ok (.aload_n 0, 1) := by decide +kernel
theorem dX6_watchSwing_17 : decode cX6_watchSwing 17 = .ok (.iconst 0, 1) := by decide +kernel
theorem dX6_watchSwing_18 : decode cX6_watchSwing 18 = .ok (.putfield 120, 3) := by decide +kernel
theorem dX6_watchSwing_21 : decode cX6_watchSwing 21 = .ok (.aload_n 0, 1) := by decide +kernel
theorem dX6_watchSwing_22 : decode cX6_watchSwing 22 = .ok (.invokevirtual 202, 3) := by decide +kernel
theorem dX6_watchSwing_25 : decode cX6_watchSwing 25 = .ok (.goto 71, 3) := by decide +kernel
theorem dX6_watchSwing_28 : decode cX6_watchSwing 28 = .ok (.aload_n 0, 1) := by decide +kernel
theorem dX6_watchSwing_29 : decode cX6_watchSwing 29 = .ok (.getfield 64, 3) := by decide +kernel
theorem dX6_watchSwing_32 : decode cX6_watchSwing 32 = .ok (.aload_n 0, 1) := by decide +kernel
theorem dX6_watchSwing_33 : decode cX6_watchSwing 33 = .ok (.getfield 11, 3) := by decide +kernel
theorem dX6_watchSwing_36 : decode cX6_watchSwing 36 = .ok (.iconst 3, 1) := by decide +kernel
theorem dX6_watchSwing_37 : decode cX6_watchSwing 37 = .ok (.aaload, 1) := by decide +kernel
theorem dX6_watchSwing_38 : decode cX6_watchSwing 38 = .ok (.invokevirtual 198, 3) := by decide +kernel
theorem dX6_watchSwing_41 : decode cX6_watchSwing 41 = .ok (.ifCond .ne 16, 3) := by decide +kernel
theorem dX6_watchSwing_44 : decode cX6_watchSwing 44 = .ok (.aload_n 0, 1) := by decide +kernel
theorem dX6_watchSwing_45 : decode cX6_watchSwing 45 = .ok (.dup, 1) := by decide +kernel
theorem dX6_watchSwing_46 : decode cX6_watchSwing 46 = .ok (.getfield 120, 3) := by decide +kernel
theorem dX6_watchSwing_49 : decode cX6_watchSwing 49 = .ok (.iconst 1, 1) := by decide +kernel
theorem dX6_watchSwing_50 : decode cX6_watchSwing 50 = .ok (.iadd, 1) := by decide +kernel
theorem dX6_watchSwing_51 : decode cX6_watchSwing 51 = .ok (.putfield 120, 3) := by decide +kernel
theorem dX6_watchSwing_54 : decode cX6_watchSwing 54 = .ok (.goto 42, 3) := by decide +kernel
theorem dX6_watchSwing_57 : decode cX6_watchSwing 57 = .ok (.aload_n 0, 1) := by decide +kernel
theorem dX6_watchSwing_58 : decode cX6_watchSwing 58 = .ok (.getfield 123, 3) := by decide +kernel
theorem dX6_watchSwing_61 : decode cX6_watchSwing 61 = .ok (.ifCond .ne 35, 3) := by decide +kernel
theorem dX6_watchSwing_64 : decode cX6_watchSwing 64 = .ok (.aload_n 0, 1) := by decide +kernel
theorem dX6_watchSwing_65 : decode cX6_watchSwing 65 = .ok (.getfield 120, 3) := by decide +kernel
theorem dX6_watchSwing_68 : decode cX6_watchSwing 68 = .ok (.aload_n 0, 1) := by decide +kernel
theorem dX6_watchSwing_69 : decode cX6_watchSwing 69 = .ok (.getfield 17, 3) := by decide +kernel
theorem dX6_watchSwing_72 : decode cX6_watchSwing 72 = .ok (.bipush 6, 2) := by decide +kernel
theorem dX6_watchSwing_74 : decode cX6_watchSwing 74 = .ok (.iaload, 1) := by decide +kernel
theorem dX6_watchSwing_75 : decode cX6_watchSwing 75 = .ok (.if_icmp .lt 21, 3) := by decide +kernel
theorem dX6_watchSwing_78 : decode cX6_watchSwing 78 = .ok (.aload_n 0, 1) := by decide +kernel
theorem dX6_watchSwing_79 : decode cX6_watchSwing 79 = .ok (.iconst 1, 1) := by decide +kernel
theorem dX6_watchSwing_80 : decode cX6_watchSwing 80 = .ok (.putfield 123, 3) := by decide +kernel
theorem dX6_watchSwing_83 : decode cX6_watchSwing 83 = .ok (.aload_n 0, 1) := by decide +kernel
theorem dX6_watchSwing_84 : decode cX6_watchSwing 84 = .ok (.getfield 71, 3) := by decide +kernel
theorem dX6_watchSwing_87 : decode cX6_watchSwing 87 = .ok (.aload_n 0, 1) := by decide +kernel
theorem dX6_watchSwing_88 : decode cX6_watchSwing 88 = .ok (.getfield 130, 3) := by decide +kernel
theorem dX6_watchSwing_91 : decode cX6_watchSwing 91 = .ok (.bipush 40, 2) := by decide +kernel
theorem dX6_watchSwing_93 : decode cX6_watchSwing 93 = .ok (.invokevirtual 205, 3) := by decide +kernel
theorem dX6_watchSwing_96 : decode cX6_watchSwing 96 = .ok (.return_, 1) := by decide +kernel
set_option maxRecDepth 20000 in
theorem ggX6_endSwing_X1_note : GoodIn wsX6_endSwing wsX1_note := goodIn_r _ [8, 9, 10, 11, 12, 13, 14, 15, 34, 35, 36] (by decide +kernel) (by decide +kernel)
set_option maxRecDepth 20000 in
theorem gX6_endSwing_X1_note : GoodIn wsX6_endSwing (wsV RX6 205 RX1 yX1_note wsX1_note) := goodIn_app (goodIn_of _ (by decide +kernel)) ggX6_endSwing_X1_note
theorem dX6_endSwing_0 : decode cX6_endSwing 0 = .ok (.aload_n 0, 1) := by decide +kernel
theorem dX6_endSwing_1 : decode cX6_endSwing 1 = .ok (.getfield 123, 3) := by decide +kernel
theorem dX6_endSwing_4 : decode cX6_endSwing 4 = .ok (.ifCond .eq 21, 3) := by decide +kernel
theorem dX6_endSwing_7 : decode cX6_endSwing 7 = .ok (.aload_n 0, 1) := by decide +kernel
theorem dX6_endSwing_8 : decode cX6_endSwing 8 = .ok (.iconst 0, 1) := by decide +kernel
theorem dX6_endSwing_9 : decode cX6_endSwing 9 = .ok (.putfield 123, 3) := by decide +kernel
theorem dX6_endSwing_12 : decode cX6_endSwing 12 = .ok (.aload_n 0, 1) := by decide +kernel
theorem dX6_endSwing_13 : decode cX6_endSwing 13 = .ok (.getfield 71, 3) := by decide +kernel
theorem dX6_endSwing_16 : decode cX6_endSwing 16 = .ok (.aload_n 0, 1) := by decide +kernel
theorem dX6_endSwing_17 : decode cX6_endSwing 17 = .ok (.getfield 130, 3) := by decide +kernel
theorem dX6_endSwing_20 : decode cX6_endSwing 20 = .ok (.bipush 41, 2) := by decide +kernel
theorem dX6_endSwing_22 : decode cX6_endSwing 22 = .ok (.invokevirtual 205, 3) := by decide +kernel
theorem dX6_endSwing_25 : decode cX6_endSwing 25 = .ok (.return_, 1) := by decide +kernel
set_option maxRecDepth 20000 in
theorem ggX6_pickUpZones_X6_torque : GoodIn wsX6_pickUpZones wsX6_torque := goodIn_r _ [11, 12, 13, 14, 15, 16, 17, 18, 19, 20, 21, 22, 23, 73, 74, 75, 76, 77, 78, 79, 80, 81, 82, 83, 84, 85, 86, 87, 88, 89, 90, 95, 96, 97, 98, 99, 100] (by decide +kernel) (by decide +kernel)
set_option maxRecDepth 20000 in
theorem gX6_pickUpZones_X6_torque : GoodIn wsX6_pickUpZones (wsV RX6 209 RX6 yX6_torque wsX6_torque) := goodIn_app (goodIn_of _ (by decide +kernel)) ggX6_pickUpZones_X6_torque
set_option maxRecDepth 20000 in
theorem ggX6_pickUpZones_X9_fits : GoodIn wsX6_pickUpZones wsX9_fits := goodIn_r _ [28, 29, 91, 92, 93, 94] (by decide +kernel) (by decide +kernel)
set_option maxRecDepth 20000 in
theorem gX6_pickUpZones_X9_fits : GoodIn wsX6_pickUpZones (wsV RX6 213 RX9 yX9_fits wsX9_fits) := goodIn_app (goodIn_of _ (by decide +kernel)) ggX6_pickUpZones_X9_fits
set_option maxRecDepth 20000 in
theorem ggX6_pickUpZones_X6_isBlocked : GoodIn wsX6_pickUpZones wsX6_isBlocked := goodIn_r _ [33, 34, 13, 35, 36, 37, 38, 73, 74, 75, 76, 77, 78, 79, 80, 81, 82, 83, 84, 85, 86, 87, 88, 89, 90] (by decide +kernel) (by decide +kernel)
set_option maxRecDepth 20000 in
theorem gX6_pickUpZones_X6_isBlocked : GoodIn wsX6_pickUpZones (wsV RX6 217 RX6 yX6_isBlocked wsX6_isBlocked) := goodIn_app (goodIn_of _ (by decide +kernel)) ggX6_pickUpZones_X6_isBlocked
set_option maxRecDepth 20000 in
theorem ggX6_pickUpZones_X0_isIn : GoodIn wsX6_pickUpZones wsX0_isIn := goodIn_r _ [43, 44, 45, 46, 47, 48, 49, 50, 51, 52, 53, 54, 55, 56, 57, 58, 59, 60, 101, 102, 103, 104, 105, 106, 107, 108] (by decide +kernel) (by decide +kernel)
set_option maxRecDepth 20000 in
theorem gX6_pickUpZones_X0_isIn : GoodIn wsX6_pickUpZones (wsV RX6 198 RX0 yX0_isIn wsX0_isIn) := goodIn_app (goodIn_of _ (by decide +kernel)) ggX6_pickUpZones_X0_isIn
set_option maxRecDepth 20000 in
theorem ggX6_pickUpZones_X1_note : GoodIn wsX6_pickUpZones wsX1_note := goodIn_r _ [65, 66, 67, 68, 69, 70, 71, 72, 109, 110, 111] (by decide +kernel) (by decide +kernel)
set_option maxRecDepth 20000 in
theorem gX6_pickUpZones_X1_note : GoodIn wsX6_pickUpZones (wsV RX6 205 RX1 yX1_note wsX1_note) := goodIn_app (goodIn_of _ (by decide +kernel)) ggX6_pickUpZones_X1_note
theorem dX6_pickUpZones_0 : decode cX6_pickUpZones 0 = .ok (.aload_n 0, 1) := by decide +kernel
theorem dX6_pickUpZones_1 : decode cX6_pickUpZones 1 = .ok (.invokevirtual 209, 3) := by decide +kernel
theorem dX6_pickUpZones_4 : decode cX6_pickUpZones 4 = .ok (.lstore_n 1, 1) := by decide +kernel
theorem dX6_pickUpZones_5 : decode cX6_pickUpZones 5 = .ok (.iconst 0, 1) := by decide +kernel
theorem dX6_pickUpZones_6 : decode cX6_pickUpZones 6 = .ok (.istore_n 3, 1) := by decide +kernel
theorem dX6_pickUpZones_7 : decode cX6_pickUpZones 7 = .ok (.iload_n 3, 1) := by decide +kernel
theorem dX6_pickUpZones_8 : decode cX6_pickUpZones 8 = .ok (.iconst 3, 1) := by decide +kernel
theorem dX6_pickUpZones_9 : decode cX6_pickUpZones 9 = .ok (.if_icmp .ge 103, 3) := by decide +kernel
theorem dX6_pickUpZones_12 : decode cX6_pickUpZones 12 = .ok (.aload_n 0, 1) := by decide +kernel
theorem dX6_pickUpZones_13 : decode cX6_pickUpZones 13 = .ok (.getfield 26, 3) := by decide +kernel
theorem dX6_pickUpZones_16 : decode cX6_pickUpZones 16 = .ok (.iload_n 3, 1) := by decide +kernel
theorem dX6_pickUpZones_17 : decode cX6_pickUpZones 17 = .ok (.aaload, 1) := by decide +kernel
theorem dX6_pickUpZones_18 : decode cX6_pickUpZones 18 = .ok (.lload_n 1, 1) := by decide +kernel
theorem dX6_pickUpZones_19 : decode cX6_pickUpZones 19 = .ok (.invokevirtual 213, 3) := by decide +kernel
theorem dX6_pickUpZones_22 : decode cX6_pickUpZones 22 = .ok (.ifCond .eq 31, 3) := by decide +kernel
theorem dX6_pickUpZones_25 : decode cX6_pickUpZones 25 = .ok (.aload_n 0, 1) := by decide +kernel
theorem dX6_pickUpZones_26 : decode cX6_pickUpZones 26 = .ok (.iload_n 3, 1) := by decide +kernel
theorem dX6_pickUpZones_27 : decode cX6_pickUpZones 27 = .ok (.invokevirtual 217, 3) := by decide +kernel
theorem dX6_pickUpZones_30 : decode cX6_pickUpZones 30 = .ok (.ifCond .ne 23, 3) := by decide +kernel
theorem dX6_pickUpZones_33 : decode cX6_pickUpZones 33 = .ok (.aload_n 0, 1) := by decide +kernel
theorem dX6_pickUpZones_34 : decode cX6_pickUpZones 34 = .ok (.getfield 64, 3) := by decide +kernel
theorem dX6_pickUpZones_37 : decode cX6_pickUpZones 37 = .ok (.aload_n 0, 1) := by decide +kernel
theorem dX6_pickUpZones_38 : decode cX6_pickUpZones 38 = .ok (.getfield 11, 3) := by decide +kernel
theorem dX6_pickUpZones_41 : decode cX6_pickUpZones 41 = .ok (.iload_n 3, 1) := by decide +kernel
theorem dX6_pickUpZones_42 : decode cX6_pickUpZones 42 = .ok (.aaload, 1) := by decide +kernel
theorem dX6_pickUpZones_43 : decode cX6_pickUpZones 43 = .ok (.invokevirtual 198, 3) := by decide +kernel
theorem dX6_pickUpZones_46 : decode cX6_pickUpZones 46 = .ok (.ifCond .eq 7, 3) := by decide +kernel
theorem dX6_pickUpZones_49 : decode cX6_pickUpZones 49 = .ok (.iconst 1, 1) := by decide +kernel
theorem dX6_pickUpZones_50 : decode cX6_pickUpZones 50 = .ok (.goto 4, 3) := by decide +kernel
theorem dX6_pickUpZones_53 : decode cX6_pickUpZones 53 = .ok (.iconst 0, 1) := by decide +kernel
theorem dX6_pickUpZones_54 : decode cX6_pickUpZones 54 = .ok (.istore 4, 2) := by decide +kernel
theorem dX6_pickUpZones_56 : decode cX6_pickUpZones 56 = .ok (.iload 4, 2) := by decide +kernel
theorem dX6_pickUpZones_58 : decode cX6_pickUpZones 58 = .ok (.aload_n 0, 1) := by decide +kernel
theorem dX6_pickUpZones_59 : decode cX6_pickUpZones 59 = .ok (.getfield 26, 3) := by decide +kernel
theorem dX6_pickUpZones_62 : decode cX6_pickUpZones 62 = .ok (.iload_n 3, 1) := by decide +kernel
theorem dX6_pickUpZones_63 : decode cX6_pickUpZones 63 = .ok (.aaload, 1) := by decide +kernel
theorem dX6_pickUpZones_64 : decode cX6_pickUpZones 64 = .ok (.getfield 221, 3) := by decide +kernel
theorem dX6_pickUpZones_67 : decode cX6_pickUpZones 67 = .ok (.if_icmp .eq 39, 3) := by decide +kernel
theorem dX6_pickUpZones_70 : decode cX6_pickUpZones 70 = .ok (.aload_n 0, 1) := by decide +kernel
theorem dX6_pickUpZones_71 : decode cX6_pickUpZones 71 = .ok (.getfield 26, 3) := by decide +kernel
theorem dX6_pickUpZones_74 : decode cX6_pickUpZones 74 = .ok (.iload_n 3, 1) := by decide +kernel
theorem dX6_pickUpZones_75 : decode cX6_pickUpZones 75 = .ok (.aaload, 1) := by decide +kernel
theorem dX6_pickUpZones_76 : decode cX6_pickUpZones 76 = .ok (.iload 4, 2) := by decide +kernel
theorem dX6_pickUpZones_78 : decode cX6_pickUpZones 78 = .ok (.putfield 221, 3) := by decide +kernel
theorem dX6_pickUpZones_81 : decode cX6_pickUpZones 81 = .ok (.aload_n 0, 1) := by decide +kernel
theorem dX6_pickUpZones_82 : decode cX6_pickUpZones 82 = .ok (.getfield 71, 3) := by decide +kernel
theorem dX6_pickUpZones_85 : decode cX6_pickUpZones 85 = .ok (.aload_n 0, 1) := by decide +kernel
theorem dX6_pickUpZones_86 : decode cX6_pickUpZones 86 = .ok (.getfield 130, 3) := by decide +kernel
theorem dX6_pickUpZones_89 : decode cX6_pickUpZones 89 = .ok (.iload 4, 2) := by decide +kernel
theorem dX6_pickUpZones_91 : decode cX6_pickUpZones 91 = .ok (.ifCond .eq 8, 3) := by decide +kernel
theorem dX6_pickUpZones_94 : decode cX6_pickUpZones 94 = .ok (.bipush 10, 2) := by decide +kernel
theorem dX6_pickUpZones_96 : decode cX6_pickUpZones 96 = .ok (.goto 5, 3) := by decide +kernel
theorem dX6_pickUpZones_99 : decode cX6_pickUpZones 99 = .ok (.bipush 20, 2) := by decide +kernel
theorem dX6_pickUpZones_101 : decode cX6_pickUpZones 101 = .ok (.iload_n 3, 1) := by decide +kernel
theorem dX6_pickUpZones_102 : decode cX6_pickUpZones 102 = .ok (.iadd, 1) := by decide +kernel
theorem dX6_pickUpZones_103 : decode cX6_pickUpZones 103 = .ok (.invokevirtual 205, 3) := by decide +kernel
theorem dX6_pickUpZones_106 : decode cX6_pickUpZones 106 = .ok (.iinc 3 1, 3) := by decide +kernel
theorem dX6_pickUpZones_109 : decode cX6_pickUpZones 109 = .ok (.goto (-102), 3) := by decide +kernel
theorem dX6_pickUpZones_112 : decode cX6_pickUpZones 112 = .ok (.return_, 1) := by decide +kernel
theorem dX6_torque_0 : decode cX6_torque 0 = .ok (.aload_n 0, 1) := by decide +kernel
theorem dX6_torque_1 : decode cX6_torque 1 = .ok (.getfield 117, 3) := by decide +kernel
theorem dX6_torque_4 : decode cX6_torque 4 = .ok (.aload_n 0, 1) := by decide +kernel
theorem dX6_torque_5 : decode cX6_torque 5 = .ok (.getfield 17, 3) := by decide +kernel
theorem dX6_torque_8 : decode cX6_torque 8 = .ok (.iconst 2, 1) := by decide +kernel
theorem dX6_torque_9 : decode cX6_torque 9 = .ok (.iaload, 1) := by decide +kernel
theorem dX6_torque_10 : decode cX6_torque 10 = .ok (.if_icmp .gt 7, 3) := by decide +kernel
theorem dX6_torque_13 : decode cX6_torque 13 = .ok (.iconst 1, 1) := by decide +kernel
theorem dX6_torque_14 : decode cX6_torque 14 = .ok (.goto 4, 3) := by decide +kernel
theorem dX6_torque_17 : decode cX6_torque 17 = .ok (.iconst 0, 1) := by decide +kernel
theorem dX6_torque_18 : decode cX6_torque 18 = .ok (.istore_n 1, 1) := by decide +kernel
theorem dX6_torque_19 : decode cX6_torque 19 = .ok (.iload_n 1, 1) := by decide +kernel
theorem dX6_torque_20 : decode cX6_torque 20 = .ok (.ifCond .eq 11, 3) := by decide +kernel
theorem dX6_torque_23 : decode cX6_torque 23 = .ok (.aload_n 0, 1) := by decide +kernel
theorem dX6_torque_24 : decode cX6_torque 24 = .ok (.getfield 111, 3) := by decide +kernel
theorem dX6_torque_27 : decode cX6_torque 27 = .ok (.i2l, 1) := by decide +kernel
theorem dX6_torque_28 : decode cX6_torque 28 = .ok (.goto 11, 3) := by decide +kernel
theorem dX6_torque_31 : decode cX6_torque 31 = .ok (.aload_n 0, 1) := by decide +kernel
theorem dX6_torque_32 : decode cX6_torque 32 = .ok (.getfield 57, 3) := by decide +kernel
theorem dX6_torque_35 : decode cX6_torque 35 = .ok (.getfield 171, 3) := by decide +kernel
theorem dX6_torque_38 : decode cX6_torque 38 = .ok (.i2l, 1) := by decide +kernel
theorem dX6_torque_39 : decode cX6_torque 39 = .ok (.lstore_n 2, 1) := by decide +kernel
theorem dX6_torque_40 : decode cX6_torque 40 = .ok (.iload_n 1, 1) := by decide +kernel
theorem dX6_torque_41 : decode cX6_torque 41 = .ok (.ifCond .eq 11, 3) := by decide +kernel
theorem dX6_torque_44 : decode cX6_torque 44 = .ok (.aload_n 0, 1) := by decide +kernel
theorem dX6_torque_45 : decode cX6_torque 45 = .ok (.getfield 114, 3) := by decide +kernel
theorem dX6_torque_48 : decode cX6_torque 48 = .ok (.i2l, 1) := by decide +kernel
theorem dX6_torque_49 : decode cX6_torque 49 = .ok (.goto 11, 3) := by decide +kernel
theorem dX6_torque_52 : decode cX6_torque 52 = .ok (.aload_n 0, 1) := by decide +kernel
theorem dX6_torque_53 : decode cX6_torque 53 = .ok (.getfield 57, 3) := by decide +kernel
theorem dX6_torque_56 : decode cX6_torque 56 = .ok (.getfield 174, 3) := by decide +kernel
theorem dX6_torque_59 : decode cX6_torque 59 = .ok (.i2l, 1) := by decide +kernel
theorem dX6_torque_60 : decode cX6_torque 60 = .ok (.lstore 4, 2) := by decide +kernel
theorem dX6_torque_62 : decode cX6_torque 62 = .ok (.aload_n 0, 1) := by decide +kernel
theorem dX6_torque_63 : decode cX6_torque 63 = .ok (.getfield 57, 3) := by decide +kernel
theorem dX6_torque_66 : decode cX6_torque 66 = .ok (.getfield 181, 3) := by decide +kernel
theorem dX6_torque_69 : decode cX6_torque 69 = .ok (.i2l, 1) := by decide +kernel
theorem dX6_torque_70 : decode cX6_torque 70 = .ok (.lstore 6, 2) := by decide +kernel
theorem dX6_torque_72 : decode cX6_torque 72 = .ok (.aload_n 0, 1) := by decide +kernel
theorem dX6_torque_73 : decode cX6_torque 73 = .ok (.getfield 57, 3) := by decide +kernel
theorem dX6_torque_76 : decode cX6_torque 76 = .ok (.getfield 184, 3) := by decide +kernel
theorem dX6_torque_79 : decode cX6_torque 79 = .ok (.i2l, 1) := by decide +kernel
theorem dX6_torque_80 : decode cX6_torque 80 = .ok (.lstore 8, 2) := by decide +kernel
theorem dX6_torque_82 : decode cX6_torque 82 = .ok (.aload_n 0, 1) := by decide +kernel
theorem dX6_torque_83 : decode cX6_torque 83 = .ok (.getfield 33, 3) := by decide +kernel
theorem dX6_torque_86 : decode cX6_torque 86 = .ok (.getfield 224, 3) := by decide +kernel
theorem dX6_torque_89 : decode cX6_torque 89 = .ok (.iconst 2, 1) := by decide +kernel
theorem dX6_torque_90 : decode cX6_torque 90 = .ok (.iaload, 1) := by decide +kernel
theorem dX6_torque_91 : decode cX6_torque 91 = .ok (.i2l, 1) := by decide +kernel
theorem dX6_torque_92 : decode cX6_torque 92 = .ok (.lload_n 2, 1) := by decide +kernel
theorem dX6_torque_93 : decode cX6_torque 93 = .ok (.lload 6, 2) := by decide +kernel
theorem dX6_torque_95 : decode cX6_torque 95 = .ok (.lmul, 1) := by decide +kernel
theorem dX6_torque_96 : decode cX6_torque 96 = .ok (.lload 4, 2) := by decide +kernel
theorem dX6_torque_98 : decode cX6_torque 98 = .ok (.lload 8, 2) := by decide +kernel
theorem dX6_torque_100 : decode cX6_torque 100 = .ok (.lmul, 1) := by decide +kernel
theorem dX6_torque_101 : decode cX6_torque 101 = .ok (.ladd, 1) := by decide +kernel
theorem dX6_torque_102 : decode cX6_torque 102 = .ok (.lmul, 1) := by decide +kernel
theorem dX6_torque_103 : decode cX6_torque 103 = .ok (.aload_n 0, 1) := by decide +kernel
theorem dX6_torque_104 : decode cX6_torque 104 = .ok (.getfield 33, 3) := by decide +kernel
theorem dX6_torque_107 : decode cX6_torque 107 = .ok (.getfield 227, 3) := by decide +kernel
theorem dX6_torque_110 : decode cX6_torque 110 = .ok (.iconst 2, 1) := by decide +kernel
theorem dX6_torque_111 : decode cX6_torque 111 = .ok (.iaload, 1) := by decide +kernel
theorem dX6_torque_112 : decode cX6_torque 112 = .ok (.i2l, 1) := by decide +kernel
theorem dX6_torque_113 : decode cX6_torque 113 = .ok (.lload 4, 2) := by decide +kernel
theorem dX6_torque_115 : decode cX6_torque 115 = .ok (.lload 6, 2) := by decide +kernel
theorem dX6_torque_117 : decode cX6_torque 117 = .ok (.lmul, 1) := by decide +kernel
theorem dX6_torque_118 : decode cX6_torque 118 = .ok (.lload_n 2, 1) := by decide +kernel
theorem dX6_torque_119 : decode cX6_torque 119 = .ok (.lload 8, 2) := by decide +kernel
theorem dX6_torque_121 : decode cX6_torque 121 = .ok (.lmul, 1) := by decide +kernel
theorem dX6_torque_122 : decode cX6_torque 122 = .ok (.lsub, 1) := by decide +kernel
theorem dX6_torque_123 : decode cX6_torque 123 = .ok (.lmul, 1) := by decide +kernel
theorem dX6_torque_124 : decode cX6_torque 124 = .ok (.ladd, 1) := by decide +kernel
theorem dX6_torque_125 : decode cX6_torque 125 = .ok (.lreturn, 1) := by decide +kernel
set_option maxRecDepth 20000 in
theorem ggX6_isBlocked_X10_isInSet : GoodIn wsX6_isBlocked wsX10_isInSet := goodIn_r _ [6] (by decide +kernel) (by decide +kernel)
set_option maxRecDepth 20000 in
theorem gX6_isBlocked_X10_isInSet_n230 : GoodIn wsX6_isBlocked (wsX10_isInSet) := ggX6_isBlocked_X10_isInSet
theorem dX6_isBlocked_0 : decode cX6_isBlocked 0 = .ok (.aload_n 0, 1) := by decide +kernel
theorem dX6_isBlocked_1 : decode cX6_isBlocked 1 = .ok (.getfield 123, 3) := by decide +kernel
theorem dX6_isBlocked_4 : decode cX6_isBlocked 4 = .ok (.ifCond .eq 17, 3) := by decide +kernel
theorem dX6_isBlocked_7 : decode cX6_isBlocked 7 = .ok (.iload_n 1, 1) := by decide +kernel
theorem dX6_isBlocked_8 : decode cX6_isBlocked 8 = .ok (.aload_n 0, 1) := by decide +kernel
theorem dX6_isBlocked_9 : decode cX6_isBlocked 9 = .ok (.getfield 17, 3) := by decide +kernel
theorem dX6_isBlocked_12 : decode cX6_isBlocked 12 = .ok (.bipush 7, 2) := by decide +kernel
theorem dX6_isBlocked_14 : decode cX6_isBlocked 14 = .ok (.iaload, 1) := by decide +kernel
theorem dX6_isBlocked_15 : decode cX6_isBlocked 15 = .ok (.invokestatic 230, 3) := by decide +kernel
theorem dX6_isBlocked_18 : decode cX6_isBlocked 18 = .ok (.ifCond .ne 23, 3) := by decide +kernel
theorem dX6_isBlocked_21 : decode cX6_isBlocked 21 = .ok (.aload_n 0, 1) := by decide +kernel
theorem dX6_isBlocked_22 : decode cX6_isBlocked 22 = .ok (.getfield 127, 3) := by decide +kernel
theorem dX6_isBlocked_25 : decode cX6_isBlocked 25 = .ok (.ifCond .eq 20, 3) := by decide +kernel
theorem dX6_isBlocked_28 : decode cX6_isBlocked 28 = .ok (.iload_n 1, 1) := by decide +kernel
theorem dX6_isBlocked_29 : decode cX6_isBlocked 29 = .ok (.aload_n 0, 1) := by decide +kernel
theorem dX6_isBlocked_30 : decode cX6_isBlocked 30 = .ok (.getfield 17, 3) := by decide +kernel
theorem dX6_isBlocked_33 : decode cX6_isBlocked 33 = .ok (.iconst 5, 1) := by decide +kernel
theorem dX6_isBlocked_34 : decode cX6_isBlocked 34 = .ok (.iaload, 1) := by decide +kernel
theorem dX6_isBlocked_35 : decode cX6_isBlocked 35 = .ok (.invokestatic 230, 3) := by decide +kernel
theorem dX6_isBlocked_38 : decode cX6_isBlocked 38 = .ok (.ifCond .eq 7, 3) := by decide +kernel
theorem dX6_isBlocked_41 : decode cX6_isBlocked 41 = .ok (.iconst 1, 1) := by decide +kernel
theorem dX6_isBlocked_42 : decode cX6_isBlocked 42 = .ok (.goto 4, 3) := by decide +kernel
theorem dX6_isBlocked_45 : decode cX6_isBlocked 45 = .ok (.iconst 0, 1) := by decide +kernel
theorem dX6_isBlocked_46 : decode cX6_isBlocked 46 = .ok (.ireturn, 1) := by decide +kernel
theorem dX6_runTimers_0 : decode cX6_runTimers 0 = .ok (.iconst 0, 1) := by decide +kernel
theorem dX6_runTimers_1 : decode cX6_runTimers 1 = .ok (.istore_n 1, 1) := by decide +kernel
theorem dX6_runTimers_2 : decode cX6_runTimers 2 = .ok (.iload_n 1, 1) := by decide +kernel
theorem dX6_runTimers_3 : decode cX6_runTimers 3 = .ok (.iconst 3, 1) := by decide +kernel
theorem dX6_runTimers_4 : decode cX6_runTimers 4 = .ok (.if_icmp .ge 45, 3) := by decide +kernel
theorem dX6_runTimers_7 : decode cX6_runTimers 7 = .ok (.aload_n 0, 1) := by decide +kernel
theorem dX6_runTimers_8 : decode cX6_runTimers 8 = .ok (.getfield 26, 3) := by decide +kernel
theorem dX6_runTimers_11 : decode cX6_runTimers 11 = .ok (.iload_n 1, 1) := by decide +kernel
theorem dX6_runTimers_12 : decode cX6_runTimers 12 = .ok (.aaload, 1) := by decide +kernel
theorem dX6_runTimers_13 : decode cX6_runTimers 13 = .ok (.aload_n 0, 1) := by decide +kernel
theorem dX6_runTimers_14 : decode cX6_runTimers 14 = .ok (.getfield 26, 3) := by decide +kernel
theorem dX6_runTimers_17 : decode cX6_runTimers 17 = .ok (.iload_n 1, 1) := by decide +kernel
theorem dX6_runTimers_18 : decode cX6_runTimers 18 = .ok (.aaload, 1) := by decide +kernel
theorem dX6_runTimers_19 : decode cX6_runTimers 19 = .ok (.getfield 221, 3) := by decide +kernel
theorem dX6_runTimers_22 : decode cX6_runTimers 22 = .ok (.ifCond .eq 17, 3) := by decide +kernel
theorem dX6_runTimers_25 : decode cX6_runTimers 25 = .ok (.aload_n 0, 1) := by decide +kernel
theorem dX6_runTimers_26 : decode cX6_runTimers 26 = .ok (.getfield 26, 3) := by decide +kernel
theorem dX6_runTimers_29 : decode cX6_runTimers 29 = .ok (.iload_n 1, 1) := by decide +kernel
theorem dX6_runTimers_30 : decode cX6_runTimers 30 = .ok (.aaload, 1) := by decide +kernel
theorem dX6_runTimers_31 : decode cX6_runTimers 31 = .ok (.getfield 133, 3) := by decide +kernel
theorem dX6_runTimers_34 : decode cX6_runTimers 34 = .ok (.iconst 1, 1) := by decide +kernel
theorem dX6_runTimers_35 : decode cX6_runTimers 35 = .ok (.iadd, 1) := by decide +kernel
theorem dX6_runTimers_36 : decode cX6_runTimers 36 = .ok (.goto 4, 3) := by decide +kernel
theorem dX6_runTimers_39 : decode cX6_runTimers 39 = .ok (.iconst 0, 1) := by decide +kernel
theorem dX6_runTimers_40 : decode cX6_runTimers 40 = .ok (.putfield 133, 3) := by decide +kernel
theorem dX6_runTimers_43 : decode cX6_runTimers 43 = .ok (.iinc 1 1, 3) := by decide +kernel
theorem dX6_runTimers_46 : decode cX6_runTimers 46 = .ok (.goto (-44), 3) := by decide +kernel
theorem dX6_runTimers_49 : decode cX6_runTimers 49 = .ok (.return_, 1) := by decide +kernel
set_option maxRecDepth 20000 in
theorem ggX6_trip_X1_note : GoodIn wsX6_trip wsX1_note := goodIn_r _ [11, 12, 13, 14, 15, 16, 17, 18, 41, 42, 43] (by decide +kernel) (by decide +kernel)
set_option maxRecDepth 20000 in
theorem gX6_trip_X1_note : GoodIn wsX6_trip (wsV RX6 205 RX1 yX1_note wsX1_note) := goodIn_app (goodIn_of _ (by decide +kernel)) ggX6_trip_X1_note
theorem dX6_trip_0 : decode cX6_trip 0 = .ok (.iconst 0, 1) := by decide +kernel
theorem dX6_trip_1 : decode cX6_trip 1 = .ok (.istore_n 1, 1) := by decide +kernel
theorem dX6_trip_2 : decode cX6_trip 2 = .ok (.iload_n 1, 1) := by decide +kernel
theorem dX6_trip_3 : decode cX6_trip 3 = .ok (.iconst 3, 1) := by decide +kernel
theorem dX6_trip_4 : decode cX6_trip 4 = .ok (.if_icmp .ge 59, 3) := by decide +kernel
theorem dX6_trip_7 : decode cX6_trip 7 = .ok (.aload_n 0, 1) := by decide +kernel
theorem dX6_trip_8 : decode cX6_trip 8 = .ok (.getfield 75, 3) := by decide +kernel
theorem dX6_trip_11 : decode cX6_trip 11 = .ok (.bipush (-6), 2) := by decide +kernel
theorem dX6_trip_13 : decode cX6_trip 13 = .ok (.if_icmp .ne 50, 3) := by decide +kernel
theorem dX6_trip_16 : decode cX6_trip 16 = .ok (.aload_n 0, 1) := by decide +kernel
theorem dX6_trip_17 : decode cX6_trip 17 = .ok (.getfield 26, 3) := by decide +kernel
theorem dX6_trip_20 : decode cX6_trip 20 = .ok (.iload_n 1, 1) := by decide +kernel
theorem dX6_trip_21 : decode cX6_trip 21 = .ok (.aaload, 1) := by decide +kernel
theorem dX6_trip_22 : decode cX6_trip 22 = .ok (.getfield 133, 3) := by decide +kernel
theorem dX6_trip_25 : decode cX6_trip 25 = .ok (.aload_n 0, 1) := by decide +kernel
theorem dX6_trip_26 : decode cX6_trip 26 = .ok (.getfield 26, 3) := by decide +kernel
theorem dX6_trip_29 : decode cX6_trip 29 = .ok (.iload_n 1, 1) := by decide +kernel
theorem dX6_trip_30 : decode cX6_trip 30 = .ok (.aaload, 1) := by decide +kernel
theorem dX6_trip_31 : decode cX6_trip 31 = .ok (.getfield 233, 3) := by decide +kernel
theorem dX6_trip_34 : decode cX6_trip 34 = .ok (.if_icmp .lt 23, 3) := by decide +kernel
theorem dX6_trip_37 : decode cX6_trip 37 = .ok (.aload_n 0, 1) := by decide +kernel
theorem dX6_trip_38 : decode cX6_trip 38 = .ok (.iload_n 1, 1) := by decide +kernel
theorem dX6_trip_39 : decode cX6_trip 39 = .ok (.putfield 75, 3) := by decide +kernel
theorem dX6_trip_42 : decode cX6_trip 42 = .ok (.aload_n 0, 1) := by decide +kernel
theorem dX6_trip_43 : decode cX6_trip 43 = .ok (.getfield 71, 3) := by decide +kernel
theorem dX6_trip_46 : decode cX6_trip 46 = .ok (.aload_n 0, 1) := by decide +kernel
theorem dX6_trip_47 : decode cX6_trip 47 = .ok (.getfield 130, 3) := by decide +kernel
theorem dX6_trip_50 : decode cX6_trip 50 = .ok (.bipush 30, 2) := by decide +kernel
theorem dX6_trip_52 : decode cX6_trip 52 = .ok (.iload_n 1, 1) := by decide +kernel
theorem dX6_trip_53 : decode cX6_trip 53 = .ok (.iadd, 1) := by decide +kernel
theorem dX6_trip_54 : decode cX6_trip 54 = .ok (.invokevirtual 205, 3) := by decide +kernel
theorem dX6_trip_57 : decode cX6_trip 57 = .ok (.iinc 1 1, 3) := by decide +kernel
theorem dX6_trip_60 : decode cX6_trip 60 = .ok (.goto (-58), 3) := by decide +kernel
theorem dX6_trip_63 : decode cX6_trip 63 = .ok (.return_, 1) := by decide +kernel
set_option maxRecDepth 20000 in
theorem ggX7_init_X3_init : GoodIn wsX7_init wsX3_init := goodIn_r _ [11, 12, 2, 3] (by decide +kernel) (by decide +kernel)
set_option maxRecDepth 20000 in
theorem gX7_init_X3_init_n9 : GoodIn wsX7_init (wsX3_init) := ggX7_init_X3_init
theorem dX7_init_0 : decode cX7_init 0 = .ok (.aload_n 0, 1) := by decide +kernel
theorem dX7_init_1 : decode cX7_init 1 = .ok (.invokespecial 1, 3) := by decide +kernel
theorem dX7_init_4 : decode cX7_init 4 = .ok (.aload_n 0, 1) := by decide +kernel
theorem dX7_init_5 : decode cX7_init 5 = .ok (.new 7, 3) := by decide +kernel
theorem dX7_init_8 : decode cX7_init 8 = .ok (.dup, 1) := by decide +kernel
theorem dX7_init_9 : decode cX7_init 9 = .ok (.invokespecial 9, 3) := by decide +kernel
theorem dX7_init_12 : decode cX7_init 12 = .ok (.putfield 10, 3) := by decide +kernel
theorem dX7_init_15 : decode cX7_init 15 = .ok (.aload_n 0, 1) := by decide +kernel
theorem dX7_init_16 : decode cX7_init 16 = .ok (.new 7, 3) := by decide +kernel
theorem dX7_init_19 : decode cX7_init 19 = .ok (.dup, 1) := by decide +kernel
theorem dX7_init_20 : decode cX7_init 20 = .ok (.invokespecial 9, 3) := by decide +kernel
theorem dX7_init_23 : decode cX7_init 23 = .ok (.putfield 16, 3) := by decide +kernel
theorem dX7_init_26 : decode cX7_init 26 = .ok (.aload_n 0, 1) := by decide +kernel
theorem dX7_init_27 : decode cX7_init 27 = .ok (.new 7, 3) := by decide +kernel
theorem dX7_init_30 : decode cX7_init 30 = .ok (.dup, 1) := by decide +kernel
theorem dX7_init_31 : decode cX7_init 31 = .ok (.invokespecial 9, 3) := by decide +kernel
theorem dX7_init_34 : decode cX7_init 34 = .ok (.putfield 19, 3) := by decide +kernel
theorem dX7_init_37 : decode cX7_init 37 = .ok (.return_, 1) := by decide +kernel
set_option maxRecDepth 20000 in
theorem ggX7_becomeLike_X3_becomeLike : GoodIn wsX7_becomeLike wsX3_becomeLike := goodIn_r _ [10, 11, 12, 13, 14, 15, 16, 17, 9, 18, 24, 25, 26, 27] (by decide +kernel) (by decide +kernel)
set_option maxRecDepth 20000 in
theorem gX7_becomeLike_X3_becomeLike : GoodIn wsX7_becomeLike (wsV RX7 22 RX3 yX3_becomeLike wsX3_becomeLike) := goodIn_app (goodIn_of _ (by decide +kernel)) ggX7_becomeLike_X3_becomeLike
theorem dX7_becomeLike_0 : decode cX7_becomeLike 0 = .ok (.aload_n 0, 1) := by decide +kernel
theorem dX7_becomeLike_1 : decode cX7_becomeLike 1 = .ok (.getfield 10, 3) := by decide +kernel
theorem dX7_becomeLike_4 : decode cX7_becomeLike 4 = .ok (.aload_n 1, 1) := by decide +kernel
theorem dX7_becomeLike_5 : decode cX7_becomeLike 5 = .ok (.getfield 10, 3) := by decide +kernel
theorem dX7_becomeLike_8 : decode cX7_becomeLike 8 = .ok (.invokevirtual 22, 3) := by decide +kernel
theorem dX7_becomeLike_11 : decode cX7_becomeLike 11 = .ok (.aload_n 0, 1) := by decide +kernel
theorem dX7_becomeLike_12 : decode cX7_becomeLike 12 = .ok (.getfield 16, 3) := by decide +kernel
theorem dX7_becomeLike_15 : decode cX7_becomeLike 15 = .ok (.aload_n 1, 1) := by decide +kernel
theorem dX7_becomeLike_16 : decode cX7_becomeLike 16 = .ok (.getfield 16, 3) := by decide +kernel
theorem dX7_becomeLike_19 : decode cX7_becomeLike 19 = .ok (.invokevirtual 22, 3) := by decide +kernel
theorem dX7_becomeLike_22 : decode cX7_becomeLike 22 = .ok (.aload_n 0, 1) := by decide +kernel
theorem dX7_becomeLike_23 : decode cX7_becomeLike 23 = .ok (.getfield 19, 3) := by decide +kernel
theorem dX7_becomeLike_26 : decode cX7_becomeLike 26 = .ok (.aload_n 1, 1) := by decide +kernel
theorem dX7_becomeLike_27 : decode cX7_becomeLike 27 = .ok (.getfield 19, 3) := by decide +kernel
theorem dX7_becomeLike_30 : decode cX7_becomeLike 30 = .ok (.invokevirtual 22, 3) := by decide +kernel
theorem dX7_becomeLike_33 : decode cX7_becomeLike 33 = .ok (.aload_n 0, 1) := by decide +kernel
theorem dX7_becomeLike_34 : decode cX7_becomeLike 34 = .ok (.aload_n 1, 1) := by decide +kernel
theorem dX7_becomeLike_35 : decode cX7_becomeLike 35 = .ok (.getfield 26, 3) := by decide +kernel
theorem dX7_becomeLike_38 : decode cX7_becomeLike 38 = .ok (.putfield 26, 3) := by decide +kernel
theorem dX7_becomeLike_41 : decode cX7_becomeLike 41 = .ok (.aload_n 0, 1) := by decide +kernel
theorem dX7_becomeLike_42 : decode cX7_becomeLike 42 = .ok (.aload_n 1, 1) := by decide +kernel
theorem dX7_becomeLike_43 : decode cX7_becomeLike 43 = .ok (.getfield 30, 3) := by decide +kernel
theorem dX7_becomeLike_46 : decode cX7_becomeLike 46 = .ok (.putfield 30, 3) := by decide +kernel
theorem dX7_becomeLike_49 : decode cX7_becomeLike 49 = .ok (.return_, 1) := by decide +kernel
set_option maxRecDepth 20000 in
theorem ggX7_jumpTo_X3_becomeLike : GoodIn wsX7_jumpTo wsX3_becomeLike := goodIn_r _ [6, 7, 8, 9, 10, 11, 12, 13, 5, 14, 26, 27, 28, 29] (by decide +kernel) (by decide +kernel)
set_option maxRecDepth 20000 in
theorem gX7_jumpTo_X3_becomeLike : GoodIn wsX7_jumpTo (wsV RX7 22 RX3 yX3_becomeLike wsX3_becomeLike) := goodIn_app (goodIn_of _ (by decide +kernel)) ggX7_jumpTo_X3_becomeLike
set_option maxRecDepth 20000 in
theorem ggX7_jumpTo_X7_endRamp : GoodIn wsX7_jumpTo wsX7_endRamp := goodIn_r _ [19, 20, 21, 22, 23, 24, 25] (by decide +kernel) (by decide +kernel)
set_option maxRecDepth 20000 in
theorem gX7_jumpTo_X7_endRamp : GoodIn wsX7_jumpTo (wsV RX7 33 RX7 yX7_endRamp wsX7_endRamp) := goodIn_app (goodIn_of _ (by decide +kernel)) ggX7_jumpTo_X7_endRamp
theorem dX7_jumpTo_0 : decode cX7_jumpTo 0 = .ok (.aload_n 0, 1) := by decide +kernel
theorem dX7_jumpTo_1 : decode cX7_jumpTo 1 = .ok (.getfield 10, 3) := by decide +kernel
theorem dX7_jumpTo_4 : decode cX7_jumpTo 4 = .ok (.aload_n 1, 1) := by decide +kernel
theorem dX7_jumpTo_5 : decode cX7_jumpTo 5 = .ok (.invokevirtual 22, 3) := by decide +kernel
theorem dX7_jumpTo_8 : decode cX7_jumpTo 8 = .ok (.aload_n 0, 1) := by decide +kernel
theorem dX7_jumpTo_9 : decode cX7_jumpTo 9 = .ok (.invokevirtual 33, 3) := by decide +kernel
theorem dX7_jumpTo_12 : decode cX7_jumpTo 12 = .ok (.return_, 1) := by decide +kernel
theorem dX7_endRamp_0 : decode cX7_endRamp 0 = .ok (.aload_n 0, 1) := by decide +kernel
theorem dX7_endRamp_1 : decode cX7_endRamp 1 = .ok (.iconst 0, 1) := by decide +kernel
theorem dX7_endRamp_2 : decode cX7_endRamp 2 = .ok (.putfield 30, 3) := by decide +kernel
theorem dX7_endRamp_5 : decode cX7_endRamp 5 = .ok (.return_, 1) := by decide +kernel
set_option maxRecDepth 20000 in
theorem ggX7_beginRamp_X3_becomeLike : GoodIn wsX7_beginRamp wsX3_becomeLike := goodIn_r _ [9, 10, 11, 12, 13, 14, 15, 16, 8, 17, 23, 24, 25, 26] (by decide +kernel) (by decide +kernel)
set_option maxRecDepth 20000 in
theorem gX7_beginRamp_X3_becomeLike : GoodIn wsX7_beginRamp (wsV RX7 22 RX3 yX3_becomeLike wsX3_becomeLike) := goodIn_app (goodIn_of _ (by decide +kernel)) ggX7_beginRamp_X3_becomeLike
theorem dX7_beginRamp_0 : decode cX7_beginRamp 0 = .ok (.aload_n 0, 1) := by decide +kernel
theorem dX7_beginRamp_1 : decode cX7_beginRamp 1 = .ok (.getfield 16, 3) := by decide +kernel
theorem dX7_beginRamp_4 : decode cX7_beginRamp 4 = .ok (.aload_n 0, 1) := by decide +kernel
theorem dX7_beginRamp_5 : decode cX7_beginRamp 5 = .ok (.getfield 10, 3) := by decide +kernel
theorem dX7_beginRamp_8 : decode cX7_beginRamp 8 = .ok (.invokevirtual 22, 3) := by decide +kernel
theorem dX7_beginRamp_11 : decode cX7_beginRamp 11 = .ok (.aload_n 0, 1) := by decide +kernel
theorem dX7_beginRamp_12 : decode cX7_beginRamp 12 = .ok (.iload_n 1, 1) := by decide +kernel
theorem dX7_beginRamp_13 : decode cX7_beginRamp 13 = .ok (.putfield 26, 3) := by decide +kernel
theorem dX7_beginRamp_16 : decode cX7_beginRamp 16 = .ok (.aload_n 0, 1) := by decide +kernel
theorem dX7_beginRamp_17 : decode cX7_beginRamp 17 = .ok (.iload_n 1, 1) := by decide +kernel
theorem dX7_beginRamp_18 : decode cX7_beginRamp 18 = .ok (.putfield 30, 3) := by decide +kernel
theorem dX7_beginRamp_21 : decode cX7_beginRamp 21 = .ok (.return_, 1) := by decide +kernel
set_option maxRecDepth 20000 in
theorem ggX7_advance_X7_onTheWay : GoodIn wsX7_advance wsX7_onTheWay := goodIn_r _ [13, 14, 1, 24, 25, 26, 27, 28] (by decide +kernel) (by decide +kernel)
set_option maxRecDepth 20000 in
theorem gX7_advance_X7_onTheWay : GoodIn wsX7_advance (wsV RX7 39 RX7 yX7_onTheWay wsX7_onTheWay) := goodIn_app (goodIn_of _ (by decide +kernel)) ggX7_advance_X7_onTheWay
set_option maxRecDepth 20000 in
theorem ggX7_advance_X3_put : GoodIn wsX7_advance wsX3_put := goodIn_r _ [19, 20, 21, 22, 23, 29, 30, 31, 32] (by decide +kernel) (by decide +kernel)
set_option maxRecDepth 20000 in
theorem gX7_advance_X3_put : GoodIn wsX7_advance (wsV RX7 52 RX3 yX3_put wsX3_put) := goodIn_app (goodIn_of _ (by decide +kernel)) ggX7_advance_X3_put
theorem dX7_advance_0 : decode cX7_advance 0 = .ok (.aload_n 0, 1) := by decide +kernel
theorem dX7_advance_1 : decode cX7_advance 1 = .ok (.getfield 30, 3) := by decide +kernel
theorem dX7_advance_4 : decode cX7_advance 4 = .ok (.ifCond .gt 4, 3) := by decide +kernel
theorem dX7_advance_7 : decode cX7_advance 7 = .ok (.return_, 1) := by decide +kernel
theorem dX7_advance_8 : decode cX7_advance 8 = .ok (.aload_n 0, 1) := by decide +kernel
theorem dX7_advance_9 : decode cX7_advance 9 = .ok (.dup, 1) := by decide +kernel
theorem dX7_advance_10 : decode cX7_advance 10 = .ok (.getfield 30, 3) := by decide +kernel
theorem dX7_advance_13 : decode cX7_advance 13 = .ok (.iconst 1, 1) := by decide +kernel
theorem dX7_advance_14 : decode cX7_advance 14 = .ok (.isub, 1) := by decide +kernel
theorem dX7_advance_15 : decode cX7_advance 15 = .ok (.putfield 30, 3) := by decide +kernel
theorem dX7_advance_18 : decode cX7_advance 18 = .ok (.aload_n 0, 1) := by decide +kernel
theorem dX7_advance_19 : decode cX7_advance 19 = .ok (.getfield 10, 3) := by decide +kernel
theorem dX7_advance_22 : decode cX7_advance 22 = .ok (.aload_n 0, 1) := by decide +kernel
theorem dX7_advance_23 : decode cX7_advance 23 = .ok (.aload_n 0, 1) := by decide +kernel
theorem dX7_advance_24 : decode cX7_advance 24 = .ok (.getfield 16, 3) := by decide +kernel
theorem dX7_advance_27 : decode cX7_advance 27 = .ok (.getfield 36, 3) := by decide +kernel
theorem dX7_advance_30 : decode cX7_advance 30 = .ok (.aload_n 0, 1) := by decide +kernel
theorem dX7_advance_31 : decode cX7_advance 31 = .ok (.getfield 19, 3) := by decide +kernel
theorem dX7_advance_34 : decode cX7_advance 34 = .ok (.getfield 36, 3) := by decide +kernel
theorem dX7_advance_37 : decode cX7_advance 37 = .ok (.invokevirtual 39, 3) := by decide +kernel
theorem dX7_advance_40 : decode cX7_advance 40 = .ok (.aload_n 0, 1) := by decide +kernel
theorem dX7_advance_41 : decode cX7_advance 41 = .ok (.aload_n 0, 1) := by decide +kernel
theorem dX7_advance_42 : decode cX7_advance 42 = .ok (.getfield 16, 3) := by decide +kernel
theorem dX7_advance_45 : decode cX7_advance 45 = .ok (.getfield 43, 3) := by decide +kernel
theorem dX7_advance_48 : decode cX7_advance 48 = .ok (.aload_n 0, 1) := by decide +kernel
theorem dX7_advance_49 : decode cX7_advance 49 = .ok (.getfield 19, 3) := by decide +kernel
theorem dX7_advance_52 : decode cX7_advance 52 = .ok (.getfield 43, 3) := by decide +kernel
theorem dX7_advance_55 : decode cX7_advance 55 = .ok (.invokevirtual 39, 3) := by decide +kernel
theorem dX7_advance_58 : decode cX7_advance 58 = .ok (.aload_n 0, 1) := by decide +kernel
theorem dX7_advance_59 : decode cX7_advance 59 = .ok (.aload_n 0, 1) := by decide +kernel
theorem dX7_advance_60 : decode cX7_advance 60 = .ok (.getfield 16, 3) := by decide +kernel
theorem dX7_advance_63 : decode cX7_advance 63 = .ok (.getfield 46, 3) := by decide +kernel
theorem dX7_advance_66 : decode cX7_advance 66 = .ok (.aload_n 0, 1) := by decide +kernel
theorem dX7_advance_67 : decode cX7_advance 67 = .ok (.getfield 19, 3) := by decide +kernel
theorem dX7_advance_70 : decode cX7_advance 70 = .ok (.getfield 46, 3) := by decide +kernel
theorem dX7_advance_73 : decode cX7_advance 73 = .ok (.invokevirtual 39, 3) := by decide +kernel
theorem dX7_advance_76 : decode cX7_advance 76 = .ok (.aload_n 0, 1) := by decide +kernel
theorem dX7_advance_77 : decode cX7_advance 77 = .ok (.aload_n 0, 1) := by decide +kernel
theorem dX7_advance_78 : decode cX7_advance 78 = .ok (.getfield 16, 3) := by decide +kernel
theorem dX7_advance_81 : decode cX7_advance 81 = .ok (.getfield 49, 3) := by decide +kernel
theorem dX7_advance_84 : decode cX7_advance 84 = .ok (.aload_n 0, 1) := by decide +kernel
theorem dX7_advance_85 : decode cX7_advance 85 = .ok (.getfield 19, 3) := by decide +kernel
theorem dX7_advance_88 : decode cX7_advance 88 = .ok (.getfield 49, 3) := by decide +kernel
theorem dX7_advance_91 : decode cX7_advance 91 = .ok (.invokevirtual 39, 3) := by decide +kernel
theorem dX7_advance_94 : decode cX7_advance 94 = .ok (.invokevirtual 52, 3) := by decide +kernel
theorem dX7_advance_97 : decode cX7_advance 97 = .ok (.return_, 1) := by decide +kernel
theorem dX7_onTheWay_0 : decode cX7_onTheWay 0 = .ok (.aload_n 0, 1) := by decide +kernel
theorem dX7_onTheWay_1 : decode cX7_onTheWay 1 = .ok (.getfield 26, 3) := by decide +kernel
theorem dX7_onTheWay_4 : decode cX7_onTheWay 4 = .ok (.ifCond .gt 7, 3) := by decide +kernel
theorem dX7_onTheWay_7 : decode cX7_onTheWay 7 = .ok (.iload_n 2, 1) := by decide +kernel
theorem dX7_onTheWay_8 : decode cX7_onTheWay 8 = .ok (.goto 23, 3) := by decide +kernel
theorem dX7_onTheWay_11 : decode cX7_onTheWay 11 = .ok (.iload_n 1, 1) := by decide +kernel
theorem dX7_onTheWay_12 : decode cX7_onTheWay 12 = .ok (.iload_n 2, 1) := by decide +kernel
theorem dX7_onTheWay_13 : decode cX7_onTheWay 13 = .ok (.iload_n 1, 1) := by decide +kernel
theorem dX7_onTheWay_14 : decode cX7_onTheWay 14 = .ok (.isub, 1) := by decide +kernel
theorem dX7_onTheWay_15 : decode cX7_onTheWay 15 = .ok (.aload_n 0, 1) := by decide +kernel
theorem dX7_onTheWay_16 : decode cX7_onTheWay 16 = .ok (.getfield 26, 3) := by decide +kernel
theorem dX7_onTheWay_19 : decode cX7_onTheWay 19 = .ok (.aload_n 0, 1) := by decide +kernel
theorem dX7_onTheWay_20 : decode cX7_onTheWay 20 = .ok (.getfield 30, 3) := by decide +kernel
theorem dX7_onTheWay_23 : decode cX7_onTheWay 23 = .ok (.isub, 1) := by decide +kernel
theorem dX7_onTheWay_24 : decode cX7_onTheWay 24 = .ok (.imul, 1) := by decide +kernel
theorem dX7_onTheWay_25 : decode cX7_onTheWay 25 = .ok (.aload_n 0, 1) := by decide +kernel
theorem dX7_onTheWay_26 : decode cX7_onTheWay 26 = .ok (.getfield 26, 3) := by decide +kernel
theorem dX7_onTheWay_29 : decode cX7_onTheWay 29 = .ok (.idiv, 1) := by decide +kernel
theorem dX7_onTheWay_30 : decode cX7_onTheWay 30 = .ok (.iadd, 1) := by decide +kernel
theorem dX7_onTheWay_31 : decode cX7_onTheWay 31 = .ok (.ireturn, 1) := by decide +kernel
theorem dX8_init_0 : decode cX8_init 0 = .ok (.aload_n 0, 1) := by decide +kernel
theorem dX8_init_1 : decode cX8_init 1 = .ok (.invokespecial 3, 3) := by decide +kernel
theorem dX8_init_4 : decode cX8_init 4 = .ok (.aload_n 0, 1) := by decide +kernel
theorem dX8_init_5 : decode cX8_init 5 = .ok (.bipush 24, 2) := by decide +kernel
theorem dX8_init_7 : decode cX8_init 7 = .ok (.newarray .int, 2) := by decide +kernel
theorem dX8_init_9 : decode cX8_init 9 = .ok (.putfield 9, 3) := by decide +kernel
theorem dX8_init_12 : decode cX8_init 12 = .ok (.return_, 1) := by decide +kernel
theorem dX8_becomeLike_0 : decode cX8_becomeLike 0 = .ok (.aload_n 1, 1) := by decide +kernel
theorem dX8_becomeLike_1 : decode cX8_becomeLike 1 = .ok (.getfield 9, 3) := by decide +kernel
theorem dX8_becomeLike_4 : decode cX8_becomeLike 4 = .ok (.iconst 0, 1) := by decide +kernel
theorem dX8_becomeLike_5 : decode cX8_becomeLike 5 = .ok (.aload_n 0, 1) := by decide +kernel
theorem dX8_becomeLike_6 : decode cX8_becomeLike 6 = .ok (.getfield 9, 3) := by decide +kernel
theorem dX8_becomeLike_9 : decode cX8_becomeLike 9 = .ok (.iconst 0, 1) := by decide +kernel
theorem dX8_becomeLike_10 : decode cX8_becomeLike 10 = .ok (.bipush 24, 2) := by decide +kernel
theorem dX8_becomeLike_12 : decode cX8_becomeLike 12 = .ok (.invokestatic 15, 3) := by decide +kernel
theorem dX8_becomeLike_15 : decode cX8_becomeLike 15 = .ok (.aload_n 0, 1) := by decide +kernel
theorem dX8_becomeLike_16 : decode cX8_becomeLike 16 = .ok (.aload_n 1, 1) := by decide +kernel
theorem dX8_becomeLike_17 : decode cX8_becomeLike 17 = .ok (.getfield 21, 3) := by decide +kernel
theorem dX8_becomeLike_20 : decode cX8_becomeLike 20 = .ok (.putfield 21, 3) := by decide +kernel
theorem dX8_becomeLike_23 : decode cX8_becomeLike 23 = .ok (.aload_n 0, 1) := by decide +kernel
theorem dX8_becomeLike_24 : decode cX8_becomeLike 24 = .ok (.aload_n 1, 1) := by decide +kernel
theorem dX8_becomeLike_25 : decode cX8_becomeLike 25 = .ok (.getfield 25, 3) := by decide +kernel
theorem dX8_becomeLike_28 : decode cX8_becomeLike 28 = .ok (.putfield 25, 3) := by decide +kernel
theorem dX8_becomeLike_31 : decode cX8_becomeLike 31 = .ok (.return_, 1) := by decide +kernel
set_option maxRecDepth 20000 in
theorem ggX8_take_J9_floorMod_7cf53 : GoodIn wsX8_take wsJ9_floorMod_7cf53 := goodIn_r _ [7] (by decide +kernel) (by decide +kernel)
set_option maxRecDepth 20000 in
theorem gX8_take_J9_floorMod_7cf53 : GoodIn wsX8_take (va_wsS RX8 28 yJ9_floorMod_7cf53 wsJ9_floorMod_7cf53) := goodIn_app (goodIn_of _ (by decide +kernel)) ggX8_take_J9_floorMod_7cf53
theorem dX8_take_0 : decode cX8_take 0 = .ok (.iload_n 1, 1) := by decide +kernel
theorem dX8_take_1 : decode cX8_take 1 = .ok (.bipush 24, 2) := by decide +kernel
theorem dX8_take_3 : decode cX8_take 3 = .ok (.invokestatic 28, 3) := by decide +kernel
theorem dX8_take_6 : decode cX8_take 6 = .ok (.istore 4, 2) := by decide +kernel
theorem dX8_take_8 : decode cX8_take 8 = .ok (.getstatic 34, 3) := by decide +kernel
theorem dX8_take_11 : decode cX8_take 11 = .ok (.iload 4, 2) := by decide +kernel
theorem dX8_take_13 : decode cX8_take 13 = .ok (.iaload, 1) := by decide +kernel
theorem dX8_take_14 : decode cX8_take 14 = .ok (.istore 5, 2) := by decide +kernel
theorem dX8_take_16 : decode cX8_take 16 = .ok (.getstatic 34, 3) := by decide +kernel
theorem dX8_take_19 : decode cX8_take 19 = .ok (.iload 4, 2) := by decide +kernel
theorem dX8_take_21 : decode cX8_take 21 = .ok (.bipush 18, 2) := by decide +kernel
theorem dX8_take_23 : decode cX8_take 23 = .ok (.iadd, 1) := by decide +kernel
theorem dX8_take_24 : decode cX8_take 24 = .ok (.bipush 24, 2) := by decide +kernel
theorem dX8_take_26 : decode cX8_take 26 = .ok (.irem, 1) := by decide +kernel
theorem dX8_take_27 : decode cX8_take 27 = .ok (.iaload, 1) := by decide +kernel
theorem dX8_take_28 : decode cX8_take 28 = .ok (.istore 6, 2) := by decide +kernel
theorem dX8_take_30 : decode cX8_take 30 = .ok (.iload_n 2, 1) := by decide +kernel
theorem dX8_take_31 : decode cX8_take 31 = .ok (.iload 5, 2) := by decide +kernel
theorem dX8_take_33 : decode cX8_take 33 = .ok (.imul, 1) := by decide +kernel
theorem dX8_take_34 : decode cX8_take 34 = .ok (.iload_n 3, 1) := by decide +kernel
theorem dX8_take_35 : decode cX8_take 35 = .ok (.iload 6, 2) := by decide +kernel
theorem dX8_take_37 : decode cX8_take 37 = .ok (.imul, 1) := by decide +kernel
theorem dX8_take_38 : decode cX8_take 38 = .ok (.isub, 1) := by decide +kernel
theorem dX8_take_39 : decode cX8_take 39 = .ok (.sipush 4096, 3) := by decide +kernel
theorem dX8_take_42 : decode cX8_take 42 = .ok (.idiv, 1) := by decide +kernel
theorem dX8_take_43 : decode cX8_take 43 = .ok (.istore 7, 2) := by decide +kernel
theorem dX8_take_45 : decode cX8_take 45 = .ok (.iload 7, 2) := by decide +kernel
theorem dX8_take_47 : decode cX8_take 47 = .ok (.aload_n 0, 1) := by decide +kernel
theorem dX8_take_48 : decode cX8_take 48 = .ok (.getfield 9, 3) := by decide +kernel
theorem dX8_take_51 : decode cX8_take 51 = .ok (.iload 4, 2) := by decide +kernel
theorem dX8_take_53 : decode cX8_take 53 = .ok (.iaload, 1) := by decide +kernel
theorem dX8_take_54 : decode cX8_take 54 = .ok (.isub, 1) := by decide +kernel
theorem dX8_take_55 : decode cX8_take 55 = .ok (.i2l, 1) := by decide +kernel
theorem dX8_take_56 : decode cX8_take 56 = .ok (.lstore 8, 2) := by decide +kernel
theorem dX8_take_58 : decode cX8_take 58 = .ok (.aload_n 0, 1) := by decide +kernel
theorem dX8_take_59 : decode cX8_take 59 = .ok (.getfield 9, 3) := by decide +kernel
theorem dX8_take_62 : decode cX8_take 62 = .ok (.iload 4, 2) := by decide +kernel
theorem dX8_take_64 : decode cX8_take 64 = .ok (.iload 7, 2) := by decide +kernel
theorem dX8_take_66 : decode cX8_take 66 = .ok (.iastore, 1) := by decide +kernel
theorem dX8_take_67 : decode cX8_take 67 = .ok (.aload_n 0, 1) := by decide +kernel
theorem dX8_take_68 : decode cX8_take 68 = .ok (.dup, 1) := by decide +kernel
theorem dX8_take_69 : decode cX8_take 69 = .ok (.getfield 21, 3) := by decide +kernel
theorem dX8_take_72 : decode cX8_take 72 = .ok (.lload 8, 2) := by decide +kernel
theorem dX8_take_74 : decode cX8_take 74 = .ok (.iload 5, 2) := by decide +kernel
theorem dX8_take_76 : decode cX8_take 76 = .ok (.i2l, 1) := by decide +kernel
theorem dX8_take_77 : decode cX8_take 77 = .ok (.lmul, 1) := by decide +kernel
theorem dX8_take_78 : decode cX8_take 78 = .ok (.ladd, 1) := by decide +kernel
theorem dX8_take_79 : decode cX8_take 79 = .ok (.putfield 21, 3) := by decide +kernel
theorem dX8_take_82 : decode cX8_take 82 = .ok (.aload_n 0, 1) := by decide +kernel
theorem dX8_take_83 : decode cX8_take 83 = .ok (.dup, 1) := by decide +kernel
theorem dX8_take_84 : decode cX8_take 84 = .ok (.getfield 25, 3) := by decide +kernel
theorem dX8_take_87 : decode cX8_take 87 = .ok (.lload 8, 2) := by decide +kernel
theorem dX8_take_89 : decode cX8_take 89 = .ok (.iload 6, 2) := by decide +kernel
theorem dX8_take_91 : decode cX8_take 91 = .ok (.i2l, 1) := by decide +kernel
theorem dX8_take_92 : decode cX8_take 92 = .ok (.lmul, 1) := by decide +kernel
theorem dX8_take_93 : decode cX8_take 93 = .ok (.ladd, 1) := by decide +kernel
theorem dX8_take_94 : decode cX8_take 94 = .ok (.putfield 25, 3) := by decide +kernel
theorem dX8_take_97 : decode cX8_take 97 = .ok (.return_, 1) := by decide +kernel
theorem dX8_estimateA_0 : decode cX8_estimateA 0 = .ok (.aload_n 0, 1) := by decide +kernel
theorem dX8_estimateA_1 : decode cX8_estimateA 1 = .ok (.getfield 21, 3) := by decide +kernel
theorem dX8_estimateA_4 : decode cX8_estimateA 4 = .ok (.ldc2_w 37, 3) := by decide +kernel
theorem dX8_estimateA_7 : decode cX8_estimateA 7 = .ok (.ldiv, 1) := by decide +kernel
theorem dX8_estimateA_8 : decode cX8_estimateA 8 = .ok (.l2i, 1) := by decide +kernel
theorem dX8_estimateA_9 : decode cX8_estimateA 9 = .ok (.ireturn, 1) := by decide +kernel
theorem dX8_estimateB_0 : decode cX8_estimateB 0 = .ok (.aload_n 0, 1) := by decide +kernel
theorem dX8_estimateB_1 : decode cX8_estimateB 1 = .ok (.getfield 25, 3) := by decide +kernel
theorem dX8_estimateB_4 : decode cX8_estimateB 4 = .ok (.lneg, 1) := by decide +kernel
theorem dX8_estimateB_5 : decode cX8_estimateB 5 = .ok (.ldc2_w 37, 3) := by decide +kernel
theorem dX8_estimateB_8 : decode cX8_estimateB 8 = .ok (.ldiv, 1) := by decide +kernel
theorem dX8_estimateB_9 : decode cX8_estimateB 9 = .ok (.l2i, 1) := by decide +kernel
theorem dX8_estimateB_10 : decode cX8_estimateB 10 = .ok (.ireturn, 1) := by decide +kernel
