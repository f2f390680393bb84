
/-! ===== BEGIN printed: names, fields, word lists, decode rows ===== -/
def RX0 : String := "TouchTracker$CommandReader"
def TX0 : u_T := fun k => match k with
  | 0 => ("TouchTracker$CommandReader", "place", "I", false)
  | 1 => ("TouchTracker$CommandReader", "command", "I", false)
  | 2 => ("TouchTracker$CommandReader", "row", "I", false)
  | 3 => ("TouchTracker$CommandReader", "column", "I", false)
  | _ => ("TouchTracker$CommandReader", "force", "I", false)
def tyX0 : Nat → FieldType := fun k => match k with
  | 0 => .int
  | 1 => .int
  | 2 => .int
  | 3 => .int
  | _ => .int
abbrev wsX00 : List Cond := u_ws RX0 TX0 5
theorem nmX0 : ∀ a, a < 5 → ∀ b, b < 5 → a ≠ b → (TX0 a).2.1 ≠ (TX0 b).2.1 := by decide +kernel
theorem tyX0_ok : ∀ k, k < 5 → parseFieldDescriptor (TX0 k).2.2.1 = some (tyX0 k) := by decide +kernel
abbrev cX0_init : ByteArray := prog_2_method_1_code
def yX0_init : MethodName := ⟨RX0, "<init>", "()V"⟩
def RX1 : String := "TouchTracker$Contacts"
def TX1 : u_T := fun k => match k with
  | 0 => ("TouchTracker$Contacts", "candidates", "[I", true)
  | 1 => ("TouchTracker$Contacts", "rows", "[I", true)
  | 2 => ("TouchTracker$Contacts", "columns", "[I", true)
  | 3 => ("TouchTracker$Contacts", "masses", "[I", true)
  | 4 => ("TouchTracker$Contacts", "peaks", "[I", true)
  | _ => ("TouchTracker$Contacts", "count", "I", false)
def tyX1 : Nat → FieldType := fun k => match k with
  | 0 => .array .int
  | 1 => .array .int
  | 2 => .array .int
  | 3 => .array .int
  | 4 => .array .int
  | _ => .int
abbrev wsX10 : List Cond := u_ws RX1 TX1 6
theorem nmX1 : ∀ a, a < 6 → ∀ b, b < 6 → a ≠ b → (TX1 a).2.1 ≠ (TX1 b).2.1 := by decide +kernel
theorem tyX1_ok : ∀ k, k < 6 → parseFieldDescriptor (TX1 k).2.2.1 = some (tyX1 k) := by decide +kernel
abbrev cX1_init : ByteArray := prog_3_method_1_code
def yX1_init : MethodName := ⟨RX1, "<init>", "()V"⟩
abbrev cX1_find : ByteArray := prog_3_method_2_code
def yX1_find : MethodName := ⟨RX1, "find", "(LTouchTracker$Panel;LTouchTracker$Regions;)V"⟩
abbrev cX1_isPeak : ByteArray := prog_3_method_3_code
def yX1_isPeak : MethodName := ⟨RX1, "isPeak", "(LTouchTracker$Panel;I)Z"⟩
abbrev cX1_massAround : ByteArray := prog_3_method_4_code
def yX1_massAround : MethodName := ⟨RX1, "massAround", "(LTouchTracker$Panel;I)I"⟩
abbrev cX1_heavierThan : ByteArray := prog_3_method_5_code
def yX1_heavierThan : MethodName := ⟨RX1, "heavierThan", "(I)I"⟩
abbrev cX1_add : ByteArray := prog_3_method_6_code
def yX1_add : MethodName := ⟨RX1, "add", "(LTouchTracker$Panel;I)V"⟩
abbrev cX1_isContact : ByteArray := prog_3_method_7_code
def yX1_isContact : MethodName := ⟨RX1, "isContact", "(I)Z"⟩
abbrev cX1_rowOf : ByteArray := prog_3_method_8_code
def yX1_rowOf : MethodName := ⟨RX1, "rowOf", "(I)I"⟩
abbrev cX1_columnOf : ByteArray := prog_3_method_9_code
def yX1_columnOf : MethodName := ⟨RX1, "columnOf", "(I)I"⟩
abbrev cX1_partOf : ByteArray := prog_3_method_10_code
def yX1_partOf : MethodName := ⟨RX1, "partOf", "(II)I"⟩
def RX2 : String := "TouchTracker$History"
def TX2 : u_T := fun k => match k with
  | 0 => ("TouchTracker$History", "saved", "[LTouchTracker$State;", true)
  | _ => ("TouchTracker$History", "count", "I", false)
def tyX2 : Nat → FieldType := fun k => match k with
  | 0 => .array (.object "TouchTracker$State")
  | _ => .int
abbrev wsX20 : List Cond := u_ws RX2 TX2 2
theorem nmX2 : ∀ a, a < 2 → ∀ b, b < 2 → a ≠ b → (TX2 a).2.1 ≠ (TX2 b).2.1 := by decide +kernel
theorem tyX2_ok : ∀ k, k < 2 → parseFieldDescriptor (TX2 k).2.2.1 = some (tyX2 k) := by decide +kernel
abbrev cX2_init : ByteArray := prog_4_method_1_code
def yX2_init : MethodName := ⟨RX2, "<init>", "()V"⟩
abbrev cX2_save : ByteArray := prog_4_method_2_code
def yX2_save : MethodName := ⟨RX2, "save", "(LTouchTracker$State;)V"⟩
abbrev cX2_dropOldest : ByteArray := prog_4_method_3_code
def yX2_dropOldest : MethodName := ⟨RX2, "dropOldest", "()V"⟩
abbrev cX2_restore : ByteArray := prog_4_method_4_code
def yX2_restore : MethodName := ⟨RX2, "restore", "(LTouchTracker$State;)V"⟩
def RX3 : String := "TouchTracker$Matching"
def TX3 : u_T := fun k => match k with
  | 0 => ("TouchTracker$Matching", "pairCosts", "[[I", true)
  | 1 => ("TouchTracker$Matching", "noneCosts", "[I", true)
  | 2 => ("TouchTracker$Matching", "leastCosts", "[[I", true)
  | 3 => ("TouchTracker$Matching", "assigned", "[I", true)
  | 4 => ("TouchTracker$Matching", "taken", "I", false)
  | _ => ("TouchTracker$Matching", "count", "I", false)
def tyX3 : Nat → FieldType := fun k => match k with
  | 0 => .array (.array .int)
  | 1 => .array .int
  | 2 => .array (.array .int)
  | 3 => .array .int
  | 4 => .int
  | _ => .int
abbrev wsX30 : List Cond := u_ws RX3 TX3 6
theorem nmX3 : ∀ a, a < 6 → ∀ b, b < 6 → a ≠ b → (TX3 a).2.1 ≠ (TX3 b).2.1 := by decide +kernel
theorem tyX3_ok : ∀ k, k < 6 → parseFieldDescriptor (TX3 k).2.2.1 = some (tyX3 k) := by decide +kernel
abbrev cX3_init : ByteArray := prog_5_method_1_code
def yX3_init : MethodName := ⟨RX3, "<init>", "()V"⟩
abbrev cX3_find : ByteArray := prog_5_method_2_code
def yX3_find : MethodName := ⟨RX3, "find", "(LTouchTracker$State;LTouchTracker$Contacts;)V"⟩
abbrev cX3_pairCost : ByteArray := prog_5_method_3_code
def yX3_pairCost : MethodName := ⟨RX3, "pairCost", "(LTouchTracker$Track;LTouchTracker$Contacts;II)I"⟩
abbrev cX3_leastCost : ByteArray := prog_5_method_4_code
def yX3_leastCost : MethodName := ⟨RX3, "leastCost", "(II)I"⟩
abbrev cX3_canTake : ByteArray := prog_5_method_5_code
def yX3_canTake : MethodName := ⟨RX3, "canTake", "(III)Z"⟩
abbrev cX3_costWith : ByteArray := prog_5_method_6_code
def yX3_costWith : MethodName := ⟨RX3, "costWith", "(III)I"⟩
abbrev cX3_assign : ByteArray := prog_5_method_7_code
def yX3_assign : MethodName := ⟨RX3, "assign", "()V"⟩
abbrev cX3_firstBest : ByteArray := prog_5_method_8_code
def yX3_firstBest : MethodName := ⟨RX3, "firstBest", "(II)I"⟩
abbrev cX3_contactOf : ByteArray := prog_5_method_9_code
def yX3_contactOf : MethodName := ⟨RX3, "contactOf", "(I)I"⟩
abbrev cX3_wholeCost : ByteArray := prog_5_method_10_code
def yX3_wholeCost : MethodName := ⟨RX3, "wholeCost", "()I"⟩
abbrev cX3_nextUnassigned : ByteArray := prog_5_method_11_code
def yX3_nextUnassigned : MethodName := ⟨RX3, "nextUnassigned", "(I)I"⟩
def RX4 : String := "TouchTracker$Panel"
def TX4 : u_T := fun k => match k with
  | 0 => ("TouchTracker$Panel", "raws", "[I", true)
  | _ => ("TouchTracker$Panel", "baselines", "[I", true)
def tyX4 : Nat → FieldType := fun k => match k with
  | 0 => .array .int
  | _ => .array .int
abbrev wsX40 : List Cond := u_ws RX4 TX4 2
theorem nmX4 : ∀ a, a < 2 → ∀ b, b < 2 → a ≠ b → (TX4 a).2.1 ≠ (TX4 b).2.1 := by decide +kernel
theorem tyX4_ok : ∀ k, k < 2 → parseFieldDescriptor (TX4 k).2.2.1 = some (tyX4 k) := by decide +kernel
abbrev cX4_init : ByteArray := prog_6_method_1_code
def yX4_init : MethodName := ⟨RX4, "<init>", "()V"⟩
abbrev cX4_rawOf : ByteArray := prog_6_method_2_code
def yX4_rawOf : MethodName := ⟨RX4, "rawOf", "(I)I"⟩
abbrev cX4_signalOf : ByteArray := prog_6_method_3_code
def yX4_signalOf : MethodName := ⟨RX4, "signalOf", "(I)I"⟩
abbrev cX4_signalAt : ByteArray := prog_6_method_4_code
def yX4_signalAt : MethodName := ⟨RX4, "signalAt", "(II)I"⟩
abbrev cX4_replaceRaw : ByteArray := prog_6_method_5_code
def yX4_replaceRaw : MethodName := ⟨RX4, "replaceRaw", "(II)I"⟩
abbrev cX4_pressAt : ByteArray := prog_6_method_6_code
def yX4_pressAt : MethodName := ⟨RX4, "pressAt", "(III)V"⟩
abbrev cX4_raise : ByteArray := prog_6_method_7_code
def yX4_raise : MethodName := ⟨RX4, "raise", "(III)V"⟩
abbrev cX4_clearRaw : ByteArray := prog_6_method_8_code
def yX4_clearRaw : MethodName := ⟨RX4, "clearRaw", "()I"⟩
abbrev cX4_takeBaselines : ByteArray := prog_6_method_9_code
def yX4_takeBaselines : MethodName := ⟨RX4, "takeBaselines", "()I"⟩
abbrev cX4_copyFrom : ByteArray := prog_6_method_10_code
def yX4_copyFrom : MethodName := ⟨RX4, "copyFrom", "(LTouchTracker$Panel;)V"⟩
def RX5 : String := "TouchTracker$Regions"
def TX5 : u_T := fun k => match k with
  | 0 => ("TouchTracker$Regions", "regionOf", "[I", true)
  | 1 => ("TouchTracker$Regions", "sizes", "[I", true)
  | 2 => ("TouchTracker$Regions", "greatest", "[I", true)
  | 3 => ("TouchTracker$Regions", "palm", "I", false)
  | _ => ("TouchTracker$Regions", "sharp", "I", false)
def tyX5 : Nat → FieldType := fun k => match k with
  | 0 => .array .int
  | 1 => .array .int
  | 2 => .array .int
  | 3 => .int
  | _ => .int
abbrev wsX50 : List Cond := u_ws RX5 TX5 5
theorem nmX5 : ∀ a, a < 5 → ∀ b, b < 5 → a ≠ b → (TX5 a).2.1 ≠ (TX5 b).2.1 := by decide +kernel
theorem tyX5_ok : ∀ k, k < 5 → parseFieldDescriptor (TX5 k).2.2.1 = some (tyX5 k) := by decide +kernel
abbrev cX5_init : ByteArray := prog_7_method_1_code
def yX5_init : MethodName := ⟨RX5, "<init>", "()V"⟩
abbrev cX5_find : ByteArray := prog_7_method_2_code
def yX5_find : MethodName := ⟨RX5, "find", "(LTouchTracker$State;)V"⟩
abbrev cX5_joinAll : ByteArray := prog_7_method_3_code
def yX5_joinAll : MethodName := ⟨RX5, "joinAll", "()Z"⟩
abbrev cX5_join : ByteArray := prog_7_method_4_code
def yX5_join : MethodName := ⟨RX5, "join", "(II)Z"⟩
abbrev cX5_measure : ByteArray := prog_7_method_5_code
def yX5_measure : MethodName := ⟨RX5, "measure", "(LTouchTracker$Panel;)V"⟩
abbrev cX5_sizeAround : ByteArray := prog_7_method_6_code
def yX5_sizeAround : MethodName := ⟨RX5, "sizeAround", "(I)I"⟩
abbrev cX5_kindAround : ByteArray := prog_7_method_7_code
def yX5_kindAround : MethodName := ⟨RX5, "kindAround", "(I)I"⟩
abbrev cX5_countOf : ByteArray := prog_7_method_8_code
def yX5_countOf : MethodName := ⟨RX5, "countOf", "(I)I"⟩
def RX6 : String := "TouchTracker$State"
def TX6 : u_T := fun k => match k with
  | 0 => ("TouchTracker$State", "panel", "LTouchTracker$Panel;", true)
  | 1 => ("TouchTracker$State", "settings", "[I", true)
  | 2 => ("TouchTracker$State", "tracks", "[LTouchTracker$Track;", true)
  | 3 => ("TouchTracker$State", "frameCount", "I", false)
  | 4 => ("TouchTracker$State", "downCount", "I", false)
  | _ => ("TouchTracker$State", "upCount", "I", false)
def tyX6 : Nat → FieldType := fun k => match k with
  | 0 => .object "TouchTracker$Panel"
  | 1 => .array .int
  | 2 => .array (.object "TouchTracker$Track")
  | 3 => .int
  | 4 => .int
  | _ => .int
abbrev wsX60 : List Cond := u_ws RX6 TX6 6
theorem nmX6 : ∀ a, a < 6 → ∀ b, b < 6 → a ≠ b → (TX6 a).2.1 ≠ (TX6 b).2.1 := by decide +kernel
theorem tyX6_ok : ∀ k, k < 6 → parseFieldDescriptor (TX6 k).2.2.1 = some (tyX6 k) := by decide +kernel
abbrev cX6_init : ByteArray := prog_8_method_1_code
def yX6_init : MethodName := ⟨RX6, "<init>", "()V"⟩
abbrev cX6_copyFrom : ByteArray := prog_8_method_2_code
def yX6_copyFrom : MethodName := ⟨RX6, "copyFrom", "(LTouchTracker$State;)V"⟩
abbrev cX6_downSet : ByteArray := prog_8_method_3_code
def yX6_downSet : MethodName := ⟨RX6, "downSet", "()I"⟩
abbrev cX6_takeFrame : ByteArray := prog_8_method_4_code
def yX6_takeFrame : MethodName := ⟨RX6, "takeFrame", "(LTouchTracker$Contacts;LTouchTracker$Matching;)I"⟩
abbrev cX6_moveTracks : ByteArray := prog_8_method_5_code
def yX6_moveTracks : MethodName := ⟨RX6, "moveTracks", "(LTouchTracker$Contacts;LTouchTracker$Matching;)V"⟩
abbrev cX6_startTracks : ByteArray := prog_8_method_6_code
def yX6_startTracks : MethodName := ⟨RX6, "startTracks", "(LTouchTracker$Contacts;LTouchTracker$Matching;I)V"⟩
def RX7 : String := "TouchTracker$Text"
def TX7 : u_T := fun k => match k with
  | 0 => ("TouchTracker$Text", "characters", "[C", true)
  | _ => ("TouchTracker$Text", "length", "I", false)
def tyX7 : Nat → FieldType := fun k => match k with
  | 0 => .array .char
  | _ => .int
abbrev wsX70 : List Cond := u_ws RX7 TX7 2
theorem nmX7 : ∀ a, a < 2 → ∀ b, b < 2 → a ≠ b → (TX7 a).2.1 ≠ (TX7 b).2.1 := by decide +kernel
theorem tyX7_ok : ∀ k, k < 2 → parseFieldDescriptor (TX7 k).2.2.1 = some (tyX7 k) := by decide +kernel
abbrev cX7_init : ByteArray := prog_9_method_1_code
def yX7_init : MethodName := ⟨RX7, "<init>", "()V"⟩
def RX8 : String := "TouchTracker$Track"
def TX8 : u_T := fun k => match k with
  | 0 => ("TouchTracker$Track", "down", "Z", false)
  | 1 => ("TouchTracker$Track", "row", "I", false)
  | 2 => ("TouchTracker$Track", "column", "I", false)
  | 3 => ("TouchTracker$Track", "age", "I", false)
  | _ => ("TouchTracker$Track", "missed", "I", false)
def tyX8 : Nat → FieldType := fun k => match k with
  | 0 => .boolean
  | 1 => .int
  | 2 => .int
  | 3 => .int
  | _ => .int
abbrev wsX80 : List Cond := u_ws RX8 TX8 5
theorem nmX8 : ∀ a, a < 5 → ∀ b, b < 5 → a ≠ b → (TX8 a).2.1 ≠ (TX8 b).2.1 := by decide +kernel
theorem tyX8_ok : ∀ k, k < 5 → parseFieldDescriptor (TX8 k).2.2.1 = some (tyX8 k) := by decide +kernel
abbrev cX8_init : ByteArray := prog_10_method_1_code
def yX8_init : MethodName := ⟨RX8, "<init>", "()V"⟩
abbrev cX8_goDown : ByteArray := prog_10_method_2_code
def yX8_goDown : MethodName := ⟨RX8, "goDown", "(II)V"⟩
abbrev cX8_follow : ByteArray := prog_10_method_3_code
def yX8_follow : MethodName := ⟨RX8, "follow", "(II)V"⟩
abbrev cX8_miss : ByteArray := prog_10_method_4_code
def yX8_miss : MethodName := ⟨RX8, "miss", "(I)V"⟩
abbrev cX8_partOf : ByteArray := prog_10_method_5_code
def yX8_partOf : MethodName := ⟨RX8, "partOf", "(I)I"⟩
abbrev cX8_squaredWayTo : ByteArray := prog_10_method_6_code
def yX8_squaredWayTo : MethodName := ⟨RX8, "squaredWayTo", "(II)I"⟩
abbrev cX8_copyFrom : ByteArray := prog_10_method_7_code
def yX8_copyFrom : MethodName := ⟨RX8, "copyFrom", "(LTouchTracker$Track;)V"⟩
def RX9 : String := "TouchTracker"
def TX9 : u_T := fun k => match k with
  | 0 => ("TouchTracker", "state", "LTouchTracker$State;", true)
  | 1 => ("TouchTracker", "rehearsal", "LTouchTracker$State;", true)
  | 2 => ("TouchTracker", "history", "LTouchTracker$History;", true)
  | 3 => ("TouchTracker", "regionMap", "LTouchTracker$Regions;", true)
  | 4 => ("TouchTracker", "contactList", "LTouchTracker$Contacts;", true)
  | 5 => ("TouchTracker", "matching", "LTouchTracker$Matching;", true)
  | 6 => ("TouchTracker", "text", "LTouchTracker$Text;", true)
  | _ => ("TouchTracker", "reader", "LTouchTracker$CommandReader;", true)
def tyX9 : Nat → FieldType := fun k => match k with
  | 0 => .object "TouchTracker$State"
  | 1 => .object "TouchTracker$State"
  | 2 => .object "TouchTracker$History"
  | 3 => .object "TouchTracker$Regions"
  | 4 => .object "TouchTracker$Contacts"
  | 5 => .object "TouchTracker$Matching"
  | 6 => .object "TouchTracker$Text"
  | _ => .object "TouchTracker$CommandReader"
abbrev wsX90 : List Cond := u_ws RX9 TX9 8
theorem nmX9 : ∀ a, a < 8 → ∀ b, b < 8 → a ≠ b → (TX9 a).2.1 ≠ (TX9 b).2.1 := by decide +kernel
theorem tyX9_ok : ∀ k, k < 8 → parseFieldDescriptor (TX9 k).2.2.1 = some (tyX9 k) := by decide +kernel
abbrev cX9_init : ByteArray := prog_1_method_1_code
def yX9_init : MethodName := ⟨RX9, "<init>", "()V"⟩
abbrev cX9_setRaw : ByteArray := prog_1_method_2_code
def yX9_setRaw : MethodName := ⟨RX9, "setRaw", "(III)I"⟩
abbrev cX9_press : ByteArray := prog_1_method_3_code
def yX9_press : MethodName := ⟨RX9, "press", "(III)I"⟩
abbrev cX9_release : ByteArray := prog_1_method_4_code
def yX9_release : MethodName := ⟨RX9, "release", "()I"⟩
abbrev cX9_calibrate : ByteArray := prog_1_method_5_code
def yX9_calibrate : MethodName := ⟨RX9, "calibrate", "()I"⟩
abbrev cX9_set : ByteArray := prog_1_method_6_code
def yX9_set : MethodName := ⟨RX9, "set", "(II)I"⟩
abbrev cX9_scan : ByteArray := prog_1_method_7_code
def yX9_scan : MethodName := ⟨RX9, "scan", "()I"⟩
abbrev cX9_undo : ByteArray := prog_1_method_12_code
def yX9_undo : MethodName := ⟨RX9, "undo", "()I"⟩
abbrev cX9_raw : ByteArray := prog_1_method_13_code
def yX9_raw : MethodName := ⟨RX9, "raw", "(II)I"⟩
abbrev cX9_signal : ByteArray := prog_1_method_14_code
def yX9_signal : MethodName := ⟨RX9, "signal", "(II)I"⟩
abbrev cX9_regionSize : ByteArray := prog_1_method_15_code
def yX9_regionSize : MethodName := ⟨RX9, "regionSize", "(II)I"⟩
abbrev cX9_regionKind : ByteArray := prog_1_method_16_code
def yX9_regionKind : MethodName := ⟨RX9, "regionKind", "(II)I"⟩
abbrev cX9_regions : ByteArray := prog_1_method_17_code
def yX9_regions : MethodName := ⟨RX9, "regions", "(I)I"⟩
abbrev cX9_setting : ByteArray := prog_1_method_18_code
def yX9_setting : MethodName := ⟨RX9, "setting", "(I)I"⟩
abbrev cX9_contacts : ByteArray := prog_1_method_19_code
def yX9_contacts : MethodName := ⟨RX9, "contacts", "()I"⟩
abbrev cX9_contact : ByteArray := prog_1_method_20_code
def yX9_contact : MethodName := ⟨RX9, "contact", "(II)I"⟩
abbrev cX9_isDown : ByteArray := prog_1_method_21_code
def yX9_isDown : MethodName := ⟨RX9, "isDown", "(I)Z"⟩
abbrev cX9_track : ByteArray := prog_1_method_22_code
def yX9_track : MethodName := ⟨RX9, "track", "(II)I"⟩
abbrev cX9_squaredDistance : ByteArray := prog_1_method_23_code
def yX9_squaredDistance : MethodName := ⟨RX9, "squaredDistance", "(II)I"⟩
abbrev cX9_match : ByteArray := prog_1_method_24_code
def yX9_match : MethodName := ⟨RX9, "match", "(I)I"⟩
abbrev cX9_matchingCost : ByteArray := prog_1_method_25_code
def yX9_matchingCost : MethodName := ⟨RX9, "matchingCost", "()I"⟩
abbrev cX9_downIfScanned : ByteArray := prog_1_method_26_code
def yX9_downIfScanned : MethodName := ⟨RX9, "downIfScanned", "()I"⟩
abbrev cX9_frames : ByteArray := prog_1_method_27_code
def yX9_frames : MethodName := ⟨RX9, "frames", "()I"⟩
abbrev cX9_downs : ByteArray := prog_1_method_28_code
def yX9_downs : MethodName := ⟨RX9, "downs", "()I"⟩
abbrev cX9_ups : ByteArray := prog_1_method_29_code
def yX9_ups : MethodName := ⟨RX9, "ups", "()I"⟩
abbrev cX9_meanSignal : ByteArray := prog_1_method_30_code
def yX9_meanSignal : MethodName := ⟨RX9, "meanSignal", "()F"⟩
abbrev cX9_savedStates : ByteArray := prog_1_method_31_code
def yX9_savedStates : MethodName := ⟨RX9, "savedStates", "()I"⟩
abbrev cX9_requireCell : ByteArray := prog_1_method_33_code
def yX9_requireCell : MethodName := ⟨RX9, "requireCell", "(II)V"⟩
abbrev cX9_requireSetting : ByteArray := prog_1_method_34_code
def yX9_requireSetting : MethodName := ⟨RX9, "requireSetting", "(I)V"⟩
abbrev cX9_requireTrack : ByteArray := prog_1_method_35_code
def yX9_requireTrack : MethodName := ⟨RX9, "requireTrack", "(I)V"⟩
abbrev cX9_requireContactNumber : ByteArray := prog_1_method_36_code
def yX9_requireContactNumber : MethodName := ⟨RX9, "requireContactNumber", "(I)V"⟩
abbrev cX9_requirePart : ByteArray := prog_1_method_37_code
def yX9_requirePart : MethodName := ⟨RX9, "requirePart", "(I)V"⟩
abbrev cX9_isOnPanel : ByteArray := prog_1_method_38_code
def yX9_isOnPanel : MethodName := ⟨RX9, "isOnPanel", "(II)Z"⟩
abbrev cX9_isCell : ByteArray := prog_1_method_39_code
def yX9_isCell : MethodName := ⟨RX9, "isCell", "(I)Z"⟩
abbrev cX9_cellAt : ByteArray := prog_1_method_40_code
def yX9_cellAt : MethodName := ⟨RX9, "cellAt", "(II)I"⟩
abbrev cX9_findContacts : ByteArray := prog_1_method_41_code
def yX9_findContacts : MethodName := ⟨RX9, "findContacts", "()V"⟩
abbrev cX9_findMatching : ByteArray := prog_1_method_42_code
def yX9_findMatching : MethodName := ⟨RX9, "findMatching", "()V"⟩
abbrev cX9_scanFrame : ByteArray := prog_1_method_43_code
def yX9_scanFrame : MethodName := ⟨RX9, "scanFrame", "(LTouchTracker$State;)I"⟩
def RX10 : String := "TouchTrackerModel"
def TX10 : u_T := fun k => match k with
  | _ => ("", "", "", false)
def tyX10 : Nat → FieldType := fun k => match k with
  | _ => .int
abbrev wsX100 : List Cond := u_ws RX10 TX10 0
theorem nmX10 : ∀ a, a < 0 → ∀ b, b < 0 → a ≠ b → (TX10 a).2.1 ≠ (TX10 b).2.1 := by decide +kernel
theorem tyX10_ok : ∀ k, k < 0 → parseFieldDescriptor (TX10 k).2.2.1 = some (tyX10 k) := by decide +kernel
def RJ0 : String := "java/lang/String"
def TJ0 : u_T := fun k => match k with
  | _ => ("", "", "", false)
def tyJ0 : Nat → FieldType := fun k => match k with
  | _ => .int
abbrev wsJ00 : List Cond := u_ws RJ0 TJ0 0
theorem nmJ0 : ∀ a, a < 0 → ∀ b, b < 0 → a ≠ b → (TJ0 a).2.1 ≠ (TJ0 b).2.1 := by decide +kernel
theorem tyJ0_ok : ∀ k, k < 0 → parseFieldDescriptor (TJ0 k).2.2.1 = some (tyJ0 k) := by decide +kernel
def RJ10 : String := "java/lang/System"
def TJ10 : u_T := fun k => match k with
  | _ => ("", "", "", false)
def tyJ10 : Nat → FieldType := fun k => match k with
  | _ => .int
abbrev wsJ100 : List Cond := u_ws RJ10 TJ10 0
theorem nmJ10 : ∀ a, a < 0 → ∀ b, b < 0 → a ≠ b → (TJ10 a).2.1 ≠ (TJ10 b).2.1 := by decide +kernel
theorem tyJ10_ok : ∀ k, k < 0 → parseFieldDescriptor (TJ10 k).2.2.1 = some (tyJ10 k) := by decide +kernel
def RL : String := "TouchTrackerLaw"
abbrev cL_cell : ByteArray := method_2_code
def yL_cell : MethodName := ⟨RL, "cell", "([II)I"⟩
abbrev cL_up : ByteArray := method_3_code
def yL_up : MethodName := ⟨RL, "up", "(II)I"⟩
abbrev cL_bits : ByteArray := method_4_code
def yL_bits : MethodName := ⟨RL, "bits", "(I)I"⟩
abbrev cL_told : ByteArray := method_5_code
def yL_told : MethodName := ⟨RL, "told", "(LTouchTracker;)J"⟩
abbrev cL_downSet : ByteArray := method_6_code
def yL_downSet : MethodName := ⟨RL, "downSet", "(LTouchTracker;)I"⟩
abbrev cL_acts : ByteArray := method_7_code
def yL_acts : MethodName := ⟨RL, "acts", "(LTouchTracker;II)Z"⟩
abbrev cL_presses : ByteArray := method_8_code
def yL_presses : MethodName := ⟨RL, "presses", "(LTouchTracker;III)Z"⟩
abbrev cL_scans : ByteArray := method_9_code
def yL_scans : MethodName := ⟨RL, "scans", "(LTouchTracker;)Z"⟩
abbrev cL_holds : ByteArray := method_10_code
def yL_holds : MethodName := ⟨RL, "holds", "(LTouchTracker;)Z"⟩
abbrev cL_isMatched : ByteArray := method_11_code
def yL_isMatched : MethodName := ⟨RL, "isMatched", "(LTouchTracker;)Z"⟩
abbrev cL_law : ByteArray := code
def yL_law : MethodName := ⟨RL, "law", "([I)Z"⟩
def wsX0_init : List Cond := .code yX0_init cX0_init 1 none :: ([.methodLink RX0 3 objectInit, .instanceMethod objectInit, .code objectInit ⟨#[0xb1]⟩ 1 none])
def wsX1_init : List Cond := .code yX1_init cX1_init 1 none :: ([.methodLink RX1 3 objectInit, .instanceMethod objectInit, .code objectInit ⟨#[0xb1]⟩ 1 none, .arrayClass .int, .fieldLink RX1 9 "TouchTracker$Contacts" "candidates" "[I", .fieldLink RX1 15 "TouchTracker$Contacts" "rows" "[I", .fieldLink RX1 18 "TouchTracker$Contacts" "columns" "[I", .fieldLink RX1 21 "TouchTracker$Contacts" "masses" "[I", .fieldLink RX1 24 "TouchTracker$Contacts" "peaks" "[I"] ++ wsX10)
def wsX9_isCell : List Cond := .code yX9_isCell cX9_isCell 1 (some .boolean) :: ([])
def wsX5_kindAround : List Cond := .code yX5_kindAround cX5_kindAround 3 (some .int) :: ([.fieldLink RX5 9 "TouchTracker$Regions" "regionOf" "[I", .fieldLink RX5 15 "TouchTracker$Regions" "sizes" "[I", .fieldLink RX5 26 "TouchTracker$Regions" "palm" "I", .fieldLink RX5 18 "TouchTracker$Regions" "greatest" "[I", .fieldLink RX5 30 "TouchTracker$Regions" "sharp" "I", .static yX9_isCell, .initialized RX9, .code yX9_isCell cX9_isCell 1 (some .boolean)] ++ wsX50)
def wsX4_signalOf : List Cond := .code yX4_signalOf cX4_signalOf 3 (some .int) :: ([.fieldLink RX4 9 "TouchTracker$Panel" "raws" "[I", .fieldLink RX4 15 "TouchTracker$Panel" "baselines" "[I"] ++ wsX40)
def wsX9_isOnPanel : List Cond := .code yX9_isOnPanel cX9_isOnPanel 2 (some .boolean) :: ([])
def wsX9_cellAt : List Cond := .code yX9_cellAt cX9_cellAt 2 (some .int) :: ([])
def wsX4_signalAt : List Cond := .code yX4_signalAt cX4_signalAt 3 (some .int) :: ([.static yX9_isOnPanel, .initialized RX9, .code yX9_isOnPanel cX9_isOnPanel 2 (some .boolean), .static yX9_cellAt, .code yX9_cellAt cX9_cellAt 2 (some .int), .methodLink RX4 30 yX4_signalOf, .instanceMethod yX4_signalOf, .selects RX4 yX4_signalOf yX4_signalOf, .initialized RX4, .code yX4_signalOf cX4_signalOf 3 (some .int), .fieldLink RX4 9 "TouchTracker$Panel" "raws" "[I", .fieldLink RX4 15 "TouchTracker$Panel" "baselines" "[I"] ++ wsX40)
def wsX1_isPeak : List Cond := .code yX1_isPeak cX1_isPeak 7 (some .boolean) :: ([.methodLink RX1 52 yX4_signalOf, .instanceMethod yX4_signalOf, .selects RX4 yX4_signalOf yX4_signalOf, .initialized RX4, .code yX4_signalOf cX4_signalOf 3 (some .int), .fieldLink RX4 9 "TouchTracker$Panel" "raws" "[I", .fieldLink RX4 15 "TouchTracker$Panel" "baselines" "[I", .methodLink RX1 57 yX4_signalAt, .instanceMethod yX4_signalAt, .selects RX4 yX4_signalAt yX4_signalAt, .code yX4_signalAt cX4_signalAt 3 (some .int), .static yX9_isOnPanel, .initialized RX9, .code yX9_isOnPanel cX9_isOnPanel 2 (some .boolean), .static yX9_cellAt, .code yX9_cellAt cX9_cellAt 2 (some .int), .methodLink RX4 30 yX4_signalOf] ++ wsX40)
def wsX1_massAround : List Cond := .code yX1_massAround cX1_massAround 5 (some .int) :: ([.methodLink RX1 57 yX4_signalAt, .instanceMethod yX4_signalAt, .selects RX4 yX4_signalAt yX4_signalAt, .initialized RX4, .code yX4_signalAt cX4_signalAt 3 (some .int), .static yX9_isOnPanel, .initialized RX9, .code yX9_isOnPanel cX9_isOnPanel 2 (some .boolean), .static yX9_cellAt, .code yX9_cellAt cX9_cellAt 2 (some .int), .methodLink RX4 30 yX4_signalOf, .instanceMethod yX4_signalOf, .selects RX4 yX4_signalOf yX4_signalOf, .code yX4_signalOf cX4_signalOf 3 (some .int), .fieldLink RX4 9 "TouchTracker$Panel" "raws" "[I", .fieldLink RX4 15 "TouchTracker$Panel" "baselines" "[I"] ++ wsX40)
def wsX1_heavierThan : List Cond := .code yX1_heavierThan cX1_heavierThan 5 (some .int) :: ([.fieldLink RX1 9 "TouchTracker$Contacts" "candidates" "[I", .static yX9_isCell, .initialized RX9, .code yX9_isCell cX9_isCell 1 (some .boolean)] ++ wsX10)
def wsX1_add : List Cond := .code yX1_add cX1_add 11 none :: ([.fieldLink RX1 9 "TouchTracker$Contacts" "candidates" "[I", .fieldLink RX1 41 "TouchTracker$Contacts" "count" "I", .fieldLink RX1 15 "TouchTracker$Contacts" "rows" "[I", .fieldLink RX1 18 "TouchTracker$Contacts" "columns" "[I", .fieldLink RX1 21 "TouchTracker$Contacts" "masses" "[I", .fieldLink RX1 24 "TouchTracker$Contacts" "peaks" "[I", .static yX9_isCell, .initialized RX9, .code yX9_isCell cX9_isCell 1 (some .boolean), .methodLink RX1 57 yX4_signalAt, .instanceMethod yX4_signalAt, .selects RX4 yX4_signalAt yX4_signalAt, .initialized RX4, .code yX4_signalAt cX4_signalAt 3 (some .int), .static yX9_isOnPanel, .code yX9_isOnPanel cX9_isOnPanel 2 (some .boolean), .static yX9_cellAt, .code yX9_cellAt cX9_cellAt 2 (some .int), .methodLink RX4 30 yX4_signalOf, .instanceMethod yX4_signalOf, .selects RX4 yX4_signalOf yX4_signalOf, .code yX4_signalOf cX4_signalOf 3 (some .int), .fieldLink RX4 9 "TouchTracker$Panel" "raws" "[I", .fieldLink RX4 15 "TouchTracker$Panel" "baselines" "[I"] ++ wsX10 ++ wsX40)
def wsX1_find_r1 : List Cond := [Cond.fieldLink RX1 9 "TouchTracker$Contacts" "candidates" "[I", Cond.fieldLink RX1 41 "TouchTracker$Contacts" "count" "I", Cond.methodLink RX1 27 yX5_kindAround, Cond.instanceMethod yX5_kindAround, Cond.selects RX5 yX5_kindAround yX5_kindAround, Cond.initialized RX5, Cond.code yX5_kindAround cX5_kindAround 3 (some .int), Cond.fieldLink RX5 9 "TouchTracker$Regions" "regionOf" "[I", Cond.fieldLink RX5 15 "TouchTracker$Regions" "sizes" "[I", Cond.fieldLink RX5 26 "TouchTracker$Regions" "palm" "I", Cond.fieldLink RX5 18 "TouchTracker$Regions" "greatest" "[I", Cond.fieldLink RX5 30 "TouchTracker$Regions" "sharp" "I", Cond.static yX9_isCell, Cond.initialized RX9, Cond.code yX9_isCell cX9_isCell 1 (some .boolean), Cond.methodLink RX1 33 yX1_isPeak, Cond.static yX1_isPeak, Cond.initialized RX1, Cond.code yX1_isPeak cX1_isPeak 7 (some .boolean), Cond.methodLink RX1 52 yX4_signalOf, Cond.instanceMethod yX4_signalOf, Cond.selects RX4 yX4_signalOf yX4_signalOf, Cond.initialized RX4, Cond.code yX4_signalOf cX4_signalOf 3 (some .int)]
def wsX1_find_r2 : List Cond := [Cond.fieldLink RX4 9 "TouchTracker$Panel" "raws" "[I", Cond.fieldLink RX4 15 "TouchTracker$Panel" "baselines" "[I", Cond.methodLink RX1 57 yX4_signalAt, Cond.instanceMethod yX4_signalAt, Cond.selects RX4 yX4_signalAt yX4_signalAt, Cond.code yX4_signalAt cX4_signalAt 3 (some .int), Cond.static yX9_isOnPanel, Cond.code yX9_isOnPanel cX9_isOnPanel 2 (some .boolean), Cond.static yX9_cellAt, Cond.code yX9_cellAt cX9_cellAt 2 (some .int), Cond.methodLink RX4 30 yX4_signalOf, Cond.methodLink RX1 37 yX1_massAround, Cond.static yX1_massAround, Cond.code yX1_massAround cX1_massAround 5 (some .int), Cond.methodLink RX1 45 yX1_heavierThan, Cond.instanceMethod yX1_heavierThan, Cond.selects RX1 yX1_heavierThan yX1_heavierThan, Cond.code yX1_heavierThan cX1_heavierThan 5 (some .int), Cond.methodLink RX1 48 yX1_add, Cond.instanceMethod yX1_add, Cond.selects RX1 yX1_add yX1_add, Cond.code yX1_add cX1_add 11 none, Cond.fieldLink RX1 15 "TouchTracker$Contacts" "rows" "[I", Cond.fieldLink RX1 18 "TouchTracker$Contacts" "columns" "[I"]
def wsX1_find_r3 : List Cond := [Cond.fieldLink RX1 21 "TouchTracker$Contacts" "masses" "[I", Cond.fieldLink RX1 24 "TouchTracker$Contacts" "peaks" "[I"]
def wsX1_find : List Cond := .code yX1_find cX1_find 5 none :: ((wsX1_find_r1 ++ (wsX1_find_r2 ++ wsX1_find_r3)) ++ wsX10 ++ wsX50 ++ wsX40)
def wsX1_isContact : List Cond := .code yX1_isContact cX1_isContact 2 (some .boolean) :: ([.fieldLink RX1 41 "TouchTracker$Contacts" "count" "I"] ++ wsX10)
def wsX1_rowOf : List Cond := .code yX1_rowOf cX1_rowOf 2 (some .int) :: ([.fieldLink RX1 15 "TouchTracker$Contacts" "rows" "[I", .methodLink RX1 68 yX1_isContact, .instanceMethod yX1_isContact, .selects RX1 yX1_isContact yX1_isContact, .initialized RX1, .code yX1_isContact cX1_isContact 2 (some .boolean), .fieldLink RX1 41 "TouchTracker$Contacts" "count" "I"] ++ wsX10)
def wsX1_columnOf : List Cond := .code yX1_columnOf cX1_columnOf 2 (some .int) :: ([.fieldLink RX1 18 "TouchTracker$Contacts" "columns" "[I", .methodLink RX1 68 yX1_isContact, .instanceMethod yX1_isContact, .selects RX1 yX1_isContact yX1_isContact, .initialized RX1, .code yX1_isContact cX1_isContact 2 (some .boolean), .fieldLink RX1 41 "TouchTracker$Contacts" "count" "I"] ++ wsX10)
def wsX1_partOf : List Cond := .code yX1_partOf cX1_partOf 3 (some .int) :: ([.fieldLink RX1 15 "TouchTracker$Contacts" "rows" "[I", .fieldLink RX1 18 "TouchTracker$Contacts" "columns" "[I", .fieldLink RX1 21 "TouchTracker$Contacts" "masses" "[I", .fieldLink RX1 24 "TouchTracker$Contacts" "peaks" "[I", .methodLink RX1 68 yX1_isContact, .instanceMethod yX1_isContact, .selects RX1 yX1_isContact yX1_isContact, .initialized RX1, .code yX1_isContact cX1_isContact 2 (some .boolean), .fieldLink RX1 41 "TouchTracker$Contacts" "count" "I"] ++ wsX10)
def wsX4_init : List Cond := .code yX4_init cX4_init 1 none :: ([.methodLink RX4 3 objectInit, .instanceMethod objectInit, .code objectInit ⟨#[0xb1]⟩ 1 none, .arrayClass .int, .fieldLink RX4 9 "TouchTracker$Panel" "raws" "[I", .fieldLink RX4 15 "TouchTracker$Panel" "baselines" "[I"] ++ wsX40)
def wsX8_init : List Cond := .code yX8_init cX8_init 1 none :: ([.methodLink RX8 3 objectInit, .instanceMethod objectInit, .code objectInit ⟨#[0xb1]⟩ 1 none])
def wsX6_init_r1 : List Cond := [Cond.methodLink RX6 3 objectInit, Cond.instanceMethod objectInit, Cond.code objectInit ⟨#[0xb1]⟩ 1 none, Cond.classLink RX6 9 RX4, Cond.instantiable RX4 2, Cond.initialized RX4, Cond.fieldLink RX6 12 "TouchTracker$State" "panel" "LTouchTracker$Panel;", Cond.arrayClass .int, Cond.fieldLink RX6 18 "TouchTracker$State" "settings" "[I", Cond.classLink RX6 22 RX8, Cond.fieldLink RX6 24 "TouchTracker$State" "tracks" "[LTouchTracker$Track;", Cond.methodLink RX6 31 arraycopyName, Cond.native arraycopyName, Cond.static arraycopyName, Cond.initialized "java/lang/System", Cond.instantiable RX8 5, Cond.initialized RX8, Cond.instanceMethod yX4_init, Cond.code yX4_init cX4_init 1 none, Cond.methodLink RX4 3 objectInit, Cond.fieldLink RX4 9 "TouchTracker$Panel" "raws" "[I", Cond.fieldLink RX4 15 "TouchTracker$Panel" "baselines" "[I", Cond.instanceMethod yX8_init, Cond.code yX8_init cX8_init 1 none]
def wsX6_init_r2 : List Cond := [Cond.methodLink RX8 3 objectInit]
def wsX6_init : List Cond := .code yX6_init cX6_init 2 none :: ((wsX6_init_r1 ++ wsX6_init_r2) ++ wsX40 ++ wsX60 ++ wsX80)
def wsX2_init_r1 : List Cond := [Cond.methodLink RX2 1 objectInit, Cond.instanceMethod objectInit, Cond.code objectInit ⟨#[0xb1]⟩ 1 none, Cond.classLink RX2 9 RX6, Cond.fieldLink RX2 11 "TouchTracker$History" "saved" "[LTouchTracker$State;", Cond.instantiable RX6 6, Cond.initialized RX6, Cond.methodLink RX2 15 yX6_init, Cond.instanceMethod yX6_init, Cond.code yX6_init cX6_init 2 none, Cond.methodLink RX6 3 objectInit, Cond.classLink RX6 9 RX4, Cond.instantiable RX4 2, Cond.initialized RX4, Cond.fieldLink RX6 12 "TouchTracker$State" "panel" "LTouchTracker$Panel;", Cond.arrayClass .int, Cond.fieldLink RX6 18 "TouchTracker$State" "settings" "[I", Cond.classLink RX6 22 RX8, Cond.fieldLink RX6 24 "TouchTracker$State" "tracks" "[LTouchTracker$Track;", Cond.methodLink RX6 31 arraycopyName, Cond.native arraycopyName, Cond.static arraycopyName, Cond.initialized "java/lang/System", Cond.instantiable RX8 5]
def wsX2_init_r2 : List Cond := [Cond.initialized RX8, Cond.instanceMethod yX4_init, Cond.code yX4_init cX4_init 1 none, Cond.methodLink RX4 3 objectInit, Cond.fieldLink RX4 9 "TouchTracker$Panel" "raws" "[I", Cond.fieldLink RX4 15 "TouchTracker$Panel" "baselines" "[I", Cond.instanceMethod yX8_init, Cond.code yX8_init cX8_init 1 none, Cond.methodLink RX8 3 objectInit]
def wsX2_init : List Cond := .code yX2_init cX2_init 2 none :: ((wsX2_init_r1 ++ wsX2_init_r2) ++ wsX20 ++ wsX60 ++ wsX40 ++ wsX80)
def wsX2_dropOldest : List Cond := .code yX2_dropOldest cX2_dropOldest 3 none :: ([.fieldLink RX2 11 "TouchTracker$History" "saved" "[LTouchTracker$State;", .fieldLink RX2 16 "TouchTracker$History" "count" "I"] ++ wsX20)
def wsX4_copyFrom : List Cond := .code yX4_copyFrom cX4_copyFrom 2 none :: ([.fieldLink RX4 9 "TouchTracker$Panel" "raws" "[I", .methodLink RX4 38 arraycopyName, .native arraycopyName, .static arraycopyName, .initialized "java/lang/System", .fieldLink RX4 15 "TouchTracker$Panel" "baselines" "[I"] ++ wsX40)
def wsX8_copyFrom : List Cond := .code yX8_copyFrom cX8_copyFrom 2 none :: ([.fieldLink RX8 9 "TouchTracker$Track" "down" "Z", .fieldLink RX8 15 "TouchTracker$Track" "row" "I", .fieldLink RX8 19 "TouchTracker$Track" "column" "I", .fieldLink RX8 22 "TouchTracker$Track" "age" "I", .fieldLink RX8 25 "TouchTracker$Track" "missed" "I"] ++ wsX80)
def wsX6_copyFrom_r1 : List Cond := [Cond.fieldLink RX6 12 "TouchTracker$State" "panel" "LTouchTracker$Panel;", Cond.fieldLink RX6 18 "TouchTracker$State" "settings" "[I", Cond.methodLink RX6 31 arraycopyName, Cond.native arraycopyName, Cond.static arraycopyName, Cond.initialized "java/lang/System", Cond.fieldLink RX6 24 "TouchTracker$State" "tracks" "[LTouchTracker$Track;", Cond.fieldLink RX6 45 "TouchTracker$State" "frameCount" "I", Cond.fieldLink RX6 49 "TouchTracker$State" "downCount" "I", Cond.fieldLink RX6 52 "TouchTracker$State" "upCount" "I", Cond.methodLink RX6 38 yX4_copyFrom, Cond.instanceMethod yX4_copyFrom, Cond.selects RX4 yX4_copyFrom yX4_copyFrom, Cond.initialized RX4, Cond.code yX4_copyFrom cX4_copyFrom 2 none, Cond.fieldLink RX4 9 "TouchTracker$Panel" "raws" "[I", Cond.methodLink RX4 38 arraycopyName, Cond.fieldLink RX4 15 "TouchTracker$Panel" "baselines" "[I", Cond.methodLink RX6 42 yX8_copyFrom, Cond.instanceMethod yX8_copyFrom, Cond.selects RX8 yX8_copyFrom yX8_copyFrom, Cond.initialized RX8, Cond.code yX8_copyFrom cX8_copyFrom 2 none, Cond.fieldLink RX8 9 "TouchTracker$Track" "down" "Z"]
def wsX6_copyFrom_r2 : List Cond := [Cond.fieldLink RX8 15 "TouchTracker$Track" "row" "I", Cond.fieldLink RX8 19 "TouchTracker$Track" "column" "I", Cond.fieldLink RX8 22 "TouchTracker$Track" "age" "I", Cond.fieldLink RX8 25 "TouchTracker$Track" "missed" "I"]
def wsX6_copyFrom : List Cond := .code yX6_copyFrom cX6_copyFrom 3 none :: ((wsX6_copyFrom_r1 ++ wsX6_copyFrom_r2) ++ wsX60 ++ wsX40 ++ wsX80)
def wsX2_save_r1 : List Cond := [Cond.fieldLink RX2 16 "TouchTracker$History" "count" "I", Cond.fieldLink RX2 11 "TouchTracker$History" "saved" "[LTouchTracker$State;", Cond.methodLink RX2 20 yX2_dropOldest, Cond.instanceMethod yX2_dropOldest, Cond.selects RX2 yX2_dropOldest yX2_dropOldest, Cond.initialized RX2, Cond.code yX2_dropOldest cX2_dropOldest 3 none, Cond.methodLink RX2 23 yX6_copyFrom, Cond.instanceMethod yX6_copyFrom, Cond.selects RX6 yX6_copyFrom yX6_copyFrom, Cond.initialized RX6, Cond.code yX6_copyFrom cX6_copyFrom 3 none, Cond.fieldLink RX6 12 "TouchTracker$State" "panel" "LTouchTracker$Panel;", Cond.fieldLink RX6 18 "TouchTracker$State" "settings" "[I", Cond.methodLink RX6 31 arraycopyName, Cond.native arraycopyName, Cond.static arraycopyName, Cond.initialized "java/lang/System", Cond.fieldLink RX6 24 "TouchTracker$State" "tracks" "[LTouchTracker$Track;", Cond.fieldLink RX6 45 "TouchTracker$State" "frameCount" "I", Cond.fieldLink RX6 49 "TouchTracker$State" "downCount" "I", Cond.fieldLink RX6 52 "TouchTracker$State" "upCount" "I", Cond.methodLink RX6 38 yX4_copyFrom, Cond.instanceMethod yX4_copyFrom]
def wsX2_save_r2 : List Cond := [Cond.selects RX4 yX4_copyFrom yX4_copyFrom, Cond.initialized RX4, Cond.code yX4_copyFrom cX4_copyFrom 2 none, Cond.fieldLink RX4 9 "TouchTracker$Panel" "raws" "[I", Cond.methodLink RX4 38 arraycopyName, Cond.fieldLink RX4 15 "TouchTracker$Panel" "baselines" "[I", Cond.methodLink RX6 42 yX8_copyFrom, Cond.instanceMethod yX8_copyFrom, Cond.selects RX8 yX8_copyFrom yX8_copyFrom, Cond.initialized RX8, Cond.code yX8_copyFrom cX8_copyFrom 2 none, Cond.fieldLink RX8 9 "TouchTracker$Track" "down" "Z", Cond.fieldLink RX8 15 "TouchTracker$Track" "row" "I", Cond.fieldLink RX8 19 "TouchTracker$Track" "column" "I", Cond.fieldLink RX8 22 "TouchTracker$Track" "age" "I", Cond.fieldLink RX8 25 "TouchTracker$Track" "missed" "I"]
def wsX2_save : List Cond := .code yX2_save cX2_save 2 none :: ((wsX2_save_r1 ++ wsX2_save_r2) ++ wsX20 ++ wsX60 ++ wsX40 ++ wsX80)
def wsX2_restore_r1 : List Cond := [Cond.fieldLink RX2 16 "TouchTracker$History" "count" "I", Cond.fieldLink RX2 11 "TouchTracker$History" "saved" "[LTouchTracker$State;", Cond.methodLink RX2 23 yX6_copyFrom, Cond.instanceMethod yX6_copyFrom, Cond.selects RX6 yX6_copyFrom yX6_copyFrom, Cond.initialized RX6, Cond.code yX6_copyFrom cX6_copyFrom 3 none, Cond.fieldLink RX6 12 "TouchTracker$State" "panel" "LTouchTracker$Panel;", Cond.fieldLink RX6 18 "TouchTracker$State" "settings" "[I", Cond.methodLink RX6 31 arraycopyName, Cond.native arraycopyName, Cond.static arraycopyName, Cond.initialized "java/lang/System", Cond.fieldLink RX6 24 "TouchTracker$State" "tracks" "[LTouchTracker$Track;", Cond.fieldLink RX6 45 "TouchTracker$State" "frameCount" "I", Cond.fieldLink RX6 49 "TouchTracker$State" "downCount" "I", Cond.fieldLink RX6 52 "TouchTracker$State" "upCount" "I", Cond.methodLink RX6 38 yX4_copyFrom, Cond.instanceMethod yX4_copyFrom, Cond.selects RX4 yX4_copyFrom yX4_copyFrom, Cond.initialized RX4, Cond.code yX4_copyFrom cX4_copyFrom 2 none, Cond.fieldLink RX4 9 "TouchTracker$Panel" "raws" "[I", Cond.methodLink RX4 38 arraycopyName]
def wsX2_restore_r2 : List Cond := [Cond.fieldLink RX4 15 "TouchTracker$Panel" "baselines" "[I", Cond.methodLink RX6 42 yX8_copyFrom, Cond.instanceMethod yX8_copyFrom, Cond.selects RX8 yX8_copyFrom yX8_copyFrom, Cond.initialized RX8, Cond.code yX8_copyFrom cX8_copyFrom 2 none, Cond.fieldLink RX8 9 "TouchTracker$Track" "down" "Z", Cond.fieldLink RX8 15 "TouchTracker$Track" "row" "I", Cond.fieldLink RX8 19 "TouchTracker$Track" "column" "I", Cond.fieldLink RX8 22 "TouchTracker$Track" "age" "I", Cond.fieldLink RX8 25 "TouchTracker$Track" "missed" "I"]
def wsX2_restore : List Cond := .code yX2_restore cX2_restore 2 none :: ((wsX2_restore_r1 ++ wsX2_restore_r2) ++ wsX20 ++ wsX60 ++ wsX40 ++ wsX80)
def wsX3_init : List Cond := .code yX3_init cX3_init 1 none :: ([.methodLink RX3 3 objectInit, .instanceMethod objectInit, .code objectInit ⟨#[0xb1]⟩ 1 none, .classLink RX3 9 "[[I", .arrayClass .int, .fieldLink RX3 11 "TouchTracker$Matching" "pairCosts" "[[I", .fieldLink RX3 16 "TouchTracker$Matching" "noneCosts" "[I", .fieldLink RX3 20 "TouchTracker$Matching" "leastCosts" "[[I", .fieldLink RX3 23 "TouchTracker$Matching" "assigned" "[I"] ++ wsX30)
def wsX8_squaredWayTo : List Cond := .code yX8_squaredWayTo cX8_squaredWayTo 5 (some .int) :: ([.fieldLink RX8 15 "TouchTracker$Track" "row" "I", .fieldLink RX8 19 "TouchTracker$Track" "column" "I"] ++ wsX80)
def wsX3_pairCost : List Cond := .code yX3_pairCost cX3_pairCost 5 (some .int) :: ([.methodLink RX3 59 yX1_rowOf, .instanceMethod yX1_rowOf, .selects RX1 yX1_rowOf yX1_rowOf, .initialized RX1, .code yX1_rowOf cX1_rowOf 2 (some .int), .fieldLink RX1 15 "TouchTracker$Contacts" "rows" "[I", .methodLink RX1 68 yX1_isContact, .instanceMethod yX1_isContact, .selects RX1 yX1_isContact yX1_isContact, .code yX1_isContact cX1_isContact 2 (some .boolean), .fieldLink RX1 41 "TouchTracker$Contacts" "count" "I", .methodLink RX3 63 yX1_columnOf, .instanceMethod yX1_columnOf, .selects RX1 yX1_columnOf yX1_columnOf, .code yX1_columnOf cX1_columnOf 2 (some .int), .fieldLink RX1 18 "TouchTracker$Contacts" "columns" "[I", .methodLink RX3 66 yX8_squaredWayTo, .instanceMethod yX8_squaredWayTo, .selects RX8 yX8_squaredWayTo yX8_squaredWayTo, .initialized RX8, .code yX8_squaredWayTo cX8_squaredWayTo 5 (some .int), .fieldLink RX8 15 "TouchTracker$Track" "row" "I", .fieldLink RX8 19 "TouchTracker$Track" "column" "I"] ++ wsX80 ++ wsX10)
def wsX3_canTake : List Cond := .code yX3_canTake cX3_canTake 4 (some .boolean) :: ([.fieldLink RX3 11 "TouchTracker$Matching" "pairCosts" "[[I"] ++ wsX30)
def wsX3_costWith : List Cond := .code yX3_costWith cX3_costWith 4 (some .int) :: ([.fieldLink RX3 11 "TouchTracker$Matching" "pairCosts" "[[I", .fieldLink RX3 20 "TouchTracker$Matching" "leastCosts" "[[I"] ++ wsX30)
def wsX3_leastCost : List Cond := .code yX3_leastCost cX3_leastCost 6 (some .int) :: ([.fieldLink RX3 16 "TouchTracker$Matching" "noneCosts" "[I", .fieldLink RX3 20 "TouchTracker$Matching" "leastCosts" "[[I", .fieldLink RX3 32 "TouchTracker$Matching" "count" "I", .methodLink RX3 69 yX3_canTake, .instanceMethod yX3_canTake, .selects RX3 yX3_canTake yX3_canTake, .initialized RX3, .code yX3_canTake cX3_canTake 4 (some .boolean), .fieldLink RX3 11 "TouchTracker$Matching" "pairCosts" "[[I", .methodLink RX3 73 yX3_costWith, .instanceMethod yX3_costWith, .selects RX3 yX3_costWith yX3_costWith, .code yX3_costWith cX3_costWith 4 (some .int)] ++ wsX30)
def wsX3_firstBest : List Cond := .code yX3_firstBest cX3_firstBest 4 (some .int) :: ([.fieldLink RX3 32 "TouchTracker$Matching" "count" "I", .fieldLink RX3 20 "TouchTracker$Matching" "leastCosts" "[[I", .methodLink RX3 69 yX3_canTake, .instanceMethod yX3_canTake, .selects RX3 yX3_canTake yX3_canTake, .initialized RX3, .code yX3_canTake cX3_canTake 4 (some .boolean), .fieldLink RX3 11 "TouchTracker$Matching" "pairCosts" "[[I", .methodLink RX3 73 yX3_costWith, .instanceMethod yX3_costWith, .selects RX3 yX3_costWith yX3_costWith, .code yX3_costWith cX3_costWith 4 (some .int)] ++ wsX30)
def wsX3_assign : List Cond := .code yX3_assign cX3_assign 2 none :: ([.fieldLink RX3 77 "TouchTracker$Matching" "taken" "I", .fieldLink RX3 23 "TouchTracker$Matching" "assigned" "[I", .methodLink RX3 80 yX3_firstBest, .instanceMethod yX3_firstBest, .selects RX3 yX3_firstBest yX3_firstBest, .initialized RX3, .code yX3_firstBest cX3_firstBest 4 (some .int), .fieldLink RX3 32 "TouchTracker$Matching" "count" "I", .fieldLink RX3 20 "TouchTracker$Matching" "leastCosts" "[[I", .methodLink RX3 69 yX3_canTake, .instanceMethod yX3_canTake, .selects RX3 yX3_canTake yX3_canTake, .code yX3_canTake cX3_canTake 4 (some .boolean), .fieldLink RX3 11 "TouchTracker$Matching" "pairCosts" "[[I", .methodLink RX3 73 yX3_costWith, .instanceMethod yX3_costWith, .selects RX3 yX3_costWith yX3_costWith, .code yX3_costWith cX3_costWith 4 (some .int)] ++ wsX30)
def wsX3_find_r1 : List Cond := [Cond.fieldLink RX3 32 "TouchTracker$Matching" "count" "I", Cond.fieldLink RX3 16 "TouchTracker$Matching" "noneCosts" "[I", Cond.fieldLink RX3 11 "TouchTracker$Matching" "pairCosts" "[[I", Cond.fieldLink RX3 20 "TouchTracker$Matching" "leastCosts" "[[I", Cond.methodLink RX3 48 yX3_pairCost, Cond.static yX3_pairCost, Cond.initialized RX3, Cond.code yX3_pairCost cX3_pairCost 5 (some .int), Cond.methodLink RX3 59 yX1_rowOf, Cond.instanceMethod yX1_rowOf, Cond.selects RX1 yX1_rowOf yX1_rowOf, Cond.initialized RX1, Cond.code yX1_rowOf cX1_rowOf 2 (some .int), Cond.fieldLink RX1 15 "TouchTracker$Contacts" "rows" "[I", Cond.methodLink RX1 68 yX1_isContact, Cond.instanceMethod yX1_isContact, Cond.selects RX1 yX1_isContact yX1_isContact, Cond.code yX1_isContact cX1_isContact 2 (some .boolean), Cond.fieldLink RX1 41 "TouchTracker$Contacts" "count" "I", Cond.methodLink RX3 63 yX1_columnOf, Cond.instanceMethod yX1_columnOf, Cond.selects RX1 yX1_columnOf yX1_columnOf, Cond.code yX1_columnOf cX1_columnOf 2 (some .int), Cond.fieldLink RX1 18 "TouchTracker$Contacts" "columns" "[I"]
def wsX3_find_r2 : List Cond := [Cond.methodLink RX3 66 yX8_squaredWayTo, Cond.instanceMethod yX8_squaredWayTo, Cond.selects RX8 yX8_squaredWayTo yX8_squaredWayTo, Cond.initialized RX8, Cond.code yX8_squaredWayTo cX8_squaredWayTo 5 (some .int), Cond.fieldLink RX8 15 "TouchTracker$Track" "row" "I", Cond.fieldLink RX8 19 "TouchTracker$Track" "column" "I", Cond.methodLink RX3 52 yX3_leastCost, Cond.instanceMethod yX3_leastCost, Cond.selects RX3 yX3_leastCost yX3_leastCost, Cond.code yX3_leastCost cX3_leastCost 6 (some .int), Cond.methodLink RX3 69 yX3_canTake, Cond.instanceMethod yX3_canTake, Cond.selects RX3 yX3_canTake yX3_canTake, Cond.code yX3_canTake cX3_canTake 4 (some .boolean), Cond.methodLink RX3 73 yX3_costWith, Cond.instanceMethod yX3_costWith, Cond.selects RX3 yX3_costWith yX3_costWith, Cond.code yX3_costWith cX3_costWith 4 (some .int), Cond.methodLink RX3 56 yX3_assign, Cond.instanceMethod yX3_assign, Cond.selects RX3 yX3_assign yX3_assign, Cond.code yX3_assign cX3_assign 2 none, Cond.fieldLink RX3 77 "TouchTracker$Matching" "taken" "I"]
def wsX3_find_r3 : List Cond := [Cond.fieldLink RX3 23 "TouchTracker$Matching" "assigned" "[I", Cond.methodLink RX3 80 yX3_firstBest, Cond.instanceMethod yX3_firstBest, Cond.selects RX3 yX3_firstBest yX3_firstBest, Cond.code yX3_firstBest cX3_firstBest 4 (some .int)]
def wsX3_find : List Cond := .code yX3_find cX3_find 7 none :: ((wsX3_find_r1 ++ (wsX3_find_r2 ++ wsX3_find_r3)) ++ wsX10 ++ wsX30 ++ wsX60 ++ wsX80)
def wsX3_contactOf : List Cond := .code yX3_contactOf cX3_contactOf 2 (some .int) :: ([.fieldLink RX3 23 "TouchTracker$Matching" "assigned" "[I"] ++ wsX30)
def wsX3_wholeCost : List Cond := .code yX3_wholeCost cX3_wholeCost 1 (some .int) :: ([.fieldLink RX3 20 "TouchTracker$Matching" "leastCosts" "[[I"] ++ wsX30)
def wsX3_nextUnassigned : List Cond := .code yX3_nextUnassigned cX3_nextUnassigned 3 (some .int) :: ([.fieldLink RX3 32 "TouchTracker$Matching" "count" "I", .fieldLink RX3 77 "TouchTracker$Matching" "taken" "I"] ++ wsX30)
def wsX4_rawOf : List Cond := .code yX4_rawOf cX4_rawOf 2 (some .int) :: ([.fieldLink RX4 9 "TouchTracker$Panel" "raws" "[I", .static yX9_isCell, .initialized RX9, .code yX9_isCell cX9_isCell 1 (some .boolean)] ++ wsX40)
def wsX4_replaceRaw : List Cond := .code yX4_replaceRaw cX4_replaceRaw 4 (some .int) :: ([.fieldLink RX4 9 "TouchTracker$Panel" "raws" "[I", .static yX9_isCell, .initialized RX9, .code yX9_isCell cX9_isCell 1 (some .boolean)] ++ wsX40)
def wsX4_raise : List Cond := .code yX4_raise cX4_raise 6 none :: ([.fieldLink RX4 9 "TouchTracker$Panel" "raws" "[I", .static yX9_isOnPanel, .initialized RX9, .code yX9_isOnPanel cX9_isOnPanel 2 (some .boolean), .static yX9_cellAt, .code yX9_cellAt cX9_cellAt 2 (some .int)] ++ wsX40)
def wsX4_pressAt : List Cond := .code yX4_pressAt cX4_pressAt 6 none :: ([.methodLink RX4 34 yX4_raise, .instanceMethod yX4_raise, .selects RX4 yX4_raise yX4_raise, .initialized RX4, .code yX4_raise cX4_raise 6 none, .fieldLink RX4 9 "TouchTracker$Panel" "raws" "[I", .static yX9_isOnPanel, .initialized RX9, .code yX9_isOnPanel cX9_isOnPanel 2 (some .boolean), .static yX9_cellAt, .code yX9_cellAt cX9_cellAt 2 (some .int)] ++ wsX40)
def wsX4_clearRaw : List Cond := .code yX4_clearRaw cX4_clearRaw 3 (some .int) :: ([.fieldLink RX4 9 "TouchTracker$Panel" "raws" "[I"] ++ wsX40)
def wsX4_takeBaselines : List Cond := .code yX4_takeBaselines cX4_takeBaselines 3 (some .int) :: ([.fieldLink RX4 15 "TouchTracker$Panel" "baselines" "[I", .fieldLink RX4 9 "TouchTracker$Panel" "raws" "[I"] ++ wsX40)
def wsX5_init : List Cond := .code yX5_init cX5_init 1 none :: ([.methodLink RX5 3 objectInit, .instanceMethod objectInit, .code objectInit ⟨#[0xb1]⟩ 1 none, .arrayClass .int, .fieldLink RX5 9 "TouchTracker$Regions" "regionOf" "[I", .fieldLink RX5 15 "TouchTracker$Regions" "sizes" "[I", .fieldLink RX5 18 "TouchTracker$Regions" "greatest" "[I"] ++ wsX50)
def wsX5_join : List Cond := .code yX5_join cX5_join 5 (some .boolean) :: ([.fieldLink RX5 9 "TouchTracker$Regions" "regionOf" "[I", .static yX9_isCell, .initialized RX9, .code yX9_isCell cX9_isCell 1 (some .boolean)] ++ wsX50)
def wsX5_joinAll : List Cond := .code yX5_joinAll cX5_joinAll 3 (some .boolean) :: ([.methodLink RX5 51 yX5_join, .instanceMethod yX5_join, .selects RX5 yX5_join yX5_join, .initialized RX5, .code yX5_join cX5_join 5 (some .boolean), .fieldLink RX5 9 "TouchTracker$Regions" "regionOf" "[I", .static yX9_isCell, .initialized RX9, .code yX9_isCell cX9_isCell 1 (some .boolean)] ++ wsX50)
def wsX5_measure : List Cond := .code yX5_measure cX5_measure 5 none :: ([.fieldLink RX5 15 "TouchTracker$Regions" "sizes" "[I", .fieldLink RX5 18 "TouchTracker$Regions" "greatest" "[I", .fieldLink RX5 9 "TouchTracker$Regions" "regionOf" "[I", .static yX9_isCell, .initialized RX9, .code yX9_isCell cX9_isCell 1 (some .boolean), .methodLink RX5 37 yX4_signalOf, .instanceMethod yX4_signalOf, .selects RX4 yX4_signalOf yX4_signalOf, .initialized RX4, .code yX4_signalOf cX4_signalOf 3 (some .int), .fieldLink RX4 9 "TouchTracker$Panel" "raws" "[I", .fieldLink RX4 15 "TouchTracker$Panel" "baselines" "[I"] ++ wsX50 ++ wsX40)
def wsX5_find_r1 : List Cond := [Cond.fieldLink RX5 26 "TouchTracker$Regions" "palm" "I", Cond.fieldLink RX5 30 "TouchTracker$Regions" "sharp" "I", Cond.fieldLink RX5 9 "TouchTracker$Regions" "regionOf" "[I", Cond.methodLink RX5 37 yX4_signalOf, Cond.instanceMethod yX4_signalOf, Cond.selects RX4 yX4_signalOf yX4_signalOf, Cond.initialized RX4, Cond.code yX4_signalOf cX4_signalOf 3 (some .int), Cond.fieldLink RX4 9 "TouchTracker$Panel" "raws" "[I", Cond.fieldLink RX4 15 "TouchTracker$Panel" "baselines" "[I", Cond.methodLink RX5 43 yX5_joinAll, Cond.instanceMethod yX5_joinAll, Cond.selects RX5 yX5_joinAll yX5_joinAll, Cond.initialized RX5, Cond.code yX5_joinAll cX5_joinAll 3 (some .boolean), Cond.methodLink RX5 51 yX5_join, Cond.instanceMethod yX5_join, Cond.selects RX5 yX5_join yX5_join, Cond.code yX5_join cX5_join 5 (some .boolean), Cond.static yX9_isCell, Cond.initialized RX9, Cond.code yX9_isCell cX9_isCell 1 (some .boolean), Cond.methodLink RX5 47 yX5_measure, Cond.instanceMethod yX5_measure]
def wsX5_find_r2 : List Cond := [Cond.selects RX5 yX5_measure yX5_measure, Cond.code yX5_measure cX5_measure 5 none, Cond.fieldLink RX5 15 "TouchTracker$Regions" "sizes" "[I", Cond.fieldLink RX5 18 "TouchTracker$Regions" "greatest" "[I"]
def wsX5_find : List Cond := .code yX5_find cX5_find 4 none :: ((wsX5_find_r1 ++ wsX5_find_r2) ++ wsX60 ++ wsX50 ++ wsX40)
def wsX5_sizeAround : List Cond := .code yX5_sizeAround cX5_sizeAround 3 (some .int) :: ([.fieldLink RX5 9 "TouchTracker$Regions" "regionOf" "[I", .fieldLink RX5 15 "TouchTracker$Regions" "sizes" "[I", .static yX9_isCell, .initialized RX9, .code yX9_isCell cX9_isCell 1 (some .boolean)] ++ wsX50)
def wsX5_countOf : List Cond := .code yX5_countOf cX5_countOf 4 (some .int) :: ([.fieldLink RX5 9 "TouchTracker$Regions" "regionOf" "[I", .methodLink RX5 59 yX5_kindAround, .instanceMethod yX5_kindAround, .selects RX5 yX5_kindAround yX5_kindAround, .initialized RX5, .code yX5_kindAround cX5_kindAround 3 (some .int), .fieldLink RX5 15 "TouchTracker$Regions" "sizes" "[I", .fieldLink RX5 26 "TouchTracker$Regions" "palm" "I", .fieldLink RX5 18 "TouchTracker$Regions" "greatest" "[I", .fieldLink RX5 30 "TouchTracker$Regions" "sharp" "I", .static yX9_isCell, .initialized RX9, .code yX9_isCell cX9_isCell 1 (some .boolean)] ++ wsX50)
def wsX6_downSet : List Cond := .code yX6_downSet cX6_downSet 3 (some .int) :: ([.fieldLink RX6 24 "TouchTracker$State" "tracks" "[LTouchTracker$Track;"] ++ wsX60 ++ wsX80)
def wsX8_follow : List Cond := .code yX8_follow cX8_follow 3 none :: ([.fieldLink RX8 15 "TouchTracker$Track" "row" "I", .fieldLink RX8 19 "TouchTracker$Track" "column" "I", .fieldLink RX8 22 "TouchTracker$Track" "age" "I", .fieldLink RX8 25 "TouchTracker$Track" "missed" "I"] ++ wsX80)
def wsX8_miss : List Cond := .code yX8_miss cX8_miss 2 none :: ([.fieldLink RX8 25 "TouchTracker$Track" "missed" "I", .fieldLink RX8 9 "TouchTracker$Track" "down" "Z"] ++ wsX80)
def wsX6_moveTracks_r1 : List Cond := [Cond.fieldLink RX6 24 "TouchTracker$State" "tracks" "[LTouchTracker$Track;", Cond.fieldLink RX6 18 "TouchTracker$State" "settings" "[I", Cond.fieldLink RX6 52 "TouchTracker$State" "upCount" "I", Cond.methodLink RX6 71 yX3_contactOf, Cond.instanceMethod yX3_contactOf, Cond.selects RX3 yX3_contactOf yX3_contactOf, Cond.initialized RX3, Cond.code yX3_contactOf cX3_contactOf 2 (some .int), Cond.fieldLink RX3 23 "TouchTracker$Matching" "assigned" "[I", Cond.methodLink RX6 77 yX1_rowOf, Cond.instanceMethod yX1_rowOf, Cond.selects RX1 yX1_rowOf yX1_rowOf, Cond.initialized RX1, Cond.code yX1_rowOf cX1_rowOf 2 (some .int), Cond.fieldLink RX1 15 "TouchTracker$Contacts" "rows" "[I", Cond.methodLink RX1 68 yX1_isContact, Cond.instanceMethod yX1_isContact, Cond.selects RX1 yX1_isContact yX1_isContact, Cond.code yX1_isContact cX1_isContact 2 (some .boolean), Cond.fieldLink RX1 41 "TouchTracker$Contacts" "count" "I", Cond.methodLink RX6 82 yX1_columnOf, Cond.instanceMethod yX1_columnOf, Cond.selects RX1 yX1_columnOf yX1_columnOf, Cond.code yX1_columnOf cX1_columnOf 2 (some .int)]
def wsX6_moveTracks_r2 : List Cond := [Cond.fieldLink RX1 18 "TouchTracker$Contacts" "columns" "[I", Cond.methodLink RX6 85 yX8_follow, Cond.instanceMethod yX8_follow, Cond.selects RX8 yX8_follow yX8_follow, Cond.initialized RX8, Cond.code yX8_follow cX8_follow 3 none, Cond.fieldLink RX8 15 "TouchTracker$Track" "row" "I", Cond.fieldLink RX8 19 "TouchTracker$Track" "column" "I", Cond.fieldLink RX8 22 "TouchTracker$Track" "age" "I", Cond.fieldLink RX8 25 "TouchTracker$Track" "missed" "I", Cond.methodLink RX6 89 yX8_miss, Cond.instanceMethod yX8_miss, Cond.selects RX8 yX8_miss yX8_miss, Cond.code yX8_miss cX8_miss 2 none, Cond.fieldLink RX8 9 "TouchTracker$Track" "down" "Z"]
def wsX6_moveTracks : List Cond := .code yX6_moveTracks cX6_moveTracks 6 none :: ((wsX6_moveTracks_r1 ++ wsX6_moveTracks_r2) ++ wsX60 ++ wsX80 ++ wsX30 ++ wsX10)
def wsX8_goDown : List Cond := .code yX8_goDown cX8_goDown 3 none :: ([.fieldLink RX8 9 "TouchTracker$Track" "down" "Z", .fieldLink RX8 15 "TouchTracker$Track" "row" "I", .fieldLink RX8 19 "TouchTracker$Track" "column" "I", .fieldLink RX8 22 "TouchTracker$Track" "age" "I", .fieldLink RX8 25 "TouchTracker$Track" "missed" "I"] ++ wsX80)
def wsX6_startTracks_r1 : List Cond := [Cond.fieldLink RX6 24 "TouchTracker$State" "tracks" "[LTouchTracker$Track;", Cond.fieldLink RX6 49 "TouchTracker$State" "downCount" "I", Cond.methodLink RX6 93 yX3_nextUnassigned, Cond.instanceMethod yX3_nextUnassigned, Cond.selects RX3 yX3_nextUnassigned yX3_nextUnassigned, Cond.initialized RX3, Cond.code yX3_nextUnassigned cX3_nextUnassigned 3 (some .int), Cond.fieldLink RX3 32 "TouchTracker$Matching" "count" "I", Cond.fieldLink RX3 77 "TouchTracker$Matching" "taken" "I", Cond.methodLink RX6 77 yX1_rowOf, Cond.instanceMethod yX1_rowOf, Cond.selects RX1 yX1_rowOf yX1_rowOf, Cond.initialized RX1, Cond.code yX1_rowOf cX1_rowOf 2 (some .int), Cond.fieldLink RX1 15 "TouchTracker$Contacts" "rows" "[I", Cond.methodLink RX1 68 yX1_isContact, Cond.instanceMethod yX1_isContact, Cond.selects RX1 yX1_isContact yX1_isContact, Cond.code yX1_isContact cX1_isContact 2 (some .boolean), Cond.fieldLink RX1 41 "TouchTracker$Contacts" "count" "I", Cond.methodLink RX6 82 yX1_columnOf, Cond.instanceMethod yX1_columnOf, Cond.selects RX1 yX1_columnOf yX1_columnOf, Cond.code yX1_columnOf cX1_columnOf 2 (some .int)]
def wsX6_startTracks_r2 : List Cond := [Cond.fieldLink RX1 18 "TouchTracker$Contacts" "columns" "[I", Cond.methodLink RX6 99 yX8_goDown, Cond.instanceMethod yX8_goDown, Cond.selects RX8 yX8_goDown yX8_goDown, Cond.initialized RX8, Cond.code yX8_goDown cX8_goDown 3 none, Cond.fieldLink RX8 9 "TouchTracker$Track" "down" "Z", Cond.fieldLink RX8 15 "TouchTracker$Track" "row" "I", Cond.fieldLink RX8 19 "TouchTracker$Track" "column" "I", Cond.fieldLink RX8 22 "TouchTracker$Track" "age" "I", Cond.fieldLink RX8 25 "TouchTracker$Track" "missed" "I"]
def wsX6_startTracks : List Cond := .code yX6_startTracks cX6_startTracks 6 none :: ((wsX6_startTracks_r1 ++ wsX6_startTracks_r2) ++ wsX10 ++ wsX60 ++ wsX30 ++ wsX80)
def wsX6_takeFrame_r1 : List Cond := [Cond.fieldLink RX6 49 "TouchTracker$State" "downCount" "I", Cond.fieldLink RX6 52 "TouchTracker$State" "upCount" "I", Cond.fieldLink RX6 45 "TouchTracker$State" "frameCount" "I", Cond.methodLink RX6 59 yX6_downSet, Cond.instanceMethod yX6_downSet, Cond.selects RX6 yX6_downSet yX6_downSet, Cond.initialized RX6, Cond.code yX6_downSet cX6_downSet 3 (some .int), Cond.fieldLink RX6 24 "TouchTracker$State" "tracks" "[LTouchTracker$Track;", Cond.methodLink RX6 63 yX6_moveTracks, Cond.instanceMethod yX6_moveTracks, Cond.selects RX6 yX6_moveTracks yX6_moveTracks, Cond.code yX6_moveTracks cX6_moveTracks 6 none, Cond.fieldLink RX6 18 "TouchTracker$State" "settings" "[I", Cond.methodLink RX6 71 yX3_contactOf, Cond.instanceMethod yX3_contactOf, Cond.selects RX3 yX3_contactOf yX3_contactOf, Cond.initialized RX3, Cond.code yX3_contactOf cX3_contactOf 2 (some .int), Cond.fieldLink RX3 23 "TouchTracker$Matching" "assigned" "[I", Cond.methodLink RX6 77 yX1_rowOf, Cond.instanceMethod yX1_rowOf, Cond.selects RX1 yX1_rowOf yX1_rowOf, Cond.initialized RX1]
def wsX6_takeFrame_r2 : List Cond := [Cond.code yX1_rowOf cX1_rowOf 2 (some .int), Cond.fieldLink RX1 15 "TouchTracker$Contacts" "rows" "[I", Cond.methodLink RX1 68 yX1_isContact, Cond.instanceMethod yX1_isContact, Cond.selects RX1 yX1_isContact yX1_isContact, Cond.code yX1_isContact cX1_isContact 2 (some .boolean), Cond.fieldLink RX1 41 "TouchTracker$Contacts" "count" "I", Cond.methodLink RX6 82 yX1_columnOf, Cond.instanceMethod yX1_columnOf, Cond.selects RX1 yX1_columnOf yX1_columnOf, Cond.code yX1_columnOf cX1_columnOf 2 (some .int), Cond.fieldLink RX1 18 "TouchTracker$Contacts" "columns" "[I", Cond.methodLink RX6 85 yX8_follow, Cond.instanceMethod yX8_follow, Cond.selects RX8 yX8_follow yX8_follow, Cond.initialized RX8, Cond.code yX8_follow cX8_follow 3 none, Cond.fieldLink RX8 15 "TouchTracker$Track" "row" "I", Cond.fieldLink RX8 19 "TouchTracker$Track" "column" "I", Cond.fieldLink RX8 22 "TouchTracker$Track" "age" "I", Cond.fieldLink RX8 25 "TouchTracker$Track" "missed" "I", Cond.methodLink RX6 89 yX8_miss, Cond.instanceMethod yX8_miss, Cond.selects RX8 yX8_miss yX8_miss]
def wsX6_takeFrame_r3 : List Cond := [Cond.code yX8_miss cX8_miss 2 none, Cond.fieldLink RX8 9 "TouchTracker$Track" "down" "Z", Cond.methodLink RX6 67 yX6_startTracks, Cond.instanceMethod yX6_startTracks, Cond.selects RX6 yX6_startTracks yX6_startTracks, Cond.code yX6_startTracks cX6_startTracks 6 none, Cond.methodLink RX6 93 yX3_nextUnassigned, Cond.instanceMethod yX3_nextUnassigned, Cond.selects RX3 yX3_nextUnassigned yX3_nextUnassigned, Cond.code yX3_nextUnassigned cX3_nextUnassigned 3 (some .int), Cond.fieldLink RX3 32 "TouchTracker$Matching" "count" "I", Cond.fieldLink RX3 77 "TouchTracker$Matching" "taken" "I", Cond.methodLink RX6 99 yX8_goDown, Cond.instanceMethod yX8_goDown, Cond.selects RX8 yX8_goDown yX8_goDown, Cond.code yX8_goDown cX8_goDown 3 none]
def wsX6_takeFrame : List Cond := .code yX6_takeFrame cX6_takeFrame 5 (some .int) :: ((wsX6_takeFrame_r1 ++ (wsX6_takeFrame_r2 ++ wsX6_takeFrame_r3)) ++ wsX60 ++ wsX80 ++ wsX30 ++ wsX10)
def wsX7_init : List Cond := .code yX7_init cX7_init 1 none :: ([.methodLink RX7 1 objectInit, .instanceMethod objectInit, .code objectInit ⟨#[0xb1]⟩ 1 none, .arrayClass .char, .fieldLink RX7 9 "TouchTracker$Text" "characters" "[C"] ++ wsX70)
def wsX8_partOf : List Cond := .code yX8_partOf cX8_partOf 2 (some .int) :: ([.fieldLink RX8 9 "TouchTracker$Track" "down" "Z", .fieldLink RX8 15 "TouchTracker$Track" "row" "I", .fieldLink RX8 19 "TouchTracker$Track" "column" "I", .fieldLink RX8 22 "TouchTracker$Track" "age" "I", .fieldLink RX8 25 "TouchTracker$Track" "missed" "I"] ++ wsX80)
def wsX9_init_r1 : List Cond := [Cond.methodLink RX9 3 objectInit, Cond.instanceMethod objectInit, Cond.code objectInit ⟨#[0xb1]⟩ 1 none, Cond.classLink RX9 9 RX6, Cond.instantiable RX6 6, Cond.initialized RX6, Cond.fieldLink RX9 12 "TouchTracker" "state" "LTouchTracker$State;", Cond.fieldLink RX9 16 "TouchTracker" "rehearsal" "LTouchTracker$State;", Cond.classLink RX9 19 RX2, Cond.instantiable RX2 2, Cond.initialized RX2, Cond.fieldLink RX9 22 "TouchTracker" "history" "LTouchTracker$History;", Cond.classLink RX9 26 RX5, Cond.instantiable RX5 5, Cond.initialized RX5, Cond.fieldLink RX9 29 "TouchTracker" "regionMap" "LTouchTracker$Regions;", Cond.classLink RX9 33 RX1, Cond.instantiable RX1 6, Cond.initialized RX1, Cond.fieldLink RX9 36 "TouchTracker" "contactList" "LTouchTracker$Contacts;", Cond.classLink RX9 40 RX3, Cond.instantiable RX3 6, Cond.initialized RX3, Cond.fieldLink RX9 43 "TouchTracker" "matching" "LTouchTracker$Matching;"]
def wsX9_init_r2 : List Cond := [Cond.classLink RX9 47 RX7, Cond.instantiable RX7 2, Cond.initialized RX7, Cond.fieldLink RX9 50 "TouchTracker" "text" "LTouchTracker$Text;", Cond.classLink RX9 54 RX0, Cond.instantiable RX0 5, Cond.initialized RX0, Cond.fieldLink RX9 57 "TouchTracker" "reader" "LTouchTracker$CommandReader;", Cond.methodLink RX9 11 yX6_init, Cond.instanceMethod yX6_init, Cond.code yX6_init cX6_init 2 none, Cond.methodLink RX6 3 objectInit, Cond.classLink RX6 9 RX4, Cond.instantiable RX4 2, Cond.initialized RX4, Cond.fieldLink RX6 12 "TouchTracker$State" "panel" "LTouchTracker$Panel;", Cond.arrayClass .int, Cond.fieldLink RX6 18 "TouchTracker$State" "settings" "[I", Cond.classLink RX6 22 RX8, Cond.fieldLink RX6 24 "TouchTracker$State" "tracks" "[LTouchTracker$Track;", Cond.methodLink RX6 31 arraycopyName, Cond.native arraycopyName, Cond.static arraycopyName, Cond.initialized "java/lang/System"]
def wsX9_init_r3 : List Cond := [Cond.instantiable RX8 5, Cond.initialized RX8, Cond.instanceMethod yX4_init, Cond.code yX4_init cX4_init 1 none, Cond.methodLink RX4 3 objectInit, Cond.fieldLink RX4 9 "TouchTracker$Panel" "raws" "[I", Cond.fieldLink RX4 15 "TouchTracker$Panel" "baselines" "[I", Cond.instanceMethod yX8_init, Cond.code yX8_init cX8_init 1 none, Cond.methodLink RX8 3 objectInit, Cond.methodLink RX9 21 yX2_init, Cond.instanceMethod yX2_init, Cond.code yX2_init cX2_init 2 none, Cond.methodLink RX2 1 objectInit, Cond.classLink RX2 9 RX6, Cond.fieldLink RX2 11 "TouchTracker$History" "saved" "[LTouchTracker$State;", Cond.methodLink RX2 15 yX6_init, Cond.instanceMethod yX5_init, Cond.code yX5_init cX5_init 1 none, Cond.methodLink RX5 3 objectInit, Cond.fieldLink RX5 9 "TouchTracker$Regions" "regionOf" "[I", Cond.fieldLink RX5 15 "TouchTracker$Regions" "sizes" "[I", Cond.fieldLink RX5 18 "TouchTracker$Regions" "greatest" "[I", Cond.instanceMethod yX1_init]
def wsX9_init_r4 : List Cond := [Cond.code yX1_init cX1_init 1 none, Cond.methodLink RX1 3 objectInit, Cond.fieldLink RX1 9 "TouchTracker$Contacts" "candidates" "[I", Cond.fieldLink RX1 15 "TouchTracker$Contacts" "rows" "[I", Cond.fieldLink RX1 18 "TouchTracker$Contacts" "columns" "[I", Cond.fieldLink RX1 21 "TouchTracker$Contacts" "masses" "[I", Cond.fieldLink RX1 24 "TouchTracker$Contacts" "peaks" "[I", Cond.instanceMethod yX3_init, Cond.code yX3_init cX3_init 1 none, Cond.methodLink RX3 3 objectInit, Cond.classLink RX3 9 "[[I", Cond.fieldLink RX3 11 "TouchTracker$Matching" "pairCosts" "[[I", Cond.fieldLink RX3 16 "TouchTracker$Matching" "noneCosts" "[I", Cond.fieldLink RX3 20 "TouchTracker$Matching" "leastCosts" "[[I", Cond.fieldLink RX3 23 "TouchTracker$Matching" "assigned" "[I", Cond.instanceMethod yX7_init, Cond.code yX7_init cX7_init 1 none, Cond.methodLink RX7 1 objectInit, Cond.arrayClass .char, Cond.fieldLink RX7 9 "TouchTracker$Text" "characters" "[C", Cond.instanceMethod yX0_init, Cond.code yX0_init cX0_init 1 none, Cond.methodLink RX0 3 objectInit]
def wsX9_init : List Cond := .code yX9_init cX9_init 1 none :: ((wsX9_init_r1 ++ (wsX9_init_r2 ++ (wsX9_init_r3 ++ wsX9_init_r4))) ++ wsX60 ++ wsX90 ++ wsX20 ++ wsX50 ++ wsX10 ++ wsX30 ++ wsX70 ++ wsX00 ++ wsX40 ++ wsX80)
def wsX9_requireCell : List Cond := .code yX9_requireCell cX9_requireCell 2 none :: ([.classLink RX9 255 "java/lang/IndexOutOfBoundsException", .initialized "java/lang/IndexOutOfBoundsException", .methodLink RX9 251 yX9_isOnPanel, .static yX9_isOnPanel, .initialized RX9, .code yX9_isOnPanel cX9_isOnPanel 2 (some .boolean)] ++ (vx_atS RX9 259 "java/lang/IndexOutOfBoundsException" ["java/lang/RuntimeException", "java/lang/Exception"]).filter goodWord)
def wsX9_setRaw_r1 : List Cond := [Cond.classLink RX9 65 "java/lang/IllegalArgumentException", Cond.initialized "java/lang/IllegalArgumentException", Cond.fieldLink RX9 22 "TouchTracker" "history" "LTouchTracker$History;", Cond.fieldLink RX9 12 "TouchTracker" "state" "LTouchTracker$State;", Cond.methodLink RX9 61 yX9_requireCell, Cond.static yX9_requireCell, Cond.initialized RX9, Cond.code yX9_requireCell cX9_requireCell 2 none, Cond.classLink RX9 255 "java/lang/IndexOutOfBoundsException", Cond.initialized "java/lang/IndexOutOfBoundsException", Cond.methodLink RX9 251 yX9_isOnPanel, Cond.static yX9_isOnPanel, Cond.code yX9_isOnPanel cX9_isOnPanel 2 (some .boolean), Cond.methodLink RX9 72 yX2_save, Cond.instanceMethod yX2_save, Cond.selects RX2 yX2_save yX2_save, Cond.initialized RX2, Cond.code yX2_save cX2_save 2 none, Cond.fieldLink RX2 16 "TouchTracker$History" "count" "I", Cond.fieldLink RX2 11 "TouchTracker$History" "saved" "[LTouchTracker$State;", Cond.methodLink RX2 20 yX2_dropOldest, Cond.instanceMethod yX2_dropOldest, Cond.selects RX2 yX2_dropOldest yX2_dropOldest, Cond.code yX2_dropOldest cX2_dropOldest 3 none]
def wsX9_setRaw_r2 : List Cond := [Cond.methodLink RX2 23 yX6_copyFrom, Cond.instanceMethod yX6_copyFrom, Cond.selects RX6 yX6_copyFrom yX6_copyFrom, Cond.initialized RX6, Cond.code yX6_copyFrom cX6_copyFrom 3 none, Cond.fieldLink RX6 12 "TouchTracker$State" "panel" "LTouchTracker$Panel;", Cond.fieldLink RX6 18 "TouchTracker$State" "settings" "[I", Cond.methodLink RX6 31 arraycopyName, Cond.native arraycopyName, Cond.static arraycopyName, Cond.initialized "java/lang/System", Cond.fieldLink RX6 24 "TouchTracker$State" "tracks" "[LTouchTracker$Track;", Cond.fieldLink RX6 45 "TouchTracker$State" "frameCount" "I", Cond.fieldLink RX6 49 "TouchTracker$State" "downCount" "I", Cond.fieldLink RX6 52 "TouchTracker$State" "upCount" "I", Cond.methodLink RX6 38 yX4_copyFrom, Cond.instanceMethod yX4_copyFrom, Cond.selects RX4 yX4_copyFrom yX4_copyFrom, Cond.initialized RX4, Cond.code yX4_copyFrom cX4_copyFrom 2 none, Cond.fieldLink RX4 9 "TouchTracker$Panel" "raws" "[I", Cond.methodLink RX4 38 arraycopyName, Cond.fieldLink RX4 15 "TouchTracker$Panel" "baselines" "[I", Cond.methodLink RX6 42 yX8_copyFrom]
def wsX9_setRaw_r3 : List Cond := [Cond.instanceMethod yX8_copyFrom, Cond.selects RX8 yX8_copyFrom yX8_copyFrom, Cond.initialized RX8, Cond.code yX8_copyFrom cX8_copyFrom 2 none, Cond.fieldLink RX8 9 "TouchTracker$Track" "down" "Z", Cond.fieldLink RX8 15 "TouchTracker$Track" "row" "I", Cond.fieldLink RX8 19 "TouchTracker$Track" "column" "I", Cond.fieldLink RX8 22 "TouchTracker$Track" "age" "I", Cond.fieldLink RX8 25 "TouchTracker$Track" "missed" "I", Cond.methodLink RX9 80 yX9_cellAt, Cond.static yX9_cellAt, Cond.code yX9_cellAt cX9_cellAt 2 (some .int), Cond.methodLink RX9 84 yX4_replaceRaw, Cond.instanceMethod yX4_replaceRaw, Cond.selects RX4 yX4_replaceRaw yX4_replaceRaw, Cond.code yX4_replaceRaw cX4_replaceRaw 4 (some .int), Cond.static yX9_isCell, Cond.code yX9_isCell cX9_isCell 1 (some .boolean)]
def wsX9_setRaw : List Cond := .code yX9_setRaw cX9_setRaw 4 (some .int) :: ((wsX9_setRaw_r1 ++ (wsX9_setRaw_r2 ++ wsX9_setRaw_r3)) ++ wsX90 ++ wsX60 ++ wsX20 ++ wsX40 ++ wsX80 ++ (vx_atS RX9 69 "java/lang/IllegalArgumentException" ["java/lang/RuntimeException", "java/lang/Exception"]).filter goodWord ++ (vx_atS RX9 259 "java/lang/IndexOutOfBoundsException" ["java/lang/RuntimeException", "java/lang/Exception"]).filter goodWord)
def wsX9_press_r1 : List Cond := [Cond.classLink RX9 65 "java/lang/IllegalArgumentException", Cond.initialized "java/lang/IllegalArgumentException", Cond.fieldLink RX9 22 "TouchTracker" "history" "LTouchTracker$History;", Cond.fieldLink RX9 12 "TouchTracker" "state" "LTouchTracker$State;", Cond.methodLink RX9 61 yX9_requireCell, Cond.static yX9_requireCell, Cond.initialized RX9, Cond.code yX9_requireCell cX9_requireCell 2 none, Cond.classLink RX9 255 "java/lang/IndexOutOfBoundsException", Cond.initialized "java/lang/IndexOutOfBoundsException", Cond.methodLink RX9 251 yX9_isOnPanel, Cond.static yX9_isOnPanel, Cond.code yX9_isOnPanel cX9_isOnPanel 2 (some .boolean), Cond.methodLink RX9 72 yX2_save, Cond.instanceMethod yX2_save, Cond.selects RX2 yX2_save yX2_save, Cond.initialized RX2, Cond.code yX2_save cX2_save 2 none, Cond.fieldLink RX2 16 "TouchTracker$History" "count" "I", Cond.fieldLink RX2 11 "TouchTracker$History" "saved" "[LTouchTracker$State;", Cond.methodLink RX2 20 yX2_dropOldest, Cond.instanceMethod yX2_dropOldest, Cond.selects RX2 yX2_dropOldest yX2_dropOldest, Cond.code yX2_dropOldest cX2_dropOldest 3 none]
def wsX9_press_r2 : List Cond := [Cond.methodLink RX2 23 yX6_copyFrom, Cond.instanceMethod yX6_copyFrom, Cond.selects RX6 yX6_copyFrom yX6_copyFrom, Cond.initialized RX6, Cond.code yX6_copyFrom cX6_copyFrom 3 none, Cond.fieldLink RX6 12 "TouchTracker$State" "panel" "LTouchTracker$Panel;", Cond.fieldLink RX6 18 "TouchTracker$State" "settings" "[I", Cond.methodLink RX6 31 arraycopyName, Cond.native arraycopyName, Cond.static arraycopyName, Cond.initialized "java/lang/System", Cond.fieldLink RX6 24 "TouchTracker$State" "tracks" "[LTouchTracker$Track;", Cond.fieldLink RX6 45 "TouchTracker$State" "frameCount" "I", Cond.fieldLink RX6 49 "TouchTracker$State" "downCount" "I", Cond.fieldLink RX6 52 "TouchTracker$State" "upCount" "I", Cond.methodLink RX6 38 yX4_copyFrom, Cond.instanceMethod yX4_copyFrom, Cond.selects RX4 yX4_copyFrom yX4_copyFrom, Cond.initialized RX4, Cond.code yX4_copyFrom cX4_copyFrom 2 none, Cond.fieldLink RX4 9 "TouchTracker$Panel" "raws" "[I", Cond.methodLink RX4 38 arraycopyName, Cond.fieldLink RX4 15 "TouchTracker$Panel" "baselines" "[I", Cond.methodLink RX6 42 yX8_copyFrom]
def wsX9_press_r3 : List Cond := [Cond.instanceMethod yX8_copyFrom, Cond.selects RX8 yX8_copyFrom yX8_copyFrom, Cond.initialized RX8, Cond.code yX8_copyFrom cX8_copyFrom 2 none, Cond.fieldLink RX8 9 "TouchTracker$Track" "down" "Z", Cond.fieldLink RX8 15 "TouchTracker$Track" "row" "I", Cond.fieldLink RX8 19 "TouchTracker$Track" "column" "I", Cond.fieldLink RX8 22 "TouchTracker$Track" "age" "I", Cond.fieldLink RX8 25 "TouchTracker$Track" "missed" "I", Cond.methodLink RX9 91 yX4_pressAt, Cond.instanceMethod yX4_pressAt, Cond.selects RX4 yX4_pressAt yX4_pressAt, Cond.code yX4_pressAt cX4_pressAt 6 none, Cond.methodLink RX4 34 yX4_raise, Cond.instanceMethod yX4_raise, Cond.selects RX4 yX4_raise yX4_raise, Cond.code yX4_raise cX4_raise 6 none, Cond.static yX9_cellAt, Cond.code yX9_cellAt cX9_cellAt 2 (some .int), Cond.methodLink RX9 80 yX9_cellAt, Cond.methodLink RX9 95 yX4_rawOf, Cond.instanceMethod yX4_rawOf, Cond.selects RX4 yX4_rawOf yX4_rawOf, Cond.code yX4_rawOf cX4_rawOf 2 (some .int)]
def wsX9_press_r4 : List Cond := [Cond.static yX9_isCell, Cond.code yX9_isCell cX9_isCell 1 (some .boolean)]
def wsX9_press : List Cond := .code yX9_press cX9_press 4 (some .int) :: ((wsX9_press_r1 ++ (wsX9_press_r2 ++ (wsX9_press_r3 ++ wsX9_press_r4))) ++ wsX90 ++ wsX60 ++ wsX20 ++ wsX40 ++ wsX80 ++ (vx_atS RX9 69 "java/lang/IllegalArgumentException" ["java/lang/RuntimeException", "java/lang/Exception"]).filter goodWord ++ (vx_atS RX9 259 "java/lang/IndexOutOfBoundsException" ["java/lang/RuntimeException", "java/lang/Exception"]).filter goodWord)
def wsX9_release_r1 : List Cond := [Cond.fieldLink RX9 22 "TouchTracker" "history" "LTouchTracker$History;", Cond.fieldLink RX9 12 "TouchTracker" "state" "LTouchTracker$State;", Cond.methodLink RX9 72 yX2_save, Cond.instanceMethod yX2_save, Cond.selects RX2 yX2_save yX2_save, Cond.initialized RX2, Cond.code yX2_save cX2_save 2 none, Cond.fieldLink RX2 16 "TouchTracker$History" "count" "I", Cond.fieldLink RX2 11 "TouchTracker$History" "saved" "[LTouchTracker$State;", Cond.methodLink RX2 20 yX2_dropOldest, Cond.instanceMethod yX2_dropOldest, Cond.selects RX2 yX2_dropOldest yX2_dropOldest, Cond.code yX2_dropOldest cX2_dropOldest 3 none, Cond.methodLink RX2 23 yX6_copyFrom, Cond.instanceMethod yX6_copyFrom, Cond.selects RX6 yX6_copyFrom yX6_copyFrom, Cond.initialized RX6, Cond.code yX6_copyFrom cX6_copyFrom 3 none, Cond.fieldLink RX6 12 "TouchTracker$State" "panel" "LTouchTracker$Panel;", Cond.fieldLink RX6 18 "TouchTracker$State" "settings" "[I", Cond.methodLink RX6 31 arraycopyName, Cond.native arraycopyName, Cond.static arraycopyName, Cond.initialized "java/lang/System"]
def wsX9_release_r2 : List Cond := [Cond.fieldLink RX6 24 "TouchTracker$State" "tracks" "[LTouchTracker$Track;", Cond.fieldLink RX6 45 "TouchTracker$State" "frameCount" "I", Cond.fieldLink RX6 49 "TouchTracker$State" "downCount" "I", Cond.fieldLink RX6 52 "TouchTracker$State" "upCount" "I", Cond.methodLink RX6 38 yX4_copyFrom, Cond.instanceMethod yX4_copyFrom, Cond.selects RX4 yX4_copyFrom yX4_copyFrom, Cond.initialized RX4, Cond.code yX4_copyFrom cX4_copyFrom 2 none, Cond.fieldLink RX4 9 "TouchTracker$Panel" "raws" "[I", Cond.methodLink RX4 38 arraycopyName, Cond.fieldLink RX4 15 "TouchTracker$Panel" "baselines" "[I", Cond.methodLink RX6 42 yX8_copyFrom, Cond.instanceMethod yX8_copyFrom, Cond.selects RX8 yX8_copyFrom yX8_copyFrom, Cond.initialized RX8, Cond.code yX8_copyFrom cX8_copyFrom 2 none, Cond.fieldLink RX8 9 "TouchTracker$Track" "down" "Z", Cond.fieldLink RX8 15 "TouchTracker$Track" "row" "I", Cond.fieldLink RX8 19 "TouchTracker$Track" "column" "I", Cond.fieldLink RX8 22 "TouchTracker$Track" "age" "I", Cond.fieldLink RX8 25 "TouchTracker$Track" "missed" "I", Cond.methodLink RX9 99 yX4_clearRaw, Cond.instanceMethod yX4_clearRaw]
def wsX9_release_r3 : List Cond := [Cond.selects RX4 yX4_clearRaw yX4_clearRaw, Cond.code yX4_clearRaw cX4_clearRaw 3 (some .int)]
def wsX9_release : List Cond := .code yX9_release cX9_release 1 (some .int) :: ((wsX9_release_r1 ++ (wsX9_release_r2 ++ wsX9_release_r3)) ++ wsX90 ++ wsX60 ++ wsX20 ++ wsX40 ++ wsX80)
def wsX9_calibrate_r1 : List Cond := [Cond.fieldLink RX9 22 "TouchTracker" "history" "LTouchTracker$History;", Cond.fieldLink RX9 12 "TouchTracker" "state" "LTouchTracker$State;", Cond.methodLink RX9 72 yX2_save, Cond.instanceMethod yX2_save, Cond.selects RX2 yX2_save yX2_save, Cond.initialized RX2, Cond.code yX2_save cX2_save 2 none, Cond.fieldLink RX2 16 "TouchTracker$History" "count" "I", Cond.fieldLink RX2 11 "TouchTracker$History" "saved" "[LTouchTracker$State;", Cond.methodLink RX2 20 yX2_dropOldest, Cond.instanceMethod yX2_dropOldest, Cond.selects RX2 yX2_dropOldest yX2_dropOldest, Cond.code yX2_dropOldest cX2_dropOldest 3 none, Cond.methodLink RX2 23 yX6_copyFrom, Cond.instanceMethod yX6_copyFrom, Cond.selects RX6 yX6_copyFrom yX6_copyFrom, Cond.initialized RX6, Cond.code yX6_copyFrom cX6_copyFrom 3 none, Cond.fieldLink RX6 12 "TouchTracker$State" "panel" "LTouchTracker$Panel;", Cond.fieldLink RX6 18 "TouchTracker$State" "settings" "[I", Cond.methodLink RX6 31 arraycopyName, Cond.native arraycopyName, Cond.static arraycopyName, Cond.initialized "java/lang/System"]
def wsX9_calibrate_r2 : List Cond := [Cond.fieldLink RX6 24 "TouchTracker$State" "tracks" "[LTouchTracker$Track;", Cond.fieldLink RX6 45 "TouchTracker$State" "frameCount" "I", Cond.fieldLink RX6 49 "TouchTracker$State" "downCount" "I", Cond.fieldLink RX6 52 "TouchTracker$State" "upCount" "I", Cond.methodLink RX6 38 yX4_copyFrom, Cond.instanceMethod yX4_copyFrom, Cond.selects RX4 yX4_copyFrom yX4_copyFrom, Cond.initialized RX4, Cond.code yX4_copyFrom cX4_copyFrom 2 none, Cond.fieldLink RX4 9 "TouchTracker$Panel" "raws" "[I", Cond.methodLink RX4 38 arraycopyName, Cond.fieldLink RX4 15 "TouchTracker$Panel" "baselines" "[I", Cond.methodLink RX6 42 yX8_copyFrom, Cond.instanceMethod yX8_copyFrom, Cond.selects RX8 yX8_copyFrom yX8_copyFrom, Cond.initialized RX8, Cond.code yX8_copyFrom cX8_copyFrom 2 none, Cond.fieldLink RX8 9 "TouchTracker$Track" "down" "Z", Cond.fieldLink RX8 15 "TouchTracker$Track" "row" "I", Cond.fieldLink RX8 19 "TouchTracker$Track" "column" "I", Cond.fieldLink RX8 22 "TouchTracker$Track" "age" "I", Cond.fieldLink RX8 25 "TouchTracker$Track" "missed" "I", Cond.methodLink RX9 103 yX4_takeBaselines, Cond.instanceMethod yX4_takeBaselines]
def wsX9_calibrate_r3 : List Cond := [Cond.selects RX4 yX4_takeBaselines yX4_takeBaselines, Cond.code yX4_takeBaselines cX4_takeBaselines 3 (some .int)]
def wsX9_calibrate : List Cond := .code yX9_calibrate cX9_calibrate 1 (some .int) :: ((wsX9_calibrate_r1 ++ (wsX9_calibrate_r2 ++ wsX9_calibrate_r3)) ++ wsX90 ++ wsX60 ++ wsX20 ++ wsX40 ++ wsX80)
def wsX9_requireSetting : List Cond := .code yX9_requireSetting cX9_requireSetting 1 none :: ([.classLink RX9 255 "java/lang/IndexOutOfBoundsException", .initialized "java/lang/IndexOutOfBoundsException"] ++ (vx_atS RX9 259 "java/lang/IndexOutOfBoundsException" ["java/lang/RuntimeException", "java/lang/Exception"]).filter goodWord)
def wsX9_set_r1 : List Cond := [Cond.classLink RX9 65 "java/lang/IllegalArgumentException", Cond.initialized "java/lang/IllegalArgumentException", Cond.fieldLink RX9 110 "TouchTracker" "LEAST_VALUES" "[I", Cond.fieldLink RX9 114 "TouchTracker" "GREATEST_VALUES" "[I", Cond.fieldLink RX9 22 "TouchTracker" "history" "LTouchTracker$History;", Cond.fieldLink RX9 12 "TouchTracker" "state" "LTouchTracker$State;", Cond.methodLink RX9 106 yX9_requireSetting, Cond.static yX9_requireSetting, Cond.initialized RX9, Cond.code yX9_requireSetting cX9_requireSetting 1 none, Cond.classLink RX9 255 "java/lang/IndexOutOfBoundsException", Cond.initialized "java/lang/IndexOutOfBoundsException", Cond.methodLink RX9 72 yX2_save, Cond.instanceMethod yX2_save, Cond.selects RX2 yX2_save yX2_save, Cond.initialized RX2, Cond.code yX2_save cX2_save 2 none, Cond.fieldLink RX2 16 "TouchTracker$History" "count" "I", Cond.fieldLink RX2 11 "TouchTracker$History" "saved" "[LTouchTracker$State;", Cond.methodLink RX2 20 yX2_dropOldest, Cond.instanceMethod yX2_dropOldest, Cond.selects RX2 yX2_dropOldest yX2_dropOldest, Cond.code yX2_dropOldest cX2_dropOldest 3 none, Cond.methodLink RX2 23 yX6_copyFrom]
def wsX9_set_r2 : List Cond := [Cond.instanceMethod yX6_copyFrom, Cond.selects RX6 yX6_copyFrom yX6_copyFrom, Cond.initialized RX6, Cond.code yX6_copyFrom cX6_copyFrom 3 none, Cond.fieldLink RX6 12 "TouchTracker$State" "panel" "LTouchTracker$Panel;", Cond.fieldLink RX6 18 "TouchTracker$State" "settings" "[I", Cond.methodLink RX6 31 arraycopyName, Cond.native arraycopyName, Cond.static arraycopyName, Cond.initialized "java/lang/System", Cond.fieldLink RX6 24 "TouchTracker$State" "tracks" "[LTouchTracker$Track;", Cond.fieldLink RX6 45 "TouchTracker$State" "frameCount" "I", Cond.fieldLink RX6 49 "TouchTracker$State" "downCount" "I", Cond.fieldLink RX6 52 "TouchTracker$State" "upCount" "I", Cond.methodLink RX6 38 yX4_copyFrom, Cond.instanceMethod yX4_copyFrom, Cond.selects RX4 yX4_copyFrom yX4_copyFrom, Cond.initialized RX4, Cond.code yX4_copyFrom cX4_copyFrom 2 none, Cond.fieldLink RX4 9 "TouchTracker$Panel" "raws" "[I", Cond.methodLink RX4 38 arraycopyName, Cond.fieldLink RX4 15 "TouchTracker$Panel" "baselines" "[I", Cond.methodLink RX6 42 yX8_copyFrom, Cond.instanceMethod yX8_copyFrom]
def wsX9_set_r3 : List Cond := [Cond.selects RX8 yX8_copyFrom yX8_copyFrom, Cond.initialized RX8, Cond.code yX8_copyFrom cX8_copyFrom 2 none, Cond.fieldLink RX8 9 "TouchTracker$Track" "down" "Z", Cond.fieldLink RX8 15 "TouchTracker$Track" "row" "I", Cond.fieldLink RX8 19 "TouchTracker$Track" "column" "I", Cond.fieldLink RX8 22 "TouchTracker$Track" "age" "I", Cond.fieldLink RX8 25 "TouchTracker$Track" "missed" "I"]
def wsX9_set : List Cond := .code yX9_set cX9_set 4 (some .int) :: ((wsX9_set_r1 ++ (wsX9_set_r2 ++ wsX9_set_r3)) ++ wsX90 ++ wsX60 ++ wsX20 ++ wsX40 ++ wsX80 ++ (vx_atS RX9 69 "java/lang/IllegalArgumentException" ["java/lang/RuntimeException", "java/lang/Exception"]).filter goodWord ++ (vx_atS RX9 259 "java/lang/IndexOutOfBoundsException" ["java/lang/RuntimeException", "java/lang/Exception"]).filter goodWord)
def wsX9_scanFrame_r1 : List Cond := [Cond.fieldLink RX9 29 "TouchTracker" "regionMap" "LTouchTracker$Regions;", Cond.fieldLink RX9 36 "TouchTracker" "contactList" "LTouchTracker$Contacts;", Cond.fieldLink RX9 43 "TouchTracker" "matching" "LTouchTracker$Matching;", Cond.methodLink RX9 176 yX5_find, Cond.instanceMethod yX5_find, Cond.selects RX5 yX5_find yX5_find, Cond.initialized RX5, Cond.code yX5_find cX5_find 4 none, Cond.fieldLink RX5 26 "TouchTracker$Regions" "palm" "I", Cond.fieldLink RX5 30 "TouchTracker$Regions" "sharp" "I", Cond.fieldLink RX5 9 "TouchTracker$Regions" "regionOf" "[I", Cond.methodLink RX5 37 yX4_signalOf, Cond.instanceMethod yX4_signalOf, Cond.selects RX4 yX4_signalOf yX4_signalOf, Cond.initialized RX4, Cond.code yX4_signalOf cX4_signalOf 3 (some .int), Cond.fieldLink RX4 9 "TouchTracker$Panel" "raws" "[I", Cond.fieldLink RX4 15 "TouchTracker$Panel" "baselines" "[I", Cond.methodLink RX5 43 yX5_joinAll, Cond.instanceMethod yX5_joinAll, Cond.selects RX5 yX5_joinAll yX5_joinAll, Cond.code yX5_joinAll cX5_joinAll 3 (some .boolean), Cond.methodLink RX5 51 yX5_join, Cond.instanceMethod yX5_join]
def wsX9_scanFrame_r2 : List Cond := [Cond.selects RX5 yX5_join yX5_join, Cond.code yX5_join cX5_join 5 (some .boolean), Cond.static yX9_isCell, Cond.initialized RX9, Cond.code yX9_isCell cX9_isCell 1 (some .boolean), Cond.methodLink RX5 47 yX5_measure, Cond.instanceMethod yX5_measure, Cond.selects RX5 yX5_measure yX5_measure, Cond.code yX5_measure cX5_measure 5 none, Cond.fieldLink RX5 15 "TouchTracker$Regions" "sizes" "[I", Cond.fieldLink RX5 18 "TouchTracker$Regions" "greatest" "[I", Cond.methodLink RX9 268 yX1_find, Cond.instanceMethod yX1_find, Cond.selects RX1 yX1_find yX1_find, Cond.initialized RX1, Cond.code yX1_find cX1_find 5 none, Cond.fieldLink RX1 9 "TouchTracker$Contacts" "candidates" "[I", Cond.fieldLink RX1 41 "TouchTracker$Contacts" "count" "I", Cond.methodLink RX1 27 yX5_kindAround, Cond.instanceMethod yX5_kindAround, Cond.selects RX5 yX5_kindAround yX5_kindAround, Cond.code yX5_kindAround cX5_kindAround 3 (some .int), Cond.methodLink RX1 33 yX1_isPeak, Cond.static yX1_isPeak]
def wsX9_scanFrame_r3 : List Cond := [Cond.code yX1_isPeak cX1_isPeak 7 (some .boolean), Cond.methodLink RX1 52 yX4_signalOf, Cond.methodLink RX1 57 yX4_signalAt, Cond.instanceMethod yX4_signalAt, Cond.selects RX4 yX4_signalAt yX4_signalAt, Cond.code yX4_signalAt cX4_signalAt 3 (some .int), Cond.static yX9_isOnPanel, Cond.code yX9_isOnPanel cX9_isOnPanel 2 (some .boolean), Cond.static yX9_cellAt, Cond.code yX9_cellAt cX9_cellAt 2 (some .int), Cond.methodLink RX4 30 yX4_signalOf, Cond.methodLink RX1 37 yX1_massAround, Cond.static yX1_massAround, Cond.code yX1_massAround cX1_massAround 5 (some .int), Cond.methodLink RX1 45 yX1_heavierThan, Cond.instanceMethod yX1_heavierThan, Cond.selects RX1 yX1_heavierThan yX1_heavierThan, Cond.code yX1_heavierThan cX1_heavierThan 5 (some .int), Cond.methodLink RX1 48 yX1_add, Cond.instanceMethod yX1_add, Cond.selects RX1 yX1_add yX1_add, Cond.code yX1_add cX1_add 11 none, Cond.fieldLink RX1 15 "TouchTracker$Contacts" "rows" "[I", Cond.fieldLink RX1 18 "TouchTracker$Contacts" "columns" "[I"]
def wsX9_scanFrame_r4 : List Cond := [Cond.fieldLink RX1 21 "TouchTracker$Contacts" "masses" "[I", Cond.fieldLink RX1 24 "TouchTracker$Contacts" "peaks" "[I", Cond.methodLink RX9 271 yX3_find, Cond.instanceMethod yX3_find, Cond.selects RX3 yX3_find yX3_find, Cond.initialized RX3, Cond.code yX3_find cX3_find 7 none, Cond.fieldLink RX3 32 "TouchTracker$Matching" "count" "I", Cond.fieldLink RX3 16 "TouchTracker$Matching" "noneCosts" "[I", Cond.fieldLink RX3 11 "TouchTracker$Matching" "pairCosts" "[[I", Cond.fieldLink RX3 20 "TouchTracker$Matching" "leastCosts" "[[I", Cond.methodLink RX3 48 yX3_pairCost, Cond.static yX3_pairCost, Cond.code yX3_pairCost cX3_pairCost 5 (some .int), Cond.methodLink RX3 59 yX1_rowOf, Cond.instanceMethod yX1_rowOf, Cond.selects RX1 yX1_rowOf yX1_rowOf, Cond.code yX1_rowOf cX1_rowOf 2 (some .int), Cond.methodLink RX1 68 yX1_isContact, Cond.instanceMethod yX1_isContact, Cond.selects RX1 yX1_isContact yX1_isContact, Cond.code yX1_isContact cX1_isContact 2 (some .boolean), Cond.methodLink RX3 63 yX1_columnOf, Cond.instanceMethod yX1_columnOf]
def wsX9_scanFrame_r5 : List Cond := [Cond.selects RX1 yX1_columnOf yX1_columnOf, Cond.code yX1_columnOf cX1_columnOf 2 (some .int), Cond.methodLink RX3 66 yX8_squaredWayTo, Cond.instanceMethod yX8_squaredWayTo, Cond.selects RX8 yX8_squaredWayTo yX8_squaredWayTo, Cond.initialized RX8, Cond.code yX8_squaredWayTo cX8_squaredWayTo 5 (some .int), Cond.fieldLink RX8 15 "TouchTracker$Track" "row" "I", Cond.fieldLink RX8 19 "TouchTracker$Track" "column" "I", Cond.methodLink RX3 52 yX3_leastCost, Cond.instanceMethod yX3_leastCost, Cond.selects RX3 yX3_leastCost yX3_leastCost, Cond.code yX3_leastCost cX3_leastCost 6 (some .int), Cond.methodLink RX3 69 yX3_canTake, Cond.instanceMethod yX3_canTake, Cond.selects RX3 yX3_canTake yX3_canTake, Cond.code yX3_canTake cX3_canTake 4 (some .boolean), Cond.methodLink RX3 73 yX3_costWith, Cond.instanceMethod yX3_costWith, Cond.selects RX3 yX3_costWith yX3_costWith, Cond.code yX3_costWith cX3_costWith 4 (some .int), Cond.methodLink RX3 56 yX3_assign, Cond.instanceMethod yX3_assign, Cond.selects RX3 yX3_assign yX3_assign]
def wsX9_scanFrame_r6 : List Cond := [Cond.code yX3_assign cX3_assign 2 none, Cond.fieldLink RX3 77 "TouchTracker$Matching" "taken" "I", Cond.fieldLink RX3 23 "TouchTracker$Matching" "assigned" "[I", Cond.methodLink RX3 80 yX3_firstBest, Cond.instanceMethod yX3_firstBest, Cond.selects RX3 yX3_firstBest yX3_firstBest, Cond.code yX3_firstBest cX3_firstBest 4 (some .int), Cond.methodLink RX9 274 yX6_takeFrame, Cond.instanceMethod yX6_takeFrame, Cond.selects RX6 yX6_takeFrame yX6_takeFrame, Cond.initialized RX6, Cond.code yX6_takeFrame cX6_takeFrame 5 (some .int), Cond.fieldLink RX6 49 "TouchTracker$State" "downCount" "I", Cond.fieldLink RX6 52 "TouchTracker$State" "upCount" "I", Cond.fieldLink RX6 45 "TouchTracker$State" "frameCount" "I", Cond.methodLink RX6 59 yX6_downSet, Cond.instanceMethod yX6_downSet, Cond.selects RX6 yX6_downSet yX6_downSet, Cond.code yX6_downSet cX6_downSet 3 (some .int), Cond.fieldLink RX6 24 "TouchTracker$State" "tracks" "[LTouchTracker$Track;", Cond.methodLink RX6 63 yX6_moveTracks, Cond.instanceMethod yX6_moveTracks, Cond.selects RX6 yX6_moveTracks yX6_moveTracks, Cond.code yX6_moveTracks cX6_moveTracks 6 none]
def wsX9_scanFrame_r7 : List Cond := [Cond.fieldLink RX6 18 "TouchTracker$State" "settings" "[I", Cond.methodLink RX6 71 yX3_contactOf, Cond.instanceMethod yX3_contactOf, Cond.selects RX3 yX3_contactOf yX3_contactOf, Cond.code yX3_contactOf cX3_contactOf 2 (some .int), Cond.methodLink RX6 77 yX1_rowOf, Cond.methodLink RX6 82 yX1_columnOf, Cond.methodLink RX6 85 yX8_follow, Cond.instanceMethod yX8_follow, Cond.selects RX8 yX8_follow yX8_follow, Cond.code yX8_follow cX8_follow 3 none, Cond.fieldLink RX8 22 "TouchTracker$Track" "age" "I", Cond.fieldLink RX8 25 "TouchTracker$Track" "missed" "I", Cond.methodLink RX6 89 yX8_miss, Cond.instanceMethod yX8_miss, Cond.selects RX8 yX8_miss yX8_miss, Cond.code yX8_miss cX8_miss 2 none, Cond.fieldLink RX8 9 "TouchTracker$Track" "down" "Z", Cond.methodLink RX6 67 yX6_startTracks, Cond.instanceMethod yX6_startTracks, Cond.selects RX6 yX6_startTracks yX6_startTracks, Cond.code yX6_startTracks cX6_startTracks 6 none, Cond.methodLink RX6 93 yX3_nextUnassigned, Cond.instanceMethod yX3_nextUnassigned]
def wsX9_scanFrame_r8 : List Cond := [Cond.selects RX3 yX3_nextUnassigned yX3_nextUnassigned, Cond.code yX3_nextUnassigned cX3_nextUnassigned 3 (some .int), Cond.methodLink RX6 99 yX8_goDown, Cond.instanceMethod yX8_goDown, Cond.selects RX8 yX8_goDown yX8_goDown, Cond.code yX8_goDown cX8_goDown 3 none]
def wsX9_scanFrame : List Cond := .code yX9_scanFrame cX9_scanFrame 2 (some .int) :: ((wsX9_scanFrame_r1 ++ (wsX9_scanFrame_r2 ++ (wsX9_scanFrame_r3 ++ (wsX9_scanFrame_r4 ++ (wsX9_scanFrame_r5 ++ (wsX9_scanFrame_r6 ++ (wsX9_scanFrame_r7 ++ wsX9_scanFrame_r8))))))) ++ wsX90 ++ wsX60 ++ wsX50 ++ wsX40 ++ wsX10 ++ wsX30 ++ wsX80)
def wsX9_scan_r1 : List Cond := [Cond.fieldLink RX9 22 "TouchTracker" "history" "LTouchTracker$History;", Cond.fieldLink RX9 12 "TouchTracker" "state" "LTouchTracker$State;", Cond.methodLink RX9 72 yX2_save, Cond.instanceMethod yX2_save, Cond.selects RX2 yX2_save yX2_save, Cond.initialized RX2, Cond.code yX2_save cX2_save 2 none, Cond.fieldLink RX2 16 "TouchTracker$History" "count" "I", Cond.fieldLink RX2 11 "TouchTracker$History" "saved" "[LTouchTracker$State;", Cond.methodLink RX2 20 yX2_dropOldest, Cond.instanceMethod yX2_dropOldest, Cond.selects RX2 yX2_dropOldest yX2_dropOldest, Cond.code yX2_dropOldest cX2_dropOldest 3 none, Cond.methodLink RX2 23 yX6_copyFrom, Cond.instanceMethod yX6_copyFrom, Cond.selects RX6 yX6_copyFrom yX6_copyFrom, Cond.initialized RX6, Cond.code yX6_copyFrom cX6_copyFrom 3 none, Cond.fieldLink RX6 12 "TouchTracker$State" "panel" "LTouchTracker$Panel;", Cond.fieldLink RX6 18 "TouchTracker$State" "settings" "[I", Cond.methodLink RX6 31 arraycopyName, Cond.native arraycopyName, Cond.static arraycopyName, Cond.initialized "java/lang/System"]
def wsX9_scan_r2 : List Cond := [Cond.fieldLink RX6 24 "TouchTracker$State" "tracks" "[LTouchTracker$Track;", Cond.fieldLink RX6 45 "TouchTracker$State" "frameCount" "I", Cond.fieldLink RX6 49 "TouchTracker$State" "downCount" "I", Cond.fieldLink RX6 52 "TouchTracker$State" "upCount" "I", Cond.methodLink RX6 38 yX4_copyFrom, Cond.instanceMethod yX4_copyFrom, Cond.selects RX4 yX4_copyFrom yX4_copyFrom, Cond.initialized RX4, Cond.code yX4_copyFrom cX4_copyFrom 2 none, Cond.fieldLink RX4 9 "TouchTracker$Panel" "raws" "[I", Cond.methodLink RX4 38 arraycopyName, Cond.fieldLink RX4 15 "TouchTracker$Panel" "baselines" "[I", Cond.methodLink RX6 42 yX8_copyFrom, Cond.instanceMethod yX8_copyFrom, Cond.selects RX8 yX8_copyFrom yX8_copyFrom, Cond.initialized RX8, Cond.code yX8_copyFrom cX8_copyFrom 2 none, Cond.fieldLink RX8 9 "TouchTracker$Track" "down" "Z", Cond.fieldLink RX8 15 "TouchTracker$Track" "row" "I", Cond.fieldLink RX8 19 "TouchTracker$Track" "column" "I", Cond.fieldLink RX8 22 "TouchTracker$Track" "age" "I", Cond.fieldLink RX8 25 "TouchTracker$Track" "missed" "I", Cond.methodLink RX9 122 yX9_scanFrame, Cond.instanceMethod yX9_scanFrame]
def wsX9_scan_r3 : List Cond := [Cond.selects RX9 yX9_scanFrame yX9_scanFrame, Cond.initialized RX9, Cond.code yX9_scanFrame cX9_scanFrame 2 (some .int), Cond.fieldLink RX9 29 "TouchTracker" "regionMap" "LTouchTracker$Regions;", Cond.fieldLink RX9 36 "TouchTracker" "contactList" "LTouchTracker$Contacts;", Cond.fieldLink RX9 43 "TouchTracker" "matching" "LTouchTracker$Matching;", Cond.methodLink RX9 176 yX5_find, Cond.instanceMethod yX5_find, Cond.selects RX5 yX5_find yX5_find, Cond.initialized RX5, Cond.code yX5_find cX5_find 4 none, Cond.fieldLink RX5 26 "TouchTracker$Regions" "palm" "I", Cond.fieldLink RX5 30 "TouchTracker$Regions" "sharp" "I", Cond.fieldLink RX5 9 "TouchTracker$Regions" "regionOf" "[I", Cond.methodLink RX5 37 yX4_signalOf, Cond.instanceMethod yX4_signalOf, Cond.selects RX4 yX4_signalOf yX4_signalOf, Cond.code yX4_signalOf cX4_signalOf 3 (some .int), Cond.methodLink RX5 43 yX5_joinAll, Cond.instanceMethod yX5_joinAll, Cond.selects RX5 yX5_joinAll yX5_joinAll, Cond.code yX5_joinAll cX5_joinAll 3 (some .boolean), Cond.methodLink RX5 51 yX5_join, Cond.instanceMethod yX5_join]
def wsX9_scan_r4 : List Cond := [Cond.selects RX5 yX5_join yX5_join, Cond.code yX5_join cX5_join 5 (some .boolean), Cond.static yX9_isCell, Cond.code yX9_isCell cX9_isCell 1 (some .boolean), Cond.methodLink RX5 47 yX5_measure, Cond.instanceMethod yX5_measure, Cond.selects RX5 yX5_measure yX5_measure, Cond.code yX5_measure cX5_measure 5 none, Cond.fieldLink RX5 15 "TouchTracker$Regions" "sizes" "[I", Cond.fieldLink RX5 18 "TouchTracker$Regions" "greatest" "[I", Cond.methodLink RX9 268 yX1_find, Cond.instanceMethod yX1_find, Cond.selects RX1 yX1_find yX1_find, Cond.initialized RX1, Cond.code yX1_find cX1_find 5 none, Cond.fieldLink RX1 9 "TouchTracker$Contacts" "candidates" "[I", Cond.fieldLink RX1 41 "TouchTracker$Contacts" "count" "I", Cond.methodLink RX1 27 yX5_kindAround, Cond.instanceMethod yX5_kindAround, Cond.selects RX5 yX5_kindAround yX5_kindAround, Cond.code yX5_kindAround cX5_kindAround 3 (some .int), Cond.methodLink RX1 33 yX1_isPeak, Cond.static yX1_isPeak, Cond.code yX1_isPeak cX1_isPeak 7 (some .boolean)]
def wsX9_scan_r5 : List Cond := [Cond.methodLink RX1 52 yX4_signalOf, Cond.methodLink RX1 57 yX4_signalAt, Cond.instanceMethod yX4_signalAt, Cond.selects RX4 yX4_signalAt yX4_signalAt, Cond.code yX4_signalAt cX4_signalAt 3 (some .int), Cond.static yX9_isOnPanel, Cond.code yX9_isOnPanel cX9_isOnPanel 2 (some .boolean), Cond.static yX9_cellAt, Cond.code yX9_cellAt cX9_cellAt 2 (some .int), Cond.methodLink RX4 30 yX4_signalOf, Cond.methodLink RX1 37 yX1_massAround, Cond.static yX1_massAround, Cond.code yX1_massAround cX1_massAround 5 (some .int), Cond.methodLink RX1 45 yX1_heavierThan, Cond.instanceMethod yX1_heavierThan, Cond.selects RX1 yX1_heavierThan yX1_heavierThan, Cond.code yX1_heavierThan cX1_heavierThan 5 (some .int), Cond.methodLink RX1 48 yX1_add, Cond.instanceMethod yX1_add, Cond.selects RX1 yX1_add yX1_add, Cond.code yX1_add cX1_add 11 none, Cond.fieldLink RX1 15 "TouchTracker$Contacts" "rows" "[I", Cond.fieldLink RX1 18 "TouchTracker$Contacts" "columns" "[I", Cond.fieldLink RX1 21 "TouchTracker$Contacts" "masses" "[I"]
def wsX9_scan_r6 : List Cond := [Cond.fieldLink RX1 24 "TouchTracker$Contacts" "peaks" "[I", Cond.methodLink RX9 271 yX3_find, Cond.instanceMethod yX3_find, Cond.selects RX3 yX3_find yX3_find, Cond.initialized RX3, Cond.code yX3_find cX3_find 7 none, Cond.fieldLink RX3 32 "TouchTracker$Matching" "count" "I", Cond.fieldLink RX3 16 "TouchTracker$Matching" "noneCosts" "[I", Cond.fieldLink RX3 11 "TouchTracker$Matching" "pairCosts" "[[I", Cond.fieldLink RX3 20 "TouchTracker$Matching" "leastCosts" "[[I", Cond.methodLink RX3 48 yX3_pairCost, Cond.static yX3_pairCost, Cond.code yX3_pairCost cX3_pairCost 5 (some .int), Cond.methodLink RX3 59 yX1_rowOf, Cond.instanceMethod yX1_rowOf, Cond.selects RX1 yX1_rowOf yX1_rowOf, Cond.code yX1_rowOf cX1_rowOf 2 (some .int), Cond.methodLink RX1 68 yX1_isContact, Cond.instanceMethod yX1_isContact, Cond.selects RX1 yX1_isContact yX1_isContact, Cond.code yX1_isContact cX1_isContact 2 (some .boolean), Cond.methodLink RX3 63 yX1_columnOf, Cond.instanceMethod yX1_columnOf, Cond.selects RX1 yX1_columnOf yX1_columnOf]
def wsX9_scan_r7 : List Cond := [Cond.code yX1_columnOf cX1_columnOf 2 (some .int), Cond.methodLink RX3 66 yX8_squaredWayTo, Cond.instanceMethod yX8_squaredWayTo, Cond.selects RX8 yX8_squaredWayTo yX8_squaredWayTo, Cond.code yX8_squaredWayTo cX8_squaredWayTo 5 (some .int), Cond.methodLink RX3 52 yX3_leastCost, Cond.instanceMethod yX3_leastCost, Cond.selects RX3 yX3_leastCost yX3_leastCost, Cond.code yX3_leastCost cX3_leastCost 6 (some .int), Cond.methodLink RX3 69 yX3_canTake, Cond.instanceMethod yX3_canTake, Cond.selects RX3 yX3_canTake yX3_canTake, Cond.code yX3_canTake cX3_canTake 4 (some .boolean), Cond.methodLink RX3 73 yX3_costWith, Cond.instanceMethod yX3_costWith, Cond.selects RX3 yX3_costWith yX3_costWith, Cond.code yX3_costWith cX3_costWith 4 (some .int), Cond.methodLink RX3 56 yX3_assign, Cond.instanceMethod yX3_assign, Cond.selects RX3 yX3_assign yX3_assign, Cond.code yX3_assign cX3_assign 2 none, Cond.fieldLink RX3 77 "TouchTracker$Matching" "taken" "I", Cond.fieldLink RX3 23 "TouchTracker$Matching" "assigned" "[I", Cond.methodLink RX3 80 yX3_firstBest]
def wsX9_scan_r8 : List Cond := [Cond.instanceMethod yX3_firstBest, Cond.selects RX3 yX3_firstBest yX3_firstBest, Cond.code yX3_firstBest cX3_firstBest 4 (some .int), Cond.methodLink RX9 274 yX6_takeFrame, Cond.instanceMethod yX6_takeFrame, Cond.selects RX6 yX6_takeFrame yX6_takeFrame, Cond.code yX6_takeFrame cX6_takeFrame 5 (some .int), Cond.methodLink RX6 59 yX6_downSet, Cond.instanceMethod yX6_downSet, Cond.selects RX6 yX6_downSet yX6_downSet, Cond.code yX6_downSet cX6_downSet 3 (some .int), Cond.methodLink RX6 63 yX6_moveTracks, Cond.instanceMethod yX6_moveTracks, Cond.selects RX6 yX6_moveTracks yX6_moveTracks, Cond.code yX6_moveTracks cX6_moveTracks 6 none, Cond.methodLink RX6 71 yX3_contactOf, Cond.instanceMethod yX3_contactOf, Cond.selects RX3 yX3_contactOf yX3_contactOf, Cond.code yX3_contactOf cX3_contactOf 2 (some .int), Cond.methodLink RX6 77 yX1_rowOf, Cond.methodLink RX6 82 yX1_columnOf, Cond.methodLink RX6 85 yX8_follow, Cond.instanceMethod yX8_follow, Cond.selects RX8 yX8_follow yX8_follow]
def wsX9_scan_r9 : List Cond := [Cond.code yX8_follow cX8_follow 3 none, Cond.methodLink RX6 89 yX8_miss, Cond.instanceMethod yX8_miss, Cond.selects RX8 yX8_miss yX8_miss, Cond.code yX8_miss cX8_miss 2 none, Cond.methodLink RX6 67 yX6_startTracks, Cond.instanceMethod yX6_startTracks, Cond.selects RX6 yX6_startTracks yX6_startTracks, Cond.code yX6_startTracks cX6_startTracks 6 none, Cond.methodLink RX6 93 yX3_nextUnassigned, Cond.instanceMethod yX3_nextUnassigned, Cond.selects RX3 yX3_nextUnassigned yX3_nextUnassigned, Cond.code yX3_nextUnassigned cX3_nextUnassigned 3 (some .int), Cond.methodLink RX6 99 yX8_goDown, Cond.instanceMethod yX8_goDown, Cond.selects RX8 yX8_goDown yX8_goDown, Cond.code yX8_goDown cX8_goDown 3 none]
def wsX9_scan : List Cond := .code yX9_scan cX9_scan 1 (some .int) :: ((wsX9_scan_r1 ++ (wsX9_scan_r2 ++ (wsX9_scan_r3 ++ (wsX9_scan_r4 ++ (wsX9_scan_r5 ++ (wsX9_scan_r6 ++ (wsX9_scan_r7 ++ (wsX9_scan_r8 ++ wsX9_scan_r9)))))))) ++ wsX90 ++ wsX20 ++ wsX60 ++ wsX40 ++ wsX80 ++ wsX50 ++ wsX10 ++ wsX30)
def wsX9_undo_r1 : List Cond := [Cond.classLink RX9 132 "java/lang/IllegalStateException", Cond.initialized "java/lang/IllegalStateException", Cond.fieldLink RX9 22 "TouchTracker" "history" "LTouchTracker$History;", Cond.fieldLink RX9 12 "TouchTracker" "state" "LTouchTracker$State;", Cond.methodLink RX9 170 yX2_restore, Cond.instanceMethod yX2_restore, Cond.selects RX2 yX2_restore yX2_restore, Cond.initialized RX2, Cond.code yX2_restore cX2_restore 2 none, Cond.fieldLink RX2 16 "TouchTracker$History" "count" "I", Cond.fieldLink RX2 11 "TouchTracker$History" "saved" "[LTouchTracker$State;", Cond.methodLink RX2 23 yX6_copyFrom, Cond.instanceMethod yX6_copyFrom, Cond.selects RX6 yX6_copyFrom yX6_copyFrom, Cond.initialized RX6, Cond.code yX6_copyFrom cX6_copyFrom 3 none, Cond.fieldLink RX6 12 "TouchTracker$State" "panel" "LTouchTracker$Panel;", Cond.fieldLink RX6 18 "TouchTracker$State" "settings" "[I", Cond.methodLink RX6 31 arraycopyName, Cond.native arraycopyName, Cond.static arraycopyName, Cond.initialized "java/lang/System", Cond.fieldLink RX6 24 "TouchTracker$State" "tracks" "[LTouchTracker$Track;", Cond.fieldLink RX6 45 "TouchTracker$State" "frameCount" "I"]
def wsX9_undo_r2 : List Cond := [Cond.fieldLink RX6 49 "TouchTracker$State" "downCount" "I", Cond.fieldLink RX6 52 "TouchTracker$State" "upCount" "I", Cond.methodLink RX6 38 yX4_copyFrom, Cond.instanceMethod yX4_copyFrom, Cond.selects RX4 yX4_copyFrom yX4_copyFrom, Cond.initialized RX4, Cond.code yX4_copyFrom cX4_copyFrom 2 none, Cond.fieldLink RX4 9 "TouchTracker$Panel" "raws" "[I", Cond.methodLink RX4 38 arraycopyName, Cond.fieldLink RX4 15 "TouchTracker$Panel" "baselines" "[I", Cond.methodLink RX6 42 yX8_copyFrom, Cond.instanceMethod yX8_copyFrom, Cond.selects RX8 yX8_copyFrom yX8_copyFrom, Cond.initialized RX8, Cond.code yX8_copyFrom cX8_copyFrom 2 none, Cond.fieldLink RX8 9 "TouchTracker$Track" "down" "Z", Cond.fieldLink RX8 15 "TouchTracker$Track" "row" "I", Cond.fieldLink RX8 19 "TouchTracker$Track" "column" "I", Cond.fieldLink RX8 22 "TouchTracker$Track" "age" "I", Cond.fieldLink RX8 25 "TouchTracker$Track" "missed" "I"]
def wsX9_undo : List Cond := .code yX9_undo cX9_undo 1 (some .int) :: ((wsX9_undo_r1 ++ wsX9_undo_r2) ++ wsX90 ++ wsX20 ++ wsX60 ++ wsX40 ++ wsX80 ++ (vx_atS RX9 136 "java/lang/IllegalStateException" ["java/lang/RuntimeException", "java/lang/Exception"]).filter goodWord)
def wsX9_raw : List Cond := .code yX9_raw cX9_raw 3 (some .int) :: ([.fieldLink RX9 12 "TouchTracker" "state" "LTouchTracker$State;", .methodLink RX9 61 yX9_requireCell, .static yX9_requireCell, .initialized RX9, .code yX9_requireCell cX9_requireCell 2 none, .classLink RX9 255 "java/lang/IndexOutOfBoundsException", .initialized "java/lang/IndexOutOfBoundsException", .methodLink RX9 251 yX9_isOnPanel, .static yX9_isOnPanel, .code yX9_isOnPanel cX9_isOnPanel 2 (some .boolean), .methodLink RX9 80 yX9_cellAt, .static yX9_cellAt, .code yX9_cellAt cX9_cellAt 2 (some .int), .methodLink RX9 95 yX4_rawOf, .instanceMethod yX4_rawOf, .selects RX4 yX4_rawOf yX4_rawOf, .initialized RX4, .code yX4_rawOf cX4_rawOf 2 (some .int), .fieldLink RX4 9 "TouchTracker$Panel" "raws" "[I", .static yX9_isCell, .code yX9_isCell cX9_isCell 1 (some .boolean)] ++ wsX90 ++ wsX60 ++ wsX40 ++ (vx_atS RX9 259 "java/lang/IndexOutOfBoundsException" ["java/lang/RuntimeException", "java/lang/Exception"]).filter goodWord)
def wsX9_signal : List Cond := .code yX9_signal cX9_signal 3 (some .int) :: ([.fieldLink RX9 12 "TouchTracker" "state" "LTouchTracker$State;", .methodLink RX9 61 yX9_requireCell, .static yX9_requireCell, .initialized RX9, .code yX9_requireCell cX9_requireCell 2 none, .classLink RX9 255 "java/lang/IndexOutOfBoundsException", .initialized "java/lang/IndexOutOfBoundsException", .methodLink RX9 251 yX9_isOnPanel, .static yX9_isOnPanel, .code yX9_isOnPanel cX9_isOnPanel 2 (some .boolean), .methodLink RX9 80 yX9_cellAt, .static yX9_cellAt, .code yX9_cellAt cX9_cellAt 2 (some .int), .methodLink RX9 173 yX4_signalOf, .instanceMethod yX4_signalOf, .selects RX4 yX4_signalOf yX4_signalOf, .initialized RX4, .code yX4_signalOf cX4_signalOf 3 (some .int), .fieldLink RX4 9 "TouchTracker$Panel" "raws" "[I", .fieldLink RX4 15 "TouchTracker$Panel" "baselines" "[I"] ++ wsX90 ++ wsX60 ++ wsX40 ++ (vx_atS RX9 259 "java/lang/IndexOutOfBoundsException" ["java/lang/RuntimeException", "java/lang/Exception"]).filter goodWord)
def wsX9_regionSize_r1 : List Cond := [Cond.fieldLink RX9 29 "TouchTracker" "regionMap" "LTouchTracker$Regions;", Cond.fieldLink RX9 12 "TouchTracker" "state" "LTouchTracker$State;", Cond.methodLink RX9 61 yX9_requireCell, Cond.static yX9_requireCell, Cond.initialized RX9, Cond.code yX9_requireCell cX9_requireCell 2 none, Cond.classLink RX9 255 "java/lang/IndexOutOfBoundsException", Cond.initialized "java/lang/IndexOutOfBoundsException", Cond.methodLink RX9 251 yX9_isOnPanel, Cond.static yX9_isOnPanel, Cond.code yX9_isOnPanel cX9_isOnPanel 2 (some .boolean), Cond.methodLink RX9 176 yX5_find, Cond.instanceMethod yX5_find, Cond.selects RX5 yX5_find yX5_find, Cond.initialized RX5, Cond.code yX5_find cX5_find 4 none, Cond.fieldLink RX5 26 "TouchTracker$Regions" "palm" "I", Cond.fieldLink RX5 30 "TouchTracker$Regions" "sharp" "I", Cond.fieldLink RX5 9 "TouchTracker$Regions" "regionOf" "[I", Cond.methodLink RX5 37 yX4_signalOf, Cond.instanceMethod yX4_signalOf, Cond.selects RX4 yX4_signalOf yX4_signalOf, Cond.initialized RX4, Cond.code yX4_signalOf cX4_signalOf 3 (some .int)]
def wsX9_regionSize_r2 : List Cond := [Cond.fieldLink RX4 9 "TouchTracker$Panel" "raws" "[I", Cond.fieldLink RX4 15 "TouchTracker$Panel" "baselines" "[I", Cond.methodLink RX5 43 yX5_joinAll, Cond.instanceMethod yX5_joinAll, Cond.selects RX5 yX5_joinAll yX5_joinAll, Cond.code yX5_joinAll cX5_joinAll 3 (some .boolean), Cond.methodLink RX5 51 yX5_join, Cond.instanceMethod yX5_join, Cond.selects RX5 yX5_join yX5_join, Cond.code yX5_join cX5_join 5 (some .boolean), Cond.static yX9_isCell, Cond.code yX9_isCell cX9_isCell 1 (some .boolean), Cond.methodLink RX5 47 yX5_measure, Cond.instanceMethod yX5_measure, Cond.selects RX5 yX5_measure yX5_measure, Cond.code yX5_measure cX5_measure 5 none, Cond.fieldLink RX5 15 "TouchTracker$Regions" "sizes" "[I", Cond.fieldLink RX5 18 "TouchTracker$Regions" "greatest" "[I", Cond.methodLink RX9 80 yX9_cellAt, Cond.static yX9_cellAt, Cond.code yX9_cellAt cX9_cellAt 2 (some .int), Cond.methodLink RX9 179 yX5_sizeAround, Cond.instanceMethod yX5_sizeAround, Cond.selects RX5 yX5_sizeAround yX5_sizeAround]
def wsX9_regionSize_r3 : List Cond := [Cond.code yX5_sizeAround cX5_sizeAround 3 (some .int)]
def wsX9_regionSize : List Cond := .code yX9_regionSize cX9_regionSize 3 (some .int) :: ((wsX9_regionSize_r1 ++ (wsX9_regionSize_r2 ++ wsX9_regionSize_r3)) ++ wsX90 ++ wsX60 ++ wsX50 ++ wsX40 ++ (vx_atS RX9 259 "java/lang/IndexOutOfBoundsException" ["java/lang/RuntimeException", "java/lang/Exception"]).filter goodWord)
def wsX9_regionKind_r1 : List Cond := [Cond.fieldLink RX9 29 "TouchTracker" "regionMap" "LTouchTracker$Regions;", Cond.fieldLink RX9 12 "TouchTracker" "state" "LTouchTracker$State;", Cond.methodLink RX9 61 yX9_requireCell, Cond.static yX9_requireCell, Cond.initialized RX9, Cond.code yX9_requireCell cX9_requireCell 2 none, Cond.classLink RX9 255 "java/lang/IndexOutOfBoundsException", Cond.initialized "java/lang/IndexOutOfBoundsException", Cond.methodLink RX9 251 yX9_isOnPanel, Cond.static yX9_isOnPanel, Cond.code yX9_isOnPanel cX9_isOnPanel 2 (some .boolean), Cond.methodLink RX9 176 yX5_find, Cond.instanceMethod yX5_find, Cond.selects RX5 yX5_find yX5_find, Cond.initialized RX5, Cond.code yX5_find cX5_find 4 none, Cond.fieldLink RX5 26 "TouchTracker$Regions" "palm" "I", Cond.fieldLink RX5 30 "TouchTracker$Regions" "sharp" "I", Cond.fieldLink RX5 9 "TouchTracker$Regions" "regionOf" "[I", Cond.methodLink RX5 37 yX4_signalOf, Cond.instanceMethod yX4_signalOf, Cond.selects RX4 yX4_signalOf yX4_signalOf, Cond.initialized RX4, Cond.code yX4_signalOf cX4_signalOf 3 (some .int)]
def wsX9_regionKind_r2 : List Cond := [Cond.fieldLink RX4 9 "TouchTracker$Panel" "raws" "[I", Cond.fieldLink RX4 15 "TouchTracker$Panel" "baselines" "[I", Cond.methodLink RX5 43 yX5_joinAll, Cond.instanceMethod yX5_joinAll, Cond.selects RX5 yX5_joinAll yX5_joinAll, Cond.code yX5_joinAll cX5_joinAll 3 (some .boolean), Cond.methodLink RX5 51 yX5_join, Cond.instanceMethod yX5_join, Cond.selects RX5 yX5_join yX5_join, Cond.code yX5_join cX5_join 5 (some .boolean), Cond.static yX9_isCell, Cond.code yX9_isCell cX9_isCell 1 (some .boolean), Cond.methodLink RX5 47 yX5_measure, Cond.instanceMethod yX5_measure, Cond.selects RX5 yX5_measure yX5_measure, Cond.code yX5_measure cX5_measure 5 none, Cond.fieldLink RX5 15 "TouchTracker$Regions" "sizes" "[I", Cond.fieldLink RX5 18 "TouchTracker$Regions" "greatest" "[I", Cond.methodLink RX9 80 yX9_cellAt, Cond.static yX9_cellAt, Cond.code yX9_cellAt cX9_cellAt 2 (some .int), Cond.methodLink RX9 182 yX5_kindAround, Cond.instanceMethod yX5_kindAround, Cond.selects RX5 yX5_kindAround yX5_kindAround]
def wsX9_regionKind_r3 : List Cond := [Cond.code yX5_kindAround cX5_kindAround 3 (some .int)]
def wsX9_regionKind : List Cond := .code yX9_regionKind cX9_regionKind 3 (some .int) :: ((wsX9_regionKind_r1 ++ (wsX9_regionKind_r2 ++ wsX9_regionKind_r3)) ++ wsX90 ++ wsX60 ++ wsX50 ++ wsX40 ++ (vx_atS RX9 259 "java/lang/IndexOutOfBoundsException" ["java/lang/RuntimeException", "java/lang/Exception"]).filter goodWord)
def wsX9_regions_r1 : List Cond := [Cond.classLink RX9 65 "java/lang/IllegalArgumentException", Cond.initialized "java/lang/IllegalArgumentException", Cond.fieldLink RX9 29 "TouchTracker" "regionMap" "LTouchTracker$Regions;", Cond.fieldLink RX9 12 "TouchTracker" "state" "LTouchTracker$State;", Cond.methodLink RX9 176 yX5_find, Cond.instanceMethod yX5_find, Cond.selects RX5 yX5_find yX5_find, Cond.initialized RX5, Cond.code yX5_find cX5_find 4 none, Cond.fieldLink RX5 26 "TouchTracker$Regions" "palm" "I", Cond.fieldLink RX5 30 "TouchTracker$Regions" "sharp" "I", Cond.fieldLink RX5 9 "TouchTracker$Regions" "regionOf" "[I", Cond.methodLink RX5 37 yX4_signalOf, Cond.instanceMethod yX4_signalOf, Cond.selects RX4 yX4_signalOf yX4_signalOf, Cond.initialized RX4, Cond.code yX4_signalOf cX4_signalOf 3 (some .int), Cond.fieldLink RX4 9 "TouchTracker$Panel" "raws" "[I", Cond.fieldLink RX4 15 "TouchTracker$Panel" "baselines" "[I", Cond.methodLink RX5 43 yX5_joinAll, Cond.instanceMethod yX5_joinAll, Cond.selects RX5 yX5_joinAll yX5_joinAll, Cond.code yX5_joinAll cX5_joinAll 3 (some .boolean), Cond.methodLink RX5 51 yX5_join]
def wsX9_regions_r2 : List Cond := [Cond.instanceMethod yX5_join, Cond.selects RX5 yX5_join yX5_join, Cond.code yX5_join cX5_join 5 (some .boolean), Cond.static yX9_isCell, Cond.initialized RX9, Cond.code yX9_isCell cX9_isCell 1 (some .boolean), Cond.methodLink RX5 47 yX5_measure, Cond.instanceMethod yX5_measure, Cond.selects RX5 yX5_measure yX5_measure, Cond.code yX5_measure cX5_measure 5 none, Cond.fieldLink RX5 15 "TouchTracker$Regions" "sizes" "[I", Cond.fieldLink RX5 18 "TouchTracker$Regions" "greatest" "[I", Cond.methodLink RX9 187 yX5_countOf, Cond.instanceMethod yX5_countOf, Cond.selects RX5 yX5_countOf yX5_countOf, Cond.code yX5_countOf cX5_countOf 4 (some .int), Cond.methodLink RX5 59 yX5_kindAround, Cond.instanceMethod yX5_kindAround, Cond.selects RX5 yX5_kindAround yX5_kindAround, Cond.code yX5_kindAround cX5_kindAround 3 (some .int)]
def wsX9_regions : List Cond := .code yX9_regions cX9_regions 2 (some .int) :: ((wsX9_regions_r1 ++ wsX9_regions_r2) ++ wsX90 ++ wsX60 ++ wsX50 ++ wsX40 ++ (vx_atS RX9 69 "java/lang/IllegalArgumentException" ["java/lang/RuntimeException", "java/lang/Exception"]).filter goodWord)
def wsX9_setting : List Cond := .code yX9_setting cX9_setting 2 (some .int) :: ([.fieldLink RX9 12 "TouchTracker" "state" "LTouchTracker$State;", .methodLink RX9 106 yX9_requireSetting, .static yX9_requireSetting, .initialized RX9, .code yX9_requireSetting cX9_requireSetting 1 none, .classLink RX9 255 "java/lang/IndexOutOfBoundsException", .initialized "java/lang/IndexOutOfBoundsException"] ++ wsX90 ++ wsX60 ++ (vx_atS RX9 259 "java/lang/IndexOutOfBoundsException" ["java/lang/RuntimeException", "java/lang/Exception"]).filter goodWord)
def wsX9_findContacts_r1 : List Cond := [Cond.fieldLink RX9 29 "TouchTracker" "regionMap" "LTouchTracker$Regions;", Cond.fieldLink RX9 12 "TouchTracker" "state" "LTouchTracker$State;", Cond.fieldLink RX9 36 "TouchTracker" "contactList" "LTouchTracker$Contacts;", Cond.methodLink RX9 176 yX5_find, Cond.instanceMethod yX5_find, Cond.selects RX5 yX5_find yX5_find, Cond.initialized RX5, Cond.code yX5_find cX5_find 4 none, Cond.fieldLink RX5 26 "TouchTracker$Regions" "palm" "I", Cond.fieldLink RX5 30 "TouchTracker$Regions" "sharp" "I", Cond.fieldLink RX5 9 "TouchTracker$Regions" "regionOf" "[I", Cond.methodLink RX5 37 yX4_signalOf, Cond.instanceMethod yX4_signalOf, Cond.selects RX4 yX4_signalOf yX4_signalOf, Cond.initialized RX4, Cond.code yX4_signalOf cX4_signalOf 3 (some .int), Cond.fieldLink RX4 9 "TouchTracker$Panel" "raws" "[I", Cond.fieldLink RX4 15 "TouchTracker$Panel" "baselines" "[I", Cond.methodLink RX5 43 yX5_joinAll, Cond.instanceMethod yX5_joinAll, Cond.selects RX5 yX5_joinAll yX5_joinAll, Cond.code yX5_joinAll cX5_joinAll 3 (some .boolean), Cond.methodLink RX5 51 yX5_join, Cond.instanceMethod yX5_join]
def wsX9_findContacts_r2 : List Cond := [Cond.selects RX5 yX5_join yX5_join, Cond.code yX5_join cX5_join 5 (some .boolean), Cond.static yX9_isCell, Cond.initialized RX9, Cond.code yX9_isCell cX9_isCell 1 (some .boolean), Cond.methodLink RX5 47 yX5_measure, Cond.instanceMethod yX5_measure, Cond.selects RX5 yX5_measure yX5_measure, Cond.code yX5_measure cX5_measure 5 none, Cond.fieldLink RX5 15 "TouchTracker$Regions" "sizes" "[I", Cond.fieldLink RX5 18 "TouchTracker$Regions" "greatest" "[I", Cond.methodLink RX9 268 yX1_find, Cond.instanceMethod yX1_find, Cond.selects RX1 yX1_find yX1_find, Cond.initialized RX1, Cond.code yX1_find cX1_find 5 none, Cond.fieldLink RX1 9 "TouchTracker$Contacts" "candidates" "[I", Cond.fieldLink RX1 41 "TouchTracker$Contacts" "count" "I", Cond.methodLink RX1 27 yX5_kindAround, Cond.instanceMethod yX5_kindAround, Cond.selects RX5 yX5_kindAround yX5_kindAround, Cond.code yX5_kindAround cX5_kindAround 3 (some .int), Cond.methodLink RX1 33 yX1_isPeak, Cond.static yX1_isPeak]
def wsX9_findContacts_r3 : List Cond := [Cond.code yX1_isPeak cX1_isPeak 7 (some .boolean), Cond.methodLink RX1 52 yX4_signalOf, Cond.methodLink RX1 57 yX4_signalAt, Cond.instanceMethod yX4_signalAt, Cond.selects RX4 yX4_signalAt yX4_signalAt, Cond.code yX4_signalAt cX4_signalAt 3 (some .int), Cond.static yX9_isOnPanel, Cond.code yX9_isOnPanel cX9_isOnPanel 2 (some .boolean), Cond.static yX9_cellAt, Cond.code yX9_cellAt cX9_cellAt 2 (some .int), Cond.methodLink RX4 30 yX4_signalOf, Cond.methodLink RX1 37 yX1_massAround, Cond.static yX1_massAround, Cond.code yX1_massAround cX1_massAround 5 (some .int), Cond.methodLink RX1 45 yX1_heavierThan, Cond.instanceMethod yX1_heavierThan, Cond.selects RX1 yX1_heavierThan yX1_heavierThan, Cond.code yX1_heavierThan cX1_heavierThan 5 (some .int), Cond.methodLink RX1 48 yX1_add, Cond.instanceMethod yX1_add, Cond.selects RX1 yX1_add yX1_add, Cond.code yX1_add cX1_add 11 none, Cond.fieldLink RX1 15 "TouchTracker$Contacts" "rows" "[I", Cond.fieldLink RX1 18 "TouchTracker$Contacts" "columns" "[I"]
def wsX9_findContacts_r4 : List Cond := [Cond.fieldLink RX1 21 "TouchTracker$Contacts" "masses" "[I", Cond.fieldLink RX1 24 "TouchTracker$Contacts" "peaks" "[I"]
def wsX9_findContacts : List Cond := .code yX9_findContacts cX9_findContacts 1 none :: ((wsX9_findContacts_r1 ++ (wsX9_findContacts_r2 ++ (wsX9_findContacts_r3 ++ wsX9_findContacts_r4))) ++ wsX90 ++ wsX60 ++ wsX50 ++ wsX40 ++ wsX10)
def wsX9_contacts_r1 : List Cond := [Cond.fieldLink RX9 36 "TouchTracker" "contactList" "LTouchTracker$Contacts;", Cond.methodLink RX9 190 yX9_findContacts, Cond.instanceMethod yX9_findContacts, Cond.selects RX9 yX9_findContacts yX9_findContacts, Cond.initialized RX9, Cond.code yX9_findContacts cX9_findContacts 1 none, Cond.fieldLink RX9 29 "TouchTracker" "regionMap" "LTouchTracker$Regions;", Cond.fieldLink RX9 12 "TouchTracker" "state" "LTouchTracker$State;", Cond.methodLink RX9 176 yX5_find, Cond.instanceMethod yX5_find, Cond.selects RX5 yX5_find yX5_find, Cond.initialized RX5, Cond.code yX5_find cX5_find 4 none, Cond.fieldLink RX5 26 "TouchTracker$Regions" "palm" "I", Cond.fieldLink RX5 30 "TouchTracker$Regions" "sharp" "I", Cond.fieldLink RX5 9 "TouchTracker$Regions" "regionOf" "[I", Cond.methodLink RX5 37 yX4_signalOf, Cond.instanceMethod yX4_signalOf, Cond.selects RX4 yX4_signalOf yX4_signalOf, Cond.initialized RX4, Cond.code yX4_signalOf cX4_signalOf 3 (some .int), Cond.fieldLink RX4 9 "TouchTracker$Panel" "raws" "[I", Cond.fieldLink RX4 15 "TouchTracker$Panel" "baselines" "[I", Cond.methodLink RX5 43 yX5_joinAll]
def wsX9_contacts_r2 : List Cond := [Cond.instanceMethod yX5_joinAll, Cond.selects RX5 yX5_joinAll yX5_joinAll, Cond.code yX5_joinAll cX5_joinAll 3 (some .boolean), Cond.methodLink RX5 51 yX5_join, Cond.instanceMethod yX5_join, Cond.selects RX5 yX5_join yX5_join, Cond.code yX5_join cX5_join 5 (some .boolean), Cond.static yX9_isCell, Cond.code yX9_isCell cX9_isCell 1 (some .boolean), Cond.methodLink RX5 47 yX5_measure, Cond.instanceMethod yX5_measure, Cond.selects RX5 yX5_measure yX5_measure, Cond.code yX5_measure cX5_measure 5 none, Cond.fieldLink RX5 15 "TouchTracker$Regions" "sizes" "[I", Cond.fieldLink RX5 18 "TouchTracker$Regions" "greatest" "[I", Cond.methodLink RX9 268 yX1_find, Cond.instanceMethod yX1_find, Cond.selects RX1 yX1_find yX1_find, Cond.initialized RX1, Cond.code yX1_find cX1_find 5 none, Cond.fieldLink RX1 9 "TouchTracker$Contacts" "candidates" "[I", Cond.fieldLink RX1 41 "TouchTracker$Contacts" "count" "I", Cond.methodLink RX1 27 yX5_kindAround, Cond.instanceMethod yX5_kindAround]
def wsX9_contacts_r3 : List Cond := [Cond.selects RX5 yX5_kindAround yX5_kindAround, Cond.code yX5_kindAround cX5_kindAround 3 (some .int), Cond.methodLink RX1 33 yX1_isPeak, Cond.static yX1_isPeak, Cond.code yX1_isPeak cX1_isPeak 7 (some .boolean), Cond.methodLink RX1 52 yX4_signalOf, Cond.methodLink RX1 57 yX4_signalAt, Cond.instanceMethod yX4_signalAt, Cond.selects RX4 yX4_signalAt yX4_signalAt, Cond.code yX4_signalAt cX4_signalAt 3 (some .int), Cond.static yX9_isOnPanel, Cond.code yX9_isOnPanel cX9_isOnPanel 2 (some .boolean), Cond.static yX9_cellAt, Cond.code yX9_cellAt cX9_cellAt 2 (some .int), Cond.methodLink RX4 30 yX4_signalOf, Cond.methodLink RX1 37 yX1_massAround, Cond.static yX1_massAround, Cond.code yX1_massAround cX1_massAround 5 (some .int), Cond.methodLink RX1 45 yX1_heavierThan, Cond.instanceMethod yX1_heavierThan, Cond.selects RX1 yX1_heavierThan yX1_heavierThan, Cond.code yX1_heavierThan cX1_heavierThan 5 (some .int), Cond.methodLink RX1 48 yX1_add, Cond.instanceMethod yX1_add]
def wsX9_contacts_r4 : List Cond := [Cond.selects RX1 yX1_add yX1_add, Cond.code yX1_add cX1_add 11 none, Cond.fieldLink RX1 15 "TouchTracker$Contacts" "rows" "[I", Cond.fieldLink RX1 18 "TouchTracker$Contacts" "columns" "[I", Cond.fieldLink RX1 21 "TouchTracker$Contacts" "masses" "[I", Cond.fieldLink RX1 24 "TouchTracker$Contacts" "peaks" "[I"]
def wsX9_contacts : List Cond := .code yX9_contacts cX9_contacts 1 (some .int) :: ((wsX9_contacts_r1 ++ (wsX9_contacts_r2 ++ (wsX9_contacts_r3 ++ wsX9_contacts_r4))) ++ wsX90 ++ wsX10 ++ wsX60 ++ wsX50 ++ wsX40)
def wsX9_requireContactNumber : List Cond := .code yX9_requireContactNumber cX9_requireContactNumber 1 none :: ([.classLink RX9 255 "java/lang/IndexOutOfBoundsException", .initialized "java/lang/IndexOutOfBoundsException"] ++ (vx_atS RX9 259 "java/lang/IndexOutOfBoundsException" ["java/lang/RuntimeException", "java/lang/Exception"]).filter goodWord)
def wsX9_requirePart : List Cond := .code yX9_requirePart cX9_requirePart 1 none :: ([.classLink RX9 65 "java/lang/IllegalArgumentException", .initialized "java/lang/IllegalArgumentException"] ++ (vx_atS RX9 69 "java/lang/IllegalArgumentException" ["java/lang/RuntimeException", "java/lang/Exception"]).filter goodWord)
def wsX9_contact_r1 : List Cond := [Cond.fieldLink RX9 36 "TouchTracker" "contactList" "LTouchTracker$Contacts;", Cond.methodLink RX9 194 yX9_requireContactNumber, Cond.static yX9_requireContactNumber, Cond.initialized RX9, Cond.code yX9_requireContactNumber cX9_requireContactNumber 1 none, Cond.classLink RX9 255 "java/lang/IndexOutOfBoundsException", Cond.initialized "java/lang/IndexOutOfBoundsException", Cond.methodLink RX9 197 yX9_requirePart, Cond.static yX9_requirePart, Cond.code yX9_requirePart cX9_requirePart 1 none, Cond.classLink RX9 65 "java/lang/IllegalArgumentException", Cond.initialized "java/lang/IllegalArgumentException", Cond.methodLink RX9 190 yX9_findContacts, Cond.instanceMethod yX9_findContacts, Cond.selects RX9 yX9_findContacts yX9_findContacts, Cond.code yX9_findContacts cX9_findContacts 1 none, Cond.fieldLink RX9 29 "TouchTracker" "regionMap" "LTouchTracker$Regions;", Cond.fieldLink RX9 12 "TouchTracker" "state" "LTouchTracker$State;", Cond.methodLink RX9 176 yX5_find, Cond.instanceMethod yX5_find, Cond.selects RX5 yX5_find yX5_find, Cond.initialized RX5, Cond.code yX5_find cX5_find 4 none, Cond.fieldLink RX5 26 "TouchTracker$Regions" "palm" "I"]
def wsX9_contact_r2 : List Cond := [Cond.fieldLink RX5 30 "TouchTracker$Regions" "sharp" "I", Cond.fieldLink RX5 9 "TouchTracker$Regions" "regionOf" "[I", Cond.methodLink RX5 37 yX4_signalOf, Cond.instanceMethod yX4_signalOf, Cond.selects RX4 yX4_signalOf yX4_signalOf, Cond.initialized RX4, Cond.code yX4_signalOf cX4_signalOf 3 (some .int), Cond.fieldLink RX4 9 "TouchTracker$Panel" "raws" "[I", Cond.fieldLink RX4 15 "TouchTracker$Panel" "baselines" "[I", Cond.methodLink RX5 43 yX5_joinAll, Cond.instanceMethod yX5_joinAll, Cond.selects RX5 yX5_joinAll yX5_joinAll, Cond.code yX5_joinAll cX5_joinAll 3 (some .boolean), Cond.methodLink RX5 51 yX5_join, Cond.instanceMethod yX5_join, Cond.selects RX5 yX5_join yX5_join, Cond.code yX5_join cX5_join 5 (some .boolean), Cond.static yX9_isCell, Cond.code yX9_isCell cX9_isCell 1 (some .boolean), Cond.methodLink RX5 47 yX5_measure, Cond.instanceMethod yX5_measure, Cond.selects RX5 yX5_measure yX5_measure, Cond.code yX5_measure cX5_measure 5 none, Cond.fieldLink RX5 15 "TouchTracker$Regions" "sizes" "[I"]
def wsX9_contact_r3 : List Cond := [Cond.fieldLink RX5 18 "TouchTracker$Regions" "greatest" "[I", Cond.methodLink RX9 268 yX1_find, Cond.instanceMethod yX1_find, Cond.selects RX1 yX1_find yX1_find, Cond.initialized RX1, Cond.code yX1_find cX1_find 5 none, Cond.fieldLink RX1 9 "TouchTracker$Contacts" "candidates" "[I", Cond.fieldLink RX1 41 "TouchTracker$Contacts" "count" "I", Cond.methodLink RX1 27 yX5_kindAround, Cond.instanceMethod yX5_kindAround, Cond.selects RX5 yX5_kindAround yX5_kindAround, Cond.code yX5_kindAround cX5_kindAround 3 (some .int), Cond.methodLink RX1 33 yX1_isPeak, Cond.static yX1_isPeak, Cond.code yX1_isPeak cX1_isPeak 7 (some .boolean), Cond.methodLink RX1 52 yX4_signalOf, Cond.methodLink RX1 57 yX4_signalAt, Cond.instanceMethod yX4_signalAt, Cond.selects RX4 yX4_signalAt yX4_signalAt, Cond.code yX4_signalAt cX4_signalAt 3 (some .int), Cond.static yX9_isOnPanel, Cond.code yX9_isOnPanel cX9_isOnPanel 2 (some .boolean), Cond.static yX9_cellAt, Cond.code yX9_cellAt cX9_cellAt 2 (some .int)]
def wsX9_contact_r4 : List Cond := [Cond.methodLink RX4 30 yX4_signalOf, Cond.methodLink RX1 37 yX1_massAround, Cond.static yX1_massAround, Cond.code yX1_massAround cX1_massAround 5 (some .int), Cond.methodLink RX1 45 yX1_heavierThan, Cond.instanceMethod yX1_heavierThan, Cond.selects RX1 yX1_heavierThan yX1_heavierThan, Cond.code yX1_heavierThan cX1_heavierThan 5 (some .int), Cond.methodLink RX1 48 yX1_add, Cond.instanceMethod yX1_add, Cond.selects RX1 yX1_add yX1_add, Cond.code yX1_add cX1_add 11 none, Cond.fieldLink RX1 15 "TouchTracker$Contacts" "rows" "[I", Cond.fieldLink RX1 18 "TouchTracker$Contacts" "columns" "[I", Cond.fieldLink RX1 21 "TouchTracker$Contacts" "masses" "[I", Cond.fieldLink RX1 24 "TouchTracker$Contacts" "peaks" "[I", Cond.methodLink RX9 200 yX1_partOf, Cond.instanceMethod yX1_partOf, Cond.selects RX1 yX1_partOf yX1_partOf, Cond.code yX1_partOf cX1_partOf 3 (some .int), Cond.methodLink RX1 68 yX1_isContact, Cond.instanceMethod yX1_isContact, Cond.selects RX1 yX1_isContact yX1_isContact, Cond.code yX1_isContact cX1_isContact 2 (some .boolean)]
def wsX9_contact : List Cond := .code yX9_contact cX9_contact 3 (some .int) :: ((wsX9_contact_r1 ++ (wsX9_contact_r2 ++ (wsX9_contact_r3 ++ wsX9_contact_r4))) ++ wsX90 ++ wsX60 ++ wsX50 ++ wsX40 ++ wsX10 ++ (vx_atS RX9 259 "java/lang/IndexOutOfBoundsException" ["java/lang/RuntimeException", "java/lang/Exception"]).filter goodWord ++ (vx_atS RX9 69 "java/lang/IllegalArgumentException" ["java/lang/RuntimeException", "java/lang/Exception"]).filter goodWord)
def wsX9_requireTrack : List Cond := .code yX9_requireTrack cX9_requireTrack 1 none :: ([.classLink RX9 255 "java/lang/IndexOutOfBoundsException", .initialized "java/lang/IndexOutOfBoundsException"] ++ (vx_atS RX9 259 "java/lang/IndexOutOfBoundsException" ["java/lang/RuntimeException", "java/lang/Exception"]).filter goodWord)
def wsX9_isDown : List Cond := .code yX9_isDown cX9_isDown 2 (some .boolean) :: ([.fieldLink RX9 12 "TouchTracker" "state" "LTouchTracker$State;", .methodLink RX9 203 yX9_requireTrack, .static yX9_requireTrack, .initialized RX9, .code yX9_requireTrack cX9_requireTrack 1 none, .classLink RX9 255 "java/lang/IndexOutOfBoundsException", .initialized "java/lang/IndexOutOfBoundsException"] ++ wsX90 ++ wsX60 ++ wsX80 ++ (vx_atS RX9 259 "java/lang/IndexOutOfBoundsException" ["java/lang/RuntimeException", "java/lang/Exception"]).filter goodWord)
def wsX9_track : List Cond := .code yX9_track cX9_track 3 (some .int) :: ([.fieldLink RX9 12 "TouchTracker" "state" "LTouchTracker$State;", .methodLink RX9 203 yX9_requireTrack, .static yX9_requireTrack, .initialized RX9, .code yX9_requireTrack cX9_requireTrack 1 none, .classLink RX9 255 "java/lang/IndexOutOfBoundsException", .initialized "java/lang/IndexOutOfBoundsException", .methodLink RX9 197 yX9_requirePart, .static yX9_requirePart, .code yX9_requirePart cX9_requirePart 1 none, .classLink RX9 65 "java/lang/IllegalArgumentException", .initialized "java/lang/IllegalArgumentException", .methodLink RX9 216 yX8_partOf, .instanceMethod yX8_partOf, .selects RX8 yX8_partOf yX8_partOf, .initialized RX8, .code yX8_partOf cX8_partOf 2 (some .int), .fieldLink RX8 9 "TouchTracker$Track" "down" "Z", .fieldLink RX8 15 "TouchTracker$Track" "row" "I", .fieldLink RX8 19 "TouchTracker$Track" "column" "I", .fieldLink RX8 22 "TouchTracker$Track" "age" "I", .fieldLink RX8 25 "TouchTracker$Track" "missed" "I"] ++ wsX90 ++ wsX60 ++ wsX80 ++ (vx_atS RX9 259 "java/lang/IndexOutOfBoundsException" ["java/lang/RuntimeException", "java/lang/Exception"]).filter goodWord ++ (vx_atS RX9 69 "java/lang/IllegalArgumentException" ["java/lang/RuntimeException", "java/lang/Exception"]).filter goodWord)
def wsX9_squaredDistance_r1 : List Cond := [Cond.fieldLink RX9 12 "TouchTracker" "state" "LTouchTracker$State;", Cond.fieldLink RX9 36 "TouchTracker" "contactList" "LTouchTracker$Contacts;", Cond.methodLink RX9 203 yX9_requireTrack, Cond.static yX9_requireTrack, Cond.initialized RX9, Cond.code yX9_requireTrack cX9_requireTrack 1 none, Cond.classLink RX9 255 "java/lang/IndexOutOfBoundsException", Cond.initialized "java/lang/IndexOutOfBoundsException", Cond.methodLink RX9 194 yX9_requireContactNumber, Cond.static yX9_requireContactNumber, Cond.code yX9_requireContactNumber cX9_requireContactNumber 1 none, Cond.methodLink RX9 190 yX9_findContacts, Cond.instanceMethod yX9_findContacts, Cond.selects RX9 yX9_findContacts yX9_findContacts, Cond.code yX9_findContacts cX9_findContacts 1 none, Cond.fieldLink RX9 29 "TouchTracker" "regionMap" "LTouchTracker$Regions;", Cond.methodLink RX9 176 yX5_find, Cond.instanceMethod yX5_find, Cond.selects RX5 yX5_find yX5_find, Cond.initialized RX5, Cond.code yX5_find cX5_find 4 none, Cond.fieldLink RX5 26 "TouchTracker$Regions" "palm" "I", Cond.fieldLink RX5 30 "TouchTracker$Regions" "sharp" "I", Cond.fieldLink RX5 9 "TouchTracker$Regions" "regionOf" "[I"]
def wsX9_squaredDistance_r2 : List Cond := [Cond.methodLink RX5 37 yX4_signalOf, Cond.instanceMethod yX4_signalOf, Cond.selects RX4 yX4_signalOf yX4_signalOf, Cond.initialized RX4, Cond.code yX4_signalOf cX4_signalOf 3 (some .int), Cond.fieldLink RX4 9 "TouchTracker$Panel" "raws" "[I", Cond.fieldLink RX4 15 "TouchTracker$Panel" "baselines" "[I", Cond.methodLink RX5 43 yX5_joinAll, Cond.instanceMethod yX5_joinAll, Cond.selects RX5 yX5_joinAll yX5_joinAll, Cond.code yX5_joinAll cX5_joinAll 3 (some .boolean), Cond.methodLink RX5 51 yX5_join, Cond.instanceMethod yX5_join, Cond.selects RX5 yX5_join yX5_join, Cond.code yX5_join cX5_join 5 (some .boolean), Cond.static yX9_isCell, Cond.code yX9_isCell cX9_isCell 1 (some .boolean), Cond.methodLink RX5 47 yX5_measure, Cond.instanceMethod yX5_measure, Cond.selects RX5 yX5_measure yX5_measure, Cond.code yX5_measure cX5_measure 5 none, Cond.fieldLink RX5 15 "TouchTracker$Regions" "sizes" "[I", Cond.fieldLink RX5 18 "TouchTracker$Regions" "greatest" "[I", Cond.methodLink RX9 268 yX1_find]
def wsX9_squaredDistance_r3 : List Cond := [Cond.instanceMethod yX1_find, Cond.selects RX1 yX1_find yX1_find, Cond.initialized RX1, Cond.code yX1_find cX1_find 5 none, Cond.fieldLink RX1 9 "TouchTracker$Contacts" "candidates" "[I", Cond.fieldLink RX1 41 "TouchTracker$Contacts" "count" "I", Cond.methodLink RX1 27 yX5_kindAround, Cond.instanceMethod yX5_kindAround, Cond.selects RX5 yX5_kindAround yX5_kindAround, Cond.code yX5_kindAround cX5_kindAround 3 (some .int), Cond.methodLink RX1 33 yX1_isPeak, Cond.static yX1_isPeak, Cond.code yX1_isPeak cX1_isPeak 7 (some .boolean), Cond.methodLink RX1 52 yX4_signalOf, Cond.methodLink RX1 57 yX4_signalAt, Cond.instanceMethod yX4_signalAt, Cond.selects RX4 yX4_signalAt yX4_signalAt, Cond.code yX4_signalAt cX4_signalAt 3 (some .int), Cond.static yX9_isOnPanel, Cond.code yX9_isOnPanel cX9_isOnPanel 2 (some .boolean), Cond.static yX9_cellAt, Cond.code yX9_cellAt cX9_cellAt 2 (some .int), Cond.methodLink RX4 30 yX4_signalOf, Cond.methodLink RX1 37 yX1_massAround]
def wsX9_squaredDistance_r4 : List Cond := [Cond.static yX1_massAround, Cond.code yX1_massAround cX1_massAround 5 (some .int), Cond.methodLink RX1 45 yX1_heavierThan, Cond.instanceMethod yX1_heavierThan, Cond.selects RX1 yX1_heavierThan yX1_heavierThan, Cond.code yX1_heavierThan cX1_heavierThan 5 (some .int), Cond.methodLink RX1 48 yX1_add, Cond.instanceMethod yX1_add, Cond.selects RX1 yX1_add yX1_add, Cond.code yX1_add cX1_add 11 none, Cond.fieldLink RX1 15 "TouchTracker$Contacts" "rows" "[I", Cond.fieldLink RX1 18 "TouchTracker$Contacts" "columns" "[I", Cond.fieldLink RX1 21 "TouchTracker$Contacts" "masses" "[I", Cond.fieldLink RX1 24 "TouchTracker$Contacts" "peaks" "[I", Cond.methodLink RX9 218 yX1_rowOf, Cond.instanceMethod yX1_rowOf, Cond.selects RX1 yX1_rowOf yX1_rowOf, Cond.code yX1_rowOf cX1_rowOf 2 (some .int), Cond.methodLink RX1 68 yX1_isContact, Cond.instanceMethod yX1_isContact, Cond.selects RX1 yX1_isContact yX1_isContact, Cond.code yX1_isContact cX1_isContact 2 (some .boolean), Cond.methodLink RX9 221 yX1_columnOf, Cond.instanceMethod yX1_columnOf]
def wsX9_squaredDistance_r5 : List Cond := [Cond.selects RX1 yX1_columnOf yX1_columnOf, Cond.code yX1_columnOf cX1_columnOf 2 (some .int), Cond.methodLink RX9 224 yX8_squaredWayTo, Cond.instanceMethod yX8_squaredWayTo, Cond.selects RX8 yX8_squaredWayTo yX8_squaredWayTo, Cond.initialized RX8, Cond.code yX8_squaredWayTo cX8_squaredWayTo 5 (some .int), Cond.fieldLink RX8 15 "TouchTracker$Track" "row" "I", Cond.fieldLink RX8 19 "TouchTracker$Track" "column" "I"]
def wsX9_squaredDistance : List Cond := .code yX9_squaredDistance cX9_squaredDistance 3 (some .int) :: ((wsX9_squaredDistance_r1 ++ (wsX9_squaredDistance_r2 ++ (wsX9_squaredDistance_r3 ++ (wsX9_squaredDistance_r4 ++ wsX9_squaredDistance_r5)))) ++ wsX90 ++ wsX60 ++ wsX80 ++ wsX10 ++ wsX50 ++ wsX40 ++ (vx_atS RX9 259 "java/lang/IndexOutOfBoundsException" ["java/lang/RuntimeException", "java/lang/Exception"]).filter goodWord)
def wsX9_findMatching_r1 : List Cond := [Cond.fieldLink RX9 43 "TouchTracker" "matching" "LTouchTracker$Matching;", Cond.fieldLink RX9 12 "TouchTracker" "state" "LTouchTracker$State;", Cond.fieldLink RX9 36 "TouchTracker" "contactList" "LTouchTracker$Contacts;", Cond.methodLink RX9 190 yX9_findContacts, Cond.instanceMethod yX9_findContacts, Cond.selects RX9 yX9_findContacts yX9_findContacts, Cond.initialized RX9, Cond.code yX9_findContacts cX9_findContacts 1 none, Cond.fieldLink RX9 29 "TouchTracker" "regionMap" "LTouchTracker$Regions;", Cond.methodLink RX9 176 yX5_find, Cond.instanceMethod yX5_find, Cond.selects RX5 yX5_find yX5_find, Cond.initialized RX5, Cond.code yX5_find cX5_find 4 none, Cond.fieldLink RX5 26 "TouchTracker$Regions" "palm" "I", Cond.fieldLink RX5 30 "TouchTracker$Regions" "sharp" "I", Cond.fieldLink RX5 9 "TouchTracker$Regions" "regionOf" "[I", Cond.methodLink RX5 37 yX4_signalOf, Cond.instanceMethod yX4_signalOf, Cond.selects RX4 yX4_signalOf yX4_signalOf, Cond.initialized RX4, Cond.code yX4_signalOf cX4_signalOf 3 (some .int), Cond.fieldLink RX4 9 "TouchTracker$Panel" "raws" "[I", Cond.fieldLink RX4 15 "TouchTracker$Panel" "baselines" "[I"]
def wsX9_findMatching_r2 : List Cond := [Cond.methodLink RX5 43 yX5_joinAll, Cond.instanceMethod yX5_joinAll, Cond.selects RX5 yX5_joinAll yX5_joinAll, Cond.code yX5_joinAll cX5_joinAll 3 (some .boolean), Cond.methodLink RX5 51 yX5_join, Cond.instanceMethod yX5_join, Cond.selects RX5 yX5_join yX5_join, Cond.code yX5_join cX5_join 5 (some .boolean), Cond.static yX9_isCell, Cond.code yX9_isCell cX9_isCell 1 (some .boolean), Cond.methodLink RX5 47 yX5_measure, Cond.instanceMethod yX5_measure, Cond.selects RX5 yX5_measure yX5_measure, Cond.code yX5_measure cX5_measure 5 none, Cond.fieldLink RX5 15 "TouchTracker$Regions" "sizes" "[I", Cond.fieldLink RX5 18 "TouchTracker$Regions" "greatest" "[I", Cond.methodLink RX9 268 yX1_find, Cond.instanceMethod yX1_find, Cond.selects RX1 yX1_find yX1_find, Cond.initialized RX1, Cond.code yX1_find cX1_find 5 none, Cond.fieldLink RX1 9 "TouchTracker$Contacts" "candidates" "[I", Cond.fieldLink RX1 41 "TouchTracker$Contacts" "count" "I", Cond.methodLink RX1 27 yX5_kindAround]
def wsX9_findMatching_r3 : List Cond := [Cond.instanceMethod yX5_kindAround, Cond.selects RX5 yX5_kindAround yX5_kindAround, Cond.code yX5_kindAround cX5_kindAround 3 (some .int), Cond.methodLink RX1 33 yX1_isPeak, Cond.static yX1_isPeak, Cond.code yX1_isPeak cX1_isPeak 7 (some .boolean), Cond.methodLink RX1 52 yX4_signalOf, Cond.methodLink RX1 57 yX4_signalAt, Cond.instanceMethod yX4_signalAt, Cond.selects RX4 yX4_signalAt yX4_signalAt, Cond.code yX4_signalAt cX4_signalAt 3 (some .int), Cond.static yX9_isOnPanel, Cond.code yX9_isOnPanel cX9_isOnPanel 2 (some .boolean), Cond.static yX9_cellAt, Cond.code yX9_cellAt cX9_cellAt 2 (some .int), Cond.methodLink RX4 30 yX4_signalOf, Cond.methodLink RX1 37 yX1_massAround, Cond.static yX1_massAround, Cond.code yX1_massAround cX1_massAround 5 (some .int), Cond.methodLink RX1 45 yX1_heavierThan, Cond.instanceMethod yX1_heavierThan, Cond.selects RX1 yX1_heavierThan yX1_heavierThan, Cond.code yX1_heavierThan cX1_heavierThan 5 (some .int), Cond.methodLink RX1 48 yX1_add]
def wsX9_findMatching_r4 : List Cond := [Cond.instanceMethod yX1_add, Cond.selects RX1 yX1_add yX1_add, Cond.code yX1_add cX1_add 11 none, Cond.fieldLink RX1 15 "TouchTracker$Contacts" "rows" "[I", Cond.fieldLink RX1 18 "TouchTracker$Contacts" "columns" "[I", Cond.fieldLink RX1 21 "TouchTracker$Contacts" "masses" "[I", Cond.fieldLink RX1 24 "TouchTracker$Contacts" "peaks" "[I", Cond.methodLink RX9 271 yX3_find, Cond.instanceMethod yX3_find, Cond.selects RX3 yX3_find yX3_find, Cond.initialized RX3, Cond.code yX3_find cX3_find 7 none, Cond.fieldLink RX3 32 "TouchTracker$Matching" "count" "I", Cond.fieldLink RX3 16 "TouchTracker$Matching" "noneCosts" "[I", Cond.fieldLink RX3 11 "TouchTracker$Matching" "pairCosts" "[[I", Cond.fieldLink RX3 20 "TouchTracker$Matching" "leastCosts" "[[I", Cond.methodLink RX3 48 yX3_pairCost, Cond.static yX3_pairCost, Cond.code yX3_pairCost cX3_pairCost 5 (some .int), Cond.methodLink RX3 59 yX1_rowOf, Cond.instanceMethod yX1_rowOf, Cond.selects RX1 yX1_rowOf yX1_rowOf, Cond.code yX1_rowOf cX1_rowOf 2 (some .int), Cond.methodLink RX1 68 yX1_isContact]
def wsX9_findMatching_r5 : List Cond := [Cond.instanceMethod yX1_isContact, Cond.selects RX1 yX1_isContact yX1_isContact, Cond.code yX1_isContact cX1_isContact 2 (some .boolean), Cond.methodLink RX3 63 yX1_columnOf, Cond.instanceMethod yX1_columnOf, Cond.selects RX1 yX1_columnOf yX1_columnOf, Cond.code yX1_columnOf cX1_columnOf 2 (some .int), Cond.methodLink RX3 66 yX8_squaredWayTo, Cond.instanceMethod yX8_squaredWayTo, Cond.selects RX8 yX8_squaredWayTo yX8_squaredWayTo, Cond.initialized RX8, Cond.code yX8_squaredWayTo cX8_squaredWayTo 5 (some .int), Cond.fieldLink RX8 15 "TouchTracker$Track" "row" "I", Cond.fieldLink RX8 19 "TouchTracker$Track" "column" "I", Cond.methodLink RX3 52 yX3_leastCost, Cond.instanceMethod yX3_leastCost, Cond.selects RX3 yX3_leastCost yX3_leastCost, Cond.code yX3_leastCost cX3_leastCost 6 (some .int), Cond.methodLink RX3 69 yX3_canTake, Cond.instanceMethod yX3_canTake, Cond.selects RX3 yX3_canTake yX3_canTake, Cond.code yX3_canTake cX3_canTake 4 (some .boolean), Cond.methodLink RX3 73 yX3_costWith, Cond.instanceMethod yX3_costWith]
def wsX9_findMatching_r6 : List Cond := [Cond.selects RX3 yX3_costWith yX3_costWith, Cond.code yX3_costWith cX3_costWith 4 (some .int), Cond.methodLink RX3 56 yX3_assign, Cond.instanceMethod yX3_assign, Cond.selects RX3 yX3_assign yX3_assign, Cond.code yX3_assign cX3_assign 2 none, Cond.fieldLink RX3 77 "TouchTracker$Matching" "taken" "I", Cond.fieldLink RX3 23 "TouchTracker$Matching" "assigned" "[I", Cond.methodLink RX3 80 yX3_firstBest, Cond.instanceMethod yX3_firstBest, Cond.selects RX3 yX3_firstBest yX3_firstBest, Cond.code yX3_firstBest cX3_firstBest 4 (some .int)]
def wsX9_findMatching : List Cond := .code yX9_findMatching cX9_findMatching 1 none :: ((wsX9_findMatching_r1 ++ (wsX9_findMatching_r2 ++ (wsX9_findMatching_r3 ++ (wsX9_findMatching_r4 ++ (wsX9_findMatching_r5 ++ wsX9_findMatching_r6))))) ++ wsX90 ++ wsX60 ++ wsX50 ++ wsX40 ++ wsX10 ++ wsX30 ++ wsX80)
def wsX9_match_r1 : List Cond := [Cond.fieldLink RX9 43 "TouchTracker" "matching" "LTouchTracker$Matching;", Cond.methodLink RX9 203 yX9_requireTrack, Cond.static yX9_requireTrack, Cond.initialized RX9, Cond.code yX9_requireTrack cX9_requireTrack 1 none, Cond.classLink RX9 255 "java/lang/IndexOutOfBoundsException", Cond.initialized "java/lang/IndexOutOfBoundsException", Cond.methodLink RX9 227 yX9_findMatching, Cond.instanceMethod yX9_findMatching, Cond.selects RX9 yX9_findMatching yX9_findMatching, Cond.code yX9_findMatching cX9_findMatching 1 none, Cond.fieldLink RX9 12 "TouchTracker" "state" "LTouchTracker$State;", Cond.fieldLink RX9 36 "TouchTracker" "contactList" "LTouchTracker$Contacts;", Cond.methodLink RX9 190 yX9_findContacts, Cond.instanceMethod yX9_findContacts, Cond.selects RX9 yX9_findContacts yX9_findContacts, Cond.code yX9_findContacts cX9_findContacts 1 none, Cond.fieldLink RX9 29 "TouchTracker" "regionMap" "LTouchTracker$Regions;", Cond.methodLink RX9 176 yX5_find, Cond.instanceMethod yX5_find, Cond.selects RX5 yX5_find yX5_find, Cond.initialized RX5, Cond.code yX5_find cX5_find 4 none, Cond.fieldLink RX5 26 "TouchTracker$Regions" "palm" "I"]
def wsX9_match_r2 : List Cond := [Cond.fieldLink RX5 30 "TouchTracker$Regions" "sharp" "I", Cond.fieldLink RX5 9 "TouchTracker$Regions" "regionOf" "[I", Cond.methodLink RX5 37 yX4_signalOf, Cond.instanceMethod yX4_signalOf, Cond.selects RX4 yX4_signalOf yX4_signalOf, Cond.initialized RX4, Cond.code yX4_signalOf cX4_signalOf 3 (some .int), Cond.fieldLink RX4 9 "TouchTracker$Panel" "raws" "[I", Cond.fieldLink RX4 15 "TouchTracker$Panel" "baselines" "[I", Cond.methodLink RX5 43 yX5_joinAll, Cond.instanceMethod yX5_joinAll, Cond.selects RX5 yX5_joinAll yX5_joinAll, Cond.code yX5_joinAll cX5_joinAll 3 (some .boolean), Cond.methodLink RX5 51 yX5_join, Cond.instanceMethod yX5_join, Cond.selects RX5 yX5_join yX5_join, Cond.code yX5_join cX5_join 5 (some .boolean), Cond.static yX9_isCell, Cond.code yX9_isCell cX9_isCell 1 (some .boolean), Cond.methodLink RX5 47 yX5_measure, Cond.instanceMethod yX5_measure, Cond.selects RX5 yX5_measure yX5_measure, Cond.code yX5_measure cX5_measure 5 none, Cond.fieldLink RX5 15 "TouchTracker$Regions" "sizes" "[I"]
def wsX9_match_r3 : List Cond := [Cond.fieldLink RX5 18 "TouchTracker$Regions" "greatest" "[I", Cond.methodLink RX9 268 yX1_find, Cond.instanceMethod yX1_find, Cond.selects RX1 yX1_find yX1_find, Cond.initialized RX1, Cond.code yX1_find cX1_find 5 none, Cond.fieldLink RX1 9 "TouchTracker$Contacts" "candidates" "[I", Cond.fieldLink RX1 41 "TouchTracker$Contacts" "count" "I", Cond.methodLink RX1 27 yX5_kindAround, Cond.instanceMethod yX5_kindAround, Cond.selects RX5 yX5_kindAround yX5_kindAround, Cond.code yX5_kindAround cX5_kindAround 3 (some .int), Cond.methodLink RX1 33 yX1_isPeak, Cond.static yX1_isPeak, Cond.code yX1_isPeak cX1_isPeak 7 (some .boolean), Cond.methodLink RX1 52 yX4_signalOf, Cond.methodLink RX1 57 yX4_signalAt, Cond.instanceMethod yX4_signalAt, Cond.selects RX4 yX4_signalAt yX4_signalAt, Cond.code yX4_signalAt cX4_signalAt 3 (some .int), Cond.static yX9_isOnPanel, Cond.code yX9_isOnPanel cX9_isOnPanel 2 (some .boolean), Cond.static yX9_cellAt, Cond.code yX9_cellAt cX9_cellAt 2 (some .int)]
def wsX9_match_r4 : List Cond := [Cond.methodLink RX4 30 yX4_signalOf, Cond.methodLink RX1 37 yX1_massAround, Cond.static yX1_massAround, Cond.code yX1_massAround cX1_massAround 5 (some .int), Cond.methodLink RX1 45 yX1_heavierThan, Cond.instanceMethod yX1_heavierThan, Cond.selects RX1 yX1_heavierThan yX1_heavierThan, Cond.code yX1_heavierThan cX1_heavierThan 5 (some .int), Cond.methodLink RX1 48 yX1_add, Cond.instanceMethod yX1_add, Cond.selects RX1 yX1_add yX1_add, Cond.code yX1_add cX1_add 11 none, Cond.fieldLink RX1 15 "TouchTracker$Contacts" "rows" "[I", Cond.fieldLink RX1 18 "TouchTracker$Contacts" "columns" "[I", Cond.fieldLink RX1 21 "TouchTracker$Contacts" "masses" "[I", Cond.fieldLink RX1 24 "TouchTracker$Contacts" "peaks" "[I", Cond.methodLink RX9 271 yX3_find, Cond.instanceMethod yX3_find, Cond.selects RX3 yX3_find yX3_find, Cond.initialized RX3, Cond.code yX3_find cX3_find 7 none, Cond.fieldLink RX3 32 "TouchTracker$Matching" "count" "I", Cond.fieldLink RX3 16 "TouchTracker$Matching" "noneCosts" "[I", Cond.fieldLink RX3 11 "TouchTracker$Matching" "pairCosts" "[[I"]
def wsX9_match_r5 : List Cond := [Cond.fieldLink RX3 20 "TouchTracker$Matching" "leastCosts" "[[I", Cond.methodLink RX3 48 yX3_pairCost, Cond.static yX3_pairCost, Cond.code yX3_pairCost cX3_pairCost 5 (some .int), Cond.methodLink RX3 59 yX1_rowOf, Cond.instanceMethod yX1_rowOf, Cond.selects RX1 yX1_rowOf yX1_rowOf, Cond.code yX1_rowOf cX1_rowOf 2 (some .int), Cond.methodLink RX1 68 yX1_isContact, Cond.instanceMethod yX1_isContact, Cond.selects RX1 yX1_isContact yX1_isContact, Cond.code yX1_isContact cX1_isContact 2 (some .boolean), Cond.methodLink RX3 63 yX1_columnOf, Cond.instanceMethod yX1_columnOf, Cond.selects RX1 yX1_columnOf yX1_columnOf, Cond.code yX1_columnOf cX1_columnOf 2 (some .int), Cond.methodLink RX3 66 yX8_squaredWayTo, Cond.instanceMethod yX8_squaredWayTo, Cond.selects RX8 yX8_squaredWayTo yX8_squaredWayTo, Cond.initialized RX8, Cond.code yX8_squaredWayTo cX8_squaredWayTo 5 (some .int), Cond.fieldLink RX8 15 "TouchTracker$Track" "row" "I", Cond.fieldLink RX8 19 "TouchTracker$Track" "column" "I", Cond.methodLink RX3 52 yX3_leastCost]
def wsX9_match_r6 : List Cond := [Cond.instanceMethod yX3_leastCost, Cond.selects RX3 yX3_leastCost yX3_leastCost, Cond.code yX3_leastCost cX3_leastCost 6 (some .int), Cond.methodLink RX3 69 yX3_canTake, Cond.instanceMethod yX3_canTake, Cond.selects RX3 yX3_canTake yX3_canTake, Cond.code yX3_canTake cX3_canTake 4 (some .boolean), Cond.methodLink RX3 73 yX3_costWith, Cond.instanceMethod yX3_costWith, Cond.selects RX3 yX3_costWith yX3_costWith, Cond.code yX3_costWith cX3_costWith 4 (some .int), Cond.methodLink RX3 56 yX3_assign, Cond.instanceMethod yX3_assign, Cond.selects RX3 yX3_assign yX3_assign, Cond.code yX3_assign cX3_assign 2 none, Cond.fieldLink RX3 77 "TouchTracker$Matching" "taken" "I", Cond.fieldLink RX3 23 "TouchTracker$Matching" "assigned" "[I", Cond.methodLink RX3 80 yX3_firstBest, Cond.instanceMethod yX3_firstBest, Cond.selects RX3 yX3_firstBest yX3_firstBest, Cond.code yX3_firstBest cX3_firstBest 4 (some .int), Cond.methodLink RX9 230 yX3_contactOf, Cond.instanceMethod yX3_contactOf, Cond.selects RX3 yX3_contactOf yX3_contactOf]
def wsX9_match_r7 : List Cond := [Cond.code yX3_contactOf cX3_contactOf 2 (some .int)]
def wsX9_match : List Cond := .code yX9_match cX9_match 2 (some .int) :: ((wsX9_match_r1 ++ (wsX9_match_r2 ++ (wsX9_match_r3 ++ (wsX9_match_r4 ++ (wsX9_match_r5 ++ (wsX9_match_r6 ++ wsX9_match_r7)))))) ++ wsX90 ++ wsX60 ++ wsX50 ++ wsX40 ++ wsX10 ++ wsX30 ++ wsX80 ++ (vx_atS RX9 259 "java/lang/IndexOutOfBoundsException" ["java/lang/RuntimeException", "java/lang/Exception"]).filter goodWord)
def wsX9_matchingCost_r1 : List Cond := [Cond.fieldLink RX9 43 "TouchTracker" "matching" "LTouchTracker$Matching;", Cond.methodLink RX9 227 yX9_findMatching, Cond.instanceMethod yX9_findMatching, Cond.selects RX9 yX9_findMatching yX9_findMatching, Cond.initialized RX9, Cond.code yX9_findMatching cX9_findMatching 1 none, Cond.fieldLink RX9 12 "TouchTracker" "state" "LTouchTracker$State;", Cond.fieldLink RX9 36 "TouchTracker" "contactList" "LTouchTracker$Contacts;", Cond.methodLink RX9 190 yX9_findContacts, Cond.instanceMethod yX9_findContacts, Cond.selects RX9 yX9_findContacts yX9_findContacts, Cond.code yX9_findContacts cX9_findContacts 1 none, Cond.fieldLink RX9 29 "TouchTracker" "regionMap" "LTouchTracker$Regions;", Cond.methodLink RX9 176 yX5_find, Cond.instanceMethod yX5_find, Cond.selects RX5 yX5_find yX5_find, Cond.initialized RX5, Cond.code yX5_find cX5_find 4 none, Cond.fieldLink RX5 26 "TouchTracker$Regions" "palm" "I", Cond.fieldLink RX5 30 "TouchTracker$Regions" "sharp" "I", Cond.fieldLink RX5 9 "TouchTracker$Regions" "regionOf" "[I", Cond.methodLink RX5 37 yX4_signalOf, Cond.instanceMethod yX4_signalOf, Cond.selects RX4 yX4_signalOf yX4_signalOf]
def wsX9_matchingCost_r2 : List Cond := [Cond.initialized RX4, Cond.code yX4_signalOf cX4_signalOf 3 (some .int), Cond.fieldLink RX4 9 "TouchTracker$Panel" "raws" "[I", Cond.fieldLink RX4 15 "TouchTracker$Panel" "baselines" "[I", Cond.methodLink RX5 43 yX5_joinAll, Cond.instanceMethod yX5_joinAll, Cond.selects RX5 yX5_joinAll yX5_joinAll, Cond.code yX5_joinAll cX5_joinAll 3 (some .boolean), Cond.methodLink RX5 51 yX5_join, Cond.instanceMethod yX5_join, Cond.selects RX5 yX5_join yX5_join, Cond.code yX5_join cX5_join 5 (some .boolean), Cond.static yX9_isCell, Cond.code yX9_isCell cX9_isCell 1 (some .boolean), Cond.methodLink RX5 47 yX5_measure, Cond.instanceMethod yX5_measure, Cond.selects RX5 yX5_measure yX5_measure, Cond.code yX5_measure cX5_measure 5 none, Cond.fieldLink RX5 15 "TouchTracker$Regions" "sizes" "[I", Cond.fieldLink RX5 18 "TouchTracker$Regions" "greatest" "[I", Cond.methodLink RX9 268 yX1_find, Cond.instanceMethod yX1_find, Cond.selects RX1 yX1_find yX1_find, Cond.initialized RX1]
def wsX9_matchingCost_r3 : List Cond := [Cond.code yX1_find cX1_find 5 none, Cond.fieldLink RX1 9 "TouchTracker$Contacts" "candidates" "[I", Cond.fieldLink RX1 41 "TouchTracker$Contacts" "count" "I", Cond.methodLink RX1 27 yX5_kindAround, Cond.instanceMethod yX5_kindAround, Cond.selects RX5 yX5_kindAround yX5_kindAround, Cond.code yX5_kindAround cX5_kindAround 3 (some .int), Cond.methodLink RX1 33 yX1_isPeak, Cond.static yX1_isPeak, Cond.code yX1_isPeak cX1_isPeak 7 (some .boolean), Cond.methodLink RX1 52 yX4_signalOf, Cond.methodLink RX1 57 yX4_signalAt, Cond.instanceMethod yX4_signalAt, Cond.selects RX4 yX4_signalAt yX4_signalAt, Cond.code yX4_signalAt cX4_signalAt 3 (some .int), Cond.static yX9_isOnPanel, Cond.code yX9_isOnPanel cX9_isOnPanel 2 (some .boolean), Cond.static yX9_cellAt, Cond.code yX9_cellAt cX9_cellAt 2 (some .int), Cond.methodLink RX4 30 yX4_signalOf, Cond.methodLink RX1 37 yX1_massAround, Cond.static yX1_massAround, Cond.code yX1_massAround cX1_massAround 5 (some .int), Cond.methodLink RX1 45 yX1_heavierThan]
def wsX9_matchingCost_r4 : List Cond := [Cond.instanceMethod yX1_heavierThan, Cond.selects RX1 yX1_heavierThan yX1_heavierThan, Cond.code yX1_heavierThan cX1_heavierThan 5 (some .int), Cond.methodLink RX1 48 yX1_add, Cond.instanceMethod yX1_add, Cond.selects RX1 yX1_add yX1_add, Cond.code yX1_add cX1_add 11 none, Cond.fieldLink RX1 15 "TouchTracker$Contacts" "rows" "[I", Cond.fieldLink RX1 18 "TouchTracker$Contacts" "columns" "[I", Cond.fieldLink RX1 21 "TouchTracker$Contacts" "masses" "[I", Cond.fieldLink RX1 24 "TouchTracker$Contacts" "peaks" "[I", Cond.methodLink RX9 271 yX3_find, Cond.instanceMethod yX3_find, Cond.selects RX3 yX3_find yX3_find, Cond.initialized RX3, Cond.code yX3_find cX3_find 7 none, Cond.fieldLink RX3 32 "TouchTracker$Matching" "count" "I", Cond.fieldLink RX3 16 "TouchTracker$Matching" "noneCosts" "[I", Cond.fieldLink RX3 11 "TouchTracker$Matching" "pairCosts" "[[I", Cond.fieldLink RX3 20 "TouchTracker$Matching" "leastCosts" "[[I", Cond.methodLink RX3 48 yX3_pairCost, Cond.static yX3_pairCost, Cond.code yX3_pairCost cX3_pairCost 5 (some .int), Cond.methodLink RX3 59 yX1_rowOf]
def wsX9_matchingCost_r5 : List Cond := [Cond.instanceMethod yX1_rowOf, Cond.selects RX1 yX1_rowOf yX1_rowOf, Cond.code yX1_rowOf cX1_rowOf 2 (some .int), Cond.methodLink RX1 68 yX1_isContact, Cond.instanceMethod yX1_isContact, Cond.selects RX1 yX1_isContact yX1_isContact, Cond.code yX1_isContact cX1_isContact 2 (some .boolean), Cond.methodLink RX3 63 yX1_columnOf, Cond.instanceMethod yX1_columnOf, Cond.selects RX1 yX1_columnOf yX1_columnOf, Cond.code yX1_columnOf cX1_columnOf 2 (some .int), Cond.methodLink RX3 66 yX8_squaredWayTo, Cond.instanceMethod yX8_squaredWayTo, Cond.selects RX8 yX8_squaredWayTo yX8_squaredWayTo, Cond.initialized RX8, Cond.code yX8_squaredWayTo cX8_squaredWayTo 5 (some .int), Cond.fieldLink RX8 15 "TouchTracker$Track" "row" "I", Cond.fieldLink RX8 19 "TouchTracker$Track" "column" "I", Cond.methodLink RX3 52 yX3_leastCost, Cond.instanceMethod yX3_leastCost, Cond.selects RX3 yX3_leastCost yX3_leastCost, Cond.code yX3_leastCost cX3_leastCost 6 (some .int), Cond.methodLink RX3 69 yX3_canTake, Cond.instanceMethod yX3_canTake]
def wsX9_matchingCost_r6 : List Cond := [Cond.selects RX3 yX3_canTake yX3_canTake, Cond.code yX3_canTake cX3_canTake 4 (some .boolean), Cond.methodLink RX3 73 yX3_costWith, Cond.instanceMethod yX3_costWith, Cond.selects RX3 yX3_costWith yX3_costWith, Cond.code yX3_costWith cX3_costWith 4 (some .int), Cond.methodLink RX3 56 yX3_assign, Cond.instanceMethod yX3_assign, Cond.selects RX3 yX3_assign yX3_assign, Cond.code yX3_assign cX3_assign 2 none, Cond.fieldLink RX3 77 "TouchTracker$Matching" "taken" "I", Cond.fieldLink RX3 23 "TouchTracker$Matching" "assigned" "[I", Cond.methodLink RX3 80 yX3_firstBest, Cond.instanceMethod yX3_firstBest, Cond.selects RX3 yX3_firstBest yX3_firstBest, Cond.code yX3_firstBest cX3_firstBest 4 (some .int), Cond.methodLink RX9 233 yX3_wholeCost, Cond.instanceMethod yX3_wholeCost, Cond.selects RX3 yX3_wholeCost yX3_wholeCost, Cond.code yX3_wholeCost cX3_wholeCost 1 (some .int)]
def wsX9_matchingCost : List Cond := .code yX9_matchingCost cX9_matchingCost 1 (some .int) :: ((wsX9_matchingCost_r1 ++ (wsX9_matchingCost_r2 ++ (wsX9_matchingCost_r3 ++ (wsX9_matchingCost_r4 ++ (wsX9_matchingCost_r5 ++ wsX9_matchingCost_r6))))) ++ wsX90 ++ wsX60 ++ wsX50 ++ wsX40 ++ wsX10 ++ wsX30 ++ wsX80)
def wsX9_downIfScanned_r1 : List Cond := [Cond.fieldLink RX9 16 "TouchTracker" "rehearsal" "LTouchTracker$State;", Cond.fieldLink RX9 12 "TouchTracker" "state" "LTouchTracker$State;", Cond.methodLink RX9 236 yX6_copyFrom, Cond.instanceMethod yX6_copyFrom, Cond.selects RX6 yX6_copyFrom yX6_copyFrom, Cond.initialized RX6, Cond.code yX6_copyFrom cX6_copyFrom 3 none, Cond.fieldLink RX6 12 "TouchTracker$State" "panel" "LTouchTracker$Panel;", Cond.fieldLink RX6 18 "TouchTracker$State" "settings" "[I", Cond.methodLink RX6 31 arraycopyName, Cond.native arraycopyName, Cond.static arraycopyName, Cond.initialized "java/lang/System", Cond.fieldLink RX6 24 "TouchTracker$State" "tracks" "[LTouchTracker$Track;", Cond.fieldLink RX6 45 "TouchTracker$State" "frameCount" "I", Cond.fieldLink RX6 49 "TouchTracker$State" "downCount" "I", Cond.fieldLink RX6 52 "TouchTracker$State" "upCount" "I", Cond.methodLink RX6 38 yX4_copyFrom, Cond.instanceMethod yX4_copyFrom, Cond.selects RX4 yX4_copyFrom yX4_copyFrom, Cond.initialized RX4, Cond.code yX4_copyFrom cX4_copyFrom 2 none, Cond.fieldLink RX4 9 "TouchTracker$Panel" "raws" "[I", Cond.methodLink RX4 38 arraycopyName]
def wsX9_downIfScanned_r2 : List Cond := [Cond.fieldLink RX4 15 "TouchTracker$Panel" "baselines" "[I", Cond.methodLink RX6 42 yX8_copyFrom, Cond.instanceMethod yX8_copyFrom, Cond.selects RX8 yX8_copyFrom yX8_copyFrom, Cond.initialized RX8, Cond.code yX8_copyFrom cX8_copyFrom 2 none, Cond.fieldLink RX8 9 "TouchTracker$Track" "down" "Z", Cond.fieldLink RX8 15 "TouchTracker$Track" "row" "I", Cond.fieldLink RX8 19 "TouchTracker$Track" "column" "I", Cond.fieldLink RX8 22 "TouchTracker$Track" "age" "I", Cond.fieldLink RX8 25 "TouchTracker$Track" "missed" "I", Cond.methodLink RX9 122 yX9_scanFrame, Cond.instanceMethod yX9_scanFrame, Cond.selects RX9 yX9_scanFrame yX9_scanFrame, Cond.initialized RX9, Cond.code yX9_scanFrame cX9_scanFrame 2 (some .int), Cond.fieldLink RX9 29 "TouchTracker" "regionMap" "LTouchTracker$Regions;", Cond.fieldLink RX9 36 "TouchTracker" "contactList" "LTouchTracker$Contacts;", Cond.fieldLink RX9 43 "TouchTracker" "matching" "LTouchTracker$Matching;", Cond.methodLink RX9 176 yX5_find, Cond.instanceMethod yX5_find, Cond.selects RX5 yX5_find yX5_find, Cond.initialized RX5, Cond.code yX5_find cX5_find 4 none]
def wsX9_downIfScanned_r3 : List Cond := [Cond.fieldLink RX5 26 "TouchTracker$Regions" "palm" "I", Cond.fieldLink RX5 30 "TouchTracker$Regions" "sharp" "I", Cond.fieldLink RX5 9 "TouchTracker$Regions" "regionOf" "[I", Cond.methodLink RX5 37 yX4_signalOf, Cond.instanceMethod yX4_signalOf, Cond.selects RX4 yX4_signalOf yX4_signalOf, Cond.code yX4_signalOf cX4_signalOf 3 (some .int), Cond.methodLink RX5 43 yX5_joinAll, Cond.instanceMethod yX5_joinAll, Cond.selects RX5 yX5_joinAll yX5_joinAll, Cond.code yX5_joinAll cX5_joinAll 3 (some .boolean), Cond.methodLink RX5 51 yX5_join, Cond.instanceMethod yX5_join, Cond.selects RX5 yX5_join yX5_join, Cond.code yX5_join cX5_join 5 (some .boolean), Cond.static yX9_isCell, Cond.code yX9_isCell cX9_isCell 1 (some .boolean), Cond.methodLink RX5 47 yX5_measure, Cond.instanceMethod yX5_measure, Cond.selects RX5 yX5_measure yX5_measure, Cond.code yX5_measure cX5_measure 5 none, Cond.fieldLink RX5 15 "TouchTracker$Regions" "sizes" "[I", Cond.fieldLink RX5 18 "TouchTracker$Regions" "greatest" "[I", Cond.methodLink RX9 268 yX1_find]
def wsX9_downIfScanned_r4 : List Cond := [Cond.instanceMethod yX1_find, Cond.selects RX1 yX1_find yX1_find, Cond.initialized RX1, Cond.code yX1_find cX1_find 5 none, Cond.fieldLink RX1 9 "TouchTracker$Contacts" "candidates" "[I", Cond.fieldLink RX1 41 "TouchTracker$Contacts" "count" "I", Cond.methodLink RX1 27 yX5_kindAround, Cond.instanceMethod yX5_kindAround, Cond.selects RX5 yX5_kindAround yX5_kindAround, Cond.code yX5_kindAround cX5_kindAround 3 (some .int), Cond.methodLink RX1 33 yX1_isPeak, Cond.static yX1_isPeak, Cond.code yX1_isPeak cX1_isPeak 7 (some .boolean), Cond.methodLink RX1 52 yX4_signalOf, Cond.methodLink RX1 57 yX4_signalAt, Cond.instanceMethod yX4_signalAt, Cond.selects RX4 yX4_signalAt yX4_signalAt, Cond.code yX4_signalAt cX4_signalAt 3 (some .int), Cond.static yX9_isOnPanel, Cond.code yX9_isOnPanel cX9_isOnPanel 2 (some .boolean), Cond.static yX9_cellAt, Cond.code yX9_cellAt cX9_cellAt 2 (some .int), Cond.methodLink RX4 30 yX4_signalOf, Cond.methodLink RX1 37 yX1_massAround]
def wsX9_downIfScanned_r5 : List Cond := [Cond.static yX1_massAround, Cond.code yX1_massAround cX1_massAround 5 (some .int), Cond.methodLink RX1 45 yX1_heavierThan, Cond.instanceMethod yX1_heavierThan, Cond.selects RX1 yX1_heavierThan yX1_heavierThan, Cond.code yX1_heavierThan cX1_heavierThan 5 (some .int), Cond.methodLink RX1 48 yX1_add, Cond.instanceMethod yX1_add, Cond.selects RX1 yX1_add yX1_add, Cond.code yX1_add cX1_add 11 none, Cond.fieldLink RX1 15 "TouchTracker$Contacts" "rows" "[I", Cond.fieldLink RX1 18 "TouchTracker$Contacts" "columns" "[I", Cond.fieldLink RX1 21 "TouchTracker$Contacts" "masses" "[I", Cond.fieldLink RX1 24 "TouchTracker$Contacts" "peaks" "[I", Cond.methodLink RX9 271 yX3_find, Cond.instanceMethod yX3_find, Cond.selects RX3 yX3_find yX3_find, Cond.initialized RX3, Cond.code yX3_find cX3_find 7 none, Cond.fieldLink RX3 32 "TouchTracker$Matching" "count" "I", Cond.fieldLink RX3 16 "TouchTracker$Matching" "noneCosts" "[I", Cond.fieldLink RX3 11 "TouchTracker$Matching" "pairCosts" "[[I", Cond.fieldLink RX3 20 "TouchTracker$Matching" "leastCosts" "[[I", Cond.methodLink RX3 48 yX3_pairCost]
def wsX9_downIfScanned_r6 : List Cond := [Cond.static yX3_pairCost, Cond.code yX3_pairCost cX3_pairCost 5 (some .int), Cond.methodLink RX3 59 yX1_rowOf, Cond.instanceMethod yX1_rowOf, Cond.selects RX1 yX1_rowOf yX1_rowOf, Cond.code yX1_rowOf cX1_rowOf 2 (some .int), Cond.methodLink RX1 68 yX1_isContact, Cond.instanceMethod yX1_isContact, Cond.selects RX1 yX1_isContact yX1_isContact, Cond.code yX1_isContact cX1_isContact 2 (some .boolean), Cond.methodLink RX3 63 yX1_columnOf, Cond.instanceMethod yX1_columnOf, Cond.selects RX1 yX1_columnOf yX1_columnOf, Cond.code yX1_columnOf cX1_columnOf 2 (some .int), Cond.methodLink RX3 66 yX8_squaredWayTo, Cond.instanceMethod yX8_squaredWayTo, Cond.selects RX8 yX8_squaredWayTo yX8_squaredWayTo, Cond.code yX8_squaredWayTo cX8_squaredWayTo 5 (some .int), Cond.methodLink RX3 52 yX3_leastCost, Cond.instanceMethod yX3_leastCost, Cond.selects RX3 yX3_leastCost yX3_leastCost, Cond.code yX3_leastCost cX3_leastCost 6 (some .int), Cond.methodLink RX3 69 yX3_canTake, Cond.instanceMethod yX3_canTake]
def wsX9_downIfScanned_r7 : List Cond := [Cond.selects RX3 yX3_canTake yX3_canTake, Cond.code yX3_canTake cX3_canTake 4 (some .boolean), Cond.methodLink RX3 73 yX3_costWith, Cond.instanceMethod yX3_costWith, Cond.selects RX3 yX3_costWith yX3_costWith, Cond.code yX3_costWith cX3_costWith 4 (some .int), Cond.methodLink RX3 56 yX3_assign, Cond.instanceMethod yX3_assign, Cond.selects RX3 yX3_assign yX3_assign, Cond.code yX3_assign cX3_assign 2 none, Cond.fieldLink RX3 77 "TouchTracker$Matching" "taken" "I", Cond.fieldLink RX3 23 "TouchTracker$Matching" "assigned" "[I", Cond.methodLink RX3 80 yX3_firstBest, Cond.instanceMethod yX3_firstBest, Cond.selects RX3 yX3_firstBest yX3_firstBest, Cond.code yX3_firstBest cX3_firstBest 4 (some .int), Cond.methodLink RX9 274 yX6_takeFrame, Cond.instanceMethod yX6_takeFrame, Cond.selects RX6 yX6_takeFrame yX6_takeFrame, Cond.code yX6_takeFrame cX6_takeFrame 5 (some .int), Cond.methodLink RX6 59 yX6_downSet, Cond.instanceMethod yX6_downSet, Cond.selects RX6 yX6_downSet yX6_downSet, Cond.code yX6_downSet cX6_downSet 3 (some .int)]
def wsX9_downIfScanned_r8 : List Cond := [Cond.methodLink RX6 63 yX6_moveTracks, Cond.instanceMethod yX6_moveTracks, Cond.selects RX6 yX6_moveTracks yX6_moveTracks, Cond.code yX6_moveTracks cX6_moveTracks 6 none, Cond.methodLink RX6 71 yX3_contactOf, Cond.instanceMethod yX3_contactOf, Cond.selects RX3 yX3_contactOf yX3_contactOf, Cond.code yX3_contactOf cX3_contactOf 2 (some .int), Cond.methodLink RX6 77 yX1_rowOf, Cond.methodLink RX6 82 yX1_columnOf, Cond.methodLink RX6 85 yX8_follow, Cond.instanceMethod yX8_follow, Cond.selects RX8 yX8_follow yX8_follow, Cond.code yX8_follow cX8_follow 3 none, Cond.methodLink RX6 89 yX8_miss, Cond.instanceMethod yX8_miss, Cond.selects RX8 yX8_miss yX8_miss, Cond.code yX8_miss cX8_miss 2 none, Cond.methodLink RX6 67 yX6_startTracks, Cond.instanceMethod yX6_startTracks, Cond.selects RX6 yX6_startTracks yX6_startTracks, Cond.code yX6_startTracks cX6_startTracks 6 none, Cond.methodLink RX6 93 yX3_nextUnassigned, Cond.instanceMethod yX3_nextUnassigned]
def wsX9_downIfScanned_r9 : List Cond := [Cond.selects RX3 yX3_nextUnassigned yX3_nextUnassigned, Cond.code yX3_nextUnassigned cX3_nextUnassigned 3 (some .int), Cond.methodLink RX6 99 yX8_goDown, Cond.instanceMethod yX8_goDown, Cond.selects RX8 yX8_goDown yX8_goDown, Cond.code yX8_goDown cX8_goDown 3 none, Cond.methodLink RX9 239 yX6_downSet]
def wsX9_downIfScanned : List Cond := .code yX9_downIfScanned cX9_downIfScanned 1 (some .int) :: ((wsX9_downIfScanned_r1 ++ (wsX9_downIfScanned_r2 ++ (wsX9_downIfScanned_r3 ++ (wsX9_downIfScanned_r4 ++ (wsX9_downIfScanned_r5 ++ (wsX9_downIfScanned_r6 ++ (wsX9_downIfScanned_r7 ++ (wsX9_downIfScanned_r8 ++ wsX9_downIfScanned_r9)))))))) ++ wsX90 ++ wsX60 ++ wsX40 ++ wsX80 ++ wsX50 ++ wsX10 ++ wsX30)
def wsX9_frames : List Cond := .code yX9_frames cX9_frames 1 (some .int) :: ([.fieldLink RX9 12 "TouchTracker" "state" "LTouchTracker$State;"] ++ wsX90 ++ wsX60)
def wsX9_downs : List Cond := .code yX9_downs cX9_downs 1 (some .int) :: ([.fieldLink RX9 12 "TouchTracker" "state" "LTouchTracker$State;"] ++ wsX90 ++ wsX60)
def wsX9_ups : List Cond := .code yX9_ups cX9_ups 1 (some .int) :: ([.fieldLink RX9 12 "TouchTracker" "state" "LTouchTracker$State;"] ++ wsX90 ++ wsX60)
def wsX9_meanSignal : List Cond := .code yX9_meanSignal cX9_meanSignal 5 (some .float) :: ([.fieldLink RX9 12 "TouchTracker" "state" "LTouchTracker$State;", .methodLink RX9 173 yX4_signalOf, .instanceMethod yX4_signalOf, .selects RX4 yX4_signalOf yX4_signalOf, .initialized RX4, .code yX4_signalOf cX4_signalOf 3 (some .int), .fieldLink RX4 9 "TouchTracker$Panel" "raws" "[I", .fieldLink RX4 15 "TouchTracker$Panel" "baselines" "[I"] ++ wsX90 ++ wsX60 ++ wsX40)
def wsX9_savedStates : List Cond := .code yX9_savedStates cX9_savedStates 1 (some .int) :: ([.fieldLink RX9 22 "TouchTracker" "history" "LTouchTracker$History;"] ++ wsX90 ++ wsX20)
def wsL_cell : List Cond := .code yL_cell cL_cell 2 (some .int) :: ([.constant RL 7 (1812433253)])
def wsL_up : List Cond := .code yL_up cL_up 2 (some .int) :: ([.constant RL 8 (2147483647)])
def wsL_bits : List Cond := .code yL_bits cL_bits 3 (some .int) :: ([])
def wsL_told_r1 : List Cond := [Cond.constantLong RL 9 (31), Cond.methodLink RL 11 yX9_frames, Cond.instanceMethod yX9_frames, Cond.selects RX9 yX9_frames yX9_frames, Cond.initialized RX9, Cond.code yX9_frames cX9_frames 1 (some .int), Cond.fieldLink RX9 12 "TouchTracker" "state" "LTouchTracker$State;", Cond.methodLink RL 17 yX9_downs, Cond.instanceMethod yX9_downs, Cond.selects RX9 yX9_downs yX9_downs, Cond.code yX9_downs cX9_downs 1 (some .int), Cond.methodLink RL 20 yX9_ups, Cond.instanceMethod yX9_ups, Cond.selects RX9 yX9_ups yX9_ups, Cond.code yX9_ups cX9_ups 1 (some .int), Cond.methodLink RL 23 yX9_contacts, Cond.instanceMethod yX9_contacts, Cond.selects RX9 yX9_contacts yX9_contacts, Cond.code yX9_contacts cX9_contacts 1 (some .int), Cond.fieldLink RX9 36 "TouchTracker" "contactList" "LTouchTracker$Contacts;", Cond.methodLink RX9 190 yX9_findContacts, Cond.instanceMethod yX9_findContacts, Cond.selects RX9 yX9_findContacts yX9_findContacts, Cond.code yX9_findContacts cX9_findContacts 1 none]
def wsL_told_r2 : List Cond := [Cond.fieldLink RX9 29 "TouchTracker" "regionMap" "LTouchTracker$Regions;", Cond.methodLink RX9 176 yX5_find, Cond.instanceMethod yX5_find, Cond.selects RX5 yX5_find yX5_find, Cond.initialized RX5, Cond.code yX5_find cX5_find 4 none, Cond.fieldLink RX5 26 "TouchTracker$Regions" "palm" "I", Cond.fieldLink RX5 30 "TouchTracker$Regions" "sharp" "I", Cond.fieldLink RX5 9 "TouchTracker$Regions" "regionOf" "[I", Cond.methodLink RX5 37 yX4_signalOf, Cond.instanceMethod yX4_signalOf, Cond.selects RX4 yX4_signalOf yX4_signalOf, Cond.initialized RX4, Cond.code yX4_signalOf cX4_signalOf 3 (some .int), Cond.fieldLink RX4 9 "TouchTracker$Panel" "raws" "[I", Cond.fieldLink RX4 15 "TouchTracker$Panel" "baselines" "[I", Cond.methodLink RX5 43 yX5_joinAll, Cond.instanceMethod yX5_joinAll, Cond.selects RX5 yX5_joinAll yX5_joinAll, Cond.code yX5_joinAll cX5_joinAll 3 (some .boolean), Cond.methodLink RX5 51 yX5_join, Cond.instanceMethod yX5_join, Cond.selects RX5 yX5_join yX5_join, Cond.code yX5_join cX5_join 5 (some .boolean)]
def wsL_told_r3 : List Cond := [Cond.static yX9_isCell, Cond.code yX9_isCell cX9_isCell 1 (some .boolean), Cond.methodLink RX5 47 yX5_measure, Cond.instanceMethod yX5_measure, Cond.selects RX5 yX5_measure yX5_measure, Cond.code yX5_measure cX5_measure 5 none, Cond.fieldLink RX5 15 "TouchTracker$Regions" "sizes" "[I", Cond.fieldLink RX5 18 "TouchTracker$Regions" "greatest" "[I", Cond.methodLink RX9 268 yX1_find, Cond.instanceMethod yX1_find, Cond.selects RX1 yX1_find yX1_find, Cond.initialized RX1, Cond.code yX1_find cX1_find 5 none, Cond.fieldLink RX1 9 "TouchTracker$Contacts" "candidates" "[I", Cond.fieldLink RX1 41 "TouchTracker$Contacts" "count" "I", Cond.methodLink RX1 27 yX5_kindAround, Cond.instanceMethod yX5_kindAround, Cond.selects RX5 yX5_kindAround yX5_kindAround, Cond.code yX5_kindAround cX5_kindAround 3 (some .int), Cond.methodLink RX1 33 yX1_isPeak, Cond.static yX1_isPeak, Cond.code yX1_isPeak cX1_isPeak 7 (some .boolean), Cond.methodLink RX1 52 yX4_signalOf, Cond.methodLink RX1 57 yX4_signalAt]
def wsL_told_r4 : List Cond := [Cond.instanceMethod yX4_signalAt, Cond.selects RX4 yX4_signalAt yX4_signalAt, Cond.code yX4_signalAt cX4_signalAt 3 (some .int), Cond.static yX9_isOnPanel, Cond.code yX9_isOnPanel cX9_isOnPanel 2 (some .boolean), Cond.static yX9_cellAt, Cond.code yX9_cellAt cX9_cellAt 2 (some .int), Cond.methodLink RX4 30 yX4_signalOf, Cond.methodLink RX1 37 yX1_massAround, Cond.static yX1_massAround, Cond.code yX1_massAround cX1_massAround 5 (some .int), Cond.methodLink RX1 45 yX1_heavierThan, Cond.instanceMethod yX1_heavierThan, Cond.selects RX1 yX1_heavierThan yX1_heavierThan, Cond.code yX1_heavierThan cX1_heavierThan 5 (some .int), Cond.methodLink RX1 48 yX1_add, Cond.instanceMethod yX1_add, Cond.selects RX1 yX1_add yX1_add, Cond.code yX1_add cX1_add 11 none, Cond.fieldLink RX1 15 "TouchTracker$Contacts" "rows" "[I", Cond.fieldLink RX1 18 "TouchTracker$Contacts" "columns" "[I", Cond.fieldLink RX1 21 "TouchTracker$Contacts" "masses" "[I", Cond.fieldLink RX1 24 "TouchTracker$Contacts" "peaks" "[I", Cond.methodLink RL 26 yX9_raw]
def wsL_told_r5 : List Cond := [Cond.instanceMethod yX9_raw, Cond.selects RX9 yX9_raw yX9_raw, Cond.code yX9_raw cX9_raw 3 (some .int), Cond.methodLink RX9 61 yX9_requireCell, Cond.static yX9_requireCell, Cond.code yX9_requireCell cX9_requireCell 2 none, Cond.classLink RX9 255 "java/lang/IndexOutOfBoundsException", Cond.initialized "java/lang/IndexOutOfBoundsException", Cond.methodLink RX9 251 yX9_isOnPanel, Cond.methodLink RX9 80 yX9_cellAt, Cond.methodLink RX9 95 yX4_rawOf, Cond.instanceMethod yX4_rawOf, Cond.selects RX4 yX4_rawOf yX4_rawOf, Cond.code yX4_rawOf cX4_rawOf 2 (some .int), Cond.methodLink RL 30 yX9_signal, Cond.instanceMethod yX9_signal, Cond.selects RX9 yX9_signal yX9_signal, Cond.code yX9_signal cX9_signal 3 (some .int), Cond.methodLink RX9 173 yX4_signalOf, Cond.methodLink RL 33 yX9_track, Cond.instanceMethod yX9_track, Cond.selects RX9 yX9_track yX9_track, Cond.code yX9_track cX9_track 3 (some .int), Cond.methodLink RX9 203 yX9_requireTrack]
def wsL_told_r6 : List Cond := [Cond.static yX9_requireTrack, Cond.code yX9_requireTrack cX9_requireTrack 1 none, Cond.methodLink RX9 197 yX9_requirePart, Cond.static yX9_requirePart, Cond.code yX9_requirePart cX9_requirePart 1 none, Cond.classLink RX9 65 "java/lang/IllegalArgumentException", Cond.initialized "java/lang/IllegalArgumentException", Cond.methodLink RX9 216 yX8_partOf, Cond.instanceMethod yX8_partOf, Cond.selects RX8 yX8_partOf yX8_partOf, Cond.initialized RX8, Cond.code yX8_partOf cX8_partOf 2 (some .int), Cond.fieldLink RX8 9 "TouchTracker$Track" "down" "Z", Cond.fieldLink RX8 15 "TouchTracker$Track" "row" "I", Cond.fieldLink RX8 19 "TouchTracker$Track" "column" "I", Cond.fieldLink RX8 22 "TouchTracker$Track" "age" "I", Cond.fieldLink RX8 25 "TouchTracker$Track" "missed" "I", Cond.methodLink RL 36 yX9_setting, Cond.instanceMethod yX9_setting, Cond.selects RX9 yX9_setting yX9_setting, Cond.code yX9_setting cX9_setting 2 (some .int), Cond.methodLink RX9 106 yX9_requireSetting, Cond.static yX9_requireSetting, Cond.code yX9_requireSetting cX9_requireSetting 1 none]
def wsL_told : List Cond := .code yL_told cL_told 4 (some .long) :: ((wsL_told_r1 ++ (wsL_told_r2 ++ (wsL_told_r3 ++ (wsL_told_r4 ++ (wsL_told_r5 ++ wsL_told_r6))))) ++ wsX90 ++ wsX60 ++ wsX10 ++ wsX50 ++ wsX40 ++ wsX80 ++ (vx_atS RX9 259 "java/lang/IndexOutOfBoundsException" ["java/lang/RuntimeException", "java/lang/Exception"]).filter goodWord ++ (vx_atS RX9 69 "java/lang/IllegalArgumentException" ["java/lang/RuntimeException", "java/lang/Exception"]).filter goodWord)
def wsL_downSet : List Cond := .code yL_downSet cL_downSet 3 (some .int) :: ([.methodLink RL 40 yX9_isDown, .instanceMethod yX9_isDown, .selects RX9 yX9_isDown yX9_isDown, .initialized RX9, .code yX9_isDown cX9_isDown 2 (some .boolean), .fieldLink RX9 12 "TouchTracker" "state" "LTouchTracker$State;", .methodLink RX9 203 yX9_requireTrack, .static yX9_requireTrack, .code yX9_requireTrack cX9_requireTrack 1 none, .classLink RX9 255 "java/lang/IndexOutOfBoundsException", .initialized "java/lang/IndexOutOfBoundsException"] ++ wsX90 ++ wsX60 ++ wsX80 ++ (vx_atS RX9 259 "java/lang/IndexOutOfBoundsException" ["java/lang/RuntimeException", "java/lang/Exception"]).filter goodWord)
def wsL_scans_r1 : List Cond := [Cond.arrayClass .int, Cond.methodLink RL 77 yX9_downIfScanned, Cond.instanceMethod yX9_downIfScanned, Cond.selects RX9 yX9_downIfScanned yX9_downIfScanned, Cond.initialized RX9, Cond.code yX9_downIfScanned cX9_downIfScanned 1 (some .int), Cond.fieldLink RX9 16 "TouchTracker" "rehearsal" "LTouchTracker$State;", Cond.fieldLink RX9 12 "TouchTracker" "state" "LTouchTracker$State;", Cond.methodLink RX9 236 yX6_copyFrom, Cond.instanceMethod yX6_copyFrom, Cond.selects RX6 yX6_copyFrom yX6_copyFrom, Cond.initialized RX6, Cond.code yX6_copyFrom cX6_copyFrom 3 none, Cond.fieldLink RX6 12 "TouchTracker$State" "panel" "LTouchTracker$Panel;", Cond.fieldLink RX6 18 "TouchTracker$State" "settings" "[I", Cond.methodLink RX6 31 arraycopyName, Cond.native arraycopyName, Cond.static arraycopyName, Cond.initialized "java/lang/System", Cond.fieldLink RX6 24 "TouchTracker$State" "tracks" "[LTouchTracker$Track;", Cond.fieldLink RX6 45 "TouchTracker$State" "frameCount" "I", Cond.fieldLink RX6 49 "TouchTracker$State" "downCount" "I", Cond.fieldLink RX6 52 "TouchTracker$State" "upCount" "I", Cond.methodLink RX6 38 yX4_copyFrom]
def wsL_scans_r2 : List Cond := [Cond.instanceMethod yX4_copyFrom, Cond.selects RX4 yX4_copyFrom yX4_copyFrom, Cond.initialized RX4, Cond.code yX4_copyFrom cX4_copyFrom 2 none, Cond.fieldLink RX4 9 "TouchTracker$Panel" "raws" "[I", Cond.methodLink RX4 38 arraycopyName, Cond.fieldLink RX4 15 "TouchTracker$Panel" "baselines" "[I", Cond.methodLink RX6 42 yX8_copyFrom, Cond.instanceMethod yX8_copyFrom, Cond.selects RX8 yX8_copyFrom yX8_copyFrom, Cond.initialized RX8, Cond.code yX8_copyFrom cX8_copyFrom 2 none, Cond.fieldLink RX8 9 "TouchTracker$Track" "down" "Z", Cond.fieldLink RX8 15 "TouchTracker$Track" "row" "I", Cond.fieldLink RX8 19 "TouchTracker$Track" "column" "I", Cond.fieldLink RX8 22 "TouchTracker$Track" "age" "I", Cond.fieldLink RX8 25 "TouchTracker$Track" "missed" "I", Cond.methodLink RX9 122 yX9_scanFrame, Cond.instanceMethod yX9_scanFrame, Cond.selects RX9 yX9_scanFrame yX9_scanFrame, Cond.code yX9_scanFrame cX9_scanFrame 2 (some .int), Cond.fieldLink RX9 29 "TouchTracker" "regionMap" "LTouchTracker$Regions;", Cond.fieldLink RX9 36 "TouchTracker" "contactList" "LTouchTracker$Contacts;", Cond.fieldLink RX9 43 "TouchTracker" "matching" "LTouchTracker$Matching;"]
def wsL_scans_r3 : List Cond := [Cond.methodLink RX9 176 yX5_find, Cond.instanceMethod yX5_find, Cond.selects RX5 yX5_find yX5_find, Cond.initialized RX5, Cond.code yX5_find cX5_find 4 none, Cond.fieldLink RX5 26 "TouchTracker$Regions" "palm" "I", Cond.fieldLink RX5 30 "TouchTracker$Regions" "sharp" "I", Cond.fieldLink RX5 9 "TouchTracker$Regions" "regionOf" "[I", Cond.methodLink RX5 37 yX4_signalOf, Cond.instanceMethod yX4_signalOf, Cond.selects RX4 yX4_signalOf yX4_signalOf, Cond.code yX4_signalOf cX4_signalOf 3 (some .int), Cond.methodLink RX5 43 yX5_joinAll, Cond.instanceMethod yX5_joinAll, Cond.selects RX5 yX5_joinAll yX5_joinAll, Cond.code yX5_joinAll cX5_joinAll 3 (some .boolean), Cond.methodLink RX5 51 yX5_join, Cond.instanceMethod yX5_join, Cond.selects RX5 yX5_join yX5_join, Cond.code yX5_join cX5_join 5 (some .boolean), Cond.static yX9_isCell, Cond.code yX9_isCell cX9_isCell 1 (some .boolean), Cond.methodLink RX5 47 yX5_measure, Cond.instanceMethod yX5_measure]
def wsL_scans_r4 : List Cond := [Cond.selects RX5 yX5_measure yX5_measure, Cond.code yX5_measure cX5_measure 5 none, Cond.fieldLink RX5 15 "TouchTracker$Regions" "sizes" "[I", Cond.fieldLink RX5 18 "TouchTracker$Regions" "greatest" "[I", Cond.methodLink RX9 268 yX1_find, Cond.instanceMethod yX1_find, Cond.selects RX1 yX1_find yX1_find, Cond.initialized RX1, Cond.code yX1_find cX1_find 5 none, Cond.fieldLink RX1 9 "TouchTracker$Contacts" "candidates" "[I", Cond.fieldLink RX1 41 "TouchTracker$Contacts" "count" "I", Cond.methodLink RX1 27 yX5_kindAround, Cond.instanceMethod yX5_kindAround, Cond.selects RX5 yX5_kindAround yX5_kindAround, Cond.code yX5_kindAround cX5_kindAround 3 (some .int), Cond.methodLink RX1 33 yX1_isPeak, Cond.static yX1_isPeak, Cond.code yX1_isPeak cX1_isPeak 7 (some .boolean), Cond.methodLink RX1 52 yX4_signalOf, Cond.methodLink RX1 57 yX4_signalAt, Cond.instanceMethod yX4_signalAt, Cond.selects RX4 yX4_signalAt yX4_signalAt, Cond.code yX4_signalAt cX4_signalAt 3 (some .int), Cond.static yX9_isOnPanel]
def wsL_scans_r5 : List Cond := [Cond.code yX9_isOnPanel cX9_isOnPanel 2 (some .boolean), Cond.static yX9_cellAt, Cond.code yX9_cellAt cX9_cellAt 2 (some .int), Cond.methodLink RX4 30 yX4_signalOf, Cond.methodLink RX1 37 yX1_massAround, Cond.static yX1_massAround, Cond.code yX1_massAround cX1_massAround 5 (some .int), Cond.methodLink RX1 45 yX1_heavierThan, Cond.instanceMethod yX1_heavierThan, Cond.selects RX1 yX1_heavierThan yX1_heavierThan, Cond.code yX1_heavierThan cX1_heavierThan 5 (some .int), Cond.methodLink RX1 48 yX1_add, Cond.instanceMethod yX1_add, Cond.selects RX1 yX1_add yX1_add, Cond.code yX1_add cX1_add 11 none, Cond.fieldLink RX1 15 "TouchTracker$Contacts" "rows" "[I", Cond.fieldLink RX1 18 "TouchTracker$Contacts" "columns" "[I", Cond.fieldLink RX1 21 "TouchTracker$Contacts" "masses" "[I", Cond.fieldLink RX1 24 "TouchTracker$Contacts" "peaks" "[I", Cond.methodLink RX9 271 yX3_find, Cond.instanceMethod yX3_find, Cond.selects RX3 yX3_find yX3_find, Cond.initialized RX3, Cond.code yX3_find cX3_find 7 none]
def wsL_scans_r6 : List Cond := [Cond.fieldLink RX3 32 "TouchTracker$Matching" "count" "I", Cond.fieldLink RX3 16 "TouchTracker$Matching" "noneCosts" "[I", Cond.fieldLink RX3 11 "TouchTracker$Matching" "pairCosts" "[[I", Cond.fieldLink RX3 20 "TouchTracker$Matching" "leastCosts" "[[I", Cond.methodLink RX3 48 yX3_pairCost, Cond.static yX3_pairCost, Cond.code yX3_pairCost cX3_pairCost 5 (some .int), Cond.methodLink RX3 59 yX1_rowOf, Cond.instanceMethod yX1_rowOf, Cond.selects RX1 yX1_rowOf yX1_rowOf, Cond.code yX1_rowOf cX1_rowOf 2 (some .int), Cond.methodLink RX1 68 yX1_isContact, Cond.instanceMethod yX1_isContact, Cond.selects RX1 yX1_isContact yX1_isContact, Cond.code yX1_isContact cX1_isContact 2 (some .boolean), Cond.methodLink RX3 63 yX1_columnOf, Cond.instanceMethod yX1_columnOf, Cond.selects RX1 yX1_columnOf yX1_columnOf, Cond.code yX1_columnOf cX1_columnOf 2 (some .int), Cond.methodLink RX3 66 yX8_squaredWayTo, Cond.instanceMethod yX8_squaredWayTo, Cond.selects RX8 yX8_squaredWayTo yX8_squaredWayTo, Cond.code yX8_squaredWayTo cX8_squaredWayTo 5 (some .int), Cond.methodLink RX3 52 yX3_leastCost]
def wsL_scans_r7 : List Cond := [Cond.instanceMethod yX3_leastCost, Cond.selects RX3 yX3_leastCost yX3_leastCost, Cond.code yX3_leastCost cX3_leastCost 6 (some .int), Cond.methodLink RX3 69 yX3_canTake, Cond.instanceMethod yX3_canTake, Cond.selects RX3 yX3_canTake yX3_canTake, Cond.code yX3_canTake cX3_canTake 4 (some .boolean), Cond.methodLink RX3 73 yX3_costWith, Cond.instanceMethod yX3_costWith, Cond.selects RX3 yX3_costWith yX3_costWith, Cond.code yX3_costWith cX3_costWith 4 (some .int), Cond.methodLink RX3 56 yX3_assign, Cond.instanceMethod yX3_assign, Cond.selects RX3 yX3_assign yX3_assign, Cond.code yX3_assign cX3_assign 2 none, Cond.fieldLink RX3 77 "TouchTracker$Matching" "taken" "I", Cond.fieldLink RX3 23 "TouchTracker$Matching" "assigned" "[I", Cond.methodLink RX3 80 yX3_firstBest, Cond.instanceMethod yX3_firstBest, Cond.selects RX3 yX3_firstBest yX3_firstBest, Cond.code yX3_firstBest cX3_firstBest 4 (some .int), Cond.methodLink RX9 274 yX6_takeFrame, Cond.instanceMethod yX6_takeFrame, Cond.selects RX6 yX6_takeFrame yX6_takeFrame]
def wsL_scans_r8 : List Cond := [Cond.code yX6_takeFrame cX6_takeFrame 5 (some .int), Cond.methodLink RX6 59 yX6_downSet, Cond.instanceMethod yX6_downSet, Cond.selects RX6 yX6_downSet yX6_downSet, Cond.code yX6_downSet cX6_downSet 3 (some .int), Cond.methodLink RX6 63 yX6_moveTracks, Cond.instanceMethod yX6_moveTracks, Cond.selects RX6 yX6_moveTracks yX6_moveTracks, Cond.code yX6_moveTracks cX6_moveTracks 6 none, Cond.methodLink RX6 71 yX3_contactOf, Cond.instanceMethod yX3_contactOf, Cond.selects RX3 yX3_contactOf yX3_contactOf, Cond.code yX3_contactOf cX3_contactOf 2 (some .int), Cond.methodLink RX6 77 yX1_rowOf, Cond.methodLink RX6 82 yX1_columnOf, Cond.methodLink RX6 85 yX8_follow, Cond.instanceMethod yX8_follow, Cond.selects RX8 yX8_follow yX8_follow, Cond.code yX8_follow cX8_follow 3 none, Cond.methodLink RX6 89 yX8_miss, Cond.instanceMethod yX8_miss, Cond.selects RX8 yX8_miss yX8_miss, Cond.code yX8_miss cX8_miss 2 none, Cond.methodLink RX6 67 yX6_startTracks]
def wsL_scans_r9 : List Cond := [Cond.instanceMethod yX6_startTracks, Cond.selects RX6 yX6_startTracks yX6_startTracks, Cond.code yX6_startTracks cX6_startTracks 6 none, Cond.methodLink RX6 93 yX3_nextUnassigned, Cond.instanceMethod yX3_nextUnassigned, Cond.selects RX3 yX3_nextUnassigned yX3_nextUnassigned, Cond.code yX3_nextUnassigned cX3_nextUnassigned 3 (some .int), Cond.methodLink RX6 99 yX8_goDown, Cond.instanceMethod yX8_goDown, Cond.selects RX8 yX8_goDown yX8_goDown, Cond.code yX8_goDown cX8_goDown 3 none, Cond.methodLink RX9 239 yX6_downSet, Cond.methodLink RL 80 yL_downSet, Cond.static yL_downSet, Cond.initialized RL, Cond.code yL_downSet cL_downSet 3 (some .int), Cond.methodLink RL 40 yX9_isDown, Cond.instanceMethod yX9_isDown, Cond.selects RX9 yX9_isDown yX9_isDown, Cond.code yX9_isDown cX9_isDown 2 (some .boolean), Cond.methodLink RX9 203 yX9_requireTrack, Cond.static yX9_requireTrack, Cond.code yX9_requireTrack cX9_requireTrack 1 none, Cond.classLink RX9 255 "java/lang/IndexOutOfBoundsException"]
def wsL_scans_r10 : List Cond := [Cond.initialized "java/lang/IndexOutOfBoundsException", Cond.methodLink RL 17 yX9_downs, Cond.instanceMethod yX9_downs, Cond.selects RX9 yX9_downs yX9_downs, Cond.code yX9_downs cX9_downs 1 (some .int), Cond.methodLink RL 20 yX9_ups, Cond.instanceMethod yX9_ups, Cond.selects RX9 yX9_ups yX9_ups, Cond.code yX9_ups cX9_ups 1 (some .int), Cond.methodLink RL 11 yX9_frames, Cond.instanceMethod yX9_frames, Cond.selects RX9 yX9_frames yX9_frames, Cond.code yX9_frames cX9_frames 1 (some .int), Cond.methodLink RL 84 yX9_match, Cond.instanceMethod yX9_match, Cond.selects RX9 yX9_match yX9_match, Cond.code yX9_match cX9_match 2 (some .int), Cond.methodLink RX9 227 yX9_findMatching, Cond.instanceMethod yX9_findMatching, Cond.selects RX9 yX9_findMatching yX9_findMatching, Cond.code yX9_findMatching cX9_findMatching 1 none, Cond.methodLink RX9 190 yX9_findContacts, Cond.instanceMethod yX9_findContacts, Cond.selects RX9 yX9_findContacts yX9_findContacts]
def wsL_scans_r11 : List Cond := [Cond.code yX9_findContacts cX9_findContacts 1 none, Cond.methodLink RX9 230 yX3_contactOf, Cond.methodLink RL 87 yX9_contact, Cond.instanceMethod yX9_contact, Cond.selects RX9 yX9_contact yX9_contact, Cond.code yX9_contact cX9_contact 3 (some .int), Cond.methodLink RX9 194 yX9_requireContactNumber, Cond.static yX9_requireContactNumber, Cond.code yX9_requireContactNumber cX9_requireContactNumber 1 none, Cond.methodLink RX9 197 yX9_requirePart, Cond.static yX9_requirePart, Cond.code yX9_requirePart cX9_requirePart 1 none, Cond.classLink RX9 65 "java/lang/IllegalArgumentException", Cond.initialized "java/lang/IllegalArgumentException", Cond.methodLink RX9 200 yX1_partOf, Cond.instanceMethod yX1_partOf, Cond.selects RX1 yX1_partOf yX1_partOf, Cond.code yX1_partOf cX1_partOf 3 (some .int), Cond.methodLink RL 26 yX9_raw, Cond.instanceMethod yX9_raw, Cond.selects RX9 yX9_raw yX9_raw, Cond.code yX9_raw cX9_raw 3 (some .int), Cond.methodLink RX9 61 yX9_requireCell, Cond.static yX9_requireCell]
def wsL_scans_r12 : List Cond := [Cond.code yX9_requireCell cX9_requireCell 2 none, Cond.methodLink RX9 251 yX9_isOnPanel, Cond.methodLink RX9 80 yX9_cellAt, Cond.methodLink RX9 95 yX4_rawOf, Cond.instanceMethod yX4_rawOf, Cond.selects RX4 yX4_rawOf yX4_rawOf, Cond.code yX4_rawOf cX4_rawOf 2 (some .int), Cond.methodLink RL 90 yX9_scan, Cond.instanceMethod yX9_scan, Cond.selects RX9 yX9_scan yX9_scan, Cond.code yX9_scan cX9_scan 1 (some .int), Cond.fieldLink RX9 22 "TouchTracker" "history" "LTouchTracker$History;", Cond.methodLink RX9 72 yX2_save, Cond.instanceMethod yX2_save, Cond.selects RX2 yX2_save yX2_save, Cond.initialized RX2, Cond.code yX2_save cX2_save 2 none, Cond.fieldLink RX2 16 "TouchTracker$History" "count" "I", Cond.fieldLink RX2 11 "TouchTracker$History" "saved" "[LTouchTracker$State;", Cond.methodLink RX2 20 yX2_dropOldest, Cond.instanceMethod yX2_dropOldest, Cond.selects RX2 yX2_dropOldest yX2_dropOldest, Cond.code yX2_dropOldest cX2_dropOldest 3 none, Cond.methodLink RX2 23 yX6_copyFrom]
def wsL_scans_r13 : List Cond := [Cond.methodLink RL 93 yL_bits, Cond.static yL_bits, Cond.code yL_bits cL_bits 3 (some .int), Cond.methodLink RL 33 yX9_track, Cond.instanceMethod yX9_track, Cond.selects RX9 yX9_track yX9_track, Cond.code yX9_track cX9_track 3 (some .int), Cond.methodLink RX9 216 yX8_partOf, Cond.instanceMethod yX8_partOf, Cond.selects RX8 yX8_partOf yX8_partOf, Cond.code yX8_partOf cX8_partOf 2 (some .int)]
def wsL_scans : List Cond := .code yL_scans cL_scans 12 (some .boolean) :: ((wsL_scans_r1 ++ (wsL_scans_r2 ++ (wsL_scans_r3 ++ (wsL_scans_r4 ++ (wsL_scans_r5 ++ (wsL_scans_r6 ++ (wsL_scans_r7 ++ (wsL_scans_r8 ++ (wsL_scans_r9 ++ (wsL_scans_r10 ++ (wsL_scans_r11 ++ (wsL_scans_r12 ++ wsL_scans_r13)))))))))))) ++ wsX90 ++ wsX60 ++ wsX40 ++ wsX80 ++ wsX50 ++ wsX10 ++ wsX30 ++ wsX20 ++ (vx_atS RX9 259 "java/lang/IndexOutOfBoundsException" ["java/lang/RuntimeException", "java/lang/Exception"]).filter goodWord ++ (vx_atS RX9 69 "java/lang/IllegalArgumentException" ["java/lang/RuntimeException", "java/lang/Exception"]).filter goodWord)
def wsL_presses_r1 : List Cond := [Cond.arrayClass .int, Cond.methodLink RL 26 yX9_raw, Cond.instanceMethod yX9_raw, Cond.selects RX9 yX9_raw yX9_raw, Cond.initialized RX9, Cond.code yX9_raw cX9_raw 3 (some .int), Cond.fieldLink RX9 12 "TouchTracker" "state" "LTouchTracker$State;", Cond.methodLink RX9 61 yX9_requireCell, Cond.static yX9_requireCell, Cond.code yX9_requireCell cX9_requireCell 2 none, Cond.classLink RX9 255 "java/lang/IndexOutOfBoundsException", Cond.initialized "java/lang/IndexOutOfBoundsException", Cond.methodLink RX9 251 yX9_isOnPanel, Cond.static yX9_isOnPanel, Cond.code yX9_isOnPanel cX9_isOnPanel 2 (some .boolean), Cond.methodLink RX9 80 yX9_cellAt, Cond.static yX9_cellAt, Cond.code yX9_cellAt cX9_cellAt 2 (some .int), Cond.methodLink RX9 95 yX4_rawOf, Cond.instanceMethod yX4_rawOf, Cond.selects RX4 yX4_rawOf yX4_rawOf, Cond.initialized RX4, Cond.code yX4_rawOf cX4_rawOf 2 (some .int), Cond.fieldLink RX4 9 "TouchTracker$Panel" "raws" "[I"]
def wsL_presses_r2 : List Cond := [Cond.static yX9_isCell, Cond.code yX9_isCell cX9_isCell 1 (some .boolean), Cond.methodLink RL 74 yX9_press, Cond.instanceMethod yX9_press, Cond.selects RX9 yX9_press yX9_press, Cond.code yX9_press cX9_press 4 (some .int), Cond.classLink RX9 65 "java/lang/IllegalArgumentException", Cond.initialized "java/lang/IllegalArgumentException", Cond.fieldLink RX9 22 "TouchTracker" "history" "LTouchTracker$History;", Cond.methodLink RX9 72 yX2_save, Cond.instanceMethod yX2_save, Cond.selects RX2 yX2_save yX2_save, Cond.initialized RX2, Cond.code yX2_save cX2_save 2 none, Cond.fieldLink RX2 16 "TouchTracker$History" "count" "I", Cond.fieldLink RX2 11 "TouchTracker$History" "saved" "[LTouchTracker$State;", Cond.methodLink RX2 20 yX2_dropOldest, Cond.instanceMethod yX2_dropOldest, Cond.selects RX2 yX2_dropOldest yX2_dropOldest, Cond.code yX2_dropOldest cX2_dropOldest 3 none, Cond.methodLink RX2 23 yX6_copyFrom, Cond.instanceMethod yX6_copyFrom, Cond.selects RX6 yX6_copyFrom yX6_copyFrom, Cond.initialized RX6]
def wsL_presses_r3 : List Cond := [Cond.code yX6_copyFrom cX6_copyFrom 3 none, Cond.fieldLink RX6 12 "TouchTracker$State" "panel" "LTouchTracker$Panel;", Cond.fieldLink RX6 18 "TouchTracker$State" "settings" "[I", Cond.methodLink RX6 31 arraycopyName, Cond.native arraycopyName, Cond.static arraycopyName, Cond.initialized "java/lang/System", Cond.fieldLink RX6 24 "TouchTracker$State" "tracks" "[LTouchTracker$Track;", Cond.fieldLink RX6 45 "TouchTracker$State" "frameCount" "I", Cond.fieldLink RX6 49 "TouchTracker$State" "downCount" "I", Cond.fieldLink RX6 52 "TouchTracker$State" "upCount" "I", Cond.methodLink RX6 38 yX4_copyFrom, Cond.instanceMethod yX4_copyFrom, Cond.selects RX4 yX4_copyFrom yX4_copyFrom, Cond.code yX4_copyFrom cX4_copyFrom 2 none, Cond.methodLink RX4 38 arraycopyName, Cond.fieldLink RX4 15 "TouchTracker$Panel" "baselines" "[I", Cond.methodLink RX6 42 yX8_copyFrom, Cond.instanceMethod yX8_copyFrom, Cond.selects RX8 yX8_copyFrom yX8_copyFrom, Cond.initialized RX8, Cond.code yX8_copyFrom cX8_copyFrom 2 none, Cond.fieldLink RX8 9 "TouchTracker$Track" "down" "Z", Cond.fieldLink RX8 15 "TouchTracker$Track" "row" "I"]
def wsL_presses_r4 : List Cond := [Cond.fieldLink RX8 19 "TouchTracker$Track" "column" "I", Cond.fieldLink RX8 22 "TouchTracker$Track" "age" "I", Cond.fieldLink RX8 25 "TouchTracker$Track" "missed" "I", Cond.methodLink RX9 91 yX4_pressAt, Cond.instanceMethod yX4_pressAt, Cond.selects RX4 yX4_pressAt yX4_pressAt, Cond.code yX4_pressAt cX4_pressAt 6 none, Cond.methodLink RX4 34 yX4_raise, Cond.instanceMethod yX4_raise, Cond.selects RX4 yX4_raise yX4_raise, Cond.code yX4_raise cX4_raise 6 none]
def wsL_presses : List Cond := .code yL_presses cL_presses 11 (some .boolean) :: ((wsL_presses_r1 ++ (wsL_presses_r2 ++ (wsL_presses_r3 ++ wsL_presses_r4))) ++ wsX90 ++ wsX60 ++ wsX40 ++ wsX20 ++ wsX80 ++ (vx_atS RX9 259 "java/lang/IndexOutOfBoundsException" ["java/lang/RuntimeException", "java/lang/Exception"]).filter goodWord ++ (vx_atS RX9 69 "java/lang/IllegalArgumentException" ["java/lang/RuntimeException", "java/lang/Exception"]).filter goodWord)
def wsL_acts_r1 : List Cond := [Cond.methodLink RL 44 yL_up, Cond.static yL_up, Cond.initialized RL, Cond.code yL_up cL_up 2 (some .int), Cond.constant RL 8 (2147483647), Cond.methodLink RL 49 yX9_release, Cond.instanceMethod yX9_release, Cond.selects RX9 yX9_release yX9_release, Cond.initialized RX9, Cond.code yX9_release cX9_release 1 (some .int), Cond.fieldLink RX9 22 "TouchTracker" "history" "LTouchTracker$History;", Cond.fieldLink RX9 12 "TouchTracker" "state" "LTouchTracker$State;", Cond.methodLink RX9 72 yX2_save, Cond.instanceMethod yX2_save, Cond.selects RX2 yX2_save yX2_save, Cond.initialized RX2, Cond.code yX2_save cX2_save 2 none, Cond.fieldLink RX2 16 "TouchTracker$History" "count" "I", Cond.fieldLink RX2 11 "TouchTracker$History" "saved" "[LTouchTracker$State;", Cond.methodLink RX2 20 yX2_dropOldest, Cond.instanceMethod yX2_dropOldest, Cond.selects RX2 yX2_dropOldest yX2_dropOldest, Cond.code yX2_dropOldest cX2_dropOldest 3 none, Cond.methodLink RX2 23 yX6_copyFrom]
def wsL_acts_r2 : List Cond := [Cond.instanceMethod yX6_copyFrom, Cond.selects RX6 yX6_copyFrom yX6_copyFrom, Cond.initialized RX6, Cond.code yX6_copyFrom cX6_copyFrom 3 none, Cond.fieldLink RX6 12 "TouchTracker$State" "panel" "LTouchTracker$Panel;", Cond.fieldLink RX6 18 "TouchTracker$State" "settings" "[I", Cond.methodLink RX6 31 arraycopyName, Cond.native arraycopyName, Cond.static arraycopyName, Cond.initialized "java/lang/System", Cond.fieldLink RX6 24 "TouchTracker$State" "tracks" "[LTouchTracker$Track;", Cond.fieldLink RX6 45 "TouchTracker$State" "frameCount" "I", Cond.fieldLink RX6 49 "TouchTracker$State" "downCount" "I", Cond.fieldLink RX6 52 "TouchTracker$State" "upCount" "I", Cond.methodLink RX6 38 yX4_copyFrom, Cond.instanceMethod yX4_copyFrom, Cond.selects RX4 yX4_copyFrom yX4_copyFrom, Cond.initialized RX4, Cond.code yX4_copyFrom cX4_copyFrom 2 none, Cond.fieldLink RX4 9 "TouchTracker$Panel" "raws" "[I", Cond.methodLink RX4 38 arraycopyName, Cond.fieldLink RX4 15 "TouchTracker$Panel" "baselines" "[I", Cond.methodLink RX6 42 yX8_copyFrom, Cond.instanceMethod yX8_copyFrom]
def wsL_acts_r3 : List Cond := [Cond.selects RX8 yX8_copyFrom yX8_copyFrom, Cond.initialized RX8, Cond.code yX8_copyFrom cX8_copyFrom 2 none, Cond.fieldLink RX8 9 "TouchTracker$Track" "down" "Z", Cond.fieldLink RX8 15 "TouchTracker$Track" "row" "I", Cond.fieldLink RX8 19 "TouchTracker$Track" "column" "I", Cond.fieldLink RX8 22 "TouchTracker$Track" "age" "I", Cond.fieldLink RX8 25 "TouchTracker$Track" "missed" "I", Cond.methodLink RX9 99 yX4_clearRaw, Cond.instanceMethod yX4_clearRaw, Cond.selects RX4 yX4_clearRaw yX4_clearRaw, Cond.code yX4_clearRaw cX4_clearRaw 3 (some .int), Cond.methodLink RL 23 yX9_contacts, Cond.instanceMethod yX9_contacts, Cond.selects RX9 yX9_contacts yX9_contacts, Cond.code yX9_contacts cX9_contacts 1 (some .int), Cond.fieldLink RX9 36 "TouchTracker" "contactList" "LTouchTracker$Contacts;", Cond.methodLink RX9 190 yX9_findContacts, Cond.instanceMethod yX9_findContacts, Cond.selects RX9 yX9_findContacts yX9_findContacts, Cond.code yX9_findContacts cX9_findContacts 1 none, Cond.fieldLink RX9 29 "TouchTracker" "regionMap" "LTouchTracker$Regions;", Cond.methodLink RX9 176 yX5_find, Cond.instanceMethod yX5_find]
def wsL_acts_r4 : List Cond := [Cond.selects RX5 yX5_find yX5_find, Cond.initialized RX5, Cond.code yX5_find cX5_find 4 none, Cond.fieldLink RX5 26 "TouchTracker$Regions" "palm" "I", Cond.fieldLink RX5 30 "TouchTracker$Regions" "sharp" "I", Cond.fieldLink RX5 9 "TouchTracker$Regions" "regionOf" "[I", Cond.methodLink RX5 37 yX4_signalOf, Cond.instanceMethod yX4_signalOf, Cond.selects RX4 yX4_signalOf yX4_signalOf, Cond.code yX4_signalOf cX4_signalOf 3 (some .int), Cond.methodLink RX5 43 yX5_joinAll, Cond.instanceMethod yX5_joinAll, Cond.selects RX5 yX5_joinAll yX5_joinAll, Cond.code yX5_joinAll cX5_joinAll 3 (some .boolean), Cond.methodLink RX5 51 yX5_join, Cond.instanceMethod yX5_join, Cond.selects RX5 yX5_join yX5_join, Cond.code yX5_join cX5_join 5 (some .boolean), Cond.static yX9_isCell, Cond.code yX9_isCell cX9_isCell 1 (some .boolean), Cond.methodLink RX5 47 yX5_measure, Cond.instanceMethod yX5_measure, Cond.selects RX5 yX5_measure yX5_measure, Cond.code yX5_measure cX5_measure 5 none]
def wsL_acts_r5 : List Cond := [Cond.fieldLink RX5 15 "TouchTracker$Regions" "sizes" "[I", Cond.fieldLink RX5 18 "TouchTracker$Regions" "greatest" "[I", Cond.methodLink RX9 268 yX1_find, Cond.instanceMethod yX1_find, Cond.selects RX1 yX1_find yX1_find, Cond.initialized RX1, Cond.code yX1_find cX1_find 5 none, Cond.fieldLink RX1 9 "TouchTracker$Contacts" "candidates" "[I", Cond.fieldLink RX1 41 "TouchTracker$Contacts" "count" "I", Cond.methodLink RX1 27 yX5_kindAround, Cond.instanceMethod yX5_kindAround, Cond.selects RX5 yX5_kindAround yX5_kindAround, Cond.code yX5_kindAround cX5_kindAround 3 (some .int), Cond.methodLink RX1 33 yX1_isPeak, Cond.static yX1_isPeak, Cond.code yX1_isPeak cX1_isPeak 7 (some .boolean), Cond.methodLink RX1 52 yX4_signalOf, Cond.methodLink RX1 57 yX4_signalAt, Cond.instanceMethod yX4_signalAt, Cond.selects RX4 yX4_signalAt yX4_signalAt, Cond.code yX4_signalAt cX4_signalAt 3 (some .int), Cond.static yX9_isOnPanel, Cond.code yX9_isOnPanel cX9_isOnPanel 2 (some .boolean), Cond.static yX9_cellAt]
def wsL_acts_r6 : List Cond := [Cond.code yX9_cellAt cX9_cellAt 2 (some .int), Cond.methodLink RX4 30 yX4_signalOf, Cond.methodLink RX1 37 yX1_massAround, Cond.static yX1_massAround, Cond.code yX1_massAround cX1_massAround 5 (some .int), Cond.methodLink RX1 45 yX1_heavierThan, Cond.instanceMethod yX1_heavierThan, Cond.selects RX1 yX1_heavierThan yX1_heavierThan, Cond.code yX1_heavierThan cX1_heavierThan 5 (some .int), Cond.methodLink RX1 48 yX1_add, Cond.instanceMethod yX1_add, Cond.selects RX1 yX1_add yX1_add, Cond.code yX1_add cX1_add 11 none, Cond.fieldLink RX1 15 "TouchTracker$Contacts" "rows" "[I", Cond.fieldLink RX1 18 "TouchTracker$Contacts" "columns" "[I", Cond.fieldLink RX1 21 "TouchTracker$Contacts" "masses" "[I", Cond.fieldLink RX1 24 "TouchTracker$Contacts" "peaks" "[I", Cond.methodLink RL 52 yX9_meanSignal, Cond.instanceMethod yX9_meanSignal, Cond.selects RX9 yX9_meanSignal yX9_meanSignal, Cond.code yX9_meanSignal cX9_meanSignal 5 (some .float), Cond.methodLink RX9 173 yX4_signalOf, Cond.methodLink RL 56 yX9_setRaw, Cond.instanceMethod yX9_setRaw]
def wsL_acts_r7 : List Cond := [Cond.selects RX9 yX9_setRaw yX9_setRaw, Cond.code yX9_setRaw cX9_setRaw 4 (some .int), Cond.classLink RX9 65 "java/lang/IllegalArgumentException", Cond.initialized "java/lang/IllegalArgumentException", Cond.methodLink RX9 61 yX9_requireCell, Cond.static yX9_requireCell, Cond.code yX9_requireCell cX9_requireCell 2 none, Cond.classLink RX9 255 "java/lang/IndexOutOfBoundsException", Cond.initialized "java/lang/IndexOutOfBoundsException", Cond.methodLink RX9 251 yX9_isOnPanel, Cond.methodLink RX9 80 yX9_cellAt, Cond.methodLink RX9 84 yX4_replaceRaw, Cond.instanceMethod yX4_replaceRaw, Cond.selects RX4 yX4_replaceRaw yX4_replaceRaw, Cond.code yX4_replaceRaw cX4_replaceRaw 4 (some .int), Cond.methodLink RL 60 yX9_calibrate, Cond.instanceMethod yX9_calibrate, Cond.selects RX9 yX9_calibrate yX9_calibrate, Cond.code yX9_calibrate cX9_calibrate 1 (some .int), Cond.methodLink RX9 103 yX4_takeBaselines, Cond.instanceMethod yX4_takeBaselines, Cond.selects RX4 yX4_takeBaselines yX4_takeBaselines, Cond.code yX4_takeBaselines cX4_takeBaselines 3 (some .int), Cond.methodLink RL 30 yX9_signal]
def wsL_acts_r8 : List Cond := [Cond.instanceMethod yX9_signal, Cond.selects RX9 yX9_signal yX9_signal, Cond.code yX9_signal cX9_signal 3 (some .int), Cond.methodLink RL 63 yX9_set, Cond.instanceMethod yX9_set, Cond.selects RX9 yX9_set yX9_set, Cond.code yX9_set cX9_set 4 (some .int), Cond.fieldLink RX9 110 "TouchTracker" "LEAST_VALUES" "[I", Cond.fieldLink RX9 114 "TouchTracker" "GREATEST_VALUES" "[I", Cond.methodLink RX9 106 yX9_requireSetting, Cond.static yX9_requireSetting, Cond.code yX9_requireSetting cX9_requireSetting 1 none, Cond.methodLink RL 36 yX9_setting, Cond.instanceMethod yX9_setting, Cond.selects RX9 yX9_setting yX9_setting, Cond.code yX9_setting cX9_setting 2 (some .int), Cond.methodLink RL 26 yX9_raw, Cond.instanceMethod yX9_raw, Cond.selects RX9 yX9_raw yX9_raw, Cond.code yX9_raw cX9_raw 3 (some .int), Cond.methodLink RX9 95 yX4_rawOf, Cond.instanceMethod yX4_rawOf, Cond.selects RX4 yX4_rawOf yX4_rawOf, Cond.code yX4_rawOf cX4_rawOf 2 (some .int)]
def wsL_acts_r9 : List Cond := [Cond.methodLink RL 66 yL_scans, Cond.static yL_scans, Cond.code yL_scans cL_scans 12 (some .boolean), Cond.arrayClass .int, Cond.methodLink RL 77 yX9_downIfScanned, Cond.instanceMethod yX9_downIfScanned, Cond.selects RX9 yX9_downIfScanned yX9_downIfScanned, Cond.code yX9_downIfScanned cX9_downIfScanned 1 (some .int), Cond.fieldLink RX9 16 "TouchTracker" "rehearsal" "LTouchTracker$State;", Cond.methodLink RX9 236 yX6_copyFrom, Cond.methodLink RX9 122 yX9_scanFrame, Cond.instanceMethod yX9_scanFrame, Cond.selects RX9 yX9_scanFrame yX9_scanFrame, Cond.code yX9_scanFrame cX9_scanFrame 2 (some .int), Cond.fieldLink RX9 43 "TouchTracker" "matching" "LTouchTracker$Matching;", Cond.methodLink RX9 271 yX3_find, Cond.instanceMethod yX3_find, Cond.selects RX3 yX3_find yX3_find, Cond.initialized RX3, Cond.code yX3_find cX3_find 7 none, Cond.fieldLink RX3 32 "TouchTracker$Matching" "count" "I", Cond.fieldLink RX3 16 "TouchTracker$Matching" "noneCosts" "[I", Cond.fieldLink RX3 11 "TouchTracker$Matching" "pairCosts" "[[I", Cond.fieldLink RX3 20 "TouchTracker$Matching" "leastCosts" "[[I"]
def wsL_acts_r10 : List Cond := [Cond.methodLink RX3 48 yX3_pairCost, Cond.static yX3_pairCost, Cond.code yX3_pairCost cX3_pairCost 5 (some .int), Cond.methodLink RX3 59 yX1_rowOf, Cond.instanceMethod yX1_rowOf, Cond.selects RX1 yX1_rowOf yX1_rowOf, Cond.code yX1_rowOf cX1_rowOf 2 (some .int), Cond.methodLink RX1 68 yX1_isContact, Cond.instanceMethod yX1_isContact, Cond.selects RX1 yX1_isContact yX1_isContact, Cond.code yX1_isContact cX1_isContact 2 (some .boolean), Cond.methodLink RX3 63 yX1_columnOf, Cond.instanceMethod yX1_columnOf, Cond.selects RX1 yX1_columnOf yX1_columnOf, Cond.code yX1_columnOf cX1_columnOf 2 (some .int), Cond.methodLink RX3 66 yX8_squaredWayTo, Cond.instanceMethod yX8_squaredWayTo, Cond.selects RX8 yX8_squaredWayTo yX8_squaredWayTo, Cond.code yX8_squaredWayTo cX8_squaredWayTo 5 (some .int), Cond.methodLink RX3 52 yX3_leastCost, Cond.instanceMethod yX3_leastCost, Cond.selects RX3 yX3_leastCost yX3_leastCost, Cond.code yX3_leastCost cX3_leastCost 6 (some .int), Cond.methodLink RX3 69 yX3_canTake]
def wsL_acts_r11 : List Cond := [Cond.instanceMethod yX3_canTake, Cond.selects RX3 yX3_canTake yX3_canTake, Cond.code yX3_canTake cX3_canTake 4 (some .boolean), Cond.methodLink RX3 73 yX3_costWith, Cond.instanceMethod yX3_costWith, Cond.selects RX3 yX3_costWith yX3_costWith, Cond.code yX3_costWith cX3_costWith 4 (some .int), Cond.methodLink RX3 56 yX3_assign, Cond.instanceMethod yX3_assign, Cond.selects RX3 yX3_assign yX3_assign, Cond.code yX3_assign cX3_assign 2 none, Cond.fieldLink RX3 77 "TouchTracker$Matching" "taken" "I", Cond.fieldLink RX3 23 "TouchTracker$Matching" "assigned" "[I", Cond.methodLink RX3 80 yX3_firstBest, Cond.instanceMethod yX3_firstBest, Cond.selects RX3 yX3_firstBest yX3_firstBest, Cond.code yX3_firstBest cX3_firstBest 4 (some .int), Cond.methodLink RX9 274 yX6_takeFrame, Cond.instanceMethod yX6_takeFrame, Cond.selects RX6 yX6_takeFrame yX6_takeFrame, Cond.code yX6_takeFrame cX6_takeFrame 5 (some .int), Cond.methodLink RX6 59 yX6_downSet, Cond.instanceMethod yX6_downSet, Cond.selects RX6 yX6_downSet yX6_downSet]
def wsL_acts_r12 : List Cond := [Cond.code yX6_downSet cX6_downSet 3 (some .int), Cond.methodLink RX6 63 yX6_moveTracks, Cond.instanceMethod yX6_moveTracks, Cond.selects RX6 yX6_moveTracks yX6_moveTracks, Cond.code yX6_moveTracks cX6_moveTracks 6 none, Cond.methodLink RX6 71 yX3_contactOf, Cond.instanceMethod yX3_contactOf, Cond.selects RX3 yX3_contactOf yX3_contactOf, Cond.code yX3_contactOf cX3_contactOf 2 (some .int), Cond.methodLink RX6 77 yX1_rowOf, Cond.methodLink RX6 82 yX1_columnOf, Cond.methodLink RX6 85 yX8_follow, Cond.instanceMethod yX8_follow, Cond.selects RX8 yX8_follow yX8_follow, Cond.code yX8_follow cX8_follow 3 none, Cond.methodLink RX6 89 yX8_miss, Cond.instanceMethod yX8_miss, Cond.selects RX8 yX8_miss yX8_miss, Cond.code yX8_miss cX8_miss 2 none, Cond.methodLink RX6 67 yX6_startTracks, Cond.instanceMethod yX6_startTracks, Cond.selects RX6 yX6_startTracks yX6_startTracks, Cond.code yX6_startTracks cX6_startTracks 6 none, Cond.methodLink RX6 93 yX3_nextUnassigned]
def wsL_acts_r13 : List Cond := [Cond.instanceMethod yX3_nextUnassigned, Cond.selects RX3 yX3_nextUnassigned yX3_nextUnassigned, Cond.code yX3_nextUnassigned cX3_nextUnassigned 3 (some .int), Cond.methodLink RX6 99 yX8_goDown, Cond.instanceMethod yX8_goDown, Cond.selects RX8 yX8_goDown yX8_goDown, Cond.code yX8_goDown cX8_goDown 3 none, Cond.methodLink RX9 239 yX6_downSet, Cond.methodLink RL 80 yL_downSet, Cond.static yL_downSet, Cond.code yL_downSet cL_downSet 3 (some .int), Cond.methodLink RL 40 yX9_isDown, Cond.instanceMethod yX9_isDown, Cond.selects RX9 yX9_isDown yX9_isDown, Cond.code yX9_isDown cX9_isDown 2 (some .boolean), Cond.methodLink RX9 203 yX9_requireTrack, Cond.static yX9_requireTrack, Cond.code yX9_requireTrack cX9_requireTrack 1 none, Cond.methodLink RL 17 yX9_downs, Cond.instanceMethod yX9_downs, Cond.selects RX9 yX9_downs yX9_downs, Cond.code yX9_downs cX9_downs 1 (some .int), Cond.methodLink RL 20 yX9_ups, Cond.instanceMethod yX9_ups]
def wsL_acts_r14 : List Cond := [Cond.selects RX9 yX9_ups yX9_ups, Cond.code yX9_ups cX9_ups 1 (some .int), Cond.methodLink RL 11 yX9_frames, Cond.instanceMethod yX9_frames, Cond.selects RX9 yX9_frames yX9_frames, Cond.code yX9_frames cX9_frames 1 (some .int), Cond.methodLink RL 84 yX9_match, Cond.instanceMethod yX9_match, Cond.selects RX9 yX9_match yX9_match, Cond.code yX9_match cX9_match 2 (some .int), Cond.methodLink RX9 227 yX9_findMatching, Cond.instanceMethod yX9_findMatching, Cond.selects RX9 yX9_findMatching yX9_findMatching, Cond.code yX9_findMatching cX9_findMatching 1 none, Cond.methodLink RX9 230 yX3_contactOf, Cond.methodLink RL 87 yX9_contact, Cond.instanceMethod yX9_contact, Cond.selects RX9 yX9_contact yX9_contact, Cond.code yX9_contact cX9_contact 3 (some .int), Cond.methodLink RX9 194 yX9_requireContactNumber, Cond.static yX9_requireContactNumber, Cond.code yX9_requireContactNumber cX9_requireContactNumber 1 none, Cond.methodLink RX9 197 yX9_requirePart, Cond.static yX9_requirePart]
def wsL_acts_r15 : List Cond := [Cond.code yX9_requirePart cX9_requirePart 1 none, Cond.methodLink RX9 200 yX1_partOf, Cond.instanceMethod yX1_partOf, Cond.selects RX1 yX1_partOf yX1_partOf, Cond.code yX1_partOf cX1_partOf 3 (some .int), Cond.methodLink RL 90 yX9_scan, Cond.instanceMethod yX9_scan, Cond.selects RX9 yX9_scan yX9_scan, Cond.code yX9_scan cX9_scan 1 (some .int), Cond.methodLink RL 93 yL_bits, Cond.static yL_bits, Cond.code yL_bits cL_bits 3 (some .int), Cond.methodLink RL 33 yX9_track, Cond.instanceMethod yX9_track, Cond.selects RX9 yX9_track yX9_track, Cond.code yX9_track cX9_track 3 (some .int), Cond.methodLink RX9 216 yX8_partOf, Cond.instanceMethod yX8_partOf, Cond.selects RX8 yX8_partOf yX8_partOf, Cond.code yX8_partOf cX8_partOf 2 (some .int), Cond.methodLink RL 70 yL_presses, Cond.static yL_presses, Cond.code yL_presses cL_presses 11 (some .boolean), Cond.methodLink RL 74 yX9_press]
def wsL_acts_r16 : List Cond := [Cond.instanceMethod yX9_press, Cond.selects RX9 yX9_press yX9_press, Cond.code yX9_press cX9_press 4 (some .int), Cond.methodLink RX9 91 yX4_pressAt, Cond.instanceMethod yX4_pressAt, Cond.selects RX4 yX4_pressAt yX4_pressAt, Cond.code yX4_pressAt cX4_pressAt 6 none, Cond.methodLink RX4 34 yX4_raise, Cond.instanceMethod yX4_raise, Cond.selects RX4 yX4_raise yX4_raise, Cond.code yX4_raise cX4_raise 6 none]
def wsL_acts : List Cond := .code yL_acts cL_acts 8 (some .boolean) :: ((wsL_acts_r1 ++ (wsL_acts_r2 ++ (wsL_acts_r3 ++ (wsL_acts_r4 ++ (wsL_acts_r5 ++ (wsL_acts_r6 ++ (wsL_acts_r7 ++ (wsL_acts_r8 ++ (wsL_acts_r9 ++ (wsL_acts_r10 ++ (wsL_acts_r11 ++ (wsL_acts_r12 ++ (wsL_acts_r13 ++ (wsL_acts_r14 ++ (wsL_acts_r15 ++ wsL_acts_r16))))))))))))))) ++ wsX90 ++ wsX60 ++ wsX20 ++ wsX40 ++ wsX80 ++ wsX10 ++ wsX50 ++ wsX30 ++ (vx_atS RX9 69 "java/lang/IllegalArgumentException" ["java/lang/RuntimeException", "java/lang/Exception"]).filter goodWord ++ (vx_atS RX9 259 "java/lang/IndexOutOfBoundsException" ["java/lang/RuntimeException", "java/lang/Exception"]).filter goodWord)
def wsL_holds_r1 : List Cond := [Cond.methodLink RL 23 yX9_contacts, Cond.instanceMethod yX9_contacts, Cond.selects RX9 yX9_contacts yX9_contacts, Cond.initialized RX9, Cond.code yX9_contacts cX9_contacts 1 (some .int), Cond.fieldLink RX9 36 "TouchTracker" "contactList" "LTouchTracker$Contacts;", Cond.methodLink RX9 190 yX9_findContacts, Cond.instanceMethod yX9_findContacts, Cond.selects RX9 yX9_findContacts yX9_findContacts, Cond.code yX9_findContacts cX9_findContacts 1 none, Cond.fieldLink RX9 29 "TouchTracker" "regionMap" "LTouchTracker$Regions;", Cond.fieldLink RX9 12 "TouchTracker" "state" "LTouchTracker$State;", Cond.methodLink RX9 176 yX5_find, Cond.instanceMethod yX5_find, Cond.selects RX5 yX5_find yX5_find, Cond.initialized RX5, Cond.code yX5_find cX5_find 4 none, Cond.fieldLink RX5 26 "TouchTracker$Regions" "palm" "I", Cond.fieldLink RX5 30 "TouchTracker$Regions" "sharp" "I", Cond.fieldLink RX5 9 "TouchTracker$Regions" "regionOf" "[I", Cond.methodLink RX5 37 yX4_signalOf, Cond.instanceMethod yX4_signalOf, Cond.selects RX4 yX4_signalOf yX4_signalOf, Cond.initialized RX4]
def wsL_holds_r2 : List Cond := [Cond.code yX4_signalOf cX4_signalOf 3 (some .int), Cond.fieldLink RX4 9 "TouchTracker$Panel" "raws" "[I", Cond.fieldLink RX4 15 "TouchTracker$Panel" "baselines" "[I", Cond.methodLink RX5 43 yX5_joinAll, Cond.instanceMethod yX5_joinAll, Cond.selects RX5 yX5_joinAll yX5_joinAll, Cond.code yX5_joinAll cX5_joinAll 3 (some .boolean), Cond.methodLink RX5 51 yX5_join, Cond.instanceMethod yX5_join, Cond.selects RX5 yX5_join yX5_join, Cond.code yX5_join cX5_join 5 (some .boolean), Cond.static yX9_isCell, Cond.code yX9_isCell cX9_isCell 1 (some .boolean), Cond.methodLink RX5 47 yX5_measure, Cond.instanceMethod yX5_measure, Cond.selects RX5 yX5_measure yX5_measure, Cond.code yX5_measure cX5_measure 5 none, Cond.fieldLink RX5 15 "TouchTracker$Regions" "sizes" "[I", Cond.fieldLink RX5 18 "TouchTracker$Regions" "greatest" "[I", Cond.methodLink RX9 268 yX1_find, Cond.instanceMethod yX1_find, Cond.selects RX1 yX1_find yX1_find, Cond.initialized RX1, Cond.code yX1_find cX1_find 5 none]
def wsL_holds_r3 : List Cond := [Cond.fieldLink RX1 9 "TouchTracker$Contacts" "candidates" "[I", Cond.fieldLink RX1 41 "TouchTracker$Contacts" "count" "I", Cond.methodLink RX1 27 yX5_kindAround, Cond.instanceMethod yX5_kindAround, Cond.selects RX5 yX5_kindAround yX5_kindAround, Cond.code yX5_kindAround cX5_kindAround 3 (some .int), Cond.methodLink RX1 33 yX1_isPeak, Cond.static yX1_isPeak, Cond.code yX1_isPeak cX1_isPeak 7 (some .boolean), Cond.methodLink RX1 52 yX4_signalOf, Cond.methodLink RX1 57 yX4_signalAt, Cond.instanceMethod yX4_signalAt, Cond.selects RX4 yX4_signalAt yX4_signalAt, Cond.code yX4_signalAt cX4_signalAt 3 (some .int), Cond.static yX9_isOnPanel, Cond.code yX9_isOnPanel cX9_isOnPanel 2 (some .boolean), Cond.static yX9_cellAt, Cond.code yX9_cellAt cX9_cellAt 2 (some .int), Cond.methodLink RX4 30 yX4_signalOf, Cond.methodLink RX1 37 yX1_massAround, Cond.static yX1_massAround, Cond.code yX1_massAround cX1_massAround 5 (some .int), Cond.methodLink RX1 45 yX1_heavierThan, Cond.instanceMethod yX1_heavierThan]
def wsL_holds_r4 : List Cond := [Cond.selects RX1 yX1_heavierThan yX1_heavierThan, Cond.code yX1_heavierThan cX1_heavierThan 5 (some .int), Cond.methodLink RX1 48 yX1_add, Cond.instanceMethod yX1_add, Cond.selects RX1 yX1_add yX1_add, Cond.code yX1_add cX1_add 11 none, Cond.fieldLink RX1 15 "TouchTracker$Contacts" "rows" "[I", Cond.fieldLink RX1 18 "TouchTracker$Contacts" "columns" "[I", Cond.fieldLink RX1 21 "TouchTracker$Contacts" "masses" "[I", Cond.fieldLink RX1 24 "TouchTracker$Contacts" "peaks" "[I", Cond.methodLink RL 17 yX9_downs, Cond.instanceMethod yX9_downs, Cond.selects RX9 yX9_downs yX9_downs, Cond.code yX9_downs cX9_downs 1 (some .int), Cond.methodLink RL 20 yX9_ups, Cond.instanceMethod yX9_ups, Cond.selects RX9 yX9_ups yX9_ups, Cond.code yX9_ups cX9_ups 1 (some .int), Cond.methodLink RL 80 yL_downSet, Cond.static yL_downSet, Cond.initialized RL, Cond.code yL_downSet cL_downSet 3 (some .int), Cond.methodLink RL 40 yX9_isDown, Cond.instanceMethod yX9_isDown]
def wsL_holds_r5 : List Cond := [Cond.selects RX9 yX9_isDown yX9_isDown, Cond.code yX9_isDown cX9_isDown 2 (some .boolean), Cond.methodLink RX9 203 yX9_requireTrack, Cond.static yX9_requireTrack, Cond.code yX9_requireTrack cX9_requireTrack 1 none, Cond.classLink RX9 255 "java/lang/IndexOutOfBoundsException", Cond.initialized "java/lang/IndexOutOfBoundsException", Cond.methodLink RL 93 yL_bits, Cond.static yL_bits, Cond.code yL_bits cL_bits 3 (some .int), Cond.methodLink RL 30 yX9_signal, Cond.instanceMethod yX9_signal, Cond.selects RX9 yX9_signal yX9_signal, Cond.code yX9_signal cX9_signal 3 (some .int), Cond.methodLink RX9 61 yX9_requireCell, Cond.static yX9_requireCell, Cond.code yX9_requireCell cX9_requireCell 2 none, Cond.methodLink RX9 251 yX9_isOnPanel, Cond.methodLink RX9 80 yX9_cellAt, Cond.methodLink RX9 173 yX4_signalOf, Cond.methodLink RL 96 yX9_regionSize, Cond.instanceMethod yX9_regionSize, Cond.selects RX9 yX9_regionSize yX9_regionSize, Cond.code yX9_regionSize cX9_regionSize 3 (some .int)]
def wsL_holds_r6 : List Cond := [Cond.methodLink RX9 179 yX5_sizeAround, Cond.instanceMethod yX5_sizeAround, Cond.selects RX5 yX5_sizeAround yX5_sizeAround, Cond.code yX5_sizeAround cX5_sizeAround 3 (some .int), Cond.methodLink RL 99 yX9_regionKind, Cond.instanceMethod yX9_regionKind, Cond.selects RX9 yX9_regionKind yX9_regionKind, Cond.code yX9_regionKind cX9_regionKind 3 (some .int), Cond.methodLink RX9 182 yX5_kindAround, Cond.methodLink RL 36 yX9_setting, Cond.instanceMethod yX9_setting, Cond.selects RX9 yX9_setting yX9_setting, Cond.code yX9_setting cX9_setting 2 (some .int), Cond.methodLink RX9 106 yX9_requireSetting, Cond.static yX9_requireSetting, Cond.code yX9_requireSetting cX9_requireSetting 1 none, Cond.methodLink RL 102 yX9_regions, Cond.instanceMethod yX9_regions, Cond.selects RX9 yX9_regions yX9_regions, Cond.code yX9_regions cX9_regions 2 (some .int), Cond.classLink RX9 65 "java/lang/IllegalArgumentException", Cond.initialized "java/lang/IllegalArgumentException", Cond.methodLink RX9 187 yX5_countOf, Cond.instanceMethod yX5_countOf]
def wsL_holds_r7 : List Cond := [Cond.selects RX5 yX5_countOf yX5_countOf, Cond.code yX5_countOf cX5_countOf 4 (some .int), Cond.methodLink RX5 59 yX5_kindAround, Cond.methodLink RL 87 yX9_contact, Cond.instanceMethod yX9_contact, Cond.selects RX9 yX9_contact yX9_contact, Cond.code yX9_contact cX9_contact 3 (some .int), Cond.methodLink RX9 194 yX9_requireContactNumber, Cond.static yX9_requireContactNumber, Cond.code yX9_requireContactNumber cX9_requireContactNumber 1 none, Cond.methodLink RX9 197 yX9_requirePart, Cond.static yX9_requirePart, Cond.code yX9_requirePart cX9_requirePart 1 none, Cond.methodLink RX9 200 yX1_partOf, Cond.instanceMethod yX1_partOf, Cond.selects RX1 yX1_partOf yX1_partOf, Cond.code yX1_partOf cX1_partOf 3 (some .int), Cond.methodLink RX1 68 yX1_isContact, Cond.instanceMethod yX1_isContact, Cond.selects RX1 yX1_isContact yX1_isContact, Cond.code yX1_isContact cX1_isContact 2 (some .boolean), Cond.methodLink RL 52 yX9_meanSignal, Cond.instanceMethod yX9_meanSignal, Cond.selects RX9 yX9_meanSignal yX9_meanSignal]
def wsL_holds_r8 : List Cond := [Cond.code yX9_meanSignal cX9_meanSignal 5 (some .float)]
def wsL_holds : List Cond := .code yL_holds cL_holds 12 (some .boolean) :: ((wsL_holds_r1 ++ (wsL_holds_r2 ++ (wsL_holds_r3 ++ (wsL_holds_r4 ++ (wsL_holds_r5 ++ (wsL_holds_r6 ++ (wsL_holds_r7 ++ wsL_holds_r8))))))) ++ wsX90 ++ wsX10 ++ wsX60 ++ wsX50 ++ wsX40 ++ wsX80 ++ (vx_atS RX9 259 "java/lang/IndexOutOfBoundsException" ["java/lang/RuntimeException", "java/lang/Exception"]).filter goodWord ++ (vx_atS RX9 69 "java/lang/IllegalArgumentException" ["java/lang/RuntimeException", "java/lang/Exception"]).filter goodWord)
def wsL_isMatched_r1 : List Cond := [Cond.arrayClass .int, Cond.methodLink RL 36 yX9_setting, Cond.instanceMethod yX9_setting, Cond.selects RX9 yX9_setting yX9_setting, Cond.initialized RX9, Cond.code yX9_setting cX9_setting 2 (some .int), Cond.fieldLink RX9 12 "TouchTracker" "state" "LTouchTracker$State;", Cond.methodLink RX9 106 yX9_requireSetting, Cond.static yX9_requireSetting, Cond.code yX9_requireSetting cX9_requireSetting 1 none, Cond.classLink RX9 255 "java/lang/IndexOutOfBoundsException", Cond.initialized "java/lang/IndexOutOfBoundsException", Cond.methodLink RL 84 yX9_match, Cond.instanceMethod yX9_match, Cond.selects RX9 yX9_match yX9_match, Cond.code yX9_match cX9_match 2 (some .int), Cond.fieldLink RX9 43 "TouchTracker" "matching" "LTouchTracker$Matching;", Cond.methodLink RX9 203 yX9_requireTrack, Cond.static yX9_requireTrack, Cond.code yX9_requireTrack cX9_requireTrack 1 none, Cond.methodLink RX9 227 yX9_findMatching, Cond.instanceMethod yX9_findMatching, Cond.selects RX9 yX9_findMatching yX9_findMatching, Cond.code yX9_findMatching cX9_findMatching 1 none]
def wsL_isMatched_r2 : List Cond := [Cond.fieldLink RX9 36 "TouchTracker" "contactList" "LTouchTracker$Contacts;", Cond.methodLink RX9 190 yX9_findContacts, Cond.instanceMethod yX9_findContacts, Cond.selects RX9 yX9_findContacts yX9_findContacts, Cond.code yX9_findContacts cX9_findContacts 1 none, Cond.fieldLink RX9 29 "TouchTracker" "regionMap" "LTouchTracker$Regions;", Cond.methodLink RX9 176 yX5_find, Cond.instanceMethod yX5_find, Cond.selects RX5 yX5_find yX5_find, Cond.initialized RX5, Cond.code yX5_find cX5_find 4 none, Cond.fieldLink RX5 26 "TouchTracker$Regions" "palm" "I", Cond.fieldLink RX5 30 "TouchTracker$Regions" "sharp" "I", Cond.fieldLink RX5 9 "TouchTracker$Regions" "regionOf" "[I", Cond.methodLink RX5 37 yX4_signalOf, Cond.instanceMethod yX4_signalOf, Cond.selects RX4 yX4_signalOf yX4_signalOf, Cond.initialized RX4, Cond.code yX4_signalOf cX4_signalOf 3 (some .int), Cond.fieldLink RX4 9 "TouchTracker$Panel" "raws" "[I", Cond.fieldLink RX4 15 "TouchTracker$Panel" "baselines" "[I", Cond.methodLink RX5 43 yX5_joinAll, Cond.instanceMethod yX5_joinAll, Cond.selects RX5 yX5_joinAll yX5_joinAll]
def wsL_isMatched_r3 : List Cond := [Cond.code yX5_joinAll cX5_joinAll 3 (some .boolean), Cond.methodLink RX5 51 yX5_join, Cond.instanceMethod yX5_join, Cond.selects RX5 yX5_join yX5_join, Cond.code yX5_join cX5_join 5 (some .boolean), Cond.static yX9_isCell, Cond.code yX9_isCell cX9_isCell 1 (some .boolean), Cond.methodLink RX5 47 yX5_measure, Cond.instanceMethod yX5_measure, Cond.selects RX5 yX5_measure yX5_measure, Cond.code yX5_measure cX5_measure 5 none, Cond.fieldLink RX5 15 "TouchTracker$Regions" "sizes" "[I", Cond.fieldLink RX5 18 "TouchTracker$Regions" "greatest" "[I", Cond.methodLink RX9 268 yX1_find, Cond.instanceMethod yX1_find, Cond.selects RX1 yX1_find yX1_find, Cond.initialized RX1, Cond.code yX1_find cX1_find 5 none, Cond.fieldLink RX1 9 "TouchTracker$Contacts" "candidates" "[I", Cond.fieldLink RX1 41 "TouchTracker$Contacts" "count" "I", Cond.methodLink RX1 27 yX5_kindAround, Cond.instanceMethod yX5_kindAround, Cond.selects RX5 yX5_kindAround yX5_kindAround, Cond.code yX5_kindAround cX5_kindAround 3 (some .int)]
def wsL_isMatched_r4 : List Cond := [Cond.methodLink RX1 33 yX1_isPeak, Cond.static yX1_isPeak, Cond.code yX1_isPeak cX1_isPeak 7 (some .boolean), Cond.methodLink RX1 52 yX4_signalOf, Cond.methodLink RX1 57 yX4_signalAt, Cond.instanceMethod yX4_signalAt, Cond.selects RX4 yX4_signalAt yX4_signalAt, Cond.code yX4_signalAt cX4_signalAt 3 (some .int), Cond.static yX9_isOnPanel, Cond.code yX9_isOnPanel cX9_isOnPanel 2 (some .boolean), Cond.static yX9_cellAt, Cond.code yX9_cellAt cX9_cellAt 2 (some .int), Cond.methodLink RX4 30 yX4_signalOf, Cond.methodLink RX1 37 yX1_massAround, Cond.static yX1_massAround, Cond.code yX1_massAround cX1_massAround 5 (some .int), Cond.methodLink RX1 45 yX1_heavierThan, Cond.instanceMethod yX1_heavierThan, Cond.selects RX1 yX1_heavierThan yX1_heavierThan, Cond.code yX1_heavierThan cX1_heavierThan 5 (some .int), Cond.methodLink RX1 48 yX1_add, Cond.instanceMethod yX1_add, Cond.selects RX1 yX1_add yX1_add, Cond.code yX1_add cX1_add 11 none]
def wsL_isMatched_r5 : List Cond := [Cond.fieldLink RX1 15 "TouchTracker$Contacts" "rows" "[I", Cond.fieldLink RX1 18 "TouchTracker$Contacts" "columns" "[I", Cond.fieldLink RX1 21 "TouchTracker$Contacts" "masses" "[I", Cond.fieldLink RX1 24 "TouchTracker$Contacts" "peaks" "[I", Cond.methodLink RX9 271 yX3_find, Cond.instanceMethod yX3_find, Cond.selects RX3 yX3_find yX3_find, Cond.initialized RX3, Cond.code yX3_find cX3_find 7 none, Cond.fieldLink RX3 32 "TouchTracker$Matching" "count" "I", Cond.fieldLink RX3 16 "TouchTracker$Matching" "noneCosts" "[I", Cond.fieldLink RX3 11 "TouchTracker$Matching" "pairCosts" "[[I", Cond.fieldLink RX3 20 "TouchTracker$Matching" "leastCosts" "[[I", Cond.methodLink RX3 48 yX3_pairCost, Cond.static yX3_pairCost, Cond.code yX3_pairCost cX3_pairCost 5 (some .int), Cond.methodLink RX3 59 yX1_rowOf, Cond.instanceMethod yX1_rowOf, Cond.selects RX1 yX1_rowOf yX1_rowOf, Cond.code yX1_rowOf cX1_rowOf 2 (some .int), Cond.methodLink RX1 68 yX1_isContact, Cond.instanceMethod yX1_isContact, Cond.selects RX1 yX1_isContact yX1_isContact, Cond.code yX1_isContact cX1_isContact 2 (some .boolean)]
def wsL_isMatched_r6 : List Cond := [Cond.methodLink RX3 63 yX1_columnOf, Cond.instanceMethod yX1_columnOf, Cond.selects RX1 yX1_columnOf yX1_columnOf, Cond.code yX1_columnOf cX1_columnOf 2 (some .int), Cond.methodLink RX3 66 yX8_squaredWayTo, Cond.instanceMethod yX8_squaredWayTo, Cond.selects RX8 yX8_squaredWayTo yX8_squaredWayTo, Cond.initialized RX8, Cond.code yX8_squaredWayTo cX8_squaredWayTo 5 (some .int), Cond.fieldLink RX8 15 "TouchTracker$Track" "row" "I", Cond.fieldLink RX8 19 "TouchTracker$Track" "column" "I", Cond.methodLink RX3 52 yX3_leastCost, Cond.instanceMethod yX3_leastCost, Cond.selects RX3 yX3_leastCost yX3_leastCost, Cond.code yX3_leastCost cX3_leastCost 6 (some .int), Cond.methodLink RX3 69 yX3_canTake, Cond.instanceMethod yX3_canTake, Cond.selects RX3 yX3_canTake yX3_canTake, Cond.code yX3_canTake cX3_canTake 4 (some .boolean), Cond.methodLink RX3 73 yX3_costWith, Cond.instanceMethod yX3_costWith, Cond.selects RX3 yX3_costWith yX3_costWith, Cond.code yX3_costWith cX3_costWith 4 (some .int), Cond.methodLink RX3 56 yX3_assign]
def wsL_isMatched_r7 : List Cond := [Cond.instanceMethod yX3_assign, Cond.selects RX3 yX3_assign yX3_assign, Cond.code yX3_assign cX3_assign 2 none, Cond.fieldLink RX3 77 "TouchTracker$Matching" "taken" "I", Cond.fieldLink RX3 23 "TouchTracker$Matching" "assigned" "[I", Cond.methodLink RX3 80 yX3_firstBest, Cond.instanceMethod yX3_firstBest, Cond.selects RX3 yX3_firstBest yX3_firstBest, Cond.code yX3_firstBest cX3_firstBest 4 (some .int), Cond.methodLink RX9 230 yX3_contactOf, Cond.instanceMethod yX3_contactOf, Cond.selects RX3 yX3_contactOf yX3_contactOf, Cond.code yX3_contactOf cX3_contactOf 2 (some .int), Cond.methodLink RL 40 yX9_isDown, Cond.instanceMethod yX9_isDown, Cond.selects RX9 yX9_isDown yX9_isDown, Cond.code yX9_isDown cX9_isDown 2 (some .boolean), Cond.methodLink RL 105 yX9_squaredDistance, Cond.instanceMethod yX9_squaredDistance, Cond.selects RX9 yX9_squaredDistance yX9_squaredDistance, Cond.code yX9_squaredDistance cX9_squaredDistance 3 (some .int), Cond.methodLink RX9 194 yX9_requireContactNumber, Cond.static yX9_requireContactNumber, Cond.code yX9_requireContactNumber cX9_requireContactNumber 1 none]
def wsL_isMatched_r8 : List Cond := [Cond.methodLink RX9 218 yX1_rowOf, Cond.methodLink RX9 221 yX1_columnOf, Cond.methodLink RX9 224 yX8_squaredWayTo, Cond.methodLink RL 108 yX9_matchingCost, Cond.instanceMethod yX9_matchingCost, Cond.selects RX9 yX9_matchingCost yX9_matchingCost, Cond.code yX9_matchingCost cX9_matchingCost 1 (some .int), Cond.methodLink RX9 233 yX3_wholeCost, Cond.instanceMethod yX3_wholeCost, Cond.selects RX3 yX3_wholeCost yX3_wholeCost, Cond.code yX3_wholeCost cX3_wholeCost 1 (some .int), Cond.methodLink RL 23 yX9_contacts, Cond.instanceMethod yX9_contacts, Cond.selects RX9 yX9_contacts yX9_contacts, Cond.code yX9_contacts cX9_contacts 1 (some .int)]
def wsL_isMatched : List Cond := .code yL_isMatched cL_isMatched 15 (some .boolean) :: ((wsL_isMatched_r1 ++ (wsL_isMatched_r2 ++ (wsL_isMatched_r3 ++ (wsL_isMatched_r4 ++ (wsL_isMatched_r5 ++ (wsL_isMatched_r6 ++ (wsL_isMatched_r7 ++ wsL_isMatched_r8))))))) ++ wsX90 ++ wsX60 ++ wsX50 ++ wsX40 ++ wsX10 ++ wsX30 ++ wsX80 ++ (vx_atS RX9 259 "java/lang/IndexOutOfBoundsException" ["java/lang/RuntimeException", "java/lang/Exception"]).filter goodWord)
theorem inJ0 : ∀ w ∈ wsJ00, w ∈ lw_tbl := by decide +kernel
theorem inJ10 : ∀ w ∈ wsJ100, w ∈ lw_tbl := by decide +kernel
theorem dX0_init_0 : decode cX0_init 0 = .ok (.aload_n 0, 1) := by decide +kernel
theorem dX0_init_1 : decode cX0_init 1 = .ok (.invokespecial 3, 3) := by decide +kernel
theorem dX0_init_4 : decode cX0_init 4 = .ok (.return_, 1) := by decide +kernel
theorem dX1_init_0 : decode cX1_init 0 = .ok (.aload_n 0, 1) := by decide +kernel
theorem dX1_init_1 : decode cX1_init 1 = .ok (.invokespecial 3, 3) := by decide +kernel
theorem dX1_init_4 : decode cX1_init 4 = .ok (.aload_n 0, 1) := by decide +kernel
theorem dX1_init_5 : decode cX1_init 5 = .ok (.bipush 48, 2) := by decide +kernel
theorem dX1_init_7 : decode cX1_init 7 = .ok (.newarray .int, 2) := by decide +kernel
theorem dX1_init_9 : decode cX1_init 9 = .ok (.putfield 9, 3) := by decide +kernel
theorem dX1_init_12 : decode cX1_init 12 = .ok (.aload_n 0, 1) := by decide +kernel
theorem dX1_init_13 : decode cX1_init 13 = .ok (.bipush 6, 2) := by decide +kernel
theorem dX1_init_15 : decode cX1_init 15 = .ok (.newarray .int, 2) := by decide +kernel
theorem dX1_init_17 : decode cX1_init 17 = .ok (.putfield 15, 3) := by decide +kernel
theorem dX1_init_20 : decode cX1_init 20 = .ok (.aload_n 0, 1) := by decide +kernel
theorem dX1_init_21 : decode cX1_init 21 = .ok (.bipush 6, 2) := by decide +kernel
theorem dX1_init_23 : decode cX1_init 23 = .ok (.newarray .int, 2) := by decide +kernel
theorem dX1_init_25 : decode cX1_init 25 = .ok (.putfield 18, 3) := by decide +kernel
theorem dX1_init_28 : decode cX1_init 28 = .ok (.aload_n 0, 1) := by decide +kernel
theorem dX1_init_29 : decode cX1_init 29 = .ok (.bipush 6, 2) := by decide +kernel
theorem dX1_init_31 : decode cX1_init 31 = .ok (.newarray .int, 2) := by decide +kernel
theorem dX1_init_33 : decode cX1_init 33 = .ok (.putfield 21, 3) := by decide +kernel
theorem dX1_init_36 : decode cX1_init 36 = .ok (.aload_n 0, 1) := by decide +kernel
theorem dX1_init_37 : decode cX1_init 37 = .ok (.bipush 6, 2) := by decide +kernel
theorem dX1_init_39 : decode cX1_init 39 = .ok (.newarray .int, 2) := by decide +kernel
theorem dX1_init_41 : decode cX1_init 41 = .ok (.putfield 24, 3) := by decide +kernel
theorem dX1_init_44 : decode cX1_init 44 = .ok (.return_, 1) := by decide +kernel
set_option maxRecDepth 20000 in
theorem ggX1_find_X5_kindAround : GoodIn wsX1_find wsX5_kindAround := goodIn_r _ [7, 8, 9, 10, 11, 12, 13, 14, 15, 57, 58, 59, 60, 61] (by decide +kernel) (by decide +kernel)
set_option maxRecDepth 20000 in
theorem gX1_find_X5_kindAround : GoodIn wsX1_find (wsV RX1 27 RX5 yX5_kindAround wsX5_kindAround) := goodIn_app (goodIn_of _ (by decide +kernel)) ggX1_find_X5_kindAround
set_option maxRecDepth 20000 in
theorem ggX1_find_X1_isPeak : GoodIn wsX1_find wsX1_isPeak := goodIn_r _ [19, 20, 21, 22, 23, 24, 25, 26, 27, 28, 29, 30, 31, 14, 32, 33, 34, 35, 62, 63] (by decide +kernel) (by decide +kernel)
set_option maxRecDepth 20000 in
theorem gX1_find_X1_isPeak : GoodIn wsX1_find (va_wsS RX1 33 yX1_isPeak wsX1_isPeak) := goodIn_app (goodIn_of _ (by decide +kernel)) ggX1_find_X1_isPeak
set_option maxRecDepth 20000 in
theorem ggX1_find_X1_massAround : GoodIn wsX1_find wsX1_massAround := goodIn_r _ [38, 27, 28, 29, 23, 30, 31, 14, 32, 33, 34, 35, 21, 22, 24, 25, 26, 62, 63] (by decide +kernel) (by decide +kernel)
set_option maxRecDepth 20000 in
theorem gX1_find_X1_massAround : GoodIn wsX1_find (va_wsS RX1 37 yX1_massAround wsX1_massAround) := goodIn_app (goodIn_of _ (by decide +kernel)) ggX1_find_X1_massAround
set_option maxRecDepth 20000 in
theorem ggX1_find_X1_heavierThan : GoodIn wsX1_find wsX1_heavierThan := goodIn_r _ [42, 1, 13, 14, 15, 51, 52, 53, 54, 55, 56] (by decide +kernel) (by decide +kernel)
set_option maxRecDepth 20000 in
theorem gX1_find_X1_heavierThan : GoodIn wsX1_find (wsV RX1 45 RX1 yX1_heavierThan wsX1_heavierThan) := goodIn_app (goodIn_of _ (by decide +kernel)) ggX1_find_X1_heavierThan
set_option maxRecDepth 20000 in
theorem ggX1_find_X1_add : GoodIn wsX1_find wsX1_add := goodIn_r _ [46, 1, 2, 47, 48, 49, 50, 13, 14, 15, 27, 28, 29, 23, 30, 31, 32, 33, 34, 35, 21, 22, 24, 25, 26, 51, 52, 53, 54, 55, 56, 62, 63] (by decide +kernel) (by decide +kernel)
set_option maxRecDepth 20000 in
theorem gX1_find_X1_add : GoodIn wsX1_find (wsV RX1 48 RX1 yX1_add wsX1_add) := goodIn_app (goodIn_of _ (by decide +kernel)) ggX1_find_X1_add
theorem dX1_find_0 : decode cX1_find 0 = .ok (.iconst 0, 1) := by decide +kernel
theorem dX1_find_1 : decode cX1_find 1 = .ok (.istore_n 3, 1) := by decide +kernel
theorem dX1_find_2 : decode cX1_find 2 = .ok (.iload_n 3, 1) := by decide +kernel
theorem dX1_find_3 : decode cX1_find 3 = .ok (.bipush 48, 2) := by decide +kernel
theorem dX1_find_5 : decode cX1_find 5 = .ok (.if_icmp .ge 52, 3) := by decide +kernel
theorem dX1_find_8 : decode cX1_find 8 = .ok (.aload_n 2, 1) := by decide +kernel
theorem dX1_find_9 : decode cX1_find 9 = .ok (.iload_n 3, 1) := by decide +kernel
theorem dX1_find_10 : decode cX1_find 10 = .ok (.invokevirtual 27, 3) := by decide +kernel
theorem dX1_find_13 : decode cX1_find 13 = .ok (.ifCond .ne 15, 3) := by decide +kernel
theorem dX1_find_16 : decode cX1_find 16 = .ok (.aload_n 1, 1) := by decide +kernel
theorem dX1_find_17 : decode cX1_find 17 = .ok (.iload_n 3, 1) := by decide +kernel
theorem dX1_find_18 : decode cX1_find 18 = .ok (.invokestatic 33, 3) := by decide +kernel
theorem dX1_find_21 : decode cX1_find 21 = .ok (.ifCond .eq 7, 3) := by decide +kernel
theorem dX1_find_24 : decode cX1_find 24 = .ok (.iconst 1, 1) := by decide +kernel
theorem dX1_find_25 : decode cX1_find 25 = .ok (.goto 4, 3) := by decide +kernel
theorem dX1_find_28 : decode cX1_find 28 = .ok (.iconst 0, 1) := by decide +kernel
theorem dX1_find_29 : decode cX1_find 29 = .ok (.istore 4, 2) := by decide +kernel
theorem dX1_find_31 : decode cX1_find 31 = .ok (.aload_n 0, 1) := by decide +kernel
theorem dX1_find_32 : decode cX1_find 32 = .ok (.getfield 9, 3) := by decide +kernel
theorem dX1_find_35 : decode cX1_find 35 = .ok (.iload_n 3, 1) := by decide +kernel
theorem dX1_find_36 : decode cX1_find 36 = .ok (.iload 4, 2) := by decide +kernel
theorem dX1_find_38 : decode cX1_find 38 = .ok (.ifCond .eq 11, 3) := by decide +kernel
theorem dX1_find_41 : decode cX1_find 41 = .ok (.aload_n 1, 1) := by decide +kernel
theorem dX1_find_42 : decode cX1_find 42 = .ok (.iload_n 3, 1) := by decide +kernel
theorem dX1_find_43 : decode cX1_find 43 = .ok (.invokestatic 37, 3) := by decide +kernel
theorem dX1_find_46 : decode cX1_find 46 = .ok (.goto 4, 3) := by decide +kernel
theorem dX1_find_49 : decode cX1_find 49 = .ok (.iconst 0, 1) := by decide +kernel
theorem dX1_find_50 : decode cX1_find 50 = .ok (.iastore, 1) := by decide +kernel
theorem dX1_find_51 : decode cX1_find 51 = .ok (.iinc 3 1, 3) := by decide +kernel
theorem dX1_find_54 : decode cX1_find 54 = .ok (.goto (-52), 3) := by decide +kernel
theorem dX1_find_57 : decode cX1_find 57 = .ok (.aload_n 0, 1) := by decide +kernel
theorem dX1_find_58 : decode cX1_find 58 = .ok (.iconst 0, 1) := by decide +kernel
theorem dX1_find_59 : decode cX1_find 59 = .ok (.putfield 41, 3) := by decide +kernel
theorem dX1_find_62 : decode cX1_find 62 = .ok (.iconst 0, 1) := by decide +kernel
theorem dX1_find_63 : decode cX1_find 63 = .ok (.istore_n 3, 1) := by decide +kernel
theorem dX1_find_64 : decode cX1_find 64 = .ok (.iload_n 3, 1) := by decide +kernel
theorem dX1_find_65 : decode cX1_find 65 = .ok (.bipush 48, 2) := by decide +kernel
theorem dX1_find_67 : decode cX1_find 67 = .ok (.if_icmp .ge 34, 3) := by decide +kernel
theorem dX1_find_70 : decode cX1_find 70 = .ok (.aload_n 0, 1) := by decide +kernel
theorem dX1_find_71 : decode cX1_find 71 = .ok (.getfield 9, 3) := by decide +kernel
theorem dX1_find_74 : decode cX1_find 74 = .ok (.iload_n 3, 1) := by decide +kernel
theorem dX1_find_75 : decode cX1_find 75 = .ok (.iaload, 1) := by decide +kernel
theorem dX1_find_76 : decode cX1_find 76 = .ok (.ifCond .le 19, 3) := by decide +kernel
theorem dX1_find_79 : decode cX1_find 79 = .ok (.aload_n 0, 1) := by decide +kernel
theorem dX1_find_80 : decode cX1_find 80 = .ok (.iload_n 3, 1) := by decide +kernel
theorem dX1_find_81 : decode cX1_find 81 = .ok (.invokevirtual 45, 3) := by decide +kernel
theorem dX1_find_84 : decode cX1_find 84 = .ok (.bipush 6, 2) := by decide +kernel
theorem dX1_find_86 : decode cX1_find 86 = .ok (.if_icmp .ge 9, 3) := by decide +kernel
theorem dX1_find_89 : decode cX1_find 89 = .ok (.aload_n 0, 1) := by decide +kernel
theorem dX1_find_90 : decode cX1_find 90 = .ok (.aload_n 1, 1) := by decide +kernel
theorem dX1_find_91 : decode cX1_find 91 = .ok (.iload_n 3, 1) := by decide +kernel
theorem dX1_find_92 : decode cX1_find 92 = .ok (.invokevirtual 48, 3) := by decide +kernel
theorem dX1_find_95 : decode cX1_find 95 = .ok (.iinc 3 1, 3) := by decide +kernel
theorem dX1_find_98 : decode cX1_find 98 = .ok (.goto (-34), 3) := by decide +kernel
theorem dX1_find_101 : decode cX1_find 101 = .ok (.return_, 1) := by decide +kernel
set_option maxRecDepth 20000 in
theorem ggX1_isPeak_X4_signalOf : GoodIn wsX1_isPeak wsX4_signalOf := goodIn_r _ [5, 6, 7, 18, 19] (by decide +kernel) (by decide +kernel)
set_option maxRecDepth 20000 in
theorem gX1_isPeak_X4_signalOf : GoodIn wsX1_isPeak (wsV RX1 52 RX4 yX4_signalOf wsX4_signalOf) := goodIn_app (goodIn_of _ (by decide +kernel)) ggX1_isPeak_X4_signalOf
set_option maxRecDepth 20000 in
theorem ggX1_isPeak_X4_signalAt : GoodIn wsX1_isPeak wsX4_signalAt := goodIn_r _ [11, 12, 13, 14, 15, 16, 17, 2, 3, 4, 5, 6, 7, 18, 19] (by decide +kernel) (by decide +kernel)
set_option maxRecDepth 20000 in
theorem gX1_isPeak_X4_signalAt : GoodIn wsX1_isPeak (wsV RX1 57 RX4 yX4_signalAt wsX4_signalAt) := goodIn_app (goodIn_of _ (by decide +kernel)) ggX1_isPeak_X4_signalAt
set_option maxRecDepth 20000 in
theorem ggX1_isPeak_X9_cellAt : GoodIn wsX1_isPeak wsX9_cellAt := goodIn_r _ [16] (by decide +kernel) (by decide +kernel)
set_option maxRecDepth 20000 in
theorem gX1_isPeak_X9_cellAt_n61 : GoodIn wsX1_isPeak (wsX9_cellAt) := ggX1_isPeak_X9_cellAt
theorem dX1_isPeak_0 : decode cX1_isPeak 0 = .ok (.aload_n 0, 1) := by decide +kernel
theorem dX1_isPeak_1 : decode cX1_isPeak 1 = .ok (.iload_n 1, 1) := by decide +kernel
theorem dX1_isPeak_2 : decode cX1_isPeak 2 = .ok (.invokevirtual 52, 3) := by decide +kernel
theorem dX1_isPeak_5 : decode cX1_isPeak 5 = .ok (.istore_n 2, 1) := by decide +kernel
theorem dX1_isPeak_6 : decode cX1_isPeak 6 = .ok (.iconst (-1), 1) := by decide +kernel
theorem dX1_isPeak_7 : decode cX1_isPeak 7 = .ok (.istore_n 3, 1) := by decide +kernel
theorem dX1_isPeak_8 : decode cX1_isPeak 8 = .ok (.iload_n 3, 1) := by decide +kernel
theorem dX1_isPeak_9 : decode cX1_isPeak 9 = .ok (.iconst 1, 1) := by decide +kernel
theorem dX1_isPeak_10 : decode cX1_isPeak 10 = .ok (.if_icmp .gt 78, 3) := by decide +kernel
theorem dX1_isPeak_13 : decode cX1_isPeak 13 = .ok (.iconst (-1), 1) := by decide +kernel
theorem dX1_isPeak_14 : decode cX1_isPeak 14 = .ok (.istore 4, 2) := by decide +kernel
theorem dX1_isPeak_16 : decode cX1_isPeak 16 = .ok (.iload 4, 2) := by decide +kernel
theorem dX1_isPeak_18 : decode cX1_isPeak 18 = .ok (.iconst 1, 1) := by decide +kernel
theorem dX1_isPeak_19 : decode cX1_isPeak 19 = .ok (.if_icmp .gt 63, 3) := by decide +kernel
theorem dX1_isPeak_22 : decode cX1_isPeak 22 = .ok (.aload_n 0, 1) := by decide +kernel
theorem dX1_isPeak_23 : decode cX1_isPeak 23 = .ok (.iload_n 1, 1) := by decide +kernel
theorem dX1_isPeak_24 : decode cX1_isPeak 24 = .ok (.bipush 6, 2) := by decide +kernel
theorem dX1_isPeak_26 : decode cX1_isPeak 26 = .ok (.idiv, 1) := by decide +kernel
theorem dX1_isPeak_27 : decode cX1_isPeak 27 = .ok (.iload_n 3, 1) := by decide +kernel
theorem dX1_isPeak_28 : decode cX1_isPeak 28 = .ok (.iadd, 1) := by decide +kernel
theorem dX1_isPeak_29 : decode cX1_isPeak 29 = .ok (.iload_n 1, 1) := by decide +kernel
theorem dX1_isPeak_30 : decode cX1_isPeak 30 = .ok (.bipush 6, 2) := by decide +kernel
theorem dX1_isPeak_32 : decode cX1_isPeak 32 = .ok (.irem, 1) := by decide +kernel
theorem dX1_isPeak_33 : decode cX1_isPeak 33 = .ok (.iload 4, 2) := by decide +kernel
theorem dX1_isPeak_35 : decode cX1_isPeak 35 = .ok (.iadd, 1) := by decide +kernel
theorem dX1_isPeak_36 : decode cX1_isPeak 36 = .ok (.invokevirtual 57, 3) := by decide +kernel
theorem dX1_isPeak_39 : decode cX1_isPeak 39 = .ok (.istore 5, 2) := by decide +kernel
theorem dX1_isPeak_41 : decode cX1_isPeak 41 = .ok (.iload_n 3, 1) := by decide +kernel
theorem dX1_isPeak_42 : decode cX1_isPeak 42 = .ok (.iload 4, 2) := by decide +kernel
theorem dX1_isPeak_44 : decode cX1_isPeak 44 = .ok (.invokestatic 61, 3) := by decide +kernel
theorem dX1_isPeak_47 : decode cX1_isPeak 47 = .ok (.ifCond .ge 7, 3) := by decide +kernel
theorem dX1_isPeak_50 : decode cX1_isPeak 50 = .ok (.iconst 1, 1) := by decide +kernel
theorem dX1_isPeak_51 : decode cX1_isPeak 51 = .ok (.goto 4, 3) := by decide +kernel
theorem dX1_isPeak_54 : decode cX1_isPeak 54 = .ok (.iconst 0, 1) := by decide +kernel
theorem dX1_isPeak_55 : decode cX1_isPeak 55 = .ok (.istore 6, 2) := by decide +kernel
theorem dX1_isPeak_57 : decode cX1_isPeak 57 = .ok (.iload 5, 2) := by decide +kernel
theorem dX1_isPeak_59 : decode cX1_isPeak 59 = .ok (.iload_n 2, 1) := by decide +kernel
theorem dX1_isPeak_60 : decode cX1_isPeak 60 = .ok (.if_icmp .gt 14, 3) := by decide +kernel
theorem dX1_isPeak_63 : decode cX1_isPeak 63 = .ok (.iload 5, 2) := by decide +kernel
theorem dX1_isPeak_65 : decode cX1_isPeak 65 = .ok (.iload_n 2, 1) := by decide +kernel
theorem dX1_isPeak_66 : decode cX1_isPeak 66 = .ok (.if_icmp .ne 10, 3) := by decide +kernel
theorem dX1_isPeak_69 : decode cX1_isPeak 69 = .ok (.iload 6, 2) := by decide +kernel
theorem dX1_isPeak_71 : decode cX1_isPeak 71 = .ok (.ifCond .eq 5, 3) := by decide +kernel
theorem dX1_isPeak_74 : decode cX1_isPeak 74 = .ok (.iconst 0, 1) := by decide +kernel
theorem dX1_isPeak_75 : decode cX1_isPeak 75 = .ok (.ireturn, 1) := by decide +kernel
theorem dX1_isPeak_76 : decode cX1_isPeak 76 = .ok (.iinc 4 1, 3) := by decide +kernel
theorem dX1_isPeak_79 : decode cX1_isPeak 79 = .ok (.goto (-63), 3) := by decide +kernel
theorem dX1_isPeak_82 : decode cX1_isPeak 82 = .ok (.iinc 3 1, 3) := by decide +kernel
theorem dX1_isPeak_85 : decode cX1_isPeak 85 = .ok (.goto (-77), 3) := by decide +kernel
theorem dX1_isPeak_88 : decode cX1_isPeak 88 = .ok (.iconst 1, 1) := by decide +kernel
theorem dX1_isPeak_89 : decode cX1_isPeak 89 = .ok (.ireturn, 1) := by decide +kernel
set_option maxRecDepth 20000 in
theorem ggX1_massAround_X4_signalAt : GoodIn wsX1_massAround wsX4_signalAt := goodIn_r _ [5, 6, 7, 8, 9, 10, 11, 12, 13, 4, 14, 15, 16, 17, 18] (by decide +kernel) (by decide +kernel)
set_option maxRecDepth 20000 in
theorem gX1_massAround_X4_signalAt : GoodIn wsX1_massAround (wsV RX1 57 RX4 yX4_signalAt wsX4_signalAt) := goodIn_app (goodIn_of _ (by decide +kernel)) ggX1_massAround_X4_signalAt
theorem dX1_massAround_0 : decode cX1_massAround 0 = .ok (.iconst 0, 1) := by decide +kernel
theorem dX1_massAround_1 : decode cX1_massAround 1 = .ok (.istore_n 2, 1) := by decide +kernel
theorem dX1_massAround_2 : decode cX1_massAround 2 = .ok (.iconst (-1), 1) := by decide +kernel
theorem dX1_massAround_3 : decode cX1_massAround 3 = .ok (.istore_n 3, 1) := by decide +kernel
theorem dX1_massAround_4 : decode cX1_massAround 4 = .ok (.iload_n 3, 1) := by decide +kernel
theorem dX1_massAround_5 : decode cX1_massAround 5 = .ok (.iconst 1, 1) := by decide +kernel
theorem dX1_massAround_6 : decode cX1_massAround 6 = .ok (.if_icmp .gt 44, 3) := by decide +kernel
theorem dX1_massAround_9 : decode cX1_massAround 9 = .ok (.iconst (-1), 1) := by decide +kernel
theorem dX1_massAround_10 : decode cX1_massAround 10 = .ok (.istore 4, 2) := by decide +kernel
theorem dX1_massAround_12 : decode cX1_massAround 12 = .ok (.iload 4, 2) := by decide +kernel
theorem dX1_massAround_14 : decode cX1_massAround 14 = .ok (.iconst 1, 1) := by decide +kernel
theorem dX1_massAround_15 : decode cX1_massAround 15 = .ok (.if_icmp .gt 29, 3) := by decide +kernel
theorem dX1_massAround_18 : decode cX1_massAround 18 = .ok (.iload_n 2, 1) := by decide +kernel
theorem dX1_massAround_19 : decode cX1_massAround 19 = .ok (.aload_n 0, 1) := by decide +kernel
theorem dX1_massAround_20 : decode cX1_massAround 20 = .ok (.iload_n 1, 1) := by decide +kernel
theorem dX1_massAround_21 : decode cX1_massAround 21 = .ok (.bipush 6, 2) := by decide +kernel
theorem dX1_massAround_23 : decode cX1_massAround 23 = .ok (.idiv, 1) := by decide +kernel
theorem dX1_massAround_24 : decode cX1_massAround 24 = .ok (.iload_n 3, 1) := by decide +kernel
theorem dX1_massAround_25 : decode cX1_massAround 25 = .ok (.iadd, 1) := by decide +kernel
theorem dX1_massAround_26 : decode cX1_massAround 26 = .ok (.iload_n 1, 1) := by decide +kernel
theorem dX1_massAround_27 : decode cX1_massAround 27 = .ok (.bipush 6, 2) := by decide +kernel
theorem dX1_massAround_29 : decode cX1_massAround 29 = .ok (.irem, 1) := by decide +kernel
theorem dX1_massAround_30 : decode cX1_massAround 30 = .ok (.iload 4, 2) := by decide +kernel
theorem dX1_massAround_32 : decode cX1_massAround 32 = .ok (.iadd, 1) := by decide +kernel
theorem dX1_massAround_33 : decode cX1_massAround 33 = .ok (.invokevirtual 57, 3) := by decide +kernel
theorem dX1_massAround_36 : decode cX1_massAround 36 = .ok (.iadd, 1) := by decide +kernel
theorem dX1_massAround_37 : decode cX1_massAround 37 = .ok (.istore_n 2, 1) := by decide +kernel
theorem dX1_massAround_38 : decode cX1_massAround 38 = .ok (.iinc 4 1, 3) := by decide +kernel
theorem dX1_massAround_41 : decode cX1_massAround 41 = .ok (.goto (-29), 3) := by decide +kernel
theorem dX1_massAround_44 : decode cX1_massAround 44 = .ok (.iinc 3 1, 3) := by decide +kernel
theorem dX1_massAround_47 : decode cX1_massAround 47 = .ok (.goto (-43), 3) := by decide +kernel
theorem dX1_massAround_50 : decode cX1_massAround 50 = .ok (.iload_n 2, 1) := by decide +kernel
theorem dX1_massAround_51 : decode cX1_massAround 51 = .ok (.ireturn, 1) := by decide +kernel
set_option maxRecDepth 20000 in
theorem ggX1_heavierThan_X9_isCell : GoodIn wsX1_heavierThan wsX9_isCell := goodIn_r _ [4] (by decide +kernel) (by decide +kernel)
set_option maxRecDepth 20000 in
theorem gX1_heavierThan_X9_isCell_n64 : GoodIn wsX1_heavierThan (wsX9_isCell) := ggX1_heavierThan_X9_isCell
theorem dX1_heavierThan_0 : decode cX1_heavierThan 0 = .ok (.iload_n 1, 1) := by decide +kernel
theorem dX1_heavierThan_1 : decode cX1_heavierThan 1 = .ok (.invokestatic 64, 3) := by decide +kernel
theorem dX1_heavierThan_4 : decode cX1_heavierThan 4 = .ok (.ifCond .eq 12, 3) := by decide +kernel
theorem dX1_heavierThan_7 : decode cX1_heavierThan 7 = .ok (.aload_n 0, 1) := by decide +kernel
theorem dX1_heavierThan_8 : decode cX1_heavierThan 8 = .ok (.getfield 9, 3) := by decide +kernel
theorem dX1_heavierThan_11 : decode cX1_heavierThan 11 = .ok (.iload_n 1, 1) := by decide +kernel
theorem dX1_heavierThan_12 : decode cX1_heavierThan 12 = .ok (.iaload, 1) := by decide +kernel
theorem dX1_heavierThan_13 : decode cX1_heavierThan 13 = .ok (.goto 4, 3) := by decide +kernel
theorem dX1_heavierThan_16 : decode cX1_heavierThan 16 = .ok (.iconst 0, 1) := by decide +kernel
theorem dX1_heavierThan_17 : decode cX1_heavierThan 17 = .ok (.istore_n 2, 1) := by decide +kernel
theorem dX1_heavierThan_18 : decode cX1_heavierThan 18 = .ok (.iconst 0, 1) := by decide +kernel
theorem dX1_heavierThan_19 : decode cX1_heavierThan 19 = .ok (.istore_n 3, 1) := by decide +kernel
theorem dX1_heavierThan_20 : decode cX1_heavierThan 20 = .ok (.iconst 0, 1) := by decide +kernel
theorem dX1_heavierThan_21 : decode cX1_heavierThan 21 = .ok (.istore 4, 2) := by decide +kernel
theorem dX1_heavierThan_23 : decode cX1_heavierThan 23 = .ok (.iload 4, 2) := by decide +kernel
theorem dX1_heavierThan_25 : decode cX1_heavierThan 25 = .ok (.bipush 48, 2) := by decide +kernel
theorem dX1_heavierThan_27 : decode cX1_heavierThan 27 = .ok (.if_icmp .ge 40, 3) := by decide +kernel
theorem dX1_heavierThan_30 : decode cX1_heavierThan 30 = .ok (.aload_n 0, 1) := by decide +kernel
theorem dX1_heavierThan_31 : decode cX1_heavierThan 31 = .ok (.getfield 9, 3) := by decide +kernel
theorem dX1_heavierThan_34 : decode cX1_heavierThan 34 = .ok (.iload 4, 2) := by decide +kernel
theorem dX1_heavierThan_36 : decode cX1_heavierThan 36 = .ok (.iaload, 1) := by decide +kernel
theorem dX1_heavierThan_37 : decode cX1_heavierThan 37 = .ok (.iload_n 2, 1) := by decide +kernel
theorem dX1_heavierThan_38 : decode cX1_heavierThan 38 = .ok (.if_icmp .gt 20, 3) := by decide +kernel
theorem dX1_heavierThan_41 : decode cX1_heavierThan 41 = .ok (.aload_n 0, 1) := by decide +kernel
theorem dX1_heavierThan_42 : decode cX1_heavierThan 42 = .ok (.getfield 9, 3) := by decide +kernel
theorem dX1_heavierThan_45 : decode cX1_heavierThan 45 = .ok (.iload 4, 2) := by decide +kernel
theorem dX1_heavierThan_47 : decode cX1_heavierThan 47 = .ok (.iaload, 1) := by decide +kernel
theorem dX1_heavierThan_48 : decode cX1_heavierThan 48 = .ok (.iload_n 2, 1) := by decide +kernel
theorem dX1_heavierThan_49 : decode cX1_heavierThan 49 = .ok (.if_icmp .ne 12, 3) := by decide +kernel
theorem dX1_heavierThan_52 : decode cX1_heavierThan 52 = .ok (.iload 4, 2) := by decide +kernel
theorem dX1_heavierThan_54 : decode cX1_heavierThan 54 = .ok (.iload_n 1, 1) := by decide +kernel
theorem dX1_heavierThan_55 : decode cX1_heavierThan 55 = .ok (.if_icmp .ge 6, 3) := by decide +kernel
theorem dX1_heavierThan_58 : decode cX1_heavierThan 58 = .ok (.iinc 3 1, 3) := by decide +kernel
theorem dX1_heavierThan_61 : decode cX1_heavierThan 61 = .ok (.iinc 4 1, 3) := by decide +kernel
theorem dX1_heavierThan_64 : decode cX1_heavierThan 64 = .ok (.goto (-41), 3) := by decide +kernel
theorem dX1_heavierThan_67 : decode cX1_heavierThan 67 = .ok (.iload_n 3, 1) := by decide +kernel
theorem dX1_heavierThan_68 : decode cX1_heavierThan 68 = .ok (.ireturn, 1) := by decide +kernel
set_option maxRecDepth 20000 in
theorem ggX1_add_X9_isCell : GoodIn wsX1_add wsX9_isCell := goodIn_r _ [9] (by decide +kernel) (by decide +kernel)
set_option maxRecDepth 20000 in
theorem gX1_add_X9_isCell_n64 : GoodIn wsX1_add (wsX9_isCell) := ggX1_add_X9_isCell
set_option maxRecDepth 20000 in
theorem ggX1_add_X4_signalAt : GoodIn wsX1_add wsX4_signalAt := goodIn_r _ [14, 15, 8, 16, 17, 18, 19, 20, 21, 13, 22, 23, 24, 31, 32] (by decide +kernel) (by decide +kernel)
set_option maxRecDepth 20000 in
theorem gX1_add_X4_signalAt : GoodIn wsX1_add (wsV RX1 57 RX4 yX4_signalAt wsX4_signalAt) := goodIn_app (goodIn_of _ (by decide +kernel)) ggX1_add_X4_signalAt
theorem dX1_add_0 : decode cX1_add 0 = .ok (.iload_n 2, 1) := by decide +kernel
theorem dX1_add_1 : decode cX1_add 1 = .ok (.invokestatic 64, 3) := by decide +kernel
theorem dX1_add_4 : decode cX1_add 4 = .ok (.ifCond .eq 12, 3) := by decide +kernel
theorem dX1_add_7 : decode cX1_add 7 = .ok (.aload_n 0, 1) := by decide +kernel
theorem dX1_add_8 : decode cX1_add 8 = .ok (.getfield 9, 3) := by decide +kernel
theorem dX1_add_11 : decode cX1_add 11 = .ok (.iload_n 2, 1) := by decide +kernel
theorem dX1_add_12 : decode cX1_add 12 = .ok (.iaload, 1) := by decide +kernel
theorem dX1_add_13 : decode cX1_add 13 = .ok (.goto 4, 3) := by decide +kernel
theorem dX1_add_16 : decode cX1_add 16 = .ok (.iconst 0, 1) := by decide +kernel
theorem dX1_add_17 : decode cX1_add 17 = .ok (.istore_n 3, 1) := by decide +kernel
theorem dX1_add_18 : decode cX1_add 18 = .ok (.iload_n 3, 1) := by decide +kernel
theorem dX1_add_19 : decode cX1_add 19 = .ok (.ifCond .le 12, 3) := by decide +kernel
theorem dX1_add_22 : decode cX1_add 22 = .ok (.aload_n 0, 1) := by decide +kernel
theorem dX1_add_23 : decode cX1_add 23 = .ok (.getfield 41, 3) := by decide +kernel
theorem dX1_add_26 : decode cX1_add 26 = .ok (.bipush 6, 2) := by decide +kernel
theorem dX1_add_28 : decode cX1_add 28 = .ok (.if_icmp .lt 4, 3) := by decide +kernel
theorem dX1_add_31 : decode cX1_add 31 = .ok (.return_, 1) := by decide +kernel
theorem dX1_add_32 : decode cX1_add 32 = .ok (.iconst 0, 1) := by decide +kernel
theorem dX1_add_33 : decode cX1_add 33 = .ok (.istore 4, 2) := by decide +kernel
theorem dX1_add_35 : decode cX1_add 35 = .ok (.iconst 0, 1) := by decide +kernel
theorem dX1_add_36 : decode cX1_add 36 = .ok (.istore 5, 2) := by decide +kernel
theorem dX1_add_38 : decode cX1_add 38 = .ok (.iconst (-1), 1) := by decide +kernel
theorem dX1_add_39 : decode cX1_add 39 = .ok (.istore 6, 2) := by decide +kernel
theorem dX1_add_41 : decode cX1_add 41 = .ok (.iload 6, 2) := by decide +kernel
theorem dX1_add_43 : decode cX1_add 43 = .ok (.iconst 1, 1) := by decide +kernel
theorem dX1_add_44 : decode cX1_add 44 = .ok (.if_icmp .gt 72, 3) := by decide +kernel
theorem dX1_add_47 : decode cX1_add 47 = .ok (.iconst (-1), 1) := by decide +kernel
theorem dX1_add_48 : decode cX1_add 48 = .ok (.istore 7, 2) := by decide +kernel
theorem dX1_add_50 : decode cX1_add 50 = .ok (.iload 7, 2) := by decide +kernel
theorem dX1_add_52 : decode cX1_add 52 = .ok (.iconst 1, 1) := by decide +kernel
theorem dX1_add_53 : decode cX1_add 53 = .ok (.if_icmp .gt 57, 3) := by decide +kernel
theorem dX1_add_56 : decode cX1_add 56 = .ok (.iload_n 2, 1) := by decide +kernel
theorem dX1_add_57 : decode cX1_add 57 = .ok (.bipush 6, 2) := by decide +kernel
theorem dX1_add_59 : decode cX1_add 59 = .ok (.idiv, 1) := by decide +kernel
theorem dX1_add_60 : decode cX1_add 60 = .ok (.iload 6, 2) := by decide +kernel
theorem dX1_add_62 : decode cX1_add 62 = .ok (.iadd, 1) := by decide +kernel
theorem dX1_add_63 : decode cX1_add 63 = .ok (.istore 8, 2) := by decide +kernel
theorem dX1_add_65 : decode cX1_add 65 = .ok (.iload_n 2, 1) := by decide +kernel
theorem dX1_add_66 : decode cX1_add 66 = .ok (.bipush 6, 2) := by decide +kernel
theorem dX1_add_68 : decode cX1_add 68 = .ok (.irem, 1) := by decide +kernel
theorem dX1_add_69 : decode cX1_add 69 = .ok (.iload 7, 2) := by decide +kernel
theorem dX1_add_71 : decode cX1_add 71 = .ok (.iadd, 1) := by decide +kernel
theorem dX1_add_72 : decode cX1_add 72 = .ok (.istore 9, 2) := by decide +kernel
theorem dX1_add_74 : decode cX1_add 74 = .ok (.aload_n 1, 1) := by decide +kernel
theorem dX1_add_75 : decode cX1_add 75 = .ok (.iload 8, 2) := by decide +kernel
theorem dX1_add_77 : decode cX1_add 77 = .ok (.iload 9, 2) := by decide +kernel
theorem dX1_add_79 : decode cX1_add 79 = .ok (.invokevirtual 57, 3) := by decide +kernel
theorem dX1_add_82 : decode cX1_add 82 = .ok (.istore 10, 2) := by decide +kernel
theorem dX1_add_84 : decode cX1_add 84 = .ok (.iload 4, 2) := by decide +kernel
theorem dX1_add_86 : decode cX1_add 86 = .ok (.iload 10, 2) := by decide +kernel
theorem dX1_add_88 : decode cX1_add 88 = .ok (.iload 8, 2) := by decide +kernel
theorem dX1_add_90 : decode cX1_add 90 = .ok (.imul, 1) := by decide +kernel
theorem dX1_add_91 : decode cX1_add 91 = .ok (.iadd, 1) := by decide +kernel
theorem dX1_add_92 : decode cX1_add 92 = .ok (.istore 4, 2) := by decide +kernel
theorem dX1_add_94 : decode cX1_add 94 = .ok (.iload 5, 2) := by decide +kernel
theorem dX1_add_96 : decode cX1_add 96 = .ok (.iload 10, 2) := by decide +kernel
theorem dX1_add_98 : decode cX1_add 98 = .ok (.iload 9, 2) := by decide +kernel
theorem dX1_add_100 : decode cX1_add 100 = .ok (.imul, 1) := by decide +kernel
theorem dX1_add_101 : decode cX1_add 101 = .ok (.iadd, 1) := by decide +kernel
theorem dX1_add_102 : decode cX1_add 102 = .ok (.istore 5, 2) := by decide +kernel
theorem dX1_add_104 : decode cX1_add 104 = .ok (.iinc 7 1, 3) := by decide +kernel
theorem dX1_add_107 : decode cX1_add 107 = .ok (.goto (-57), 3) := by decide +kernel
theorem dX1_add_110 : decode cX1_add 110 = .ok (.iinc 6 1, 3) := by decide +kernel
theorem dX1_add_113 : decode cX1_add 113 = .ok (.goto (-72), 3) := by decide +kernel
theorem dX1_add_116 : decode cX1_add 116 = .ok (.aload_n 0, 1) := by decide +kernel
theorem dX1_add_117 : decode cX1_add 117 = .ok (.getfield 15, 3) := by decide +kernel
theorem dX1_add_120 : decode cX1_add 120 = .ok (.aload_n 0, 1) := by decide +kernel
theorem dX1_add_121 : decode cX1_add 121 = .ok (.getfield 41, 3) := by decide +kernel
theorem dX1_add_124 : decode cX1_add 124 = .ok (.bipush 100, 2) := by decide +kernel
theorem dX1_add_126 : decode cX1_add 126 = .ok (.iload 4, 2) := by decide +kernel
theorem dX1_add_128 : decode cX1_add 128 = .ok (.imul, 1) := by decide +kernel
theorem dX1_add_129 : decode cX1_add 129 = .ok (.iload_n 3, 1) := by decide +kernel
theorem dX1_add_130 : decode cX1_add 130 = .ok (.idiv, 1) := by decide +kernel
theorem dX1_add_131 : decode cX1_add 131 = .ok (.iastore, 1) := by decide +kernel
theorem dX1_add_132 : decode cX1_add 132 = .ok (.aload_n 0, 1) := by decide +kernel
theorem dX1_add_133 : decode cX1_add 133 = .ok (.getfield 18, 3) := by decide +kernel
theorem dX1_add_136 : decode cX1_add 136 = .ok (.aload_n 0, 1) := by decide +kernel
theorem dX1_add_137 : decode cX1_add 137 = .ok (.getfield 41, 3) := by decide +kernel
theorem dX1_add_140 : decode cX1_add 140 = .ok (.bipush 100, 2) := by decide +kernel
theorem dX1_add_142 : decode cX1_add 142 = .ok (.iload 5, 2) := by decide +kernel
theorem dX1_add_144 : decode cX1_add 144 = .ok (.imul, 1) := by decide +kernel
theorem dX1_add_145 : decode cX1_add 145 = .ok (.iload_n 3, 1) := by decide +kernel
theorem dX1_add_146 : decode cX1_add 146 = .ok (.idiv, 1) := by decide +kernel
theorem dX1_add_147 : decode cX1_add 147 = .ok (.iastore, 1) := by decide +kernel
theorem dX1_add_148 : decode cX1_add 148 = .ok (.aload_n 0, 1) := by decide +kernel
theorem dX1_add_149 : decode cX1_add 149 = .ok (.getfield 21, 3) := by decide +kernel
theorem dX1_add_152 : decode cX1_add 152 = .ok (.aload_n 0, 1) := by decide +kernel
theorem dX1_add_153 : decode cX1_add 153 = .ok (.getfield 41, 3) := by decide +kernel
theorem dX1_add_156 : decode cX1_add 156 = .ok (.iload_n 3, 1) := by decide +kernel
theorem dX1_add_157 : decode cX1_add 157 = .ok (.iastore, 1) := by decide +kernel
theorem dX1_add_158 : decode cX1_add 158 = .ok (.aload_n 0, 1) := by decide +kernel
theorem dX1_add_159 : decode cX1_add 159 = .ok (.getfield 24, 3) := by decide +kernel
theorem dX1_add_162 : decode cX1_add 162 = .ok (.aload_n 0, 1) := by decide +kernel
theorem dX1_add_163 : decode cX1_add 163 = .ok (.getfield 41, 3) := by decide +kernel
theorem dX1_add_166 : decode cX1_add 166 = .ok (.iload_n 2, 1) := by decide +kernel
theorem dX1_add_167 : decode cX1_add 167 = .ok (.iastore, 1) := by decide +kernel
theorem dX1_add_168 : decode cX1_add 168 = .ok (.aload_n 0, 1) := by decide +kernel
theorem dX1_add_169 : decode cX1_add 169 = .ok (.dup, 1) := by decide +kernel
theorem dX1_add_170 : decode cX1_add 170 = .ok (.getfield 41, 3) := by decide +kernel
theorem dX1_add_173 : decode cX1_add 173 = .ok (.iconst 1, 1) := by decide +kernel
theorem dX1_add_174 : decode cX1_add 174 = .ok (.iadd, 1) := by decide +kernel
theorem dX1_add_175 : decode cX1_add 175 = .ok (.putfield 41, 3) := by decide +kernel
theorem dX1_add_178 : decode cX1_add 178 = .ok (.return_, 1) := by decide +kernel
theorem dX1_isContact_0 : decode cX1_isContact 0 = .ok (.iload_n 1, 1) := by decide +kernel
theorem dX1_isContact_1 : decode cX1_isContact 1 = .ok (.ifCond .lt 21, 3) := by decide +kernel
theorem dX1_isContact_4 : decode cX1_isContact 4 = .ok (.iload_n 1, 1) := by decide +kernel
theorem dX1_isContact_5 : decode cX1_isContact 5 = .ok (.aload_n 0, 1) := by decide +kernel
theorem dX1_isContact_6 : decode cX1_isContact 6 = .ok (.getfield 41, 3) := by decide +kernel
theorem dX1_isContact_9 : decode cX1_isContact 9 = .ok (.if_icmp .ge 13, 3) := by decide +kernel
theorem dX1_isContact_12 : decode cX1_isContact 12 = .ok (.iload_n 1, 1) := by decide +kernel
theorem dX1_isContact_13 : decode cX1_isContact 13 = .ok (.bipush 6, 2) := by decide +kernel
theorem dX1_isContact_15 : decode cX1_isContact 15 = .ok (.if_icmp .ge 7, 3) := by decide +kernel
theorem dX1_isContact_18 : decode cX1_isContact 18 = .ok (.iconst 1, 1) := by decide +kernel
theorem dX1_isContact_19 : decode cX1_isContact 19 = .ok (.goto 4, 3) := by decide +kernel
theorem dX1_isContact_22 : decode cX1_isContact 22 = .ok (.iconst 0, 1) := by decide +kernel
theorem dX1_isContact_23 : decode cX1_isContact 23 = .ok (.ireturn, 1) := by decide +kernel
set_option maxRecDepth 20000 in
theorem ggX1_rowOf_X1_isContact : GoodIn wsX1_rowOf wsX1_isContact := goodIn_r _ [6, 7, 8, 9, 10, 11, 12, 13] (by decide +kernel) (by decide +kernel)
set_option maxRecDepth 20000 in
theorem gX1_rowOf_X1_isContact : GoodIn wsX1_rowOf (wsV RX1 68 RX1 yX1_isContact wsX1_isContact) := goodIn_app (goodIn_of _ (by decide +kernel)) ggX1_rowOf_X1_isContact
theorem dX1_rowOf_0 : decode cX1_rowOf 0 = .ok (.aload_n 0, 1) := by decide +kernel
theorem dX1_rowOf_1 : decode cX1_rowOf 1 = .ok (.iload_n 1, 1) := by decide +kernel
theorem dX1_rowOf_2 : decode cX1_rowOf 2 = .ok (.invokevirtual 68, 3) := by decide +kernel
theorem dX1_rowOf_5 : decode cX1_rowOf 5 = .ok (.ifCond .eq 12, 3) := by decide +kernel
theorem dX1_rowOf_8 : decode cX1_rowOf 8 = .ok (.aload_n 0, 1) := by decide +kernel
theorem dX1_rowOf_9 : decode cX1_rowOf 9 = .ok (.getfield 15, 3) := by decide +kernel
theorem dX1_rowOf_12 : decode cX1_rowOf 12 = .ok (.iload_n 1, 1) := by decide +kernel
theorem dX1_rowOf_13 : decode cX1_rowOf 13 = .ok (.iaload, 1) := by decide +kernel
theorem dX1_rowOf_14 : decode cX1_rowOf 14 = .ok (.goto 4, 3) := by decide +kernel
theorem dX1_rowOf_17 : decode cX1_rowOf 17 = .ok (.iconst (-1), 1) := by decide +kernel
theorem dX1_rowOf_18 : decode cX1_rowOf 18 = .ok (.ireturn, 1) := by decide +kernel
set_option maxRecDepth 20000 in
theorem ggX1_columnOf_X1_isContact : GoodIn wsX1_columnOf wsX1_isContact := goodIn_r _ [6, 7, 8, 9, 10, 11, 12, 13] (by decide +kernel) (by decide +kernel)
set_option maxRecDepth 20000 in
theorem gX1_columnOf_X1_isContact : GoodIn wsX1_columnOf (wsV RX1 68 RX1 yX1_isContact wsX1_isContact) := goodIn_app (goodIn_of _ (by decide +kernel)) ggX1_columnOf_X1_isContact
theorem dX1_columnOf_0 : decode cX1_columnOf 0 = .ok (.aload_n 0, 1) := by decide +kernel
theorem dX1_columnOf_1 : decode cX1_columnOf 1 = .ok (.iload_n 1, 1) := by decide +kernel
theorem dX1_columnOf_2 : decode cX1_columnOf 2 = .ok (.invokevirtual 68, 3) := by decide +kernel
theorem dX1_columnOf_5 : decode cX1_columnOf 5 = .ok (.ifCond .eq 12, 3) := by decide +kernel
theorem dX1_columnOf_8 : decode cX1_columnOf 8 = .ok (.aload_n 0, 1) := by decide +kernel
theorem dX1_columnOf_9 : decode cX1_columnOf 9 = .ok (.getfield 18, 3) := by decide +kernel
theorem dX1_columnOf_12 : decode cX1_columnOf 12 = .ok (.iload_n 1, 1) := by decide +kernel
theorem dX1_columnOf_13 : decode cX1_columnOf 13 = .ok (.iaload, 1) := by decide +kernel
theorem dX1_columnOf_14 : decode cX1_columnOf 14 = .ok (.goto 4, 3) := by decide +kernel
theorem dX1_columnOf_17 : decode cX1_columnOf 17 = .ok (.iconst (-1), 1) := by decide +kernel
theorem dX1_columnOf_18 : decode cX1_columnOf 18 = .ok (.ireturn, 1) := by decide +kernel
set_option maxRecDepth 20000 in
theorem ggX1_partOf_X1_isContact : GoodIn wsX1_partOf wsX1_isContact := goodIn_r _ [9, 10, 11, 12, 13, 14, 15, 16] (by decide +kernel) (by decide +kernel)
set_option maxRecDepth 20000 in
theorem gX1_partOf_X1_isContact : GoodIn wsX1_partOf (wsV RX1 68 RX1 yX1_isContact wsX1_isContact) := goodIn_app (goodIn_of _ (by decide +kernel)) ggX1_partOf_X1_isContact
theorem dX1_partOf_0 : decode cX1_partOf 0 = .ok (.aload_n 0, 1) := by decide +kernel
theorem dX1_partOf_1 : decode cX1_partOf 1 = .ok (.iload_n 1, 1) := by decide +kernel
theorem dX1_partOf_2 : decode cX1_partOf 2 = .ok (.invokevirtual 68, 3) := by decide +kernel
theorem dX1_partOf_5 : decode cX1_partOf 5 = .ok (.ifCond .ne 5, 3) := by decide +kernel
theorem dX1_partOf_8 : decode cX1_partOf 8 = .ok (.iconst (-1), 1) := by decide +kernel
theorem dX1_partOf_9 : decode cX1_partOf 9 = .ok (.ireturn, 1) := by decide +kernel
theorem dX1_partOf_10 : decode cX1_partOf 10 = .ok (.iload_n 2, 1) := by decide +kernel
theorem dX1_partOf_11 : decode cX1_partOf 11 = .ok (.tableswitch 46 0 2 #[25, 32, 39], 25) := by decide +kernel
theorem dX1_partOf_36 : decode cX1_partOf 36 = .ok (.aload_n 0, 1) := by decide +kernel
theorem dX1_partOf_37 : decode cX1_partOf 37 = .ok (.getfield 15, 3) := by decide +kernel
theorem dX1_partOf_40 : decode cX1_partOf 40 = .ok (.iload_n 1, 1) := by decide +kernel
theorem dX1_partOf_41 : decode cX1_partOf 41 = .ok (.iaload, 1) := by decide +kernel
theorem dX1_partOf_42 : decode cX1_partOf 42 = .ok (.ireturn, 1) := by decide +kernel
theorem dX1_partOf_43 : decode cX1_partOf 43 = .ok (.aload_n 0, 1) := by decide +kernel
theorem dX1_partOf_44 : decode cX1_partOf 44 = .ok (.getfield 18, 3) := by decide +kernel
theorem dX1_partOf_47 : decode cX1_partOf 47 = .ok (.iload_n 1, 1) := by decide +kernel
theorem dX1_partOf_48 : decode cX1_partOf 48 = .ok (.iaload, 1) := by decide +kernel
theorem dX1_partOf_49 : decode cX1_partOf 49 = .ok (.ireturn, 1) := by decide +kernel
theorem dX1_partOf_50 : decode cX1_partOf 50 = .ok (.aload_n 0, 1) := by decide +kernel
theorem dX1_partOf_51 : decode cX1_partOf 51 = .ok (.getfield 21, 3) := by decide +kernel
theorem dX1_partOf_54 : decode cX1_partOf 54 = .ok (.iload_n 1, 1) := by decide +kernel
theorem dX1_partOf_55 : decode cX1_partOf 55 = .ok (.iaload, 1) := by decide +kernel
theorem dX1_partOf_56 : decode cX1_partOf 56 = .ok (.ireturn, 1) := by decide +kernel
theorem dX1_partOf_57 : decode cX1_partOf 57 = .ok (.aload_n 0, 1) := by decide +kernel
theorem dX1_partOf_58 : decode cX1_partOf 58 = .ok (.getfield 24, 3) := by decide +kernel
theorem dX1_partOf_61 : decode cX1_partOf 61 = .ok (.iload_n 1, 1) := by decide +kernel
theorem dX1_partOf_62 : decode cX1_partOf 62 = .ok (.iaload, 1) := by decide +kernel
theorem dX1_partOf_63 : decode cX1_partOf 63 = .ok (.ireturn, 1) := by decide +kernel
set_option maxRecDepth 20000 in
theorem ggX2_init_X6_init : GoodIn wsX2_init wsX6_init := goodIn_r _ [10, 11, 2, 3, 12, 13, 14, 15, 16, 17, 18, 19, 20, 21, 22, 23, 24, 25, 26, 27, 28, 29, 30, 31, 32, 33, 42, 43, 36, 37, 38, 39, 40, 41, 44, 45, 46, 47, 48] (by decide +kernel) (by decide +kernel)
set_option maxRecDepth 20000 in
theorem gX2_init_X6_init : GoodIn wsX2_init (wsX6_init) := ggX2_init_X6_init
theorem dX2_init_0 : decode cX2_init 0 = .ok (.aload_n 0, 1) := by decide +kernel
theorem dX2_init_1 : decode cX2_init 1 = .ok (.invokespecial 1, 3) := by decide +kernel
theorem dX2_init_4 : decode cX2_init 4 = .ok (.aload_n 0, 1) := by decide +kernel
theorem dX2_init_5 : decode cX2_init 5 = .ok (.bipush 6, 2) := by decide +kernel
theorem dX2_init_7 : decode cX2_init 7 = .ok (.anewarray 9, 3) := by decide +kernel
theorem dX2_init_10 : decode cX2_init 10 = .ok (.putfield 11, 3) := by decide +kernel
theorem dX2_init_13 : decode cX2_init 13 = .ok (.iconst 0, 1) := by decide +kernel
theorem dX2_init_14 : decode cX2_init 14 = .ok (.istore_n 1, 1) := by decide +kernel
theorem dX2_init_15 : decode cX2_init 15 = .ok (.iload_n 1, 1) := by decide +kernel
theorem dX2_init_16 : decode cX2_init 16 = .ok (.bipush 6, 2) := by decide +kernel
theorem dX2_init_18 : decode cX2_init 18 = .ok (.if_icmp .ge 22, 3) := by decide +kernel
theorem dX2_init_21 : decode cX2_init 21 = .ok (.aload_n 0, 1) := by decide +kernel
theorem dX2_init_22 : decode cX2_init 22 = .ok (.getfield 11, 3) := by decide +kernel
theorem dX2_init_25 : decode cX2_init 25 = .ok (.iload_n 1, 1) := by decide +kernel
theorem dX2_init_26 : decode cX2_init 26 = .ok (.new 9, 3) := by decide +kernel
theorem dX2_init_29 : decode cX2_init 29 = .ok (.dup, 1) := by decide +kernel
theorem dX2_init_30 : decode cX2_init 30 = .ok (.invokespecial 15, 3) := by decide +kernel
theorem dX2_init_33 : decode cX2_init 33 = .ok (.aastore, 1) := by decide +kernel
theorem dX2_init_34 : decode cX2_init 34 = .ok (.iinc 1 1, 3) := by decide +kernel
theorem dX2_init_37 : decode cX2_init 37 = .ok (.goto (-22), 3) := by decide +kernel
theorem dX2_init_40 : decode cX2_init 40 = .ok (.return_, 1) := by decide +kernel
set_option maxRecDepth 20000 in
theorem ggX2_save_X2_dropOldest : GoodIn wsX2_save wsX2_dropOldest := goodIn_r _ [7, 2, 1, 41, 42] (by decide +kernel) (by decide +kernel)
set_option maxRecDepth 20000 in
theorem gX2_save_X2_dropOldest : GoodIn wsX2_save (wsV RX2 20 RX2 yX2_dropOldest wsX2_dropOldest) := goodIn_app (goodIn_of _ (by decide +kernel)) ggX2_save_X2_dropOldest
set_option maxRecDepth 20000 in
theorem ggX2_save_X6_copyFrom : GoodIn wsX2_save wsX6_copyFrom := goodIn_r _ [12, 13, 14, 15, 16, 17, 18, 19, 20, 21, 22, 23, 24, 25, 26, 27, 28, 29, 30, 31, 32, 33, 34, 35, 36, 37, 38, 39, 40, 43, 44, 45, 46, 47, 48, 49, 50, 51, 52, 53, 54, 55] (by decide +kernel) (by decide +kernel)
set_option maxRecDepth 20000 in
theorem gX2_save_X6_copyFrom : GoodIn wsX2_save (wsV RX2 23 RX6 yX6_copyFrom wsX6_copyFrom) := goodIn_app (goodIn_of _ (by decide +kernel)) ggX2_save_X6_copyFrom
theorem dX2_save_0 : decode cX2_save 0 = .ok (.aload_n 0, 1) := by decide +kernel
theorem dX2_save_1 : decode cX2_save 1 = .ok (.getfield 16, 3) := by decide +kernel
theorem dX2_save_4 : decode cX2_save 4 = .ok (.bipush 6, 2) := by decide +kernel
theorem dX2_save_6 : decode cX2_save 6 = .ok (.if_icmp .lt 7, 3) := by decide +kernel
theorem dX2_save_9 : decode cX2_save 9 = .ok (.aload_n 0, 1) := by decide +kernel
theorem dX2_save_10 : decode cX2_save 10 = .ok (.invokevirtual 20, 3) := by decide +kernel
theorem dX2_save_13 : decode cX2_save 13 = .ok (.aload_n 0, 1) := by decide +kernel
theorem dX2_save_14 : decode cX2_save 14 = .ok (.getfield 11, 3) := by decide +kernel
theorem dX2_save_17 : decode cX2_save 17 = .ok (.aload_n 0, 1) := by decide +kernel
theorem dX2_save_18 : decode cX2_save 18 = .ok (.getfield 16, 3) := by decide +kernel
theorem dX2_save_21 : decode cX2_save 21 = .ok (.aaload, 1) := by decide +kernel
theorem dX2_save_22 : decode cX2_save 22 = .ok (.aload_n 1, 1) := by decide +kernel
theorem dX2_save_23 : decode cX2_save 23 = .ok (.invokevirtual 23, 3) := by decide +kernel
theorem dX2_save_26 : decode cX2_save 26 = .ok (.aload_n 0, 1) := by decide +kernel
theorem dX2_save_27 : decode cX2_save 27 = .ok (.dup, 1) := by decide +kernel
theorem dX2_save_28 : decode cX2_save 28 = .ok (.getfield 16, 3) := by decide +kernel
theorem dX2_save_31 : decode cX2_save 31 = .ok (.iconst 1, 1) := by decide +kernel
theorem dX2_save_32 : decode cX2_save 32 = .ok (.iadd, 1) := by decide +kernel
theorem dX2_save_33 : decode cX2_save 33 = .ok (.putfield 16, 3) := by decide +kernel
theorem dX2_save_36 : decode cX2_save 36 = .ok (.return_, 1) := by decide +kernel
theorem dX2_dropOldest_0 : decode cX2_dropOldest 0 = .ok (.aload_n 0, 1) := by decide +kernel
theorem dX2_dropOldest_1 : decode cX2_dropOldest 1 = .ok (.getfield 11, 3) := by decide +kernel
theorem dX2_dropOldest_4 : decode cX2_dropOldest 4 = .ok (.iconst 0, 1) := by decide +kernel
theorem dX2_dropOldest_5 : decode cX2_dropOldest 5 = .ok (.aaload, 1) := by decide +kernel
theorem dX2_dropOldest_6 : decode cX2_dropOldest 6 = .ok (.astore_n 1, 1) := by decide +kernel
theorem dX2_dropOldest_7 : decode cX2_dropOldest 7 = .ok (.iconst 1, 1) := by decide +kernel
theorem dX2_dropOldest_8 : decode cX2_dropOldest 8 = .ok (.istore_n 2, 1) := by decide +kernel
theorem dX2_dropOldest_9 : decode cX2_dropOldest 9 = .ok (.iload_n 2, 1) := by decide +kernel
theorem dX2_dropOldest_10 : decode cX2_dropOldest 10 = .ok (.bipush 6, 2) := by decide +kernel
theorem dX2_dropOldest_12 : decode cX2_dropOldest 12 = .ok (.if_icmp .ge 23, 3) := by decide +kernel
theorem dX2_dropOldest_15 : decode cX2_dropOldest 15 = .ok (.aload_n 0, 1) := by decide +kernel
theorem dX2_dropOldest_16 : decode cX2_dropOldest 16 = .ok (.getfield 11, 3) := by decide +kernel
theorem dX2_dropOldest_19 : decode cX2_dropOldest 19 = .ok (.iload_n 2, 1) := by decide +kernel
theorem dX2_dropOldest_20 : decode cX2_dropOldest 20 = .ok (.iconst 1, 1) := by decide +kernel
theorem dX2_dropOldest_21 : decode cX2_dropOldest 21 = .ok (.isub, 1) := by decide +kernel
theorem dX2_dropOldest_22 : decode cX2_dropOldest 22 = .ok (.aload_n 0, 1) := by decide +kernel
theorem dX2_dropOldest_23 : decode cX2_dropOldest 23 = .ok (.getfield 11, 3) := by decide +kernel
theorem dX2_dropOldest_26 : decode cX2_dropOldest 26 = .ok (.iload_n 2, 1) := by decide +kernel
theorem dX2_dropOldest_27 : decode cX2_dropOldest 27 = .ok (.aaload, 1) := by decide +kernel
theorem dX2_dropOldest_28 : decode cX2_dropOldest 28 = .ok (.aastore, 1) := by decide +kernel
theorem dX2_dropOldest_29 : decode cX2_dropOldest 29 = .ok (.iinc 2 1, 3) := by decide +kernel
theorem dX2_dropOldest_32 : decode cX2_dropOldest 32 = .ok (.goto (-23), 3) := by decide +kernel
theorem dX2_dropOldest_35 : decode cX2_dropOldest 35 = .ok (.aload_n 0, 1) := by decide +kernel
theorem dX2_dropOldest_36 : decode cX2_dropOldest 36 = .ok (.getfield 11, 3) := by decide +kernel
theorem dX2_dropOldest_39 : decode cX2_dropOldest 39 = .ok (.iconst 5, 1) := by decide +kernel
theorem dX2_dropOldest_40 : decode cX2_dropOldest 40 = .ok (.aload_n 1, 1) := by decide +kernel
theorem dX2_dropOldest_41 : decode cX2_dropOldest 41 = .ok (.aastore, 1) := by decide +kernel
theorem dX2_dropOldest_42 : decode cX2_dropOldest 42 = .ok (.aload_n 0, 1) := by decide +kernel
theorem dX2_dropOldest_43 : decode cX2_dropOldest 43 = .ok (.iconst 5, 1) := by decide +kernel
theorem dX2_dropOldest_44 : decode cX2_dropOldest 44 = .ok (.putfield 16, 3) := by decide +kernel
theorem dX2_dropOldest_47 : decode cX2_dropOldest 47 = .ok (.return_, 1) := by decide +kernel
set_option maxRecDepth 20000 in
theorem ggX2_restore_X6_copyFrom : GoodIn wsX2_restore wsX6_copyFrom := goodIn_r _ [7, 8, 9, 10, 11, 12, 13, 14, 15, 16, 17, 18, 19, 20, 21, 22, 23, 24, 25, 26, 27, 28, 29, 30, 31, 32, 33, 34, 35, 38, 39, 40, 41, 42, 43, 44, 45, 46, 47, 48, 49, 50] (by decide +kernel) (by decide +kernel)
set_option maxRecDepth 20000 in
theorem gX2_restore_X6_copyFrom : GoodIn wsX2_restore (wsV RX2 23 RX6 yX6_copyFrom wsX6_copyFrom) := goodIn_app (goodIn_of _ (by decide +kernel)) ggX2_restore_X6_copyFrom
theorem dX2_restore_0 : decode cX2_restore 0 = .ok (.aload_n 0, 1) := by decide +kernel
theorem dX2_restore_1 : decode cX2_restore 1 = .ok (.getfield 16, 3) := by decide +kernel
theorem dX2_restore_4 : decode cX2_restore 4 = .ok (.ifCond .le 26, 3) := by decide +kernel
theorem dX2_restore_7 : decode cX2_restore 7 = .ok (.aload_n 0, 1) := by decide +kernel
theorem dX2_restore_8 : decode cX2_restore 8 = .ok (.dup, 1) := by decide +kernel
theorem dX2_restore_9 : decode cX2_restore 9 = .ok (.getfield 16, 3) := by decide +kernel
theorem dX2_restore_12 : decode cX2_restore 12 = .ok (.iconst 1, 1) := by decide +kernel
theorem dX2_restore_13 : decode cX2_restore 13 = .ok (.isub, 1) := by decide +kernel
theorem dX2_restore_14 : decode cX2_restore 14 = .ok (.putfield 16, 3) := by decide +kernel
theorem dX2_restore_17 : decode cX2_restore 17 = .ok (.aload_n 1, 1) := by decide +kernel
theorem dX2_restore_18 : decode cX2_restore 18 = .ok (.aload_n 0, 1) := by decide +kernel
theorem dX2_restore_19 : decode cX2_restore 19 = .ok (.getfield 11, 3) := by decide +kernel
theorem dX2_restore_22 : decode cX2_restore 22 = .ok (.aload_n 0, 1) := by decide +kernel
theorem dX2_restore_23 : decode cX2_restore 23 = .ok (.getfield 16, 3) := by decide +kernel
theorem dX2_restore_26 : decode cX2_restore 26 = .ok (.aaload, 1) := by decide +kernel
theorem dX2_restore_27 : decode cX2_restore 27 = .ok (.invokevirtual 23, 3) := by decide +kernel
theorem dX2_restore_30 : decode cX2_restore 30 = .ok (.return_, 1) := by decide +kernel
theorem dX3_init_0 : decode cX3_init 0 = .ok (.aload_n 0, 1) := by decide +kernel
theorem dX3_init_1 : decode cX3_init 1 = .ok (.invokespecial 3, 3) := by decide +kernel
theorem dX3_init_4 : decode cX3_init 4 = .ok (.aload_n 0, 1) := by decide +kernel
theorem dX3_init_5 : decode cX3_init 5 = .ok (.bipush 6, 2) := by decide +kernel
theorem dX3_init_7 : decode cX3_init 7 = .ok (.bipush 6, 2) := by decide +kernel
theorem dX3_init_9 : decode cX3_init 9 = .ok (.multianewarray 9 2, 4) := by decide +kernel
theorem dX3_init_13 : decode cX3_init 13 = .ok (.putfield 11, 3) := by decide +kernel
theorem dX3_init_16 : decode cX3_init 16 = .ok (.aload_n 0, 1) := by decide +kernel
theorem dX3_init_17 : decode cX3_init 17 = .ok (.bipush 6, 2) := by decide +kernel
theorem dX3_init_19 : decode cX3_init 19 = .ok (.newarray .int, 2) := by decide +kernel
theorem dX3_init_21 : decode cX3_init 21 = .ok (.putfield 16, 3) := by decide +kernel
theorem dX3_init_24 : decode cX3_init 24 = .ok (.aload_n 0, 1) := by decide +kernel
theorem dX3_init_25 : decode cX3_init 25 = .ok (.bipush 7, 2) := by decide +kernel
theorem dX3_init_27 : decode cX3_init 27 = .ok (.bipush 64, 2) := by decide +kernel
theorem dX3_init_29 : decode cX3_init 29 = .ok (.multianewarray 9 2, 4) := by decide +kernel
theorem dX3_init_33 : decode cX3_init 33 = .ok (.putfield 20, 3) := by decide +kernel
theorem dX3_init_36 : decode cX3_init 36 = .ok (.aload_n 0, 1) := by decide +kernel
theorem dX3_init_37 : decode cX3_init 37 = .ok (.bipush 6, 2) := by decide +kernel
theorem dX3_init_39 : decode cX3_init 39 = .ok (.newarray .int, 2) := by decide +kernel
theorem dX3_init_41 : decode cX3_init 41 = .ok (.putfield 23, 3) := by decide +kernel
theorem dX3_init_44 : decode cX3_init 44 = .ok (.return_, 1) := by decide +kernel
set_option maxRecDepth 20000 in
theorem ggX3_find_X3_pairCost : GoodIn wsX3_find wsX3_pairCost := goodIn_r _ [8, 9, 10, 11, 12, 13, 14, 15, 16, 17, 18, 19, 20, 21, 22, 23, 24, 25, 26, 27, 28, 29, 30, 31, 72, 73, 74, 75, 76, 54, 55, 56, 57, 58, 59] (by decide +kernel) (by decide +kernel)
set_option maxRecDepth 20000 in
theorem gX3_find_X3_pairCost : GoodIn wsX3_find (va_wsS RX3 48 yX3_pairCost wsX3_pairCost) := goodIn_app (goodIn_of _ (by decide +kernel)) ggX3_find_X3_pairCost
set_option maxRecDepth 20000 in
theorem ggX3_find_X3_leastCost : GoodIn wsX3_find wsX3_leastCost := goodIn_r _ [35, 2, 4, 1, 36, 37, 38, 7, 39, 3, 40, 41, 42, 43, 60, 61, 62, 63, 64, 65] (by decide +kernel) (by decide +kernel)
set_option maxRecDepth 20000 in
theorem gX3_find_X3_leastCost : GoodIn wsX3_find (wsV RX3 52 RX3 yX3_leastCost wsX3_leastCost) := goodIn_app (goodIn_of _ (by decide +kernel)) ggX3_find_X3_leastCost
set_option maxRecDepth 20000 in
theorem ggX3_find_X3_assign : GoodIn wsX3_find wsX3_assign := goodIn_r _ [47, 48, 49, 50, 51, 52, 7, 53, 1, 4, 36, 37, 38, 39, 3, 40, 41, 42, 43, 60, 61, 62, 63, 64, 65] (by decide +kernel) (by decide +kernel)
set_option maxRecDepth 20000 in
theorem gX3_find_X3_assign : GoodIn wsX3_find (wsV RX3 56 RX3 yX3_assign wsX3_assign) := goodIn_app (goodIn_of _ (by decide +kernel)) ggX3_find_X3_assign
theorem dX3_find_0 : decode cX3_find 0 = .ok (.aload_n 0, 1) := by decide +kernel
theorem dX3_find_1 : decode cX3_find 1 = .ok (.aload_n 2, 1) := by decide +kernel
theorem dX3_find_2 : decode cX3_find 2 = .ok (.getfield 26, 3) := by decide +kernel
theorem dX3_find_5 : decode cX3_find 5 = .ok (.bipush 6, 2) := by decide +kernel
theorem dX3_find_7 : decode cX3_find 7 = .ok (.if_icmp .ge 10, 3) := by decide +kernel
theorem dX3_find_10 : decode cX3_find 10 = .ok (.aload_n 2, 1) := by decide +kernel
theorem dX3_find_11 : decode cX3_find 11 = .ok (.getfield 26, 3) := by decide +kernel
theorem dX3_find_14 : decode cX3_find 14 = .ok (.goto 5, 3) := by decide +kernel
theorem dX3_find_17 : decode cX3_find 17 = .ok (.bipush 6, 2) := by decide +kernel
theorem dX3_find_19 : decode cX3_find 19 = .ok (.putfield 32, 3) := by decide +kernel
theorem dX3_find_22 : decode cX3_find 22 = .ok (.aload_n 1, 1) := by decide +kernel
theorem dX3_find_23 : decode cX3_find 23 = .ok (.getfield 33, 3) := by decide +kernel
theorem dX3_find_26 : decode cX3_find 26 = .ok (.iconst 3, 1) := by decide +kernel
theorem dX3_find_27 : decode cX3_find 27 = .ok (.iaload, 1) := by decide +kernel
theorem dX3_find_28 : decode cX3_find 28 = .ok (.aload_n 1, 1) := by decide +kernel
theorem dX3_find_29 : decode cX3_find 29 = .ok (.getfield 33, 3) := by decide +kernel
theorem dX3_find_32 : decode cX3_find 32 = .ok (.iconst 3, 1) := by decide +kernel
theorem dX3_find_33 : decode cX3_find 33 = .ok (.iaload, 1) := by decide +kernel
theorem dX3_find_34 : decode cX3_find 34 = .ok (.imul, 1) := by decide +kernel
theorem dX3_find_35 : decode cX3_find 35 = .ok (.istore_n 3, 1) := by decide +kernel
theorem dX3_find_36 : decode cX3_find 36 = .ok (.iconst 0, 1) := by decide +kernel
theorem dX3_find_37 : decode cX3_find 37 = .ok (.istore 4, 2) := by decide +kernel
theorem dX3_find_39 : decode cX3_find 39 = .ok (.iload 4, 2) := by decide +kernel
theorem dX3_find_41 : decode cX3_find 41 = .ok (.bipush 6, 2) := by decide +kernel
theorem dX3_find_43 : decode cX3_find 43 = .ok (.if_icmp .ge 76, 3) := by decide +kernel
theorem dX3_find_46 : decode cX3_find 46 = .ok (.aload_n 0, 1) := by decide +kernel
theorem dX3_find_47 : decode cX3_find 47 = .ok (.getfield 16, 3) := by decide +kernel
theorem dX3_find_50 : decode cX3_find 50 = .ok (.iload 4, 2) := by decide +kernel
theorem dX3_find_52 : decode cX3_find 52 = .ok (.aload_n 1, 1) := by decide +kernel
theorem dX3_find_53 : decode cX3_find 53 = .ok (.getfield 38, 3) := by decide +kernel
theorem dX3_find_56 : decode cX3_find 56 = .ok (.iload 4, 2) := by decide +kernel
theorem dX3_find_58 : decode cX3_find 58 = .ok (.aaload, 1) := by decide +kernel
theorem dX3_find_59 : decode cX3_find 59 = .ok (.getfield 42, 3) := by decide +kernel
theorem dX3_find_62 : decode cX3_find 62 = .ok (.ifCond .eq 7, 3) := by decide +kernel
theorem dX3_find_65 : decode cX3_find 65 = .ok (.iload_n 3, 1) := by decide +kernel
theorem dX3_find_66 : decode cX3_find 66 = .ok (.goto 4, 3) := by decide +kernel
theorem dX3_find_69 : decode cX3_find 69 = .ok (.iconst 0, 1) := by decide +kernel
theorem dX3_find_70 : decode cX3_find 70 = .ok (.iastore, 1) := by decide +kernel
theorem dX3_find_71 : decode cX3_find 71 = .ok (.iconst 0, 1) := by decide +kernel
theorem dX3_find_72 : decode cX3_find 72 = .ok (.istore 5, 2) := by decide +kernel
theorem dX3_find_74 : decode cX3_find 74 = .ok (.iload 5, 2) := by decide +kernel
theorem dX3_find_76 : decode cX3_find 76 = .ok (.aload_n 0, 1) := by decide +kernel
theorem dX3_find_77 : decode cX3_find 77 = .ok (.getfield 32, 3) := by decide +kernel
theorem dX3_find_80 : decode cX3_find 80 = .ok (.if_icmp .ge 33, 3) := by decide +kernel
theorem dX3_find_83 : decode cX3_find 83 = .ok (.aload_n 0, 1) := by decide +kernel
theorem dX3_find_84 : decode cX3_find 84 = .ok (.getfield 11, 3) := by decide +kernel
theorem dX3_find_87 : decode cX3_find 87 = .ok (.iload 4, 2) := by decide +kernel
theorem dX3_find_89 : decode cX3_find 89 = .ok (.aaload, 1) := by decide +kernel
theorem dX3_find_90 : decode cX3_find 90 = .ok (.iload 5, 2) := by decide +kernel
theorem dX3_find_92 : decode cX3_find 92 = .ok (.aload_n 1, 1) := by decide +kernel
theorem dX3_find_93 : decode cX3_find 93 = .ok (.getfield 38, 3) := by decide +kernel
theorem dX3_find_96 : decode cX3_find 96 = .ok (.iload 4, 2) := by decide +kernel
theorem dX3_find_98 : decode cX3_find 98 = .ok (.aaload, 1) := by decide +kernel
theorem dX3_find_99 : decode cX3_find 99 = .ok (.aload_n 2, 1) := by decide +kernel
theorem dX3_find_100 : decode cX3_find 100 = .ok (.iload 5, 2) := by decide +kernel
theorem dX3_find_102 : decode cX3_find 102 = .ok (.iload_n 3, 1) := by decide +kernel
theorem dX3_find_103 : decode cX3_find 103 = .ok (.invokestatic 48, 3) := by decide +kernel
theorem dX3_find_106 : decode cX3_find 106 = .ok (.iastore, 1) := by decide +kernel
theorem dX3_find_107 : decode cX3_find 107 = .ok (.iinc 5 1, 3) := by decide +kernel
theorem dX3_find_110 : decode cX3_find 110 = .ok (.goto (-36), 3) := by decide +kernel
theorem dX3_find_113 : decode cX3_find 113 = .ok (.iinc 4 1, 3) := by decide +kernel
theorem dX3_find_116 : decode cX3_find 116 = .ok (.goto (-77), 3) := by decide +kernel
theorem dX3_find_119 : decode cX3_find 119 = .ok (.iconst 1, 1) := by decide +kernel
theorem dX3_find_120 : decode cX3_find 120 = .ok (.aload_n 0, 1) := by decide +kernel
theorem dX3_find_121 : decode cX3_find 121 = .ok (.getfield 32, 3) := by decide +kernel
theorem dX3_find_124 : decode cX3_find 124 = .ok (.ishl, 1) := by decide +kernel
theorem dX3_find_125 : decode cX3_find 125 = .ok (.istore 4, 2) := by decide +kernel
theorem dX3_find_127 : decode cX3_find 127 = .ok (.iconst 5, 1) := by decide +kernel
theorem dX3_find_128 : decode cX3_find 128 = .ok (.istore 5, 2) := by decide +kernel
theorem dX3_find_130 : decode cX3_find 130 = .ok (.iload 5, 2) := by decide +kernel
theorem dX3_find_132 : decode cX3_find 132 = .ok (.ifCond .lt 43, 3) := by decide +kernel
theorem dX3_find_135 : decode cX3_find 135 = .ok (.iconst 0, 1) := by decide +kernel
theorem dX3_find_136 : decode cX3_find 136 = .ok (.istore 6, 2) := by decide +kernel
theorem dX3_find_138 : decode cX3_find 138 = .ok (.iload 6, 2) := by decide +kernel
theorem dX3_find_140 : decode cX3_find 140 = .ok (.iload 4, 2) := by decide +kernel
theorem dX3_find_142 : decode cX3_find 142 = .ok (.if_icmp .ge 27, 3) := by decide +kernel
theorem dX3_find_145 : decode cX3_find 145 = .ok (.aload_n 0, 1) := by decide +kernel
theorem dX3_find_146 : decode cX3_find 146 = .ok (.getfield 20, 3) := by decide +kernel
theorem dX3_find_149 : decode cX3_find 149 = .ok (.iload 5, 2) := by decide +kernel
theorem dX3_find_151 : decode cX3_find 151 = .ok (.aaload, 1) := by decide +kernel
theorem dX3_find_152 : decode cX3_find 152 = .ok (.iload 6, 2) := by decide +kernel
theorem dX3_find_154 : decode cX3_find 154 = .ok (.aload_n 0, 1) := by decide +kernel
theorem dX3_find_155 : decode cX3_find 155 = .ok (.iload 5, 2) := by decide +kernel
theorem dX3_find_157 : decode cX3_find 157 = .ok (.iload 6, 2) := by decide +kernel
theorem dX3_find_159 : decode cX3_find 159 = .ok (.invokevirtual 52, 3) := by decide +kernel
theorem dX3_find_162 : decode cX3_find 162 = .ok (.iastore, 1) := by decide +kernel
theorem dX3_find_163 : decode cX3_find 163 = .ok (.iinc 6 1, 3) := by decide +kernel
theorem dX3_find_166 : decode cX3_find 166 = .ok (.goto (-28), 3) := by decide +kernel
theorem dX3_find_169 : decode cX3_find 169 = .ok (.iinc 5 (-1), 3) := by decide +kernel
theorem dX3_find_172 : decode cX3_find 172 = .ok (.goto (-42), 3) := by decide +kernel
theorem dX3_find_175 : decode cX3_find 175 = .ok (.aload_n 0, 1) := by decide +kernel
theorem dX3_find_176 : decode cX3_find 176 = .ok (.invokevirtual 56, 3) := by decide +kernel
theorem dX3_find_179 : decode cX3_find 179 = .ok (.return_, 1) := by decide +kernel
set_option maxRecDepth 20000 in
theorem ggX3_pairCost_X1_rowOf : GoodIn wsX3_pairCost wsX1_rowOf := goodIn_r _ [5, 6, 7, 8, 9, 4, 10, 11, 29, 30, 31, 32, 33, 34] (by decide +kernel) (by decide +kernel)
set_option maxRecDepth 20000 in
theorem gX3_pairCost_X1_rowOf : GoodIn wsX3_pairCost (wsV RX3 59 RX1 yX1_rowOf wsX1_rowOf) := goodIn_app (goodIn_of _ (by decide +kernel)) ggX3_pairCost_X1_rowOf
set_option maxRecDepth 20000 in
theorem ggX3_pairCost_X1_columnOf : GoodIn wsX3_pairCost wsX1_columnOf := goodIn_r _ [15, 16, 7, 8, 9, 4, 10, 11, 29, 30, 31, 32, 33, 34] (by decide +kernel) (by decide +kernel)
set_option maxRecDepth 20000 in
theorem gX3_pairCost_X1_columnOf : GoodIn wsX3_pairCost (wsV RX3 63 RX1 yX1_columnOf wsX1_columnOf) := goodIn_app (goodIn_of _ (by decide +kernel)) ggX3_pairCost_X1_columnOf
set_option maxRecDepth 20000 in
theorem ggX3_pairCost_X8_squaredWayTo : GoodIn wsX3_pairCost wsX8_squaredWayTo := goodIn_r _ [21, 22, 23, 24, 25, 26, 27, 28] (by decide +kernel) (by decide +kernel)
set_option maxRecDepth 20000 in
theorem gX3_pairCost_X8_squaredWayTo : GoodIn wsX3_pairCost (wsV RX3 66 RX8 yX8_squaredWayTo wsX8_squaredWayTo) := goodIn_app (goodIn_of _ (by decide +kernel)) ggX3_pairCost_X8_squaredWayTo
theorem dX3_pairCost_0 : decode cX3_pairCost 0 = .ok (.aload_n 0, 1) := by decide +kernel
theorem dX3_pairCost_1 : decode cX3_pairCost 1 = .ok (.getfield 42, 3) := by decide +kernel
theorem dX3_pairCost_4 : decode cX3_pairCost 4 = .ok (.ifCond .ne 5, 3) := by decide +kernel
theorem dX3_pairCost_7 : decode cX3_pairCost 7 = .ok (.iconst (-1), 1) := by decide +kernel
theorem dX3_pairCost_8 : decode cX3_pairCost 8 = .ok (.ireturn, 1) := by decide +kernel
theorem dX3_pairCost_9 : decode cX3_pairCost 9 = .ok (.aload_n 0, 1) := by decide +kernel
theorem dX3_pairCost_10 : decode cX3_pairCost 10 = .ok (.aload_n 1, 1) := by decide +kernel
theorem dX3_pairCost_11 : decode cX3_pairCost 11 = .ok (.iload_n 2, 1) := by decide +kernel
theorem dX3_pairCost_12 : decode cX3_pairCost 12 = .ok (.invokevirtual 59, 3) := by decide +kernel
theorem dX3_pairCost_15 : decode cX3_pairCost 15 = .ok (.aload_n 1, 1) := by decide +kernel
theorem dX3_pairCost_16 : decode cX3_pairCost 16 = .ok (.iload_n 2, 1) := by decide +kernel
theorem dX3_pairCost_17 : decode cX3_pairCost 17 = .ok (.invokevirtual 63, 3) := by decide +kernel
theorem dX3_pairCost_20 : decode cX3_pairCost 20 = .ok (.invokevirtual 66, 3) := by decide +kernel
theorem dX3_pairCost_23 : decode cX3_pairCost 23 = .ok (.istore 4, 2) := by decide +kernel
theorem dX3_pairCost_25 : decode cX3_pairCost 25 = .ok (.iload 4, 2) := by decide +kernel
theorem dX3_pairCost_27 : decode cX3_pairCost 27 = .ok (.iload_n 3, 1) := by decide +kernel
theorem dX3_pairCost_28 : decode cX3_pairCost 28 = .ok (.if_icmp .gt 8, 3) := by decide +kernel
theorem dX3_pairCost_31 : decode cX3_pairCost 31 = .ok (.iload 4, 2) := by decide +kernel
theorem dX3_pairCost_33 : decode cX3_pairCost 33 = .ok (.goto 4, 3) := by decide +kernel
theorem dX3_pairCost_36 : decode cX3_pairCost 36 = .ok (.iconst (-1), 1) := by decide +kernel
theorem dX3_pairCost_37 : decode cX3_pairCost 37 = .ok (.ireturn, 1) := by decide +kernel
set_option maxRecDepth 20000 in
theorem ggX3_leastCost_X3_canTake : GoodIn wsX3_leastCost wsX3_canTake := goodIn_r _ [8, 9, 14, 15, 16, 17, 18, 19] (by decide +kernel) (by decide +kernel)
set_option maxRecDepth 20000 in
theorem gX3_leastCost_X3_canTake : GoodIn wsX3_leastCost (wsV RX3 69 RX3 yX3_canTake wsX3_canTake) := goodIn_app (goodIn_of _ (by decide +kernel)) ggX3_leastCost_X3_canTake
set_option maxRecDepth 20000 in
theorem ggX3_leastCost_X3_costWith : GoodIn wsX3_leastCost wsX3_costWith := goodIn_r _ [13, 9, 2, 14, 15, 16, 17, 18, 19] (by decide +kernel) (by decide +kernel)
set_option maxRecDepth 20000 in
theorem gX3_leastCost_X3_costWith : GoodIn wsX3_leastCost (wsV RX3 73 RX3 yX3_costWith wsX3_costWith) := goodIn_app (goodIn_of _ (by decide +kernel)) ggX3_leastCost_X3_costWith
theorem dX3_leastCost_0 : decode cX3_leastCost 0 = .ok (.aload_n 0, 1) := by decide +kernel
theorem dX3_leastCost_1 : decode cX3_leastCost 1 = .ok (.getfield 16, 3) := by decide +kernel
theorem dX3_leastCost_4 : decode cX3_leastCost 4 = .ok (.iload_n 1, 1) := by decide +kernel
theorem dX3_leastCost_5 : decode cX3_leastCost 5 = .ok (.iaload, 1) := by decide +kernel
theorem dX3_leastCost_6 : decode cX3_leastCost 6 = .ok (.aload_n 0, 1) := by decide +kernel
theorem dX3_leastCost_7 : decode cX3_leastCost 7 = .ok (.getfield 20, 3) := by decide +kernel
theorem dX3_leastCost_10 : decode cX3_leastCost 10 = .ok (.iload_n 1, 1) := by decide +kernel
theorem dX3_leastCost_11 : decode cX3_leastCost 11 = .ok (.iconst 1, 1) := by decide +kernel
theorem dX3_leastCost_12 : decode cX3_leastCost 12 = .ok (.iadd, 1) := by decide +kernel
theorem dX3_leastCost_13 : decode cX3_leastCost 13 = .ok (.aaload, 1) := by decide +kernel
theorem dX3_leastCost_14 : decode cX3_leastCost 14 = .ok (.iload_n 2, 1) := by decide +kernel
theorem dX3_leastCost_15 : decode cX3_leastCost 15 = .ok (.iaload, 1) := by decide +kernel
theorem dX3_leastCost_16 : decode cX3_leastCost 16 = .ok (.iadd, 1) := by decide +kernel
theorem dX3_leastCost_17 : decode cX3_leastCost 17 = .ok (.istore_n 3, 1) := by decide +kernel
theorem dX3_leastCost_18 : decode cX3_leastCost 18 = .ok (.iconst 0, 1) := by decide +kernel
theorem dX3_leastCost_19 : decode cX3_leastCost 19 = .ok (.istore 4, 2) := by decide +kernel
theorem dX3_leastCost_21 : decode cX3_leastCost 21 = .ok (.iload 4, 2) := by decide +kernel
theorem dX3_leastCost_23 : decode cX3_leastCost 23 = .ok (.aload_n 0, 1) := by decide +kernel
theorem dX3_leastCost_24 : decode cX3_leastCost 24 = .ok (.getfield 32, 3) := by decide +kernel
theorem dX3_leastCost_27 : decode cX3_leastCost 27 = .ok (.if_icmp .ge 43, 3) := by decide +kernel
theorem dX3_leastCost_30 : decode cX3_leastCost 30 = .ok (.aload_n 0, 1) := by decide +kernel
theorem dX3_leastCost_31 : decode cX3_leastCost 31 = .ok (.iload_n 1, 1) := by decide +kernel
theorem dX3_leastCost_32 : decode cX3_leastCost 32 = .ok (.iload 4, 2) := by decide +kernel
theorem dX3_leastCost_34 : decode cX3_leastCost 34 = .ok (.iload_n 2, 1) := by decide +kernel
theorem dX3_leastCost_35 : decode cX3_leastCost 35 = .ok (.invokevirtual 69, 3) := by decide +kernel
theorem dX3_leastCost_38 : decode cX3_leastCost 38 = .ok (.ifCond .eq 26, 3) := by decide +kernel
theorem dX3_leastCost_41 : decode cX3_leastCost 41 = .ok (.aload_n 0, 1) := by decide +kernel
theorem dX3_leastCost_42 : decode cX3_leastCost 42 = .ok (.iload_n 1, 1) := by decide +kernel
theorem dX3_leastCost_43 : decode cX3_leastCost 43 = .ok (.iload 4, 2) := by decide +kernel
theorem dX3_leastCost_45 : decode cX3_leastCost 45 = .ok (.iload_n 2, 1) := by decide +kernel
theorem dX3_leastCost_46 : decode cX3_leastCost 46 = .ok (.invokevirtual 73, 3) := by decide +kernel
theorem dX3_leastCost_49 : decode cX3_leastCost 49 = .ok (.istore 5, 2) := by decide +kernel
theorem dX3_leastCost_51 : decode cX3_leastCost 51 = .ok (.iload 5, 2) := by decide +kernel
theorem dX3_leastCost_53 : decode cX3_leastCost 53 = .ok (.iload_n 3, 1) := by decide +kernel
theorem dX3_leastCost_54 : decode cX3_leastCost 54 = .ok (.if_icmp .ge 8, 3) := by decide +kernel
theorem dX3_leastCost_57 : decode cX3_leastCost 57 = .ok (.iload 5, 2) := by decide +kernel
theorem dX3_leastCost_59 : decode cX3_leastCost 59 = .ok (.goto 4, 3) := by decide +kernel
theorem dX3_leastCost_62 : decode cX3_leastCost 62 = .ok (.iload_n 3, 1) := by decide +kernel
theorem dX3_leastCost_63 : decode cX3_leastCost 63 = .ok (.istore_n 3, 1) := by decide +kernel
theorem dX3_leastCost_64 : decode cX3_leastCost 64 = .ok (.iinc 4 1, 3) := by decide +kernel
theorem dX3_leastCost_67 : decode cX3_leastCost 67 = .ok (.goto (-46), 3) := by decide +kernel
theorem dX3_leastCost_70 : decode cX3_leastCost 70 = .ok (.iload_n 3, 1) := by decide +kernel
theorem dX3_leastCost_71 : decode cX3_leastCost 71 = .ok (.ireturn, 1) := by decide +kernel
theorem dX3_canTake_0 : decode cX3_canTake 0 = .ok (.aload_n 0, 1) := by decide +kernel
theorem dX3_canTake_1 : decode cX3_canTake 1 = .ok (.getfield 11, 3) := by decide +kernel
theorem dX3_canTake_4 : decode cX3_canTake 4 = .ok (.iload_n 1, 1) := by decide +kernel
theorem dX3_canTake_5 : decode cX3_canTake 5 = .ok (.aaload, 1) := by decide +kernel
theorem dX3_canTake_6 : decode cX3_canTake 6 = .ok (.iload_n 2, 1) := by decide +kernel
theorem dX3_canTake_7 : decode cX3_canTake 7 = .ok (.iaload, 1) := by decide +kernel
theorem dX3_canTake_8 : decode cX3_canTake 8 = .ok (.iconst (-1), 1) := by decide +kernel
theorem dX3_canTake_9 : decode cX3_canTake 9 = .ok (.if_icmp .eq 15, 3) := by decide +kernel
theorem dX3_canTake_12 : decode cX3_canTake 12 = .ok (.iload_n 3, 1) := by decide +kernel
theorem dX3_canTake_13 : decode cX3_canTake 13 = .ok (.iconst 1, 1) := by decide +kernel
theorem dX3_canTake_14 : decode cX3_canTake 14 = .ok (.iload_n 2, 1) := by decide +kernel
theorem dX3_canTake_15 : decode cX3_canTake 15 = .ok (.ishl, 1) := by decide +kernel
theorem dX3_canTake_16 : decode cX3_canTake 16 = .ok (.iand, 1) := by decide +kernel
theorem dX3_canTake_17 : decode cX3_canTake 17 = .ok (.ifCond .ne 7, 3) := by decide +kernel
theorem dX3_canTake_20 : decode cX3_canTake 20 = .ok (.iconst 1, 1) := by decide +kernel
theorem dX3_canTake_21 : decode cX3_canTake 21 = .ok (.goto 4, 3) := by decide +kernel
theorem dX3_canTake_24 : decode cX3_canTake 24 = .ok (.iconst 0, 1) := by decide +kernel
theorem dX3_canTake_25 : decode cX3_canTake 25 = .ok (.ireturn, 1) := by decide +kernel
theorem dX3_costWith_0 : decode cX3_costWith 0 = .ok (.aload_n 0, 1) := by decide +kernel
theorem dX3_costWith_1 : decode cX3_costWith 1 = .ok (.getfield 11, 3) := by decide +kernel
theorem dX3_costWith_4 : decode cX3_costWith 4 = .ok (.iload_n 1, 1) := by decide +kernel
theorem dX3_costWith_5 : decode cX3_costWith 5 = .ok (.aaload, 1) := by decide +kernel
theorem dX3_costWith_6 : decode cX3_costWith 6 = .ok (.iload_n 2, 1) := by decide +kernel
theorem dX3_costWith_7 : decode cX3_costWith 7 = .ok (.iaload, 1) := by decide +kernel
theorem dX3_costWith_8 : decode cX3_costWith 8 = .ok (.aload_n 0, 1) := by decide +kernel
theorem dX3_costWith_9 : decode cX3_costWith 9 = .ok (.getfield 20, 3) := by decide +kernel
theorem dX3_costWith_12 : decode cX3_costWith 12 = .ok (.iload_n 1, 1) := by decide +kernel
theorem dX3_costWith_13 : decode cX3_costWith 13 = .ok (.iconst 1, 1) := by decide +kernel
theorem dX3_costWith_14 : decode cX3_costWith 14 = .ok (.iadd, 1) := by decide +kernel
theorem dX3_costWith_15 : decode cX3_costWith 15 = .ok (.aaload, 1) := by decide +kernel
theorem dX3_costWith_16 : decode cX3_costWith 16 = .ok (.iload_n 3, 1) := by decide +kernel
theorem dX3_costWith_17 : decode cX3_costWith 17 = .ok (.iconst 1, 1) := by decide +kernel
theorem dX3_costWith_18 : decode cX3_costWith 18 = .ok (.iload_n 2, 1) := by decide +kernel
theorem dX3_costWith_19 : decode cX3_costWith 19 = .ok (.ishl, 1) := by decide +kernel
theorem dX3_costWith_20 : decode cX3_costWith 20 = .ok (.ior, 1) := by decide +kernel
theorem dX3_costWith_21 : decode cX3_costWith 21 = .ok (.iaload, 1) := by decide +kernel
theorem dX3_costWith_22 : decode cX3_costWith 22 = .ok (.iadd, 1) := by decide +kernel
theorem dX3_costWith_23 : decode cX3_costWith 23 = .ok (.ireturn, 1) := by decide +kernel
set_option maxRecDepth 20000 in
theorem ggX3_assign_X3_firstBest : GoodIn wsX3_assign wsX3_firstBest := goodIn_r _ [7, 8, 9, 10, 11, 12, 6, 13, 14, 15, 16, 17, 18, 19, 20, 21, 22, 23, 24] (by decide +kernel) (by decide +kernel)
set_option maxRecDepth 20000 in
theorem gX3_assign_X3_firstBest : GoodIn wsX3_assign (wsV RX3 80 RX3 yX3_firstBest wsX3_firstBest) := goodIn_app (goodIn_of _ (by decide +kernel)) ggX3_assign_X3_firstBest
theorem dX3_assign_0 : decode cX3_assign 0 = .ok (.aload_n 0, 1) := by decide +kernel
theorem dX3_assign_1 : decode cX3_assign 1 = .ok (.iconst 0, 1) := by decide +kernel
theorem dX3_assign_2 : decode cX3_assign 2 = .ok (.putfield 77, 3) := by decide +kernel
theorem dX3_assign_5 : decode cX3_assign 5 = .ok (.iconst 0, 1) := by decide +kernel
theorem dX3_assign_6 : decode cX3_assign 6 = .ok (.istore_n 1, 1) := by decide +kernel
theorem dX3_assign_7 : decode cX3_assign 7 = .ok (.iload_n 1, 1) := by decide +kernel
theorem dX3_assign_8 : decode cX3_assign 8 = .ok (.bipush 6, 2) := by decide +kernel
theorem dX3_assign_10 : decode cX3_assign 10 = .ok (.if_icmp .ge 51, 3) := by decide +kernel
theorem dX3_assign_13 : decode cX3_assign 13 = .ok (.aload_n 0, 1) := by decide +kernel
theorem dX3_assign_14 : decode cX3_assign 14 = .ok (.getfield 23, 3) := by decide +kernel
theorem dX3_assign_17 : decode cX3_assign 17 = .ok (.iload_n 1, 1) := by decide +kernel
theorem dX3_assign_18 : decode cX3_assign 18 = .ok (.aload_n 0, 1) := by decide +kernel
theorem dX3_assign_19 : decode cX3_assign 19 = .ok (.iload_n 1, 1) := by decide +kernel
theorem dX3_assign_20 : decode cX3_assign 20 = .ok (.aload_n 0, 1) := by decide +kernel
theorem dX3_assign_21 : decode cX3_assign 21 = .ok (.getfield 77, 3) := by decide +kernel
theorem dX3_assign_24 : decode cX3_assign 24 = .ok (.invokevirtual 80, 3) := by decide +kernel
theorem dX3_assign_27 : decode cX3_assign 27 = .ok (.iastore, 1) := by decide +kernel
theorem dX3_assign_28 : decode cX3_assign 28 = .ok (.aload_n 0, 1) := by decide +kernel
theorem dX3_assign_29 : decode cX3_assign 29 = .ok (.getfield 23, 3) := by decide +kernel
theorem dX3_assign_32 : decode cX3_assign 32 = .ok (.iload_n 1, 1) := by decide +kernel
theorem dX3_assign_33 : decode cX3_assign 33 = .ok (.iaload, 1) := by decide +kernel
theorem dX3_assign_34 : decode cX3_assign 34 = .ok (.iconst (-1), 1) := by decide +kernel
theorem dX3_assign_35 : decode cX3_assign 35 = .ok (.if_icmp .eq 20, 3) := by decide +kernel
theorem dX3_assign_38 : decode cX3_assign 38 = .ok (.aload_n 0, 1) := by decide +kernel
theorem dX3_assign_39 : decode cX3_assign 39 = .ok (.dup, 1) := by decide +kernel
theorem dX3_assign_40 : decode cX3_assign 40 = .ok (.getfield 77, 3) := by decide +kernel
theorem dX3_assign_43 : decode cX3_assign 43 = .ok (.iconst 1, 1) := by decide +kernel
theorem dX3_assign_44 : decode cX3_assign 44 = .ok (.aload_n 0, 1) := by decide +kernel
theorem dX3_assign_45 : decode cX3_assign 45 = .ok (.getfield 23, 3) := by decide +kernel
theorem dX3_assign_48 : decode cX3_assign 48 = .ok (.iload_n 1, 1) := by decide +kernel
theorem dX3_assign_49 : decode cX3_assign 49 = .ok (.iaload, 1) := by decide +kernel
theorem dX3_assign_50 : decode cX3_assign 50 = .ok (.ishl, 1) := by decide +kernel
theorem dX3_assign_51 : decode cX3_assign 51 = .ok (.ior, 1) := by decide +kernel
theorem dX3_assign_52 : decode cX3_assign 52 = .ok (.putfield 77, 3) := by decide +kernel
theorem dX3_assign_55 : decode cX3_assign 55 = .ok (.iinc 1 1, 3) := by decide +kernel
theorem dX3_assign_58 : decode cX3_assign 58 = .ok (.goto (-51), 3) := by decide +kernel
