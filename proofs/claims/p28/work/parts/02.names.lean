/-! names, fields (printed by program) -/
def RX0 : String := "CandleRooms$DeedText"
def TX0 : u_T := fun k => match k with
  | 0 => ("CandleRooms$DeedText", "codes", "[C", true)
  | _ => ("CandleRooms$DeedText", "length", "I", false)
def tyX0 : Nat → FieldType := fun k => match k with
  | 0 => .array .char
  | _ => .int
abbrev wsX00 : List Cond := u_ws RX0 TX0 2
theorem nmX0 : ∀ a, a < 2 → ∀ b, b < 2 → a ≠ b → (TX0 a).2.1 ≠ (TX0 b).2.1 := by decide +kernel
theorem tyX0_ok : ∀ k, k < 2 → parseFieldDescriptor (TX0 k).2.2.1 = some (tyX0 k) := by decide +kernel
abbrev cX0_init : ByteArray := prog_2_method_1_code
def yX0_init : MethodName := ⟨RX0, "<init>", "()V"⟩
def RX1 : String := "CandleRooms$Room"
def TX1 : u_T := fun k => match k with
  | 0 => ("CandleRooms$Room", "keys", "[I", true)
  | 1 => ("CandleRooms$Room", "dark", "[I", true)
  | 2 => ("CandleRooms$Room", "things", "I", false)
  | 3 => ("CandleRooms$Room", "length", "I", false)
  | 4 => ("CandleRooms$Room", "burns", "Z", false)
  | 5 => ("CandleRooms$Room", "wick", "I", false)
  | 6 => ("CandleRooms$Room", "hasShield", "Z", false)
  | 7 => ("CandleRooms$Room", "doorIsOpen", "Z", false)
  | _ => ("CandleRooms$Room", "beatsBurnt", "I", false)
def tyX1 : Nat → FieldType := fun k => match k with
  | 0 => .array .int
  | 1 => .array .int
  | 2 => .int
  | 3 => .int
  | 4 => .boolean
  | 5 => .int
  | 6 => .boolean
  | 7 => .boolean
  | _ => .int
abbrev wsX10 : List Cond := u_ws RX1 TX1 9
theorem nmX1 : ∀ a, a < 9 → ∀ b, b < 9 → a ≠ b → (TX1 a).2.1 ≠ (TX1 b).2.1 := by decide +kernel
theorem tyX1_ok : ∀ k, k < 9 → parseFieldDescriptor (TX1 k).2.2.1 = some (tyX1 k) := by decide +kernel
abbrev cX1_init : ByteArray := prog_3_method_1_code
def yX1_init : MethodName := ⟨RX1, "<init>", "()V"⟩
abbrev cX1_copyRoom : ByteArray := prog_3_method_2_code
def yX1_copyRoom : MethodName := ⟨RX1, "copyRoom", "(LCandleRooms$Room;)V"⟩
abbrev cX1_number : ByteArray := prog_3_method_3_code
def yX1_number : MethodName := ⟨RX1, "number", "(I)I"⟩
abbrev cX1_keyAt : ByteArray := prog_3_method_4_code
def yX1_keyAt : MethodName := ⟨RX1, "keyAt", "(I)I"⟩
abbrev cX1_darkAt : ByteArray := prog_3_method_5_code
def yX1_darkAt : MethodName := ⟨RX1, "darkAt", "(I)I"⟩
abbrev cX1_placeOf : ByteArray := prog_3_method_6_code
def yX1_placeOf : MethodName := ⟨RX1, "placeOf", "(I)I"⟩
abbrev cX1_addThing : ByteArray := prog_3_method_7_code
def yX1_addThing : MethodName := ⟨RX1, "addThing", "(I)V"⟩
abbrev cX1_takeNewCandle : ByteArray := prog_3_method_8_code
def yX1_takeNewCandle : MethodName := ⟨RX1, "takeNewCandle", "()V"⟩
abbrev cX1_burntInBeat : ByteArray := prog_3_method_9_code
def yX1_burntInBeat : MethodName := ⟨RX1, "burntInBeat", "(I)I"⟩
abbrev cX1_burnForBeat : ByteArray := prog_3_method_10_code
def yX1_burnForBeat : MethodName := ⟨RX1, "burnForBeat", "()V"⟩
abbrev cX1_beatsUntrimmed : ByteArray := prog_3_method_11_code
def yX1_beatsUntrimmed : MethodName := ⟨RX1, "beatsUntrimmed", "()I"⟩
abbrev cX1_beatsSaved : ByteArray := prog_3_method_12_code
def yX1_beatsSaved : MethodName := ⟨RX1, "beatsSaved", "()I"⟩
abbrev cX1_ageThings : ByteArray := prog_3_method_13_code
def yX1_ageThings : MethodName := ⟨RX1, "ageThings", "(I)I"⟩
abbrev cX1_beatsToFirstForgotten : ByteArray := prog_3_method_14_code
def yX1_beatsToFirstForgotten : MethodName := ⟨RX1, "beatsToFirstForgotten", "(II)I"⟩
def RX2 : String := "CandleRooms$SavedStores"
def TX2 : u_T := fun k => match k with
  | 0 => ("CandleRooms$SavedStores", "rows", "[LCandleRooms$Store;", true)
  | _ => ("CandleRooms$SavedStores", "size", "I", false)
def tyX2 : Nat → FieldType := fun k => match k with
  | 0 => .array (.object "CandleRooms$Store")
  | _ => .int
abbrev wsX20 : List Cond := u_ws RX2 TX2 2
theorem nmX2 : ∀ a, a < 2 → ∀ b, b < 2 → a ≠ b → (TX2 a).2.1 ≠ (TX2 b).2.1 := by decide +kernel
theorem tyX2_ok : ∀ k, k < 2 → parseFieldDescriptor (TX2 k).2.2.1 = some (tyX2 k) := by decide +kernel
abbrev cX2_init : ByteArray := prog_4_method_1_code
def yX2_init : MethodName := ⟨RX2, "<init>", "()V"⟩
abbrev cX2_push : ByteArray := prog_4_method_2_code
def yX2_push : MethodName := ⟨RX2, "push", "(LCandleRooms$Store;)V"⟩
abbrev cX2_dropOldest : ByteArray := prog_4_method_3_code
def yX2_dropOldest : MethodName := ⟨RX2, "dropOldest", "()V"⟩
abbrev cX2_popInto : ByteArray := prog_4_method_4_code
def yX2_popInto : MethodName := ⟨RX2, "popInto", "(LCandleRooms$Store;)I"⟩
def RX3 : String := "CandleRooms$Store"
def TX3 : u_T := fun k => match k with
  | 0 => ("CandleRooms$Store", "rooms", "[LCandleRooms$Room;", true)
  | 1 => ("CandleRooms$Store", "beats", "I", false)
  | 2 => ("CandleRooms$Store", "box", "I", false)
  | 3 => ("CandleRooms$Store", "forgotten", "I", false)
  | 4 => ("CandleRooms$Store", "readings", "I", false)
  | 5 => ("CandleRooms$Store", "darkReadings", "I", false)
  | 6 => ("CandleRooms$Store", "blownOut", "I", false)
  | 7 => ("CandleRooms$Store", "draughtRoom", "I", false)
  | 8 => ("CandleRooms$Store", "draughtStrength", "I", false)
  | _ => ("CandleRooms$Store", "setting", "I", false)
def tyX3 : Nat → FieldType := fun k => match k with
  | 0 => .array (.object "CandleRooms$Room")
  | 1 => .int
  | 2 => .int
  | 3 => .int
  | 4 => .int
  | 5 => .int
  | 6 => .int
  | 7 => .int
  | 8 => .int
  | _ => .int
abbrev wsX30 : List Cond := u_ws RX3 TX3 10
theorem nmX3 : ∀ a, a < 10 → ∀ b, b < 10 → a ≠ b → (TX3 a).2.1 ≠ (TX3 b).2.1 := by decide +kernel
theorem tyX3_ok : ∀ k, k < 10 → parseFieldDescriptor (TX3 k).2.2.1 = some (tyX3 k) := by decide +kernel
abbrev cX3_init : ByteArray := prog_5_method_1_code
def yX3_init : MethodName := ⟨RX3, "<init>", "()V"⟩
abbrev cX3_copyFrom : ByteArray := prog_5_method_2_code
def yX3_copyFrom : MethodName := ⟨RX3, "copyFrom", "(LCandleRooms$Store;)V"⟩
abbrev cX3_roomAt : ByteArray := prog_5_method_3_code
def yX3_roomAt : MethodName := ⟨RX3, "roomAt", "(I)LCandleRooms$Room;"⟩
abbrev cX3_candlesBurning : ByteArray := prog_5_method_4_code
def yX3_candlesBurning : MethodName := ⟨RX3, "candlesBurning", "()I"⟩
abbrev cX3_candlesBurningFrom : ByteArray := prog_5_method_5_code
def yX3_candlesBurningFrom : MethodName := ⟨RX3, "candlesBurningFrom", "(II)I"⟩
abbrev cX3_thingsInAll : ByteArray := prog_5_method_6_code
def yX3_thingsInAll : MethodName := ⟨RX3, "thingsInAll", "()I"⟩
abbrev cX3_roomOf : ByteArray := prog_5_method_7_code
def yX3_roomOf : MethodName := ⟨RX3, "roomOf", "(I)I"⟩
abbrev cX3_thingNumber : ByteArray := prog_5_method_8_code
def yX3_thingNumber : MethodName := ⟨RX3, "thingNumber", "(II)I"⟩
abbrev cX3_canStrike : ByteArray := prog_5_method_9_code
def yX3_canStrike : MethodName := ⟨RX3, "canStrike", "(I)Z"⟩
abbrev cX3_canLight : ByteArray := prog_5_method_10_code
def yX3_canLight : MethodName := ⟨RX3, "canLight", "(II)Z"⟩
abbrev cX3_areJoined : ByteArray := prog_5_method_11_code
def yX3_areJoined : MethodName := ⟨RX3, "areJoined", "(II)Z"⟩
abbrev cX3_kindle : ByteArray := prog_5_method_12_code
def yX3_kindle : MethodName := ⟨RX3, "kindle", "(I)I"⟩
abbrev cX3_hasNewCandle : ByteArray := prog_5_method_15_code
def yX3_hasNewCandle : MethodName := ⟨RX3, "hasNewCandle", "()Z"⟩
abbrev cX3_putNewCandle : ByteArray := prog_5_method_16_code
def yX3_putNewCandle : MethodName := ⟨RX3, "putNewCandle", "(I)I"⟩
abbrev cX3_canKeep : ByteArray := prog_5_method_18_code
def yX3_canKeep : MethodName := ⟨RX3, "canKeep", "(II)Z"⟩
abbrev cX3_putThing : ByteArray := prog_5_method_19_code
def yX3_putThing : MethodName := ⟨RX3, "putThing", "(II)I"⟩
abbrev cX3_beginDraught : ByteArray := prog_5_method_21_code
def yX3_beginDraught : MethodName := ⟨RX3, "beginDraught", "(II)I"⟩
abbrev cX3_roomsBlown : ByteArray := prog_5_method_22_code
def yX3_roomsBlown : MethodName := ⟨RX3, "roomsBlown", "()I"⟩
abbrev cX3_isInDraught : ByteArray := prog_5_method_23_code
def yX3_isInDraught : MethodName := ⟨RX3, "isInDraught", "(I)Z"⟩
abbrev cX3_blow : ByteArray := prog_5_method_24_code
def yX3_blow : MethodName := ⟨RX3, "blow", "()V"⟩
abbrev cX3_passBeats : ByteArray := prog_5_method_25_code
def yX3_passBeats : MethodName := ⟨RX3, "passBeats", "(I)I"⟩
abbrev cX3_passBeat : ByteArray := prog_5_method_26_code
def yX3_passBeat : MethodName := ⟨RX3, "passBeat", "()I"⟩
abbrev cX3_readThing : ByteArray := prog_5_method_27_code
def yX3_readThing : MethodName := ⟨RX3, "readThing", "(I)I"⟩
abbrev cX3_beatsLit : ByteArray := prog_5_method_28_code
def yX3_beatsLit : MethodName := ⟨RX3, "beatsLit", "(I)I"⟩
abbrev cX3_beatsToForgetting : ByteArray := prog_5_method_29_code
def yX3_beatsToForgetting : MethodName := ⟨RX3, "beatsToForgetting", "()I"⟩
abbrev cX3_candlesToLight : ByteArray := prog_5_method_30_code
def yX3_candlesToLight : MethodName := ⟨RX3, "candlesToLight", "(I)I"⟩
abbrev cX3_candlesOnWay : ByteArray := prog_5_method_31_code
def yX3_candlesOnWay : MethodName := ⟨RX3, "candlesOnWay", "(II)I"⟩
abbrev cX3_neediest : ByteArray := prog_5_method_32_code
def yX3_neediest : MethodName := ⟨RX3, "neediest", "()I"⟩
abbrev cX3_isNeedier : ByteArray := prog_5_method_33_code
def yX3_isNeedier : MethodName := ⟨RX3, "isNeedier", "(II)Z"⟩
abbrev cX3_shareInLight : ByteArray := prog_5_method_34_code
def yX3_shareInLight : MethodName := ⟨RX3, "shareInLight", "()D"⟩
def RX4 : String := "CandleRooms"
def TX4 : u_T := fun k => match k with
  | 0 => ("CandleRooms", "store", "LCandleRooms$Store;", true)
  | 1 => ("CandleRooms", "saved", "LCandleRooms$SavedStores;", true)
  | _ => ("CandleRooms", "text", "LCandleRooms$DeedText;", true)
def tyX4 : Nat → FieldType := fun k => match k with
  | 0 => .object "CandleRooms$Store"
  | 1 => .object "CandleRooms$SavedStores"
  | _ => .object "CandleRooms$DeedText"
abbrev wsX40 : List Cond := u_ws RX4 TX4 3
theorem nmX4 : ∀ a, a < 3 → ∀ b, b < 3 → a ≠ b → (TX4 a).2.1 ≠ (TX4 b).2.1 := by decide +kernel
theorem tyX4_ok : ∀ k, k < 3 → parseFieldDescriptor (TX4 k).2.2.1 = some (tyX4 k) := by decide +kernel
abbrev cX4_init : ByteArray := prog_1_method_1_code
def yX4_init : MethodName := ⟨RX4, "<init>", "()V"⟩
abbrev cX4_strike : ByteArray := prog_1_method_2_code
def yX4_strike : MethodName := ⟨RX4, "strike", "(I)I"⟩
abbrev cX4_light : ByteArray := prog_1_method_3_code
def yX4_light : MethodName := ⟨RX4, "light", "(II)I"⟩
abbrev cX4_fresh : ByteArray := prog_1_method_4_code
def yX4_fresh : MethodName := ⟨RX4, "fresh", "(I)I"⟩
abbrev cX4_door : ByteArray := prog_1_method_5_code
def yX4_door : MethodName := ⟨RX4, "door", "(IZ)I"⟩
abbrev cX4_shield : ByteArray := prog_1_method_6_code
def yX4_shield : MethodName := ⟨RX4, "shield", "(IZ)I"⟩
abbrev cX4_draught : ByteArray := prog_1_method_7_code
def yX4_draught : MethodName := ⟨RX4, "draught", "(II)I"⟩
abbrev cX4_set : ByteArray := prog_1_method_8_code
def yX4_set : MethodName := ⟨RX4, "set", "(I)I"⟩
abbrev cX4_keep : ByteArray := prog_1_method_9_code
def yX4_keep : MethodName := ⟨RX4, "keep", "(II)I"⟩
abbrev cX4_read : ByteArray := prog_1_method_10_code
def yX4_read : MethodName := ⟨RX4, "read", "(I)I"⟩
abbrev cX4_pass : ByteArray := prog_1_method_11_code
def yX4_pass : MethodName := ⟨RX4, "pass", "(I)I"⟩
abbrev cX4_undo : ByteArray := prog_1_method_16_code
def yX4_undo : MethodName := ⟨RX4, "undo", "()I"⟩
abbrev cX4_room : ByteArray := prog_1_method_17_code
def yX4_room : MethodName := ⟨RX4, "room", "(II)I"⟩
abbrev cX4_thing : ByteArray := prog_1_method_18_code
def yX4_thing : MethodName := ⟨RX4, "thing", "(II)I"⟩
abbrev cX4_count : ByteArray := prog_1_method_19_code
def yX4_count : MethodName := ⟨RX4, "count", "(I)I"⟩
abbrev cX4_lasts : ByteArray := prog_1_method_20_code
def yX4_lasts : MethodName := ⟨RX4, "lasts", "(I)I"⟩
abbrev cX4_nextForgotten : ByteArray := prog_1_method_21_code
def yX4_nextForgotten : MethodName := ⟨RX4, "nextForgotten", "()I"⟩
abbrev cX4_carried : ByteArray := prog_1_method_22_code
def yX4_carried : MethodName := ⟨RX4, "carried", "(I)I"⟩
abbrev cX4_needy : ByteArray := prog_1_method_23_code
def yX4_needy : MethodName := ⟨RX4, "needy", "()I"⟩
abbrev cX4_saves : ByteArray := prog_1_method_24_code
def yX4_saves : MethodName := ⟨RX4, "saves", "(I)I"⟩
abbrev cX4_lit : ByteArray := prog_1_method_25_code
def yX4_lit : MethodName := ⟨RX4, "lit", "()D"⟩
abbrev cX4_requireRoom : ByteArray := prog_1_method_27_code
def yX4_requireRoom : MethodName := ⟨RX4, "requireRoom", "(I)V"⟩
abbrev cX4_requireKey : ByteArray := prog_1_method_28_code
def yX4_requireKey : MethodName := ⟨RX4, "requireKey", "(I)V"⟩
abbrev cX4_requireNumber : ByteArray := prog_1_method_29_code
def yX4_requireNumber : MethodName := ⟨RX4, "requireNumber", "(II)V"⟩
abbrev cX4_isRoom : ByteArray := prog_1_method_30_code
def yX4_isRoom : MethodName := ⟨RX4, "isRoom", "(I)Z"⟩
abbrev cX4_asNumber : ByteArray := prog_1_method_31_code
def yX4_asNumber : MethodName := ⟨RX4, "asNumber", "(Z)I"⟩
abbrev cX4_countNumber : ByteArray := prog_1_method_32_code
def yX4_countNumber : MethodName := ⟨RX4, "countNumber", "(I)I"⟩
def RX5 : String := "CandleRoomsModel"
def TX5 : u_T := fun k => match k with
  | _ => ("", "", "", false)
def tyX5 : Nat → FieldType := fun k => match k with
  | _ => .int
abbrev wsX50 : List Cond := u_ws RX5 TX5 0
theorem nmX5 : ∀ a, a < 0 → ∀ b, b < 0 → a ≠ b → (TX5 a).2.1 ≠ (TX5 b).2.1 := by decide +kernel
theorem tyX5_ok : ∀ k, k < 0 → parseFieldDescriptor (TX5 k).2.2.1 = some (tyX5 k) := by decide +kernel
def RJ9 : String := "java/lang/Math"
def TJ9 : u_T := fun k => match k with
  | _ => ("", "", "", false)
def tyJ9 : Nat → FieldType := fun k => match k with
  | _ => .int
theorem nmJ9 : ∀ a, a < 0 → ∀ b, b < 0 → a ≠ b → (TJ9 a).2.1 ≠ (TJ9 b).2.1 := by decide +kernel
theorem tyJ9_ok : ∀ k, k < 0 → parseFieldDescriptor (TJ9 k).2.2.1 = some (tyJ9 k) := by decide +kernel
abbrev cJ9_floorMod_7cf53 : ByteArray := prog_12_method_50_code
def yJ9_floorMod_7cf53 : MethodName := ⟨RJ9, "floorMod", "(II)I"⟩
abbrev cJ9_max_7cf53 : ByteArray := prog_12_method_65_code
def yJ9_max_7cf53 : MethodName := ⟨RJ9, "max", "(II)I"⟩
abbrev cJ9_min_7cf53 : ByteArray := prog_12_method_69_code
def yJ9_min_7cf53 : MethodName := ⟨RJ9, "min", "(II)I"⟩
def RJ0 : String := "java/lang/String"
def TJ0 : u_T := fun k => match k with
  | _ => ("", "", "", false)
def tyJ0 : Nat → FieldType := fun k => match k with
  | _ => .int
theorem nmJ0 : ∀ a, a < 0 → ∀ b, b < 0 → a ≠ b → (TJ0 a).2.1 ≠ (TJ0 b).2.1 := by decide +kernel
theorem tyJ0_ok : ∀ k, k < 0 → parseFieldDescriptor (TJ0 k).2.2.1 = some (tyJ0 k) := by decide +kernel
def RJ10 : String := "java/lang/System"
def TJ10 : u_T := fun k => match k with
  | _ => ("", "", "", false)
def tyJ10 : Nat → FieldType := fun k => match k with
  | _ => .int
theorem nmJ10 : ∀ a, a < 0 → ∀ b, b < 0 → a ≠ b → (TJ10 a).2.1 ≠ (TJ10 b).2.1 := by decide +kernel
theorem tyJ10_ok : ∀ k, k < 0 → parseFieldDescriptor (TJ10 k).2.2.1 = some (tyJ10 k) := by decide +kernel
def RL : String := "CandleRoomsLaw"
abbrev cL_low : ByteArray := method_2_code
def yL_low : MethodName := ⟨RL, "low", "(II)I"⟩
abbrev cL_cell : ByteArray := method_3_code
def yL_cell : MethodName := ⟨RL, "cell", "([II)I"⟩
abbrev cL_strike : ByteArray := method_4_code
def yL_strike : MethodName := ⟨RL, "strike", "(LCandleRooms;I)I"⟩
abbrev cL_light : ByteArray := method_5_code
def yL_light : MethodName := ⟨RL, "light", "(LCandleRooms;II)I"⟩
abbrev cL_fresh : ByteArray := method_6_code
def yL_fresh : MethodName := ⟨RL, "fresh", "(LCandleRooms;I)I"⟩
abbrev cL_keep : ByteArray := method_7_code
def yL_keep : MethodName := ⟨RL, "keep", "(LCandleRooms;II)I"⟩
abbrev cL_undo : ByteArray := method_8_code
def yL_undo : MethodName := ⟨RL, "undo", "(LCandleRooms;)I"⟩
abbrev cL_house : ByteArray := method_9_code
def yL_house : MethodName := ⟨RL, "house", "(LCandleRooms;)Z"⟩
abbrev cL_act : ByteArray := method_10_code
def yL_act : MethodName := ⟨RL, "act", "(LCandleRooms;[II)I"⟩
abbrev cL_law : ByteArray := code
def yL_law : MethodName := ⟨RL, "law", "([I)Z"⟩
abbrev vwCl : List vw_C := [(RX0, TX0, 2), (RX1, TX1, 9), (RX2, TX2, 2), (RX3, TX3, 10), (RX4, TX4, 3)]
/-- the words that hold anywhere -/
def WS : List Cond := lw_tbl.filter goodWord
theorem gws {w : Cond} (i : Nat) (h : lw_tbl[i]? = some w) (g : goodWord w = true) : w ∈ WS := List.mem_filter.mpr ⟨List.mem_of_getElem? h, g⟩
theorem WS_good : GoodIn WS WS := fun w h => ⟨h, good_of_word (List.mem_filter.mp h).2⟩
theorem WS_tbl {w : Cond} (h : w ∈ WS) : w ∈ lw_tbl := (List.mem_filter.mp h).1
