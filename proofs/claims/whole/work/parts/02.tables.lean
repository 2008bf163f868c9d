def RX0 : String := "VillageHalls$Asks"
def TX0 : u_T := fun k => match k with
  | 0 => ("VillageHalls$Asks", "begun", "[I", true)
  | 1 => ("VillageHalls$Asks", "size", "I", false)
  | 2 => ("VillageHalls$Asks", "people", "I", false)
  | 3 => ("VillageHalls$Asks", "use", "I", false)
  | 4 => ("VillageHalls$Asks", "day", "I", false)
  | _ => ("VillageHalls$Asks", "price", "I", false)
def tyX0 : Nat → FieldType := fun k => match k with
  | 0 => .array .int
  | 1 => .int
  | 2 => .int
  | 3 => .int
  | 4 => .int
  | _ => .int
theorem nmX0 : ∀ a, a < 6 → ∀ b, b < 6 → a ≠ b → (TX0 a).2.1 ≠ (TX0 b).2.1 := by decide +kernel
theorem tyX0_ok : ∀ k, k < 6 → parseFieldDescriptor (TX0 k).2.2.1 = some (tyX0 k) := by decide +kernel
def RX1 : String := "VillageHalls$Booking"
def TX1 : u_T := fun k => match k with
  | 0 => ("VillageHalls$Booking", "hall", "I", false)
  | 1 => ("VillageHalls$Booking", "floor", "I", false)
  | 2 => ("VillageHalls$Booking", "day", "I", false)
  | 3 => ("VillageHalls$Booking", "from", "I", false)
  | 4 => ("VillageHalls$Booking", "to", "I", false)
  | 5 => ("VillageHalls$Booking", "people", "I", false)
  | 6 => ("VillageHalls$Booking", "use", "I", false)
  | 7 => ("VillageHalls$Booking", "licence", "I", false)
  | 8 => ("VillageHalls$Booking", "came", "I", false)
  | _ => ("VillageHalls$Booking", "cancelled", "I", false)
def tyX1 : Nat → FieldType := fun k => match k with
  | 0 => .int
  | 1 => .int
  | 2 => .int
  | 3 => .int
  | 4 => .int
  | 5 => .int
  | 6 => .int
  | 7 => .int
  | 8 => .int
  | _ => .int
theorem nmX1 : ∀ a, a < 10 → ∀ b, b < 10 → a ≠ b → (TX1 a).2.1 ≠ (TX1 b).2.1 := by decide +kernel
theorem tyX1_ok : ∀ k, k < 10 → parseFieldDescriptor (TX1 k).2.2.1 = some (tyX1 k) := by decide +kernel
def RX2 : String := "VillageHalls$Diary"
def TX2 : u_T := fun k => match k with
  | 0 => ("VillageHalls$Diary", "halls", "[LVillageHalls$Hall;", true)
  | 1 => ("VillageHalls$Diary", "bookings", "[LVillageHalls$Booking;", true)
  | 2 => ("VillageHalls$Diary", "line", "[I", true)
  | 3 => ("VillageHalls$Diary", "keys", "[I", true)
  | 4 => ("VillageHalls$Diary", "worths", "[J", true)
  | _ => ("VillageHalls$Diary", "size", "I", false)
def tyX2 : Nat → FieldType := fun k => match k with
  | 0 => .array (.object "VillageHalls$Hall")
  | 1 => .array (.object "VillageHalls$Booking")
  | 2 => .array .int
  | 3 => .array .int
  | 4 => .array .long
  | _ => .int
theorem nmX2 : ∀ a, a < 6 → ∀ b, b < 6 → a ≠ b → (TX2 a).2.1 ≠ (TX2 b).2.1 := by decide +kernel
theorem tyX2_ok : ∀ k, k < 6 → parseFieldDescriptor (TX2 k).2.2.1 = some (tyX2 k) := by decide +kernel
def RX3 : String := "VillageHalls$FuneralPlan"
def TX3 : u_T := fun k => match k with
  | 0 => ("VillageHalls$FuneralPlan", "diary", "LVillageHalls$Diary;", true)
  | 1 => ("VillageHalls$FuneralPlan", "halls", "[LVillageHalls$Hall;", true)
  | 2 => ("VillageHalls$FuneralPlan", "service", "LVillageHalls$Booking;", true)
  | 3 => ("VillageHalls$FuneralPlan", "guest", "LVillageHalls$Booking;", true)
  | 4 => ("VillageHalls$FuneralPlan", "goesTo", "[I", true)
  | 5 => ("VillageHalls$FuneralPlan", "held", "I", false)
  | _ => ("VillageHalls$FuneralPlan", "moved", "I", false)
def tyX3 : Nat → FieldType := fun k => match k with
  | 0 => .object "VillageHalls$Diary"
  | 1 => .array (.object "VillageHalls$Hall")
  | 2 => .object "VillageHalls$Booking"
  | 3 => .object "VillageHalls$Booking"
  | 4 => .array .int
  | 5 => .int
  | _ => .int
theorem nmX3 : ∀ a, a < 7 → ∀ b, b < 7 → a ≠ b → (TX3 a).2.1 ≠ (TX3 b).2.1 := by decide +kernel
theorem tyX3_ok : ∀ k, k < 7 → parseFieldDescriptor (TX3 k).2.2.1 = some (tyX3 k) := by decide +kernel
def RX4 : String := "VillageHalls$Hall"
def TX4 : u_T := fun k => match k with
  | 0 => ("VillageHalls$Hall", "setup", "I", false)
  | 1 => ("VillageHalls$Hall", "licences", "I", false)
  | 2 => ("VillageHalls$Hall", "late", "I", false)
  | 3 => ("VillageHalls$Hall", "forfeit", "I", false)
  | 4 => ("VillageHalls$Hall", "fire", "[I", true)
  | 5 => ("VillageHalls$Hall", "rate", "[I", true)
  | _ => ("VillageHalls$Hall", "rank", "[I", true)
def tyX4 : Nat → FieldType := fun k => match k with
  | 0 => .int
  | 1 => .int
  | 2 => .int
  | 3 => .int
  | 4 => .array .int
  | 5 => .array .int
  | _ => .array .int
theorem nmX4 : ∀ a, a < 7 → ∀ b, b < 7 → a ≠ b → (TX4 a).2.1 ≠ (TX4 b).2.1 := by decide +kernel
theorem tyX4_ok : ∀ k, k < 7 → parseFieldDescriptor (TX4 k).2.2.1 = some (tyX4 k) := by decide +kernel
def RX5 : String := "VillageHalls$Log"
def TX5 : u_T := fun k => match k with
  | 0 => ("VillageHalls$Log", "time", "[I", true)
  | 1 => ("VillageHalls$Log", "thing", "[I", true)
  | 2 => ("VillageHalls$Log", "first", "[I", true)
  | 3 => ("VillageHalls$Log", "second", "[I", true)
  | _ => ("VillageHalls$Log", "size", "I", false)
def tyX5 : Nat → FieldType := fun k => match k with
  | 0 => .array .int
  | 1 => .array .int
  | 2 => .array .int
  | 3 => .array .int
  | _ => .int
theorem nmX5 : ∀ a, a < 5 → ∀ b, b < 5 → a ≠ b → (TX5 a).2.1 ≠ (TX5 b).2.1 := by decide +kernel
theorem tyX5_ok : ∀ k, k < 5 → parseFieldDescriptor (TX5 k).2.2.1 = some (tyX5 k) := by decide +kernel
def RX6 : String := "VillageHalls$Meetings"
def TX6 : u_T := fun k => match k with
  | 0 => ("VillageHalls$Meetings", "valid", "[Z", true)
  | 1 => ("VillageHalls$Meetings", "carried", "[Z", true)
  | 2 => ("VillageHalls$Meetings", "hangsOn", "[I", true)
  | _ => ("VillageHalls$Meetings", "size", "I", false)
def tyX6 : Nat → FieldType := fun k => match k with
  | 0 => .array .boolean
  | 1 => .array .boolean
  | 2 => .array .int
  | _ => .int
theorem nmX6 : ∀ a, a < 4 → ∀ b, b < 4 → a ≠ b → (TX6 a).2.1 ≠ (TX6 b).2.1 := by decide +kernel
theorem tyX6_ok : ∀ k, k < 4 → parseFieldDescriptor (TX6 k).2.2.1 = some (tyX6 k) := by decide +kernel
def RX7 : String := "VillageHalls$RuleReader"
def TX7 : u_T := fun k => match k with
  | 0 => ("VillageHalls$RuleReader", "tape", "LVillageHalls$Tape;", true)
  | 1 => ("VillageHalls$RuleReader", "halls", "[LVillageHalls$Hall;", true)
  | 2 => ("VillageHalls$RuleReader", "drafts", "[LVillageHalls$Hall;", true)
  | 3 => ("VillageHalls$RuleReader", "draft", "LVillageHalls$Hall;", false)
  | 4 => ("VillageHalls$RuleReader", "number", "I", false)
  | 5 => ("VillageHalls$RuleReader", "done", "I", false)
  | 6 => ("VillageHalls$RuleReader", "faultNumber", "I", false)
  | _ => ("VillageHalls$RuleReader", "faultPlace", "I", false)
def tyX7 : Nat → FieldType := fun k => match k with
  | 0 => .object "VillageHalls$Tape"
  | 1 => .array (.object "VillageHalls$Hall")
  | 2 => .array (.object "VillageHalls$Hall")
  | 3 => .object "VillageHalls$Hall"
  | 4 => .int
  | 5 => .int
  | 6 => .int
  | _ => .int
theorem nmX7 : ∀ a, a < 8 → ∀ b, b < 8 → a ≠ b → (TX7 a).2.1 ≠ (TX7 b).2.1 := by decide +kernel
theorem tyX7_ok : ∀ k, k < 8 → parseFieldDescriptor (TX7 k).2.2.1 = some (tyX7 k) := by decide +kernel
def RX8 : String := "VillageHalls$Sheets"
def TX8 : u_T := fun k => match k with
  | 0 => ("VillageHalls$Sheets", "lanes", "[I", true)
  | 1 => ("VillageHalls$Sheets", "sizes", "[I", true)
  | _ => ("VillageHalls$Sheets", "items", "[I", true)
def tyX8 : Nat → FieldType := fun k => match k with
  | 0 => .array .int
  | 1 => .array .int
  | _ => .array .int
theorem nmX8 : ∀ a, a < 3 → ∀ b, b < 3 → a ≠ b → (TX8 a).2.1 ≠ (TX8 b).2.1 := by decide +kernel
theorem tyX8_ok : ∀ k, k < 3 → parseFieldDescriptor (TX8 k).2.2.1 = some (tyX8 k) := by decide +kernel
def RX9 : String := "VillageHalls$Tape"
def TX9 : u_T := fun k => match k with
  | 0 => ("VillageHalls$Tape", "bytes", "[I", true)
  | 1 => ("VillageHalls$Tape", "length", "I", false)
  | 2 => ("VillageHalls$Tape", "token", "I", false)
  | 3 => ("VillageHalls$Tape", "begin", "I", false)
  | _ => ("VillageHalls$Tape", "end", "I", false)
def tyX9 : Nat → FieldType := fun k => match k with
  | 0 => .array .int
  | 1 => .int
  | 2 => .int
  | 3 => .int
  | _ => .int
theorem nmX9 : ∀ a, a < 5 → ∀ b, b < 5 → a ≠ b → (TX9 a).2.1 ≠ (TX9 b).2.1 := by decide +kernel
theorem tyX9_ok : ∀ k, k < 5 → parseFieldDescriptor (TX9 k).2.2.1 = some (tyX9 k) := by decide +kernel
def RX10 : String := "VillageHalls"
def TX10 : u_T := fun k => match k with
  | 0 => ("VillageHalls", "sheets", "LVillageHalls$Sheets;", true)
  | 1 => ("VillageHalls", "halls", "[LVillageHalls$Hall;", true)
  | 2 => ("VillageHalls", "tape", "LVillageHalls$Tape;", true)
  | 3 => ("VillageHalls", "reader", "LVillageHalls$RuleReader;", true)
  | 4 => ("VillageHalls", "diary", "LVillageHalls$Diary;", true)
  | 5 => ("VillageHalls", "plan", "LVillageHalls$FuneralPlan;", true)
  | 6 => ("VillageHalls", "coins", "LVillageHalls$Log;", true)
  | 7 => ("VillageHalls", "gifts", "LVillageHalls$Log;", true)
  | 8 => ("VillageHalls", "looks", "LVillageHalls$Log;", true)
  | 9 => ("VillageHalls", "meetings", "LVillageHalls$Meetings;", true)
  | 10 => ("VillageHalls", "asks", "LVillageHalls$Asks;", true)
  | 11 => ("VillageHalls", "today", "I", false)
  | _ => ("VillageHalls", "latestFinding", "I", false)
def tyX10 : Nat → FieldType := fun k => match k with
  | 0 => .object "VillageHalls$Sheets"
  | 1 => .array (.object "VillageHalls$Hall")
  | 2 => .object "VillageHalls$Tape"
  | 3 => .object "VillageHalls$RuleReader"
  | 4 => .object "VillageHalls$Diary"
  | 5 => .object "VillageHalls$FuneralPlan"
  | 6 => .object "VillageHalls$Log"
  | 7 => .object "VillageHalls$Log"
  | 8 => .object "VillageHalls$Log"
  | 9 => .object "VillageHalls$Meetings"
  | 10 => .object "VillageHalls$Asks"
  | 11 => .int
  | _ => .int
theorem nmX10 : ∀ a, a < 13 → ∀ b, b < 13 → a ≠ b → (TX10 a).2.1 ≠ (TX10 b).2.1 := by decide +kernel
theorem tyX10_ok : ∀ k, k < 13 → parseFieldDescriptor (TX10 k).2.2.1 = some (tyX10 k) := by decide +kernel
def RX11 : String := "VillageHallsModel"
def TX11 : u_T := fun k => match k with
  | 0 => ("VillageHallsModel", "thrown", "I", false)
  | 1 => ("VillageHallsModel", "status", "I", false)
  | 2 => ("VillageHallsModel", "setup", "[I", true)
  | 3 => ("VillageHallsModel", "licences", "[I", true)
  | 4 => ("VillageHallsModel", "late", "[I", true)
  | 5 => ("VillageHallsModel", "forfeit", "[I", true)
  | 6 => ("VillageHallsModel", "fire", "[I", true)
  | 7 => ("VillageHallsModel", "rate", "[I", true)
  | 8 => ("VillageHallsModel", "rank", "[I", true)
  | 9 => ("VillageHallsModel", "lane", "[I", true)
  | 10 => ("VillageHallsModel", "many", "[I", true)
  | 11 => ("VillageHallsModel", "item", "[I", true)
  | 12 => ("VillageHallsModel", "tape", "[I", true)
  | 13 => ("VillageHallsModel", "taped", "I", false)
  | 14 => ("VillageHallsModel", "latest", "I", false)
  | 15 => ("VillageHallsModel", "size", "I", false)
  | 16 => ("VillageHallsModel", "cursor", "I", false)
  | 17 => ("VillageHallsModel", "token", "I", false)
  | 18 => ("VillageHallsModel", "from", "I", false)
  | 19 => ("VillageHallsModel", "till", "I", false)
  | 20 => ("VillageHallsModel", "fault", "I", false)
  | 21 => ("VillageHallsModel", "faultAt", "I", false)
  | 22 => ("VillageHallsModel", "isDone", "Z", false)
  | 23 => ("VillageHallsModel", "ruled", "I", false)
  | 24 => ("VillageHallsModel", "bookings", "I", false)
  | 25 => ("VillageHallsModel", "row", "[I", true)
  | 26 => ("VillageHallsModel", "cancelled", "[I", true)
  | 27 => ("VillageHallsModel", "theDay", "I", false)
  | 28 => ("VillageHallsModel", "isWell", "[Z", true)
  | 29 => ("VillageHallsModel", "worth", "[I", true)
  | 30 => ("VillageHallsModel", "against", "[I", true)
  | 31 => ("VillageHallsModel", "movedTo", "[I", true)
  | 32 => ("VillageHallsModel", "toMove", "I", false)
  | 33 => ("VillageHallsModel", "coins", "I", false)
  | 34 => ("VillageHallsModel", "coinHall", "[I", true)
  | 35 => ("VillageHallsModel", "coinAt", "[I", true)
  | 36 => ("VillageHallsModel", "coinMinutes", "[I", true)
  | 37 => ("VillageHallsModel", "gives", "I", false)
  | 38 => ("VillageHallsModel", "giveKey", "[I", true)
  | 39 => ("VillageHallsModel", "giveFrom", "[I", true)
  | 40 => ("VillageHallsModel", "giveTo", "[I", true)
  | 41 => ("VillageHallsModel", "giveDay", "[I", true)
  | 42 => ("VillageHallsModel", "looks", "I", false)
  | 43 => ("VillageHallsModel", "lookHall", "[I", true)
  | 44 => ("VillageHallsModel", "lookAt", "[I", true)
  | 45 => ("VillageHallsModel", "lookDamage", "[I", true)
  | 46 => ("VillageHallsModel", "meetings", "I", false)
  | 47 => ("VillageHallsModel", "members", "[I", true)
  | 48 => ("VillageHallsModel", "yes", "[I", true)
  | 49 => ("VillageHallsModel", "no", "[I", true)
  | 50 => ("VillageHallsModel", "quorum", "[I", true)
  | 51 => ("VillageHallsModel", "hangs", "[I", true)
  | 52 => ("VillageHallsModel", "trace", "[I", true)
  | _ => ("VillageHallsModel", "traced", "I", false)
def tyX11 : Nat → FieldType := fun k => match k with
  | 0 => .int
  | 1 => .int
  | 2 => .array .int
  | 3 => .array .int
  | 4 => .array .int
  | 5 => .array .int
  | 6 => .array .int
  | 7 => .array .int
  | 8 => .array .int
  | 9 => .array .int
  | 10 => .array .int
  | 11 => .array .int
  | 12 => .array .int
  | 13 => .int
  | 14 => .int
  | 15 => .int
  | 16 => .int
  | 17 => .int
  | 18 => .int
  | 19 => .int
  | 20 => .int
  | 21 => .int
  | 22 => .boolean
  | 23 => .int
  | 24 => .int
  | 25 => .array .int
  | 26 => .array .int
  | 27 => .int
  | 28 => .array .boolean
  | 29 => .array .int
  | 30 => .array .int
  | 31 => .array .int
  | 32 => .int
  | 33 => .int
  | 34 => .array .int
  | 35 => .array .int
  | 36 => .array .int
  | 37 => .int
  | 38 => .array .int
  | 39 => .array .int
  | 40 => .array .int
  | 41 => .array .int
  | 42 => .int
  | 43 => .array .int
  | 44 => .array .int
  | 45 => .array .int
  | 46 => .int
  | 47 => .array .int
  | 48 => .array .int
  | 49 => .array .int
  | 50 => .array .int
  | 51 => .array .int
  | 52 => .array .int
  | _ => .int
theorem nmX11 : ∀ a, a < 54 → ∀ b, b < 54 → a ≠ b → (TX11 a).2.1 ≠ (TX11 b).2.1 := by decide +kernel
theorem tyX11_ok : ∀ k, k < 54 → parseFieldDescriptor (TX11 k).2.2.1 = some (tyX11 k) := by decide +kernel
abbrev vwCl : List vw_C := [(RX0, TX0, 6), (RX1, TX1, 10), (RX2, TX2, 6), (RX3, TX3, 7), (RX4, TX4, 7), (RX5, TX5, 5), (RX6, TX6, 4), (RX7, TX7, 8), (RX8, TX8, 3), (RX9, TX9, 5), (RX10, TX10, 13), (RX11, TX11, 54)]
def vh_big : List Cond := lw_tbl.filter goodWord
theorem vh_bigm {w : Cond} (p : Nat) (h : lw_tbl[p]? = some w) (g : goodWord w = true) : w ∈ vh_big := List.mem_filter.mpr ⟨List.mem_of_getElem? h, g⟩
theorem vh_in0 : ∀ w ∈ u_ws RX0 TX0 6, w ∈ vh_big := by
  have h : (u_ws RX0 TX0 6) = ([403, 405, 407, 409, 411, 413] : List Nat).filterMap (fun i => lw_tbl[i]?) := by decide +kernel
  have g : (u_ws RX0 TX0 6).all goodWord = true := by decide +kernel
  intro w hw
  have g1 := List.all_eq_true.mp g w hw
  rw [h] at hw
  obtain ⟨i, -, hi⟩ := List.mem_filterMap.mp hw
  exact vh_bigm i hi g1
theorem vh_in1 : ∀ w ∈ u_ws RX1 TX1 10, w ∈ vh_big := by
  have h : (u_ws RX1 TX1 10) = ([269, 271, 273, 275, 277, 279, 281, 283, 285, 287] : List Nat).filterMap (fun i => lw_tbl[i]?) := by decide +kernel
  have g : (u_ws RX1 TX1 10).all goodWord = true := by decide +kernel
  intro w hw
  have g1 := List.all_eq_true.mp g w hw
  rw [h] at hw
  obtain ⟨i, -, hi⟩ := List.mem_filterMap.mp hw
  exact vh_bigm i hi g1
theorem vh_in2 : ∀ w ∈ u_ws RX2 TX2 6, w ∈ vh_big := by
  have h : (u_ws RX2 TX2 6) = ([298, 300, 302, 304, 306, 308] : List Nat).filterMap (fun i => lw_tbl[i]?) := by decide +kernel
  have g : (u_ws RX2 TX2 6).all goodWord = true := by decide +kernel
  intro w hw
  have g1 := List.all_eq_true.mp g w hw
  rw [h] at hw
  obtain ⟨i, -, hi⟩ := List.mem_filterMap.mp hw
  exact vh_bigm i hi g1
theorem vh_in3 : ∀ w ∈ u_ws RX3 TX3 7, w ∈ vh_big := by
  have h : (u_ws RX3 TX3 7) = ([326, 328, 330, 332, 334, 336, 338] : List Nat).filterMap (fun i => lw_tbl[i]?) := by decide +kernel
  have g : (u_ws RX3 TX3 7).all goodWord = true := by decide +kernel
  intro w hw
  have g1 := List.all_eq_true.mp g w hw
  rw [h] at hw
  obtain ⟨i, -, hi⟩ := List.mem_filterMap.mp hw
  exact vh_bigm i hi g1
theorem vh_in4 : ∀ w ∈ u_ws RX4 TX4 7, w ∈ vh_big := by
  have h : (u_ws RX4 TX4 7) = ([144, 146, 148, 150, 152, 154, 156] : List Nat).filterMap (fun i => lw_tbl[i]?) := by decide +kernel
  have g : (u_ws RX4 TX4 7).all goodWord = true := by decide +kernel
  intro w hw
  have g1 := List.all_eq_true.mp g w hw
  rw [h] at hw
  obtain ⟨i, -, hi⟩ := List.mem_filterMap.mp hw
  exact vh_bigm i hi g1
theorem vh_in5 : ∀ w ∈ u_ws RX5 TX5 5, w ∈ vh_big := by
  have h : (u_ws RX5 TX5 5) = ([357, 359, 361, 363, 365] : List Nat).filterMap (fun i => lw_tbl[i]?) := by decide +kernel
  have g : (u_ws RX5 TX5 5).all goodWord = true := by decide +kernel
  intro w hw
  have g1 := List.all_eq_true.mp g w hw
  rw [h] at hw
  obtain ⟨i, -, hi⟩ := List.mem_filterMap.mp hw
  exact vh_bigm i hi g1
theorem vh_in6 : ∀ w ∈ u_ws RX6 TX6 4, w ∈ vh_big := by
  have h : (u_ws RX6 TX6 4) = ([381, 383, 385, 387] : List Nat).filterMap (fun i => lw_tbl[i]?) := by decide +kernel
  have g : (u_ws RX6 TX6 4).all goodWord = true := by decide +kernel
  intro w hw
  have g1 := List.all_eq_true.mp g w hw
  rw [h] at hw
  obtain ⟨i, -, hi⟩ := List.mem_filterMap.mp hw
  exact vh_bigm i hi g1
theorem vh_in7 : ∀ w ∈ u_ws RX7 TX7 8, w ∈ vh_big := by
  have h : (u_ws RX7 TX7 8) = ([202, 204, 206, 208, 210, 212, 214, 216] : List Nat).filterMap (fun i => lw_tbl[i]?) := by decide +kernel
  have g : (u_ws RX7 TX7 8).all goodWord = true := by decide +kernel
  intro w hw
  have g1 := List.all_eq_true.mp g w hw
  rw [h] at hw
  obtain ⟨i, -, hi⟩ := List.mem_filterMap.mp hw
  exact vh_bigm i hi g1
theorem vh_in8 : ∀ w ∈ u_ws RX8 TX8 3, w ∈ vh_big := by
  have h : (u_ws RX8 TX8 3) = ([104, 106, 108] : List Nat).filterMap (fun i => lw_tbl[i]?) := by decide +kernel
  have g : (u_ws RX8 TX8 3).all goodWord = true := by decide +kernel
  intro w hw
  have g1 := List.all_eq_true.mp g w hw
  rw [h] at hw
  obtain ⟨i, -, hi⟩ := List.mem_filterMap.mp hw
  exact vh_bigm i hi g1
theorem vh_in9 : ∀ w ∈ u_ws RX9 TX9 5, w ∈ vh_big := by
  have h : (u_ws RX9 TX9 5) = ([173, 175, 177, 179, 181] : List Nat).filterMap (fun i => lw_tbl[i]?) := by decide +kernel
  have g : (u_ws RX9 TX9 5).all goodWord = true := by decide +kernel
  intro w hw
  have g1 := List.all_eq_true.mp g w hw
  rw [h] at hw
  obtain ⟨i, -, hi⟩ := List.mem_filterMap.mp hw
  exact vh_bigm i hi g1
theorem vh_in10 : ∀ w ∈ u_ws RX10 TX10 13, w ∈ vh_big := by
  have h : (u_ws RX10 TX10 13) = ([429, 431, 433, 435, 437, 439, 441, 443, 445, 447, 449, 451, 453] : List Nat).filterMap (fun i => lw_tbl[i]?) := by decide +kernel
  have g : (u_ws RX10 TX10 13).all goodWord = true := by decide +kernel
  intro w hw
  have g1 := List.all_eq_true.mp g w hw
  rw [h] at hw
  obtain ⟨i, -, hi⟩ := List.mem_filterMap.mp hw
  exact vh_bigm i hi g1
theorem vh_in11 : ∀ w ∈ u_ws RX11 TX11 54, w ∈ vh_big := by
  have h : (u_ws RX11 TX11 54) = ([1128, 1130, 1132, 1134, 1136, 1138, 1140, 1142, 1144, 1146, 1148, 1150, 1152, 1154, 1156, 1158, 1160, 1162, 1164, 1166, 1168, 1170, 1172, 1174, 1176, 1178, 1180, 1182, 1184, 1186, 1188, 1190, 1192, 1194, 1196, 1198, 1200, 1202, 1204, 1206, 1208, 1210, 1212, 1214, 1216, 1218, 1220, 1222, 1224, 1226, 1228, 1230, 1232, 1234] : List Nat).filterMap (fun i => lw_tbl[i]?) := by decide +kernel
  have g : (u_ws RX11 TX11 54).all goodWord = true := by decide +kernel
  intro w hw
  have g1 := List.all_eq_true.mp g w hw
  rw [h] at hw
  obtain ⟨i, -, hi⟩ := List.mem_filterMap.mp hw
  exact vh_bigm i hi g1
def vh_ftL : List (List Nat) := [[1, 0, 0, 0, 0, 0], [0, 0, 0, 0, 0, 0, 0, 0, 0, 0], [1, 1, 1, 1, 1, 0], [1, 1, 1, 1, 1, 0, 0], [0, 0, 0, 0, 1, 1, 1], [1, 1, 1, 1, 0], [1, 1, 1, 0], [1, 1, 1, 1, 0, 0, 0, 0], [1, 1, 1], [1, 0, 0, 0, 0], [1, 1, 1, 1, 1, 1, 1, 1, 1, 1, 1, 0, 0], [0, 0, 1, 1, 1, 1, 1, 1, 1, 1, 1, 1, 1, 0, 0, 0, 0, 0, 0, 0, 0, 0, 2, 0, 0, 1, 1, 0, 1, 1, 1, 1, 0, 0, 1, 1, 1, 0, 1, 1, 1, 1, 0, 1, 1, 1, 0, 1, 1, 1, 1, 1, 1, 0]]
def vh_kdL : List (Nat × Nat) := [(10, 13), (8, 3), (20, 8), (20, 8), (20, 480), (23, 4), (4, 7), (20, 2), (20, 5), (20, 5), (4, 7), (20, 2), (20, 5), (20, 5), (4, 7), (20, 2), (20, 5), (20, 5), (4, 7), (20, 2), (20, 5), (20, 5), (9, 5), (20, 400), (7, 8), (23, 4), (4, 7), (20, 2), (20, 5), (20, 5), (4, 7), (20, 2), (20, 5), (20, 5), (4, 7), (20, 2), (20, 5), (20, 5), (4, 7), (20, 2), (20, 5), (20, 5), (2, 6), (24, 16), (20, 16), (20, 16), (22, 16), (1, 10), (1, 10), (1, 10), (1, 10), (1, 10), (1, 10), (1, 10), (1, 10), (1, 10), (1, 10), (1, 10), (1, 10), (1, 10), (1, 10), (1, 10), (1, 10), (3, 7), (1, 10), (1, 10), (20, 16), (5, 5), (20, 40), (20, 40), (20, 40), (20, 40), (5, 5), (20, 40), (20, 40), (20, 40), (20, 40), (5, 5), (20, 40), (20, 40), (20, 40), (20, 40), (6, 4), (21, 10), (21, 10), (20, 10), (0, 6), (20, 16), (11, 54), (20, 4), (20, 4), (20, 4), (20, 4), (20, 8), (20, 20), (20, 20), (20, 8), (20, 8), (20, 480), (20, 400), (20, 144), (20, 16), (21, 65536), (20, 65536), (20, 16), (20, 16), (20, 40), (20, 40), (20, 40), (20, 40), (20, 40), (20, 40), (20, 40), (20, 40), (20, 40), (20, 40), (20, 10), (20, 10), (20, 10), (20, 10), (20, 10), (20, 16)]
def vh_nest : List Cond := [.methodLinkNest "VillageHalls" 26 ⟨"VillageHalls$Tape", "<init>", "()V"⟩ "VillageHalls", .fieldLinkNest "VillageHalls" 141 "VillageHalls$Tape" "length" "I" "VillageHalls", .fieldLinkNest "VillageHalls$RuleReader" 54 "VillageHalls$Tape" "token" "I" "VillageHalls", .fieldLinkNest "VillageHalls$RuleReader" 155 "VillageHalls$Tape" "begin" "I" "VillageHalls", .methodLinkNest "VillageHalls$RuleReader" 9 ⟨"VillageHalls", "newHalls", "()[LVillageHalls$Hall;"⟩ "VillageHalls", .fieldLinkNest "VillageHalls" 148 "VillageHalls$RuleReader" "done" "I" "VillageHalls", .fieldLinkNest "VillageHalls" 155 "VillageHalls$RuleReader" "faultNumber" "I" "VillageHalls", .fieldLinkNest "VillageHalls" 152 "VillageHalls$RuleReader" "faultPlace" "I" "VillageHalls", .methodLinkNest "VillageHalls$Diary" 36 ⟨"VillageHalls$Booking", "<init>", "()V"⟩ "VillageHalls", .fieldLinkNest "VillageHalls" 295 "VillageHalls$Diary" "size" "I" "VillageHalls", .methodLinkNest "VillageHalls$FuneralPlan" 11 ⟨"VillageHalls$Booking", "<init>", "()V"⟩ "VillageHalls", .methodLinkNest "VillageHalls" 60 ⟨"VillageHalls$Log", "<init>", "()V"⟩ "VillageHalls", .fieldLinkNest "VillageHalls" 246 "VillageHalls$Log" "time" "[I" "VillageHalls", .fieldLinkNest "VillageHalls" 250 "VillageHalls$Log" "thing" "[I" "VillageHalls", .fieldLinkNest "VillageHalls" 253 "VillageHalls$Log" "first" "[I" "VillageHalls", .fieldLinkNest "VillageHalls" 256 "VillageHalls$Log" "second" "[I" "VillageHalls", .fieldLinkNest "VillageHalls" 243 "VillageHalls$Log" "size" "I" "VillageHalls", .methodLinkNest "VillageHalls" 73 ⟨"VillageHalls$Meetings", "<init>", "()V"⟩ "VillageHalls", .fieldLinkNest "VillageHalls" 265 "VillageHalls$Meetings" "valid" "[Z" "VillageHalls", .fieldLinkNest "VillageHalls" 269 "VillageHalls$Meetings" "carried" "[Z" "VillageHalls", .fieldLinkNest "VillageHalls" 299 "VillageHalls$Meetings" "size" "I" "VillageHalls", .methodLinkNest "VillageHalls" 80 ⟨"VillageHalls$Asks", "<init>", "()V"⟩ "VillageHalls", .methodLinkNest "VillageHalls$Sheets" 19 ⟨"VillageHalls", "within", "(III)Z"⟩ "VillageHalls", .methodLinkNest "VillageHalls$Hall" 34 ⟨"VillageHalls", "within", "(III)Z"⟩ "VillageHalls", .methodLinkNest "VillageHalls$Booking" 49 ⟨"VillageHalls", "isHall", "(I)Z"⟩ "VillageHalls", .methodLinkNest "VillageHalls$Booking" 53 ⟨"VillageHalls", "within", "(III)Z"⟩ "VillageHalls", .methodLinkNest "VillageHalls$Booking" 57 ⟨"VillageHalls", "isDay", "(I)Z"⟩ "VillageHalls", .methodLinkNest "VillageHalls$Booking" 60 ⟨"VillageHalls", "isSpan", "(II)Z"⟩ "VillageHalls", .methodLinkNest "VillageHalls$FuneralPlan" 112 ⟨"VillageHalls", "within", "(III)Z"⟩ "VillageHalls"]
abbrev vh_M : Type := MethodName × ByteArray × Nat × Option FieldType × Nat × Nat × Nat × Nat
def vh_mt0 : List vh_M := [
  (⟨"VillageHalls", "<init>", "()V"⟩, prog_1_method_1_code, 1, none, 2, 4, 84, 1),
  (⟨"VillageHalls$Sheets", "<init>", "()V"⟩, prog_10_method_1_code, 2, none, 2, 1, 20, 1),
  (⟨"VillageHalls", "newHalls", "()[LVillageHalls$Hall;"⟩, prog_1_method_35_code, 2, (some (.array (.object "VillageHalls$Hall"))), 0, 2, 41, 0),
  (⟨"VillageHalls$Hall", "<init>", "()V"⟩, prog_6_method_1_code, 2, none, 2, 1, 20, 1),
  (⟨"VillageHalls$Tape", "<init>", "()V"⟩, prog_11_method_1_code, 1, none, 2, 1, 20, 1),
  (⟨"VillageHalls$RuleReader", "<init>", "(LVillageHalls$Tape;[LVillageHalls$Hall;)V"⟩, prog_9_method_1_code, 3, none, 2, 3, 62, 3),
  (⟨"VillageHalls$Diary", "<init>", "([LVillageHalls$Hall;)V"⟩, prog_4_method_1_code, 3, none, 2, 2, 40, 2),
  (⟨"VillageHalls$Booking", "<init>", "()V"⟩, prog_3_method_1_code, 1, none, 2, 1, 20, 1),
  (⟨"VillageHalls$FuneralPlan", "<init>", "(LVillageHalls$Diary;[LVillageHalls$Hall;)V"⟩, prog_5_method_1_code, 3, none, 2, 2, 40, 3),
  (⟨"VillageHalls$Log", "<init>", "()V"⟩, prog_7_method_1_code, 1, none, 2, 1, 20, 1),
  (⟨"VillageHalls$Meetings", "<init>", "()V"⟩, prog_8_method_1_code, 1, none, 2, 1, 20, 1),
  (⟨"VillageHalls$Asks", "<init>", "()V"⟩, prog_2_method_1_code, 1, none, 2, 1, 20, 1),
  (⟨"VillageHalls", "sheet", "(III)I"⟩, prog_1_method_2_code, 4, (some .int), 1, 2, 42, 4),
  (⟨"VillageHalls$Sheets", "isNumber", "(I)Z"⟩, prog_10_method_2_code, 1, (some .boolean), 0, 1, 22, 1),
  (⟨"VillageHalls", "within", "(III)Z"⟩, prog_1_method_36_code, 3, (some .boolean), 0, 0, 0, 3),
  (⟨"VillageHalls", "found", "(I)I"⟩, prog_1_method_33_code, 2, (some .int), 1, 0, 0, 2),
  (⟨"VillageHalls$Sheets", "lay", "(III)V"⟩, prog_10_method_6_code, 5, none, 1, 0, 0, 4),
  (⟨"VillageHalls", "passed", "(I)I"⟩, prog_1_method_34_code, 2, (some .int), 1, 0, 0, 2),
  (⟨"VillageHalls", "set", "(III)I"⟩, prog_1_method_3_code, 4, (some .int), 1, 2, 42, 4),
  (⟨"VillageHalls$Sheets", "isMissing", "(I)Z"⟩, prog_10_method_3_code, 2, (some .boolean), 1, 0, 0, 2),
  (⟨"VillageHalls$Sheets", "hasPlaces", "(III)Z"⟩, prog_10_method_4_code, 4, (some .boolean), 1, 0, 0, 4),
  (⟨"VillageHalls$Sheets", "put", "(III)I"⟩, prog_10_method_7_code, 5, (some .int), 1, 0, 0, 4),
  (⟨"VillageHalls", "copy", "(IIIII)I"⟩, prog_1_method_4_code, 6, (some .int), 1, 2, 65, 6),
  (⟨"VillageHalls$Sheets", "areOfOneLane", "(II)Z"⟩, prog_10_method_5_code, 3, (some .boolean), 1, 0, 0, 3),
  (⟨"VillageHalls$Sheets", "carry", "(IIIII)V"⟩, prog_10_method_9_code, 6, none, 1, 1, 40, 6),
  (⟨"VillageHalls", "drop", "(I)I"⟩, prog_1_method_5_code, 2, (some .int), 1, 2, 42, 2),
  (⟨"VillageHalls$Sheets", "remove", "(I)I"⟩, prog_10_method_10_code, 2, (some .int), 1, 0, 0, 2),
  (⟨"VillageHalls", "feed", "(JI)I"⟩, prog_1_method_6_code, 4, (some .int), 1, 1, 24, 3),
  (⟨"VillageHalls$Tape", "hasRoomFor", "(I)Z"⟩, prog_11_method_2_code, 2, (some .boolean), 1, 0, 0, 2),
  (⟨"VillageHalls$Tape", "append", "(JI)V"⟩, prog_11_method_3_code, 5, none, 1, 0, 0, 3),
  (⟨"VillageHalls", "rules", "()I"⟩, prog_1_method_7_code, 1, (some .int), 1, 10, 214, 1),
  (⟨"VillageHalls$RuleReader", "readTape", "()Z"⟩, prog_9_method_2_code, 3, (some .boolean), 1, 9, 192, 1),
  (⟨"VillageHalls$Hall", "takeOver", "(LVillageHalls$Hall;)V"⟩, prog_6_method_2_code, 3, none, 1, 0, 0, 2),
  (⟨"VillageHalls$Tape", "rewind", "()V"⟩, prog_11_method_5_code, 1, none, 1, 2, 43, 1),
  (⟨"VillageHalls$Tape", "advance", "()V"⟩, prog_11_method_6_code, 1, none, 1, 1, 23, 1),
  (⟨"VillageHalls$Tape", "endOfRun", "(II)I"⟩, prog_11_method_7_code, 4, (some .int), 1, 0, 0, 3),
  (⟨"VillageHalls$RuleReader", "readHall", "()Z"⟩, prog_9_method_3_code, 3, (some .boolean), 1, 8, 170, 1),
  (⟨"VillageHalls$Tape", "isWord", "(Ljava/lang/String;)Z"⟩, prog_11_method_8_code, 3, (some .boolean), 1, 4, 85, 2),
  (⟨"java/lang/String", "length", "()I"⟩, prog_16_method_54_code, 1, (some .int), 1, 1, 20, 1),
  (⟨"java/lang/String", "coder", "()B"⟩, prog_16_method_152_code, 1, (some .byte), 1, 0, 0, 1)]
def vh_mt1 : List vh_M := [
  (⟨"java/lang/String", "charAt", "(I)C"⟩, prog_16_method_56_code, 2, (some .char), 1, 3, 64, 2),
  (⟨"java/lang/String", "isLatin1", "()Z"⟩, prog_16_method_154_code, 1, (some .boolean), 1, 0, 0, 1),
  (⟨"java/lang/StringLatin1", "charAt", "([BI)C"⟩, prog_17_method_2_code, 2, (some .char), 0, 2, 43, 2),
  (⟨"java/lang/String", "checkIndex", "(II)V"⟩, prog_16_method_155_code, 2, none, 0, 1, 22, 2),
  (⟨"jdk/internal/util/Preconditions", "checkIndex", "(IILjava/util/function/BiFunction;)I"⟩, prog_20_method_11_code, 3, (some .int), 0, 0, 0, 3),
  (⟨"VillageHalls$RuleReader", "refuse", "(I)Z"⟩, prog_9_method_14_code, 2, (some .boolean), 1, 0, 0, 2),
  (⟨"VillageHalls$RuleReader", "readNumber", "(I)Z"⟩, prog_9_method_11_code, 2, (some .boolean), 1, 2, 43, 2),
  (⟨"VillageHalls$Tape", "value", "()I"⟩, prog_11_method_9_code, 3, (some .int), 1, 0, 0, 1),
  (⟨"VillageHalls$RuleReader", "readRule", "()Z"⟩, prog_9_method_4_code, 2, (some .boolean), 1, 7, 149, 1),
  (⟨"VillageHalls$RuleReader", "ruleHere", "()I"⟩, prog_9_method_12_code, 1, (some .int), 1, 5, 107, 1),
  (⟨"VillageHalls$RuleReader", "readSetup", "()Z"⟩, prog_9_method_5_code, 1, (some .boolean), 1, 3, 64, 1),
  (⟨"VillageHalls$RuleReader", "readLicences", "()Z"⟩, prog_9_method_6_code, 1, (some .boolean), 1, 3, 64, 1),
  (⟨"VillageHalls$RuleReader", "readRate", "()Z"⟩, prog_9_method_7_code, 2, (some .boolean), 1, 6, 127, 1),
  (⟨"VillageHalls$RuleReader", "useHere", "()I"⟩, prog_9_method_13_code, 1, (some .int), 1, 5, 107, 1),
  (⟨"VillageHalls$RuleReader", "readFirst", "()Z"⟩, prog_9_method_8_code, 3, (some .boolean), 1, 6, 127, 1),
  (⟨"VillageHalls$Hall", "raise", "(II)V"⟩, prog_6_method_3_code, 5, none, 1, 0, 0, 3),
  (⟨"VillageHalls$RuleReader", "readLate", "()Z"⟩, prog_9_method_9_code, 1, (some .boolean), 1, 3, 64, 1),
  (⟨"VillageHalls$RuleReader", "readFire", "()Z"⟩, prog_9_method_10_code, 2, (some .boolean), 1, 3, 64, 1),
  (⟨"VillageHalls$Tape", "empty", "()V"⟩, prog_11_method_4_code, 1, none, 1, 0, 0, 1),
  (⟨"VillageHalls", "fault", "()I"⟩, prog_1_method_8_code, 1, (some .int), 1, 0, 0, 1),
  (⟨"VillageHalls", "hall", "(II)I"⟩, prog_1_method_9_code, 3, (some .int), 1, 2, 43, 3),
  (⟨"VillageHalls", "isHall", "(I)Z"⟩, prog_1_method_37_code, 1, (some .boolean), 0, 1, 22, 1),
  (⟨"VillageHalls$Hall", "tell", "(I)I"⟩, prog_6_method_4_code, 2, (some .int), 1, 1, 22, 2),
  (⟨"VillageHalls", "book", "(II)I"⟩, prog_1_method_10_code, 4, (some .int), 1, 4, 88, 3),
  (⟨"VillageHalls$Diary", "isFull", "()Z"⟩, prog_4_method_2_code, 1, (some .boolean), 1, 0, 0, 1),
  (⟨"VillageHalls$Diary", "add", "(LVillageHalls$Sheets;II)I"⟩, prog_4_method_5_code, 4, (some .int), 1, 3, 65, 4),
  (⟨"VillageHalls$Booking", "fill", "(LVillageHalls$Sheets;II)V"⟩, prog_3_method_2_code, 4, none, 1, 1, 22, 4),
  (⟨"VillageHalls$Sheets", "item", "(II)I"⟩, prog_10_method_8_code, 3, (some .int), 1, 0, 0, 3),
  (⟨"VillageHalls$Booking", "isAsTold", "()Z"⟩, prog_3_method_3_code, 4, (some .boolean), 1, 2, 42, 1),
  (⟨"VillageHalls", "isDay", "(I)Z"⟩, prog_1_method_39_code, 1, (some .boolean), 0, 1, 22, 1),
  (⟨"VillageHalls", "isSpan", "(II)Z"⟩, prog_1_method_40_code, 2, (some .boolean), 0, 0, 0, 2),
  (⟨"VillageHalls", "cancel", "(II)I"⟩, prog_1_method_11_code, 4, (some .int), 1, 1, 22, 3),
  (⟨"VillageHalls$Diary", "has", "(I)Z"⟩, prog_4_method_3_code, 2, (some .boolean), 1, 0, 0, 2),
  (⟨"VillageHalls$Diary", "get", "(I)LVillageHalls$Booking;"⟩, prog_4_method_4_code, 2, (some (.object "VillageHalls$Booking")), 1, 0, 0, 2),
  (⟨"VillageHalls", "told", "(II)I"⟩, prog_1_method_12_code, 4, (some .int), 1, 1, 23, 3),
  (⟨"VillageHalls$Diary", "priceOf", "(LVillageHalls$Booking;)I"⟩, prog_4_method_6_code, 4, (some .int), 1, 0, 0, 2),
  (⟨"VillageHalls$Booking", "tell", "(I)I"⟩, prog_3_method_8_code, 2, (some .int), 1, 0, 0, 2),
  (⟨"VillageHalls", "clash", "(II)I"⟩, prog_1_method_13_code, 3, (some .int), 1, 2, 45, 3),
  (⟨"VillageHalls$Diary", "areClashing", "(LVillageHalls$Booking;LVillageHalls$Booking;)Z"⟩, prog_4_method_8_code, 3, (some .boolean), 1, 1, 23, 3),
  (⟨"VillageHalls$Booking", "isOn", "(III)Z"⟩, prog_3_method_6_code, 4, (some .boolean), 1, 0, 0, 4)]
def vh_mt2 : List vh_M := [
  (⟨"VillageHalls$Booking", "isTooNear", "(LVillageHalls$Booking;I)Z"⟩, prog_3_method_7_code, 4, (some .boolean), 1, 0, 0, 3),
  (⟨"VillageHalls", "holding", "(II)I"⟩, prog_1_method_14_code, 3, (some .int), 1, 5, 116, 3),
  (⟨"VillageHalls$Diary", "heldOn", "(I)I"⟩, prog_4_method_12_code, 6, (some .int), 1, 4, 91, 2),
  (⟨"VillageHalls$Diary", "thereOn", "(I)I"⟩, prog_4_method_11_code, 4, (some .int), 1, 2, 42, 2),
  (⟨"VillageHalls$Booking", "isThereOn", "(I)Z"⟩, prog_3_method_5_code, 2, (some .boolean), 1, 1, 21, 2),
  (⟨"VillageHalls$Booking", "isCancelledBy", "(I)Z"⟩, prog_3_method_4_code, 2, (some .boolean), 1, 0, 0, 2),
  (⟨"VillageHalls$Diary", "lineUp", "(I)I"⟩, prog_4_method_15_code, 5, (some .int), 1, 0, 0, 2),
  (⟨"VillageHalls$Diary", "canHold", "(LVillageHalls$Booking;I)Z"⟩, prog_4_method_13_code, 3, (some .boolean), 1, 3, 69, 3),
  (⟨"VillageHalls$Diary", "isFireEnough", "(LVillageHalls$Booking;)Z"⟩, prog_4_method_10_code, 2, (some .boolean), 1, 0, 0, 2),
  (⟨"VillageHalls$Diary", "clashingWith", "(LVillageHalls$Booking;I)I"⟩, prog_4_method_9_code, 5, (some .int), 1, 2, 45, 3),
  (⟨"VillageHalls$Diary", "licencesIn", "(II)I"⟩, prog_4_method_14_code, 5, (some .int), 1, 0, 0, 3),
  (⟨"VillageHalls$Diary", "pricesOf", "(I)I"⟩, prog_4_method_7_code, 4, (some .int), 1, 1, 23, 2),
  (⟨"VillageHalls", "most", "(IIII)I"⟩, prog_1_method_15_code, 6, (some .int), 1, 4, 101, 5),
  (⟨"VillageHalls$Diary", "worthiest", "(IIII)I"⟩, prog_4_method_17_code, 13, (some .int), 1, 3, 69, 5),
  (⟨"VillageHalls$Diary", "lineUpByBeginnings", "(IIII)I"⟩, prog_4_method_18_code, 8, (some .int), 1, 2, 42, 5),
  (⟨"VillageHalls", "funeral", "(IIIIII)I"⟩, prog_1_method_16_code, 7, (some .int), 1, 6, 143, 7),
  (⟨"VillageHalls$FuneralPlan", "make", "(IIIIII)V"⟩, prog_5_method_2_code, 8, none, 1, 5, 116, 7),
  (⟨"VillageHalls$FuneralPlan", "chooseFloor", "()V"⟩, prog_5_method_3_code, 5, none, 1, 3, 69, 1),
  (⟨"java/lang/Integer", "bitCount", "(I)I"⟩, prog_14_method_49_code, 1, (some .int), 0, 0, 0, 1),
  (⟨"VillageHalls$FuneralPlan", "placeFor", "(I)I"⟩, prog_5_method_4_code, 4, (some .int), 1, 4, 91, 2),
  (⟨"VillageHalls$FuneralPlan", "isFreeForGuest", "()Z"⟩, prog_5_method_5_code, 3, (some .boolean), 1, 3, 69, 1),
  (⟨"VillageHalls$FuneralPlan", "tell", "(I)I"⟩, prog_5_method_6_code, 2, (some .int), 1, 1, 22, 2),
  (⟨"VillageHalls$FuneralPlan", "withoutPlace", "()I"⟩, prog_5_method_7_code, 3, (some .int), 1, 0, 0, 1),
  (⟨"VillageHalls", "coin", "(IIII)I"⟩, prog_1_method_17_code, 5, (some .int), 1, 3, 65, 5),
  (⟨"VillageHalls", "isMoment", "(IIII)Z"⟩, prog_1_method_41_code, 4, (some .boolean), 0, 2, 42, 4),
  (⟨"VillageHalls", "moment", "(II)I"⟩, prog_1_method_42_code, 2, (some .int), 0, 0, 0, 2),
  (⟨"VillageHalls$Log", "add", "(IIII)I"⟩, prog_7_method_2_code, 6, (some .int), 1, 0, 0, 5),
  (⟨"VillageHalls", "run", "(III)I"⟩, prog_1_method_18_code, 4, (some .int), 1, 3, 67, 4),
  (⟨"VillageHalls", "minutesRun", "(II)I"⟩, prog_1_method_43_code, 8, (some .int), 1, 1, 40, 3),
  (⟨"VillageHalls", "meter", "(IIII)I"⟩, prog_1_method_19_code, 6, (some .int), 1, 3, 67, 5),
  (⟨"VillageHalls", "give", "(IIII)I"⟩, prog_1_method_20_code, 5, (some .int), 1, 2, 42, 5),
  (⟨"VillageHalls", "isKey", "(I)Z"⟩, prog_1_method_38_code, 1, (some .boolean), 0, 1, 22, 1),
  (⟨"VillageHalls", "key", "(III)I"⟩, prog_1_method_21_code, 7, (some .int), 1, 2, 42, 4),
  (⟨"VillageHalls", "look", "(IIII)I"⟩, prog_1_method_22_code, 5, (some .int), 1, 3, 65, 5),
  (⟨"VillageHalls", "home", "(II)I"⟩, prog_1_method_23_code, 5, (some .int), 1, 6, 144, 3),
  (⟨"VillageHalls", "onlyOneBetween", "(III)I"⟩, prog_1_method_44_code, 9, (some .int), 1, 5, 116, 4),
  (⟨"VillageHalls", "isPartlyBetween", "(LVillageHalls$Booking;II)Z"⟩, prog_1_method_45_code, 3, (some .boolean), 0, 1, 40, 3),
  (⟨"VillageHalls", "meeting", "(IIIII)I"⟩, prog_1_method_24_code, 6, (some .int), 1, 2, 46, 6),
  (⟨"VillageHalls$Meetings", "has", "(I)Z"⟩, prog_8_method_2_code, 2, (some .boolean), 1, 0, 0, 2),
  (⟨"VillageHalls$Meetings", "isFull", "()Z"⟩, prog_8_method_3_code, 1, (some .boolean), 1, 0, 0, 1)]
def vh_mt3 : List vh_M := [
  (⟨"VillageHalls$Meetings", "add", "(IIII)I"⟩, prog_8_method_4_code, 6, (some .int), 1, 1, 21, 5),
  (⟨"VillageHalls", "met", "(II)I"⟩, prog_1_method_25_code, 3, (some .int), 1, 2, 44, 3),
  (⟨"VillageHalls$Meetings", "hangingOn", "(I)I"⟩, prog_8_method_5_code, 4, (some .int), 1, 1, 21, 2),
  (⟨"VillageHalls", "day", "(I)I"⟩, prog_1_method_26_code, 3, (some .int), 1, 2, 42, 2),
  (⟨"VillageHalls", "kind", "(I)I"⟩, prog_1_method_27_code, 2, (some .int), 1, 5, 116, 2),
  (⟨"VillageHalls$Diary", "kindOf", "(III)I"⟩, prog_4_method_16_code, 5, (some .int), 1, 2, 42, 4),
  (⟨"VillageHalls", "as", "(II)I"⟩, prog_1_method_28_code, 4, (some .int), 1, 5, 116, 3),
  (⟨"VillageHalls", "ask", "(II)I"⟩, prog_1_method_29_code, 5, (some .int), 1, 6, 122, 3),
  (⟨"VillageHalls$Asks", "about", "(LVillageHalls$Booking;I)V"⟩, prog_2_method_2_code, 3, none, 1, 0, 0, 3),
  (⟨"VillageHalls$Asks", "sizeAs", "(I)I"⟩, prog_2_method_5_code, 2, (some .int), 1, 4, 81, 2),
  (⟨"VillageHalls$Asks", "body11", "()I"⟩, prog_2_method_8_code, 1, (some .int), 1, 2, 41, 1),
  (⟨"VillageHalls$Asks", "begin", "(I)V"⟩, prog_2_method_4_code, 2, none, 1, 0, 0, 2),
  (⟨"VillageHalls$Asks", "body10", "()I"⟩, prog_2_method_7_code, 1, (some .int), 1, 1, 21, 1),
  (⟨"VillageHalls$Asks", "body12", "()I"⟩, prog_2_method_9_code, 1, (some .int), 1, 3, 61, 1),
  (⟨"VillageHalls$Asks", "body13", "()I"⟩, prog_2_method_10_code, 1, (some .int), 1, 2, 41, 1),
  (⟨"VillageHalls$Asks", "body20", "()I"⟩, prog_2_method_11_code, 1, (some .int), 1, 1, 21, 1),
  (⟨"VillageHalls$Asks", "markAs", "(I)I"⟩, prog_2_method_6_code, 2, (some .int), 1, 5, 101, 2),
  (⟨"VillageHalls$Asks", "body21", "()I"⟩, prog_2_method_12_code, 1, (some .int), 1, 2, 41, 1),
  (⟨"VillageHalls$Asks", "body22", "()I"⟩, prog_2_method_13_code, 1, (some .int), 1, 4, 81, 1),
  (⟨"VillageHalls$Asks", "body23", "()I"⟩, prog_2_method_14_code, 1, (some .int), 1, 2, 41, 1),
  (⟨"VillageHalls", "trace", "(I)I"⟩, prog_1_method_30_code, 2, (some .int), 1, 1, 21, 2),
  (⟨"VillageHalls$Asks", "traced", "(I)I"⟩, prog_2_method_3_code, 2, (some .int), 1, 0, 0, 2),
  (⟨"VillageHalls", "count", "(I)I"⟩, prog_1_method_31_code, 2, (some .int), 1, 6, 140, 2),
  (⟨"VillageHalls$Sheets", "howMany", "()I"⟩, prog_10_method_11_code, 3, (some .int), 1, 1, 21, 1),
  (⟨"VillageHalls", "howManyOf", "(I)I"⟩, prog_1_method_46_code, 5, (some .int), 1, 5, 116, 2),
  (⟨"VillageHalls", "status", "()I"⟩, prog_1_method_32_code, 1, (some .int), 1, 0, 0, 1),
  (⟨"VillageHallsModel", "<init>", "()V"⟩, prog_13_method_1_code, 1, none, 2, 1, 20, 1),
  (⟨"VillageHallsModel", "sheet", "(III)I"⟩, prog_13_method_6_code, 5, (some .int), 1, 2, 45, 4),
  (⟨"VillageHallsModel", "isSheet", "(I)Z"⟩, prog_13_method_5_code, 1, (some .boolean), 0, 1, 25, 1),
  (⟨"VillageHallsModel", "in", "(JJJ)Z"⟩, prog_13_method_3_code, 6, (some .boolean), 0, 0, 0, 3),
  (⟨"VillageHallsModel", "finding", "(I)I"⟩, prog_13_method_4_code, 2, (some .int), 1, 0, 0, 2),
  (⟨"VillageHallsModel", "set", "(III)I"⟩, prog_13_method_7_code, 4, (some .int), 1, 2, 45, 4),
  (⟨"VillageHallsModel", "copy", "(IIIII)I"⟩, prog_13_method_8_code, 9, (some .int), 1, 2, 45, 6),
  (⟨"VillageHallsModel", "drop", "(I)I"⟩, prog_13_method_9_code, 2, (some .int), 1, 2, 45, 2),
  (⟨"VillageHallsModel", "feed", "(JI)I"⟩, prog_13_method_10_code, 5, (some .int), 1, 1, 25, 3),
  (⟨"VillageHallsModel", "rules", "()I"⟩, prog_13_method_25_code, 1, (some .int), 1, 6, 135, 1),
  (⟨"VillageHallsModel", "readAll", "()V"⟩, prog_13_method_24_code, 3, none, 1, 5, 113, 1),
  (⟨"VillageHallsModel", "step", "()V"⟩, prog_13_method_14_code, 2, none, 1, 1, 21, 1),
  (⟨"VillageHallsModel", "byteAt", "(I)I"⟩, prog_13_method_11_code, 2, (some .int), 1, 0, 0, 2),
  (⟨"VillageHallsModel", "isLetter", "(I)Z"⟩, prog_13_method_12_code, 1, (some .boolean), 0, 0, 0, 1)]
def vh_mt4 : List vh_M := [
  (⟨"VillageHallsModel", "isFigure", "(I)Z"⟩, prog_13_method_13_code, 1, (some .boolean), 0, 0, 0, 1),
  (⟨"VillageHallsModel", "word", "()J"⟩, prog_13_method_17_code, 4, (some .long), 1, 0, 0, 1),
  (⟨"VillageHallsModel", "need", "(Z)V"⟩, prog_13_method_16_code, 2, none, 1, 2, 42, 2),
  (⟨"VillageHallsModel", "bad", "(I)V"⟩, prog_13_method_15_code, 2, none, 1, 0, 0, 2),
  (⟨"VillageHallsModel", "numberTo", "(I)I"⟩, prog_13_method_18_code, 4, (some .int), 1, 3, 63, 2),
  (⟨"VillageHallsModel", "readRule", "(I)V"⟩, prog_13_method_23_code, 6, none, 1, 4, 88, 2),
  (⟨"VillageHallsModel", "isRule", "()Z"⟩, prog_13_method_20_code, 3, (some .boolean), 1, 1, 23, 1),
  (⟨"VillageHallsModel", "useOfWord", "()I"⟩, prog_13_method_19_code, 3, (some .int), 1, 1, 23, 1),
  (⟨"VillageHallsModel", "readFirst", "(I)V"⟩, prog_13_method_22_code, 6, none, 1, 3, 63, 2),
  (⟨"VillageHallsModel", "rankUp", "(III)V"⟩, prog_13_method_21_code, 7, none, 1, 0, 0, 4),
  (⟨"VillageHallsModel", "fault", "()I"⟩, prog_13_method_26_code, 1, (some .int), 1, 0, 0, 1),
  (⟨"VillageHallsModel", "hall", "(II)I"⟩, prog_13_method_28_code, 3, (some .int), 1, 2, 45, 3),
  (⟨"VillageHallsModel", "isHall", "(I)Z"⟩, prog_13_method_27_code, 1, (some .boolean), 0, 1, 25, 1),
  (⟨"VillageHallsModel", "book", "(II)I"⟩, prog_13_method_32_code, 6, (some .int), 1, 2, 45, 3),
  (⟨"VillageHallsModel", "isDay", "(I)Z"⟩, prog_13_method_29_code, 1, (some .boolean), 0, 1, 25, 1),
  (⟨"VillageHallsModel", "cancel", "(II)I"⟩, prog_13_method_33_code, 3, (some .int), 1, 2, 46, 3),
  (⟨"VillageHallsModel", "isBooking", "(I)Z"⟩, prog_13_method_30_code, 2, (some .boolean), 1, 1, 25, 2),
  (⟨"VillageHallsModel", "of", "(II)I"⟩, prog_13_method_31_code, 3, (some .int), 1, 0, 0, 3),
  (⟨"VillageHallsModel", "told", "(II)I"⟩, prog_13_method_35_code, 3, (some .int), 1, 2, 46, 3),
  (⟨"VillageHallsModel", "priceOf", "(I)I"⟩, prog_13_method_34_code, 4, (some .int), 1, 1, 22, 2),
  (⟨"VillageHallsModel", "clash", "(II)I"⟩, prog_13_method_38_code, 3, (some .int), 1, 2, 50, 3),
  (⟨"VillageHallsModel", "isClash", "(II)Z"⟩, prog_13_method_37_code, 3, (some .boolean), 1, 1, 28, 3),
  (⟨"VillageHallsModel", "meets", "(IIIIIII)Z"⟩, prog_13_method_36_code, 9, (some .boolean), 1, 0, 0, 8),
  (⟨"VillageHallsModel", "holding", "(II)I"⟩, prog_13_method_44_code, 6, (some .int), 1, 4, 94, 3),
  (⟨"VillageHallsModel", "holdOn", "(I)I"⟩, prog_13_method_43_code, 9, (some .int), 1, 3, 66, 2),
  (⟨"VillageHallsModel", "isThere", "(II)Z"⟩, prog_13_method_39_code, 3, (some .boolean), 1, 1, 22, 3),
  (⟨"VillageHallsModel", "isAhead", "(II)Z"⟩, prog_13_method_42_code, 4, (some .boolean), 1, 2, 43, 3),
  (⟨"VillageHallsModel", "rankOf", "(I)I"⟩, prog_13_method_41_code, 2, (some .int), 1, 1, 22, 2),
  (⟨"VillageHallsModel", "hasFire", "(III)Z"⟩, prog_13_method_40_code, 4, (some .boolean), 1, 1, 22, 4),
  (⟨"VillageHallsModel", "most", "(IIII)I"⟩, prog_13_method_45_code, 9, (some .int), 1, 2, 50, 5),
  (⟨"VillageHallsModel", "funeral", "(IIIIII)I"⟩, prog_13_method_49_code, 13, (some .int), 1, 4, 94, 7),
  (⟨"VillageHallsModel", "clashing", "(IIIIII)I"⟩, prog_13_method_46_code, 10, (some .int), 1, 1, 28, 7),
  (⟨"VillageHallsModel", "bits", "(I)I"⟩, prog_13_method_47_code, 3, (some .int), 0, 0, 0, 1),
  (⟨"VillageHallsModel", "isFree", "(IIIIIIII)Z"⟩, prog_13_method_48_code, 12, (some .boolean), 1, 2, 45, 9),
  (⟨"VillageHallsModel", "coin", "(IIII)I"⟩, prog_13_method_50_code, 5, (some .int), 1, 2, 45, 5),
  (⟨"VillageHallsModel", "run", "(III)I"⟩, prog_13_method_53_code, 4, (some .int), 1, 3, 67, 4),
  (⟨"VillageHallsModel", "isTime", "(III)Z"⟩, prog_13_method_52_code, 3, (some .boolean), 0, 2, 45, 3),
  (⟨"VillageHallsModel", "runTill", "(II)I"⟩, prog_13_method_51_code, 11, (some .int), 1, 0, 0, 3),
  (⟨"VillageHallsModel", "meter", "(IIII)I"⟩, prog_13_method_54_code, 5, (some .int), 1, 3, 67, 5),
  (⟨"VillageHallsModel", "give", "(IIII)I"⟩, prog_13_method_55_code, 5, (some .int), 1, 2, 45, 5)]
def vh_mt5 : List vh_M := [
  (⟨"VillageHallsModel", "key", "(III)I"⟩, prog_13_method_56_code, 9, (some .int), 1, 2, 45, 4),
  (⟨"VillageHallsModel", "look", "(IIII)I"⟩, prog_13_method_57_code, 5, (some .int), 1, 2, 45, 5),
  (⟨"VillageHallsModel", "home", "(II)I"⟩, prog_13_method_58_code, 10, (some .int), 1, 4, 94, 3),
  (⟨"VillageHallsModel", "meeting", "(IIIII)I"⟩, prog_13_method_59_code, 6, (some .int), 1, 1, 25, 6),
  (⟨"VillageHallsModel", "met", "(II)I"⟩, prog_13_method_61_code, 6, (some .int), 1, 1, 25, 3),
  (⟨"VillageHallsModel", "isValid", "(I)Z"⟩, prog_13_method_60_code, 4, (some .boolean), 1, 0, 0, 2),
  (⟨"VillageHallsModel", "day", "(I)I"⟩, prog_13_method_62_code, 3, (some .int), 1, 2, 45, 2),
  (⟨"VillageHallsModel", "kind", "(I)I"⟩, prog_13_method_65_code, 2, (some .int), 1, 5, 115, 2),
  (⟨"VillageHallsModel", "kindOf", "(I)I"⟩, prog_13_method_63_code, 2, (some .int), 1, 4, 94, 2),
  (⟨"VillageHallsModel", "as", "(II)I"⟩, prog_13_method_66_code, 3, (some .int), 1, 5, 115, 3),
  (⟨"VillageHallsModel", "isOf", "(II)Z"⟩, prog_13_method_64_code, 2, (some .boolean), 0, 0, 0, 2),
  (⟨"VillageHallsModel", "ask", "(II)I"⟩, prog_13_method_71_code, 4, (some .int), 1, 5, 115, 3),
  (⟨"VillageHallsModel", "sizeOf", "(II)I"⟩, prog_13_method_70_code, 3, (some .int), 1, 4, 91, 3),
  (⟨"VillageHallsModel", "sizeHeld", "(II)I"⟩, prog_13_method_68_code, 4, (some .int), 1, 2, 45, 3),
  (⟨"VillageHallsModel", "began", "(I)V"⟩, prog_13_method_67_code, 2, none, 1, 0, 0, 2),
  (⟨"VillageHallsModel", "markOf", "(II)I"⟩, prog_13_method_69_code, 4, (some .int), 1, 3, 68, 3),
  (⟨"VillageHallsModel", "trace", "(I)I"⟩, prog_13_method_72_code, 2, (some .int), 1, 1, 25, 2),
  (⟨"VillageHallsModel", "count", "(I)I"⟩, prog_13_method_73_code, 4, (some .int), 1, 5, 115, 2),
  (⟨"VillageHallsModel", "status", "()I"⟩, prog_13_method_74_code, 1, (some .int), 1, 0, 0, 1)]
def vh_mt : List vh_M := vh_mt0 ++ (vh_mt1 ++ (vh_mt2 ++ (vh_mt3 ++ (vh_mt4 ++ (vh_mt5)))))
def vh_mcL : List Nat := [10, 8, 10, 4, 9, 7, 2, 1, 3, 5, 6, 0, 10, 8, 10, 10, 8, 10, 10, 8, 8, 8, 10, 8, 8, 10, 8, 10, 9, 9, 10, 7, 4, 9, 9, 9, 7, 9, 98, 98, 98, 98, 99, 98, 99, 7, 7, 9, 7, 7, 7, 7, 7, 7, 7, 4, 7, 7, 9, 10, 10, 10, 4, 10, 2, 2, 1, 8, 1, 10, 10, 10, 2, 2, 10, 2, 1, 10, 2, 1, 1, 10, 2, 2, 1, 1, 2, 2, 2, 2, 2, 2, 10, 2, 2, 10, 3, 3, 99, 3, 3, 3, 3, 10, 10, 10, 5, 10, 10, 10, 10, 10, 10, 10, 10, 10, 10, 10, 6, 6, 6, 10, 6, 10, 10, 2, 10, 10, 0, 0, 0, 0, 0, 0, 0, 0, 0, 0, 0, 0, 10, 0, 10, 8, 10, 10, 11, 11, 11, 11, 11, 11, 11, 11, 11, 11, 11, 11, 11, 11, 11, 11, 11, 11, 11, 11, 11, 11, 11, 11, 11, 11, 11, 11, 11, 11, 11, 11, 11, 11, 11, 11, 11, 11, 11, 11, 11, 11, 11, 11, 11, 11, 11, 11, 11, 11, 11, 11, 11, 11, 11, 11, 11, 11, 11, 11, 11, 11, 11, 11, 11, 11, 11, 11, 11, 11, 11, 11, 11]
def vh_lsL : List (List Nat) := [[], [], [], [], [], [], [], [], [], [], [], [], [], [], [], [], [], [], [], [], [], [], [], [], [], [], [], [1], [], [1], [], [], [], [], [], [], [], [], [], [], [], [], [], [], [], [], [], [], [], [], [], [], [], [], [], [], [], [], [], [], [], [], [], [], [], [], [], [], [], [], [], [], [], [], [], [], [], [], [], [], [], [], [], [], [], [], [], [], [], [], [], [], [], [6, 10], [], [], [], [], [], [], [], [], [], [], [], [], [], [], [], [], [], [], [], [], [], [], [], [], [], [], [], [], [], [], [], [], [], [], [], [], [], [], [], [], [], [], [], [], [], [], [], [], [], [], [], [], [], [], [], [0, 2, 4], [], [], [], [], [1], [], [], [], [], [], [], [1], [], [], [], [2], [1], [1], [], [], [], [], [], [], [], [], [], [], [], [], [], [], [], [], [], [], [], [], [], [], [], [], [], [], [], [], [], [3], [], [], [], [], [], [], [], [], [], [], [], [], [], [], [], [], [], [], [], [], []]
