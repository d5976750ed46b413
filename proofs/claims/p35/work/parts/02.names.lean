def RX0 : String := "HouseCalendar$Ballot"
def TX0 : u_T := fun k => match k with
  | 0 => ("HouseCalendar$Ballot", "yes", "I", false)
  | 1 => ("HouseCalendar$Ballot", "no", "I", false)
  | 2 => ("HouseCalendar$Ballot", "kind", "I", false)
  | _ => ("HouseCalendar$Ballot", "carried", "Z", false)
def tyX0 : Nat → FieldType := fun k => match k with
  | 0 => .int
  | 1 => .int
  | 2 => .int
  | _ => .boolean
abbrev wsX00 : List Cond := u_ws RX0 TX0 4
theorem nmX0 : ∀ a, a < 4 → ∀ b, b < 4 → a ≠ b → (TX0 a).2.1 ≠ (TX0 b).2.1 := by decide +kernel
theorem tyX0_ok : ∀ k, k < 4 → parseFieldDescriptor (TX0 k).2.2.1 = some (tyX0 k) := by decide +kernel
def RX1 : String := "HouseCalendar$Bill"
def TX1 : u_T := fun k => match k with
  | 0 => ("HouseCalendar$Bill", "state", "I", false)
  | 1 => ("HouseCalendar$Bill", "names", "I", false)
  | _ => ("HouseCalendar$Bill", "sections", "LHouseCalendar$Sections;", true)
def tyX1 : Nat → FieldType := fun k => match k with
  | 0 => .int
  | 1 => .int
  | _ => .object "HouseCalendar$Sections"
abbrev wsX10 : List Cond := u_ws RX1 TX1 3
theorem nmX1 : ∀ a, a < 3 → ∀ b, b < 3 → a ≠ b → (TX1 a).2.1 ≠ (TX1 b).2.1 := by decide +kernel
theorem tyX1_ok : ∀ k, k < 3 → parseFieldDescriptor (TX1 k).2.2.1 = some (tyX1 k) := by decide +kernel
def RX2 : String := "HouseCalendar$Conference"
def TX2 : u_T := fun k => match k with
  | 0 => ("HouseCalendar$Conference", "row", "[I", true)
  | _ => ("HouseCalendar$Conference", "longest", "[[I", true)
def tyX2 : Nat → FieldType := fun k => match k with
  | 0 => .array .int
  | _ => .array (.array .int)
abbrev wsX20 : List Cond := u_ws RX2 TX2 2
theorem nmX2 : ∀ a, a < 2 → ∀ b, b < 2 → a ≠ b → (TX2 a).2.1 ≠ (TX2 b).2.1 := by decide +kernel
theorem tyX2_ok : ∀ k, k < 2 → parseFieldDescriptor (TX2 k).2.2.1 = some (tyX2 k) := by decide +kernel
def RX3 : String := "HouseCalendar$Foresight"
def TX3 : u_T := fun k => match k with
  | 0 => ("HouseCalendar$Foresight", "told", "LHouseCalendar$Motions;", true)
  | 1 => ("HouseCalendar$Foresight", "drafts", "[LHouseCalendar$Sections;", true)
  | 2 => ("HouseCalendar$Foresight", "places", "[[I", true)
  | 3 => ("HouseCalendar$Foresight", "ballot", "LHouseCalendar$Ballot;", true)
  | 4 => ("HouseCalendar$Foresight", "bestOrder", "I", false)
  | _ => ("HouseCalendar$Foresight", "bestWorth", "I", false)
def tyX3 : Nat → FieldType := fun k => match k with
  | 0 => .object "HouseCalendar$Motions"
  | 1 => .array (.object "HouseCalendar$Sections")
  | 2 => .array (.array .int)
  | 3 => .object "HouseCalendar$Ballot"
  | 4 => .int
  | _ => .int
abbrev wsX30 : List Cond := u_ws RX3 TX3 6
theorem nmX3 : ∀ a, a < 6 → ∀ b, b < 6 → a ≠ b → (TX3 a).2.1 ≠ (TX3 b).2.1 := by decide +kernel
theorem tyX3_ok : ∀ k, k < 6 → parseFieldDescriptor (TX3 k).2.2.1 = some (tyX3 k) := by decide +kernel
def RX4 : String := "HouseCalendar$Machine"
def TX4 : u_T := fun k => match k with
  | 0 => ("HouseCalendar$Machine", "names", "[I", true)
  | _ => ("HouseCalendar$Machine", "stack", "[I", true)
def tyX4 : Nat → FieldType := fun k => match k with
  | 0 => .array .int
  | _ => .array .int
abbrev wsX40 : List Cond := u_ws RX4 TX4 2
theorem nmX4 : ∀ a, a < 2 → ∀ b, b < 2 → a ≠ b → (TX4 a).2.1 ≠ (TX4 b).2.1 := by decide +kernel
theorem tyX4_ok : ∀ k, k < 2 → parseFieldDescriptor (TX4 k).2.2.1 = some (tyX4 k) := by decide +kernel
def RX5 : String := "HouseCalendar$Member"
def TX5 : u_T := fun k => match k with
  | 0 => ("HouseCalendar$Member", "party", "I", false)
  | 1 => ("HouseCalendar$Member", "there", "Z", false)
  | 2 => ("HouseCalendar$Member", "other", "I", false)
  | 3 => ("HouseCalendar$Member", "asked", "I", false)
  | _ => ("HouseCalendar$Member", "likes", "[I", true)
def tyX5 : Nat → FieldType := fun k => match k with
  | 0 => .int
  | 1 => .boolean
  | 2 => .int
  | 3 => .int
  | _ => .array .int
abbrev wsX50 : List Cond := u_ws RX5 TX5 5
theorem nmX5 : ∀ a, a < 5 → ∀ b, b < 5 → a ≠ b → (TX5 a).2.1 ≠ (TX5 b).2.1 := by decide +kernel
theorem tyX5_ok : ∀ k, k < 5 → parseFieldDescriptor (TX5 k).2.2.1 = some (tyX5 k) := by decide +kernel
def RX6 : String := "HouseCalendar$Motions"
def TX6 : u_T := fun k => match k with
  | 0 => ("HouseCalendar$Motions", "size", "I", false)
  | 1 => ("HouseCalendar$Motions", "most", "I", true)
  | 2 => ("HouseCalendar$Motions", "kinds", "[I", true)
  | 3 => ("HouseCalendar$Motions", "movers", "[I", true)
  | 4 => ("HouseCalendar$Motions", "places", "[I", true)
  | _ => ("HouseCalendar$Motions", "words", "[I", true)
def tyX6 : Nat → FieldType := fun k => match k with
  | 0 => .int
  | 1 => .int
  | 2 => .array .int
  | 3 => .array .int
  | 4 => .array .int
  | _ => .array .int
abbrev wsX60 : List Cond := u_ws RX6 TX6 6
theorem nmX6 : ∀ a, a < 6 → ∀ b, b < 6 → a ≠ b → (TX6 a).2.1 ≠ (TX6 b).2.1 := by decide +kernel
theorem tyX6_ok : ∀ k, k < 6 → parseFieldDescriptor (TX6 k).2.2.1 = some (tyX6 k) := by decide +kernel
def RX7 : String := "HouseCalendar$Reader"
def TX7 : u_T := fun k => match k with
  | 0 => ("HouseCalendar$Reader", "tape", "[I", true)
  | 1 => ("HouseCalendar$Reader", "size", "I", false)
  | 2 => ("HouseCalendar$Reader", "at", "I", false)
  | 3 => ("HouseCalendar$Reader", "after", "I", false)
  | 4 => ("HouseCalendar$Reader", "token", "I", false)
  | 5 => ("HouseCalendar$Reader", "number", "I", false)
  | 6 => ("HouseCalendar$Reader", "open", "I", false)
  | 7 => ("HouseCalendar$Reader", "fault", "I", false)
  | _ => ("HouseCalendar$Reader", "into", "LHouseCalendar$Text;", false)
def tyX7 : Nat → FieldType := fun k => match k with
  | 0 => .array .int
  | 1 => .int
  | 2 => .int
  | 3 => .int
  | 4 => .int
  | 5 => .int
  | 6 => .int
  | 7 => .int
  | _ => .object "HouseCalendar$Text"
abbrev wsX70 : List Cond := u_ws RX7 TX7 9
theorem nmX7 : ∀ a, a < 9 → ∀ b, b < 9 → a ≠ b → (TX7 a).2.1 ≠ (TX7 b).2.1 := by decide +kernel
theorem tyX7_ok : ∀ k, k < 9 → parseFieldDescriptor (TX7 k).2.2.1 = some (tyX7 k) := by decide +kernel
def RX8 : String := "HouseCalendar$Sections"
def TX8 : u_T := fun k => match k with
  | 0 => ("HouseCalendar$Sections", "size", "I", false)
  | _ => ("HouseCalendar$Sections", "words", "[I", true)
def tyX8 : Nat → FieldType := fun k => match k with
  | 0 => .int
  | _ => .array .int
abbrev wsX80 : List Cond := u_ws RX8 TX8 2
theorem nmX8 : ∀ a, a < 2 → ∀ b, b < 2 → a ≠ b → (TX8 a).2.1 ≠ (TX8 b).2.1 := by decide +kernel
theorem tyX8_ok : ∀ k, k < 2 → parseFieldDescriptor (TX8 k).2.2.1 = some (tyX8 k) := by decide +kernel
def RX9 : String := "HouseCalendar$Text"
def TX9 : u_T := fun k => match k with
  | 0 => ("HouseCalendar$Text", "code", "[I", true)
  | 1 => ("HouseCalendar$Text", "size", "I", false)
  | _ => ("HouseCalendar$Text", "starts", "[I", true)
def tyX9 : Nat → FieldType := fun k => match k with
  | 0 => .array .int
  | 1 => .int
  | _ => .array .int
abbrev wsX90 : List Cond := u_ws RX9 TX9 3
theorem nmX9 : ∀ a, a < 3 → ∀ b, b < 3 → a ≠ b → (TX9 a).2.1 ≠ (TX9 b).2.1 := by decide +kernel
theorem tyX9_ok : ∀ k, k < 3 → parseFieldDescriptor (TX9 k).2.2.1 = some (tyX9 k) := by decide +kernel
def RX10 : String := "HouseCalendar$Tray"
def TX10 : u_T := fun k => match k with
  | 0 => ("HouseCalendar$Tray", "size", "I", false)
  | _ => ("HouseCalendar$Tray", "bytes", "[I", true)
def tyX10 : Nat → FieldType := fun k => match k with
  | 0 => .int
  | _ => .array .int
abbrev wsX100 : List Cond := u_ws RX10 TX10 2
theorem nmX10 : ∀ a, a < 2 → ∀ b, b < 2 → a ≠ b → (TX10 a).2.1 ≠ (TX10 b).2.1 := by decide +kernel
theorem tyX10_ok : ∀ k, k < 2 → parseFieldDescriptor (TX10 k).2.2.1 = some (tyX10 k) := by decide +kernel
def RX11 : String := "HouseCalendar"
def TX11 : u_T := fun k => match k with
  | 0 => ("HouseCalendar", "members", "[LHouseCalendar$Member;", true)
  | 1 => ("HouseCalendar", "memberCount", "I", false)
  | 2 => ("HouseCalendar", "bills", "[LHouseCalendar$Bill;", true)
  | 3 => ("HouseCalendar", "billCount", "I", false)
  | 4 => ("HouseCalendar", "calendar", "[I", true)
  | 5 => ("HouseCalendar", "calendarSize", "I", false)
  | 6 => ("HouseCalendar", "up", "I", false)
  | 7 => ("HouseCalendar", "noSections", "LHouseCalendar$Sections;", true)
  | 8 => ("HouseCalendar", "pile", "LHouseCalendar$Motions;", true)
  | 9 => ("HouseCalendar", "ahead", "LHouseCalendar$Foresight;", true)
  | 10 => ("HouseCalendar", "texts", "[LHouseCalendar$Text;", true)
  | 11 => ("HouseCalendar", "textCount", "I", false)
  | 12 => ("HouseCalendar", "rule", "I", false)
  | 13 => ("HouseCalendar", "reader", "LHouseCalendar$Reader;", true)
  | 14 => ("HouseCalendar", "machine", "LHouseCalendar$Machine;", true)
  | 15 => ("HouseCalendar", "latest", "LHouseCalendar$Ballot;", true)
  | 16 => ("HouseCalendar", "conference", "LHouseCalendar$Conference;", true)
  | 17 => ("HouseCalendar", "trays", "[LHouseCalendar$Tray;", true)
  | 18 => ("HouseCalendar", "today", "I", false)
  | _ => ("HouseCalendar", "minute", "I", false)
def tyX11 : Nat → FieldType := fun k => match k with
  | 0 => .array (.object "HouseCalendar$Member")
  | 1 => .int
  | 2 => .array (.object "HouseCalendar$Bill")
  | 3 => .int
  | 4 => .array .int
  | 5 => .int
  | 6 => .int
  | 7 => .object "HouseCalendar$Sections"
  | 8 => .object "HouseCalendar$Motions"
  | 9 => .object "HouseCalendar$Foresight"
  | 10 => .array (.object "HouseCalendar$Text")
  | 11 => .int
  | 12 => .int
  | 13 => .object "HouseCalendar$Reader"
  | 14 => .object "HouseCalendar$Machine"
  | 15 => .object "HouseCalendar$Ballot"
  | 16 => .object "HouseCalendar$Conference"
  | 17 => .array (.object "HouseCalendar$Tray")
  | 18 => .int
  | _ => .int
abbrev wsX110 : List Cond := u_ws RX11 TX11 20
theorem nmX11 : ∀ a, a < 20 → ∀ b, b < 20 → a ≠ b → (TX11 a).2.1 ≠ (TX11 b).2.1 := by decide +kernel
theorem tyX11_ok : ∀ k, k < 20 → parseFieldDescriptor (TX11 k).2.2.1 = some (tyX11 k) := by decide +kernel
def RX12 : String := "HouseCalendarModel"
def TX12 : u_T := fun k => match k with
  | 0 => ("HouseCalendarModel", "members", "I", false)
  | 1 => ("HouseCalendarModel", "party", "[I", true)
  | 2 => ("HouseCalendarModel", "like", "[I", true)
  | 3 => ("HouseCalendarModel", "pairOf", "[I", true)
  | 4 => ("HouseCalendarModel", "asked", "[I", true)
  | 5 => ("HouseCalendarModel", "isThere", "[Z", true)
  | 6 => ("HouseCalendarModel", "bills", "I", false)
  | 7 => ("HouseCalendarModel", "how", "[I", true)
  | 8 => ("HouseCalendarModel", "sections", "[I", true)
  | 9 => ("HouseCalendarModel", "words", "[I", true)
  | 10 => ("HouseCalendarModel", "names", "[I", true)
  | 11 => ("HouseCalendarModel", "listed", "I", false)
  | 12 => ("HouseCalendarModel", "calendar", "[I", true)
  | 13 => ("HouseCalendarModel", "up", "I", false)
  | 14 => ("HouseCalendarModel", "texts", "I", false)
  | 15 => ("HouseCalendarModel", "rule", "I", false)
  | 16 => ("HouseCalendarModel", "day", "I", false)
  | 17 => ("HouseCalendarModel", "minute", "I", false)
  | 18 => ("HouseCalendarModel", "piled", "I", false)
  | 19 => ("HouseCalendarModel", "foretold", "I", false)
  | 20 => ("HouseCalendarModel", "kind", "[I", true)
  | 21 => ("HouseCalendarModel", "mover", "[I", true)
  | 22 => ("HouseCalendarModel", "place", "[I", true)
  | 23 => ("HouseCalendarModel", "word", "[I", true)
  | 24 => ("HouseCalendarModel", "isBehind", "[Z", true)
  | 25 => ("HouseCalendarModel", "lastYes", "I", false)
  | 26 => ("HouseCalendarModel", "lastNo", "I", false)
  | 27 => ("HouseCalendarModel", "lastKind", "I", false)
  | 28 => ("HouseCalendarModel", "lastCarried", "I", false)
  | 29 => ("HouseCalendarModel", "tape", "[I", true)
  | 30 => ("HouseCalendarModel", "taped", "I", false)
  | 31 => ("HouseCalendarModel", "op", "[I", true)
  | 32 => ("HouseCalendarModel", "value", "[I", true)
  | 33 => ("HouseCalendarModel", "part", "[I", true)
  | 34 => ("HouseCalendarModel", "trayMany", "[I", true)
  | 35 => ("HouseCalendarModel", "cells", "[I", true)
  | 36 => ("HouseCalendarModel", "first", "[I", true)
  | 37 => ("HouseCalendarModel", "known", "[I", true)
  | 38 => ("HouseCalendarModel", "textSize", "I", false)
  | 39 => ("HouseCalendarModel", "reading", "I", false)
  | 40 => ("HouseCalendarModel", "at", "I", false)
  | 41 => ("HouseCalendarModel", "begin", "I", false)
  | 42 => ("HouseCalendarModel", "token", "I", false)
  | 43 => ("HouseCalendarModel", "told", "I", false)
  | 44 => ("HouseCalendarModel", "wrong", "I", false)
  | 45 => ("HouseCalendarModel", "open", "I", false)
  | 46 => ("HouseCalendarModel", "codes", "I", false)
  | 47 => ("HouseCalendarModel", "pile", "[I", true)
  | 48 => ("HouseCalendarModel", "ofKind", "I", false)
  | 49 => ("HouseCalendarModel", "ofParty", "I", false)
  | 50 => ("HouseCalendarModel", "ofDepth", "I", false)
  | 51 => ("HouseCalendarModel", "ofYes", "I", false)
  | 52 => ("HouseCalendarModel", "ofNo", "I", false)
  | 53 => ("HouseCalendarModel", "many", "I", false)
  | 54 => ("HouseCalendarModel", "row", "[I", true)
  | 55 => ("HouseCalendarModel", "keptKind", "[I", true)
  | 56 => ("HouseCalendarModel", "keptPlace", "[I", true)
  | 57 => ("HouseCalendarModel", "keptWord", "[I", true)
  | _ => ("HouseCalendarModel", "longest", "[I", true)
def tyX12 : Nat → FieldType := fun k => match k with
  | 0 => .int
  | 1 => .array .int
  | 2 => .array .int
  | 3 => .array .int
  | 4 => .array .int
  | 5 => .array .boolean
  | 6 => .int
  | 7 => .array .int
  | 8 => .array .int
  | 9 => .array .int
  | 10 => .array .int
  | 11 => .int
  | 12 => .array .int
  | 13 => .int
  | 14 => .int
  | 15 => .int
  | 16 => .int
  | 17 => .int
  | 18 => .int
  | 19 => .int
  | 20 => .array .int
  | 21 => .array .int
  | 22 => .array .int
  | 23 => .array .int
  | 24 => .array .boolean
  | 25 => .int
  | 26 => .int
  | 27 => .int
  | 28 => .int
  | 29 => .array .int
  | 30 => .int
  | 31 => .array .int
  | 32 => .array .int
  | 33 => .array .int
  | 34 => .array .int
  | 35 => .array .int
  | 36 => .array .int
  | 37 => .array .int
  | 38 => .int
  | 39 => .int
  | 40 => .int
  | 41 => .int
  | 42 => .int
  | 43 => .int
  | 44 => .int
  | 45 => .int
  | 46 => .int
  | 47 => .array .int
  | 48 => .int
  | 49 => .int
  | 50 => .int
  | 51 => .int
  | 52 => .int
  | 53 => .int
  | 54 => .array .int
  | 55 => .array .int
  | 56 => .array .int
  | 57 => .array .int
  | _ => .array .int
abbrev wsX120 : List Cond := u_ws RX12 TX12 59
theorem nmX12 : ∀ a, a < 59 → ∀ b, b < 59 → a ≠ b → (TX12 a).2.1 ≠ (TX12 b).2.1 := by decide +kernel
theorem tyX12_ok : ∀ k, k < 59 → parseFieldDescriptor (TX12 k).2.2.1 = some (tyX12 k) := by decide +kernel
abbrev vwCl : List vw_C := [(RX0, TX0, 4), (RX1, TX1, 3), (RX2, TX2, 2), (RX3, TX3, 6), (RX4, TX4, 2), (RX5, TX5, 5), (RX6, TX6, 6), (RX7, TX7, 9), (RX8, TX8, 2), (RX9, TX9, 3), (RX10, TX10, 2), (RX11, TX11, 20), (RX12, TX12, 59)]
def jv_G : List Cond := lw_tbl.filter goodWord
theorem jv_G_in {w : Cond} (h : w ∈ jv_G) : w ∈ lw_tbl ∧ goodWord w = true := List.mem_filter.mp h
theorem jv_G_at (i : Nat) {w : Cond} (h : (decide (lw_tbl[i]? = some w) && goodWord w) = true) : w ∈ jv_G := by
  rw [Bool.and_eq_true, decide_eq_true_eq] at h
  exact List.mem_filter.mpr ⟨List.mem_of_getElem? h.1, h.2⟩
theorem jv_G_ps {ws : List Cond} (ps : List Nat) (h : (decide (ws = ps.filterMap (fun i => lw_tbl[i]?)) && ws.all goodWord) = true) : ∀ w ∈ ws, w ∈ jv_G := by
  rw [Bool.and_eq_true, decide_eq_true_eq] at h
  intro w hw
  refine List.mem_filter.mpr ⟨?_, List.all_eq_true.mp h.2 w hw⟩
  rw [h.1] at hw
  obtain ⟨i, -, hi⟩ := List.mem_filterMap.mp hw
  exact List.mem_of_getElem? hi
theorem jv_inX0 : ∀ w ∈ wsX00, w ∈ jv_G := jv_G_ps [229, 231, 233, 235] (by decide +kernel)
theorem jv_mkX0 : Cond.instantiable RX0 4 ∈ jv_G := jv_G_at 219 (by decide +kernel)
theorem jv_iniX0 : Cond.initialized RX0 ∈ jv_G := jv_G_at 89 (by decide +kernel)
theorem jv_inX1 : ∀ w ∈ wsX10, w ∈ jv_G := jv_G_ps [165, 167, 169] (by decide +kernel)
theorem jv_mkX1 : Cond.instantiable RX1 3 ∈ jv_G := jv_G_at 139 (by decide +kernel)
theorem jv_iniX1 : Cond.initialized RX1 ∈ jv_G := jv_G_at 85 (by decide +kernel)
theorem jv_inX2 : ∀ w ∈ wsX20, w ∈ jv_G := jv_G_ps [344, 346] (by decide +kernel)
theorem jv_mkX2 : Cond.instantiable RX2 2 ∈ jv_G := jv_G_at 335 (by decide +kernel)
theorem jv_iniX2 : Cond.initialized RX2 ∈ jv_G := jv_G_at 93 (by decide +kernel)
theorem jv_inX3 : ∀ w ∈ wsX30, w ∈ jv_G := jv_G_ps [250, 252, 254, 256, 258, 260] (by decide +kernel)
theorem jv_mkX3 : Cond.instantiable RX3 6 ∈ jv_G := jv_G_at 207 (by decide +kernel)
theorem jv_iniX3 : Cond.initialized RX3 ∈ jv_G := jv_G_at 88 (by decide +kernel)
theorem jv_inX4 : ∀ w ∈ wsX40, w ∈ jv_G := jv_G_ps [327, 329] (by decide +kernel)
theorem jv_mkX4 : Cond.instantiable RX4 2 ∈ jv_G := jv_G_at 320 (by decide +kernel)
theorem jv_iniX4 : Cond.initialized RX4 ∈ jv_G := jv_G_at 92 (by decide +kernel)
theorem jv_inX5 : ∀ w ∈ wsX50, w ∈ jv_G := jv_G_ps [125, 127, 129, 131, 133] (by decide +kernel)
theorem jv_mkX5 : Cond.instantiable RX5 5 ∈ jv_G := jv_G_at 112 (by decide +kernel)
theorem jv_iniX5 : Cond.initialized RX5 ∈ jv_G := jv_G_at 84 (by decide +kernel)
theorem jv_inX6 : ∀ w ∈ wsX60, w ∈ jv_G := jv_G_ps [193, 195, 197, 199, 201, 203] (by decide +kernel)
theorem jv_mkX6 : Cond.instantiable RX6 6 ∈ jv_G := jv_G_at 175 (by decide +kernel)
theorem jv_iniX6 : Cond.initialized RX6 ∈ jv_G := jv_G_at 87 (by decide +kernel)
theorem jv_inX7 : ∀ w ∈ wsX70, w ∈ jv_G := jv_G_ps [300, 302, 304, 306, 308, 310, 312, 314, 316] (by decide +kernel)
theorem jv_mkX7 : Cond.instantiable RX7 9 ∈ jv_G := jv_G_at 285 (by decide +kernel)
theorem jv_iniX7 : Cond.initialized RX7 ∈ jv_G := jv_G_at 91 (by decide +kernel)
theorem jv_inX8 : ∀ w ∈ wsX80, w ∈ jv_G := jv_G_ps [155, 157] (by decide +kernel)
theorem jv_mkX8 : Cond.instantiable RX8 2 ∈ jv_G := jv_G_at 145 (by decide +kernel)
theorem jv_iniX8 : Cond.initialized RX8 ∈ jv_G := jv_G_at 86 (by decide +kernel)
theorem jv_inX9 : ∀ w ∈ wsX90, w ∈ jv_G := jv_G_ps [277, 279, 281] (by decide +kernel)
theorem jv_mkX9 : Cond.instantiable RX9 3 ∈ jv_G := jv_G_at 265 (by decide +kernel)
theorem jv_iniX9 : Cond.initialized RX9 ∈ jv_G := jv_G_at 90 (by decide +kernel)
theorem jv_inX10 : ∀ w ∈ wsX100, w ∈ jv_G := jv_G_ps [360, 362] (by decide +kernel)
theorem jv_mkX10 : Cond.instantiable RX10 2 ∈ jv_G := jv_G_at 351 (by decide +kernel)
theorem jv_iniX10 : Cond.initialized RX10 ∈ jv_G := jv_G_at 94 (by decide +kernel)
theorem jv_inX11 : ∀ w ∈ wsX110, w ∈ jv_G := jv_G_ps [517, 519, 521, 523, 525, 527, 529, 531, 533, 535, 537, 539, 541, 543, 545, 547, 549, 551, 553, 555] (by decide +kernel)
theorem jv_mkX11 : Cond.instantiable RX11 20 ∈ jv_G := jv_G_at 103 (by decide +kernel)
theorem jv_iniX11 : Cond.initialized RX11 ∈ jv_G := jv_G_at 83 (by decide +kernel)
theorem jv_inX12 : ∀ w ∈ wsX120, w ∈ jv_G := jv_G_ps [1071, 1073, 1075, 1077, 1079, 1081, 1083, 1085, 1087, 1089, 1091, 1093, 1095, 1097, 1099, 1101, 1103, 1105, 1107, 1109, 1111, 1113, 1115, 1117, 1119, 1121, 1123, 1125, 1127, 1129, 1131, 1133, 1135, 1137, 1139, 1141, 1143, 1145, 1147, 1149, 1151, 1153, 1155, 1157, 1159, 1161, 1163, 1165, 1167, 1169, 1171, 1173, 1175, 1177, 1179, 1181, 1183, 1185, 1187] (by decide +kernel)
theorem jv_mkX12 : Cond.instantiable RX12 59 ∈ jv_G := jv_G_at 937 (by decide +kernel)
theorem jv_iniX12 : Cond.initialized RX12 ∈ jv_G := jv_G_at 99 (by decide +kernel)
