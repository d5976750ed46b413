/-! A SMALL MACHINE: the instructions that the class, the reference and the law use, over a heap of numbered cells; sound for the machine of the Statement (part 05) -/
/-- an instruction: its place, itself, its length, four numbers for its links (kind or callee or target, field or way, place of its word, second kind) and an int (a constant, how many arguments) -/
abbrev jv_E : Type := Nat × Jvm.ClassFile.Instr × Nat × Nat × Nat × Nat × Nat × Int
/-- a method: class, name, bytes, locals, return type, static, code -/
abbrev jv_MI : Type := String × MethodName × ByteArray × Nat × Option FieldType × Bool × List jv_E
abbrev jv_L : Type := List (Option Value)
def jv_aty : Nat → FieldType := fun k => match k with
  | 13 => .int
  | 14 => .boolean
  | 15 => .array .int
  | 16 => .object "HouseCalendar$Member"
  | 17 => .object "HouseCalendar$Bill"
  | 18 => .object "HouseCalendar$Sections"
  | 19 => .object "HouseCalendar$Text"
  | _ => .object "HouseCalendar$Tray"
/-- the kind of what an array of references holds -/
def jv_el : Nat → Nat := fun k => match k with
  | 16 => 5
  | 17 => 1
  | 18 => 8
  | 19 => 9
  | 20 => 10
  | _ => 99
def jv_nf (a : Nat) : Nat := match vwCl[a]? with | some r => r.2.2 | none => 0
def jv_fty (a b : Nat) : FieldType := match a with
  | 0 => tyX0 b
  | 1 => tyX1 b
  | 2 => tyX2 b
  | 3 => tyX3 b
  | 4 => tyX4 b
  | 5 => tyX5 b
  | 6 => tyX6 b
  | 7 => tyX7 b
  | 8 => tyX8 b
  | 9 => tyX9 b
  | 10 => tyX10 b
  | 11 => tyX11 b
  | _ => tyX12 b
/-- the two String constants' bytes -/
def jv_s1 : List Int32 := [114, 97, 110, 107, 32, 107, 105, 110, 100, 32, 59, 32, 109, 97, 121, 32, 49, 32, 59, 32, 112, 97, 115, 115, 32, 110, 111, 32, 60, 32, 121, 101, 115, 32, 59, 32, 113, 117, 111, 114, 117, 109, 32, 109, 101, 109, 98, 101, 114, 115, 32, 60, 32, 116, 104, 101, 114, 101, 32, 43, 32, 116, 104, 101, 114, 101, 32, 59]
def jv_s2 : List Int32 := [107, 105, 110, 100, 32, 32, 32, 32, 100, 101, 112, 116, 104, 32, 32, 32, 109, 105, 110, 117, 116, 101, 32, 32, 112, 97, 114, 116, 121, 32, 32, 32, 116, 104, 101, 114, 101, 32, 32, 32, 109, 101, 109, 98, 101, 114, 115, 32, 121, 101, 115, 32, 32, 32, 32, 32, 110, 111, 32, 32, 32, 32, 32, 32, 114, 97, 110, 107, 32, 32, 32, 32, 109, 97, 121, 32, 32, 32, 32, 32, 112, 97, 115, 115, 32, 32, 32, 32, 113, 117, 111, 114, 117, 109, 32, 32, 111, 114, 32, 32, 32, 32, 32, 32, 97, 110, 100, 32, 32, 32, 32, 32, 110, 111, 116, 32, 32, 32, 32, 32]
