def jv_nest : List Cond := [.methodLinkNest "HouseCalendar" 15 ⟨"HouseCalendar$Member", "<init>", "()V"⟩ "HouseCalendar", .methodLinkNest "HouseCalendar" 22 ⟨"HouseCalendar$Bill", "<init>", "()V"⟩ "HouseCalendar", .methodLinkNest "HouseCalendar$Bill" 17 ⟨"HouseCalendar$Sections", "<init>", "()V"⟩ "HouseCalendar", .methodLinkNest "HouseCalendar" 33 ⟨"HouseCalendar$Sections", "<init>", "()V"⟩ "HouseCalendar", .methodLinkNest "HouseCalendar$Foresight" 33 ⟨"HouseCalendar$Ballot", "<init>", "()V"⟩ "HouseCalendar", .methodLinkNest "HouseCalendar$Foresight" 38 ⟨"HouseCalendar$Sections", "<init>", "()V"⟩ "HouseCalendar", .methodLinkNest "HouseCalendar" 60 ⟨"HouseCalendar$Text", "<init>", "()V"⟩ "HouseCalendar", .methodLinkNest "HouseCalendar" 63 ⟨"HouseCalendar$Reader", "<init>", "()V"⟩ "HouseCalendar", .methodLinkNest "HouseCalendar" 70 ⟨"HouseCalendar$Machine", "<init>", "()V"⟩ "HouseCalendar", .methodLinkNest "HouseCalendar" 77 ⟨"HouseCalendar$Ballot", "<init>", "()V"⟩ "HouseCalendar", .methodLinkNest "HouseCalendar" 84 ⟨"HouseCalendar$Conference", "<init>", "()V"⟩ "HouseCalendar", .methodLinkNest "HouseCalendar" 95 ⟨"HouseCalendar$Tray", "<init>", "()V"⟩ "HouseCalendar"]
theorem jv_nest_in : ∀ w ∈ jv_nest, w ∈ tables_1 := by
  have h : jv_nest = [31, 58, 64, 91, 138, 156, 184, 204, 239, 251, 254, 270].filterMap (fun i => tables_1[i]?) := by decide +kernel
  intro w hw
  rw [h] at hw
  obtain ⟨i, -, hi⟩ := List.mem_filterMap.mp hw
  exact List.mem_of_getElem? hi
def jv_tw (t : Nat) (w : Cond) : Bool := decide (lw_tbl[t]? = some w) && goodWord w
theorem jv_tw_in {t : Nat} {w : Cond} (h : jv_tw t w = true) : w ∈ jv_G := jv_G_at t h
def jv_lk (M : jv_MI) (e : jv_E) : Bool := match e with
  | (pc, i, n, a, b, t, u, z) => match i with
  | .iconst m => n == 1 && decide (Int32.ofInt m = Int32.ofInt z)
  | .bipush m => n == 2 && decide ((Int8.ofInt m).toInt32 = Int32.ofInt z)
  | .sipush m => n == 3 && decide ((Int16.ofInt m).toInt32 = Int32.ofInt z)
  | .ldc ix => n == 2 && (if a = 0 then jv_tw t (.constant M.1 ix (Int32.ofInt z)) else (u == 1 && decide (M.1 = "HouseCalendar") && ix == 96) || (u == 2 && decide (M.1 = "HouseCalendar$Reader") && ix == 104))
  | .ldc_w ix => n == 3 && jv_tw t (.constant M.1 ix (Int32.ofInt z))
  | .ldc2_w ix => n == 3 && jv_tw t (.constantLong M.1 ix (Int64.ofInt z))
  | .iload _ => n == 2
  | .aload _ => n == 2
  | .istore _ => n == 2
  | .astore _ => n == 2
  | .iinc _ _ => n == 3
  | .goto off => n == 3 && decide ((pc : Int) + off = (a : Int))
  | .ifCond _ off => n == 3 && decide ((pc : Int) + off = (a : Int))
  | .if_icmp _ off => n == 3 && decide ((pc : Int) + off = (a : Int))
  | .tableswitch d _ _ offs => decide (0 ≤ (pc : Int) + d) && offs.all (fun o => decide (0 ≤ (pc : Int) + o))
  | .getfield ix => n == 3 && (if a = 20 then (if b = 0 then jv_tw t (.fieldLink M.1 ix "java/lang/String" "value" "[B") else jv_tw t (.fieldLink M.1 ix "java/lang/String" "coder" "B")) else match vwCl[a]? with
    | some r => decide (b < r.2.2) && jv_tw t (.fieldLink M.1 ix (r.2.1 b).1 (r.2.1 b).2.1 (r.2.1 b).2.2.1)
    | none => false)
  | .putfield ix => n == 3 && (match vwCl[a]? with
    | some r => decide (b < r.2.2) && jv_tw t (.fieldLink M.1 ix (r.2.1 b).1 (r.2.1 b).2.1 (r.2.1 b).2.2.1) && (!(r.2.1 b).2.2.2 || (decide (M.2.1.name = "<init>") && decide ((r.2.1 b).1 = M.1)))
    | none => false)
  | .getstatic ix => n == 3 && (if a = 0 then jv_tw t (.fieldLink M.1 ix "java/lang/String" "COMPACT_STRINGS" "Z") else if a = 1 then jv_tw t (.fieldLink M.1 ix "jdk/internal/util/Preconditions" "SIOOBE_FORMATTER" "Ljava/util/function/BiFunction;") else true)
  | .new ix => n == 3 && (match vwCl[a]? with
    | some r => jv_tw t (.classLink M.1 ix r.1)
    | none => false)
  | .newarray ty => n == 2 && (a == 13 || a == 14) && decide (Jvm.Op.newarray.typeOf ty = jv_aty a)
  | .anewarray ix => n == 3 && decide (16 ≤ a) && decide (a < 21) && (match vwCl[jv_el a]? with
    | some r => jv_tw t (.classLink M.1 ix r.1) && decide (jv_aty a = .object r.1)
    | none => false)
  | .multianewarray ix d => n == 4 && d == 2 && jv_tw t (.classLink M.1 ix "[[I")
  | .invokevirtual ix => n == 3 && (match jv_P[a]? with
    | some N => jv_tw t (.methodLink M.1 ix N.2.1) && !N.2.2.2.2.2.1 && decide ((parseMethodDescriptor N.2.1.desc).map (fun d => d.parameters.length) = some z.toNat) && decide (N.2.1.name ≠ "<init>") && (match vwCl[u]? with
      | some r => decide (N.1 = r.1)
      | none => u == 20 && decide (N.1 = "java/lang/String"))
    | none => a == 9999)
  | .invokestatic ix => n == 3 && (if b = 7 then jv_tw t (.methodLink M.1 ix Jvm.Lib.Math.max.name) else match jv_P[a]? with
    | some N => jv_tw t (.methodLink M.1 ix N.2.1) && N.2.2.2.2.2.1 && decide ((parseMethodDescriptor N.2.1.desc).map (fun d => d.parameters.length) = some z.toNat)
    | none => a == 9999)
  | .invokespecial ix => n == 3 && (if b = 4 then jv_tw t (.methodLink M.1 ix Jvm.Lib.objectInit) && z == 0 else match jv_P[a]? with
    | some N => ((b == 2 && jv_tw t (.methodLink M.1 ix N.2.1)) || (b == 3 && decide (Cond.methodLinkNest M.1 ix N.2.1 "HouseCalendar" ∈ jv_nest))) && !N.2.2.2.2.2.1 && decide (N.2.2.2.2.1 = none) && decide (N.2.1.name = "<init>") && decide ((parseMethodDescriptor N.2.1.desc).map (fun d => d.parameters.length) = some z.toNat)
    | none => false)
  | _ => n == 1
theorem jv_maxw : (Cond.static Jvm.Lib.Math.max.name ∈ jv_G ∧ Cond.initialized "java/lang/Math" ∈ jv_G) ∧ Cond.code Jvm.Lib.Math.max.name Jvm.Lib.Math.max.code 2 (some .int) ∈ jv_G := ⟨⟨jv_tw_in (t := 887) (by decide +kernel), jv_tw_in (t := 101) (by decide +kernel)⟩, jv_tw_in (t := 888) (by decide +kernel)⟩
theorem jv_objw : Cond.instanceMethod Jvm.Lib.objectInit ∈ jv_G ∧ Cond.code Jvm.Lib.objectInit ⟨#[0xb1]⟩ 1 none ∈ jv_G := ⟨jv_tw_in (t := 108) (by decide +kernel), jv_tw_in (t := 109) (by decide +kernel)⟩
theorem jv_arrw : Cond.arrayClass .int ∈ jv_G ∧ Cond.arrayClass .boolean ∈ jv_G := ⟨jv_tw_in (t := 136) (by decide +kernel), jv_tw_in (t := 1190) (by decide +kernel)⟩
def jv_eok (M : jv_MI) (e : jv_E) : Bool := decide (decode M.2.2.1 e.1 = .ok (e.2.1, e.2.2.1)) && jv_lk M e
def jv_ok (M : jv_MI) : Bool := M.2.2.2.2.2.2.all (jv_eok M)
/-- a method's own words: its code, static or of an object, its class initialised; selected, where it is called by objects -/
def jv_mk (M : jv_MI) (t1 t2 t3 t4 : Nat) : Bool := jv_tw t1 (.code M.2.1 M.2.2.1 M.2.2.2.1 M.2.2.2.2.1) && (if M.2.2.2.2.2.1 = true then jv_tw t2 (.static M.2.1) else jv_tw t2 (.instanceMethod M.2.1)) && jv_tw t3 (.initialized M.2.1.cls) && (M.2.2.2.2.2.1 || decide (M.2.1.name = "<init>") || jv_tw t4 (.selects M.2.1.cls M.2.1 M.2.1)) && decide (M.2.2.2.1 ≤ 20) && plainName M.2.1.cls && decide (M.1 = M.2.1.cls) && decide (M.2.1.cls ≠ "java/lang/invoke/MethodHandle") && decide (M.2.1.cls ≠ "java/lang/invoke/VarHandle")
