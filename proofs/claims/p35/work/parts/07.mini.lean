/-! the small machine's steps -/
/-- a heap's operations: cells, slots in all, kind and length of a cell, a slot read, a slot written, a cell made, a grid made -/
abbrev jv_Ops (η : Type) : Type := (η → Nat) × (η → Nat) × (η → Nat → Nat × Nat) × (η → Nat → Nat → Value) × (η → Nat → Nat → Value → Option η) × (η → Nat → Nat → (Nat → Value) → Option η) × (η → Nat → Nat → Option η)
abbrev jv_O (η : Type) : Type := Option ((Nat × jv_L × List Value × η) ⊕ (Option Value) ⊕ (Nat × Nat × List Value × List Value))
/-- what is there from the start: the script's length and ints, what the static SIOOBE_FORMATTER holds -/
abbrev jv_X : Type := (Nat × (Nat → Int32)) × Value
section
variable {η : Type}
def jv_go (pc : Nat) (ls : jv_L) (st : List Value) (h : η) : jv_O η := some (.inl (pc, ls, st, h))
def jv_i1 (st : List Value) (f : Int32 → List Value → jv_O η) : jv_O η := match st with
  | .int x :: r => f x r
  | _ => none
def jv_i2 (st : List Value) (f : Int32 → Int32 → List Value → jv_O η) : jv_O η := match st with
  | .int y :: .int x :: r => f x y r
  | _ => none
def jv_l1 (st : List Value) (f : Int64 → List Value → jv_O η) : jv_O η := match st with
  | .long x :: r => f x r
  | _ => none
def jv_l2 (st : List Value) (f : Int64 → Int64 → List Value → jv_O η) : jv_O η := match st with
  | .long y :: .long x :: r => f x y r
  | _ => none
def jv_li (st : List Value) (f : Int64 → Int32 → List Value → jv_O η) : jv_O η := match st with
  | .int y :: .long x :: r => f x y r
  | _ => none
def jv_r1 (st : List Value) (f : Nat → List Value → jv_O η) : jv_O η := match st with
  | .ref c :: r => f c r
  | _ => none
def jv_vr (st : List Value) (f : Value → Nat → List Value → jv_O η) : jv_O η := match st with
  | v :: .ref c :: r => f v c r
  | _ => none
def jv_ri (st : List Value) (f : Nat → Int32 → List Value → jv_O η) : jv_O η := match st with
  | .int i :: .ref c :: r => f c i r
  | _ => none
def jv_rii (st : List Value) (f : Nat → Int32 → Int32 → List Value → jv_O η) : jv_O η := match st with
  | .int x :: .int i :: .ref c :: r => f c i x r
  | _ => none
def jv_rir (st : List Value) (f : Nat → Int32 → Nat → List Value → jv_O η) : jv_O η := match st with
  | .ref x :: .int i :: .ref c :: r => f c i x r
  | _ => none
def jv_c1 (v : Value) : Bool := match v with
  | .long _ => false
  | .double _ => false
  | _ => true
/-- a local's place is free of the second half of a long -/
def jv_fr (ls : jv_L) (i : Nat) : Bool := match i with
  | 0 => true
  | j + 1 => match ls[j]? with
    | some (some (.long _)) => false
    | some (some (.double _)) => false
    | _ => true
def jv_st (ls : jv_L) (i : Nat) (v : Value) (f : jv_L → jv_O η) : jv_O η := if i < ls.length ∧ jv_fr ls i = true then f (ls.set i (some v)) else none
def jv_ild (ls : jv_L) (i : Nat) (f : Int32 → jv_O η) : jv_O η := match ls[i]? with
  | some (some (.int x)) => f x
  | _ => none
def jv_lld (ls : jv_L) (i : Nat) (f : Int64 → jv_O η) : jv_O η := match ls[i]? with
  | some (some (.long x)) => f x
  | _ => none
def jv_ald (ls : jv_L) (i : Nat) (f : Nat → jv_O η) : jv_O η := match ls[i]? with
  | some (some (.ref x)) => f x
  | _ => none
def jv_jmp (c : Bool) (t n : Nat) : Nat := match c with | true => t | false => n
def jv_in (i : Int32) (n : Nat) : Bool := !(decide (i < 0) || decide (n ≤ i.toNatClampNeg))
def jv_fit (ty : FieldType) (v : Value) : Bool := match ty, v with
  | .int, .int _ => true
  | .boolean, .int x => x == 0 || x == 1
  | .object _, .ref _ => true
  | .array _, .ref _ => true
  | _, _ => false
def jv_rn (ty : FieldType) (x : Int32) : Bool := match ty with
  | .int => true
  | .boolean => x == 0 || x == 1
  | .byte => x.toInt8.toInt32 == x
  | .char => x.toUInt32.toUInt16.toUInt32.toInt32 == x
  | _ => false
def jv_pop : Nat → List Value → Option (List Value × List Value)
  | 0, st => some ([], st)
  | n + 1, st => match st with
    | v :: r => match jv_pop n r with
      | some (a, r') => some (a ++ [v], r')
      | none => none
    | [] => none
def jv_w8 (r : List Value) : Bool := decide ((r.map fun v => v.category).sum ≤ 8)
/-- reading a place of a row of ints -/
def jv_sb (k : Nat) : List Int32 := if k = 1000003 then jv_s1 else jv_s2
def jv_nxt (O : jv_Ops η) (G : jv_X) (M : jv_MI) (e : jv_E) (ls : jv_L) (st : List Value) (h : η) : jv_O η :=
  match e with
  | (pc, i, n, a, b, _, u, z) => match i with
  | .iconst _ => jv_go (pc + n) ls (.int (Int32.ofInt z) :: st) h
  | .bipush _ => jv_go (pc + n) ls (.int (Int32.ofInt z) :: st) h
  | .sipush _ => jv_go (pc + n) ls (.int (Int32.ofInt z) :: st) h
  | .ldc _ => if a = 0 then jv_go (pc + n) ls (.int (Int32.ofInt z) :: st) h else jv_go (pc + n) ls (.ref (1000000 + u) :: st) h
  | .ldc_w _ => jv_go (pc + n) ls (.int (Int32.ofInt z) :: st) h
  | .ldc2_w _ => jv_go (pc + n) ls (.long (Int64.ofInt z) :: st) h
  | .iload k => jv_ild ls k fun x => jv_go (pc + n) ls (.int x :: st) h
  | .iload_n k => jv_ild ls k.val fun x => jv_go (pc + n) ls (.int x :: st) h
  | .lload_n k => jv_lld ls k.val fun x => jv_go (pc + n) ls (.long x :: st) h
  | .aload k => jv_ald ls k fun x => jv_go (pc + n) ls (.ref x :: st) h
  | .aload_n k => jv_ald ls k.val fun x => jv_go (pc + n) ls (.ref x :: st) h
  | .istore k => jv_i1 st fun x r => jv_st ls k (.int x) fun l => jv_go (pc + n) l r h
  | .istore_n k => jv_i1 st fun x r => jv_st ls k.val (.int x) fun l => jv_go (pc + n) l r h
  | .astore k => jv_r1 st fun x r => jv_st ls k (.ref x) fun l => jv_go (pc + n) l r h
  | .astore_n k => jv_r1 st fun x r => jv_st ls k.val (.ref x) fun l => jv_go (pc + n) l r h
  | .iinc k d => jv_ild ls k fun x => jv_st ls k (.int (x + Int32.ofInt d)) fun l => jv_go (pc + n) l st h
  | .iadd => jv_i2 st fun x y r => jv_go (pc + n) ls (.int (x + y) :: r) h
  | .isub => jv_i2 st fun x y r => jv_go (pc + n) ls (.int (x - y) :: r) h
  | .imul => jv_i2 st fun x y r => jv_go (pc + n) ls (.int (x * y) :: r) h
  | .idiv => jv_i2 st fun x y r => if y = 0 then none else jv_go (pc + n) ls (.int (x / y) :: r) h
  | .irem => jv_i2 st fun x y r => if y = 0 then none else jv_go (pc + n) ls (.int (x - x / y * y) :: r) h
  | .ineg => jv_i1 st fun x r => jv_go (pc + n) ls (.int (-x) :: r) h
  | .iand => jv_i2 st fun x y r => jv_go (pc + n) ls (.int (x &&& y) :: r) h
  | .ior => jv_i2 st fun x y r => jv_go (pc + n) ls (.int (x ||| y) :: r) h
  | .ishl => jv_i2 st fun x y r => jv_go (pc + n) ls (.int (x <<< (y &&& 31)) :: r) h
  | .ishr => jv_i2 st fun x y r => jv_go (pc + n) ls (.int (x >>> (y &&& 31)) :: r) h
  | .iushr => jv_i2 st fun x y r => jv_go (pc + n) ls (.int ((x.toUInt32 >>> (y.toUInt32 &&& Int32.toUInt32 31)).toInt32) :: r) h
  | .land => jv_l2 st fun x y r => jv_go (pc + n) ls (.long (x &&& y) :: r) h
  | .lor => jv_l2 st fun x y r => jv_go (pc + n) ls (.long (x ||| y) :: r) h
  | .lshl => jv_li st fun x y r => jv_go (pc + n) ls (.long (x <<< (y.toInt64 &&& 63)) :: r) h
  | .lshr => jv_li st fun x y r => jv_go (pc + n) ls (.long (x >>> (y.toInt64 &&& 63)) :: r) h
  | .lcmp => jv_l2 st fun x y r => jv_go (pc + n) ls (.int (lg_cmp x y) :: r) h
  | .i2l => jv_i1 st fun x r => jv_go (pc + n) ls (.long x.toInt64 :: r) h
  | .l2i => jv_l1 st fun x r => jv_go (pc + n) ls (.int x.toInt32 :: r) h
  | .i2c => jv_i1 st fun x r => jv_go (pc + n) ls (.int ((x.toUInt32 % 65536).toInt32) :: r) h
  | .dup => match st with
    | v :: r => if jv_c1 v = true then jv_go (pc + n) ls (v :: v :: r) h else none
    | _ => none
  | .dup2 => match st with
    | v :: w :: r => if jv_c1 v = true ∧ jv_c1 w = true then jv_go (pc + n) ls (v :: w :: v :: w :: r) h else none
    | _ => none
  | .pop => match st with
    | v :: r => if jv_c1 v = true then jv_go (pc + n) ls r h else none
    | _ => none
  | .pop2 => jv_l1 st fun _ r => jv_go (pc + n) ls r h
  | .goto _ => jv_go a ls st h
  | .ifCond .eq _ => jv_i1 st fun x r => jv_go (jv_jmp (decide (x = 0)) a (pc + n)) ls r h
  | .ifCond .ne _ => jv_i1 st fun x r => jv_go (jv_jmp (decide (x ≠ 0)) a (pc + n)) ls r h
  | .ifCond .lt _ => jv_i1 st fun x r => jv_go (jv_jmp (decide (x < 0)) a (pc + n)) ls r h
  | .ifCond .ge _ => jv_i1 st fun x r => jv_go (jv_jmp (decide (x ≥ 0)) a (pc + n)) ls r h
  | .ifCond .gt _ => jv_i1 st fun x r => jv_go (jv_jmp (decide (x > 0)) a (pc + n)) ls r h
  | .ifCond .le _ => jv_i1 st fun x r => jv_go (jv_jmp (decide (x ≤ 0)) a (pc + n)) ls r h
  | .if_icmp .eq _ => jv_i2 st fun x y r => jv_go (jv_jmp (decide (x = y)) a (pc + n)) ls r h
  | .if_icmp .ne _ => jv_i2 st fun x y r => jv_go (jv_jmp (decide (x ≠ y)) a (pc + n)) ls r h
  | .if_icmp .lt _ => jv_i2 st fun x y r => jv_go (jv_jmp (decide (x < y)) a (pc + n)) ls r h
  | .if_icmp .ge _ => jv_i2 st fun x y r => jv_go (jv_jmp (decide (x ≥ y)) a (pc + n)) ls r h
  | .if_icmp .gt _ => jv_i2 st fun x y r => jv_go (jv_jmp (decide (x > y)) a (pc + n)) ls r h
  | .if_icmp .le _ => jv_i2 st fun x y r => jv_go (jv_jmp (decide (x ≤ y)) a (pc + n)) ls r h
  | .tableswitch d lo hi offs => jv_i1 st fun x r => if x.toInt < lo ∨ hi < x.toInt then jv_go (((pc : Int) + d).toNat) ls r h else match offs[(x.toInt - lo).toNat]? with
    | some o => jv_go (((pc : Int) + o).toNat) ls r h
    | none => none
  | .getfield _ => jv_r1 st fun c r => if c < O.1 h then (if (O.2.2.1 h c).1 = a ∧ a < 13 then jv_go (pc + n) ls (O.2.2.2.1 h c b :: r) h else none) else
      if a = 20 ∧ (c = 1000001 ∨ c = 1000002) then (if b = 0 then jv_go (pc + n) ls (.ref (c + 2) :: r) h else jv_go (pc + n) ls (.int 0 :: r) h) else none
  | .putfield _ => jv_vr st fun v c r => if c < O.1 h ∧ (O.2.2.1 h c).1 = a ∧ jv_fit (jv_fty a b) v = true then (match O.2.2.2.2.1 h c b v with
      | some h' => jv_go (pc + n) ls r h'
      | none => none) else none
  | .getstatic _ => if a = 0 then jv_go (pc + n) ls (.int 1 :: st) h else if a = 1 then jv_go (pc + n) ls (G.2 :: st) h else none
  | .iaload => jv_ri st fun c i r => if c < O.1 h then (if (O.2.2.1 h c).1 = 13 ∧ jv_in i (O.2.2.1 h c).2 = true then jv_go (pc + n) ls (O.2.2.2.1 h c i.toNatClampNeg :: r) h else none) else
      if c = 1000000 ∧ jv_in i G.1.1 = true then jv_go (pc + n) ls (.int (G.1.2 i.toNatClampNeg) :: r) h else none
  | .baload => jv_ri st fun c i r => if c < O.1 h then (if (O.2.2.1 h c).1 = 14 ∧ jv_in i (O.2.2.1 h c).2 = true then jv_go (pc + n) ls (O.2.2.2.1 h c i.toNatClampNeg :: r) h else none) else
      if (c = 1000003 ∨ c = 1000004) ∧ jv_in i (jv_sb c).length = true then jv_go (pc + n) ls (.int ((jv_sb c).getD i.toNatClampNeg 0) :: r) h else none
  | .aaload => jv_ri st fun c i r => if c < O.1 h ∧ 15 ≤ (O.2.2.1 h c).1 ∧ (O.2.2.1 h c).1 < 21 ∧ jv_in i (O.2.2.1 h c).2 = true then jv_go (pc + n) ls (O.2.2.2.1 h c i.toNatClampNeg :: r) h else none
  | .arraylength => jv_r1 st fun c r => if c < O.1 h then (if 13 ≤ (O.2.2.1 h c).1 ∧ (O.2.2.1 h c).1 < 21 then jv_go (pc + n) ls (.int (Int32.ofNat (O.2.2.1 h c).2) :: r) h else none) else
      if c = 1000000 then jv_go (pc + n) ls (.int (Int32.ofNat G.1.1) :: r) h else if c = 1000003 ∨ c = 1000004 then jv_go (pc + n) ls (.int (Int32.ofNat (jv_sb c).length) :: r) h else none
  | .iastore => jv_rii st fun c i x r => if c < O.1 h ∧ (O.2.2.1 h c).1 = 13 ∧ jv_in i (O.2.2.1 h c).2 = true then (match O.2.2.2.2.1 h c i.toNatClampNeg (.int x) with
      | some h' => jv_go (pc + n) ls r h'
      | none => none) else none
  | .bastore => jv_rii st fun c i x r => if c < O.1 h ∧ (O.2.2.1 h c).1 = 14 ∧ jv_in i (O.2.2.1 h c).2 = true ∧ (x = 0 ∨ x = 1) then (match O.2.2.2.2.1 h c i.toNatClampNeg (.int x) with
      | some h' => jv_go (pc + n) ls r h'
      | none => none) else none
  | .aastore => jv_rir st fun c i x r => if c < O.1 h ∧ x < O.1 h ∧ 16 ≤ (O.2.2.1 h c).1 ∧ (O.2.2.1 h c).1 < 21 ∧ (O.2.2.1 h x).1 = jv_el (O.2.2.1 h c).1 ∧ jv_in i (O.2.2.1 h c).2 = true then (match O.2.2.2.2.1 h c i.toNatClampNeg (.ref x) with
      | some h' => jv_go (pc + n) ls r h'
      | none => none) else none
  | .new _ => match O.2.2.2.2.2.1 h a (jv_nf a) (fun j => defaultValue (jv_fty a j)) with
    | some h' => jv_go (pc + n) ls (.ref (O.1 h) :: st) h'
    | none => none
  | .newarray _ => jv_i1 st fun x r => if jv_in x 100000 = true then (match O.2.2.2.2.2.1 h a x.toNatClampNeg (fun _ => .int 0) with
    | some h' => jv_go (pc + n) ls (.ref (O.1 h) :: r) h'
    | none => none) else none
  | .anewarray _ => jv_i1 st fun x r => if jv_in x 100000 = true then (match O.2.2.2.2.2.1 h a x.toNatClampNeg (fun _ => .null) with
    | some h' => jv_go (pc + n) ls (.ref (O.1 h) :: r) h'
    | none => none) else none
  | .multianewarray _ _ => jv_i2 st fun x y r => if jv_in x 100000 = true ∧ jv_in y 100000 = true then (match O.2.2.2.2.2.2 h x.toNatClampNeg y.toNatClampNeg with
    | some h' => jv_go (pc + n) ls (.ref (O.1 h) :: r) h'
    | none => none) else none
  | .invokevirtual _ => match jv_pop z.toNat st with
    | some (as, r) => jv_r1 r fun c r' => if jv_w8 r' = true ∧ ((c < O.1 h ∧ (O.2.2.1 h c).1 = u ∧ u < 13) ∨ (O.1 h ≤ c ∧ u = 20 ∧ (c = 1000001 ∨ c = 1000002))) then some (.inr (.inr (a, pc + n, .ref c :: as, r'))) else none
    | none => none
  | .invokestatic _ => if b = 7 then jv_i2 st fun x y r => if jv_w8 r = true then jv_go (pc + n) ls (.int (if x < y then y else x) :: r) h else none else match jv_pop z.toNat st with
    | some (as, r) => if jv_w8 r = true then some (.inr (.inr (a, pc + n, as, r))) else none
    | none => none
  | .invokespecial _ => match jv_pop z.toNat st with
    | some (as, r) => jv_r1 r fun c r' => if jv_w8 r' = true then (if b = 4 then jv_go (pc + n) ls r' h else some (.inr (.inr (a, pc + n, .ref c :: as, r')))) else none
    | none => none
  | .ireturn => match st, M.2.2.2.2.1 with
    | [.int x], some ty => if jv_rn ty x = true then some (.inr (.inl (some (.int x)))) else none
    | _, _ => none
  | .lreturn => match st, M.2.2.2.2.1 with
    | [.long x], some .long => some (.inr (.inl (some (.long x))))
    | _, _ => none
  | .areturn => match st, M.2.2.2.2.1 with
    | [.ref x], some (.object _) => some (.inr (.inl (some (.ref x))))
    | _, _ => none
  | .return_ => match st, M.2.2.2.2.1 with
    | [], none => some (.inr (.inl none))
    | _, _ => none
  | _ => none
end
