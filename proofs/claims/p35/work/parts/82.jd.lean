/-! what runs ahead of the law's loop: by running it -/
def jd_iconst (G : jv_X) (M : jv_MI) (pc n a b u : Nat) (z : Int) (ls : jv_L) (st : List Value) (h : jh_H) : jv_O jh_H := jv_go (pc + n) ls (.int (Int32.ofInt z) :: st) h
def jd_bipush (G : jv_X) (M : jv_MI) (pc n a b u : Nat) (z : Int) (ls : jv_L) (st : List Value) (h : jh_H) : jv_O jh_H := jv_go (pc + n) ls (.int (Int32.ofInt z) :: st) h
def jd_sipush (G : jv_X) (M : jv_MI) (pc n a b u : Nat) (z : Int) (ls : jv_L) (st : List Value) (h : jh_H) : jv_O jh_H := jv_go (pc + n) ls (.int (Int32.ofInt z) :: st) h
def jd_ldc (G : jv_X) (M : jv_MI) (pc n a b u : Nat) (z : Int) (ls : jv_L) (st : List Value) (h : jh_H) : jv_O jh_H := if a = 0 then jv_go (pc + n) ls (.int (Int32.ofInt z) :: st) h else jv_go (pc + n) ls (.ref (1000000 + u) :: st) h
def jd_ldc_w (G : jv_X) (M : jv_MI) (pc n a b u : Nat) (z : Int) (ls : jv_L) (st : List Value) (h : jh_H) : jv_O jh_H := jv_go (pc + n) ls (.int (Int32.ofInt z) :: st) h
def jd_ldc2_w (G : jv_X) (M : jv_MI) (pc n a b u : Nat) (z : Int) (ls : jv_L) (st : List Value) (h : jh_H) : jv_O jh_H := jv_go (pc + n) ls (.long (Int64.ofInt z) :: st) h
def jd_iload (k : Nat) (G : jv_X) (M : jv_MI) (pc n a b u : Nat) (z : Int) (ls : jv_L) (st : List Value) (h : jh_H) : jv_O jh_H := jv_ild ls k fun x => jv_go (pc + n) ls (.int x :: st) h
def jd_iload_n (k : Fin 4) (G : jv_X) (M : jv_MI) (pc n a b u : Nat) (z : Int) (ls : jv_L) (st : List Value) (h : jh_H) : jv_O jh_H := jv_ild ls k.val fun x => jv_go (pc + n) ls (.int x :: st) h
def jd_lload_n (k : Fin 4) (G : jv_X) (M : jv_MI) (pc n a b u : Nat) (z : Int) (ls : jv_L) (st : List Value) (h : jh_H) : jv_O jh_H := jv_lld ls k.val fun x => jv_go (pc + n) ls (.long x :: st) h
def jd_aload (k : Nat) (G : jv_X) (M : jv_MI) (pc n a b u : Nat) (z : Int) (ls : jv_L) (st : List Value) (h : jh_H) : jv_O jh_H := jv_ald ls k fun x => jv_go (pc + n) ls (.ref x :: st) h
def jd_aload_n (k : Fin 4) (G : jv_X) (M : jv_MI) (pc n a b u : Nat) (z : Int) (ls : jv_L) (st : List Value) (h : jh_H) : jv_O jh_H := jv_ald ls k.val fun x => jv_go (pc + n) ls (.ref x :: st) h
def jd_istore (k : Nat) (G : jv_X) (M : jv_MI) (pc n a b u : Nat) (z : Int) (ls : jv_L) (st : List Value) (h : jh_H) : jv_O jh_H := jv_i1 st fun x r => jv_st ls k (.int x) fun l => jv_go (pc + n) l r h
def jd_istore_n (k : Fin 4) (G : jv_X) (M : jv_MI) (pc n a b u : Nat) (z : Int) (ls : jv_L) (st : List Value) (h : jh_H) : jv_O jh_H := jv_i1 st fun x r => jv_st ls k.val (.int x) fun l => jv_go (pc + n) l r h
def jd_astore (k : Nat) (G : jv_X) (M : jv_MI) (pc n a b u : Nat) (z : Int) (ls : jv_L) (st : List Value) (h : jh_H) : jv_O jh_H := jv_r1 st fun x r => jv_st ls k (.ref x) fun l => jv_go (pc + n) l r h
def jd_astore_n (k : Fin 4) (G : jv_X) (M : jv_MI) (pc n a b u : Nat) (z : Int) (ls : jv_L) (st : List Value) (h : jh_H) : jv_O jh_H := jv_r1 st fun x r => jv_st ls k.val (.ref x) fun l => jv_go (pc + n) l r h
def jd_iinc (k : Nat) (d : Int) (G : jv_X) (M : jv_MI) (pc n a b u : Nat) (z : Int) (ls : jv_L) (st : List Value) (h : jh_H) : jv_O jh_H := jv_ild ls k fun x => jv_st ls k (.int (x + Int32.ofInt d)) fun l => jv_go (pc + n) l st h
def jd_iadd (G : jv_X) (M : jv_MI) (pc n a b u : Nat) (z : Int) (ls : jv_L) (st : List Value) (h : jh_H) : jv_O jh_H := jv_i2 st fun x y r => jv_go (pc + n) ls (.int (x + y) :: r) h
def jd_isub (G : jv_X) (M : jv_MI) (pc n a b u : Nat) (z : Int) (ls : jv_L) (st : List Value) (h : jh_H) : jv_O jh_H := jv_i2 st fun x y r => jv_go (pc + n) ls (.int (x - y) :: r) h
def jd_imul (G : jv_X) (M : jv_MI) (pc n a b u : Nat) (z : Int) (ls : jv_L) (st : List Value) (h : jh_H) : jv_O jh_H := jv_i2 st fun x y r => jv_go (pc + n) ls (.int (x * y) :: r) h
def jd_idiv (G : jv_X) (M : jv_MI) (pc n a b u : Nat) (z : Int) (ls : jv_L) (st : List Value) (h : jh_H) : jv_O jh_H := jv_i2 st fun x y r => if y = 0 then none else jv_go (pc + n) ls (.int (x / y) :: r) h
def jd_irem (G : jv_X) (M : jv_MI) (pc n a b u : Nat) (z : Int) (ls : jv_L) (st : List Value) (h : jh_H) : jv_O jh_H := jv_i2 st fun x y r => if y = 0 then none else jv_go (pc + n) ls (.int (x - x / y * y) :: r) h
def jd_ineg (G : jv_X) (M : jv_MI) (pc n a b u : Nat) (z : Int) (ls : jv_L) (st : List Value) (h : jh_H) : jv_O jh_H := jv_i1 st fun x r => jv_go (pc + n) ls (.int (-x) :: r) h
def jd_iand (G : jv_X) (M : jv_MI) (pc n a b u : Nat) (z : Int) (ls : jv_L) (st : List Value) (h : jh_H) : jv_O jh_H := jv_i2 st fun x y r => jv_go (pc + n) ls (.int (x &&& y) :: r) h
def jd_ior (G : jv_X) (M : jv_MI) (pc n a b u : Nat) (z : Int) (ls : jv_L) (st : List Value) (h : jh_H) : jv_O jh_H := jv_i2 st fun x y r => jv_go (pc + n) ls (.int (x ||| y) :: r) h
def jd_ishl (G : jv_X) (M : jv_MI) (pc n a b u : Nat) (z : Int) (ls : jv_L) (st : List Value) (h : jh_H) : jv_O jh_H := jv_i2 st fun x y r => jv_go (pc + n) ls (.int (x <<< (y &&& 31)) :: r) h
def jd_ishr (G : jv_X) (M : jv_MI) (pc n a b u : Nat) (z : Int) (ls : jv_L) (st : List Value) (h : jh_H) : jv_O jh_H := jv_i2 st fun x y r => jv_go (pc + n) ls (.int (x >>> (y &&& 31)) :: r) h
def jd_iushr (G : jv_X) (M : jv_MI) (pc n a b u : Nat) (z : Int) (ls : jv_L) (st : List Value) (h : jh_H) : jv_O jh_H := jv_i2 st fun x y r => jv_go (pc + n) ls (.int ((x.toUInt32 >>> (y.toUInt32 &&& Int32.toUInt32 31)).toInt32) :: r) h
def jd_land (G : jv_X) (M : jv_MI) (pc n a b u : Nat) (z : Int) (ls : jv_L) (st : List Value) (h : jh_H) : jv_O jh_H := jv_l2 st fun x y r => jv_go (pc + n) ls (.long (x &&& y) :: r) h
def jd_lor (G : jv_X) (M : jv_MI) (pc n a b u : Nat) (z : Int) (ls : jv_L) (st : List Value) (h : jh_H) : jv_O jh_H := jv_l2 st fun x y r => jv_go (pc + n) ls (.long (x ||| y) :: r) h
def jd_lshl (G : jv_X) (M : jv_MI) (pc n a b u : Nat) (z : Int) (ls : jv_L) (st : List Value) (h : jh_H) : jv_O jh_H := jv_li st fun x y r => jv_go (pc + n) ls (.long (x <<< (y.toInt64 &&& 63)) :: r) h
def jd_lshr (G : jv_X) (M : jv_MI) (pc n a b u : Nat) (z : Int) (ls : jv_L) (st : List Value) (h : jh_H) : jv_O jh_H := jv_li st fun x y r => jv_go (pc + n) ls (.long (x >>> (y.toInt64 &&& 63)) :: r) h
def jd_lcmp (G : jv_X) (M : jv_MI) (pc n a b u : Nat) (z : Int) (ls : jv_L) (st : List Value) (h : jh_H) : jv_O jh_H := jv_l2 st fun x y r => jv_go (pc + n) ls (.int (lg_cmp x y) :: r) h
def jd_i2l (G : jv_X) (M : jv_MI) (pc n a b u : Nat) (z : Int) (ls : jv_L) (st : List Value) (h : jh_H) : jv_O jh_H := jv_i1 st fun x r => jv_go (pc + n) ls (.long x.toInt64 :: r) h
def jd_l2i (G : jv_X) (M : jv_MI) (pc n a b u : Nat) (z : Int) (ls : jv_L) (st : List Value) (h : jh_H) : jv_O jh_H := jv_l1 st fun x r => jv_go (pc + n) ls (.int x.toInt32 :: r) h
def jd_i2c (G : jv_X) (M : jv_MI) (pc n a b u : Nat) (z : Int) (ls : jv_L) (st : List Value) (h : jh_H) : jv_O jh_H := jv_i1 st fun x r => jv_go (pc + n) ls (.int ((x.toUInt32 % 65536).toInt32) :: r) h
def jd_dup (G : jv_X) (M : jv_MI) (pc n a b u : Nat) (z : Int) (ls : jv_L) (st : List Value) (h : jh_H) : jv_O jh_H := match st with
    | v :: r => if jv_c1 v = true then jv_go (pc + n) ls (v :: v :: r) h else none
    | _ => none
def jd_dup2 (G : jv_X) (M : jv_MI) (pc n a b u : Nat) (z : Int) (ls : jv_L) (st : List Value) (h : jh_H) : jv_O jh_H := match st with
    | v :: w :: r => if jv_c1 v = true ∧ jv_c1 w = true then jv_go (pc + n) ls (v :: w :: v :: w :: r) h else none
    | _ => none
def jd_pop (G : jv_X) (M : jv_MI) (pc n a b u : Nat) (z : Int) (ls : jv_L) (st : List Value) (h : jh_H) : jv_O jh_H := match st with
    | v :: r => if jv_c1 v = true then jv_go (pc + n) ls r h else none
    | _ => none
def jd_pop2 (G : jv_X) (M : jv_MI) (pc n a b u : Nat) (z : Int) (ls : jv_L) (st : List Value) (h : jh_H) : jv_O jh_H := jv_l1 st fun _ r => jv_go (pc + n) ls r h
def jd_goto (G : jv_X) (M : jv_MI) (pc n a b u : Nat) (z : Int) (ls : jv_L) (st : List Value) (h : jh_H) : jv_O jh_H := jv_go a ls st h
def jd_ifCond_eq (G : jv_X) (M : jv_MI) (pc n a b u : Nat) (z : Int) (ls : jv_L) (st : List Value) (h : jh_H) : jv_O jh_H := jv_i1 st fun x r => jv_go (jv_jmp (decide (x = 0)) a (pc + n)) ls r h
def jd_ifCond_ne (G : jv_X) (M : jv_MI) (pc n a b u : Nat) (z : Int) (ls : jv_L) (st : List Value) (h : jh_H) : jv_O jh_H := jv_i1 st fun x r => jv_go (jv_jmp (decide (x ≠ 0)) a (pc + n)) ls r h
def jd_ifCond_lt (G : jv_X) (M : jv_MI) (pc n a b u : Nat) (z : Int) (ls : jv_L) (st : List Value) (h : jh_H) : jv_O jh_H := jv_i1 st fun x r => jv_go (jv_jmp (decide (x < 0)) a (pc + n)) ls r h
def jd_ifCond_ge (G : jv_X) (M : jv_MI) (pc n a b u : Nat) (z : Int) (ls : jv_L) (st : List Value) (h : jh_H) : jv_O jh_H := jv_i1 st fun x r => jv_go (jv_jmp (decide (x ≥ 0)) a (pc + n)) ls r h
def jd_ifCond_gt (G : jv_X) (M : jv_MI) (pc n a b u : Nat) (z : Int) (ls : jv_L) (st : List Value) (h : jh_H) : jv_O jh_H := jv_i1 st fun x r => jv_go (jv_jmp (decide (x > 0)) a (pc + n)) ls r h
def jd_ifCond_le (G : jv_X) (M : jv_MI) (pc n a b u : Nat) (z : Int) (ls : jv_L) (st : List Value) (h : jh_H) : jv_O jh_H := jv_i1 st fun x r => jv_go (jv_jmp (decide (x ≤ 0)) a (pc + n)) ls r h
def jd_if_icmp_eq (G : jv_X) (M : jv_MI) (pc n a b u : Nat) (z : Int) (ls : jv_L) (st : List Value) (h : jh_H) : jv_O jh_H := jv_i2 st fun x y r => jv_go (jv_jmp (decide (x = y)) a (pc + n)) ls r h
def jd_if_icmp_ne (G : jv_X) (M : jv_MI) (pc n a b u : Nat) (z : Int) (ls : jv_L) (st : List Value) (h : jh_H) : jv_O jh_H := jv_i2 st fun x y r => jv_go (jv_jmp (decide (x ≠ y)) a (pc + n)) ls r h
def jd_if_icmp_lt (G : jv_X) (M : jv_MI) (pc n a b u : Nat) (z : Int) (ls : jv_L) (st : List Value) (h : jh_H) : jv_O jh_H := jv_i2 st fun x y r => jv_go (jv_jmp (decide (x < y)) a (pc + n)) ls r h
def jd_if_icmp_ge (G : jv_X) (M : jv_MI) (pc n a b u : Nat) (z : Int) (ls : jv_L) (st : List Value) (h : jh_H) : jv_O jh_H := jv_i2 st fun x y r => jv_go (jv_jmp (decide (x ≥ y)) a (pc + n)) ls r h
def jd_if_icmp_gt (G : jv_X) (M : jv_MI) (pc n a b u : Nat) (z : Int) (ls : jv_L) (st : List Value) (h : jh_H) : jv_O jh_H := jv_i2 st fun x y r => jv_go (jv_jmp (decide (x > y)) a (pc + n)) ls r h
def jd_if_icmp_le (G : jv_X) (M : jv_MI) (pc n a b u : Nat) (z : Int) (ls : jv_L) (st : List Value) (h : jh_H) : jv_O jh_H := jv_i2 st fun x y r => jv_go (jv_jmp (decide (x ≤ y)) a (pc + n)) ls r h
def jd_tableswitch (d : Int) (lo : Int) (hi : Int) (offs : Array Int) (G : jv_X) (M : jv_MI) (pc n a b u : Nat) (z : Int) (ls : jv_L) (st : List Value) (h : jh_H) : jv_O jh_H := jv_i1 st fun x r => if x.toInt < lo ∨ hi < x.toInt then jv_go (((pc : Int) + d).toNat) ls r h else match offs[(x.toInt - lo).toNat]? with
    | some o => jv_go (((pc : Int) + o).toNat) ls r h
    | none => none
def jd_getfield (G : jv_X) (M : jv_MI) (pc n a b u : Nat) (z : Int) (ls : jv_L) (st : List Value) (h : jh_H) : jv_O jh_H := jv_r1 st fun c r => if c < jh_O.1 h then (if (jh_O.2.2.1 h c).1 = a ∧ a < 13 then jv_go (pc + n) ls (jh_O.2.2.2.1 h c b :: r) h else none) else
      if a = 20 ∧ (c = 1000001 ∨ c = 1000002) then (if b = 0 then jv_go (pc + n) ls (.ref (c + 2) :: r) h else jv_go (pc + n) ls (.int 0 :: r) h) else none
def jd_putfield (G : jv_X) (M : jv_MI) (pc n a b u : Nat) (z : Int) (ls : jv_L) (st : List Value) (h : jh_H) : jv_O jh_H := jv_vr st fun v c r => if c < jh_O.1 h ∧ (jh_O.2.2.1 h c).1 = a ∧ jv_fit (jv_fty a b) v = true then (match jh_O.2.2.2.2.1 h c b v with
      | some h' => jv_go (pc + n) ls r h'
      | none => none) else none
def jd_getstatic (G : jv_X) (M : jv_MI) (pc n a b u : Nat) (z : Int) (ls : jv_L) (st : List Value) (h : jh_H) : jv_O jh_H := if a = 0 then jv_go (pc + n) ls (.int 1 :: st) h else if a = 1 then jv_go (pc + n) ls (G.2 :: st) h else none
def jd_iaload (G : jv_X) (M : jv_MI) (pc n a b u : Nat) (z : Int) (ls : jv_L) (st : List Value) (h : jh_H) : jv_O jh_H := jv_ri st fun c i r => if c < jh_O.1 h then (if (jh_O.2.2.1 h c).1 = 13 ∧ jv_in i (jh_O.2.2.1 h c).2 = true then jv_go (pc + n) ls (jh_O.2.2.2.1 h c i.toNatClampNeg :: r) h else none) else
      if c = 1000000 ∧ jv_in i G.1.1 = true then jv_go (pc + n) ls (.int (G.1.2 i.toNatClampNeg) :: r) h else none
def jd_baload (G : jv_X) (M : jv_MI) (pc n a b u : Nat) (z : Int) (ls : jv_L) (st : List Value) (h : jh_H) : jv_O jh_H := jv_ri st fun c i r => if c < jh_O.1 h then (if (jh_O.2.2.1 h c).1 = 14 ∧ jv_in i (jh_O.2.2.1 h c).2 = true then jv_go (pc + n) ls (jh_O.2.2.2.1 h c i.toNatClampNeg :: r) h else none) else
      if (c = 1000003 ∨ c = 1000004) ∧ jv_in i (jv_sb c).length = true then jv_go (pc + n) ls (.int ((jv_sb c).getD i.toNatClampNeg 0) :: r) h else none
def jd_aaload (G : jv_X) (M : jv_MI) (pc n a b u : Nat) (z : Int) (ls : jv_L) (st : List Value) (h : jh_H) : jv_O jh_H := jv_ri st fun c i r => if c < jh_O.1 h ∧ 15 ≤ (jh_O.2.2.1 h c).1 ∧ (jh_O.2.2.1 h c).1 < 21 ∧ jv_in i (jh_O.2.2.1 h c).2 = true then jv_go (pc + n) ls (jh_O.2.2.2.1 h c i.toNatClampNeg :: r) h else none
def jd_arraylength (G : jv_X) (M : jv_MI) (pc n a b u : Nat) (z : Int) (ls : jv_L) (st : List Value) (h : jh_H) : jv_O jh_H := jv_r1 st fun c r => if c < jh_O.1 h then (if 13 ≤ (jh_O.2.2.1 h c).1 ∧ (jh_O.2.2.1 h c).1 < 21 then jv_go (pc + n) ls (.int (Int32.ofNat (jh_O.2.2.1 h c).2) :: r) h else none) else
      if c = 1000000 then none else if c = 1000003 ∨ c = 1000004 then jv_go (pc + n) ls (.int (Int32.ofNat (jv_sb c).length) :: r) h else none
def jd_iastore (G : jv_X) (M : jv_MI) (pc n a b u : Nat) (z : Int) (ls : jv_L) (st : List Value) (h : jh_H) : jv_O jh_H := jv_rii st fun c i x r => if c < jh_O.1 h ∧ (jh_O.2.2.1 h c).1 = 13 ∧ jv_in i (jh_O.2.2.1 h c).2 = true then (match jh_O.2.2.2.2.1 h c i.toNatClampNeg (.int x) with
      | some h' => jv_go (pc + n) ls r h'
      | none => none) else none
def jd_bastore (G : jv_X) (M : jv_MI) (pc n a b u : Nat) (z : Int) (ls : jv_L) (st : List Value) (h : jh_H) : jv_O jh_H := jv_rii st fun c i x r => if c < jh_O.1 h ∧ (jh_O.2.2.1 h c).1 = 14 ∧ jv_in i (jh_O.2.2.1 h c).2 = true ∧ (x = 0 ∨ x = 1) then (match jh_O.2.2.2.2.1 h c i.toNatClampNeg (.int x) with
      | some h' => jv_go (pc + n) ls r h'
      | none => none) else none
def jd_aastore (G : jv_X) (M : jv_MI) (pc n a b u : Nat) (z : Int) (ls : jv_L) (st : List Value) (h : jh_H) : jv_O jh_H := jv_rir st fun c i x r => if c < jh_O.1 h ∧ x < jh_O.1 h ∧ 16 ≤ (jh_O.2.2.1 h c).1 ∧ (jh_O.2.2.1 h c).1 < 21 ∧ (jh_O.2.2.1 h x).1 = jv_el (jh_O.2.2.1 h c).1 ∧ jv_in i (jh_O.2.2.1 h c).2 = true then (match jh_O.2.2.2.2.1 h c i.toNatClampNeg (.ref x) with
      | some h' => jv_go (pc + n) ls r h'
      | none => none) else none
def jd_new (G : jv_X) (M : jv_MI) (pc n a b u : Nat) (z : Int) (ls : jv_L) (st : List Value) (h : jh_H) : jv_O jh_H := match jh_O.2.2.2.2.2.1 h a (jv_nf a) (fun j => defaultValue (jv_fty a j)) with
    | some h' => jv_go (pc + n) ls (.ref (jh_O.1 h) :: st) h'
    | none => none
def jd_newarray (G : jv_X) (M : jv_MI) (pc n a b u : Nat) (z : Int) (ls : jv_L) (st : List Value) (h : jh_H) : jv_O jh_H := jv_i1 st fun x r => if jv_in x 100000 = true then (match jh_O.2.2.2.2.2.1 h a x.toNatClampNeg (fun _ => .int 0) with
    | some h' => jv_go (pc + n) ls (.ref (jh_O.1 h) :: r) h'
    | none => none) else none
def jd_anewarray (G : jv_X) (M : jv_MI) (pc n a b u : Nat) (z : Int) (ls : jv_L) (st : List Value) (h : jh_H) : jv_O jh_H := jv_i1 st fun x r => if jv_in x 100000 = true then (match jh_O.2.2.2.2.2.1 h a x.toNatClampNeg (fun _ => .null) with
    | some h' => jv_go (pc + n) ls (.ref (jh_O.1 h) :: r) h'
    | none => none) else none
def jd_multianewarray (G : jv_X) (M : jv_MI) (pc n a b u : Nat) (z : Int) (ls : jv_L) (st : List Value) (h : jh_H) : jv_O jh_H := jv_i2 st fun x y r => if jv_in x 100000 = true ∧ jv_in y 100000 = true then (match jh_O.2.2.2.2.2.2 h x.toNatClampNeg y.toNatClampNeg with
    | some h' => jv_go (pc + n) ls (.ref (jh_O.1 h) :: r) h'
    | none => none) else none
def jd_invokevirtual (G : jv_X) (M : jv_MI) (pc n a b u : Nat) (z : Int) (ls : jv_L) (st : List Value) (h : jh_H) : jv_O jh_H := match jv_pop z.toNat st with
    | some (as, r) => jv_r1 r fun c r' => if jv_w8 r' = true ∧ ((c < jh_O.1 h ∧ (jh_O.2.2.1 h c).1 = u ∧ u < 13) ∨ (jh_O.1 h ≤ c ∧ u = 20 ∧ (c = 1000001 ∨ c = 1000002))) then some (.inr (.inr (a, pc + n, .ref c :: as, r'))) else none
    | none => none
def jd_invokestatic (G : jv_X) (M : jv_MI) (pc n a b u : Nat) (z : Int) (ls : jv_L) (st : List Value) (h : jh_H) : jv_O jh_H := if b = 7 then jv_i2 st fun x y r => if jv_w8 r = true then jv_go (pc + n) ls (.int (if x < y then y else x) :: r) h else none else match jv_pop z.toNat st with
    | some (as, r) => if jv_w8 r = true then some (.inr (.inr (a, pc + n, as, r))) else none
    | none => none
def jd_invokespecial (G : jv_X) (M : jv_MI) (pc n a b u : Nat) (z : Int) (ls : jv_L) (st : List Value) (h : jh_H) : jv_O jh_H := match jv_pop z.toNat st with
    | some (as, r) => jv_r1 r fun c r' => if jv_w8 r' = true then (if b = 4 then jv_go (pc + n) ls r' h else some (.inr (.inr (a, pc + n, .ref c :: as, r')))) else none
    | none => none
def jd_ireturn (G : jv_X) (M : jv_MI) (pc n a b u : Nat) (z : Int) (ls : jv_L) (st : List Value) (h : jh_H) : jv_O jh_H := match st, M.2.2.2.2.1 with
    | [.int x], some ty => if jv_rn ty x = true then some (.inr (.inl (some (.int x)))) else none
    | _, _ => none
def jd_lreturn (G : jv_X) (M : jv_MI) (pc n a b u : Nat) (z : Int) (ls : jv_L) (st : List Value) (h : jh_H) : jv_O jh_H := match st, M.2.2.2.2.1 with
    | [.long x], some .long => some (.inr (.inl (some (.long x))))
    | _, _ => none
def jd_areturn (G : jv_X) (M : jv_MI) (pc n a b u : Nat) (z : Int) (ls : jv_L) (st : List Value) (h : jh_H) : jv_O jh_H := match st, M.2.2.2.2.1 with
    | [.ref x], some (.object _) => some (.inr (.inl (some (.ref x))))
    | _, _ => none
def jd_return_ (G : jv_X) (M : jv_MI) (pc n a b u : Nat) (z : Int) (ls : jv_L) (st : List Value) (h : jh_H) : jv_O jh_H := match st, M.2.2.2.2.1 with
    | [], none => some (.inr (.inl none))
    | _, _ => none
def jd_none (_ : jv_X) (_ : jv_MI) (_ _ _ _ _ : Nat) (_ : Int) (_ : jv_L) (_ : List Value) (_ : jh_H) : jv_O jh_H := none
def jd (i : Jvm.ClassFile.Instr) : jv_X → jv_MI → Nat → Nat → Nat → Nat → Nat → Int → jv_L → List Value → jh_H → jv_O jh_H := match i with
  | .iconst _ => jd_iconst
  | .bipush _ => jd_bipush
  | .sipush _ => jd_sipush
  | .ldc _ => jd_ldc
  | .ldc_w _ => jd_ldc_w
  | .ldc2_w _ => jd_ldc2_w
  | .iload k => jd_iload k
  | .iload_n k => jd_iload_n k
  | .lload_n k => jd_lload_n k
  | .aload k => jd_aload k
  | .aload_n k => jd_aload_n k
  | .istore k => jd_istore k
  | .istore_n k => jd_istore_n k
  | .astore k => jd_astore k
  | .astore_n k => jd_astore_n k
  | .iinc k d => jd_iinc k d
  | .iadd => jd_iadd
  | .isub => jd_isub
  | .imul => jd_imul
  | .idiv => jd_idiv
  | .irem => jd_irem
  | .ineg => jd_ineg
  | .iand => jd_iand
  | .ior => jd_ior
  | .ishl => jd_ishl
  | .ishr => jd_ishr
  | .iushr => jd_iushr
  | .land => jd_land
  | .lor => jd_lor
  | .lshl => jd_lshl
  | .lshr => jd_lshr
  | .lcmp => jd_lcmp
  | .i2l => jd_i2l
  | .l2i => jd_l2i
  | .i2c => jd_i2c
  | .dup => jd_dup
  | .dup2 => jd_dup2
  | .pop => jd_pop
  | .pop2 => jd_pop2
  | .goto _ => jd_goto
  | .ifCond .eq _ => jd_ifCond_eq
  | .ifCond .ne _ => jd_ifCond_ne
  | .ifCond .lt _ => jd_ifCond_lt
  | .ifCond .ge _ => jd_ifCond_ge
  | .ifCond .gt _ => jd_ifCond_gt
  | .ifCond .le _ => jd_ifCond_le
  | .if_icmp .eq _ => jd_if_icmp_eq
  | .if_icmp .ne _ => jd_if_icmp_ne
  | .if_icmp .lt _ => jd_if_icmp_lt
  | .if_icmp .ge _ => jd_if_icmp_ge
  | .if_icmp .gt _ => jd_if_icmp_gt
  | .if_icmp .le _ => jd_if_icmp_le
  | .tableswitch d lo hi offs => jd_tableswitch d lo hi offs
  | .getfield _ => jd_getfield
  | .putfield _ => jd_putfield
  | .getstatic _ => jd_getstatic
  | .iaload => jd_iaload
  | .baload => jd_baload
  | .aaload => jd_aaload
  | .arraylength => jd_arraylength
  | .iastore => jd_iastore
  | .bastore => jd_bastore
  | .aastore => jd_aastore
  | .new _ => jd_new
  | .newarray _ => jd_newarray
  | .anewarray _ => jd_anewarray
  | .multianewarray _ _ => jd_multianewarray
  | .invokevirtual _ => jd_invokevirtual
  | .invokestatic _ => jd_invokestatic
  | .invokespecial _ => jd_invokespecial
  | .ireturn => jd_ireturn
  | .lreturn => jd_lreturn
  | .areturn => jd_areturn
  | .return_ => jd_return_
  | _ => jd_none
def jd_G (v : Value) : jv_X := ((0, fun _ => 0), v)
def jd_nx (v : Value) (M : jv_MI) (e : jv_E) (ls : jv_L) (st : List Value) (h : jh_H) : jv_O jh_H := match e with
  | (pc, i, n, a, b, _, u, z) => jd i (jd_G v) M pc n a b u z ls st h
theorem jd_nx_e {G : jv_X} : ∀ (M : jv_MI) (e : jv_E) (ls : jv_L) (st : List Value) (h : jh_H) (o : (Nat × jv_L × List Value × jh_H) ⊕ (Option Value) ⊕ (Nat × Nat × List Value × List Value)), jd_nx G.2 M e ls st h = some o → jv_nxt jh_O G M e ls st h = some o := by
  intro M e ls st h o hn
  obtain ⟨pc, i, n, a, b, t, u, z⟩ := e
  cases i
  case arraylength =>
    have hn : jd_arraylength (jd_G G.2) M pc n a b u z ls st h = some o := hn
    simp only [jv_nxt, jd_arraylength] at hn ⊢
    obtain ⟨c, r, rfl, hm⟩ := jv_r1_e hn
    simp only [jv_r1]
    by_cases hx : c < jh_O.1 h
    · rw [if_pos hx] at hm ⊢
      exact hm
    · rw [if_neg hx] at hm ⊢
      by_cases hc : c = 1000000
      · rw [if_pos hc] at hm; cases hm
      · rw [if_neg hc] at hm ⊢
        exact hm
  case iaload =>
    have hn : jd_iaload (jd_G G.2) M pc n a b u z ls st h = some o := hn
    simp only [jv_nxt, jd_iaload] at hn ⊢
    obtain ⟨x, i, r, rfl, hm⟩ := jv_ri_e hn
    simp only [jv_ri]
    by_cases hx : x < jh_O.1 h
    · rw [if_pos hx] at hm ⊢
      exact hm
    · rw [if_neg hx] at hm
      obtain ⟨⟨-, hin⟩, -⟩ := jv_if_e hm
      exact absurd (jv_in_e hin) (fun q => q (Or.inr (Nat.zero_le _)))
  case ifCond cd off => cases cd <;> exact hn
  case if_icmp cd off => cases cd <;> exact hn
  case aastore =>
    have hn : jd_aastore (jd_G G.2) M pc n a b u z ls st h = some o := hn
    rw [← hn]
    simp only [jv_nxt, jd_aastore]
    unfold jv_rir
    split
    · dsimp only
      split
      · generalize jh_O.2.2.2.2.1 h _ _ _ = w
        cases w <;> rfl
      · rfl
    · rfl
  case bastore =>
    have hn : jd_bastore (jd_G G.2) M pc n a b u z ls st h = some o := hn
    rw [← hn]
    simp only [jv_nxt, jd_bastore]
    unfold jv_rii
    split
    · dsimp only
      split
      · generalize jh_O.2.2.2.2.1 h _ _ _ = w
        cases w <;> rfl
      · rfl
    · rfl
  case iastore =>
    have hn : jd_iastore (jd_G G.2) M pc n a b u z ls st h = some o := hn
    rw [← hn]
    simp only [jv_nxt, jd_iastore]
    unfold jv_rii
    split
    · dsimp only
      split
      · generalize jh_O.2.2.2.2.1 h _ _ _ = w
        cases w <;> rfl
      · rfl
    · rfl
  case putfield q0 =>
    have hn : jd_putfield (jd_G G.2) M pc n a b u z ls st h = some o := hn
    rw [← hn]
    simp only [jv_nxt, jd_putfield]
    unfold jv_vr
    split
    · dsimp only
      split
      · generalize jh_O.2.2.2.2.1 h _ _ _ = w
        cases w <;> rfl
      · rfl
    · rfl
  case newarray q0 =>
    have hn : jd_newarray (jd_G G.2) M pc n a b u z ls st h = some o := hn
    rw [← hn]
    simp only [jv_nxt, jd_newarray]
    unfold jv_i1
    split
    · dsimp only
      split
      · generalize jh_O.2.2.2.2.2.1 h _ _ _ = w
        cases w <;> rfl
      · rfl
    · rfl
  case anewarray q0 =>
    have hn : jd_anewarray (jd_G G.2) M pc n a b u z ls st h = some o := hn
    rw [← hn]
    simp only [jv_nxt, jd_anewarray]
    unfold jv_i1
    split
    · dsimp only
      split
      · generalize jh_O.2.2.2.2.2.1 h _ _ _ = w
        cases w <;> rfl
      · rfl
    · rfl
  case multianewarray q0 q1 =>
    have hn : jd_multianewarray (jd_G G.2) M pc n a b u z ls st h = some o := hn
    rw [← hn]
    simp only [jv_nxt, jd_multianewarray]
    unfold jv_i2
    split
    · dsimp only
      split
      · generalize jh_O.2.2.2.2.2.2 h _ _ = w
        cases w <;> rfl
      · rfl
    · rfl
  case new q0 =>
    have hn : jd_new (jd_G G.2) M pc n a b u z ls st h = some o := hn
    rw [← hn]
    simp only [jv_nxt, jd_new]
    generalize jh_O.2.2.2.2.2.1 h _ _ _ = w
    cases w <;> rfl
  all_goals exact hn
