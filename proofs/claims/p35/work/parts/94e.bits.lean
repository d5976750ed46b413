/-! the number of names: both ways of counting -/
set_option maxRecDepth 20000 in
theorem t_JI_bitCount {G : jv_X} {d : Nat} {B : Option Value → jg_H → Prop} {s : jg_H} (a1 : Int32)
    (k1 : q_W G d jm_JI_bitCount B 10 [some (.int (a1 - ((((a1 : Int32).toUInt32 >>> ((1 : Int32).toUInt32 &&& Int32.toUInt32 31)).toInt32) &&& 1431655765)))] [] s) :
    q_P G (d + 1) 60 [.int a1] s B := by
  refine q_in (M := jm_JI_bitCount) rfl (Nat.le_of_ble_eq_true rfl) (ls := [some (.int a1)]) rfl ?_
  refine q_iload_n (pc' := 1) ja_JI_bitCount_0 rfl rfl ?_
  refine q_iload_n (pc' := 2) ja_JI_bitCount_1 rfl rfl ?_
  refine q_iconst (pc' := 3) ja_JI_bitCount_2 rfl 1 (by decide) ?_
  refine q_iushr (pc' := 4) ja_JI_bitCount_3 rfl ?_
  refine q_ldcw (pc' := 7) ja_JI_bitCount_4 rfl 1431655765 (by decide) ?_
  refine q_iand (pc' := 8) ja_JI_bitCount_7 rfl ?_
  refine q_isub (pc' := 9) ja_JI_bitCount_8 rfl ?_
  refine q_istore_n (pc' := 10) (ls' := [some (.int (a1 - ((((a1 : Int32).toUInt32 >>> ((1 : Int32).toUInt32 &&& Int32.toUInt32 31)).toInt32) &&& 1431655765)))]) ja_JI_bitCount_9 rfl ⟨Nat.le_of_ble_eq_true rfl, rfl⟩ rfl ?_
  exact k1
set_option maxRecDepth 20000 in
theorem t_JI_bitCount_10 {G : jv_X} {d : Nat} {B : Option Value → jg_H → Prop} {s : jg_H} (x0 : Int32)
    (k1 : q_W G d jm_JI_bitCount B 24 [some (.int ((x0 &&& 858993459) + ((((x0 : Int32).toUInt32 >>> ((2 : Int32).toUInt32 &&& Int32.toUInt32 31)).toInt32) &&& 858993459)))] [] s) :
    q_W G d jm_JI_bitCount B 10 [some (.int x0)] [] s := by
  refine q_iload_n (pc' := 11) ja_JI_bitCount_10 rfl rfl ?_
  refine q_ldcw (pc' := 14) ja_JI_bitCount_11 rfl 858993459 (by decide) ?_
  refine q_iand (pc' := 15) ja_JI_bitCount_14 rfl ?_
  refine q_iload_n (pc' := 16) ja_JI_bitCount_15 rfl rfl ?_
  refine q_iconst (pc' := 17) ja_JI_bitCount_16 rfl 2 (by decide) ?_
  refine q_iushr (pc' := 18) ja_JI_bitCount_17 rfl ?_
  refine q_ldcw (pc' := 21) ja_JI_bitCount_18 rfl 858993459 (by decide) ?_
  refine q_iand (pc' := 22) ja_JI_bitCount_21 rfl ?_
  refine q_iadd (pc' := 23) ja_JI_bitCount_22 rfl ?_
  refine q_istore_n (pc' := 24) (ls' := [some (.int ((x0 &&& 858993459) + ((((x0 : Int32).toUInt32 >>> ((2 : Int32).toUInt32 &&& Int32.toUInt32 31)).toInt32) &&& 858993459)))]) ja_JI_bitCount_23 rfl ⟨Nat.le_of_ble_eq_true rfl, rfl⟩ rfl ?_
  exact k1
set_option maxRecDepth 20000 in
theorem t_JI_bitCount_24 {G : jv_X} {d : Nat} {B : Option Value → jg_H → Prop} {s : jg_H} (x0 : Int32)
    (k1 : q_W G d jm_JI_bitCount B 34 [some (.int ((x0 + (((x0 : Int32).toUInt32 >>> ((4 : Int32).toUInt32 &&& Int32.toUInt32 31)).toInt32)) &&& 252645135))] [] s) :
    q_W G d jm_JI_bitCount B 24 [some (.int x0)] [] s := by
  refine q_iload_n (pc' := 25) ja_JI_bitCount_24 rfl rfl ?_
  refine q_iload_n (pc' := 26) ja_JI_bitCount_25 rfl rfl ?_
  refine q_iconst (pc' := 27) ja_JI_bitCount_26 rfl 4 (by decide) ?_
  refine q_iushr (pc' := 28) ja_JI_bitCount_27 rfl ?_
  refine q_iadd (pc' := 29) ja_JI_bitCount_28 rfl ?_
  refine q_ldcw (pc' := 32) ja_JI_bitCount_29 rfl 252645135 (by decide) ?_
  refine q_iand (pc' := 33) ja_JI_bitCount_32 rfl ?_
  refine q_istore_n (pc' := 34) (ls' := [some (.int ((x0 + (((x0 : Int32).toUInt32 >>> ((4 : Int32).toUInt32 &&& Int32.toUInt32 31)).toInt32)) &&& 252645135))]) ja_JI_bitCount_33 rfl ⟨Nat.le_of_ble_eq_true rfl, rfl⟩ rfl ?_
  exact k1
set_option maxRecDepth 20000 in
theorem t_JI_bitCount_34 {G : jv_X} {d : Nat} {B : Option Value → jg_H → Prop} {s : jg_H} (x0 : Int32)
    (k1 : q_W G d jm_JI_bitCount B 41 [some (.int (x0 + (((x0 : Int32).toUInt32 >>> ((8 : Int32).toUInt32 &&& Int32.toUInt32 31)).toInt32)))] [] s) :
    q_W G d jm_JI_bitCount B 34 [some (.int x0)] [] s := by
  refine q_iload_n (pc' := 35) ja_JI_bitCount_34 rfl rfl ?_
  refine q_iload_n (pc' := 36) ja_JI_bitCount_35 rfl rfl ?_
  refine q_bipush (pc' := 38) ja_JI_bitCount_36 rfl 8 (by decide) ?_
  refine q_iushr (pc' := 39) ja_JI_bitCount_38 rfl ?_
  refine q_iadd (pc' := 40) ja_JI_bitCount_39 rfl ?_
  refine q_istore_n (pc' := 41) (ls' := [some (.int (x0 + (((x0 : Int32).toUInt32 >>> ((8 : Int32).toUInt32 &&& Int32.toUInt32 31)).toInt32)))]) ja_JI_bitCount_40 rfl ⟨Nat.le_of_ble_eq_true rfl, rfl⟩ rfl ?_
  exact k1
set_option maxRecDepth 20000 in
theorem t_JI_bitCount_41 {G : jv_X} {d : Nat} {B : Option Value → jg_H → Prop} {s : jg_H} (x0 : Int32)
    (k1 : q_W G d jm_JI_bitCount B 48 [some (.int (x0 + (((x0 : Int32).toUInt32 >>> ((16 : Int32).toUInt32 &&& Int32.toUInt32 31)).toInt32)))] [] s) :
    q_W G d jm_JI_bitCount B 41 [some (.int x0)] [] s := by
  refine q_iload_n (pc' := 42) ja_JI_bitCount_41 rfl rfl ?_
  refine q_iload_n (pc' := 43) ja_JI_bitCount_42 rfl rfl ?_
  refine q_bipush (pc' := 45) ja_JI_bitCount_43 rfl 16 (by decide) ?_
  refine q_iushr (pc' := 46) ja_JI_bitCount_45 rfl ?_
  refine q_iadd (pc' := 47) ja_JI_bitCount_46 rfl ?_
  refine q_istore_n (pc' := 48) (ls' := [some (.int (x0 + (((x0 : Int32).toUInt32 >>> ((16 : Int32).toUInt32 &&& Int32.toUInt32 31)).toInt32)))]) ja_JI_bitCount_47 rfl ⟨Nat.le_of_ble_eq_true rfl, rfl⟩ rfl ?_
  exact k1
set_option maxRecDepth 20000 in
theorem t_JI_bitCount_48 {G : jv_X} {d : Nat} {B : Option Value → jg_H → Prop} {s : jg_H} (x0 : Int32)
    (k1 : B (some (.int (x0 &&& 63))) s) :
    q_W G d jm_JI_bitCount B 48 [some (.int x0)] [] s := by
  refine q_iload_n (pc' := 49) ja_JI_bitCount_48 rfl rfl ?_
  refine q_bipush (pc' := 51) ja_JI_bitCount_49 rfl 63 (by decide) ?_
  refine q_iand (pc' := 52) ja_JI_bitCount_51 rfl ?_
  exact q_iret ja_JI_bitCount_52 rfl rfl k1
def f_sh (x : Int32) (k : Int32) : Int32 := ((x).toUInt32 >>> ((k).toUInt32 &&& Int32.toUInt32 31)).toInt32
def f_b1 (x : Int32) : Int32 := x - (f_sh x 1 &&& 1431655765)
def f_b2 (x : Int32) : Int32 := (x &&& 858993459) + (f_sh x 2 &&& 858993459)
def f_b3 (x : Int32) : Int32 := (x + f_sh x 4) &&& 252645135
def f_b4 (x : Int32) : Int32 := x + f_sh x 8
def f_b5 (x : Int32) : Int32 := x + f_sh x 16
def f_bc (x : Int32) : Int32 := f_b5 (f_b4 (f_b3 (f_b2 (f_b1 x)))) &&& 63
theorem sp_bitCount {G : jv_X} {d : Nat} {B : Option Value → jg_H → Prop} {s : jg_H} (x : Int32) (hB : B (some (.int (f_bc x))) s) : q_P G (d + 1) 60 [.int x] s B := by
  refine t_JI_bitCount x ?_
  refine t_JI_bitCount_10 _ ?_
  refine t_JI_bitCount_24 _ ?_
  refine t_JI_bitCount_34 _ ?_
  refine t_JI_bitCount_41 _ ?_
  refine t_JI_bitCount_48 _ ?_
  exact hB
def f_bits (x : Int32) : Nat → Int32
  | 0 => 0
  | k + 1 => f_bits x k + ((x >>> (Int32.ofNat k &&& 31)) &&& 1)
theorem lp_M_bits {G : jv_X} {d : Nat} {B : Option Value → jg_H → Prop} {s : jg_H} (x : Int32) (hB : B (some (.int (f_bits x 15))) s) : ∀ (m k : Nat) (x1 x2 : Int32), k + m = 15 → x2 = Int32.ofNat k → x2.toInt = k → x1 = f_bits x k → q_W G d jm_M_bits B 4 [some (.int x), some (.int x1), some (.int x2)] [] s := by
  intro m
  induction m with
  | zero =>
    intro k x1 x2 hk h0 h2 h1
    rw [show k = 15 by omega] at h1
    rw [h1]
    clear h1 h0
    refine t_M_bits_4 _ _ _ ?_ ?_ <;> intros <;> first | exact hB | (exfalso; ((try simp only [i_lt, i_le, i_eq, i_in, i_cn, Int32.toInt_add, Int32.toInt_sub, Int32.toInt_mul, Int32.toInt_neg, Int32.reduceToInt, Int.bmod_add_bmod, Int.add_bmod_bmod, Int.bmod_sub_bmod, Int.sub_bmod_bmod, Int.bmod_mul_bmod, Int.mul_bmod_bmod, Int.bmod_neg_bmod, Nat.reducePow, Int.reduceBmod, Int.reduceNeg, Int.reduceMul, Int.reduceAdd, Int.reduceSub, not_true_eq_false, not_false_eq_true] at *) <;> (try simp (disch := omega) only [i_bm'] at *) <;> omega))
  | succ m ih =>
    intro k x1 x2 hk h0 h2 h1
    refine t_M_bits_4 _ _ _ ?_ ?_
    · intro h; clear ih h1 h0; exfalso; ((try simp only [i_lt, i_le, i_eq, i_in, i_cn, Int32.toInt_add, Int32.toInt_sub, Int32.toInt_mul, Int32.toInt_neg, Int32.reduceToInt, Int.bmod_add_bmod, Int.add_bmod_bmod, Int.bmod_sub_bmod, Int.sub_bmod_bmod, Int.bmod_mul_bmod, Int.mul_bmod_bmod, Int.bmod_neg_bmod, Nat.reducePow, Int.reduceBmod, Int.reduceNeg, Int.reduceMul, Int.reduceAdd, Int.reduceSub, not_true_eq_false, not_false_eq_true] at *) <;> (try simp (disch := omega) only [i_bm'] at *) <;> omega)
    · intro h
      refine ih (k + 1) _ _ (by omega) (by rw [h0, Int32.ofNat_add]; rfl) (by clear ih h1 h0; ((try simp only [i_lt, i_le, i_eq, i_in, i_cn, Int32.toInt_add, Int32.toInt_sub, Int32.toInt_mul, Int32.toInt_neg, Int32.reduceToInt, Int.bmod_add_bmod, Int.add_bmod_bmod, Int.bmod_sub_bmod, Int.sub_bmod_bmod, Int.bmod_mul_bmod, Int.mul_bmod_bmod, Int.bmod_neg_bmod, Nat.reducePow, Int.reduceBmod, Int.reduceNeg, Int.reduceMul, Int.reduceAdd, Int.reduceSub, not_true_eq_false, not_false_eq_true] at *) <;> (try simp (disch := omega) only [i_bm'] at *) <;> omega)) ?_
      rw [h1, h0]
      rfl
theorem sp_M_bits {G : jv_X} {d : Nat} {B : Option Value → jg_H → Prop} {s : jg_H} (x : Int32) (hB : B (some (.int (f_bits x 15))) s) : q_P G (d + 1) 166 [.int x] s B :=
  t_M_bits x (lp_M_bits x hB 15 0 0 0 (by omega) rfl rfl rfl)
