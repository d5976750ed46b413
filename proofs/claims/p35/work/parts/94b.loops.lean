/-! loops: counting who is there -/
def f_cnt (F : Nat → Int32) : Nat → Int32
  | 0 => 0
  | k + 1 => if F k = 0 then f_cnt F k else f_cnt F k + 1
theorem f_cnt_b (F : Nat → Int32) : ∀ k, k ≤ 15 → 0 ≤ (f_cnt F k).toInt ∧ (f_cnt F k).toInt ≤ k
  | 0, _ => by show 0 ≤ (0 : Int32).toInt ∧ (0 : Int32).toInt ≤ 0; decide
  | k + 1, h => by
    have ih := f_cnt_b F k (by omega)
    unfold f_cnt
    split
    · omega
    · (try simp only [i_lt, i_le, i_eq, i_in, i_cn, Int32.toInt_add, Int32.toInt_sub, Int32.toInt_mul, Int32.toInt_neg, Int32.reduceToInt, Int.bmod_add_bmod, Int.add_bmod_bmod, Int.bmod_sub_bmod, Int.sub_bmod_bmod, Int.bmod_mul_bmod, Int.mul_bmod_bmod, Int.bmod_neg_bmod, Nat.reducePow, Int.reduceBmod, Int.reduceNeg, Int.reduceMul, Int.reduceAdd, Int.reduceSub, not_true_eq_false, not_false_eq_true] at *) <;> (try simp (disch := omega) only [i_bm'] at *)
      omega
theorem f_cnt_eq {F F' : Nat → Int32} : ∀ k, (∀ i, i < k → F i = F' i) → f_cnt F k = f_cnt F' k
  | 0, _ => rfl
  | k + 1, h => by
    unfold f_cnt
    rw [f_cnt_eq k (fun i hi => h i (by omega)), h k (by omega)]
theorem lp_C_there {G : jv_X} {d : Nat} {B : Option Value → jg_H → Prop} {s : jg_H} (n : Nat) (hn : (s 0 1).toInt = n) (h15 : n ≤ 15) (hB : B (some (.int (f_cnt (fun i => s (2 + 2 * i) 1) n))) s) : ∀ (m k : Nat) (x1 x2 : Int32), k + m = n → x2.toInt = k → x1 = f_cnt (fun i => s (2 + 2 * i) 1) k → q_W G d jm_C_countThere B 4 [some (.ref 0), some (.int x1), some (.int x2)] [] s := by
  intro m
  induction m with
  | zero =>
    intro k x1 x2 hk h2 h1
    rw [show k = n by omega] at h1
    rw [h1]
    clear h1
    refine t_C_countThere_4 _ _ ?_ ?_ ?_ ?_ ?_ <;> intros <;> first | exact hB | (exfalso; ((try simp only [i_lt, i_le, i_eq, i_in, i_cn, Int32.toInt_add, Int32.toInt_sub, Int32.toInt_mul, Int32.toInt_neg, Int32.reduceToInt, Int.bmod_add_bmod, Int.add_bmod_bmod, Int.bmod_sub_bmod, Int.sub_bmod_bmod, Int.bmod_mul_bmod, Int.mul_bmod_bmod, Int.bmod_neg_bmod, Nat.reducePow, Int.reduceBmod, Int.reduceNeg, Int.reduceMul, Int.reduceAdd, Int.reduceSub, not_true_eq_false, not_false_eq_true] at *) <;> (try simp (disch := omega) only [i_bm'] at *) <;> omega))
  | succ m ih =>
    intro k x1 x2 hk h2 h1
    have hx : x2.toNatClampNeg = k := by rw [i_cn]; omega
    refine t_C_countThere_4 _ _ ?_ ?_ ?_ ?_ ?_
    · intro h; clear ih h1 hx; exfalso; ((try simp only [i_lt, i_le, i_eq, i_in, i_cn, Int32.toInt_add, Int32.toInt_sub, Int32.toInt_mul, Int32.toInt_neg, Int32.reduceToInt, Int.bmod_add_bmod, Int.add_bmod_bmod, Int.bmod_sub_bmod, Int.sub_bmod_bmod, Int.bmod_mul_bmod, Int.mul_bmod_bmod, Int.bmod_neg_bmod, Nat.reducePow, Int.reduceBmod, Int.reduceNeg, Int.reduceMul, Int.reduceAdd, Int.reduceSub, not_true_eq_false, not_false_eq_true] at *) <;> (try simp (disch := omega) only [i_bm'] at *) <;> omega)
    · intro h h'; clear ih h1 hx; exfalso; ((try simp only [i_lt, i_le, i_eq, i_in, i_cn, Int32.toInt_add, Int32.toInt_sub, Int32.toInt_mul, Int32.toInt_neg, Int32.reduceToInt, Int.bmod_add_bmod, Int.add_bmod_bmod, Int.bmod_sub_bmod, Int.sub_bmod_bmod, Int.bmod_mul_bmod, Int.mul_bmod_bmod, Int.bmod_neg_bmod, Nat.reducePow, Int.reduceBmod, Int.reduceNeg, Int.reduceMul, Int.reduceAdd, Int.reduceSub, not_true_eq_false, not_false_eq_true] at *) <;> (try simp (disch := omega) only [i_bm'] at *) <;> omega)
    · intro h h'; clear ih h1 hx; ((try simp only [i_lt, i_le, i_eq, i_in, i_cn, Int32.toInt_add, Int32.toInt_sub, Int32.toInt_mul, Int32.toInt_neg, Int32.reduceToInt, Int.bmod_add_bmod, Int.add_bmod_bmod, Int.bmod_sub_bmod, Int.sub_bmod_bmod, Int.bmod_mul_bmod, Int.mul_bmod_bmod, Int.bmod_neg_bmod, Nat.reducePow, Int.reduceBmod, Int.reduceNeg, Int.reduceMul, Int.reduceAdd, Int.reduceSub, not_true_eq_false, not_false_eq_true] at *) <;> (try simp (disch := omega) only [i_bm'] at *) <;> omega)
    · intro h h' e
      refine ih (k + 1) _ _ (by omega) (by clear ih h1 hx e; ((try simp only [i_lt, i_le, i_eq, i_in, i_cn, Int32.toInt_add, Int32.toInt_sub, Int32.toInt_mul, Int32.toInt_neg, Int32.reduceToInt, Int.bmod_add_bmod, Int.add_bmod_bmod, Int.bmod_sub_bmod, Int.sub_bmod_bmod, Int.bmod_mul_bmod, Int.mul_bmod_bmod, Int.bmod_neg_bmod, Nat.reducePow, Int.reduceBmod, Int.reduceNeg, Int.reduceMul, Int.reduceAdd, Int.reduceSub, not_true_eq_false, not_false_eq_true] at *) <;> (try simp (disch := omega) only [i_bm'] at *) <;> omega)) ?_
      rw [hx] at e
      rw [h1]
      exact (if_pos e).symm
    · intro h h' e
      refine ih (k + 1) _ _ (by omega) (by clear ih h1 hx e; ((try simp only [i_lt, i_le, i_eq, i_in, i_cn, Int32.toInt_add, Int32.toInt_sub, Int32.toInt_mul, Int32.toInt_neg, Int32.reduceToInt, Int.bmod_add_bmod, Int.add_bmod_bmod, Int.bmod_sub_bmod, Int.sub_bmod_bmod, Int.bmod_mul_bmod, Int.mul_bmod_bmod, Int.bmod_neg_bmod, Nat.reducePow, Int.reduceBmod, Int.reduceNeg, Int.reduceMul, Int.reduceAdd, Int.reduceSub, not_true_eq_false, not_false_eq_true] at *) <;> (try simp (disch := omega) only [i_bm'] at *) <;> omega)) ?_
      rw [hx] at e
      rw [h1]
      exact (if_neg e).symm
theorem sp_C_there {G : jv_X} {d : Nat} {B : Option Value → jg_H → Prop} {s : jg_H} (n : Nat) (hn : (s 0 1).toInt = n) (h15 : n ≤ 15) (hB : B (some (.int (f_cnt (fun i => s (2 + 2 * i) 1) n))) s) : q_P G (d + 1) 76 [.ref 0] s B :=
  t_C_countThere (lp_C_there n hn h15 hB n 0 0 0 (by omega) rfl rfl)
theorem lp_M_there {G : jv_X} {d : Nat} {B : Option Value → jg_H → Prop} {s : jg_H} (n : Nat) (hn : (s 146 0).toInt = n) (h15 : n ≤ 15) (hB : B (some (.int (f_cnt (s 151) n))) s) : ∀ (m k : Nat) (x1 x2 : Int32), k + m = n → x2.toInt = k → x1 = f_cnt (s 151) k → q_W G d jm_M_there B 4 [some (.ref 146), some (.int x1), some (.int x2)] [] s := by
  intro m
  induction m with
  | zero =>
    intro k x1 x2 hk h2 h1
    rw [show k = n by omega] at h1
    rw [h1]
    clear h1
    refine t_M_there_4 _ _ ?_ ?_ ?_ ?_ <;> intros <;> first | exact hB | (exfalso; ((try simp only [i_lt, i_le, i_eq, i_in, i_cn, Int32.toInt_add, Int32.toInt_sub, Int32.toInt_mul, Int32.toInt_neg, Int32.reduceToInt, Int.bmod_add_bmod, Int.add_bmod_bmod, Int.bmod_sub_bmod, Int.sub_bmod_bmod, Int.bmod_mul_bmod, Int.mul_bmod_bmod, Int.bmod_neg_bmod, Nat.reducePow, Int.reduceBmod, Int.reduceNeg, Int.reduceMul, Int.reduceAdd, Int.reduceSub, not_true_eq_false, not_false_eq_true] at *) <;> (try simp (disch := omega) only [i_bm'] at *) <;> omega))
  | succ m ih =>
    intro k x1 x2 hk h2 h1
    have hx : x2.toNatClampNeg = k := by rw [i_cn]; omega
    refine t_M_there_4 _ _ ?_ ?_ ?_ ?_
    · intro h; clear ih h1 hx; exfalso; ((try simp only [i_lt, i_le, i_eq, i_in, i_cn, Int32.toInt_add, Int32.toInt_sub, Int32.toInt_mul, Int32.toInt_neg, Int32.reduceToInt, Int.bmod_add_bmod, Int.add_bmod_bmod, Int.bmod_sub_bmod, Int.sub_bmod_bmod, Int.bmod_mul_bmod, Int.mul_bmod_bmod, Int.bmod_neg_bmod, Nat.reducePow, Int.reduceBmod, Int.reduceNeg, Int.reduceMul, Int.reduceAdd, Int.reduceSub, not_true_eq_false, not_false_eq_true] at *) <;> (try simp (disch := omega) only [i_bm'] at *) <;> omega)
    · intro h; clear ih h1 hx; ((try simp only [i_lt, i_le, i_eq, i_in, i_cn, Int32.toInt_add, Int32.toInt_sub, Int32.toInt_mul, Int32.toInt_neg, Int32.reduceToInt, Int.bmod_add_bmod, Int.add_bmod_bmod, Int.bmod_sub_bmod, Int.sub_bmod_bmod, Int.bmod_mul_bmod, Int.mul_bmod_bmod, Int.bmod_neg_bmod, Nat.reducePow, Int.reduceBmod, Int.reduceNeg, Int.reduceMul, Int.reduceAdd, Int.reduceSub, not_true_eq_false, not_false_eq_true] at *) <;> (try simp (disch := omega) only [i_bm'] at *) <;> omega)
    · intro h e
      refine ih (k + 1) _ _ (by omega) (by clear ih h1 hx e; ((try simp only [i_lt, i_le, i_eq, i_in, i_cn, Int32.toInt_add, Int32.toInt_sub, Int32.toInt_mul, Int32.toInt_neg, Int32.reduceToInt, Int.bmod_add_bmod, Int.add_bmod_bmod, Int.bmod_sub_bmod, Int.sub_bmod_bmod, Int.bmod_mul_bmod, Int.mul_bmod_bmod, Int.bmod_neg_bmod, Nat.reducePow, Int.reduceBmod, Int.reduceNeg, Int.reduceMul, Int.reduceAdd, Int.reduceSub, not_true_eq_false, not_false_eq_true] at *) <;> (try simp (disch := omega) only [i_bm'] at *) <;> omega)) ?_
      rw [hx] at e
      rw [h1, Int32.add_zero]
      exact (if_pos e).symm
    · intro h e
      refine ih (k + 1) _ _ (by omega) (by clear ih h1 hx e; ((try simp only [i_lt, i_le, i_eq, i_in, i_cn, Int32.toInt_add, Int32.toInt_sub, Int32.toInt_mul, Int32.toInt_neg, Int32.reduceToInt, Int.bmod_add_bmod, Int.add_bmod_bmod, Int.bmod_sub_bmod, Int.sub_bmod_bmod, Int.bmod_mul_bmod, Int.mul_bmod_bmod, Int.bmod_neg_bmod, Nat.reducePow, Int.reduceBmod, Int.reduceNeg, Int.reduceMul, Int.reduceAdd, Int.reduceSub, not_true_eq_false, not_false_eq_true] at *) <;> (try simp (disch := omega) only [i_bm'] at *) <;> omega)) ?_
      rw [hx] at e
      rw [h1]
      exact (if_neg e).symm
theorem sp_M_there {G : jv_X} {d : Nat} {B : Option Value → jg_H → Prop} {s : jg_H} (n : Nat) (hn : (s 146 0).toInt = n) (h15 : n ≤ 15) (hB : B (some (.int (f_cnt (s 151) n))) s) : q_P G (d + 1) 180 [.ref 146] s B :=
  t_M_there (lp_M_there n hn h15 hB n 0 0 0 (by omega) rfl rfl)
theorem there_eq {s : jg_H} (hI : I_mem s) : f_cnt (fun i => s (2 + 2 * i) 1) (s 146 0).toInt.toNat = f_cnt (s 151) (s 146 0).toInt.toNat := by
  obtain ⟨m1, m2, m3, m4, m5, m6, m7⟩ := hI
  refine f_cnt_eq _ fun i hi => ?_
  exact (m5 i (by omega) (by omega)).2.2.2.1
/-! worth: the sum over a row of words -/
def f_sum (F : Nat → Int32) : Nat → Int32
  | 0 => 0
  | k + 1 => f_sum F k + F k
theorem f_sum_eq {F F' : Nat → Int32} : ∀ k, (∀ i, i < k → F i = F' i) → f_sum F k = f_sum F' k
  | 0, _ => rfl
  | k + 1, h => by
    unfold f_sum
    rw [f_sum_eq k (fun i hi => h i (by omega)), h k (by omega)]
theorem f_sum_b (F : Nat → Int32) (hF : ∀ i, -9 ≤ (F i).toInt ∧ (F i).toInt ≤ 9) : ∀ k : Nat, k ≤ 15 → -9 * (k : Int) ≤ (f_sum F k).toInt ∧ (f_sum F k).toInt ≤ 9 * (k : Int)
  | 0, _ => by show -9 * 0 ≤ (0 : Int32).toInt ∧ (0 : Int32).toInt ≤ 9 * 0; decide
  | k + 1, h => by
    have ih := f_sum_b F hF k (by omega)
    have h1 := hF k
    unfold f_sum
    clear hF
    (try simp only [i_lt, i_le, i_eq, i_in, i_cn, Int32.toInt_add, Int32.toInt_sub, Int32.toInt_mul, Int32.toInt_neg, Int32.reduceToInt, Int.bmod_add_bmod, Int.add_bmod_bmod, Int.bmod_sub_bmod, Int.sub_bmod_bmod, Int.bmod_mul_bmod, Int.mul_bmod_bmod, Int.bmod_neg_bmod, Nat.reducePow, Int.reduceBmod, Int.reduceNeg, Int.reduceMul, Int.reduceAdd, Int.reduceSub, not_true_eq_false, not_false_eq_true] at *) <;> (try simp (disch := omega) only [i_bm'] at *)
    omega
theorem lp_C_worth {G : jv_X} {d : Nat} {B : Option Value → jg_H → Prop} {s : jg_H} {c m0 : Nat} (hc : f_8 c) (hm : f_5 m0) (n : Nat) (hn : (s c 0).toInt = n) (h10 : n ≤ 10) (hw : ∀ i, i < n → 0 ≤ (s (c + 1) i).toInt ∧ (s (c + 1) i).toInt < 61) (hB : B (some (.int (f_sum (fun i => s (m0 + 1) (s (c + 1) i).toNatClampNeg) n))) s) : ∀ (m k : Nat) (x1 x2 : Int32), k + m = n → x2.toInt = k → x1 = f_sum (fun i => s (m0 + 1) (s (c + 1) i).toNatClampNeg) k → q_W G (d + 1) jm_Sections_worthTo B 4 [some (.ref c), some (.ref m0), some (.int x1), some (.int x2)] [] s := by
  intro m
  induction m with
  | zero =>
    intro k x1 x2 hk h2 h1
    rw [show k = n by omega] at h1
    rw [h1]
    clear h1 hw
    refine t_Sections_worthTo_4 hc hm _ _ ?_ ?_ ?_ ?_ ?_ ?_ <;> intros <;> first | exact hB | (exfalso; ((try simp only [i_lt, i_le, i_eq, i_in, i_cn, Int32.toInt_add, Int32.toInt_sub, Int32.toInt_mul, Int32.toInt_neg, Int32.reduceToInt, Int.bmod_add_bmod, Int.add_bmod_bmod, Int.bmod_sub_bmod, Int.sub_bmod_bmod, Int.bmod_mul_bmod, Int.mul_bmod_bmod, Int.bmod_neg_bmod, Nat.reducePow, Int.reduceBmod, Int.reduceNeg, Int.reduceMul, Int.reduceAdd, Int.reduceSub, not_true_eq_false, not_false_eq_true] at *) <;> (try simp (disch := omega) only [i_bm'] at *) <;> omega))
  | succ m ih =>
    intro k x1 x2 hk h2 h1
    have hx : x2.toNatClampNeg = k := by rw [i_cn]; omega
    have w := hw k (by omega)
    refine t_Sections_worthTo_4 hc hm _ _ ?_ ?_ ?_ ?_ ?_ ?_
    · intro h; clear ih h1 hx hw w; exfalso; ((try simp only [i_lt, i_le, i_eq, i_in, i_cn, Int32.toInt_add, Int32.toInt_sub, Int32.toInt_mul, Int32.toInt_neg, Int32.reduceToInt, Int.bmod_add_bmod, Int.add_bmod_bmod, Int.bmod_sub_bmod, Int.sub_bmod_bmod, Int.bmod_mul_bmod, Int.mul_bmod_bmod, Int.bmod_neg_bmod, Nat.reducePow, Int.reduceBmod, Int.reduceNeg, Int.reduceMul, Int.reduceAdd, Int.reduceSub, not_true_eq_false, not_false_eq_true] at *) <;> (try simp (disch := omega) only [i_bm'] at *) <;> omega)
    · intro h h'; clear ih h1 hx hw w; exfalso; ((try simp only [i_lt, i_le, i_eq, i_in, i_cn, Int32.toInt_add, Int32.toInt_sub, Int32.toInt_mul, Int32.toInt_neg, Int32.reduceToInt, Int.bmod_add_bmod, Int.add_bmod_bmod, Int.bmod_sub_bmod, Int.sub_bmod_bmod, Int.bmod_mul_bmod, Int.mul_bmod_bmod, Int.bmod_neg_bmod, Nat.reducePow, Int.reduceBmod, Int.reduceNeg, Int.reduceMul, Int.reduceAdd, Int.reduceSub, not_true_eq_false, not_false_eq_true] at *) <;> (try simp (disch := omega) only [i_bm'] at *) <;> omega)
    · intro h h'; clear ih h1 hx hw w; ((try simp only [i_lt, i_le, i_eq, i_in, i_cn, Int32.toInt_add, Int32.toInt_sub, Int32.toInt_mul, Int32.toInt_neg, Int32.reduceToInt, Int.bmod_add_bmod, Int.add_bmod_bmod, Int.bmod_sub_bmod, Int.sub_bmod_bmod, Int.bmod_mul_bmod, Int.mul_bmod_bmod, Int.bmod_neg_bmod, Nat.reducePow, Int.reduceBmod, Int.reduceNeg, Int.reduceMul, Int.reduceAdd, Int.reduceSub, not_true_eq_false, not_false_eq_true] at *) <;> (try simp (disch := omega) only [i_bm'] at *) <;> omega)
    · intro h h' e; rw [hx] at e; clear ih h1 hx hw; exfalso; ((try simp only [i_lt, i_le, i_eq, i_in, i_cn, Int32.toInt_add, Int32.toInt_sub, Int32.toInt_mul, Int32.toInt_neg, Int32.reduceToInt, Int.bmod_add_bmod, Int.add_bmod_bmod, Int.bmod_sub_bmod, Int.sub_bmod_bmod, Int.bmod_mul_bmod, Int.mul_bmod_bmod, Int.bmod_neg_bmod, Nat.reducePow, Int.reduceBmod, Int.reduceNeg, Int.reduceMul, Int.reduceAdd, Int.reduceSub, not_true_eq_false, not_false_eq_true] at *) <;> (try simp (disch := omega) only [i_bm'] at *) <;> omega)
    · intro h h' e e'; rw [hx] at e e'; clear ih h1 hx hw; exfalso; ((try simp only [i_lt, i_le, i_eq, i_in, i_cn, Int32.toInt_add, Int32.toInt_sub, Int32.toInt_mul, Int32.toInt_neg, Int32.reduceToInt, Int.bmod_add_bmod, Int.add_bmod_bmod, Int.bmod_sub_bmod, Int.sub_bmod_bmod, Int.bmod_mul_bmod, Int.mul_bmod_bmod, Int.bmod_neg_bmod, Nat.reducePow, Int.reduceBmod, Int.reduceNeg, Int.reduceMul, Int.reduceAdd, Int.reduceSub, not_true_eq_false, not_false_eq_true] at *) <;> (try simp (disch := omega) only [i_bm'] at *) <;> omega)
    · intro h h' e e'
      refine ih (k + 1) _ _ (by omega) (by clear ih h1 hx e hw w e'; ((try simp only [i_lt, i_le, i_eq, i_in, i_cn, Int32.toInt_add, Int32.toInt_sub, Int32.toInt_mul, Int32.toInt_neg, Int32.reduceToInt, Int.bmod_add_bmod, Int.add_bmod_bmod, Int.bmod_sub_bmod, Int.sub_bmod_bmod, Int.bmod_mul_bmod, Int.mul_bmod_bmod, Int.bmod_neg_bmod, Nat.reducePow, Int.reduceBmod, Int.reduceNeg, Int.reduceMul, Int.reduceAdd, Int.reduceSub, not_true_eq_false, not_false_eq_true] at *) <;> (try simp (disch := omega) only [i_bm'] at *) <;> omega)) ?_
      rw [h1, hx]
      rfl
theorem sp_C_worth {G : jv_X} {d : Nat} {B : Option Value → jg_H → Prop} {s : jg_H} {c m0 : Nat} (hc : f_8 c) (hm : f_5 m0) (n : Nat) (hn : (s c 0).toInt = n) (h10 : n ≤ 10) (hw : ∀ i, i < n → 0 ≤ (s (c + 1) i).toInt ∧ (s (c + 1) i).toInt < 61) (hB : B (some (.int (f_sum (fun i => s (m0 + 1) (s (c + 1) i).toNatClampNeg) n))) s) : q_P G (d + 2) 64 [.ref c, .ref m0] s B :=
  t_Sections_worthTo hc hm (lp_C_worth hc hm n hn h10 hw hB n 0 0 0 (by omega) rfl rfl)
theorem lp_M_valued {G : jv_X} {d : Nat} {B : Option Value → jg_H → Prop} {s : jg_H} (a : Int32) (ha : 0 ≤ a.toInt) (ha' : a.toInt < 15) (n : Nat) (hn : (s 146 53).toInt = n) (h10 : n ≤ 10) (hw : ∀ i, i < n → 0 ≤ (s 171 i).toInt ∧ (s 171 i).toInt < 61) (hB : B (some (.int (f_sum (fun i => s 148 (61 * a + s 171 i).toNatClampNeg) n))) s) : ∀ (m k : Nat) (x1 x2 : Int32), k + m = n → x2.toInt = k → x1 = f_sum (fun i => s 148 (61 * a + s 171 i).toNatClampNeg) k → q_W G d jm_M_valued B 4 [some (.ref 146), some (.int a), some (.int x1), some (.int x2)] [] s := by
  intro m
  induction m with
  | zero =>
    intro k x1 x2 hk h2 h1
    rw [show k = n by omega] at h1
    rw [h1]
    clear h1 hw
    refine t_M_valued_4 _ _ _ ?_ ?_ ?_ ?_ <;> intros <;> first | exact hB | (exfalso; ((try simp only [i_lt, i_le, i_eq, i_in, i_cn, Int32.toInt_add, Int32.toInt_sub, Int32.toInt_mul, Int32.toInt_neg, Int32.reduceToInt, Int.bmod_add_bmod, Int.add_bmod_bmod, Int.bmod_sub_bmod, Int.sub_bmod_bmod, Int.bmod_mul_bmod, Int.mul_bmod_bmod, Int.bmod_neg_bmod, Nat.reducePow, Int.reduceBmod, Int.reduceNeg, Int.reduceMul, Int.reduceAdd, Int.reduceSub, not_true_eq_false, not_false_eq_true] at *) <;> (try simp (disch := omega) only [i_bm'] at *) <;> omega))
  | succ m ih =>
    intro k x1 x2 hk h2 h1
    have hx : x2.toNatClampNeg = k := by rw [i_cn]; omega
    have w := hw k (by omega)
    refine t_M_valued_4 _ _ _ ?_ ?_ ?_ ?_
    · intro h; clear ih h1 hx hw w; exfalso; ((try simp only [i_lt, i_le, i_eq, i_in, i_cn, Int32.toInt_add, Int32.toInt_sub, Int32.toInt_mul, Int32.toInt_neg, Int32.reduceToInt, Int.bmod_add_bmod, Int.add_bmod_bmod, Int.bmod_sub_bmod, Int.sub_bmod_bmod, Int.bmod_mul_bmod, Int.mul_bmod_bmod, Int.bmod_neg_bmod, Nat.reducePow, Int.reduceBmod, Int.reduceNeg, Int.reduceMul, Int.reduceAdd, Int.reduceSub, not_true_eq_false, not_false_eq_true] at *) <;> (try simp (disch := omega) only [i_bm'] at *) <;> omega)
    · intro h; clear ih h1 hx hw w; ((try simp only [i_lt, i_le, i_eq, i_in, i_cn, Int32.toInt_add, Int32.toInt_sub, Int32.toInt_mul, Int32.toInt_neg, Int32.reduceToInt, Int.bmod_add_bmod, Int.add_bmod_bmod, Int.bmod_sub_bmod, Int.sub_bmod_bmod, Int.bmod_mul_bmod, Int.mul_bmod_bmod, Int.bmod_neg_bmod, Nat.reducePow, Int.reduceBmod, Int.reduceNeg, Int.reduceMul, Int.reduceAdd, Int.reduceSub, not_true_eq_false, not_false_eq_true] at *) <;> (try simp (disch := omega) only [i_bm'] at *) <;> omega)
    · intro h; rw [hx]; clear ih h1 hx hw; ((try simp only [i_lt, i_le, i_eq, i_in, i_cn, Int32.toInt_add, Int32.toInt_sub, Int32.toInt_mul, Int32.toInt_neg, Int32.reduceToInt, Int.bmod_add_bmod, Int.add_bmod_bmod, Int.bmod_sub_bmod, Int.sub_bmod_bmod, Int.bmod_mul_bmod, Int.mul_bmod_bmod, Int.bmod_neg_bmod, Nat.reducePow, Int.reduceBmod, Int.reduceNeg, Int.reduceMul, Int.reduceAdd, Int.reduceSub, not_true_eq_false, not_false_eq_true] at *) <;> (try simp (disch := omega) only [i_bm'] at *) <;> omega)
    · intro h
      refine ih (k + 1) _ _ (by omega) (by clear ih h1 hx hw w; ((try simp only [i_lt, i_le, i_eq, i_in, i_cn, Int32.toInt_add, Int32.toInt_sub, Int32.toInt_mul, Int32.toInt_neg, Int32.reduceToInt, Int.bmod_add_bmod, Int.add_bmod_bmod, Int.bmod_sub_bmod, Int.sub_bmod_bmod, Int.bmod_mul_bmod, Int.mul_bmod_bmod, Int.bmod_neg_bmod, Nat.reducePow, Int.reduceBmod, Int.reduceNeg, Int.reduceMul, Int.reduceAdd, Int.reduceSub, not_true_eq_false, not_false_eq_true] at *) <;> (try simp (disch := omega) only [i_bm'] at *) <;> omega)) ?_
      rw [h1, hx]
      rfl
theorem sp_M_valued {G : jv_X} {d : Nat} {B : Option Value → jg_H → Prop} {s : jg_H} (a : Int32) (ha : 0 ≤ a.toInt) (ha' : a.toInt < 15) (n : Nat) (hn : (s 146 53).toInt = n) (h10 : n ≤ 10) (hw : ∀ i, i < n → 0 ≤ (s 171 i).toInt ∧ (s 171 i).toInt < 61) (hB : B (some (.int (f_sum (fun i => s 148 (61 * a + s 171 i).toNatClampNeg) n))) s) : q_P G (d + 1) 170 [.ref 146, .int a] s B :=
  t_M_valued a (lp_M_valued a ha ha' n hn h10 hw hB n 0 0 0 (by omega) rfl rfl)
theorem lp_M_takes {G : jv_X} {d : Nat} {B : Option Value → jg_H → Prop} {s : jg_H} (a : Int32) (ha : 0 ≤ a.toInt) (ha' : a.toInt < 8) (n : Nat) (hn : (s 153 a.toNatClampNeg).toInt = n) (h10 : n ≤ 10) (hB : ∀ t : jg_H, t 146 53 = s 153 a.toNatClampNeg → (∀ i, i < n → t 171 i = s 154 (10 * a.toNatClampNeg + i)) → (∀ c j, ¬ c = 171 → (c = 146 → ¬ j = 53) → t c j = s c j) → B none t) : ∀ (m k : Nat) (x2 : Int32) (t : jg_H), k + m = n → x2.toInt = k → t 146 53 = s 153 a.toNatClampNeg → (∀ i, i < k → t 171 i = s 154 (10 * a.toNatClampNeg + i)) → (∀ c j, ¬ c = 171 → (c = 146 → ¬ j = 53) → t c j = s c j) → q_W G d jm_M_takes B 12 [some (.ref 146), some (.int a), some (.int x2)] [] t := by
  intro m
  induction m with
  | zero =>
    intro k x2 t hk h2 h1 h3 h4
    have e := hB t h1 (by rw [show n = k by omega]; exact h3) h4
    clear hB h3 h4
    rw [← h1] at hn
    refine t_M_takes_12 _ _ ?_ ?_ ?_ ?_ <;> intros <;> first | exact e | (exfalso; ((try simp only [i_lt, i_le, i_eq, i_in, i_cn, Int32.toInt_add, Int32.toInt_sub, Int32.toInt_mul, Int32.toInt_neg, Int32.reduceToInt, Int.bmod_add_bmod, Int.add_bmod_bmod, Int.bmod_sub_bmod, Int.sub_bmod_bmod, Int.bmod_mul_bmod, Int.mul_bmod_bmod, Int.bmod_neg_bmod, Nat.reducePow, Int.reduceBmod, Int.reduceNeg, Int.reduceMul, Int.reduceAdd, Int.reduceSub, not_true_eq_false, not_false_eq_true] at *) <;> (try simp (disch := omega) only [i_bm'] at *) <;> omega))
  | succ m ih =>
    intro k x2 t hk h2 h1 h3 h4
    have hx : x2.toNatClampNeg = k := by rw [i_cn]; omega
    have hn' := hn
    rw [← h1] at hn'
    refine t_M_takes_12 _ _ ?_ ?_ ?_ ?_
    · intro h; clear ih hx h3 h4 hB h1 hn; exfalso; ((try simp only [i_lt, i_le, i_eq, i_in, i_cn, Int32.toInt_add, Int32.toInt_sub, Int32.toInt_mul, Int32.toInt_neg, Int32.reduceToInt, Int.bmod_add_bmod, Int.add_bmod_bmod, Int.bmod_sub_bmod, Int.sub_bmod_bmod, Int.bmod_mul_bmod, Int.mul_bmod_bmod, Int.bmod_neg_bmod, Nat.reducePow, Int.reduceBmod, Int.reduceNeg, Int.reduceMul, Int.reduceAdd, Int.reduceSub, not_true_eq_false, not_false_eq_true] at *) <;> (try simp (disch := omega) only [i_bm'] at *) <;> omega)
    · intro h; clear ih hx h3 h4 hB h1 hn; ((try simp only [i_lt, i_le, i_eq, i_in, i_cn, Int32.toInt_add, Int32.toInt_sub, Int32.toInt_mul, Int32.toInt_neg, Int32.reduceToInt, Int.bmod_add_bmod, Int.add_bmod_bmod, Int.bmod_sub_bmod, Int.sub_bmod_bmod, Int.bmod_mul_bmod, Int.mul_bmod_bmod, Int.bmod_neg_bmod, Nat.reducePow, Int.reduceBmod, Int.reduceNeg, Int.reduceMul, Int.reduceAdd, Int.reduceSub, not_true_eq_false, not_false_eq_true] at *) <;> (try simp (disch := omega) only [i_bm'] at *) <;> omega)
    · intro h; clear ih hx h3 h4 hB h1 hn; ((try simp only [i_lt, i_le, i_eq, i_in, i_cn, Int32.toInt_add, Int32.toInt_sub, Int32.toInt_mul, Int32.toInt_neg, Int32.reduceToInt, Int.bmod_add_bmod, Int.add_bmod_bmod, Int.bmod_sub_bmod, Int.sub_bmod_bmod, Int.bmod_mul_bmod, Int.mul_bmod_bmod, Int.bmod_neg_bmod, Nat.reducePow, Int.reduceBmod, Int.reduceNeg, Int.reduceMul, Int.reduceAdd, Int.reduceSub, not_true_eq_false, not_false_eq_true] at *) <;> (try simp (disch := omega) only [i_bm'] at *) <;> omega)
    · intro h t' e
      have hi : (10 * a + x2).toNatClampNeg = 10 * a.toNatClampNeg + k := by clear ih h3 h4 hB h1 hn hn' h e; (try simp only [i_lt, i_le, i_eq, i_in, i_cn, Int32.toInt_add, Int32.toInt_sub, Int32.toInt_mul, Int32.toInt_neg, Int32.reduceToInt, Int.bmod_add_bmod, Int.add_bmod_bmod, Int.bmod_sub_bmod, Int.sub_bmod_bmod, Int.bmod_mul_bmod, Int.mul_bmod_bmod, Int.bmod_neg_bmod, Nat.reducePow, Int.reduceBmod, Int.reduceNeg, Int.reduceMul, Int.reduceAdd, Int.reduceSub, not_true_eq_false, not_false_eq_true] at *) <;> (try simp (disch := omega) only [i_bm'] at *); omega
      rw [hi, hx] at e
      subst e
      refine ih (k + 1) _ _ (by omega) (by clear ih hx h3 h4 hB h1 hn hi; ((try simp only [i_lt, i_le, i_eq, i_in, i_cn, Int32.toInt_add, Int32.toInt_sub, Int32.toInt_mul, Int32.toInt_neg, Int32.reduceToInt, Int.bmod_add_bmod, Int.add_bmod_bmod, Int.bmod_sub_bmod, Int.sub_bmod_bmod, Int.bmod_mul_bmod, Int.mul_bmod_bmod, Int.bmod_neg_bmod, Nat.reducePow, Int.reduceBmod, Int.reduceNeg, Int.reduceMul, Int.reduceAdd, Int.reduceSub, not_true_eq_false, not_false_eq_true] at *) <;> (try simp (disch := omega) only [i_bm'] at *) <;> omega)) (by (simp (disch := omega) only [u_hit, u_c, u_j]); exact h1) ?_ ?_
      · intro i hi
        by_cases e : i = k
        · subst e; (simp (disch := omega) only [u_hit, u_c, u_j]); exact h4 154 _ (by omega) (by omega)
        · (simp (disch := omega) only [u_hit, u_c, u_j]); exact h3 i (by omega)
      · intro c j hc hj
        rw [u_c (by omega)]
        exact h4 c j hc hj
theorem sp_M_takes {G : jv_X} {d : Nat} {B : Option Value → jg_H → Prop} {s : jg_H} (a : Int32) (ha : 0 ≤ a.toInt) (ha' : a.toInt < 8) (n : Nat) (hn : (s 153 a.toNatClampNeg).toInt = n) (h10 : n ≤ 10) (hB : ∀ t : jg_H, t 146 53 = s 153 a.toNatClampNeg → (∀ i, i < n → t 171 i = s 154 (10 * a.toNatClampNeg + i)) → (∀ c j, ¬ c = 171 → (c = 146 → ¬ j = 53) → t c j = s c j) → B none t) : q_P G (d + 1) 169 [.ref 146, .int a] s B := by
  refine t_M_takes a ?_ ?_
  · clear hB; ((try simp only [i_lt, i_le, i_eq, i_in, i_cn, Int32.toInt_add, Int32.toInt_sub, Int32.toInt_mul, Int32.toInt_neg, Int32.reduceToInt, Int.bmod_add_bmod, Int.add_bmod_bmod, Int.bmod_sub_bmod, Int.sub_bmod_bmod, Int.bmod_mul_bmod, Int.mul_bmod_bmod, Int.bmod_neg_bmod, Nat.reducePow, Int.reduceBmod, Int.reduceNeg, Int.reduceMul, Int.reduceAdd, Int.reduceSub, not_true_eq_false, not_false_eq_true] at *) <;> (try simp (disch := omega) only [i_bm'] at *) <;> omega)
  · intro s1 e
    subst e
    refine lp_M_takes a ha ha' n hn h10 hB n 0 0 _ (by omega) rfl (by (simp (disch := omega) only [u_hit, u_c, u_j])) (fun i hi => absurd hi (by omega)) ?_
    intro c j hc hj
    exact u_r hj
theorem lp_C_reset {G : jv_X} {d : Nat} {B : Option Value → jg_H → Prop} {s : jg_H} {c : Nat} (hc : f_10 c) (v : Int32) (hB : ∀ t : jg_H, (∀ i, i < 40 → t (c + 1) i = 0) → (∀ q j, ¬ (q = c + 1 ∧ j < 40) → t q j = s q j) → B none t) : ∀ (m k : Nat) (x2 : Int32) (t : jg_H), k + m = 40 → x2.toInt = k → (∀ i, i < k → t (c + 1) i = 0) → (∀ q j, ¬ (q = c + 1 ∧ j < 40) → t q j = s q j) → q_W G d jm_Tray_reset B 7 [some (.ref c), some (.int v), some (.int x2)] [] t := by
  intro m
  induction m with
  | zero =>
    intro k x2 t hk h2 h3 h4
    have e := hB t (by rw [show 40 = k by omega]; exact h3) h4
    clear hB h3 h4
    refine t_Tray_reset_7 hc _ _ ?_ ?_ ?_ <;> intros <;> first | exact e | (exfalso; ((try simp only [i_lt, i_le, i_eq, i_in, i_cn, Int32.toInt_add, Int32.toInt_sub, Int32.toInt_mul, Int32.toInt_neg, Int32.reduceToInt, Int.bmod_add_bmod, Int.add_bmod_bmod, Int.bmod_sub_bmod, Int.sub_bmod_bmod, Int.bmod_mul_bmod, Int.mul_bmod_bmod, Int.bmod_neg_bmod, Nat.reducePow, Int.reduceBmod, Int.reduceNeg, Int.reduceMul, Int.reduceAdd, Int.reduceSub, not_true_eq_false, not_false_eq_true] at *) <;> (try simp (disch := omega) only [i_bm'] at *) <;> omega))
  | succ m ih =>
    intro k x2 t hk h2 h3 h4
    have hx : x2.toNatClampNeg = k := by rw [i_cn]; omega
    refine t_Tray_reset_7 hc _ _ ?_ ?_ ?_
    · intro h; clear ih hx h3 h4 hB; exfalso; ((try simp only [i_lt, i_le, i_eq, i_in, i_cn, Int32.toInt_add, Int32.toInt_sub, Int32.toInt_mul, Int32.toInt_neg, Int32.reduceToInt, Int.bmod_add_bmod, Int.add_bmod_bmod, Int.bmod_sub_bmod, Int.sub_bmod_bmod, Int.bmod_mul_bmod, Int.mul_bmod_bmod, Int.bmod_neg_bmod, Nat.reducePow, Int.reduceBmod, Int.reduceNeg, Int.reduceMul, Int.reduceAdd, Int.reduceSub, not_true_eq_false, not_false_eq_true] at *) <;> (try simp (disch := omega) only [i_bm'] at *) <;> omega)
    · intro h; clear ih hx h3 h4 hB; ((try simp only [i_lt, i_le, i_eq, i_in, i_cn, Int32.toInt_add, Int32.toInt_sub, Int32.toInt_mul, Int32.toInt_neg, Int32.reduceToInt, Int.bmod_add_bmod, Int.add_bmod_bmod, Int.bmod_sub_bmod, Int.sub_bmod_bmod, Int.bmod_mul_bmod, Int.mul_bmod_bmod, Int.bmod_neg_bmod, Nat.reducePow, Int.reduceBmod, Int.reduceNeg, Int.reduceMul, Int.reduceAdd, Int.reduceSub, not_true_eq_false, not_false_eq_true] at *) <;> (try simp (disch := omega) only [i_bm'] at *) <;> omega)
    · intro h t' e
      rw [hx] at e
      subst e
      refine ih (k + 1) _ _ (by omega) (by clear ih hx h3 h4 hB; ((try simp only [i_lt, i_le, i_eq, i_in, i_cn, Int32.toInt_add, Int32.toInt_sub, Int32.toInt_mul, Int32.toInt_neg, Int32.reduceToInt, Int.bmod_add_bmod, Int.add_bmod_bmod, Int.bmod_sub_bmod, Int.sub_bmod_bmod, Int.bmod_mul_bmod, Int.mul_bmod_bmod, Int.bmod_neg_bmod, Nat.reducePow, Int.reduceBmod, Int.reduceNeg, Int.reduceMul, Int.reduceAdd, Int.reduceSub, not_true_eq_false, not_false_eq_true] at *) <;> (try simp (disch := omega) only [i_bm'] at *) <;> omega)) ?_ ?_
      · intro i hi
        by_cases e : i = k
        · subst e; (simp (disch := omega) only [u_hit, u_c, u_j])
        · (simp (disch := omega) only [u_hit, u_c, u_j]); exact h3 i (by omega)
      · intro q j hq
        rw [u_r (by omega)]
        exact h4 q j hq
theorem sp_C_reset {G : jv_X} {d : Nat} {B : Option Value → jg_H → Prop} {s : jg_H} {c : Nat} (hc : f_10 c) (v : Int32) (hB : ∀ t : jg_H, (∀ i, i < 40 → t (c + 1) i = 0) → (∀ q j, ¬ (q = c + 1 ∧ j < 40) → t q j = jg_up s c 0 v q j) → B none t) : q_P G (d + 1) 126 [.ref c, .int v] s B := by
  refine t_Tray_reset hc v ?_
  intro s1 e
  subst e
  exact lp_C_reset hc v hB 40 0 0 _ (by omega) rfl (fun i hi => absurd hi (by omega)) (fun _ _ _ => rfl)
theorem lp_M_tray {G : jv_X} {d : Nat} {B : Option Value → jg_H → Prop} {s : jg_H} (a v : Int32) (ha : 0 ≤ a.toInt) (ha' : a.toInt < 4) (hB : ∀ t : jg_H, (∀ i, i < 40 → t 167 (40 * a.toNatClampNeg + i) = 0) → (∀ q j, ¬ (q = 167 ∧ 40 * a.toNatClampNeg ≤ j ∧ j < 40 * a.toNatClampNeg + 40) → t q j = s q j) → B (some (.int 1)) t) : ∀ (m k : Nat) (x2 : Int32) (t : jg_H), k + m = 40 → x2.toInt = 40 * a.toNatClampNeg + k → (∀ i, i < k → t 167 (40 * a.toNatClampNeg + i) = 0) → (∀ q j, ¬ (q = 167 ∧ 40 * a.toNatClampNeg ≤ j ∧ j < 40 * a.toNatClampNeg + 40) → t q j = s q j) → q_W G (d + 2) jm_M_tray B 36 [some (.ref 146), some (.int a), some (.int v), some (.int x2)] [] t := by
  have hA : (a.toNatClampNeg : Int) = a.toInt := by rw [i_cn]; omega
  intro m
  induction m with
  | zero =>
    intro k x2 t hk h2 h3 h4
    have e := hB t (by intro i hi; exact h3 i (by omega)) h4
    clear hB h3 h4
    rw [hA] at h2
    clear hA
    refine t_M_tray_36 _ _ _ ?_ ?_ ?_ <;> intros <;> first | exact e | (exfalso; ((try simp only [i_lt, i_le, i_eq, i_in, i_cn, Int32.toInt_add, Int32.toInt_sub, Int32.toInt_mul, Int32.toInt_neg, Int32.reduceToInt, Int.bmod_add_bmod, Int.add_bmod_bmod, Int.bmod_sub_bmod, Int.sub_bmod_bmod, Int.bmod_mul_bmod, Int.mul_bmod_bmod, Int.bmod_neg_bmod, Nat.reducePow, Int.reduceBmod, Int.reduceNeg, Int.reduceMul, Int.reduceAdd, Int.reduceSub, not_true_eq_false, not_false_eq_true] at *) <;> (try simp (disch := omega) only [i_bm'] at *) <;> omega))
  | succ m ih =>
    intro k x2 t hk h2 h3 h4
    have hx : x2.toNatClampNeg = 40 * a.toNatClampNeg + k := by rw [i_cn x2]; omega
    have h2' := h2
    rw [hA] at h2'
    refine t_M_tray_36 _ _ _ ?_ ?_ ?_
    · intro h; clear ih hx h3 h4 hB hA h2; exfalso; ((try simp only [i_lt, i_le, i_eq, i_in, i_cn, Int32.toInt_add, Int32.toInt_sub, Int32.toInt_mul, Int32.toInt_neg, Int32.reduceToInt, Int.bmod_add_bmod, Int.add_bmod_bmod, Int.bmod_sub_bmod, Int.sub_bmod_bmod, Int.bmod_mul_bmod, Int.mul_bmod_bmod, Int.bmod_neg_bmod, Nat.reducePow, Int.reduceBmod, Int.reduceNeg, Int.reduceMul, Int.reduceAdd, Int.reduceSub, not_true_eq_false, not_false_eq_true] at *) <;> (try simp (disch := omega) only [i_bm'] at *) <;> omega)
    · intro h; clear ih hx h3 h4 hB hA h2; ((try simp only [i_lt, i_le, i_eq, i_in, i_cn, Int32.toInt_add, Int32.toInt_sub, Int32.toInt_mul, Int32.toInt_neg, Int32.reduceToInt, Int.bmod_add_bmod, Int.add_bmod_bmod, Int.bmod_sub_bmod, Int.sub_bmod_bmod, Int.bmod_mul_bmod, Int.mul_bmod_bmod, Int.bmod_neg_bmod, Nat.reducePow, Int.reduceBmod, Int.reduceNeg, Int.reduceMul, Int.reduceAdd, Int.reduceSub, not_true_eq_false, not_false_eq_true] at *) <;> (try simp (disch := omega) only [i_bm'] at *) <;> omega)
    · intro h t' e
      rw [hx] at e
      subst e
      refine ih (k + 1) _ _ (by omega) ?_ ?_ ?_
      · rw [hA]; clear ih hx h3 h4 hB h2 hA; ((try simp only [i_lt, i_le, i_eq, i_in, i_cn, Int32.toInt_add, Int32.toInt_sub, Int32.toInt_mul, Int32.toInt_neg, Int32.reduceToInt, Int.bmod_add_bmod, Int.add_bmod_bmod, Int.bmod_sub_bmod, Int.sub_bmod_bmod, Int.bmod_mul_bmod, Int.mul_bmod_bmod, Int.bmod_neg_bmod, Nat.reducePow, Int.reduceBmod, Int.reduceNeg, Int.reduceMul, Int.reduceAdd, Int.reduceSub, not_true_eq_false, not_false_eq_true] at *) <;> (try simp (disch := omega) only [i_bm'] at *) <;> omega)
      · intro i hi
        by_cases e : i = k
        · subst e; (simp (disch := omega) only [u_hit, u_c, u_j])
        · (simp (disch := omega) only [u_hit, u_c, u_j]); exact h3 i (by omega)
      · intro q j hq
        rw [u_r (by omega)]
        exact h4 q j hq
theorem Inv_0 {s t : jg_H} (hI : Inv s) (h : f_only 0 s t) : Inv t :=
  Inv_fr hI (fo_same h (by decide)) (fo_same h (by decide)) (fo_same h (by decide)) (fo_same h (by decide)) (fo_same h (by decide)) (fo_same h (by decide)) (fo_same h (by decide)) (fo_same h (by decide)) (fo_same h (by decide)) (fo_same h (by decide))
theorem fo_takes {s t : jg_H} (h : ∀ c j, ¬ c = 171 → (c = 146 → ¬ j = 53) → t c j = s c j) : f_only 0 s t :=
  fun c j hg => h c j (fun e => hg (by subst e; rfl)) (fun e e' => hg (by subst e; subst e'; rfl))
/-- the same worth on both sides -/
theorem wor_eq {s t : jg_H} (hm : I_mem s) (hb : I_bil s) (A : Nat) (hA : A < 8) (a : Int32) (ha : 0 ≤ a.toInt) (ha' : a.toInt < 15) (n : Nat) (hn : (s 153 A).toInt = n) (h1 : ∀ i, i < n → t 171 i = s 154 (10 * A + i)) (h2 : t 148 = s 148) : f_sum (fun i => s (2 + 2 * a.toNatClampNeg + 1) (s (33 + 3 * A + 1 + 1) i).toNatClampNeg) n = f_sum (fun i => t 148 (61 * a + t 171 i).toNatClampNeg) n := by
  refine f_sum_eq n fun i hi => ?_
  obtain ⟨b1, b2, b3⟩ := hb.2.2.2.2 A i hA (by rw [hn]; omega)
  show s (2 + 2 * a.toNatClampNeg + 1) (s (33 + 3 * A + 1 + 1) i).toNatClampNeg = t 148 (61 * a + t 171 i).toNatClampNeg
  rw [h1 i hi, h2, b1]
  exact (key_lik hm a _ ha ha' (by omega) (by omega)).1
