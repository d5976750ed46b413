/-! the two-place operations -/
theorem sp_M_two {G : jv_X} {d : Nat} {B : Option Value → jg_H → Prop} {s : jg_H} (a1 a2 a3 : Int32) (hB : B (some (.int (f_two a1 a2 a3))) s) : q_P G (d + 1) 181 [.int a1, .int a2, .int a3] s B := by
  refine t_M_two a1 a2 a3 ?_ ?_ ?_ ?_ ?_ ?_ ?_ ?_ ?_ ?_ ?_ ?_ ?_ <;> intros <;> refine cast (congrArg (fun z => B (some (.int z)) s) (show f_two a1 a2 a3 = _ from ?_)) hB <;> clear hB <;> unfold f_two <;> simp [*]
theorem sp_C_joined {G : jv_X} {d : Nat} {B : Option Value → jg_H → Prop} {s : jg_H} (a1 a2 a3 o : Int32) (ho : a1.toInt = -7 - o.toInt) (h2 : 2 ≤ o.toInt) (h10 : o.toInt < 10) (h4 : ¬ o.toInt = 4) (hB : B (some (.int (f_two o a2 a3))) s) : q_P G (d + 1) 79 [.int a1, .int a2, .int a3] s B := by
  refine t_Machine_joined a1 a2 a3 ?_ ?_ ?_ ?_ ?_ ?_ ?_ ?_ ?_ ?_ ?_ ?_ ?_ ?_ <;> intros <;> first
    | (exfalso; clear hB; ((try simp only [i_lt, i_le, i_eq, i_in, i_cn, Int32.toInt_add, Int32.toInt_sub, Int32.toInt_mul, Int32.toInt_neg, Int32.reduceToInt, Int.bmod_add_bmod, Int.add_bmod_bmod, Int.bmod_sub_bmod, Int.sub_bmod_bmod, Int.bmod_mul_bmod, Int.mul_bmod_bmod, Int.bmod_neg_bmod, Nat.reducePow, Int.reduceBmod, Int.reduceNeg, Int.reduceMul, Int.reduceAdd, Int.reduceSub, not_true_eq_false, not_false_eq_true] at *) <;> (try simp (disch := omega) only [i_bm'] at *) <;> omega))
    | (have e : o = 2 := by (clear hB; ((try simp only [i_lt, i_le, i_eq, i_in, i_cn, Int32.toInt_add, Int32.toInt_sub, Int32.toInt_mul, Int32.toInt_neg, Int32.reduceToInt, Int.bmod_add_bmod, Int.add_bmod_bmod, Int.bmod_sub_bmod, Int.sub_bmod_bmod, Int.bmod_mul_bmod, Int.mul_bmod_bmod, Int.bmod_neg_bmod, Nat.reducePow, Int.reduceBmod, Int.reduceNeg, Int.reduceMul, Int.reduceAdd, Int.reduceSub, not_true_eq_false, not_false_eq_true] at *) <;> (try simp (disch := omega) only [i_bm'] at *) <;> omega))
       subst e
       refine cast (congrArg (fun z => B (some (.int z)) s) (show f_two 2 a2 a3 = _ from ?_)) hB
       clear hB ho h2 h10 h4
       unfold f_two
       simp [*])
    | (have e : o = 3 := by (clear hB; ((try simp only [i_lt, i_le, i_eq, i_in, i_cn, Int32.toInt_add, Int32.toInt_sub, Int32.toInt_mul, Int32.toInt_neg, Int32.reduceToInt, Int.bmod_add_bmod, Int.add_bmod_bmod, Int.bmod_sub_bmod, Int.sub_bmod_bmod, Int.bmod_mul_bmod, Int.mul_bmod_bmod, Int.bmod_neg_bmod, Nat.reducePow, Int.reduceBmod, Int.reduceNeg, Int.reduceMul, Int.reduceAdd, Int.reduceSub, not_true_eq_false, not_false_eq_true] at *) <;> (try simp (disch := omega) only [i_bm'] at *) <;> omega))
       subst e
       refine cast (congrArg (fun z => B (some (.int z)) s) (show f_two 3 a2 a3 = _ from ?_)) hB
       clear hB ho h2 h10 h4
       unfold f_two
       simp [*])
    | (have e : o = 5 := by (clear hB; ((try simp only [i_lt, i_le, i_eq, i_in, i_cn, Int32.toInt_add, Int32.toInt_sub, Int32.toInt_mul, Int32.toInt_neg, Int32.reduceToInt, Int.bmod_add_bmod, Int.add_bmod_bmod, Int.bmod_sub_bmod, Int.sub_bmod_bmod, Int.bmod_mul_bmod, Int.mul_bmod_bmod, Int.bmod_neg_bmod, Nat.reducePow, Int.reduceBmod, Int.reduceNeg, Int.reduceMul, Int.reduceAdd, Int.reduceSub, not_true_eq_false, not_false_eq_true] at *) <;> (try simp (disch := omega) only [i_bm'] at *) <;> omega))
       subst e
       refine cast (congrArg (fun z => B (some (.int z)) s) (show f_two 5 a2 a3 = _ from ?_)) hB
       clear hB ho h2 h10 h4
       unfold f_two
       simp [*])
    | (have e : o = 6 := by (clear hB; ((try simp only [i_lt, i_le, i_eq, i_in, i_cn, Int32.toInt_add, Int32.toInt_sub, Int32.toInt_mul, Int32.toInt_neg, Int32.reduceToInt, Int.bmod_add_bmod, Int.add_bmod_bmod, Int.bmod_sub_bmod, Int.sub_bmod_bmod, Int.bmod_mul_bmod, Int.mul_bmod_bmod, Int.bmod_neg_bmod, Nat.reducePow, Int.reduceBmod, Int.reduceNeg, Int.reduceMul, Int.reduceAdd, Int.reduceSub, not_true_eq_false, not_false_eq_true] at *) <;> (try simp (disch := omega) only [i_bm'] at *) <;> omega))
       subst e
       refine cast (congrArg (fun z => B (some (.int z)) s) (show f_two 6 a2 a3 = _ from ?_)) hB
       clear hB ho h2 h10 h4
       unfold f_two
       simp [*])
    | (have e : o = 7 := by (clear hB; ((try simp only [i_lt, i_le, i_eq, i_in, i_cn, Int32.toInt_add, Int32.toInt_sub, Int32.toInt_mul, Int32.toInt_neg, Int32.reduceToInt, Int.bmod_add_bmod, Int.add_bmod_bmod, Int.bmod_sub_bmod, Int.sub_bmod_bmod, Int.bmod_mul_bmod, Int.mul_bmod_bmod, Int.bmod_neg_bmod, Nat.reducePow, Int.reduceBmod, Int.reduceNeg, Int.reduceMul, Int.reduceAdd, Int.reduceSub, not_true_eq_false, not_false_eq_true] at *) <;> (try simp (disch := omega) only [i_bm'] at *) <;> omega))
       subst e
       refine cast (congrArg (fun z => B (some (.int z)) s) (show f_two 7 a2 a3 = _ from ?_)) hB
       clear hB ho h2 h10 h4
       unfold f_two
       simp [*])
    | (have e : o = 8 := by (clear hB; ((try simp only [i_lt, i_le, i_eq, i_in, i_cn, Int32.toInt_add, Int32.toInt_sub, Int32.toInt_mul, Int32.toInt_neg, Int32.reduceToInt, Int.bmod_add_bmod, Int.add_bmod_bmod, Int.bmod_sub_bmod, Int.sub_bmod_bmod, Int.bmod_mul_bmod, Int.mul_bmod_bmod, Int.bmod_neg_bmod, Nat.reducePow, Int.reduceBmod, Int.reduceNeg, Int.reduceMul, Int.reduceAdd, Int.reduceSub, not_true_eq_false, not_false_eq_true] at *) <;> (try simp (disch := omega) only [i_bm'] at *) <;> omega))
       subst e
       refine cast (congrArg (fun z => B (some (.int z)) s) (show f_two 8 a2 a3 = _ from ?_)) hB
       clear hB ho h2 h10 h4
       unfold f_two
       simp [*])
    | (have e : o = 9 := by (clear hB; ((try simp only [i_lt, i_le, i_eq, i_in, i_cn, Int32.toInt_add, Int32.toInt_sub, Int32.toInt_mul, Int32.toInt_neg, Int32.reduceToInt, Int.bmod_add_bmod, Int.add_bmod_bmod, Int.bmod_sub_bmod, Int.sub_bmod_bmod, Int.bmod_mul_bmod, Int.mul_bmod_bmod, Int.bmod_neg_bmod, Nat.reducePow, Int.reduceBmod, Int.reduceNeg, Int.reduceMul, Int.reduceAdd, Int.reduceSub, not_true_eq_false, not_false_eq_true] at *) <;> (try simp (disch := omega) only [i_bm'] at *) <;> omega))
       subst e
       refine cast (congrArg (fun z => B (some (.int z)) s) (show f_two 9 a2 a3 = _ from ?_)) hB
       clear hB ho h2 h10 h4
       unfold f_two
       simp [*])
