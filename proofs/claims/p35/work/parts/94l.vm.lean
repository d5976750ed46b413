/-! the reference's machine -/
set_option maxRecDepth 20000 in
theorem lp_M_worked {G : jv_X} {d : Nat} {B : Option Value → jg_H → Prop} {s : jg_H} (x1 x2 x3 x4 x5 x6 x7 : Int32) (p1 : 0 ≤ x1.toInt) (p2 : x1.toInt < 8) (p3 : 0 ≤ x2.toInt) (p4 : x2.toInt < 4) (e q : Nat) (hqq : (q : Int) = 200 * x1.toInt) (he : (s 165 (((5 * x1) + x2) + 1).toNatClampNeg).toInt = e) (he2 : e ≤ 200) (hm0 : 0 ≤ (s 146 0).toInt) (hm15 : (s 146 0).toInt ≤ 15) (R : Int32) (hB : ∀ t : jg_H, (∀ a j, ¬ a = 170 → t a j = s a j) → B (some (.int R)) t) : ∀ (m k h : Nat) (x8 x9 : Int32) (o10 : Option Value) (t : jg_H), k + m = e → x9.toInt = (q : Int) + k → x8.toInt = h → h ≤ k → f_n o10 = true → t_bal (s 163) m (q + k) h → v_ev (s 163) (s 164) (v_nm s) m (q + k) h (t 170) = R → (∀ a j, ¬ a = 170 → t a j = s a j) → q_W G (d + 2) jm_M_worked B 50 [some (.ref 146), some (.int x1), some (.int x2), some (.int x3), some (.int x4), some (.int x5), some (.int x6), some (.int x7), some (.int x8), some (.int x9), o10] [] t := by
  intro m
  induction m with
  | zero =>
    intro k h x8 x9 o10 t hk h9 h8 hh h5 hb hv hf
    have hb : h = 1 := hb
    have hv : t 170 0 = R := hv
    have he' : (t 165 (((5 * x1) + x2) + 1).toNatClampNeg).toInt = e := by rw [hf _ _ (by decide)]; exact he
    have hBt := hB t hf
    clear hB hf he
    refine t2_M_worked_50 (d := d + 2) x1 x2 x3 x4 x5 x6 x7 x8 x9 h5 ?_ ?fin ?_ ?_ ?_ ?_ ?_ ?_ ?_ ?_ ?_ ?_ ?_ ?_ ?_ ?_ ?_ ?_ ?_
    case fin => intro _; rw [hv]; exact hBt
    all_goals (intros; generalize t 165 (((5 * x1) + x2) + 1).toNatClampNeg = E at *; clear hBt hv; first | (exfalso; ((try simp only [i_lt, i_le, i_eq, i_in, i_cn, Int32.toInt_add, Int32.toInt_sub, Int32.toInt_mul, Int32.toInt_neg, Int32.reduceToInt, Int.bmod_add_bmod, Int.add_bmod_bmod, Int.bmod_sub_bmod, Int.sub_bmod_bmod, Int.bmod_mul_bmod, Int.mul_bmod_bmod, Int.bmod_neg_bmod, Nat.reducePow, Int.reduceBmod, Int.reduceNeg, Int.reduceMul, Int.reduceAdd, Int.reduceSub, not_true_eq_false, not_false_eq_true] at *) <;> (try simp (disch := omega) only [i_bm'] at *) <;> omega)) | ((try simp only [i_lt, i_le, i_eq, i_in, i_cn, Int32.toInt_add, Int32.toInt_sub, Int32.toInt_mul, Int32.toInt_neg, Int32.reduceToInt, Int.bmod_add_bmod, Int.add_bmod_bmod, Int.bmod_sub_bmod, Int.sub_bmod_bmod, Int.bmod_mul_bmod, Int.mul_bmod_bmod, Int.bmod_neg_bmod, Nat.reducePow, Int.reduceBmod, Int.reduceNeg, Int.reduceMul, Int.reduceAdd, Int.reduceSub, not_true_eq_false, not_false_eq_true] at *) <;> (try simp (disch := omega) only [i_bm'] at *) <;> omega))
  | succ m ih =>
    intro k h x8 x9 o10 t hk h9 h8 hh h5 hb hv hf
    have hx9 : x9.toNatClampNeg = q + k := by rw [i_cn]; omega
    have hx8 : x8.toNatClampNeg = h := by rw [i_cn]; omega
    have hC : t 163 x9.toNatClampNeg = s 163 (q + k) := by rw [hx9]; exact hf _ _ (by decide)
    have hP : t 164 x9.toNatClampNeg = s 164 (q + k) := by rw [hx9]; exact hf _ _ (by decide)
    have he' : (t 165 (((5 * x1) + x2) + 1).toNatClampNeg).toInt = e := by rw [hf _ _ (by decide)]; exact he
    have hx91 : (x9 + 1).toInt = (q : Int) + ((k + 1 : Nat) : Int) := by clear hB hv hf he he' ih hb hC hP hx9 hx8; ((try simp only [i_lt, i_le, i_eq, i_in, i_cn, Int32.toInt_add, Int32.toInt_sub, Int32.toInt_mul, Int32.toInt_neg, Int32.reduceToInt, Int.bmod_add_bmod, Int.add_bmod_bmod, Int.bmod_sub_bmod, Int.sub_bmod_bmod, Int.bmod_mul_bmod, Int.mul_bmod_bmod, Int.bmod_neg_bmod, Nat.reducePow, Int.reduceBmod, Int.reduceNeg, Int.reduceMul, Int.reduceAdd, Int.reduceSub, not_true_eq_false, not_false_eq_true] at *) <;> (try simp (disch := omega) only [i_bm'] at *) <;> omega)
    have ff : ∀ (i : Nat) (x : Int32) (a j : Nat), ¬ a = 170 → jg_up t 170 i x a j = s a j := fun i x a j ha => (u_c ha).trans (hf a j ha)
    have hq : q + k + 1 = q + (k + 1) := by omega
    have hnm : v_nm t = v_nm s := by
      funext x
      unfold v_nm
      rw [hf 146 _ (by decide), hf 146 _ (by decide), hf 146 _ (by decide), hf 146 _ (by decide), hf 146 _ (by decide), hf 146 _ (by decide), hf 146 _ (by decide), show t 151 = s 151 from funext fun j => hf 151 j (by decide)]
    unfold v_ev at hv
    rw [hq] at hv
    unfold t_bal at hb
    rw [hq] at hb
    generalize hE : t 165 (((5 * x1) + x2) + 1).toNatClampNeg = E at *
    rcases hb with ⟨h1 | h1, hb⟩ | ⟨h1 | h1, hh1, hb⟩ | ⟨e0, e1, e4, e10, hh1, hb⟩
    · rw [if_pos h1] at hv
      refine t2_M_worked_50 (d := d + 2) x1 x2 x3 x4 x5 x6 x7 x8 x9 h5 ?_ ?_ ?_ ?_ ?_ ?fin ?_ ?_ ?_ ?_ ?_ ?_ ?_ ?_ ?_ ?_ ?_ ?_ ?_
      case fin =>
        intro _ _ s6 e6
        rw [hP, hx8] at e6
        subst e6
        exact ih (k + 1) (h + 1) _ _ _ _ (by omega) hx91 (by clear hB hv hf he ih hb hC hP hx9 hx8 hE ff hnm h1; ((try simp only [i_lt, i_le, i_eq, i_in, i_cn, Int32.toInt_add, Int32.toInt_sub, Int32.toInt_mul, Int32.toInt_neg, Int32.reduceToInt, Int.bmod_add_bmod, Int.add_bmod_bmod, Int.bmod_sub_bmod, Int.sub_bmod_bmod, Int.bmod_mul_bmod, Int.mul_bmod_bmod, Int.bmod_neg_bmod, Nat.reducePow, Int.reduceBmod, Int.reduceNeg, Int.reduceMul, Int.reduceAdd, Int.reduceSub, not_true_eq_false, not_false_eq_true] at *) <;> (try simp (disch := omega) only [i_bm'] at *) <;> omega)) (by omega) rfl hb (by rw [up_row]; exact hv) (ff _ _)
      all_goals (intros; (try rw [hC] at *); (try rw [hE] at *); (try rw [h1] at *); clear ih hB he hf hb hv ff hx91 hq hC hE hP hnm; first | (exfalso; ((try simp only [i_lt, i_le, i_eq, i_in, i_cn, Int32.toInt_add, Int32.toInt_sub, Int32.toInt_mul, Int32.toInt_neg, Int32.reduceToInt, Int.bmod_add_bmod, Int.add_bmod_bmod, Int.bmod_sub_bmod, Int.sub_bmod_bmod, Int.bmod_mul_bmod, Int.mul_bmod_bmod, Int.bmod_neg_bmod, Nat.reducePow, Int.reduceBmod, Int.reduceNeg, Int.reduceMul, Int.reduceAdd, Int.reduceSub, not_true_eq_false, not_false_eq_true] at *) <;> (try simp (disch := omega) only [i_bm'] at *) <;> omega)) | ((try simp only [i_lt, i_le, i_eq, i_in, i_cn, Int32.toInt_add, Int32.toInt_sub, Int32.toInt_mul, Int32.toInt_neg, Int32.reduceToInt, Int.bmod_add_bmod, Int.add_bmod_bmod, Int.bmod_sub_bmod, Int.sub_bmod_bmod, Int.bmod_mul_bmod, Int.mul_bmod_bmod, Int.bmod_neg_bmod, Nat.reducePow, Int.reduceBmod, Int.reduceNeg, Int.reduceMul, Int.reduceAdd, Int.reduceSub, not_true_eq_false, not_false_eq_true] at *) <;> (try simp (disch := omega) only [i_bm'] at *) <;> omega))
    · have n0 : ¬ s 163 (q + k) = 0 := by rw [h1]; decide
      rw [if_neg n0, if_pos h1] at hv
      refine t2_M_worked_50 (d := d + 2) x1 x2 x3 x4 x5 x6 x7 x8 x9 h5 ?_ ?_ ?_ ?_ ?_ ?_ ?_ ?_ ?_ ?_ ?_ ?_ ?_ ?_ ?_ ?_ ?_ ?_ ?fin
      case fin =>
        intro _ _ _
        rw [hP]
        refine sp_M_named (d := d) _ (by rw [hf 146 0 (by decide)]; exact hm0) (by rw [hf 146 0 (by decide)]; exact hm15) ?_
        rw [hnm]
        refine t2_M_worked_125 (d := d + 2) _ _ _ _ _ _ _ _ _ _ _ _ ?_ ?_
        · clear ih hB he hf hb hv ff hx91 hq hC hE hP hnm; clear h1 n0; ((try simp only [i_lt, i_le, i_eq, i_in, i_cn, Int32.toInt_add, Int32.toInt_sub, Int32.toInt_mul, Int32.toInt_neg, Int32.reduceToInt, Int.bmod_add_bmod, Int.add_bmod_bmod, Int.bmod_sub_bmod, Int.sub_bmod_bmod, Int.bmod_mul_bmod, Int.mul_bmod_bmod, Int.bmod_neg_bmod, Nat.reducePow, Int.reduceBmod, Int.reduceNeg, Int.reduceMul, Int.reduceAdd, Int.reduceSub, not_true_eq_false, not_false_eq_true] at *) <;> (try simp (disch := omega) only [i_bm'] at *) <;> omega)
        · intro s6 e6
          rw [hx8] at e6
          subst e6
          exact ih (k + 1) (h + 1) _ _ _ _ (by omega) hx91 (by clear hB hv hf he ih hb hC hP hx9 hx8 hE ff hnm h1 n0; ((try simp only [i_lt, i_le, i_eq, i_in, i_cn, Int32.toInt_add, Int32.toInt_sub, Int32.toInt_mul, Int32.toInt_neg, Int32.reduceToInt, Int.bmod_add_bmod, Int.add_bmod_bmod, Int.bmod_sub_bmod, Int.sub_bmod_bmod, Int.bmod_mul_bmod, Int.mul_bmod_bmod, Int.bmod_neg_bmod, Nat.reducePow, Int.reduceBmod, Int.reduceNeg, Int.reduceMul, Int.reduceAdd, Int.reduceSub, not_true_eq_false, not_false_eq_true] at *) <;> (try simp (disch := omega) only [i_bm'] at *) <;> omega)) (by omega) rfl hb (by rw [up_row]; exact hv) (ff _ _)
      all_goals (intros; (try rw [hC] at *); (try rw [hE] at *); (try rw [h1] at *); clear ih hB he hf hb hv ff hx91 hq hC hE hP hnm; first | (exfalso; ((try simp only [i_lt, i_le, i_eq, i_in, i_cn, Int32.toInt_add, Int32.toInt_sub, Int32.toInt_mul, Int32.toInt_neg, Int32.reduceToInt, Int.bmod_add_bmod, Int.add_bmod_bmod, Int.bmod_sub_bmod, Int.sub_bmod_bmod, Int.bmod_mul_bmod, Int.mul_bmod_bmod, Int.bmod_neg_bmod, Nat.reducePow, Int.reduceBmod, Int.reduceNeg, Int.reduceMul, Int.reduceAdd, Int.reduceSub, not_true_eq_false, not_false_eq_true] at *) <;> (try simp (disch := omega) only [i_bm'] at *) <;> omega)) | ((try simp only [i_lt, i_le, i_eq, i_in, i_cn, Int32.toInt_add, Int32.toInt_sub, Int32.toInt_mul, Int32.toInt_neg, Int32.reduceToInt, Int.bmod_add_bmod, Int.add_bmod_bmod, Int.bmod_sub_bmod, Int.sub_bmod_bmod, Int.bmod_mul_bmod, Int.mul_bmod_bmod, Int.bmod_neg_bmod, Nat.reducePow, Int.reduceBmod, Int.reduceNeg, Int.reduceMul, Int.reduceAdd, Int.reduceSub, not_true_eq_false, not_false_eq_true] at *) <;> (try simp (disch := omega) only [i_bm'] at *) <;> omega))
    · have n0 : ¬ s 163 (q + k) = 0 := by rw [h1]; decide
      have n1 : ¬ s 163 (q + k) = 1 := by rw [h1]; decide
      rw [if_neg n0, if_neg n1, if_pos h1] at hv
      have hx31 : (x8 - 1).toNatClampNeg = h - 1 := by clear ih hB hv hf he ff hC hE hb hP hnm h1 n0 n1; (try simp only [i_lt, i_le, i_eq, i_in, i_cn, Int32.toInt_add, Int32.toInt_sub, Int32.toInt_mul, Int32.toInt_neg, Int32.reduceToInt, Int.bmod_add_bmod, Int.add_bmod_bmod, Int.bmod_sub_bmod, Int.sub_bmod_bmod, Int.bmod_mul_bmod, Int.mul_bmod_bmod, Int.bmod_neg_bmod, Nat.reducePow, Int.reduceBmod, Int.reduceNeg, Int.reduceMul, Int.reduceAdd, Int.reduceSub, not_true_eq_false, not_false_eq_true] at *) <;> (try simp (disch := omega) only [i_bm'] at *); omega
      refine t2_M_worked_50 (d := d + 2) x1 x2 x3 x4 x5 x6 x7 x8 x9 h5 ?_ ?_ ?_ ?_ ?_ ?_ ?_ ?_ ?_ ?_ ?_ ?_ ?_ ?_ ?fa ?_ ?fb ?_ ?_
      case fa =>
        intro _ _ _ _ g s6 e6
        rw [hx31] at e6 g
        rw [if_neg g] at hv
        subst e6
        exact ih (k + 1) h _ _ _ _ (by omega) hx91 h8 (by omega) rfl hb (by rw [up_row]; exact hv) (ff _ _)
      case fb =>
        intro _ _ _ _ g s6 e6
        rw [hx31] at e6 g
        rw [if_pos g] at hv
        subst e6
        exact ih (k + 1) h _ _ _ _ (by omega) hx91 h8 (by omega) rfl hb (by rw [up_row]; exact hv) (ff _ _)
      all_goals (intros; (try rw [hC] at *); (try rw [hE] at *); (try rw [h1] at *); clear ih hB he hf hb hv ff hx91 hq hC hE hP hnm; clear hx31; first | (exfalso; ((try simp only [i_lt, i_le, i_eq, i_in, i_cn, Int32.toInt_add, Int32.toInt_sub, Int32.toInt_mul, Int32.toInt_neg, Int32.reduceToInt, Int.bmod_add_bmod, Int.add_bmod_bmod, Int.bmod_sub_bmod, Int.sub_bmod_bmod, Int.bmod_mul_bmod, Int.mul_bmod_bmod, Int.bmod_neg_bmod, Nat.reducePow, Int.reduceBmod, Int.reduceNeg, Int.reduceMul, Int.reduceAdd, Int.reduceSub, not_true_eq_false, not_false_eq_true] at *) <;> (try simp (disch := omega) only [i_bm'] at *) <;> omega)) | ((try simp only [i_lt, i_le, i_eq, i_in, i_cn, Int32.toInt_add, Int32.toInt_sub, Int32.toInt_mul, Int32.toInt_neg, Int32.reduceToInt, Int.bmod_add_bmod, Int.add_bmod_bmod, Int.bmod_sub_bmod, Int.sub_bmod_bmod, Int.bmod_mul_bmod, Int.mul_bmod_bmod, Int.bmod_neg_bmod, Nat.reducePow, Int.reduceBmod, Int.reduceNeg, Int.reduceMul, Int.reduceAdd, Int.reduceSub, not_true_eq_false, not_false_eq_true] at *) <;> (try simp (disch := omega) only [i_bm'] at *) <;> omega))
    · have n0 : ¬ s 163 (q + k) = 0 := by rw [h1]; decide
      have n1 : ¬ s 163 (q + k) = 1 := by rw [h1]; decide
      have n4 : ¬ s 163 (q + k) = 4 := by rw [h1]; decide
      rw [if_neg n0, if_neg n1, if_neg n4, if_pos h1] at hv
      have hx31 : (x8 - 1).toNatClampNeg = h - 1 := by clear ih hB hv hf he ff hC hE hb hP hnm h1 n0 n1 n4; (try simp only [i_lt, i_le, i_eq, i_in, i_cn, Int32.toInt_add, Int32.toInt_sub, Int32.toInt_mul, Int32.toInt_neg, Int32.reduceToInt, Int.bmod_add_bmod, Int.add_bmod_bmod, Int.bmod_sub_bmod, Int.sub_bmod_bmod, Int.bmod_mul_bmod, Int.mul_bmod_bmod, Int.bmod_neg_bmod, Nat.reducePow, Int.reduceBmod, Int.reduceNeg, Int.reduceMul, Int.reduceAdd, Int.reduceSub, not_true_eq_false, not_false_eq_true] at *) <;> (try simp (disch := omega) only [i_bm'] at *); omega
      refine t2_M_worked_50 (d := d + 2) x1 x2 x3 x4 x5 x6 x7 x8 x9 h5 ?_ ?_ ?_ ?_ ?_ ?_ ?_ ?_ ?_ ?_ ?_ ?fin ?_ ?_ ?_ ?_ ?_ ?_ ?_
      case fin =>
        intro _ _ _ _ _ s6 e6
        rw [hx31] at e6
        subst e6
        exact ih (k + 1) h _ _ _ _ (by omega) hx91 h8 (by omega) rfl hb (by rw [up_row]; exact hv) (ff _ _)
      all_goals (intros; (try rw [hC] at *); (try rw [hE] at *); (try rw [h1] at *); clear ih hB he hf hb hv ff hx91 hq hC hE hP hnm; clear hx31; first | (exfalso; ((try simp only [i_lt, i_le, i_eq, i_in, i_cn, Int32.toInt_add, Int32.toInt_sub, Int32.toInt_mul, Int32.toInt_neg, Int32.reduceToInt, Int.bmod_add_bmod, Int.add_bmod_bmod, Int.bmod_sub_bmod, Int.sub_bmod_bmod, Int.bmod_mul_bmod, Int.mul_bmod_bmod, Int.bmod_neg_bmod, Nat.reducePow, Int.reduceBmod, Int.reduceNeg, Int.reduceMul, Int.reduceAdd, Int.reduceSub, not_true_eq_false, not_false_eq_true] at *) <;> (try simp (disch := omega) only [i_bm'] at *) <;> omega)) | ((try simp only [i_lt, i_le, i_eq, i_in, i_cn, Int32.toInt_add, Int32.toInt_sub, Int32.toInt_mul, Int32.toInt_neg, Int32.reduceToInt, Int.bmod_add_bmod, Int.add_bmod_bmod, Int.bmod_sub_bmod, Int.sub_bmod_bmod, Int.bmod_mul_bmod, Int.mul_bmod_bmod, Int.bmod_neg_bmod, Nat.reducePow, Int.reduceBmod, Int.reduceNeg, Int.reduceMul, Int.reduceAdd, Int.reduceSub, not_true_eq_false, not_false_eq_true] at *) <;> (try simp (disch := omega) only [i_bm'] at *) <;> omega))
    · rw [if_neg e0, if_neg e1, if_neg e4, if_neg e10] at hv
      have hx31 : (x8 + (-1)).toNatClampNeg = h - 1 := by clear ih hB hv hf he ff hC hE hb hP hnm e0 e1 e4 e10; (try simp only [i_lt, i_le, i_eq, i_in, i_cn, Int32.toInt_add, Int32.toInt_sub, Int32.toInt_mul, Int32.toInt_neg, Int32.reduceToInt, Int.bmod_add_bmod, Int.add_bmod_bmod, Int.bmod_sub_bmod, Int.sub_bmod_bmod, Int.bmod_mul_bmod, Int.mul_bmod_bmod, Int.bmod_neg_bmod, Nat.reducePow, Int.reduceBmod, Int.reduceNeg, Int.reduceMul, Int.reduceAdd, Int.reduceSub, not_true_eq_false, not_false_eq_true] at *) <;> (try simp (disch := omega) only [i_bm'] at *); omega
      have hx32 : ((x8 + (-1)) - 1).toNatClampNeg = h - 2 := by clear ih hB hv hf he ff hC hE hb hP hnm e0 e1 e4 e10 hx31; (try simp only [i_lt, i_le, i_eq, i_in, i_cn, Int32.toInt_add, Int32.toInt_sub, Int32.toInt_mul, Int32.toInt_neg, Int32.reduceToInt, Int.bmod_add_bmod, Int.add_bmod_bmod, Int.bmod_sub_bmod, Int.sub_bmod_bmod, Int.bmod_mul_bmod, Int.mul_bmod_bmod, Int.bmod_neg_bmod, Nat.reducePow, Int.reduceBmod, Int.reduceNeg, Int.reduceMul, Int.reduceAdd, Int.reduceSub, not_true_eq_false, not_false_eq_true] at *) <;> (try simp (disch := omega) only [i_bm'] at *); omega
      have hx33 : (x8 + (-1)).toInt = ((h - 1 : Nat) : Int) := by clear ih hB hv hf he ff hC hE hb hP hnm e0 e1 e4 e10 hx31 hx32; ((try simp only [i_lt, i_le, i_eq, i_in, i_cn, Int32.toInt_add, Int32.toInt_sub, Int32.toInt_mul, Int32.toInt_neg, Int32.reduceToInt, Int.bmod_add_bmod, Int.add_bmod_bmod, Int.bmod_sub_bmod, Int.sub_bmod_bmod, Int.bmod_mul_bmod, Int.mul_bmod_bmod, Int.bmod_neg_bmod, Nat.reducePow, Int.reduceBmod, Int.reduceNeg, Int.reduceMul, Int.reduceAdd, Int.reduceSub, not_true_eq_false, not_false_eq_true] at *) <;> (try simp (disch := omega) only [i_bm'] at *) <;> omega)
      refine t2_M_worked_50 (d := d + 2) x1 x2 x3 x4 x5 x6 x7 x8 x9 h5 ?_ ?_ ?_ ?_ ?_ ?_ ?_ ?_ ?fin ?_ ?_ ?_ ?_ ?_ ?_ ?_ ?_ ?_ ?_
      case fin =>
        intro _ _ _ _ _
        rw [hC]
        refine sp_M_two (d := d + 1) _ _ _ ?_
        refine t2_M_worked_228 (d := d + 2) _ _ _ _ _ _ _ _ _ _ _ _ ?_ ?_
        · clear ih hB he hf hb hv ff hx91 hq hC hE hP hnm; clear hx31 hx32 hx33 e0 e1 e4 e10; ((try simp only [i_lt, i_le, i_eq, i_in, i_cn, Int32.toInt_add, Int32.toInt_sub, Int32.toInt_mul, Int32.toInt_neg, Int32.reduceToInt, Int.bmod_add_bmod, Int.add_bmod_bmod, Int.bmod_sub_bmod, Int.sub_bmod_bmod, Int.bmod_mul_bmod, Int.mul_bmod_bmod, Int.bmod_neg_bmod, Nat.reducePow, Int.reduceBmod, Int.reduceNeg, Int.reduceMul, Int.reduceAdd, Int.reduceSub, not_true_eq_false, not_false_eq_true] at *) <;> (try simp (disch := omega) only [i_bm'] at *) <;> omega)
        · intro s6 e6
          rw [hx31, hx32] at e6
          subst e6
          exact ih (k + 1) (h - 1) _ _ _ _ (by omega) hx91 hx33 (Nat.le_trans (Nat.sub_le h 1) (Nat.le_trans hh (Nat.le_succ k))) rfl hb (by rw [up_row]; exact hv) (ff _ _)
      all_goals (intros; (try rw [hC] at *); (try rw [hE] at *); clear ih hB he hf hb hv ff hx91 hq hC hE hP hnm; clear hx31 hx32 hx33; first | (exfalso; ((try simp only [i_lt, i_le, i_eq, i_in, i_cn, Int32.toInt_add, Int32.toInt_sub, Int32.toInt_mul, Int32.toInt_neg, Int32.reduceToInt, Int.bmod_add_bmod, Int.add_bmod_bmod, Int.bmod_sub_bmod, Int.sub_bmod_bmod, Int.bmod_mul_bmod, Int.mul_bmod_bmod, Int.bmod_neg_bmod, Nat.reducePow, Int.reduceBmod, Int.reduceNeg, Int.reduceMul, Int.reduceAdd, Int.reduceSub, not_true_eq_false, not_false_eq_true] at *) <;> (try simp (disch := omega) only [i_bm'] at *) <;> omega)) | ((try simp only [i_lt, i_le, i_eq, i_in, i_cn, Int32.toInt_add, Int32.toInt_sub, Int32.toInt_mul, Int32.toInt_neg, Int32.reduceToInt, Int.bmod_add_bmod, Int.add_bmod_bmod, Int.bmod_sub_bmod, Int.sub_bmod_bmod, Int.bmod_mul_bmod, Int.mul_bmod_bmod, Int.bmod_neg_bmod, Nat.reducePow, Int.reduceBmod, Int.reduceNeg, Int.reduceMul, Int.reduceAdd, Int.reduceSub, not_true_eq_false, not_false_eq_true] at *) <;> (try simp (disch := omega) only [i_bm'] at *) <;> omega))
