/-! the class's machine -/
theorem up_row {t : jg_H} {c i : Nat} {x : Int32} : jg_up t c i x c = v_up (t c) i x := by
  funext j
  unfold jg_up v_up
  by_cases e : j = i
  · rw [if_pos ⟨rfl, e⟩, if_pos e]
  · rw [if_neg (fun h => e h.2), if_neg e]
theorem lp_C_run {G : jv_X} {d : Nat} {B : Option Value → jg_H → Prop} {s : jg_H} {c : Nat} (hc : f_9 c) (p : Int32) (hp0 : 0 ≤ p.toInt) (hp4 : p.toInt < 4) (e q : Nat) (he : (s (c + 2) (p + 1).toNatClampNeg).toInt = e) (he2 : e ≤ 200) (hc1 : ¬ c + 1 = 121) (hc2 : ¬ c + 2 = 121) (o v : Nat → Int32) (nm : Int32 → Int32) (henc : ∀ k, k < e → t_enc (s (c + 1) k) (o (q + k)) (v (q + k))) (hnm : ∀ x : Int32, 0 ≤ x.toInt → x.toInt ≤ 7 → s 120 x.toNatClampNeg = nm x) (R : Int32) (hB : ∀ t : jg_H, (∀ a j, ¬ a = 121 → t a j = s a j) → B (some (.int R)) t) : ∀ (m k h : Nat) (x3 x4 : Int32) (o5 : Option Value) (t : jg_H), k + m = e → x4.toInt = k → x3.toInt = h → h ≤ k → f_n o5 = true → t_bal o m (q + k) h → v_ev o v nm m (q + k) h (t 121) = R → (∀ a j, ¬ a = 121 → t a j = s a j) → q_W G (d + 1) jm_Machine_run B 21 [some (.ref 119), some (.ref c), some (.int p), some (.int x3), some (.int x4), o5] [] t := by
  intro m
  induction m with
  | zero =>
    intro k h x3 x4 o5 t hk h4 h3 hh h5 hb hv hf
    have hb : h = 1 := hb
    have hv : t 121 0 = R := hv
    have he' : (t (c + 2) (p + 1).toNatClampNeg).toInt = e := by rw [hf _ _ hc2]; exact he
    have hx : (x3 - 1).toNatClampNeg = 0 := by clear hB henc hnm hv hf he he'; (try simp only [i_lt, i_le, i_eq, i_in, i_cn, Int32.toInt_add, Int32.toInt_sub, Int32.toInt_mul, Int32.toInt_neg, Int32.reduceToInt, Int.bmod_add_bmod, Int.add_bmod_bmod, Int.bmod_sub_bmod, Int.sub_bmod_bmod, Int.bmod_mul_bmod, Int.mul_bmod_bmod, Int.bmod_neg_bmod, Nat.reducePow, Int.reduceBmod, Int.reduceNeg, Int.reduceMul, Int.reduceAdd, Int.reduceSub, not_true_eq_false, not_false_eq_true] at *) <;> (try simp (disch := omega) only [i_bm'] at *); omega
    have hBt := hB t hf
    clear hB henc hnm hf he
    refine t2_Machine_run_21 (d := d + 1) hc p x3 x4 h5 ?_ ?_ ?fin ?_ ?_ ?_ ?_ ?_ ?_ ?_ ?_ ?_ ?_ ?_ ?_ ?_ ?_ ?_ ?_ ?_ ?_ ?_ ?_ ?_ ?_ ?_ ?_ ?_ ?_ ?_ ?_
    case fin => intro _ _; rw [hx, hv]; exact hBt
    all_goals (intros; clear hBt hv hx; first | (exfalso; ((try simp only [i_lt, i_le, i_eq, i_in, i_cn, Int32.toInt_add, Int32.toInt_sub, Int32.toInt_mul, Int32.toInt_neg, Int32.reduceToInt, Int.bmod_add_bmod, Int.add_bmod_bmod, Int.bmod_sub_bmod, Int.sub_bmod_bmod, Int.bmod_mul_bmod, Int.mul_bmod_bmod, Int.bmod_neg_bmod, Nat.reducePow, Int.reduceBmod, Int.reduceNeg, Int.reduceMul, Int.reduceAdd, Int.reduceSub, not_true_eq_false, not_false_eq_true] at *) <;> (try simp (disch := omega) only [i_bm'] at *) <;> omega)) | ((try simp only [i_lt, i_le, i_eq, i_in, i_cn, Int32.toInt_add, Int32.toInt_sub, Int32.toInt_mul, Int32.toInt_neg, Int32.reduceToInt, Int.bmod_add_bmod, Int.add_bmod_bmod, Int.bmod_sub_bmod, Int.sub_bmod_bmod, Int.bmod_mul_bmod, Int.mul_bmod_bmod, Int.bmod_neg_bmod, Nat.reducePow, Int.reduceBmod, Int.reduceNeg, Int.reduceMul, Int.reduceAdd, Int.reduceSub, not_true_eq_false, not_false_eq_true] at *) <;> (try simp (disch := omega) only [i_bm'] at *) <;> omega))
  | succ m ih =>
    intro k h x3 x4 o5 t hk h4 h3 hh h5 hb hv hf
    have hx4 : x4.toNatClampNeg = k := by rw [i_cn]; omega
    have hx3 : x3.toNatClampNeg = h := by rw [i_cn]; omega
    have hX : t (c + 1) x4.toNatClampNeg = s (c + 1) k := by rw [hx4]; exact hf _ _ hc1
    have he' : (t (c + 2) (p + 1).toNatClampNeg).toInt = e := by rw [hf _ _ hc2]; exact he
    have henk := henc k (by omega)
    have hx41 : (x4 + 1).toInt = ((k + 1 : Nat) : Int) := by clear hB henc hnm hv hf he he' ih hb hX hx4 hx3 henk; ((try simp only [i_lt, i_le, i_eq, i_in, i_cn, Int32.toInt_add, Int32.toInt_sub, Int32.toInt_mul, Int32.toInt_neg, Int32.reduceToInt, Int.bmod_add_bmod, Int.add_bmod_bmod, Int.bmod_sub_bmod, Int.sub_bmod_bmod, Int.bmod_mul_bmod, Int.mul_bmod_bmod, Int.bmod_neg_bmod, Nat.reducePow, Int.reduceBmod, Int.reduceNeg, Int.reduceMul, Int.reduceAdd, Int.reduceSub, not_true_eq_false, not_false_eq_true] at *) <;> (try simp (disch := omega) only [i_bm'] at *) <;> omega)
    have ff : ∀ (i : Nat) (x : Int32) (a j : Nat), ¬ a = 121 → jg_up t 121 i x a j = s a j := fun i x a j ha => (u_c ha).trans (hf a j ha)
    have hq : q + k + 1 = q + (k + 1) := by omega
    unfold v_ev at hv
    rw [hq] at hv
    unfold t_bal at hb
    rw [hq] at hb
    generalize hC : t (c + 1) x4.toNatClampNeg = X at *
    generalize hE : t (c + 2) (p + 1).toNatClampNeg = E at *
    rw [← hX] at henk
    rcases hb with ⟨h1 | h1, hb⟩ | ⟨h1 | h1, hh1, hb⟩ | ⟨e0, e1, e4, e10, hh1, hb⟩
    · -- a number
      rw [if_pos h1] at hv
      have hx : X = v (q + k) ∧ 0 ≤ (v (q + k)).toInt := by
        unfold t_enc at henk; clear ih hB henc hnm hv hf he ff hX hC hE; rw [h1] at henk
        rcases henk with ⟨_, a, b, _⟩ | ⟨a, _⟩ | ⟨a, _⟩
        · exact ⟨a, b⟩
        · exact absurd a (by decide)
        · exact absurd a (by decide)
      refine t2_Machine_run_21 (d := d + 1) hc p x3 x4 h5 ?_ ?_ ?_ ?_ ?_ ?_ ?_ ?_ ?_ ?_ ?_ ?_ ?_ ?_ ?_ ?_ ?_ ?_ ?_ ?_ ?_ ?_ ?_ ?_ ?_ ?_ ?_ ?_ ?_ ?fin ?_
      case fin =>
        intro _ _ _ _ _ s6 e6
        subst e6
        rw [hC, hx3]
        exact ih (k + 1) (h + 1) _ _ _ _ (by omega) hx41 (by clear hB henc hnm hv hf he ih hb hX hx4 hx3 henk hC hE ff hx; ((try simp only [i_lt, i_le, i_eq, i_in, i_cn, Int32.toInt_add, Int32.toInt_sub, Int32.toInt_mul, Int32.toInt_neg, Int32.reduceToInt, Int.bmod_add_bmod, Int.add_bmod_bmod, Int.bmod_sub_bmod, Int.sub_bmod_bmod, Int.bmod_mul_bmod, Int.mul_bmod_bmod, Int.bmod_neg_bmod, Nat.reducePow, Int.reduceBmod, Int.reduceNeg, Int.reduceMul, Int.reduceAdd, Int.reduceSub, not_true_eq_false, not_false_eq_true] at *) <;> (try simp (disch := omega) only [i_bm'] at *) <;> omega)) (by omega) rfl hb (by rw [up_row, hx.1]; exact hv) (ff _ _)
      all_goals (intros; (try rw [hC] at *); (try rw [hE] at *); have hx2 := hx.2; rw [← hx.1] at hx2; clear ih hB henc hnm hv hf he hb hX hx henk hC hE ff hx41 hq h1; first | (exfalso; ((try simp only [i_lt, i_le, i_eq, i_in, i_cn, Int32.toInt_add, Int32.toInt_sub, Int32.toInt_mul, Int32.toInt_neg, Int32.reduceToInt, Int.bmod_add_bmod, Int.add_bmod_bmod, Int.bmod_sub_bmod, Int.sub_bmod_bmod, Int.bmod_mul_bmod, Int.mul_bmod_bmod, Int.bmod_neg_bmod, Nat.reducePow, Int.reduceBmod, Int.reduceNeg, Int.reduceMul, Int.reduceAdd, Int.reduceSub, not_true_eq_false, not_false_eq_true] at *) <;> (try simp (disch := omega) only [i_bm'] at *) <;> omega)) | ((try simp only [i_lt, i_le, i_eq, i_in, i_cn, Int32.toInt_add, Int32.toInt_sub, Int32.toInt_mul, Int32.toInt_neg, Int32.reduceToInt, Int.bmod_add_bmod, Int.add_bmod_bmod, Int.bmod_sub_bmod, Int.sub_bmod_bmod, Int.bmod_mul_bmod, Int.mul_bmod_bmod, Int.bmod_neg_bmod, Nat.reducePow, Int.reduceBmod, Int.reduceNeg, Int.reduceMul, Int.reduceAdd, Int.reduceSub, not_true_eq_false, not_false_eq_true] at *) <;> (try simp (disch := omega) only [i_bm'] at *) <;> omega))
    · -- a name
      have n0 : ¬ o (q + k) = 0 := by rw [h1]; decide
      rw [if_neg n0, if_pos h1] at hv
      have hx : X.toInt = -1 - (v (q + k)).toInt ∧ 0 ≤ (v (q + k)).toInt ∧ (v (q + k)).toInt ≤ 7 := by
        unfold t_enc at henk; clear ih hB henc hnm hv hf he ff hX hC hE; rw [h1] at henk
        rcases henk with ⟨a, _⟩ | ⟨_, a, b, c⟩ | ⟨a, _⟩
        · exact absurd a (by decide)
        · exact ⟨c, a, b⟩
        · exact absurd a (by decide)
      have hnv : s 120 ((-1) - X).toNatClampNeg = nm (v (q + k)) := by
        rw [show ((-1) - X).toNatClampNeg = (v (q + k)).toNatClampNeg by clear ih hB henc hnm hv hf he ff hX hC hE hb henk; (try simp only [i_lt, i_le, i_eq, i_in, i_cn, Int32.toInt_add, Int32.toInt_sub, Int32.toInt_mul, Int32.toInt_neg, Int32.reduceToInt, Int.bmod_add_bmod, Int.add_bmod_bmod, Int.bmod_sub_bmod, Int.sub_bmod_bmod, Int.bmod_mul_bmod, Int.mul_bmod_bmod, Int.bmod_neg_bmod, Nat.reducePow, Int.reduceBmod, Int.reduceNeg, Int.reduceMul, Int.reduceAdd, Int.reduceSub, not_true_eq_false, not_false_eq_true] at *) <;> (try simp (disch := omega) only [i_bm'] at *); omega]
        exact hnm _ hx.2.1 hx.2.2
      refine t2_Machine_run_21 (d := d + 1) hc p x3 x4 h5 ?_ ?_ ?_ ?_ ?_ ?_ ?_ ?_ ?_ ?_ ?_ ?_ ?_ ?_ ?_ ?_ ?_ ?_ ?_ ?_ ?_ ?_ ?_ ?_ ?_ ?_ ?_ ?fin ?_ ?_ ?_
      case fin =>
        intro _ _ _ _ _ s6 e6
        rw [hC, hx3, hf 120 _ (by decide), hnv] at e6
        subst e6
        rw [hC]
        exact ih (k + 1) (h + 1) _ _ _ _ (by omega) hx41 (by clear hB henc hnm hv hf he ih hb hX hx4 hx3 henk hC hE ff hx hnv; ((try simp only [i_lt, i_le, i_eq, i_in, i_cn, Int32.toInt_add, Int32.toInt_sub, Int32.toInt_mul, Int32.toInt_neg, Int32.reduceToInt, Int.bmod_add_bmod, Int.add_bmod_bmod, Int.bmod_sub_bmod, Int.sub_bmod_bmod, Int.bmod_mul_bmod, Int.mul_bmod_bmod, Int.bmod_neg_bmod, Nat.reducePow, Int.reduceBmod, Int.reduceNeg, Int.reduceMul, Int.reduceAdd, Int.reduceSub, not_true_eq_false, not_false_eq_true] at *) <;> (try simp (disch := omega) only [i_bm'] at *) <;> omega)) (by omega) rfl hb (by rw [up_row]; exact hv) (ff _ _)
      all_goals (intros; (try rw [hC] at *); (try rw [hE] at *); clear ih hB henc hnm hv hf he hb hX henk hC hE ff hx41 hq h1 hnv n0; first | (exfalso; ((try simp only [i_lt, i_le, i_eq, i_in, i_cn, Int32.toInt_add, Int32.toInt_sub, Int32.toInt_mul, Int32.toInt_neg, Int32.reduceToInt, Int.bmod_add_bmod, Int.add_bmod_bmod, Int.bmod_sub_bmod, Int.sub_bmod_bmod, Int.bmod_mul_bmod, Int.mul_bmod_bmod, Int.bmod_neg_bmod, Nat.reducePow, Int.reduceBmod, Int.reduceNeg, Int.reduceMul, Int.reduceAdd, Int.reduceSub, not_true_eq_false, not_false_eq_true] at *) <;> (try simp (disch := omega) only [i_bm'] at *) <;> omega)) | ((try simp only [i_lt, i_le, i_eq, i_in, i_cn, Int32.toInt_add, Int32.toInt_sub, Int32.toInt_mul, Int32.toInt_neg, Int32.reduceToInt, Int.bmod_add_bmod, Int.add_bmod_bmod, Int.bmod_sub_bmod, Int.sub_bmod_bmod, Int.bmod_mul_bmod, Int.mul_bmod_bmod, Int.bmod_neg_bmod, Nat.reducePow, Int.reduceBmod, Int.reduceNeg, Int.reduceMul, Int.reduceAdd, Int.reduceSub, not_true_eq_false, not_false_eq_true] at *) <;> (try simp (disch := omega) only [i_bm'] at *) <;> omega))
    · -- not
      have n0 : ¬ o (q + k) = 0 := by rw [h1]; decide
      have n1 : ¬ o (q + k) = 1 := by rw [h1]; decide
      rw [if_neg n0, if_neg n1, if_pos h1] at hv
      have hx : X.toInt = -11 := by
        unfold t_enc at henk; clear ih hB henc hnm hv hf he ff hX hC hE; rw [h1] at henk
        rcases henk with ⟨a, _⟩ | ⟨a, _⟩ | ⟨_, _, a⟩
        · exact absurd a (by decide)
        · exact absurd a (by decide)
        · exact a
      have hx31 : (x3 - 1).toNatClampNeg = h - 1 := by clear ih hB henc hnm hv hf he ff hX hC hE hb henk; (try simp only [i_lt, i_le, i_eq, i_in, i_cn, Int32.toInt_add, Int32.toInt_sub, Int32.toInt_mul, Int32.toInt_neg, Int32.reduceToInt, Int.bmod_add_bmod, Int.add_bmod_bmod, Int.bmod_sub_bmod, Int.sub_bmod_bmod, Int.bmod_mul_bmod, Int.mul_bmod_bmod, Int.bmod_neg_bmod, Nat.reducePow, Int.reduceBmod, Int.reduceNeg, Int.reduceMul, Int.reduceAdd, Int.reduceSub, not_true_eq_false, not_false_eq_true] at *) <;> (try simp (disch := omega) only [i_bm'] at *); omega
      refine t2_Machine_run_21 (d := d + 1) hc p x3 x4 h5 ?_ ?_ ?_ ?_ ?_ ?_ ?_ ?_ ?_ ?_ ?fa ?_ ?fb ?_ ?_ ?_ ?_ ?_ ?_ ?_ ?_ ?_ ?_ ?_ ?_ ?_ ?_ ?_ ?_ ?_ ?_
      case fa =>
        intro _ _ _ _ _ _ g s6 e6
        rw [hx31] at e6 g
        rw [if_neg g] at hv
        subst e6
        rw [hC]
        exact ih (k + 1) h _ _ _ _ (by omega) hx41 h3 (by omega) rfl hb (by rw [up_row]; exact hv) (ff _ _)
      case fb =>
        intro _ _ _ _ _ _ g s6 e6
        rw [hx31] at e6 g
        rw [if_pos g] at hv
        subst e6
        rw [hC]
        exact ih (k + 1) h _ _ _ _ (by omega) hx41 h3 (by omega) rfl hb (by rw [up_row]; exact hv) (ff _ _)
      all_goals (intros; (try rw [hC] at *); (try rw [hE] at *); clear ih hB henc hnm hv hf he hb hX henk hC hE ff hx41 hq h1 n0 n1 hx31; first | (exfalso; ((try simp only [i_lt, i_le, i_eq, i_in, i_cn, Int32.toInt_add, Int32.toInt_sub, Int32.toInt_mul, Int32.toInt_neg, Int32.reduceToInt, Int.bmod_add_bmod, Int.add_bmod_bmod, Int.bmod_sub_bmod, Int.sub_bmod_bmod, Int.bmod_mul_bmod, Int.mul_bmod_bmod, Int.bmod_neg_bmod, Nat.reducePow, Int.reduceBmod, Int.reduceNeg, Int.reduceMul, Int.reduceAdd, Int.reduceSub, not_true_eq_false, not_false_eq_true] at *) <;> (try simp (disch := omega) only [i_bm'] at *) <;> omega)) | ((try simp only [i_lt, i_le, i_eq, i_in, i_cn, Int32.toInt_add, Int32.toInt_sub, Int32.toInt_mul, Int32.toInt_neg, Int32.reduceToInt, Int.bmod_add_bmod, Int.add_bmod_bmod, Int.bmod_sub_bmod, Int.sub_bmod_bmod, Int.bmod_mul_bmod, Int.mul_bmod_bmod, Int.bmod_neg_bmod, Nat.reducePow, Int.reduceBmod, Int.reduceNeg, Int.reduceMul, Int.reduceAdd, Int.reduceSub, not_true_eq_false, not_false_eq_true] at *) <;> (try simp (disch := omega) only [i_bm'] at *) <;> omega))
    · -- negated
      have n0 : ¬ o (q + k) = 0 := by rw [h1]; decide
      have n1 : ¬ o (q + k) = 1 := by rw [h1]; decide
      have n4 : ¬ o (q + k) = 4 := by rw [h1]; decide
      rw [if_neg n0, if_neg n1, if_neg n4, if_pos h1] at hv
      have hx : X.toInt = -17 := by
        unfold t_enc at henk; clear ih hB henc hnm hv hf he ff hX hC hE; rw [h1] at henk
        rcases henk with ⟨a, _⟩ | ⟨a, _⟩ | ⟨_, _, a⟩
        · exact absurd a (by decide)
        · exact absurd a (by decide)
        · exact a
      have hx31 : (x3 - 1).toNatClampNeg = h - 1 := by clear ih hB henc hnm hv hf he ff hX hC hE hb henk; (try simp only [i_lt, i_le, i_eq, i_in, i_cn, Int32.toInt_add, Int32.toInt_sub, Int32.toInt_mul, Int32.toInt_neg, Int32.reduceToInt, Int.bmod_add_bmod, Int.add_bmod_bmod, Int.bmod_sub_bmod, Int.sub_bmod_bmod, Int.bmod_mul_bmod, Int.mul_bmod_bmod, Int.bmod_neg_bmod, Nat.reducePow, Int.reduceBmod, Int.reduceNeg, Int.reduceMul, Int.reduceAdd, Int.reduceSub, not_true_eq_false, not_false_eq_true] at *) <;> (try simp (disch := omega) only [i_bm'] at *); omega
      refine t2_Machine_run_21 (d := d + 1) hc p x3 x4 h5 ?_ ?_ ?_ ?_ ?_ ?_ ?_ ?_ ?_ ?_ ?_ ?_ ?_ ?_ ?_ ?_ ?_ ?_ ?_ ?_ ?_ ?_ ?_ ?fin ?_ ?_ ?_ ?_ ?_ ?_ ?_
      case fin =>
        intro _ _ _ _ _ _ s6 e6
        rw [hx31] at e6
        subst e6
        rw [hC]
        exact ih (k + 1) h _ _ _ _ (by omega) hx41 h3 (by omega) rfl hb (by rw [up_row]; exact hv) (ff _ _)
      all_goals (intros; (try rw [hC] at *); (try rw [hE] at *); clear ih hB henc hnm hv hf he hb hX henk hC hE ff hx41 hq h1 n0 n1 n4 hx31; first | (exfalso; ((try simp only [i_lt, i_le, i_eq, i_in, i_cn, Int32.toInt_add, Int32.toInt_sub, Int32.toInt_mul, Int32.toInt_neg, Int32.reduceToInt, Int.bmod_add_bmod, Int.add_bmod_bmod, Int.bmod_sub_bmod, Int.sub_bmod_bmod, Int.bmod_mul_bmod, Int.mul_bmod_bmod, Int.bmod_neg_bmod, Nat.reducePow, Int.reduceBmod, Int.reduceNeg, Int.reduceMul, Int.reduceAdd, Int.reduceSub, not_true_eq_false, not_false_eq_true] at *) <;> (try simp (disch := omega) only [i_bm'] at *) <;> omega)) | ((try simp only [i_lt, i_le, i_eq, i_in, i_cn, Int32.toInt_add, Int32.toInt_sub, Int32.toInt_mul, Int32.toInt_neg, Int32.reduceToInt, Int.bmod_add_bmod, Int.add_bmod_bmod, Int.bmod_sub_bmod, Int.sub_bmod_bmod, Int.bmod_mul_bmod, Int.mul_bmod_bmod, Int.bmod_neg_bmod, Nat.reducePow, Int.reduceBmod, Int.reduceNeg, Int.reduceMul, Int.reduceAdd, Int.reduceSub, not_true_eq_false, not_false_eq_true] at *) <;> (try simp (disch := omega) only [i_bm'] at *) <;> omega))
    · -- two values
      rw [if_neg e0, if_neg e1, if_neg e4, if_neg e10] at hv
      have hx : X.toInt = -7 - (o (q + k)).toInt ∧ 2 ≤ (o (q + k)).toInt ∧ (o (q + k)).toInt < 10 ∧ ¬ (o (q + k)).toInt = 4 := by
        unfold t_enc at henk; clear ih hB henc hnm hv hf he ff hX hC hE
        rcases henk with ⟨a, _⟩ | ⟨a, _⟩ | ⟨a, b, c⟩
        · exact absurd a e0
        · exact absurd a e1
        · clear hb; (try simp only [i_lt, i_le, i_eq, i_in, i_cn, Int32.toInt_add, Int32.toInt_sub, Int32.toInt_mul, Int32.toInt_neg, Int32.reduceToInt, Int.bmod_add_bmod, Int.add_bmod_bmod, Int.bmod_sub_bmod, Int.sub_bmod_bmod, Int.bmod_mul_bmod, Int.mul_bmod_bmod, Int.bmod_neg_bmod, Nat.reducePow, Int.reduceBmod, Int.reduceNeg, Int.reduceMul, Int.reduceAdd, Int.reduceSub, not_true_eq_false, not_false_eq_true] at *) <;> (try simp (disch := omega) only [i_bm'] at *); omega
      have hx31 : (x3 + (-1)).toNatClampNeg = h - 1 := by clear ih hB henc hnm hv hf he ff hX hC hE hb henk; (try simp only [i_lt, i_le, i_eq, i_in, i_cn, Int32.toInt_add, Int32.toInt_sub, Int32.toInt_mul, Int32.toInt_neg, Int32.reduceToInt, Int.bmod_add_bmod, Int.add_bmod_bmod, Int.bmod_sub_bmod, Int.sub_bmod_bmod, Int.bmod_mul_bmod, Int.mul_bmod_bmod, Int.bmod_neg_bmod, Nat.reducePow, Int.reduceBmod, Int.reduceNeg, Int.reduceMul, Int.reduceAdd, Int.reduceSub, not_true_eq_false, not_false_eq_true] at *) <;> (try simp (disch := omega) only [i_bm'] at *); omega
      have hx32 : ((x3 + (-1)) - 1).toNatClampNeg = h - 2 := by clear ih hB henc hnm hv hf he ff hX hC hE hb henk; (try simp only [i_lt, i_le, i_eq, i_in, i_cn, Int32.toInt_add, Int32.toInt_sub, Int32.toInt_mul, Int32.toInt_neg, Int32.reduceToInt, Int.bmod_add_bmod, Int.add_bmod_bmod, Int.bmod_sub_bmod, Int.sub_bmod_bmod, Int.bmod_mul_bmod, Int.mul_bmod_bmod, Int.bmod_neg_bmod, Nat.reducePow, Int.reduceBmod, Int.reduceNeg, Int.reduceMul, Int.reduceAdd, Int.reduceSub, not_true_eq_false, not_false_eq_true] at *) <;> (try simp (disch := omega) only [i_bm'] at *); omega
      have hx33 : (x3 + (-1)).toInt = ((h - 1 : Nat) : Int) := by clear ih hB henc hnm hv hf he ff hX hC hE hb henk hx31 hx32; ((try simp only [i_lt, i_le, i_eq, i_in, i_cn, Int32.toInt_add, Int32.toInt_sub, Int32.toInt_mul, Int32.toInt_neg, Int32.reduceToInt, Int.bmod_add_bmod, Int.add_bmod_bmod, Int.bmod_sub_bmod, Int.sub_bmod_bmod, Int.bmod_mul_bmod, Int.mul_bmod_bmod, Int.bmod_neg_bmod, Nat.reducePow, Int.reduceBmod, Int.reduceNeg, Int.reduceMul, Int.reduceAdd, Int.reduceSub, not_true_eq_false, not_false_eq_true] at *) <;> (try simp (disch := omega) only [i_bm'] at *) <;> omega)
      refine t2_Machine_run_21 (d := d + 1) hc p x3 x4 h5 ?_ ?_ ?_ ?_ ?_ ?_ ?_ ?_ ?_ ?_ ?_ ?_ ?_ ?_ ?_ ?_ ?_ ?_ ?_ ?fin ?_ ?_ ?_ ?_ ?_ ?_ ?_ ?_ ?_ ?_ ?_
      case fin =>
        intro _ _ _ _ _ _
        rw [hC]
        refine sp_C_joined (d := d) _ _ _ (o (q + k)) hx.1 hx.2.1 hx.2.2.1 hx.2.2.2 ?_
        refine t2_Machine_run_209 (d := d + 1) hc _ _ _ _ _ _ ?_ ?_
        · clear ih hB henc hnm hv hf he ff hX hC hE hb henk hx31 hx32 hx33; ((try simp only [i_lt, i_le, i_eq, i_in, i_cn, Int32.toInt_add, Int32.toInt_sub, Int32.toInt_mul, Int32.toInt_neg, Int32.reduceToInt, Int.bmod_add_bmod, Int.add_bmod_bmod, Int.bmod_sub_bmod, Int.sub_bmod_bmod, Int.bmod_mul_bmod, Int.mul_bmod_bmod, Int.bmod_neg_bmod, Nat.reducePow, Int.reduceBmod, Int.reduceNeg, Int.reduceMul, Int.reduceAdd, Int.reduceSub, not_true_eq_false, not_false_eq_true] at *) <;> (try simp (disch := omega) only [i_bm'] at *) <;> omega)
        · intro s6 e6
          rw [hx31, hx32] at e6
          subst e6
          exact ih (k + 1) (h - 1) _ _ _ _ (by omega) hx41 hx33 (Nat.le_trans (Nat.sub_le h 1) (Nat.le_trans hh (Nat.le_succ k))) rfl hb (by rw [up_row]; exact hv) (ff _ _)
      all_goals (intros; (try rw [hC] at *); (try rw [hE] at *); clear ih hB henc hnm hv hf he hb hX henk hC hE ff hx41 hq e0 e1 e4 e10 hx31 hx32 hx33; first | (exfalso; ((try simp only [i_lt, i_le, i_eq, i_in, i_cn, Int32.toInt_add, Int32.toInt_sub, Int32.toInt_mul, Int32.toInt_neg, Int32.reduceToInt, Int.bmod_add_bmod, Int.add_bmod_bmod, Int.bmod_sub_bmod, Int.sub_bmod_bmod, Int.bmod_mul_bmod, Int.mul_bmod_bmod, Int.bmod_neg_bmod, Nat.reducePow, Int.reduceBmod, Int.reduceNeg, Int.reduceMul, Int.reduceAdd, Int.reduceSub, not_true_eq_false, not_false_eq_true] at *) <;> (try simp (disch := omega) only [i_bm'] at *) <;> omega)) | ((try simp only [i_lt, i_le, i_eq, i_in, i_cn, Int32.toInt_add, Int32.toInt_sub, Int32.toInt_mul, Int32.toInt_neg, Int32.reduceToInt, Int.bmod_add_bmod, Int.add_bmod_bmod, Int.bmod_sub_bmod, Int.sub_bmod_bmod, Int.bmod_mul_bmod, Int.mul_bmod_bmod, Int.bmod_neg_bmod, Nat.reducePow, Int.reduceBmod, Int.reduceNeg, Int.reduceMul, Int.reduceAdd, Int.reduceSub, not_true_eq_false, not_false_eq_true] at *) <;> (try simp (disch := omega) only [i_bm'] at *) <;> omega))
