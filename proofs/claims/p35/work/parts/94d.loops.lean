/-! loops: a row of words is changed -/
def f_put (p : Nat) (w : Int32) (F : Nat → Int32) (i : Nat) : Int32 := if i < p then F i else if i = p then w else F (i - 1)
def f_out (p : Nat) (F : Nat → Int32) (i : Nat) : Int32 := if i < p then F i else F (i + 1)
def f_rep (p : Nat) (w : Int32) (F : Nat → Int32) (i : Nat) : Int32 := if i = p then w else F i
theorem lp_C_putIn {G : jv_X} {d : Nat} {B : Option Value → jg_H → Prop} {s : jg_H} {c : Nat} (hc : f_8 c) (a w : Int32) (n p : Nat) (ha : a.toInt = p) (hp : p ≤ n) (h9 : n ≤ 9) (hn : (s c 0).toInt = n) (hB : ∀ t : jg_H, (t c 0).toInt = (n : Int) + 1 → (∀ i, i ≤ n → t (c + 1) i = f_put p w (s (c + 1)) i) → (∀ q j, ¬ (q = c ∧ j = 0) → ¬ (q = c + 1 ∧ j ≤ n) → t q j = s q j) → B none t) : ∀ (m k : Nat) (x3 : Int32) (t : jg_H), k = p + m → k ≤ n → x3.toInt = k → (∀ i, i ≤ k → t (c + 1) i = s (c + 1) i) → (∀ i, k < i → i ≤ n → t (c + 1) i = s (c + 1) (i - 1)) → (∀ q j, ¬ (q = c + 1 ∧ j ≤ n) → t q j = s q j) → q_W G d jm_Sections_putIn B 30 [some (.ref c), some (.int a), some (.int w), some (.int x3)] [] t := by
  have hA : a.toNatClampNeg = p := by rw [i_cn]; omega
  intro m
  induction m with
  | zero =>
    intro k x3 t hk hkn h2 h3 h4 h5
    refine t_Sections_putIn_30 hc _ _ _ ?_ ?_ ?_ ?_ ?_
    · intro h; clear hB h3 h4 h5 hA; ((try simp only [i_lt, i_le, i_eq, i_in, i_cn, Int32.toInt_add, Int32.toInt_sub, Int32.toInt_mul, Int32.toInt_neg, Int32.reduceToInt, Int.bmod_add_bmod, Int.add_bmod_bmod, Int.bmod_sub_bmod, Int.sub_bmod_bmod, Int.bmod_mul_bmod, Int.mul_bmod_bmod, Int.bmod_neg_bmod, Nat.reducePow, Int.reduceBmod, Int.reduceNeg, Int.reduceMul, Int.reduceAdd, Int.reduceSub, not_true_eq_false, not_false_eq_true] at *) <;> (try simp (disch := omega) only [i_bm'] at *) <;> omega)
    · intro h s1 e1 s2 e2
      rw [hA] at e1
      subst e1
      subst e2
      have e0 : t c 0 = s c 0 := h5 c 0 (by omega)
      refine hB _ ?_ ?_ ?_
      · rw [u_hit, u_c (by omega), e0]
        clear hB h3 h4 h5 hA e0
        ((try simp only [i_lt, i_le, i_eq, i_in, i_cn, Int32.toInt_add, Int32.toInt_sub, Int32.toInt_mul, Int32.toInt_neg, Int32.reduceToInt, Int.bmod_add_bmod, Int.add_bmod_bmod, Int.bmod_sub_bmod, Int.sub_bmod_bmod, Int.bmod_mul_bmod, Int.mul_bmod_bmod, Int.bmod_neg_bmod, Nat.reducePow, Int.reduceBmod, Int.reduceNeg, Int.reduceMul, Int.reduceAdd, Int.reduceSub, not_true_eq_false, not_false_eq_true] at *) <;> (try simp (disch := omega) only [i_bm'] at *) <;> omega)
      · intro i hi
        rw [u_c (by omega)]
        unfold f_put
        by_cases e : i = p
        · rw [e, u_hit, if_neg (by omega), if_pos rfl]
        · rw [u_j e]
          by_cases e' : i < p
          · rw [if_pos e']; exact h3 i (by omega)
          · rw [if_neg e', if_neg e]; exact h4 i (by omega) hi
      · intro q j h1 h2
        rw [u_r (by omega), u_r (by omega)]
        exact h5 q j h2
    all_goals (intros; exfalso; clear hB h3 h4 h5 hA; ((try simp only [i_lt, i_le, i_eq, i_in, i_cn, Int32.toInt_add, Int32.toInt_sub, Int32.toInt_mul, Int32.toInt_neg, Int32.reduceToInt, Int.bmod_add_bmod, Int.add_bmod_bmod, Int.bmod_sub_bmod, Int.sub_bmod_bmod, Int.bmod_mul_bmod, Int.mul_bmod_bmod, Int.bmod_neg_bmod, Nat.reducePow, Int.reduceBmod, Int.reduceNeg, Int.reduceMul, Int.reduceAdd, Int.reduceSub, not_true_eq_false, not_false_eq_true] at *) <;> (try simp (disch := omega) only [i_bm'] at *) <;> omega))
  | succ m ih =>
    intro k x3 t hk hkn h2 h3 h4 h5
    have hx : x3.toNatClampNeg = k := by rw [i_cn]; omega
    refine t_Sections_putIn_30 hc _ _ _ ?_ ?_ ?_ ?_ ?_
    · intro h; clear ih hB h3 h4 h5 hA hx; ((try simp only [i_lt, i_le, i_eq, i_in, i_cn, Int32.toInt_add, Int32.toInt_sub, Int32.toInt_mul, Int32.toInt_neg, Int32.reduceToInt, Int.bmod_add_bmod, Int.add_bmod_bmod, Int.bmod_sub_bmod, Int.sub_bmod_bmod, Int.bmod_mul_bmod, Int.mul_bmod_bmod, Int.bmod_neg_bmod, Nat.reducePow, Int.reduceBmod, Int.reduceNeg, Int.reduceMul, Int.reduceAdd, Int.reduceSub, not_true_eq_false, not_false_eq_true] at *) <;> (try simp (disch := omega) only [i_bm'] at *) <;> omega)
    · intro h s1 e1 s2 e2; exfalso; clear ih hB h3 h4 h5 hA e1 e2 hx; ((try simp only [i_lt, i_le, i_eq, i_in, i_cn, Int32.toInt_add, Int32.toInt_sub, Int32.toInt_mul, Int32.toInt_neg, Int32.reduceToInt, Int.bmod_add_bmod, Int.add_bmod_bmod, Int.bmod_sub_bmod, Int.sub_bmod_bmod, Int.bmod_mul_bmod, Int.mul_bmod_bmod, Int.bmod_neg_bmod, Nat.reducePow, Int.reduceBmod, Int.reduceNeg, Int.reduceMul, Int.reduceAdd, Int.reduceSub, not_true_eq_false, not_false_eq_true] at *) <;> (try simp (disch := omega) only [i_bm'] at *) <;> omega)
    · intro h; clear ih hB h3 h4 h5 hA hx; ((try simp only [i_lt, i_le, i_eq, i_in, i_cn, Int32.toInt_add, Int32.toInt_sub, Int32.toInt_mul, Int32.toInt_neg, Int32.reduceToInt, Int.bmod_add_bmod, Int.add_bmod_bmod, Int.bmod_sub_bmod, Int.sub_bmod_bmod, Int.bmod_mul_bmod, Int.mul_bmod_bmod, Int.bmod_neg_bmod, Nat.reducePow, Int.reduceBmod, Int.reduceNeg, Int.reduceMul, Int.reduceAdd, Int.reduceSub, not_true_eq_false, not_false_eq_true] at *) <;> (try simp (disch := omega) only [i_bm'] at *) <;> omega)
    · intro h; clear ih hB h3 h4 h5 hA hx; ((try simp only [i_lt, i_le, i_eq, i_in, i_cn, Int32.toInt_add, Int32.toInt_sub, Int32.toInt_mul, Int32.toInt_neg, Int32.reduceToInt, Int.bmod_add_bmod, Int.add_bmod_bmod, Int.bmod_sub_bmod, Int.sub_bmod_bmod, Int.bmod_mul_bmod, Int.mul_bmod_bmod, Int.bmod_neg_bmod, Nat.reducePow, Int.reduceBmod, Int.reduceNeg, Int.reduceMul, Int.reduceAdd, Int.reduceSub, not_true_eq_false, not_false_eq_true] at *) <;> (try simp (disch := omega) only [i_bm'] at *) <;> omega)
    · intro h s3 e
      have hx1 : (x3 - 1).toNatClampNeg = k - 1 := by clear ih hB h3 h4 h5 hA e hx; (try simp only [i_lt, i_le, i_eq, i_in, i_cn, Int32.toInt_add, Int32.toInt_sub, Int32.toInt_mul, Int32.toInt_neg, Int32.reduceToInt, Int.bmod_add_bmod, Int.add_bmod_bmod, Int.bmod_sub_bmod, Int.sub_bmod_bmod, Int.bmod_mul_bmod, Int.mul_bmod_bmod, Int.bmod_neg_bmod, Nat.reducePow, Int.reduceBmod, Int.reduceNeg, Int.reduceMul, Int.reduceAdd, Int.reduceSub, not_true_eq_false, not_false_eq_true] at *) <;> (try simp (disch := omega) only [i_bm'] at *); omega
      rw [hx, hx1] at e
      subst e
      refine ih (k - 1) _ _ (by omega) (by omega) (by clear ih hB h3 h4 h5 hA hx hx1; ((try simp only [i_lt, i_le, i_eq, i_in, i_cn, Int32.toInt_add, Int32.toInt_sub, Int32.toInt_mul, Int32.toInt_neg, Int32.reduceToInt, Int.bmod_add_bmod, Int.add_bmod_bmod, Int.bmod_sub_bmod, Int.sub_bmod_bmod, Int.bmod_mul_bmod, Int.mul_bmod_bmod, Int.bmod_neg_bmod, Nat.reducePow, Int.reduceBmod, Int.reduceNeg, Int.reduceMul, Int.reduceAdd, Int.reduceSub, not_true_eq_false, not_false_eq_true] at *) <;> (try simp (disch := omega) only [i_bm'] at *) <;> omega)) ?_ ?_ ?_
      · intro i hi
        rw [u_j (by omega)]
        exact h3 i (by omega)
      · intro i hi hi2
        by_cases e : i = k
        · rw [e, u_hit]; exact h3 (k - 1) (by omega)
        · rw [u_j e]; exact h4 i (by omega) hi2
      · intro q j hq
        rw [u_r (by omega)]
        exact h5 q j hq
theorem sp_C_putIn {G : jv_X} {d : Nat} {B : Option Value → jg_H → Prop} {s : jg_H} {c : Nat} (hc : f_8 c) (a w : Int32) (n p : Nat) (ha : a.toInt = p) (hp : p ≤ n) (h9 : n ≤ 9) (hn : (s c 0).toInt = n) (hB : ∀ t : jg_H, (t c 0).toInt = (n : Int) + 1 → (∀ i, i ≤ n → t (c + 1) i = f_put p w (s (c + 1)) i) → (∀ q j, ¬ (q = c ∧ j = 0) → ¬ (q = c + 1 ∧ j ≤ n) → t q j = s q j) → B none t) : q_P G (d + 1) 56 [.ref c, .int a, .int w] s B := by
  refine t_Sections_putIn hc a w ?_ ?_ ?_ ?_
  · intro h; exfalso; clear hB; ((try simp only [i_lt, i_le, i_eq, i_in, i_cn, Int32.toInt_add, Int32.toInt_sub, Int32.toInt_mul, Int32.toInt_neg, Int32.reduceToInt, Int.bmod_add_bmod, Int.add_bmod_bmod, Int.bmod_sub_bmod, Int.sub_bmod_bmod, Int.bmod_mul_bmod, Int.mul_bmod_bmod, Int.bmod_neg_bmod, Nat.reducePow, Int.reduceBmod, Int.reduceNeg, Int.reduceMul, Int.reduceAdd, Int.reduceSub, not_true_eq_false, not_false_eq_true] at *) <;> (try simp (disch := omega) only [i_bm'] at *) <;> omega)
  · intro h h'; exfalso; clear hB; ((try simp only [i_lt, i_le, i_eq, i_in, i_cn, Int32.toInt_add, Int32.toInt_sub, Int32.toInt_mul, Int32.toInt_neg, Int32.reduceToInt, Int.bmod_add_bmod, Int.add_bmod_bmod, Int.bmod_sub_bmod, Int.sub_bmod_bmod, Int.bmod_mul_bmod, Int.mul_bmod_bmod, Int.bmod_neg_bmod, Nat.reducePow, Int.reduceBmod, Int.reduceNeg, Int.reduceMul, Int.reduceAdd, Int.reduceSub, not_true_eq_false, not_false_eq_true] at *) <;> (try simp (disch := omega) only [i_bm'] at *) <;> omega)
  · intro h h' h''
    exact lp_C_putIn hc a w n p ha hp h9 hn hB (n - p) n _ s (by omega) (by omega) hn (fun _ _ => rfl) (fun i h1 h2 => absurd h1 (by omega)) (fun _ _ _ => rfl)
  · intro h h' h''; exfalso; clear hB; ((try simp only [i_lt, i_le, i_eq, i_in, i_cn, Int32.toInt_add, Int32.toInt_sub, Int32.toInt_mul, Int32.toInt_neg, Int32.reduceToInt, Int.bmod_add_bmod, Int.add_bmod_bmod, Int.bmod_sub_bmod, Int.sub_bmod_bmod, Int.bmod_mul_bmod, Int.mul_bmod_bmod, Int.bmod_neg_bmod, Nat.reducePow, Int.reduceBmod, Int.reduceNeg, Int.reduceMul, Int.reduceAdd, Int.reduceSub, not_true_eq_false, not_false_eq_true] at *) <;> (try simp (disch := omega) only [i_bm'] at *) <;> omega)
theorem lp_C_takeOut {G : jv_X} {d : Nat} {B : Option Value → jg_H → Prop} {s : jg_H} {c : Nat} (hc : f_8 c) (a : Int32) (n p : Nat) (ha : a.toInt = p) (hp : p < n) (h9 : n ≤ 10) (hn : (s c 0).toInt = n) (hB : ∀ t : jg_H, (t c 0).toInt = (n : Int) - 1 → (∀ i, i + 1 < n → t (c + 1) i = f_out p (s (c + 1)) i) → (∀ q j, ¬ (q = c ∧ j = 0) → ¬ (q = c + 1 ∧ j < n) → t q j = s q j) → B none t) : ∀ (m k : Nat) (x2 : Int32) (t : jg_H), k + m + 1 = n → p ≤ k → x2.toInt = k → (∀ i, i < k → t (c + 1) i = f_out p (s (c + 1)) i) → (∀ i, k ≤ i → t (c + 1) i = s (c + 1) i) → (∀ q j, ¬ (q = c + 1 ∧ j < n) → t q j = s q j) → q_W G d jm_Sections_takeOut B 27 [some (.ref c), some (.int a), some (.int x2)] [] t := by
  intro m
  induction m with
  | zero =>
    intro k x2 t hk hkn h2 h3 h4 h5
    have e0 : t c 0 = s c 0 := h5 c 0 (by omega)
    have hn' : (t c 0).toInt = n := by rw [e0]; exact hn
    refine t_Sections_takeOut_27 hc _ _ ?_ ?_ ?_ ?_
    · intro h s1 e1
      subst e1
      refine hB _ ?_ ?_ ?_
      · rw [u_hit]
        clear hB h3 h4 h5 e0
        ((try simp only [i_lt, i_le, i_eq, i_in, i_cn, Int32.toInt_add, Int32.toInt_sub, Int32.toInt_mul, Int32.toInt_neg, Int32.reduceToInt, Int.bmod_add_bmod, Int.add_bmod_bmod, Int.bmod_sub_bmod, Int.sub_bmod_bmod, Int.bmod_mul_bmod, Int.mul_bmod_bmod, Int.bmod_neg_bmod, Nat.reducePow, Int.reduceBmod, Int.reduceNeg, Int.reduceMul, Int.reduceAdd, Int.reduceSub, not_true_eq_false, not_false_eq_true] at *) <;> (try simp (disch := omega) only [i_bm'] at *) <;> omega)
      · intro i hi
        rw [u_c (by omega)]
        exact h3 i (by omega)
      · intro q j h1 h2
        rw [u_r (by omega)]
        exact h5 q j h2
    all_goals (intros; exfalso; clear hB h3 h4 h5 e0; ((try simp only [i_lt, i_le, i_eq, i_in, i_cn, Int32.toInt_add, Int32.toInt_sub, Int32.toInt_mul, Int32.toInt_neg, Int32.reduceToInt, Int.bmod_add_bmod, Int.add_bmod_bmod, Int.bmod_sub_bmod, Int.sub_bmod_bmod, Int.bmod_mul_bmod, Int.mul_bmod_bmod, Int.bmod_neg_bmod, Nat.reducePow, Int.reduceBmod, Int.reduceNeg, Int.reduceMul, Int.reduceAdd, Int.reduceSub, not_true_eq_false, not_false_eq_true] at *) <;> (try simp (disch := omega) only [i_bm'] at *) <;> omega))
  | succ m ih =>
    intro k x2 t hk hkn h2 h3 h4 h5
    have hx : x2.toNatClampNeg = k := by rw [i_cn]; omega
    have hx1 : (x2 + 1).toNatClampNeg = k + 1 := by clear ih hB h3 h4 h5 hx; (try simp only [i_lt, i_le, i_eq, i_in, i_cn, Int32.toInt_add, Int32.toInt_sub, Int32.toInt_mul, Int32.toInt_neg, Int32.reduceToInt, Int.bmod_add_bmod, Int.add_bmod_bmod, Int.bmod_sub_bmod, Int.sub_bmod_bmod, Int.bmod_mul_bmod, Int.mul_bmod_bmod, Int.bmod_neg_bmod, Nat.reducePow, Int.reduceBmod, Int.reduceNeg, Int.reduceMul, Int.reduceAdd, Int.reduceSub, not_true_eq_false, not_false_eq_true] at *) <;> (try simp (disch := omega) only [i_bm'] at *); omega
    have e0 : t c 0 = s c 0 := h5 c 0 (by omega)
    have hn' : (t c 0).toInt = n := by rw [e0]; exact hn
    refine t_Sections_takeOut_27 hc _ _ ?_ ?_ ?_ ?_
    · intro h s1 e1; exfalso; clear ih hB h3 h4 h5 hx hx1 e0 e1; ((try simp only [i_lt, i_le, i_eq, i_in, i_cn, Int32.toInt_add, Int32.toInt_sub, Int32.toInt_mul, Int32.toInt_neg, Int32.reduceToInt, Int.bmod_add_bmod, Int.add_bmod_bmod, Int.bmod_sub_bmod, Int.sub_bmod_bmod, Int.bmod_mul_bmod, Int.mul_bmod_bmod, Int.bmod_neg_bmod, Nat.reducePow, Int.reduceBmod, Int.reduceNeg, Int.reduceMul, Int.reduceAdd, Int.reduceSub, not_true_eq_false, not_false_eq_true] at *) <;> (try simp (disch := omega) only [i_bm'] at *) <;> omega)
    · intro h; clear ih hB h3 h4 h5 hx hx1 e0; ((try simp only [i_lt, i_le, i_eq, i_in, i_cn, Int32.toInt_add, Int32.toInt_sub, Int32.toInt_mul, Int32.toInt_neg, Int32.reduceToInt, Int.bmod_add_bmod, Int.add_bmod_bmod, Int.bmod_sub_bmod, Int.sub_bmod_bmod, Int.bmod_mul_bmod, Int.mul_bmod_bmod, Int.bmod_neg_bmod, Nat.reducePow, Int.reduceBmod, Int.reduceNeg, Int.reduceMul, Int.reduceAdd, Int.reduceSub, not_true_eq_false, not_false_eq_true] at *) <;> (try simp (disch := omega) only [i_bm'] at *) <;> omega)
    · intro h; clear ih hB h3 h4 h5 hx hx1 e0; ((try simp only [i_lt, i_le, i_eq, i_in, i_cn, Int32.toInt_add, Int32.toInt_sub, Int32.toInt_mul, Int32.toInt_neg, Int32.reduceToInt, Int.bmod_add_bmod, Int.add_bmod_bmod, Int.bmod_sub_bmod, Int.sub_bmod_bmod, Int.bmod_mul_bmod, Int.mul_bmod_bmod, Int.bmod_neg_bmod, Nat.reducePow, Int.reduceBmod, Int.reduceNeg, Int.reduceMul, Int.reduceAdd, Int.reduceSub, not_true_eq_false, not_false_eq_true] at *) <;> (try simp (disch := omega) only [i_bm'] at *) <;> omega)
    · intro h s2 e
      rw [hx, hx1] at e
      subst e
      refine ih (k + 1) _ _ (by omega) (by omega) (by clear ih hB h3 h4 h5 hx hx1 e0; ((try simp only [i_lt, i_le, i_eq, i_in, i_cn, Int32.toInt_add, Int32.toInt_sub, Int32.toInt_mul, Int32.toInt_neg, Int32.reduceToInt, Int.bmod_add_bmod, Int.add_bmod_bmod, Int.bmod_sub_bmod, Int.sub_bmod_bmod, Int.bmod_mul_bmod, Int.mul_bmod_bmod, Int.bmod_neg_bmod, Nat.reducePow, Int.reduceBmod, Int.reduceNeg, Int.reduceMul, Int.reduceAdd, Int.reduceSub, not_true_eq_false, not_false_eq_true] at *) <;> (try simp (disch := omega) only [i_bm'] at *) <;> omega)) ?_ ?_ ?_
      · intro i hi
        by_cases e : i = k
        · rw [e, u_hit, h4 _ (by omega)]; unfold f_out; rw [if_neg (by omega)]
        · rw [u_j e]; exact h3 i (by omega)
      · intro i hi
        rw [u_j (by omega)]
        exact h4 i (by omega)
      · intro q j hq
        rw [u_r (by omega)]
        exact h5 q j hq
theorem sp_C_takeOut {G : jv_X} {d : Nat} {B : Option Value → jg_H → Prop} {s : jg_H} {c : Nat} (hc : f_8 c) (a : Int32) (n p : Nat) (ha : a.toInt = p) (hp : p < n) (h9 : n ≤ 10) (hn : (s c 0).toInt = n) (hB : ∀ t : jg_H, (t c 0).toInt = (n : Int) - 1 → (∀ i, i + 1 < n → t (c + 1) i = f_out p (s (c + 1)) i) → (∀ q j, ¬ (q = c ∧ j = 0) → ¬ (q = c + 1 ∧ j < n) → t q j = s q j) → B none t) : q_P G (d + 1) 57 [.ref c, .int a] s B := by
  refine t_Sections_takeOut hc a ?_ ?_ ?_ ?_
  · intro h; exfalso; clear hB; ((try simp only [i_lt, i_le, i_eq, i_in, i_cn, Int32.toInt_add, Int32.toInt_sub, Int32.toInt_mul, Int32.toInt_neg, Int32.reduceToInt, Int.bmod_add_bmod, Int.add_bmod_bmod, Int.bmod_sub_bmod, Int.sub_bmod_bmod, Int.bmod_mul_bmod, Int.mul_bmod_bmod, Int.bmod_neg_bmod, Nat.reducePow, Int.reduceBmod, Int.reduceNeg, Int.reduceMul, Int.reduceAdd, Int.reduceSub, not_true_eq_false, not_false_eq_true] at *) <;> (try simp (disch := omega) only [i_bm'] at *) <;> omega)
  · intro h h'; exfalso; clear hB; ((try simp only [i_lt, i_le, i_eq, i_in, i_cn, Int32.toInt_add, Int32.toInt_sub, Int32.toInt_mul, Int32.toInt_neg, Int32.reduceToInt, Int.bmod_add_bmod, Int.add_bmod_bmod, Int.bmod_sub_bmod, Int.sub_bmod_bmod, Int.bmod_mul_bmod, Int.mul_bmod_bmod, Int.bmod_neg_bmod, Nat.reducePow, Int.reduceBmod, Int.reduceNeg, Int.reduceMul, Int.reduceAdd, Int.reduceSub, not_true_eq_false, not_false_eq_true] at *) <;> (try simp (disch := omega) only [i_bm'] at *) <;> omega)
  · intro h h' h''
    exact lp_C_takeOut hc a n p ha hp h9 hn hB (n - p - 1) p _ s (by omega) (by omega) ha (fun i h => by unfold f_out; rw [if_pos h]) (fun _ _ => rfl) (fun _ _ _ => rfl)
  · intro h h' h''; exfalso; clear hB; ((try simp only [i_lt, i_le, i_eq, i_in, i_cn, Int32.toInt_add, Int32.toInt_sub, Int32.toInt_mul, Int32.toInt_neg, Int32.reduceToInt, Int.bmod_add_bmod, Int.add_bmod_bmod, Int.bmod_sub_bmod, Int.sub_bmod_bmod, Int.bmod_mul_bmod, Int.mul_bmod_bmod, Int.bmod_neg_bmod, Nat.reducePow, Int.reduceBmod, Int.reduceNeg, Int.reduceMul, Int.reduceAdd, Int.reduceSub, not_true_eq_false, not_false_eq_true] at *) <;> (try simp (disch := omega) only [i_bm'] at *) <;> omega)
theorem lp_M_put {G : jv_X} {d : Nat} {B : Option Value → jg_H → Prop} {s : jg_H} (b a : Int32) (n p : Nat) (hb : 0 ≤ b.toInt) (hb' : b.toInt < 13) (ha : a.toInt = p) (hp : p ≤ n) (h9 : n ≤ 9) (hn : (s 146 53).toInt = n) (hB : ∀ t : jg_H, (t 146 53).toInt = (n : Int) + 1 → (∀ i, i ≤ n → t 171 i = f_put p (s 160 b.toNatClampNeg) (s 171) i) → (∀ q j, ¬ (q = 146 ∧ j = 53) → ¬ q = 171 → t q j = s q j) → B none t) : ∀ (m k : Nat) (x3 : Int32) (t : jg_H), k = p + m → k ≤ n → x3.toInt = k → (∀ i, i ≤ k → t 171 i = s 171 i) → (∀ i, k < i → i ≤ n → t 171 i = s 171 (i - 1)) → (∀ q j, ¬ q = 171 → t q j = s q j) → q_W G (d + 1) jm_M_does B 89 [some (.ref 146), some (.int b), some (.int a), some (.int x3)] [] t := by
  have hA : a.toNatClampNeg = p := by rw [i_cn]; omega
  intro m
  induction m with
  | zero =>
    intro k x3 t hk hkn h2 h3 h4 h5
    have e0 : t 146 53 = s 146 53 := h5 _ _ (by omega)
    have e3 : t 160 b.toNatClampNeg = s 160 b.toNatClampNeg := h5 _ _ (by omega)
    refine t_M_does_89 _ _ _ ?_ ?_ ?_ ?_ ?_ ?_
    · intro h; clear hB h3 h4 h5 hA e0 e3; ((try simp only [i_lt, i_le, i_eq, i_in, i_cn, Int32.toInt_add, Int32.toInt_sub, Int32.toInt_mul, Int32.toInt_neg, Int32.reduceToInt, Int.bmod_add_bmod, Int.add_bmod_bmod, Int.bmod_sub_bmod, Int.sub_bmod_bmod, Int.bmod_mul_bmod, Int.mul_bmod_bmod, Int.bmod_neg_bmod, Nat.reducePow, Int.reduceBmod, Int.reduceNeg, Int.reduceMul, Int.reduceAdd, Int.reduceSub, not_true_eq_false, not_false_eq_true] at *) <;> (try simp (disch := omega) only [i_bm'] at *) <;> omega)
    · intro h; clear hB h3 h4 h5 hA e0 e3; ((try simp only [i_lt, i_le, i_eq, i_in, i_cn, Int32.toInt_add, Int32.toInt_sub, Int32.toInt_mul, Int32.toInt_neg, Int32.reduceToInt, Int.bmod_add_bmod, Int.add_bmod_bmod, Int.bmod_sub_bmod, Int.sub_bmod_bmod, Int.bmod_mul_bmod, Int.mul_bmod_bmod, Int.bmod_neg_bmod, Nat.reducePow, Int.reduceBmod, Int.reduceNeg, Int.reduceMul, Int.reduceAdd, Int.reduceSub, not_true_eq_false, not_false_eq_true] at *) <;> (try simp (disch := omega) only [i_bm'] at *) <;> omega)
    · intro h s1 e1 s2 e2
      rw [hA, e3] at e1
      subst e1
      subst e2
      refine hB _ ?_ ?_ ?_
      · rw [u_hit, u_c (by omega), e0]
        clear hB h3 h4 h5 hA e0 e3
        ((try simp only [i_lt, i_le, i_eq, i_in, i_cn, Int32.toInt_add, Int32.toInt_sub, Int32.toInt_mul, Int32.toInt_neg, Int32.reduceToInt, Int.bmod_add_bmod, Int.add_bmod_bmod, Int.bmod_sub_bmod, Int.sub_bmod_bmod, Int.bmod_mul_bmod, Int.mul_bmod_bmod, Int.bmod_neg_bmod, Nat.reducePow, Int.reduceBmod, Int.reduceNeg, Int.reduceMul, Int.reduceAdd, Int.reduceSub, not_true_eq_false, not_false_eq_true] at *) <;> (try simp (disch := omega) only [i_bm'] at *) <;> omega)
      · intro i hi
        rw [u_c (by omega)]
        unfold f_put
        by_cases e : i = p
        · rw [e, u_hit, if_neg (by omega), if_pos rfl]
        · rw [u_j e]
          by_cases e' : i < p
          · rw [if_pos e']; exact h3 i (by omega)
          · rw [if_neg e', if_neg e]; exact h4 i (by omega) hi
      · intro q j h1 h2
        rw [u_r (by omega), u_r (by omega)]
        exact h5 q j h2
    all_goals (intros; exfalso; clear hB h3 h4 h5 hA e0 e3; ((try simp only [i_lt, i_le, i_eq, i_in, i_cn, Int32.toInt_add, Int32.toInt_sub, Int32.toInt_mul, Int32.toInt_neg, Int32.reduceToInt, Int.bmod_add_bmod, Int.add_bmod_bmod, Int.bmod_sub_bmod, Int.sub_bmod_bmod, Int.bmod_mul_bmod, Int.mul_bmod_bmod, Int.bmod_neg_bmod, Nat.reducePow, Int.reduceBmod, Int.reduceNeg, Int.reduceMul, Int.reduceAdd, Int.reduceSub, not_true_eq_false, not_false_eq_true] at *) <;> (try simp (disch := omega) only [i_bm'] at *) <;> omega))
  | succ m ih =>
    intro k x3 t hk hkn h2 h3 h4 h5
    have hx : x3.toNatClampNeg = k := by rw [i_cn]; omega
    refine t_M_does_89 _ _ _ ?_ ?_ ?_ ?_ ?_ ?_
    · intro h; clear ih hB h3 h4 h5 hA hx; ((try simp only [i_lt, i_le, i_eq, i_in, i_cn, Int32.toInt_add, Int32.toInt_sub, Int32.toInt_mul, Int32.toInt_neg, Int32.reduceToInt, Int.bmod_add_bmod, Int.add_bmod_bmod, Int.bmod_sub_bmod, Int.sub_bmod_bmod, Int.bmod_mul_bmod, Int.mul_bmod_bmod, Int.bmod_neg_bmod, Nat.reducePow, Int.reduceBmod, Int.reduceNeg, Int.reduceMul, Int.reduceAdd, Int.reduceSub, not_true_eq_false, not_false_eq_true] at *) <;> (try simp (disch := omega) only [i_bm'] at *) <;> omega)
    · intro h; clear ih hB h3 h4 h5 hA hx; ((try simp only [i_lt, i_le, i_eq, i_in, i_cn, Int32.toInt_add, Int32.toInt_sub, Int32.toInt_mul, Int32.toInt_neg, Int32.reduceToInt, Int.bmod_add_bmod, Int.add_bmod_bmod, Int.bmod_sub_bmod, Int.sub_bmod_bmod, Int.bmod_mul_bmod, Int.mul_bmod_bmod, Int.bmod_neg_bmod, Nat.reducePow, Int.reduceBmod, Int.reduceNeg, Int.reduceMul, Int.reduceAdd, Int.reduceSub, not_true_eq_false, not_false_eq_true] at *) <;> (try simp (disch := omega) only [i_bm'] at *) <;> omega)
    · intro h s1 e1 s2 e2; exfalso; clear ih hB h3 h4 h5 hA e1 e2 hx; ((try simp only [i_lt, i_le, i_eq, i_in, i_cn, Int32.toInt_add, Int32.toInt_sub, Int32.toInt_mul, Int32.toInt_neg, Int32.reduceToInt, Int.bmod_add_bmod, Int.add_bmod_bmod, Int.bmod_sub_bmod, Int.sub_bmod_bmod, Int.bmod_mul_bmod, Int.mul_bmod_bmod, Int.bmod_neg_bmod, Nat.reducePow, Int.reduceBmod, Int.reduceNeg, Int.reduceMul, Int.reduceAdd, Int.reduceSub, not_true_eq_false, not_false_eq_true] at *) <;> (try simp (disch := omega) only [i_bm'] at *) <;> omega)
    · intro h; clear ih hB h3 h4 h5 hA hx; ((try simp only [i_lt, i_le, i_eq, i_in, i_cn, Int32.toInt_add, Int32.toInt_sub, Int32.toInt_mul, Int32.toInt_neg, Int32.reduceToInt, Int.bmod_add_bmod, Int.add_bmod_bmod, Int.bmod_sub_bmod, Int.sub_bmod_bmod, Int.bmod_mul_bmod, Int.mul_bmod_bmod, Int.bmod_neg_bmod, Nat.reducePow, Int.reduceBmod, Int.reduceNeg, Int.reduceMul, Int.reduceAdd, Int.reduceSub, not_true_eq_false, not_false_eq_true] at *) <;> (try simp (disch := omega) only [i_bm'] at *) <;> omega)
    · intro h; clear ih hB h3 h4 h5 hA hx; ((try simp only [i_lt, i_le, i_eq, i_in, i_cn, Int32.toInt_add, Int32.toInt_sub, Int32.toInt_mul, Int32.toInt_neg, Int32.reduceToInt, Int.bmod_add_bmod, Int.add_bmod_bmod, Int.bmod_sub_bmod, Int.sub_bmod_bmod, Int.bmod_mul_bmod, Int.mul_bmod_bmod, Int.bmod_neg_bmod, Nat.reducePow, Int.reduceBmod, Int.reduceNeg, Int.reduceMul, Int.reduceAdd, Int.reduceSub, not_true_eq_false, not_false_eq_true] at *) <;> (try simp (disch := omega) only [i_bm'] at *) <;> omega)
    · intro h s3 e
      have hx1 : (x3 - 1).toNatClampNeg = k - 1 := by clear ih hB h3 h4 h5 hA e hx; (try simp only [i_lt, i_le, i_eq, i_in, i_cn, Int32.toInt_add, Int32.toInt_sub, Int32.toInt_mul, Int32.toInt_neg, Int32.reduceToInt, Int.bmod_add_bmod, Int.add_bmod_bmod, Int.bmod_sub_bmod, Int.sub_bmod_bmod, Int.bmod_mul_bmod, Int.mul_bmod_bmod, Int.bmod_neg_bmod, Nat.reducePow, Int.reduceBmod, Int.reduceNeg, Int.reduceMul, Int.reduceAdd, Int.reduceSub, not_true_eq_false, not_false_eq_true] at *) <;> (try simp (disch := omega) only [i_bm'] at *); omega
      rw [hx, hx1] at e
      subst e
      refine ih (k - 1) _ _ (by omega) (by omega) (by clear ih hB h3 h4 h5 hA hx hx1; ((try simp only [i_lt, i_le, i_eq, i_in, i_cn, Int32.toInt_add, Int32.toInt_sub, Int32.toInt_mul, Int32.toInt_neg, Int32.reduceToInt, Int.bmod_add_bmod, Int.add_bmod_bmod, Int.bmod_sub_bmod, Int.sub_bmod_bmod, Int.bmod_mul_bmod, Int.mul_bmod_bmod, Int.bmod_neg_bmod, Nat.reducePow, Int.reduceBmod, Int.reduceNeg, Int.reduceMul, Int.reduceAdd, Int.reduceSub, not_true_eq_false, not_false_eq_true] at *) <;> (try simp (disch := omega) only [i_bm'] at *) <;> omega)) ?_ ?_ ?_
      · intro i hi
        rw [u_j (by omega)]
        exact h3 i (by omega)
      · intro i hi hi2
        by_cases e : i = k
        · rw [e, u_hit]; exact h3 (k - 1) (by omega)
        · rw [u_j e]; exact h4 i (by omega) hi2
      · intro q j hq
        rw [u_c hq]
        exact h5 q j hq
theorem lp_M_out {G : jv_X} {d : Nat} {B : Option Value → jg_H → Prop} {s : jg_H} (b a : Int32) (n p : Nat) (hp : p < n) (h9 : n ≤ 10) (hn : (s 146 53).toInt = (n : Int) - 1) (hB : ∀ t : jg_H, (t 146 53).toInt = (n : Int) - 1 → (∀ i, i + 1 < n → t 171 i = f_out p (s 171) i) → (∀ q j, ¬ q = 171 → t q j = s q j) → B none t) : ∀ (m k : Nat) (x3 : Int32) (t : jg_H), k + m + 1 = n → p ≤ k → x3.toInt = k → (∀ i, i < k → t 171 i = f_out p (s 171) i) → (∀ i, k ≤ i → t 171 i = s 171 i) → (∀ q j, ¬ q = 171 → t q j = s q j) → q_W G (d + 1) jm_M_does B 53 [some (.ref 146), some (.int b), some (.int a), some (.int x3)] [] t := by
  intro m
  induction m with
  | zero =>
    intro k x2 t hk hkn h2 h3 h4 h5
    have e0 : t 146 53 = s 146 53 := h5 _ _ (by omega)
    have hn' : (t 146 53).toInt = (n : Int) - 1 := by rw [e0]; exact hn
    refine t_M_does_53 _ _ _ ?_ ?_ ?_ ?_
    · intro h
      exact hB _ hn' (fun i hi => h3 i (by omega)) h5
    all_goals (intros; exfalso; clear hB h3 h4 h5 e0; ((try simp only [i_lt, i_le, i_eq, i_in, i_cn, Int32.toInt_add, Int32.toInt_sub, Int32.toInt_mul, Int32.toInt_neg, Int32.reduceToInt, Int.bmod_add_bmod, Int.add_bmod_bmod, Int.bmod_sub_bmod, Int.sub_bmod_bmod, Int.bmod_mul_bmod, Int.mul_bmod_bmod, Int.bmod_neg_bmod, Nat.reducePow, Int.reduceBmod, Int.reduceNeg, Int.reduceMul, Int.reduceAdd, Int.reduceSub, not_true_eq_false, not_false_eq_true] at *) <;> (try simp (disch := omega) only [i_bm'] at *) <;> omega))
  | succ m ih =>
    intro k x2 t hk hkn h2 h3 h4 h5
    have hx : x2.toNatClampNeg = k := by rw [i_cn]; omega
    have hx1 : (x2 + 1).toNatClampNeg = k + 1 := by clear ih hB h3 h4 h5 hx; (try simp only [i_lt, i_le, i_eq, i_in, i_cn, Int32.toInt_add, Int32.toInt_sub, Int32.toInt_mul, Int32.toInt_neg, Int32.reduceToInt, Int.bmod_add_bmod, Int.add_bmod_bmod, Int.bmod_sub_bmod, Int.sub_bmod_bmod, Int.bmod_mul_bmod, Int.mul_bmod_bmod, Int.bmod_neg_bmod, Nat.reducePow, Int.reduceBmod, Int.reduceNeg, Int.reduceMul, Int.reduceAdd, Int.reduceSub, not_true_eq_false, not_false_eq_true] at *) <;> (try simp (disch := omega) only [i_bm'] at *); omega
    have e0 : t 146 53 = s 146 53 := h5 _ _ (by omega)
    have hn' : (t 146 53).toInt = (n : Int) - 1 := by rw [e0]; exact hn
    refine t_M_does_53 _ _ _ ?_ ?_ ?_ ?_
    · intro h; exfalso; clear ih hB h3 h4 h5 hx hx1 e0; ((try simp only [i_lt, i_le, i_eq, i_in, i_cn, Int32.toInt_add, Int32.toInt_sub, Int32.toInt_mul, Int32.toInt_neg, Int32.reduceToInt, Int.bmod_add_bmod, Int.add_bmod_bmod, Int.bmod_sub_bmod, Int.sub_bmod_bmod, Int.bmod_mul_bmod, Int.mul_bmod_bmod, Int.bmod_neg_bmod, Nat.reducePow, Int.reduceBmod, Int.reduceNeg, Int.reduceMul, Int.reduceAdd, Int.reduceSub, not_true_eq_false, not_false_eq_true] at *) <;> (try simp (disch := omega) only [i_bm'] at *) <;> omega)
    · intro h; clear ih hB h3 h4 h5 hx hx1 e0; ((try simp only [i_lt, i_le, i_eq, i_in, i_cn, Int32.toInt_add, Int32.toInt_sub, Int32.toInt_mul, Int32.toInt_neg, Int32.reduceToInt, Int.bmod_add_bmod, Int.add_bmod_bmod, Int.bmod_sub_bmod, Int.sub_bmod_bmod, Int.bmod_mul_bmod, Int.mul_bmod_bmod, Int.bmod_neg_bmod, Nat.reducePow, Int.reduceBmod, Int.reduceNeg, Int.reduceMul, Int.reduceAdd, Int.reduceSub, not_true_eq_false, not_false_eq_true] at *) <;> (try simp (disch := omega) only [i_bm'] at *) <;> omega)
    · intro h; clear ih hB h3 h4 h5 hx hx1 e0; ((try simp only [i_lt, i_le, i_eq, i_in, i_cn, Int32.toInt_add, Int32.toInt_sub, Int32.toInt_mul, Int32.toInt_neg, Int32.reduceToInt, Int.bmod_add_bmod, Int.add_bmod_bmod, Int.bmod_sub_bmod, Int.sub_bmod_bmod, Int.bmod_mul_bmod, Int.mul_bmod_bmod, Int.bmod_neg_bmod, Nat.reducePow, Int.reduceBmod, Int.reduceNeg, Int.reduceMul, Int.reduceAdd, Int.reduceSub, not_true_eq_false, not_false_eq_true] at *) <;> (try simp (disch := omega) only [i_bm'] at *) <;> omega)
    · intro h s2 e
      rw [hx, hx1] at e
      subst e
      refine ih (k + 1) _ _ (by omega) (by omega) (by clear ih hB h3 h4 h5 hx hx1 e0; ((try simp only [i_lt, i_le, i_eq, i_in, i_cn, Int32.toInt_add, Int32.toInt_sub, Int32.toInt_mul, Int32.toInt_neg, Int32.reduceToInt, Int.bmod_add_bmod, Int.add_bmod_bmod, Int.bmod_sub_bmod, Int.sub_bmod_bmod, Int.bmod_mul_bmod, Int.mul_bmod_bmod, Int.bmod_neg_bmod, Nat.reducePow, Int.reduceBmod, Int.reduceNeg, Int.reduceMul, Int.reduceAdd, Int.reduceSub, not_true_eq_false, not_false_eq_true] at *) <;> (try simp (disch := omega) only [i_bm'] at *) <;> omega)) ?_ ?_ ?_
      · intro i hi
        by_cases e : i = k
        · rw [e, u_hit, h4 _ (by omega)]; unfold f_out; rw [if_neg (by omega)]
        · rw [u_j e]; exact h3 i (by omega)
      · intro i hi
        rw [u_j (by omega)]
        exact h4 i (by omega)
      · intro q j hq
        rw [u_c hq]
        exact h5 q j hq
