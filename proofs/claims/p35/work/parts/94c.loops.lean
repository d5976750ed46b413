/-! loops: the tape -/
def f_by (x : Int64) (k : Int32) : Int32 := (((x >>> (((8 * k) : Int32).toInt64 &&& 63)) &&& (255))).toInt32
theorem f_by_b (x : Int64) (k : Int32) : 0 ≤ (f_by x k).toInt ∧ (f_by x k).toInt ≤ 255 := by
  unfold f_by
  generalize x >>> (((8 * k) : Int32).toInt64 &&& 63) = y
  have h1 : (y &&& 255).toBitVec.toNat ≤ 255 := by
    rw [Int64.toBitVec_and, BitVec.toNat_and]
    exact Nat.and_le_right
  have h2 : (y &&& 255).toInt = ((y &&& 255).toBitVec.toNat : Int) := by
    show (y &&& 255).toBitVec.toInt = _
    exact BitVec.toInt_eq_toNat_of_lt (by omega)
  rw [Int64.toInt_toInt32]
  rw [show (2 : Nat) ^ 32 = 4294967296 from rfl]
  rw [i_bm' _ (by omega) (by omega)]
  omega
theorem lp_C_feed {G : jv_X} {d : Nat} {B : Option Value → jg_H → Prop} {s : jg_H} (a1 : Int32) (a2 : Int64) (n r : Nat) (ha : a1.toInt = n) (hr : r + n ≤ 200) (hB : ∀ t : jg_H, (t 117 1).toInt = (r : Int) + n → (∀ i, i < n → t 118 (r + i) = f_by a2 (Int32.ofNat i)) → (∀ c j, ¬ (c = 117 ∧ j = 1) → ¬ (c = 118 ∧ r ≤ j ∧ j < r + n) → t c j = s c j) → B (some (.int (t 117 1))) t) : ∀ (m k : Nat) (x4 : Int32) (t : jg_H), k + m = n → x4 = Int32.ofNat k → x4.toInt = k → (t 117 1).toInt = (r : Int) + k → (∀ i, i < k → t 118 (r + i) = f_by a2 (Int32.ofNat i)) → (∀ c j, ¬ (c = 117 ∧ j = 1) → ¬ (c = 118 ∧ r ≤ j ∧ j < r + n) → t c j = s c j) → q_W G (d + 1) jm_C_feed B 35 [some (.ref 0), some (.int a1), some (.long a2), none, some (.int x4)] [] t := by
  intro m
  induction m with
  | zero =>
    intro k x4 t hk h0 h2 h1 h3 h4
    have e := hB t (by omega) (by rw [show n = k by omega]; exact h3) h4
    clear hB h3 h4 h0
    refine t_C_feed_35 _ _ _ ?_ ?_ ?_ ?_ <;> intros <;> first | exact e | (exfalso; ((try simp only [i_lt, i_le, i_eq, i_in, i_cn, Int32.toInt_add, Int32.toInt_sub, Int32.toInt_mul, Int32.toInt_neg, Int32.reduceToInt, Int.bmod_add_bmod, Int.add_bmod_bmod, Int.bmod_sub_bmod, Int.sub_bmod_bmod, Int.bmod_mul_bmod, Int.mul_bmod_bmod, Int.bmod_neg_bmod, Nat.reducePow, Int.reduceBmod, Int.reduceNeg, Int.reduceMul, Int.reduceAdd, Int.reduceSub, not_true_eq_false, not_false_eq_true] at *) <;> (try simp (disch := omega) only [i_bm'] at *) <;> omega))
  | succ m ih =>
    intro k x4 t hk h0 h2 h1 h3 h4
    have hx : (t 117 1).toNatClampNeg = r + k := by rw [i_cn]; omega
    refine t_C_feed_35 _ _ _ ?_ ?_ ?_ ?_
    · intro h; clear ih hx h3 h4 hB h0; exfalso; ((try simp only [i_lt, i_le, i_eq, i_in, i_cn, Int32.toInt_add, Int32.toInt_sub, Int32.toInt_mul, Int32.toInt_neg, Int32.reduceToInt, Int.bmod_add_bmod, Int.add_bmod_bmod, Int.bmod_sub_bmod, Int.sub_bmod_bmod, Int.bmod_mul_bmod, Int.mul_bmod_bmod, Int.bmod_neg_bmod, Nat.reducePow, Int.reduceBmod, Int.reduceNeg, Int.reduceMul, Int.reduceAdd, Int.reduceSub, not_true_eq_false, not_false_eq_true] at *) <;> (try simp (disch := omega) only [i_bm'] at *) <;> omega)
    · intro h h'; clear ih hx h3 h4 hB h0; exfalso; ((try simp only [i_lt, i_le, i_eq, i_in, i_cn, Int32.toInt_add, Int32.toInt_sub, Int32.toInt_mul, Int32.toInt_neg, Int32.reduceToInt, Int.bmod_add_bmod, Int.add_bmod_bmod, Int.bmod_sub_bmod, Int.sub_bmod_bmod, Int.bmod_mul_bmod, Int.mul_bmod_bmod, Int.bmod_neg_bmod, Nat.reducePow, Int.reduceBmod, Int.reduceNeg, Int.reduceMul, Int.reduceAdd, Int.reduceSub, not_true_eq_false, not_false_eq_true] at *) <;> (try simp (disch := omega) only [i_bm'] at *) <;> omega)
    · intro h h' h'' t1 e1 t2 e2
      rw [hx] at e1
      have hv : (((a2 >>> (((8 * x4) : Int32).toInt64 &&& 63)) &&& (255))).toInt32 = f_by a2 (Int32.ofNat k) := by rw [← h0]; rfl
      rw [hv] at e1
      subst e1
      subst e2
      refine ih (k + 1) _ _ (by omega) (by rw [h0, Int32.ofNat_add]; rfl) (by clear ih hx h3 h4 hB h0 hv; ((try simp only [i_lt, i_le, i_eq, i_in, i_cn, Int32.toInt_add, Int32.toInt_sub, Int32.toInt_mul, Int32.toInt_neg, Int32.reduceToInt, Int.bmod_add_bmod, Int.add_bmod_bmod, Int.bmod_sub_bmod, Int.sub_bmod_bmod, Int.bmod_mul_bmod, Int.mul_bmod_bmod, Int.bmod_neg_bmod, Nat.reducePow, Int.reduceBmod, Int.reduceNeg, Int.reduceMul, Int.reduceAdd, Int.reduceSub, not_true_eq_false, not_false_eq_true] at *) <;> (try simp (disch := omega) only [i_bm'] at *) <;> omega)) ?_ ?_ ?_
      · (simp (disch := omega) only [u_hit, u_c, u_j]); clear ih hx h3 h4 hB h0 hv; ((try simp only [i_lt, i_le, i_eq, i_in, i_cn, Int32.toInt_add, Int32.toInt_sub, Int32.toInt_mul, Int32.toInt_neg, Int32.reduceToInt, Int.bmod_add_bmod, Int.add_bmod_bmod, Int.bmod_sub_bmod, Int.sub_bmod_bmod, Int.bmod_mul_bmod, Int.mul_bmod_bmod, Int.bmod_neg_bmod, Nat.reducePow, Int.reduceBmod, Int.reduceNeg, Int.reduceMul, Int.reduceAdd, Int.reduceSub, not_true_eq_false, not_false_eq_true] at *) <;> (try simp (disch := omega) only [i_bm'] at *) <;> omega)
      · intro i hi
        by_cases e : i = k
        · subst e; (simp (disch := omega) only [u_hit, u_c, u_j])
        · (simp (disch := omega) only [u_hit, u_c, u_j]); exact h3 i (by omega)
      · intro c j hc hj
        rw [u_r (by omega), u_r (by omega)]
        exact h4 c j hc hj
    · intro h h' h''; clear ih hx h3 h4 hB h0; exfalso; ((try simp only [i_lt, i_le, i_eq, i_in, i_cn, Int32.toInt_add, Int32.toInt_sub, Int32.toInt_mul, Int32.toInt_neg, Int32.reduceToInt, Int.bmod_add_bmod, Int.add_bmod_bmod, Int.bmod_sub_bmod, Int.sub_bmod_bmod, Int.bmod_mul_bmod, Int.mul_bmod_bmod, Int.bmod_neg_bmod, Nat.reducePow, Int.reduceBmod, Int.reduceNeg, Int.reduceMul, Int.reduceAdd, Int.reduceSub, not_true_eq_false, not_false_eq_true] at *) <;> (try simp (disch := omega) only [i_bm'] at *) <;> omega)
theorem lp_M_feed {G : jv_X} {d : Nat} {B : Option Value → jg_H → Prop} {s : jg_H} (a1 : Int32) (a2 : Int64) (n r : Nat) (ha : a1.toInt = n) (hr : r + n ≤ 200) (hB : ∀ t : jg_H, (t 146 30).toInt = (r : Int) + n → (∀ i, i < n → t 162 (r + i) = f_by a2 (Int32.ofNat i)) → (∀ c j, ¬ (c = 146 ∧ j = 30) → ¬ (c = 162 ∧ r ≤ j ∧ j < r + n) → t c j = s c j) → B (some (.int (t 146 30))) t) : ∀ (m k : Nat) (x4 : Int32) (t : jg_H), k + m = n → x4 = Int32.ofNat k → x4.toInt = k → (t 146 30).toInt = (r : Int) + k → (∀ i, i < k → t 162 (r + i) = f_by a2 (Int32.ofNat i)) → (∀ c j, ¬ (c = 146 ∧ j = 30) → ¬ (c = 162 ∧ r ≤ j ∧ j < r + n) → t c j = s c j) → q_W G (d + 1) jm_M_feed B 31 [some (.ref 146), some (.int a1), some (.long a2), none, some (.int x4)] [] t := by
  intro m
  induction m with
  | zero =>
    intro k x4 t hk h0 h2 h1 h3 h4
    have e := hB t (by omega) (by rw [show n = k by omega]; exact h3) h4
    clear hB h3 h4 h0
    refine t_M_feed_31 _ _ _ ?_ ?_ ?_ <;> intros <;> first | exact e | (exfalso; ((try simp only [i_lt, i_le, i_eq, i_in, i_cn, Int32.toInt_add, Int32.toInt_sub, Int32.toInt_mul, Int32.toInt_neg, Int32.reduceToInt, Int.bmod_add_bmod, Int.add_bmod_bmod, Int.bmod_sub_bmod, Int.sub_bmod_bmod, Int.bmod_mul_bmod, Int.mul_bmod_bmod, Int.bmod_neg_bmod, Nat.reducePow, Int.reduceBmod, Int.reduceNeg, Int.reduceMul, Int.reduceAdd, Int.reduceSub, not_true_eq_false, not_false_eq_true] at *) <;> (try simp (disch := omega) only [i_bm'] at *) <;> omega))
  | succ m ih =>
    intro k x4 t hk h0 h2 h1 h3 h4
    have hx : (t 146 30).toNatClampNeg = r + k := by rw [i_cn]; omega
    refine t_M_feed_31 _ _ _ ?_ ?_ ?_
    · intro h; clear ih hx h3 h4 hB h0; exfalso; ((try simp only [i_lt, i_le, i_eq, i_in, i_cn, Int32.toInt_add, Int32.toInt_sub, Int32.toInt_mul, Int32.toInt_neg, Int32.reduceToInt, Int.bmod_add_bmod, Int.add_bmod_bmod, Int.bmod_sub_bmod, Int.sub_bmod_bmod, Int.bmod_mul_bmod, Int.mul_bmod_bmod, Int.bmod_neg_bmod, Nat.reducePow, Int.reduceBmod, Int.reduceNeg, Int.reduceMul, Int.reduceAdd, Int.reduceSub, not_true_eq_false, not_false_eq_true] at *) <;> (try simp (disch := omega) only [i_bm'] at *) <;> omega)
    · intro h; clear ih hx h3 h4 hB h0; ((try simp only [i_lt, i_le, i_eq, i_in, i_cn, Int32.toInt_add, Int32.toInt_sub, Int32.toInt_mul, Int32.toInt_neg, Int32.reduceToInt, Int.bmod_add_bmod, Int.add_bmod_bmod, Int.bmod_sub_bmod, Int.sub_bmod_bmod, Int.bmod_mul_bmod, Int.mul_bmod_bmod, Int.bmod_neg_bmod, Nat.reducePow, Int.reduceBmod, Int.reduceNeg, Int.reduceMul, Int.reduceAdd, Int.reduceSub, not_true_eq_false, not_false_eq_true] at *) <;> (try simp (disch := omega) only [i_bm'] at *) <;> omega)
    · intro h t1 e1 t2 e2
      rw [hx] at e1
      have hv : (((a2 >>> (((8 * x4) : Int32).toInt64 &&& 63)) &&& (255))).toInt32 = f_by a2 (Int32.ofNat k) := by rw [← h0]; rfl
      rw [hv] at e1
      subst e1
      subst e2
      refine ih (k + 1) _ _ (by omega) (by rw [h0, Int32.ofNat_add]; rfl) (by clear ih hx h3 h4 hB h0 hv; ((try simp only [i_lt, i_le, i_eq, i_in, i_cn, Int32.toInt_add, Int32.toInt_sub, Int32.toInt_mul, Int32.toInt_neg, Int32.reduceToInt, Int.bmod_add_bmod, Int.add_bmod_bmod, Int.bmod_sub_bmod, Int.sub_bmod_bmod, Int.bmod_mul_bmod, Int.mul_bmod_bmod, Int.bmod_neg_bmod, Nat.reducePow, Int.reduceBmod, Int.reduceNeg, Int.reduceMul, Int.reduceAdd, Int.reduceSub, not_true_eq_false, not_false_eq_true] at *) <;> (try simp (disch := omega) only [i_bm'] at *) <;> omega)) ?_ ?_ ?_
      · (simp (disch := omega) only [u_hit, u_c, u_j]); clear ih hx h3 h4 hB h0 hv; ((try simp only [i_lt, i_le, i_eq, i_in, i_cn, Int32.toInt_add, Int32.toInt_sub, Int32.toInt_mul, Int32.toInt_neg, Int32.reduceToInt, Int.bmod_add_bmod, Int.add_bmod_bmod, Int.bmod_sub_bmod, Int.sub_bmod_bmod, Int.bmod_mul_bmod, Int.mul_bmod_bmod, Int.bmod_neg_bmod, Nat.reducePow, Int.reduceBmod, Int.reduceNeg, Int.reduceMul, Int.reduceAdd, Int.reduceSub, not_true_eq_false, not_false_eq_true] at *) <;> (try simp (disch := omega) only [i_bm'] at *) <;> omega)
      · intro i hi
        by_cases e : i = k
        · subst e; (simp (disch := omega) only [u_hit, u_c, u_j])
        · (simp (disch := omega) only [u_hit, u_c, u_j]); exact h3 i (by omega)
      · intro c j hc hj
        rw [u_r (by omega), u_r (by omega)]
        exact h4 c j hc hj
theorem Inv_tap {s s' : jg_H} (hI : Inv s) (h : f_only 7 s s') (ht : I_tap s') : Inv s' := by
  obtain ⟨a1, a2, a3, a4, a5, a6, a7, a8, a9, a10⟩ := hI
  have hs := fun k' hk' => fo_same h (k' := k') hk'
  have f2 := hs 2 (by decide)
  have h3 := hs 3 (by decide)
  have f3 : s' 153 = s 153 := funext fun i => f2 153 i rfl
  exact ⟨fr_mem (hs 1 (by decide)) a1, fr_bil f2 a2, fr_cal h3 (funext fun i => f2 152 i rfl) (Int.le_of_eq (congrArg _ (f2 146 6 rfl).symm)) a3, fr_pil (hs 4 (by decide)) (Int.le_of_eq (congrArg _ (hs 1 (by decide) 146 0 rfl).symm)) (Int.le_of_eq (congrArg _ (hs 6 (by decide) 146 14 rfl).symm)) (h3 146 13 rfl) f3 a4, fr_tol (hs 5 (by decide)) (h3 146 13 rfl) f3 a5, fr_txt (hs 6 (by decide)) a6, ht, fr_mis (hs 8 (by decide)) a8, fr_try (hs 10 (by decide)) a9, fr_cst (hs 9 (by decide)) a10⟩
theorem st_feed {G : jv_X} {d : Nat} {s : jg_H} (hI : Inv s) (a1 : Int32) (a2 : Int64) : q_P G (d + 2) 69 [.ref 0, .int a1, .long a2] s (fun r s' => q_P G (d + 2) 175 [.ref 146, .int a1, .long a2] s' (fun r' s'' => r = r' ∧ Inv s'')) := by
  have r1 := hI.2.2.2.2.2.2.1.1
  have r2 := hI.2.2.2.2.2.2.1.2.1
  have r3 := hI.2.2.2.2.2.2.1.2.2.1
  refine t_C_feed (d := d) a1 a2 ?_ ?two ?_ ?_
  case two =>
    intro h1 h2 h3
    have w : 1 ≤ a1.toInt ∧ a1.toInt ≤ 8 ∧ (s 146 30).toInt + a1.toInt ≤ 200 := by ((try simp only [i_lt, i_le, i_eq, i_in, i_cn, Int32.toInt_add, Int32.toInt_sub, Int32.toInt_mul, Int32.toInt_neg, Int32.reduceToInt, Int.bmod_add_bmod, Int.add_bmod_bmod, Int.bmod_sub_bmod, Int.sub_bmod_bmod, Int.bmod_mul_bmod, Int.mul_bmod_bmod, Int.bmod_neg_bmod, Nat.reducePow, Int.reduceBmod, Int.reduceNeg, Int.reduceMul, Int.reduceAdd, Int.reduceSub, not_true_eq_false, not_false_eq_true] at *) <;> (try simp (disch := omega) only [i_bm'] at *) <;> omega)
    obtain ⟨w1, w2, w3⟩ := w
    refine lp_C_feed a1 a2 a1.toInt.toNat (s 146 30).toInt.toNat (by omega) (by omega) ?_ a1.toInt.toNat 0 0 s (by omega) rfl rfl (by rw [r1]; omega) (fun i hi => absurd hi (by omega)) (fun _ _ _ _ => rfl)
    intro t q1 q2 q3
    have e0 : t 146 30 = s 146 30 := q3 146 30 (by omega) (by omega)
    have w3' : (t 146 30).toInt + a1.toInt ≤ 200 := by rw [e0]; exact w3
    have r2' : 0 ≤ (t 146 30).toInt := by rw [e0]; exact r2
    refine t_M_feed (d := d) a1 a2 ?_ ?_ ?three ?_
    case three =>
      intro g1 g2 g3
      refine lp_M_feed a1 a2 a1.toInt.toNat (s 146 30).toInt.toNat (by omega) (by omega) ?_ a1.toInt.toNat 0 0 t (by omega) rfl rfl (by rw [e0]; omega) (fun i hi => absurd hi (by omega)) (fun _ _ _ _ => rfl)
      intro u p1 p2 p3
      have e1 : u 117 1 = t 117 1 := p3 117 1 (by omega) (by omega)
      have e2 : t 117 1 = u 146 30 := Int32.toInt_inj.mp (by rw [q1, p1])
      refine ⟨by rw [e2], Inv_tap hI ?_ ?_⟩
      · intro c j hg
        rw [p3 c j (by rintro ⟨rfl, rfl⟩; exact hg rfl) (by rintro ⟨rfl, _⟩; exact hg rfl), q3 c j (by rintro ⟨rfl, rfl⟩; exact hg rfl) (by rintro ⟨rfl, _⟩; exact hg rfl)]
      · refine ⟨by rw [e1, e2], by omega, by omega, ?_⟩
        intro i hi
        by_cases hlt : i < (s 146 30).toInt.toNat
        · obtain ⟨b1, b2, b3⟩ := hI.2.2.2.2.2.2.1.2.2.2 i (by omega)
          rw [p3 118 i (by omega) (by omega), q3 118 i (by omega) (by omega), p3 162 i (by omega) (by omega), q3 162 i (by omega) (by omega)]
          exact ⟨b1, b2, b3⟩
        · have hi' : i - (s 146 30).toInt.toNat < a1.toInt.toNat := by omega
          have e : i = (s 146 30).toInt.toNat + (i - (s 146 30).toInt.toNat) := by omega
          rw [p3 118 i (by omega) (by omega)]
          rw [e, q2 _ hi', p2 _ hi']
          exact ⟨rfl, (f_by_b _ _).1, (f_by_b _ _).2⟩
    all_goals (intros; clear q3 q2; exfalso; ((try simp only [i_lt, i_le, i_eq, i_in, i_cn, Int32.toInt_add, Int32.toInt_sub, Int32.toInt_mul, Int32.toInt_neg, Int32.reduceToInt, Int.bmod_add_bmod, Int.add_bmod_bmod, Int.bmod_sub_bmod, Int.sub_bmod_bmod, Int.bmod_mul_bmod, Int.mul_bmod_bmod, Int.bmod_neg_bmod, Nat.reducePow, Int.reduceBmod, Int.reduceNeg, Int.reduceMul, Int.reduceAdd, Int.reduceSub, not_true_eq_false, not_false_eq_true] at *) <;> (try simp (disch := omega) only [i_bm'] at *) <;> omega))
  all_goals (intros; refine t_M_feed (d := d) a1 a2 ?_ ?_ ?_ ?_ <;> intros <;> first | (exact ⟨rfl, hI⟩) | (exfalso; ((try simp only [i_lt, i_le, i_eq, i_in, i_cn, Int32.toInt_add, Int32.toInt_sub, Int32.toInt_mul, Int32.toInt_neg, Int32.reduceToInt, Int.bmod_add_bmod, Int.add_bmod_bmod, Int.bmod_sub_bmod, Int.sub_bmod_bmod, Int.bmod_mul_bmod, Int.mul_bmod_bmod, Int.bmod_neg_bmod, Nat.reducePow, Int.reduceBmod, Int.reduceNeg, Int.reduceMul, Int.reduceAdd, Int.reduceSub, not_true_eq_false, not_false_eq_true] at *) <;> (try simp (disch := omega) only [i_bm'] at *) <;> omega)) | ((try simp only [i_lt, i_le, i_eq, i_in, i_cn, Int32.toInt_add, Int32.toInt_sub, Int32.toInt_mul, Int32.toInt_neg, Int32.reduceToInt, Int.bmod_add_bmod, Int.add_bmod_bmod, Int.bmod_sub_bmod, Int.sub_bmod_bmod, Int.bmod_mul_bmod, Int.mul_bmod_bmod, Int.bmod_neg_bmod, Nat.reducePow, Int.reduceBmod, Int.reduceNeg, Int.reduceMul, Int.reduceAdd, Int.reduceSub, not_true_eq_false, not_false_eq_true] at *) <;> (try simp (disch := omega) only [i_bm'] at *) <;> omega) | (exfalso; (try simp only [i_lt, i_le, i_eq, i_in, i_cn, Int32.toInt_add, Int32.toInt_sub, Int32.toInt_mul, Int32.toInt_neg, Int32.reduceToInt, Int.bmod_add_bmod, Int.add_bmod_bmod, Int.bmod_sub_bmod, Int.sub_bmod_bmod, Int.bmod_mul_bmod, Int.mul_bmod_bmod, Int.bmod_neg_bmod, Nat.reducePow, Int.reduceBmod, Int.reduceNeg, Int.reduceMul, Int.reduceAdd, Int.reduceSub, not_true_eq_false, not_false_eq_true] at *); (try simp (disch := omega) only [u_hit, u_c, u_j] at *); ((try simp only [i_lt, i_le, i_eq, i_in, i_cn, Int32.toInt_add, Int32.toInt_sub, Int32.toInt_mul, Int32.toInt_neg, Int32.reduceToInt, Int.bmod_add_bmod, Int.add_bmod_bmod, Int.bmod_sub_bmod, Int.sub_bmod_bmod, Int.bmod_mul_bmod, Int.mul_bmod_bmod, Int.bmod_neg_bmod, Nat.reducePow, Int.reduceBmod, Int.reduceNeg, Int.reduceMul, Int.reduceAdd, Int.reduceSub, not_true_eq_false, not_false_eq_true] at *) <;> (try simp (disch := omega) only [i_bm'] at *) <;> omega)) | ((try simp only [i_lt, i_le, i_eq, i_in, i_cn, Int32.toInt_add, Int32.toInt_sub, Int32.toInt_mul, Int32.toInt_neg, Int32.reduceToInt, Int.bmod_add_bmod, Int.add_bmod_bmod, Int.bmod_sub_bmod, Int.sub_bmod_bmod, Int.bmod_mul_bmod, Int.mul_bmod_bmod, Int.bmod_neg_bmod, Nat.reducePow, Int.reduceBmod, Int.reduceNeg, Int.reduceMul, Int.reduceAdd, Int.reduceSub, not_true_eq_false, not_false_eq_true] at *); (try simp (disch := omega) only [u_hit, u_c, u_j] at *); ((try simp only [i_lt, i_le, i_eq, i_in, i_cn, Int32.toInt_add, Int32.toInt_sub, Int32.toInt_mul, Int32.toInt_neg, Int32.reduceToInt, Int.bmod_add_bmod, Int.add_bmod_bmod, Int.bmod_sub_bmod, Int.sub_bmod_bmod, Int.bmod_mul_bmod, Int.mul_bmod_bmod, Int.bmod_neg_bmod, Nat.reducePow, Int.reduceBmod, Int.reduceNeg, Int.reduceMul, Int.reduceAdd, Int.reduceSub, not_true_eq_false, not_false_eq_true] at *) <;> (try simp (disch := omega) only [i_bm'] at *) <;> omega)) | (refine ⟨r_i ?_, hI⟩; ((try simp only [i_lt, i_le, i_eq, i_in, i_cn, Int32.toInt_add, Int32.toInt_sub, Int32.toInt_mul, Int32.toInt_neg, Int32.reduceToInt, Int.bmod_add_bmod, Int.add_bmod_bmod, Int.bmod_sub_bmod, Int.sub_bmod_bmod, Int.bmod_mul_bmod, Int.mul_bmod_bmod, Int.bmod_neg_bmod, Nat.reducePow, Int.reduceBmod, Int.reduceNeg, Int.reduceMul, Int.reduceAdd, Int.reduceSub, not_true_eq_false, not_false_eq_true] at *) <;> (try simp (disch := omega) only [i_bm'] at *) <;> omega)) | skip)
