/-! steps: the calendar is called, a section is put in -/
theorem lp_C_call {G : jv_X} {d : Nat} {B : Option Value → jg_H → Prop} {s : jg_H} (n : Nat) (h7 : n ≤ 7) (hn : (s 0 5).toInt = n) (hu : 0 ≤ (s 0 6).toInt) (hu8 : (s 0 6).toInt < 8) (hu3 : (s 0 6).toInt < (s 0 3).toInt) (hB : ∀ t : jg_H, (∀ i, i < n → t 57 i = s 57 (i + 1)) → (∀ q j, ¬ (q = 57 ∧ j < n) → t q j = jg_up s (33 + 3 * (s 0 6).toNatClampNeg) 0 2 q j) → B (some (.int (s 0 6))) t) : ∀ (m k : Nat) (x1 : Int32) (t : jg_H), k + m = n → x1.toInt = k → (∀ i, i < k → t 57 i = s 57 (i + 1)) → (∀ i, k ≤ i → t 57 i = s 57 i) → (∀ q j, ¬ (q = 57 ∧ j < n) → t q j = s q j) → q_W G (d + 1) jm_C_call B 40 [some (.ref 0), some (.int x1)] [] t := by
  have hU : (s 0 6).toNatClampNeg < 8 := by rw [i_cn]; omega
  intro m
  induction m with
  | zero =>
    intro k x1 t hk h1 h2 h3 h4
    have e5 : t 0 5 = s 0 5 := h4 _ _ (by omega)
    have e6 : t 0 6 = s 0 6 := h4 _ _ (by omega)
    have e3 : t 0 3 = s 0 3 := h4 _ _ (by omega)
    refine t_C_call_40 _ ?_ ?_ ?_ ?four ?_ ?_ ?_ ?_ ?_ ?_ ?_
    case four =>
      intro g1 g2 g3 g4 s1 e
      rw [e6] at e
      subst e
      rw [u_c (by omega), e6]
      refine hB _ ?_ ?_
      · intro i hi
        rw [u_c (by omega)]
        exact h2 i (by omega)
      · intro q j hq
        unfold jg_up
        by_cases e : q = 33 + 3 * (s 0 6).toNatClampNeg ∧ j = 0
        · rw [if_pos e, if_pos e]
        · rw [if_neg e, if_neg e]; exact h4 q j hq
    all_goals (intros; exfalso; clear hB h2 h3 h4; rw [e6] at *; rw [e5] at *; rw [e3] at *; clear e6 e5 e3; ((try simp only [i_lt, i_le, i_eq, i_in, i_cn, Int32.toInt_add, Int32.toInt_sub, Int32.toInt_mul, Int32.toInt_neg, Int32.reduceToInt, Int.bmod_add_bmod, Int.add_bmod_bmod, Int.bmod_sub_bmod, Int.sub_bmod_bmod, Int.bmod_mul_bmod, Int.mul_bmod_bmod, Int.bmod_neg_bmod, Nat.reducePow, Int.reduceBmod, Int.reduceNeg, Int.reduceMul, Int.reduceAdd, Int.reduceSub, not_true_eq_false, not_false_eq_true] at *) <;> (try simp (disch := omega) only [i_bm'] at *) <;> omega))
  | succ m ih =>
    intro k x1 t hk h1 h2 h3 h4
    have hx : x1.toNatClampNeg = k := by rw [i_cn]; omega
    have hx1 : (x1 + 1).toNatClampNeg = k + 1 := by clear ih hB h2 h3 h4 hx; (try simp only [i_lt, i_le, i_eq, i_in, i_cn, Int32.toInt_add, Int32.toInt_sub, Int32.toInt_mul, Int32.toInt_neg, Int32.reduceToInt, Int.bmod_add_bmod, Int.add_bmod_bmod, Int.bmod_sub_bmod, Int.sub_bmod_bmod, Int.bmod_mul_bmod, Int.mul_bmod_bmod, Int.bmod_neg_bmod, Nat.reducePow, Int.reduceBmod, Int.reduceNeg, Int.reduceMul, Int.reduceAdd, Int.reduceSub, not_true_eq_false, not_false_eq_true] at *) <;> (try simp (disch := omega) only [i_bm'] at *); omega
    have e5 : t 0 5 = s 0 5 := h4 _ _ (by omega)
    have e5' : (t 0 5).toInt = n := by rw [e5]; exact hn
    refine t_C_call_40 _ ?_ ?_ ?_ ?_ ?_ ?_ ?_ ?_ ?_ ?_ ?last
    case last =>
      intro g1 g2 s3 e
      rw [hx, hx1] at e
      subst e
      refine ih (k + 1) _ _ (by omega) (by clear ih hB h2 h3 h4 hx hx1 e5; ((try simp only [i_lt, i_le, i_eq, i_in, i_cn, Int32.toInt_add, Int32.toInt_sub, Int32.toInt_mul, Int32.toInt_neg, Int32.reduceToInt, Int.bmod_add_bmod, Int.add_bmod_bmod, Int.bmod_sub_bmod, Int.sub_bmod_bmod, Int.bmod_mul_bmod, Int.mul_bmod_bmod, Int.bmod_neg_bmod, Nat.reducePow, Int.reduceBmod, Int.reduceNeg, Int.reduceMul, Int.reduceAdd, Int.reduceSub, not_true_eq_false, not_false_eq_true] at *) <;> (try simp (disch := omega) only [i_bm'] at *) <;> omega)) ?_ ?_ ?_
      · intro i hi
        by_cases e : i = k
        · rw [e, u_hit, h3 _ (by omega)]
        · rw [u_j e]; exact h2 i (by omega)
      · intro i hi
        rw [u_j (by omega)]
        exact h3 i (by omega)
      · intro q j hq
        rw [u_r (by omega)]
        exact h4 q j hq
    all_goals (intros; clear ih hB h2 h3 h4 hx hx1 e5; first | (exfalso; ((try simp only [i_lt, i_le, i_eq, i_in, i_cn, Int32.toInt_add, Int32.toInt_sub, Int32.toInt_mul, Int32.toInt_neg, Int32.reduceToInt, Int.bmod_add_bmod, Int.add_bmod_bmod, Int.bmod_sub_bmod, Int.sub_bmod_bmod, Int.bmod_mul_bmod, Int.mul_bmod_bmod, Int.bmod_neg_bmod, Nat.reducePow, Int.reduceBmod, Int.reduceNeg, Int.reduceMul, Int.reduceAdd, Int.reduceSub, not_true_eq_false, not_false_eq_true] at *) <;> (try simp (disch := omega) only [i_bm'] at *) <;> omega)) | ((try simp only [i_lt, i_le, i_eq, i_in, i_cn, Int32.toInt_add, Int32.toInt_sub, Int32.toInt_mul, Int32.toInt_neg, Int32.reduceToInt, Int.bmod_add_bmod, Int.add_bmod_bmod, Int.bmod_sub_bmod, Int.sub_bmod_bmod, Int.bmod_mul_bmod, Int.mul_bmod_bmod, Int.bmod_neg_bmod, Nat.reducePow, Int.reduceBmod, Int.reduceNeg, Int.reduceMul, Int.reduceAdd, Int.reduceSub, not_true_eq_false, not_false_eq_true] at *) <;> (try simp (disch := omega) only [i_bm'] at *) <;> omega))
theorem lp_M_call {G : jv_X} {d : Nat} {B : Option Value → jg_H → Prop} {s : jg_H} (n : Nat) (h7 : n ≤ 7) (hn : (s 146 11).toInt = n) (hB : ∀ t : jg_H, (∀ i, i < n → t 156 i = s 156 (i + 1)) → (∀ q j, ¬ (q = 156 ∧ j < n) → t q j = s q j) → B (some (.int (s 146 13))) t) : ∀ (m k : Nat) (x1 : Int32) (t : jg_H), k + m = n → x1.toInt = k → (∀ i, i < k → t 156 i = s 156 (i + 1)) → (∀ i, k ≤ i → t 156 i = s 156 i) → (∀ q j, ¬ (q = 156 ∧ j < n) → t q j = s q j) → q_W G d jm_M_call B 50 [some (.ref 146), some (.int x1)] [] t := by
  intro m
  induction m with
  | zero =>
    intro k x1 t hk h1 h2 h3 h4
    have e5 : t 146 11 = s 146 11 := h4 _ _ (by omega)
    have e6 : t 146 13 = s 146 13 := h4 _ _ (by omega)
    have e := hB t (by intro i hi; exact h2 i (by omega)) h4
    rw [← e6] at e
    refine t_M_call_50 _ ?_ ?_ ?_ ?_
    · intro g1; exact e
    all_goals (intros; exfalso; clear hB h2 h3 h4 e; rw [e5] at *; clear e5; ((try simp only [i_lt, i_le, i_eq, i_in, i_cn, Int32.toInt_add, Int32.toInt_sub, Int32.toInt_mul, Int32.toInt_neg, Int32.reduceToInt, Int.bmod_add_bmod, Int.add_bmod_bmod, Int.bmod_sub_bmod, Int.sub_bmod_bmod, Int.bmod_mul_bmod, Int.mul_bmod_bmod, Int.bmod_neg_bmod, Nat.reducePow, Int.reduceBmod, Int.reduceNeg, Int.reduceMul, Int.reduceAdd, Int.reduceSub, not_true_eq_false, not_false_eq_true] at *) <;> (try simp (disch := omega) only [i_bm'] at *) <;> omega))
  | succ m ih =>
    intro k x1 t hk h1 h2 h3 h4
    have hx : x1.toNatClampNeg = k := by rw [i_cn]; omega
    have hx1 : (x1 + 1).toNatClampNeg = k + 1 := by clear ih hB h2 h3 h4 hx; (try simp only [i_lt, i_le, i_eq, i_in, i_cn, Int32.toInt_add, Int32.toInt_sub, Int32.toInt_mul, Int32.toInt_neg, Int32.reduceToInt, Int.bmod_add_bmod, Int.add_bmod_bmod, Int.bmod_sub_bmod, Int.sub_bmod_bmod, Int.bmod_mul_bmod, Int.mul_bmod_bmod, Int.bmod_neg_bmod, Nat.reducePow, Int.reduceBmod, Int.reduceNeg, Int.reduceMul, Int.reduceAdd, Int.reduceSub, not_true_eq_false, not_false_eq_true] at *) <;> (try simp (disch := omega) only [i_bm'] at *); omega
    have e5 : t 146 11 = s 146 11 := h4 _ _ (by omega)
    have e5' : (t 146 11).toInt = n := by rw [e5]; exact hn
    refine t_M_call_50 _ ?_ ?_ ?_ ?last
    case last =>
      intro g1 s3 e
      rw [hx, hx1] at e
      subst e
      refine ih (k + 1) _ _ (by omega) (by clear ih hB h2 h3 h4 hx hx1 e5; ((try simp only [i_lt, i_le, i_eq, i_in, i_cn, Int32.toInt_add, Int32.toInt_sub, Int32.toInt_mul, Int32.toInt_neg, Int32.reduceToInt, Int.bmod_add_bmod, Int.add_bmod_bmod, Int.bmod_sub_bmod, Int.sub_bmod_bmod, Int.bmod_mul_bmod, Int.mul_bmod_bmod, Int.bmod_neg_bmod, Nat.reducePow, Int.reduceBmod, Int.reduceNeg, Int.reduceMul, Int.reduceAdd, Int.reduceSub, not_true_eq_false, not_false_eq_true] at *) <;> (try simp (disch := omega) only [i_bm'] at *) <;> omega)) ?_ ?_ ?_
      · intro i hi
        by_cases e : i = k
        · rw [e, u_hit, h3 _ (by omega)]
        · rw [u_j e]; exact h2 i (by omega)
      · intro i hi
        rw [u_j (by omega)]
        exact h3 i (by omega)
      · intro q j hq
        rw [u_r (by omega)]
        exact h4 q j hq
    all_goals (intros; clear ih hB h2 h3 h4 hx hx1 e5; first | (exfalso; ((try simp only [i_lt, i_le, i_eq, i_in, i_cn, Int32.toInt_add, Int32.toInt_sub, Int32.toInt_mul, Int32.toInt_neg, Int32.reduceToInt, Int.bmod_add_bmod, Int.add_bmod_bmod, Int.bmod_sub_bmod, Int.sub_bmod_bmod, Int.bmod_mul_bmod, Int.mul_bmod_bmod, Int.bmod_neg_bmod, Nat.reducePow, Int.reduceBmod, Int.reduceNeg, Int.reduceMul, Int.reduceAdd, Int.reduceSub, not_true_eq_false, not_false_eq_true] at *) <;> (try simp (disch := omega) only [i_bm'] at *) <;> omega)) | ((try simp only [i_lt, i_le, i_eq, i_in, i_cn, Int32.toInt_add, Int32.toInt_sub, Int32.toInt_mul, Int32.toInt_neg, Int32.reduceToInt, Int.bmod_add_bmod, Int.add_bmod_bmod, Int.bmod_sub_bmod, Int.sub_bmod_bmod, Int.bmod_mul_bmod, Int.mul_bmod_bmod, Int.bmod_neg_bmod, Nat.reducePow, Int.reduceBmod, Int.reduceNeg, Int.reduceMul, Int.reduceAdd, Int.reduceSub, not_true_eq_false, not_false_eq_true] at *) <;> (try simp (disch := omega) only [i_bm'] at *) <;> omega))
theorem Inv_call {s t : jg_H} (hI : Inv s) (n U : Nat) (hn : (s 146 11).toInt = (n : Int) + 1) (hup : s 146 13 = -1) (hU : (s 156 0).toInt.toNat = U)
    (c1 : ∀ i, i < n → t 57 i = s 57 (i + 1)) (c2 : ∀ i, i < n → t 156 i = s 156 (i + 1)) (c3 : t 0 6 = s 156 0) (c4 : t 146 13 = s 156 0) (c5 : (t 0 5).toInt = n) (c6 : (t 146 11).toInt = n)
    (c7 : ∀ q j, ¬ (q = 57 ∧ j < n) → ¬ (q = 156 ∧ j < n) → ¬ (q = 0 ∧ (j = 5 ∨ j = 6)) → ¬ (q = 146 ∧ (j = 11 ∨ j = 13)) → t q j = jg_up (jg_up s (33 + 3 * U) 0 2) 152 U 2 q j) : Inv t := by
  obtain ⟨hm, hb, hc, hp, ht, hx, hr, hz, hy, hk⟩ := hI
  have hsum := cal_sum hc
  obtain ⟨a1, a2, a3, a4, a5, a6, a7, a8, a9⟩ := hc
  obtain ⟨u1, u2, u3, u4⟩ := a4 0 (by omega)
  have hb8 := hb.2.2.1
  have hU8 : U < 8 := by omega
  have hUb : (U : Int) < (s 146 6).toInt := by omega
  have g7 : ∀ k q j, g_of q j = k → ¬ k = 3 → t q j = jg_up (jg_up s (33 + 3 * U) 0 2) 152 U 2 q j := by
    intro k q j hg h3
    refine c7 q j ?_ ?_ ?_ ?_
    · rintro ⟨rfl, _⟩; exact h3 hg.symm
    · rintro ⟨rfl, _⟩; exact h3 hg.symm
    · rintro ⟨rfl, rfl | rfl⟩ <;> exact h3 hg.symm
    · rintro ⟨rfl, rfl | rfl⟩ <;> exact h3 hg.symm
  have gs : ∀ k, ¬ k = 3 → ¬ k = 2 → f_same k s t := by
    intro k h3 h2 q j hg
    rw [g7 k q j hg h3]
    rw [u_r (by rintro rfl _; exact h2 hg.symm), u_r (by rintro rfl _; exact h2 (hg.symm.trans (g_2 (by omega) (by omega))))]
  have hbil : I_bil t := fr_bil (s := jg_up (jg_up s (33 + 3 * U) 0 2) 152 U 2) (fun q j hg => g7 2 q j hg (by decide)) (b_sta hb U hU8 hUb 2 (by decide) (by decide))
  have e6 : t 146 6 = s 146 6 := by rw [g7 2 146 6 rfl (by decide)]; (simp (disch := omega) only [u_hit, u_c, u_j])
  have e152 : t 152 = jg_up s 152 U 2 152 := by
    funext j
    rw [g7 2 152 j rfl (by decide)]
    by_cases e : j = U
    · rw [e, u_hit, u_hit]
    · rw [u_j e, u_j e, u_c (by omega)]
  have e153 : t 153 = s 153 := by
    funext j
    rw [g7 2 153 j rfl (by decide)]
    (simp (disch := omega) only [u_hit, u_c, u_j])
  refine ⟨fr_mem (gs 1 (by decide) (by decide)) hm, hbil, ?_, ?_, ?_, fr_txt (gs 6 (by decide) (by decide)) hx, fr_tap (gs 7 (by decide) (by decide)) hr, fr_mis (gs 8 (by decide) (by decide)) hz, fr_try (gs 10 (by decide) (by decide)) hy, fr_cst (gs 9 (by decide) (by decide)) hk⟩
  · have hs : c_sum t = c_sum (jg_up s 152 U 2) := by
      unfold c_sum c_l
      rw [e152]
    have h2 := c_sum_up (s := s) hU8 (v := 2)
    rw [if_neg (by decide)] at h2
    have hl : c_l s U = 1 := by unfold c_l; rw [← hU, u4]; rfl
    refine ⟨Int32.toInt_inj.mp (by rw [c5, c6]), by omega, ?_, ?_, ?_, by rw [c3, c4], by rw [c4]; omega, by rw [c4, e6]; exact u3, ?_⟩
    · rw [c6]
      have : (c_sum t : Int) = n := by omega
      unfold c_sum at this
      omega
    · intro i hi
      have hi : i < n := by omega
      obtain ⟨b1, b2, b3, b4⟩ := a4 (i + 1) (by omega)
      rw [c1 i hi, c2 i hi, e6, e152]
      refine ⟨b1, b2, b3, ?_⟩
      by_cases e : (s 156 (i + 1)).toInt.toNat = U
      · have : s 156 (i + 1) = s 156 0 := Int32.toInt_inj.mp (by omega)
        exact absurd (a5 (i + 1) 0 (by omega) (by omega) this) (by omega)
      · rw [u_j e]; exact b4
    · intro i k hi hk he
      have hi : i < n := by omega
      have hk : k < n := by omega
      rw [c2 i hi, c2 k hk] at he
      have := a5 (i + 1) (k + 1) (by omega) (by omega) he
      omega
    · intro _
      rw [c4, e152, hU, u_hit]
  · obtain ⟨p1, p2, p3, p4, p5⟩ := hp
    have h := gs 4 (by decide) (by decide)
    refine ⟨by rw [h 60 0 rfl, h 146 18 rfl]; exact p1, by rw [h 146 18 rfl]; exact p2, by rw [h 146 18 rfl]; exact p3, by rw [h 60 1 rfl]; exact p4, ?_⟩
    intro i hi
    rw [h 146 18 rfl] at hi
    have hi8 : i < 8 := by omega
    obtain ⟨b1, b2, b3, b4, b5, b6, b7, b8, b9, b10, b11⟩ := p5 i hi
    have k6 : s 157 i = 6 := by
      by_cases e : s 157 i = 6
      · exact e
      · have := b10 e
        rw [hup] at this
        exact absurd this (by decide)
    rw [h 61 i rfl, h 62 i rfl, h 63 i rfl, h 64 i rfl, h 157 i (g_4 (by omega) (by omega) hi8), h 158 i (g_4 (by omega) (by omega) hi8), h 159 i (g_4 (by omega) (by omega) hi8), h 160 i (g_4 (by omega) (by omega) hi8), h 161 i (g_4 (by omega) (by omega) hi8), gs 1 (by decide) (by decide) 146 0 rfl, gs 6 (by decide) (by decide) 146 14 rfl]
    refine ⟨b1, b2, b3, b4, b5, b6, b7, b8, b9, fun e => absurd k6 e, b11.1, ?_⟩
    intro e
    rw [k6] at e
    exact absurd e.2 (by decide)
  · obtain ⟨p1, p2, p3, p4, p5, p6⟩ := ht
    have h := gs 5 (by decide) (by decide)
    have h0 : (s 146 19).toInt = 0 := by
      by_cases e : 0 < (s 146 19).toInt
      · have := p5 e
        rw [hup] at this
        exact absurd this (by decide)
      · omega
    refine ⟨by rw [h 66 0 rfl, h 146 19 rfl]; exact p1, by rw [h 146 19 rfl]; exact p2, by rw [h 146 19 rfl]; exact p3, by rw [h 66 1 rfl]; exact p4, ?_, ?_⟩
    · rw [h 146 19 rfl]; intro e; omega
    · rw [h 146 19 rfl]; intro i hi; omega
theorem st_call {G : jv_X} {d : Nat} {s : jg_H} (hI : Inv s) : q_P G (d + 2) 68 [.ref 0] s (fun r s' => q_P G (d + 2) 174 [.ref 146] s' (fun r' s'' => r = r' ∧ Inv s'')) := by
  have c1 := hI.2.1.1
  have c2 := hI.2.1.2.1
  have c3 := hI.2.1.2.2.1
  have d1 := hI.2.2.1.1
  have d2 := hI.2.2.1.2.1
  have d6 := hI.2.2.1.2.2.2.2.2.1
  have d7 := hI.2.2.1.2.2.2.2.2.2.1
  have d8 := hI.2.2.1.2.2.2.2.2.2.2.1
  refine t_C_call (d := d) ?_ ?two ?_
  case two =>
    intro h1 h2 s1 e1 s2 e2
    have hup : s 146 13 = -1 := by rw [← d6]; exact h1
    have w : 0 < (s 146 11).toInt := by clear d6 d7 d8 e1 e2; ((try simp only [i_lt, i_le, i_eq, i_in, i_cn, Int32.toInt_add, Int32.toInt_sub, Int32.toInt_mul, Int32.toInt_neg, Int32.reduceToInt, Int.bmod_add_bmod, Int.add_bmod_bmod, Int.bmod_sub_bmod, Int.sub_bmod_bmod, Int.bmod_mul_bmod, Int.mul_bmod_bmod, Int.bmod_neg_bmod, Nat.reducePow, Int.reduceBmod, Int.reduceNeg, Int.reduceMul, Int.reduceAdd, Int.reduceSub, not_true_eq_false, not_false_eq_true] at *) <;> (try simp (disch := omega) only [i_bm'] at *) <;> omega)
    obtain ⟨u1, u2, u3, u4⟩ := hI.2.2.1.2.2.2.1 0 (by omega)
    have h8 : (s 146 11).toInt ≤ 8 := by rw [cal_sum hI.2.2.1]; have := c_sum_8 s; omega
    have x6 : s2 0 6 = s 156 0 := by subst e2; subst e1; (simp (disch := omega) only [u_hit, u_c, u_j]); exact u1
    have x5 : (s2 0 5).toInt = (s 146 11).toInt - 1 := by
      subst e2; subst e1; (simp (disch := omega) only [u_hit, u_c, u_j]); rw [d1]; clear d1 d6 d7 d8 u1 u4 x6; ((try simp only [i_lt, i_le, i_eq, i_in, i_cn, Int32.toInt_add, Int32.toInt_sub, Int32.toInt_mul, Int32.toInt_neg, Int32.reduceToInt, Int.bmod_add_bmod, Int.add_bmod_bmod, Int.bmod_sub_bmod, Int.sub_bmod_bmod, Int.bmod_mul_bmod, Int.mul_bmod_bmod, Int.bmod_neg_bmod, Nat.reducePow, Int.reduceBmod, Int.reduceNeg, Int.reduceMul, Int.reduceAdd, Int.reduceSub, not_true_eq_false, not_false_eq_true] at *) <;> (try simp (disch := omega) only [i_bm'] at *) <;> omega)
    have x3 : s2 0 3 = s 146 6 := by subst e2; subst e1; (simp (disch := omega) only [u_hit, u_c, u_j]); exact c1
    obtain ⟨n, hn⟩ : ∃ n : Nat, (s 146 11).toInt = (n : Int) + 1 := ⟨((s 146 11).toInt - 1).toNat, by omega⟩
    have x2 : ∀ q j, ¬ (q = 0 ∧ (j = 5 ∨ j = 6)) → s2 q j = s q j := by
      intro q j hq
      subst e2; subst e1
      rw [u_r (by omega), u_r (by omega)]
    clear e1 e2
    refine lp_C_call (s := s2) n (by omega) (by omega) (by rw [x6]; omega) (by rw [x6]; omega) (by rw [x6, x3]; omega) ?_ n 0 0 s2 (by omega) rfl (fun i hi => absurd hi (by omega)) (fun _ _ => rfl) (fun _ _ _ => rfl)
    intro t q1 q2
    rw [x6] at q2 ⊢
    have hUU : (s 156 0).toNatClampNeg = (s 156 0).toInt.toNat := i_cn _
    generalize hU : (s 156 0).toInt.toNat = U at *
    rw [hUU] at q2
    have y1 : ∀ q j, ¬ (q = 57 ∧ j < n) → ¬ (q = 0 ∧ (j = 5 ∨ j = 6)) → ¬ (q = 33 + 3 * U ∧ j = 0) → t q j = s q j := by
      intro q j h1 h2 h3
      rw [q2 q j h1, u_r (by omega)]
      exact x2 q j h2
    have z13 : t 146 13 = s 146 13 := y1 _ _ (by omega) (by omega) (by omega)
    have z11 : t 146 11 = s 146 11 := y1 _ _ (by omega) (by omega) (by omega)
    have z56 : t 156 = s 156 := funext fun j => y1 _ _ (by omega) (by omega) (by omega)
    refine t_M_call (d := d + 1) ?_ ?_ ?three ?_
    case three =>
      intro g1 g2 v1 f1 v2 f2 v3 f3
      have y13 : v1 146 13 = s 156 0 := by subst f1; rw [u_hit, z56]
      rw [y13, hUU] at f2
      have w2 : ∀ q j, ¬ (q = 146 ∧ (j = 11 ∨ j = 13)) → ¬ (q = 152 ∧ j = U) → v3 q j = t q j := by
        intro q j h1 h2
        subst f3; subst f2; subst f1
        rw [u_r (by omega), u_r (by omega), u_r (by omega)]
      have w11 : (v3 146 11).toInt = n := by
        subst f3; subst f2; subst f1
        rw [u_hit, u_c (by omega), u_j (by omega), z11]
        clear z13 z11 z56 y1 q1 q2 x2 x3 x5 x6 g1 g2 hup d1 d6 d7 d8 u1 u4 h1 h2 y13 w2 hUU hU
        ((try simp only [i_lt, i_le, i_eq, i_in, i_cn, Int32.toInt_add, Int32.toInt_sub, Int32.toInt_mul, Int32.toInt_neg, Int32.reduceToInt, Int.bmod_add_bmod, Int.add_bmod_bmod, Int.bmod_sub_bmod, Int.sub_bmod_bmod, Int.bmod_mul_bmod, Int.mul_bmod_bmod, Int.bmod_neg_bmod, Nat.reducePow, Int.reduceBmod, Int.reduceNeg, Int.reduceMul, Int.reduceAdd, Int.reduceSub, not_true_eq_false, not_false_eq_true] at *) <;> (try simp (disch := omega) only [i_bm'] at *) <;> omega)
      have w13 : v3 146 13 = s 156 0 := by
        subst f3; subst f2
        rw [u_j (by omega), u_c (by omega)]
        exact y13
      have w152 : v3 152 U = 2 := by
        subst f3; subst f2
        rw [u_c (by omega), u_hit]
      refine lp_M_call (s := v3) n (by omega) w11 ?_ n 0 0 v3 (by omega) rfl (fun i hi => absurd hi (by omega)) (fun _ _ => rfl) (fun _ _ _ => rfl)
      intro t' p1 p2
      refine ⟨by rw [w13], ?_⟩
      have hU8 : U < 8 := by omega
      refine Inv_call hI n U hn hup hU ?_ ?_ ?_ ?_ ?_ ?_ ?_
      · intro i hi
        rw [p2 57 i (by omega), w2 57 i (by omega) (by omega), q1 i hi, x2 57 _ (by omega)]
      · intro i hi
        rw [p1 i hi, w2 156 _ (by omega) (by omega), z56]
      · rw [p2 0 6 (by omega), w2 0 6 (by omega) (by omega), q2 0 6 (by omega), u_c (by omega), x6]
      · rw [p2 146 13 (by omega), w13]
      · rw [p2 0 5 (by omega), w2 0 5 (by omega) (by omega), q2 0 5 (by omega), u_c (by omega), x5]; omega
      · rw [p2 146 11 (by omega), w11]
      · intro q j h1 h2 h3 h4
        rw [p2 q j h2]
        by_cases e : q = 152 ∧ j = U
        · rw [e.1, e.2, u_hit, w152]
        · rw [w2 q j h4 e, u_r (by omega), q2 q j h1]
          by_cases e' : q = 33 + 3 * U ∧ j = 0
          · rw [e'.1, e'.2, u_hit, u_hit]
          · rw [u_r (by omega), u_r (by omega)]
            exact x2 q j h3
    · intro g1; rw [z13, hup] at g1; exact absurd rfl g1
    · intro g1 g2 v1 f1
      subst f1
      rw [u_hit, z56, i_in]
      omega
    · intro g1 g2; rw [z11] at g2; rw [g2] at w; exact absurd w (by decide)
  all_goals (intros; refine t_M_call (d := d + 1) ?_ ?_ ?_ ?_ <;> intros <;> first | (exact ⟨rfl, hI⟩) | (exfalso; ((try simp only [i_lt, i_le, i_eq, i_in, i_cn, Int32.toInt_add, Int32.toInt_sub, Int32.toInt_mul, Int32.toInt_neg, Int32.reduceToInt, Int.bmod_add_bmod, Int.add_bmod_bmod, Int.bmod_sub_bmod, Int.sub_bmod_bmod, Int.bmod_mul_bmod, Int.mul_bmod_bmod, Int.bmod_neg_bmod, Nat.reducePow, Int.reduceBmod, Int.reduceNeg, Int.reduceMul, Int.reduceAdd, Int.reduceSub, not_true_eq_false, not_false_eq_true] at *) <;> (try simp (disch := omega) only [i_bm'] at *) <;> omega)) | ((try simp only [i_lt, i_le, i_eq, i_in, i_cn, Int32.toInt_add, Int32.toInt_sub, Int32.toInt_mul, Int32.toInt_neg, Int32.reduceToInt, Int.bmod_add_bmod, Int.add_bmod_bmod, Int.bmod_sub_bmod, Int.sub_bmod_bmod, Int.bmod_mul_bmod, Int.mul_bmod_bmod, Int.bmod_neg_bmod, Nat.reducePow, Int.reduceBmod, Int.reduceNeg, Int.reduceMul, Int.reduceAdd, Int.reduceSub, not_true_eq_false, not_false_eq_true] at *) <;> (try simp (disch := omega) only [i_bm'] at *) <;> omega) | (exfalso; (try simp only [i_lt, i_le, i_eq, i_in, i_cn, Int32.toInt_add, Int32.toInt_sub, Int32.toInt_mul, Int32.toInt_neg, Int32.reduceToInt, Int.bmod_add_bmod, Int.add_bmod_bmod, Int.bmod_sub_bmod, Int.sub_bmod_bmod, Int.bmod_mul_bmod, Int.mul_bmod_bmod, Int.bmod_neg_bmod, Nat.reducePow, Int.reduceBmod, Int.reduceNeg, Int.reduceMul, Int.reduceAdd, Int.reduceSub, not_true_eq_false, not_false_eq_true] at *); (try simp (disch := omega) only [u_hit, u_c, u_j] at *); ((try simp only [i_lt, i_le, i_eq, i_in, i_cn, Int32.toInt_add, Int32.toInt_sub, Int32.toInt_mul, Int32.toInt_neg, Int32.reduceToInt, Int.bmod_add_bmod, Int.add_bmod_bmod, Int.bmod_sub_bmod, Int.sub_bmod_bmod, Int.bmod_mul_bmod, Int.mul_bmod_bmod, Int.bmod_neg_bmod, Nat.reducePow, Int.reduceBmod, Int.reduceNeg, Int.reduceMul, Int.reduceAdd, Int.reduceSub, not_true_eq_false, not_false_eq_true] at *) <;> (try simp (disch := omega) only [i_bm'] at *) <;> omega)) | ((try simp only [i_lt, i_le, i_eq, i_in, i_cn, Int32.toInt_add, Int32.toInt_sub, Int32.toInt_mul, Int32.toInt_neg, Int32.reduceToInt, Int.bmod_add_bmod, Int.add_bmod_bmod, Int.bmod_sub_bmod, Int.sub_bmod_bmod, Int.bmod_mul_bmod, Int.mul_bmod_bmod, Int.bmod_neg_bmod, Nat.reducePow, Int.reduceBmod, Int.reduceNeg, Int.reduceMul, Int.reduceAdd, Int.reduceSub, not_true_eq_false, not_false_eq_true] at *); (try simp (disch := omega) only [u_hit, u_c, u_j] at *); ((try simp only [i_lt, i_le, i_eq, i_in, i_cn, Int32.toInt_add, Int32.toInt_sub, Int32.toInt_mul, Int32.toInt_neg, Int32.reduceToInt, Int.bmod_add_bmod, Int.add_bmod_bmod, Int.bmod_sub_bmod, Int.sub_bmod_bmod, Int.bmod_mul_bmod, Int.mul_bmod_bmod, Int.bmod_neg_bmod, Nat.reducePow, Int.reduceBmod, Int.reduceNeg, Int.reduceMul, Int.reduceAdd, Int.reduceSub, not_true_eq_false, not_false_eq_true] at *) <;> (try simp (disch := omega) only [i_bm'] at *) <;> omega)) | (refine ⟨r_i ?_, hI⟩; ((try simp only [i_lt, i_le, i_eq, i_in, i_cn, Int32.toInt_add, Int32.toInt_sub, Int32.toInt_mul, Int32.toInt_neg, Int32.reduceToInt, Int.bmod_add_bmod, Int.add_bmod_bmod, Int.bmod_sub_bmod, Int.sub_bmod_bmod, Int.bmod_mul_bmod, Int.mul_bmod_bmod, Int.bmod_neg_bmod, Nat.reducePow, Int.reduceBmod, Int.reduceNeg, Int.reduceMul, Int.reduceAdd, Int.reduceSub, not_true_eq_false, not_false_eq_true] at *) <;> (try simp (disch := omega) only [i_bm'] at *) <;> omega)) | skip)
