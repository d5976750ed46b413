/-! the reference's side of a member's vote, and the counts -/
theorem lk_M (s : jg_H) (a w : Int32) (ha : 0 ≤ a.toInt) (ha' : a.toInt < 15) (h0 : 0 ≤ w.toInt) (h1 : w.toInt < 61) : s 148 (61 * a + w).toNatClampNeg = x_lk s a.toNatClampNeg w := by
  have e : (61 * a + w).toNatClampNeg = 61 * a.toNatClampNeg + w.toNatClampNeg := by (try simp only [i_lt, i_le, i_eq, i_in, i_cn, Int32.toInt_add, Int32.toInt_sub, Int32.toInt_mul, Int32.toInt_neg, Int32.reduceToInt, Int.bmod_add_bmod, Int.add_bmod_bmod, Int.bmod_sub_bmod, Int.sub_bmod_bmod, Int.bmod_mul_bmod, Int.mul_bmod_bmod, Int.bmod_neg_bmod, Nat.reducePow, Int.reduceBmod, Int.reduceNeg, Int.reduceMul, Int.reduceAdd, Int.reduceSub, not_true_eq_false, not_false_eq_true] at *) <;> (try simp (disch := omega) only [i_bm'] at *); omega
  rw [e]; rfl
set_option maxRecDepth 20000 in
theorem sp_M_gain {G : jv_X} {d : Nat} {B : Option Value → jg_H → Prop} {s : jg_H} (a : Int32) (ha : 0 ≤ a.toInt) (ha' : a.toInt < 15) (i : Int32) (hi : 0 ≤ i.toInt) (hi' : i.toInt < 13) (n : Nat) (hn : (s 146 53).toInt = n) (h10 : n ≤ 10) (R : Nat → Int32) (hR : ∀ j, j < n → s 171 j = R j) (hRb : ∀ j, j < n → 1 ≤ (R j).toInt ∧ (R j).toInt ≤ 60) (k pl wd : Int32) (ek : s 157 i.toNatClampNeg = k) (ew : s 160 i.toNatClampNeg = wd) (hk : 1 ≤ k.toInt ∧ k.toInt ≤ 3) (hw : k.toInt = 2 ∨ k.toInt = 3 → 1 ≤ wd.toInt ∧ wd.toInt ≤ 60) (hpl : f_pl k pl (s 159 i.toNatClampNeg) (s 161 i.toNatClampNeg) (s 146 53)) (hB : B (some (.int (x_gn s a.toNatClampNeg n R k pl wd))) s) : q_P G (d + 2) 193 [.ref 146, .int i, .int a] s B := by
  unfold x_gn at hB
  have ji : jv_in i 13 = true := by rw [i_in]; exact ⟨hi, by omega⟩
  have N0 : ¬ (0 ≤ pl.toInt ∧ (k.toInt = 2 → pl.toInt ≤ n ∧ n < 10) ∧ (¬ k.toInt = 2 → pl.toInt < n)) → q_W G (d + 1) jm_M_gain B 5 [some (.ref 146), some (.int i), some (.int a), none, none] [.int 0] s := by
    intro hC
    rw [if_neg hC] at hB
    refine t2_M_gain_5 (d := d + 1) i a 0 ?_ ?_ ?_ ?_ ?_ ?_ ?_ ?_
    all_goals first | (intro _; exact hB) | (intro g; exact absurd rfl g)
  have jw : ¬ k = 1 → jv_in ((61 * a) + wd) 915 = true := by
    intro k1
    have k1' : ¬ k.toInt = 1 := fun e => k1 (Int32.toInt_inj.mp e)
    obtain ⟨w1, w2⟩ := hw (by omega)
    clear hB N0 hR hRb hpl ek ew hn
    ((try simp only [i_lt, i_le, i_eq, i_in, i_cn, Int32.toInt_add, Int32.toInt_sub, Int32.toInt_mul, Int32.toInt_neg, Int32.reduceToInt, Int.bmod_add_bmod, Int.add_bmod_bmod, Int.bmod_sub_bmod, Int.sub_bmod_bmod, Int.bmod_mul_bmod, Int.mul_bmod_bmod, Int.bmod_neg_bmod, Nat.reducePow, Int.reduceBmod, Int.reduceNeg, Int.reduceMul, Int.reduceAdd, Int.reduceSub, not_true_eq_false, not_false_eq_true] at *) <;> (try simp (disch := omega) only [i_bm'] at *) <;> omega)
  have lw : ¬ k = 1 → s 148 ((61 * a) + wd).toNatClampNeg = x_lk s a.toNatClampNeg wd := by
    intro k1
    have k1' : ¬ k.toInt = 1 := fun e => k1 (Int32.toInt_inj.mp e)
    obtain ⟨w1, w2⟩ := hw (by omega)
    exact lk_M s a wd ha ha' (by omega) (by omega)
  have N1 : (0 ≤ pl.toInt ∧ (k.toInt = 2 → pl.toInt ≤ n ∧ n < 10) ∧ (¬ k.toInt = 2 → pl.toInt < n)) → q_W G (d + 1) jm_M_gain B 5 [some (.ref 146), some (.int i), some (.int a), none, none] [.int 1] s := by
    intro hC
    rw [if_pos hC] at hB
    obtain ⟨q0, q1, q2⟩ := hC
    refine t2_M_gain_5 (d := d + 1) i a 1 ?_ ?main ?_ ?_ ?_ ?_ ?_ ?_
    case main =>
      intro _ k2
      rw [ek] at k2
      rw [if_neg k2] at hB
      have k2' : ¬ k.toInt = 2 := fun e => k2 (Int32.toInt_inj.mp e)
      have q3 := q2 k2'
      have hb : s 161 i.toNatClampNeg = 0 ∧ pl = s 159 i.toNatClampNeg := by
        rcases hpl.2 hk with ⟨_, e, _⟩ | ⟨e, e', _⟩
        · exact absurd e k2
        · exact ⟨e, e'⟩
      refine t_M_sectionOf (d := d) i ji (fun _ => ji) ?_ ?_
      · intro _
        rw [← hb.2]
        have hp : pl.toNatClampNeg < n := by rw [i_cn]; omega
        obtain ⟨r1, r2⟩ := hRb _ hp
        have lr := lk_M s a (R pl.toNatClampNeg) ha ha' (by omega) (by omega)
        have jr : jv_in ((61 * a) + R pl.toNatClampNeg) 915 = true := by
          generalize R pl.toNatClampNeg = r at *
          clear hB N0 hR hRb hpl ek ew hn lr jw lw hb
          ((try simp only [i_lt, i_le, i_eq, i_in, i_cn, Int32.toInt_add, Int32.toInt_sub, Int32.toInt_mul, Int32.toInt_neg, Int32.reduceToInt, Int.bmod_add_bmod, Int.add_bmod_bmod, Int.bmod_sub_bmod, Int.sub_bmod_bmod, Int.bmod_mul_bmod, Int.mul_bmod_bmod, Int.bmod_neg_bmod, Nat.reducePow, Int.reduceBmod, Int.reduceNeg, Int.reduceMul, Int.reduceAdd, Int.reduceSub, not_true_eq_false, not_false_eq_true] at *) <;> (try simp (disch := omega) only [i_bm'] at *) <;> omega)
        refine t2_M_gain_41 (d := d + 1) i a (61 * a) pl ?_ ?_ ji (fun _ => ji) ?_ ?_ ?_
        · rw [i_in]; exact ⟨q0, by omega⟩
        · rw [hR _ hp]; exact jr
        · intro k1; rw [ek] at k1; rw [ew]; exact jw k1
        · intro k1
          rw [ek] at k1
          rw [if_neg k1] at hB
          rw [ew, hR _ hp, lw k1, lr]
          exact hB
        · intro k1
          rw [ek] at k1
          rw [if_pos k1] at hB
          rw [hR _ hp, lr]
          exact hB
      · intro g; exact absurd hb.1 g
    · intros; exact ji
    · intros; exact ji
    · intros; exact ji
    · intro _ _ k1; rw [ek] at k1; rw [ew]; exact jw k1
    · intro _ k2 k1
      rw [ek] at k1 k2
      rw [if_pos k2, if_neg k1] at hB
      rw [ew, lw k1]
      exact hB
    · intro _ k2 k1
      rw [ek] at k1 k2
      rw [k1] at k2
      exact absurd k2 (by decide)
    · intro g; exact absurd g (by decide)
  refine t2_M_gain (d := d + 1) i a ?_
  clear hB lw jw
  refine t_M_isDoable (d := d) i ji ?_ (fun _ => ji) ?_ ?_ ?_
  · intro g
    refine N0 (fun hC => ?_)
    rcases hpl.2 hk with ⟨_, _, _, e⟩ | ⟨_, e, _⟩
    · rw [g] at e; exact absurd e (by decide)
    · have := hC.1; rw [e, g] at this; exact absurd this (by decide)
  · intro g g'
    rw [ek] at g'
    have k2' : ¬ k.toInt = 2 := fun e => g' (Int32.toInt_inj.mp e)
    refine N1 ?_
    rcases hpl.2 hk with ⟨_, e, _⟩ | ⟨_, e, e1, e2⟩
    · exact absurd e g'
    · have : ¬ (s 159 i.toNatClampNeg).toInt = -1 := fun e => g (Int32.toInt_inj.mp e)
      rw [e]
      exact ⟨by omega, fun e => absurd e k2', fun _ => by omega⟩
  · intro g g' g''
    rw [ek] at g'
    have k2' : k.toInt = 2 := by rw [g']; decide
    refine N0 (fun hC => ?_)
    have := (hC.2.1 k2').2
    clear N0 N1 hR hRb hpl ek ew hC
    ((try simp only [i_lt, i_le, i_eq, i_in, i_cn, Int32.toInt_add, Int32.toInt_sub, Int32.toInt_mul, Int32.toInt_neg, Int32.reduceToInt, Int.bmod_add_bmod, Int.add_bmod_bmod, Int.bmod_sub_bmod, Int.sub_bmod_bmod, Int.bmod_mul_bmod, Int.mul_bmod_bmod, Int.bmod_neg_bmod, Nat.reducePow, Int.reduceBmod, Int.reduceNeg, Int.reduceMul, Int.reduceAdd, Int.reduceSub, not_true_eq_false, not_false_eq_true] at *) <;> (try simp (disch := omega) only [i_bm'] at *) <;> omega)
  · intro g g' g''
    rw [ek] at g'
    have k2' : k.toInt = 2 := by rw [g']; decide
    have n10 : n < 10 := by clear N0 N1 hR hRb hpl ek ew; ((try simp only [i_lt, i_le, i_eq, i_in, i_cn, Int32.toInt_add, Int32.toInt_sub, Int32.toInt_mul, Int32.toInt_neg, Int32.reduceToInt, Int.bmod_add_bmod, Int.add_bmod_bmod, Int.bmod_sub_bmod, Int.sub_bmod_bmod, Int.bmod_mul_bmod, Int.mul_bmod_bmod, Int.bmod_neg_bmod, Nat.reducePow, Int.reduceBmod, Int.reduceNeg, Int.reduceMul, Int.reduceAdd, Int.reduceSub, not_true_eq_false, not_false_eq_true] at *) <;> (try simp (disch := omega) only [i_bm'] at *) <;> omega)
    refine N1 ?_
    rcases hpl.2 hk with ⟨_, _, e, _⟩ | ⟨_, e, e1, e2⟩
    · rw [e]
      exact ⟨by omega, fun _ => ⟨by omega, n10⟩, fun h => absurd k2' h⟩
    · have : ¬ (s 159 i.toNatClampNeg).toInt = -1 := fun e => g (Int32.toInt_inj.mp e)
      rw [e]
      exact ⟨by omega, fun _ => ⟨by omega, n10⟩, fun h => absurd k2' h⟩
theorem sum_M (s : jg_H) (a : Int32) (ha : 0 ≤ a.toInt) (ha' : a.toInt < 15) (n : Nat) (R : Nat → Int32) (hR : ∀ j, j < n → s 171 j = R j) (hRb : ∀ j, j < n → 1 ≤ (R j).toInt ∧ (R j).toInt ≤ 60) : f_sum (fun i => s 148 (61 * a + s 171 i).toNatClampNeg) n = x_sum s a.toNatClampNeg n R := by
  refine f_sum_eq n fun i hi => ?_
  show s 148 (61 * a + s 171 i).toNatClampNeg = x_lk s a.toNatClampNeg (R i)
  have := hRb i hi
  rw [hR i hi]
  exact lk_M s a _ ha ha' (by omega) (by omega)
/-- the row that is looked at and where the motion stands on it -/
def m_row (s : jg_H) (i : Nat) (n : Nat) (R : Nat → Int32) (k pl : Int32) : Prop := (s 146 53).toInt = n ∧ n ≤ 10 ∧ (∀ j, j < n → s 171 j = R j) ∧ (∀ j, j < n → 1 ≤ (R j).toInt ∧ (R j).toInt ≤ 60) ∧ f_pl k pl (s 159 i) (s 161 i) (s 146 53)
set_option maxRecDepth 20000 in
theorem sp_M_votes {G : jv_X} {d : Nat} {B : Option Value → jg_H → Prop} {s : jg_H} (a : Int32) (ha : 0 ≤ a.toInt) (ha' : a.toInt < 15) (i : Int32) (hi : 0 ≤ i.toInt) (hi' : i.toInt < 13) (n : Nat) (R : Nat → Int32) (k pl wd mv : Int32) (ek : s 157 i.toNatClampNeg = k) (ew : s 160 i.toNatClampNeg = wd) (em : s 158 i.toNatClampNeg = mv) (hk0 : 0 ≤ k.toInt) (hk6 : k.toInt ≤ 6) (hw : k.toInt = 2 ∨ k.toInt = 3 → 1 ≤ wd.toInt ∧ wd.toInt ≤ 60) (hmv : k.toInt = 6 → 0 ≤ mv.toInt ∧ mv.toInt < 15) (hr : ¬ k.toInt = 6 → m_row s i.toNatClampNeg n R k pl) (hB : B (some (.int (x_vt s a.toNatClampNeg n R k pl wd mv))) s) : q_P G (d + 4) 191 [.ref 146, .int i, .int a] s B := by
  have ji : jv_in i 13 = true := by rw [i_in]; exact ⟨hi, by omega⟩
  have ja : jv_in a 15 = true := by rw [i_in]; exact ⟨ha, by omega⟩
  have E3 : s 151 a.toNatClampNeg = 0 ∨ ¬ s 149 a.toNatClampNeg = -1 ∨ ¬ s 150 a.toNatClampNeg = 0 ∨ B (some (.int (x_sg (x_ln s a.toNatClampNeg n R k pl wd mv)))) s := by
    by_cases e : s 151 a.toNatClampNeg = 0
    · exact Or.inl e
    · by_cases e' : s 149 a.toNatClampNeg = -1
      · by_cases e'' : s 150 a.toNatClampNeg = 0
        · unfold x_vt at hB; rw [if_neg e, if_neg (fun h => h e'), if_neg (fun h => h e'')] at hB; exact Or.inr (Or.inr (Or.inr hB))
        · exact Or.inr (Or.inr (Or.inl e''))
      · exact Or.inr (Or.inl e')
  have L : (x_sg (x_ln s a.toNatClampNeg n R k pl wd mv) = x_sg (x_ln s a.toNatClampNeg n R k pl wd mv)) → B (some (.int (x_sg (x_ln s a.toNatClampNeg n R k pl wd mv)))) s → q_P G (d + 3) 192 [.ref 146, .int i, .int a] s (fun v t => q_W G (d + 3) jm_M_votes B 43 [some (.ref 146), some (.int i), some (.int a), none] (v.toList ++ []) t) := by
    intro _ hb
    have K : q_P G (d + 3) 192 [.ref 146, .int i, .int a] s (fun v t => v = some (.int (x_ln s a.toNatClampNeg n R k pl wd mv)) ∧ t = s) := by
      unfold x_ln
      refine t2_M_leans (d := d + 2) i a ji ?_ ?_ ?_ (fun _ _ _ _ => ja) (fun _ _ _ _ => ji) ?_ ?_ ?_ ?_
      · intro g; rw [ek] at g
        obtain ⟨r1, r2, r3, r4, r5⟩ := hr (by rw [g]; decide)
        refine sp_M_valued (d := d + 1) a ha ha' n r1 r2 (fun j hj => by rw [r3 j hj]; have := r4 j hj; omega) ?_
        rw [sum_M s a ha ha' n R r3 r4]
        refine t2_M_leans_53 (d := d + 2) i a _ ⟨?_, rfl⟩
        rw [if_pos g]
      · intro g g'; rw [ek] at g g'
        obtain ⟨r1, r2, r3, r4, r5⟩ := hr (by rw [g']; decide)
        refine sp_M_valued (d := d + 1) a ha ha' n r1 r2 (fun j hj => by rw [r3 j hj]; have := r4 j hj; omega) ?_
        rw [sum_M s a ha ha' n R r3 r4]
        refine t2_M_leans_59 (d := d + 2) i a _ ⟨?_, rfl⟩
        rw [if_neg g, if_pos g']
      · intro g g' g''; rw [ek] at g g' g''
        obtain ⟨r1, r2, r3, r4, r5⟩ := hr (by rw [g'']; decide)
        refine sp_M_valued (d := d + 1) a ha ha' n r1 r2 (fun j hj => by rw [r3 j hj]; have := r4 j hj; omega) ?_
        rw [sum_M s a ha ha' n R r3 r4, if_neg g, if_neg g', if_pos g'']
        refine t2_M_leans_66 (d := d + 2) i a _ ?_ ?_
        · intro h; exact ⟨by rw [if_neg h], rfl⟩
        · intro h; exact ⟨by rw [if_pos h], rfl⟩
      · intro _ _ _ g; rw [ek] at g; rw [em]
        obtain ⟨v1, v2⟩ := hmv (by rw [g]; decide)
        rw [i_in]; exact ⟨v1, by omega⟩
      · intro g1 g2 g3 g4 g5; rw [ek] at g1 g2 g3 g4; rw [em] at g5
        exact ⟨by rw [if_neg g1, if_neg g2, if_neg g3, if_pos g4, if_neg g5], rfl⟩
      · intro g1 g2 g3 g4 g5; rw [ek] at g1 g2 g3 g4; rw [em] at g5
        exact ⟨by rw [if_neg g1, if_neg g2, if_neg g3, if_pos g4, if_pos g5], rfl⟩
      · intro g1 g2 g3 g4; rw [ek] at g1 g2 g3 g4
        have hk13 : 1 ≤ k.toInt ∧ k.toInt ≤ 3 := by
          clear hB hb hr E3 ek ew em hw hmv
          (try simp only [i_lt, i_le, i_eq, i_in, i_cn, Int32.toInt_add, Int32.toInt_sub, Int32.toInt_mul, Int32.toInt_neg, Int32.reduceToInt, Int.bmod_add_bmod, Int.add_bmod_bmod, Int.bmod_sub_bmod, Int.sub_bmod_bmod, Int.bmod_mul_bmod, Int.mul_bmod_bmod, Int.bmod_neg_bmod, Nat.reducePow, Int.reduceBmod, Int.reduceNeg, Int.reduceMul, Int.reduceAdd, Int.reduceSub, not_true_eq_false, not_false_eq_true] at *) <;> (try simp (disch := omega) only [i_bm'] at *); omega
        obtain ⟨r1, r2, r3, r4, r5⟩ := hr (by omega)
        refine sp_M_gain (d := d) a ha ha' i hi hi' n r1 r2 R r3 r4 k pl wd ek ew hk13 hw r5 ?_
        refine t2_M_leans_107 (d := d + 2) i a _ ⟨?_, rfl⟩
        rw [if_neg g1, if_neg g2, if_neg g3, if_neg g4]
    refine q_mono ?_ K
    rintro v t ⟨e1, e2⟩
    subst e1
    subst e2
    unfold x_sg at hb
    generalize x_ln t a.toNatClampNeg n R k pl wd mv = V at *
    refine t_M_votes_43 (d := d + 3) i a V ?_ ?_ ?_
    · intro g g'; rw [if_neg (by clear hb hB E3 hr K ek ew em; ((try simp only [i_lt, i_le, i_eq, i_in, i_cn, Int32.toInt_add, Int32.toInt_sub, Int32.toInt_mul, Int32.toInt_neg, Int32.reduceToInt, Int.bmod_add_bmod, Int.add_bmod_bmod, Int.bmod_sub_bmod, Int.sub_bmod_bmod, Int.bmod_mul_bmod, Int.mul_bmod_bmod, Int.bmod_neg_bmod, Nat.reducePow, Int.reduceBmod, Int.reduceNeg, Int.reduceMul, Int.reduceAdd, Int.reduceSub, not_true_eq_false, not_false_eq_true] at *) <;> (try simp (disch := omega) only [i_bm'] at *) <;> omega)), if_neg (by clear hb hB E3 hr K ek ew em; ((try simp only [i_lt, i_le, i_eq, i_in, i_cn, Int32.toInt_add, Int32.toInt_sub, Int32.toInt_mul, Int32.toInt_neg, Int32.reduceToInt, Int.bmod_add_bmod, Int.add_bmod_bmod, Int.bmod_sub_bmod, Int.sub_bmod_bmod, Int.bmod_mul_bmod, Int.mul_bmod_bmod, Int.bmod_neg_bmod, Nat.reducePow, Int.reduceBmod, Int.reduceNeg, Int.reduceMul, Int.reduceAdd, Int.reduceSub, not_true_eq_false, not_false_eq_true] at *) <;> (try simp (disch := omega) only [i_bm'] at *) <;> omega))] at hb; exact hb
    · intro g g'; rw [if_neg (by clear hb hB E3 hr K ek ew em; ((try simp only [i_lt, i_le, i_eq, i_in, i_cn, Int32.toInt_add, Int32.toInt_sub, Int32.toInt_mul, Int32.toInt_neg, Int32.reduceToInt, Int.bmod_add_bmod, Int.add_bmod_bmod, Int.bmod_sub_bmod, Int.sub_bmod_bmod, Int.bmod_mul_bmod, Int.mul_bmod_bmod, Int.bmod_neg_bmod, Nat.reducePow, Int.reduceBmod, Int.reduceNeg, Int.reduceMul, Int.reduceAdd, Int.reduceSub, not_true_eq_false, not_false_eq_true] at *) <;> (try simp (disch := omega) only [i_bm'] at *) <;> omega)), if_pos (by clear hb hB E3 hr K ek ew em; ((try simp only [i_lt, i_le, i_eq, i_in, i_cn, Int32.toInt_add, Int32.toInt_sub, Int32.toInt_mul, Int32.toInt_neg, Int32.reduceToInt, Int.bmod_add_bmod, Int.add_bmod_bmod, Int.bmod_sub_bmod, Int.sub_bmod_bmod, Int.bmod_mul_bmod, Int.mul_bmod_bmod, Int.bmod_neg_bmod, Nat.reducePow, Int.reduceBmod, Int.reduceNeg, Int.reduceMul, Int.reduceAdd, Int.reduceSub, not_true_eq_false, not_false_eq_true] at *) <;> (try simp (disch := omega) only [i_bm'] at *) <;> omega))] at hb; exact hb
    · intro g; rw [if_pos (by clear hb hB E3 hr K ek ew em; ((try simp only [i_lt, i_le, i_eq, i_in, i_cn, Int32.toInt_add, Int32.toInt_sub, Int32.toInt_mul, Int32.toInt_neg, Int32.reduceToInt, Int.bmod_add_bmod, Int.add_bmod_bmod, Int.bmod_sub_bmod, Int.sub_bmod_bmod, Int.bmod_mul_bmod, Int.mul_bmod_bmod, Int.bmod_neg_bmod, Nat.reducePow, Int.reduceBmod, Int.reduceNeg, Int.reduceMul, Int.reduceAdd, Int.reduceSub, not_true_eq_false, not_false_eq_true] at *) <;> (try simp (disch := omega) only [i_bm'] at *) <;> omega))] at hb; exact hb
  unfold x_vt at hB
  refine t_M_votes (d := d + 3) i a ja ?_ (fun _ => ja) (fun _ _ => ja) ?_ (fun _ _ _ => ja) ?_ ?_
  · intro g; rw [if_pos g] at hB; exact hB
  · intro g1 g2 g3
    rcases E3 with e | e | e | e
    · exact absurd e g1
    · exact absurd g2 e
    · exact absurd g3 e
    · exact L rfl e
  · intro g1 g2 g3; rw [if_neg g1, if_neg (fun h => h g2), if_pos g3] at hB; exact hB
  · intro g1 g2; rw [if_neg g1, if_pos g2] at hB; exact hB
/-- how many of the first k have v -/
def f_ct (F : Nat → Int32) (v : Int32) : Nat → Int32
  | 0 => 0
  | k + 1 => f_ct F v k + (if F k = v then 1 else 0)
theorem f_ct_eq {F F' : Nat → Int32} {v : Int32} : ∀ k, (∀ i, i < k → F i = F' i) → f_ct F v k = f_ct F' v k
  | 0, _ => rfl
  | k + 1, h => by
    unfold f_ct
    rw [f_ct_eq k (fun i hi => h i (by omega)), h k (by omega)]
set_option maxRecDepth 20000 in
theorem sp_M_counted {G : jv_X} {d : Nat} {B : Option Value → jg_H → Prop} {s : jg_H} (N : Nat) (hN : (s 146 0).toInt = N) (h15 : N ≤ 15) (i v : Int32) (hi : 0 ≤ i.toInt) (hi' : i.toInt < 13) (n : Nat) (R : Nat → Int32) (k pl wd mv : Int32) (ek : s 157 i.toNatClampNeg = k) (ew : s 160 i.toNatClampNeg = wd) (em : s 158 i.toNatClampNeg = mv) (hk0 : 0 ≤ k.toInt) (hk6 : k.toInt ≤ 6) (hw : k.toInt = 2 ∨ k.toInt = 3 → 1 ≤ wd.toInt ∧ wd.toInt ≤ 60) (hmv : k.toInt = 6 → 0 ≤ mv.toInt ∧ mv.toInt < 15) (hr : ¬ k.toInt = 6 → m_row s i.toNatClampNeg n R k pl) (hB : B (some (.int (f_ct (fun a => x_vt s a n R k pl wd mv) v N))) s) : q_P G (d + 5) 190 [.ref 146, .int i, .int v] s B := by
  have lp : ∀ (m q : Nat) (x3 x4 : Int32), q + m = N → x4.toInt = q → x3 = f_ct (fun a => x_vt s a n R k pl wd mv) v q → q_W G (d + 4) jm_M_counted B 5 [some (.ref 146), some (.int i), some (.int v), some (.int x3), some (.int x4)] [] s := by
    intro m
    induction m with
    | zero =>
      intro q x3 x4 h1 h2 h3
      refine t_M_counted_5 (d := d + 4) i v x3 x4 ?_ ?_
      · intro _
        have e : q = N := by omega
        rw [h3, e]; exact hB
      · intro g; exfalso; clear hB hr ek ew em hw hmv; ((try simp only [i_lt, i_le, i_eq, i_in, i_cn, Int32.toInt_add, Int32.toInt_sub, Int32.toInt_mul, Int32.toInt_neg, Int32.reduceToInt, Int.bmod_add_bmod, Int.add_bmod_bmod, Int.bmod_sub_bmod, Int.sub_bmod_bmod, Int.bmod_mul_bmod, Int.mul_bmod_bmod, Int.bmod_neg_bmod, Nat.reducePow, Int.reduceBmod, Int.reduceNeg, Int.reduceMul, Int.reduceAdd, Int.reduceSub, not_true_eq_false, not_false_eq_true] at *) <;> (try simp (disch := omega) only [i_bm'] at *) <;> omega)
    | succ m ih =>
      intro q x3 x4 h1 h2 h3
      refine t_M_counted_5 (d := d + 4) i v x3 x4 ?_ ?_
      · intro g; exfalso; clear hB hr ek ew em hw hmv ih; ((try simp only [i_lt, i_le, i_eq, i_in, i_cn, Int32.toInt_add, Int32.toInt_sub, Int32.toInt_mul, Int32.toInt_neg, Int32.reduceToInt, Int.bmod_add_bmod, Int.add_bmod_bmod, Int.bmod_sub_bmod, Int.sub_bmod_bmod, Int.bmod_mul_bmod, Int.mul_bmod_bmod, Int.bmod_neg_bmod, Nat.reducePow, Int.reduceBmod, Int.reduceNeg, Int.reduceMul, Int.reduceAdd, Int.reduceSub, not_true_eq_false, not_false_eq_true] at *) <;> (try simp (disch := omega) only [i_bm'] at *) <;> omega)
      · intro _
        have e4 : x4.toNatClampNeg = q := by rw [i_cn]; omega
        have h5 : (x4 + 1).toInt = ((q + 1 : Nat) : Int) := by clear hB hr ek ew em hw hmv ih; ((try simp only [i_lt, i_le, i_eq, i_in, i_cn, Int32.toInt_add, Int32.toInt_sub, Int32.toInt_mul, Int32.toInt_neg, Int32.reduceToInt, Int.bmod_add_bmod, Int.add_bmod_bmod, Int.bmod_sub_bmod, Int.sub_bmod_bmod, Int.bmod_mul_bmod, Int.mul_bmod_bmod, Int.bmod_neg_bmod, Nat.reducePow, Int.reduceBmod, Int.reduceNeg, Int.reduceMul, Int.reduceAdd, Int.reduceSub, not_true_eq_false, not_false_eq_true] at *) <;> (try simp (disch := omega) only [i_bm'] at *) <;> omega)
        refine sp_M_votes (d := d) x4 (by omega) (by omega) i hi hi' n R k pl wd mv ek ew em hk0 hk6 hw hmv hr ?_
        rw [e4]
        refine t_M_counted_22 (d := d + 4) i v x3 x4 x3 _ ?_ ?_
        · intro g
          refine ih (q + 1) _ _ (by omega) h5 ?_
          show x3 + 0 = f_ct _ v q + (if x_vt s q n R k pl wd mv = v then 1 else 0)
          rw [if_neg g, h3]
        · intro g
          refine ih (q + 1) _ _ (by omega) h5 ?_
          show x3 + 1 = f_ct _ v q + (if x_vt s q n R k pl wd mv = v then 1 else 0)
          rw [if_pos g, h3]
  refine t_M_counted (d := d + 4) i v ?_
  exact lp N 0 0 0 (by omega) (by decide) rfl
theorem x_vt_s {s t : jg_H} (h : ∀ c, 147 ≤ c → c ≤ 151 → t c = s c) : x_vt t = x_vt s := by
  unfold x_vt x_ln x_gn x_sum x_lk
  rw [h 147 (by decide) (by decide), h 148 (by decide) (by decide), h 149 (by decide) (by decide), h 150 (by decide) (by decide), h 151 (by decide) (by decide)]
theorem x_vt_mo {s t : jg_H} (h : f_mo s t) : x_vt t = x_vt s := x_vt_s fun c h1 h2 => funext fun j => h c j (by omega) (by
  have e : c = 147 ∨ c = 148 ∨ c = 149 ∨ c = 150 ∨ c = 151 := by omega
  rcases e with e | e | e | e | e <;> subst e <;> exact (by decide : ¬ (1 : Nat) = 0))
