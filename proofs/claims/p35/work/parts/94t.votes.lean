/-! what a member votes: the same on both sides -/
def x_lk (s : jg_H) (m : Nat) (w : Int32) : Int32 := s 148 (61 * m + w.toNatClampNeg)
def x_sum (s : jg_H) (m n : Nat) (R : Nat → Int32) : Int32 := f_sum (fun i => x_lk s m (R i)) n
def x_gn (s : jg_H) (m n : Nat) (R : Nat → Int32) (k pl wd : Int32) : Int32 := if 0 ≤ pl.toInt ∧ (k.toInt = 2 → pl.toInt ≤ n ∧ n < 10) ∧ (¬ k.toInt = 2 → pl.toInt < n) then (if k = 1 then 0 else x_lk s m wd) - (if k = 2 then 0 else x_lk s m (R pl.toNatClampNeg)) else 0
def x_sg (v : Int32) : Int32 := if 0 < v.toInt then 1 else if v.toInt < 0 then 2 else 0
def x_ln (s : jg_H) (m n : Nat) (R : Nat → Int32) (k pl wd mv : Int32) : Int32 := if k = 0 then x_sum s m n R else if k = 4 then - x_sum s m n R else if k = 5 then (if x_sum s m n R = 0 then 1 else -1) else if k = 6 then (if s 147 m = s 147 mv.toNatClampNeg then 1 else -1) else x_gn s m n R k pl wd
def x_vt (s : jg_H) (m n : Nat) (R : Nat → Int32) (k pl wd mv : Int32) : Int32 := if s 151 m = 0 then 0 else if ¬ s 149 m = -1 then 0 else if ¬ s 150 m = 0 then s 150 m else x_sg (x_ln s m n R k pl wd mv)
theorem sp_bySign {G : jv_X} {d : Nat} {B : Option Value → jg_H → Prop} {s : jg_H} (v : Int32) (hB : B (some (.int (x_sg v))) s) : q_P G (d + 1) 95 [.int v] s B := by
  unfold x_sg at hB
  refine t_C_bySign (d := d) v ?_ ?_ ?_
  · intro g g'
    rw [if_neg (by clear hB; ((try simp only [i_lt, i_le, i_eq, i_in, i_cn, Int32.toInt_add, Int32.toInt_sub, Int32.toInt_mul, Int32.toInt_neg, Int32.reduceToInt, Int.bmod_add_bmod, Int.add_bmod_bmod, Int.bmod_sub_bmod, Int.sub_bmod_bmod, Int.bmod_mul_bmod, Int.mul_bmod_bmod, Int.bmod_neg_bmod, Nat.reducePow, Int.reduceBmod, Int.reduceNeg, Int.reduceMul, Int.reduceAdd, Int.reduceSub, not_true_eq_false, not_false_eq_true] at *) <;> (try simp (disch := omega) only [i_bm'] at *) <;> omega)), if_neg (by clear hB; ((try simp only [i_lt, i_le, i_eq, i_in, i_cn, Int32.toInt_add, Int32.toInt_sub, Int32.toInt_mul, Int32.toInt_neg, Int32.reduceToInt, Int.bmod_add_bmod, Int.add_bmod_bmod, Int.bmod_sub_bmod, Int.sub_bmod_bmod, Int.bmod_mul_bmod, Int.mul_bmod_bmod, Int.bmod_neg_bmod, Nat.reducePow, Int.reduceBmod, Int.reduceNeg, Int.reduceMul, Int.reduceAdd, Int.reduceSub, not_true_eq_false, not_false_eq_true] at *) <;> (try simp (disch := omega) only [i_bm'] at *) <;> omega))] at hB; exact hB
  · intro g g'
    rw [if_neg (by clear hB; ((try simp only [i_lt, i_le, i_eq, i_in, i_cn, Int32.toInt_add, Int32.toInt_sub, Int32.toInt_mul, Int32.toInt_neg, Int32.reduceToInt, Int.bmod_add_bmod, Int.add_bmod_bmod, Int.bmod_sub_bmod, Int.sub_bmod_bmod, Int.bmod_mul_bmod, Int.mul_bmod_bmod, Int.bmod_neg_bmod, Nat.reducePow, Int.reduceBmod, Int.reduceNeg, Int.reduceMul, Int.reduceAdd, Int.reduceSub, not_true_eq_false, not_false_eq_true] at *) <;> (try simp (disch := omega) only [i_bm'] at *) <;> omega)), if_pos (by clear hB; ((try simp only [i_lt, i_le, i_eq, i_in, i_cn, Int32.toInt_add, Int32.toInt_sub, Int32.toInt_mul, Int32.toInt_neg, Int32.reduceToInt, Int.bmod_add_bmod, Int.add_bmod_bmod, Int.bmod_sub_bmod, Int.sub_bmod_bmod, Int.bmod_mul_bmod, Int.mul_bmod_bmod, Int.bmod_neg_bmod, Nat.reducePow, Int.reduceBmod, Int.reduceNeg, Int.reduceMul, Int.reduceAdd, Int.reduceSub, not_true_eq_false, not_false_eq_true] at *) <;> (try simp (disch := omega) only [i_bm'] at *) <;> omega))] at hB; exact hB
  · intro g
    rw [if_pos (by clear hB; ((try simp only [i_lt, i_le, i_eq, i_in, i_cn, Int32.toInt_add, Int32.toInt_sub, Int32.toInt_mul, Int32.toInt_neg, Int32.reduceToInt, Int.bmod_add_bmod, Int.add_bmod_bmod, Int.bmod_sub_bmod, Int.sub_bmod_bmod, Int.bmod_mul_bmod, Int.mul_bmod_bmod, Int.bmod_neg_bmod, Nat.reducePow, Int.reduceBmod, Int.reduceNeg, Int.reduceMul, Int.reduceAdd, Int.reduceSub, not_true_eq_false, not_false_eq_true] at *) <;> (try simp (disch := omega) only [i_bm'] at *) <;> omega))] at hB; exact hB
theorem lk_C {s : jg_H} (hm : I_mem s) {A : Nat} (hA : A < 15) (w : Int32) (h0 : 0 ≤ w.toInt) (h1 : w.toInt < 61) : s (2 + 2 * A + 1) w.toNatClampNeg = x_lk s A w := (hm.2.2.2.2.2.2 A w.toNatClampNeg hA (by rw [i_cn]; omega)).1
set_option maxRecDepth 20000 in
theorem sp_C_gain {G : jv_X} {d : Nat} {B : Option Value → jg_H → Prop} {s : jg_H} (hm : I_mem s) {A : Nat} (hA : A < 15) {c2 : Nat} (hc2 : f_8 c2) (n : Nat) (hn : (s c2 0).toInt = n) (h10 : n ≤ 10) (R : Nat → Int32) (hR : ∀ j, j < n → s (c2 + 1) j = R j) (hRb : ∀ j, j < n → 1 ≤ (R j).toInt ∧ (R j).toInt ≤ 60) (k pl wd : Int32) (hk : 1 ≤ k.toInt ∧ k.toInt ≤ 3) (hw : k.toInt = 2 ∨ k.toInt = 3 → 1 ≤ wd.toInt ∧ wd.toInt ≤ 60) (hB : B (some (.int (x_gn s A n R k pl wd))) s) : q_P G (d + 2) 96 [.ref c2, .ref (2 + 2 * A), .int k, .int pl, .int wd] s B := by
  have h5 := f_m1 (i := A) hA
  unfold x_gn at hB
  have N0 : ¬ (0 ≤ pl.toInt ∧ (k.toInt = 2 → pl.toInt ≤ n ∧ n < 10) ∧ (¬ k.toInt = 2 → pl.toInt < n)) → q_W G (d + 1) jm_Sections_gain B 6 [some (.ref c2), some (.ref (2 + 2 * A)), some (.int k), some (.int pl), some (.int wd), none, none] [.int 0] s := by
    intro hC
    rw [if_neg hC] at hB
    refine t2_Sections_gain_6 (d := d + 1) hc2 h5 k pl wd 0 ?_ ?_ ?_ ?_
    · intro g; exact absurd rfl g
    · intro g; exact absurd rfl g
    · intro g; exact absurd rfl g
    · intro _; exact hB
  have T : 0 ≤ pl.toInt → pl.toInt < n → ∀ x5 : Int32, B (some (.int (x5 - x_lk s A (R pl.toNatClampNeg)))) s → q_P G (d + 1) 62 [.ref c2, .int pl] s (fun v t => q_W G (d + 1) jm_Sections_gain B 43 [some (.ref c2), some (.ref (2 + 2 * A)), some (.int k), some (.int pl), some (.int wd), some (.int x5), none] (v.toList ++ [.ref (2 + 2 * A)]) t) := by
    intro h0 h1 x5 hb
    have hp : pl.toNatClampNeg < n := by rw [i_cn]; omega
    obtain ⟨r1, r2⟩ := hRb _ hp
    have hl := lk_C hm hA (R pl.toNatClampNeg) (by omega) (by omega)
    refine t_Sections_wordAt (d := d) hc2 pl ?_ ?_ ?_ ?_
    · intro g; exfalso; clear hB hb N0 hm hR hRb hl; ((try simp only [i_lt, i_le, i_eq, i_in, i_cn, Int32.toInt_add, Int32.toInt_sub, Int32.toInt_mul, Int32.toInt_neg, Int32.reduceToInt, Int.bmod_add_bmod, Int.add_bmod_bmod, Int.bmod_sub_bmod, Int.sub_bmod_bmod, Int.bmod_mul_bmod, Int.mul_bmod_bmod, Int.bmod_neg_bmod, Nat.reducePow, Int.reduceBmod, Int.reduceNeg, Int.reduceMul, Int.reduceAdd, Int.reduceSub, not_true_eq_false, not_false_eq_true] at *) <;> (try simp (disch := omega) only [i_bm'] at *) <;> omega)
    · intro _ g; exfalso; clear hB hb N0 hm hR hRb hl; ((try simp only [i_lt, i_le, i_eq, i_in, i_cn, Int32.toInt_add, Int32.toInt_sub, Int32.toInt_mul, Int32.toInt_neg, Int32.reduceToInt, Int.bmod_add_bmod, Int.add_bmod_bmod, Int.bmod_sub_bmod, Int.sub_bmod_bmod, Int.bmod_mul_bmod, Int.mul_bmod_bmod, Int.bmod_neg_bmod, Nat.reducePow, Int.reduceBmod, Int.reduceNeg, Int.reduceMul, Int.reduceAdd, Int.reduceSub, not_true_eq_false, not_false_eq_true] at *) <;> (try simp (disch := omega) only [i_bm'] at *) <;> omega)
    · intro _ _ g; exfalso; clear hB hb N0 hm hR hRb hl; ((try simp only [i_lt, i_le, i_eq, i_in, i_cn, Int32.toInt_add, Int32.toInt_sub, Int32.toInt_mul, Int32.toInt_neg, Int32.reduceToInt, Int.bmod_add_bmod, Int.add_bmod_bmod, Int.bmod_sub_bmod, Int.sub_bmod_bmod, Int.bmod_mul_bmod, Int.mul_bmod_bmod, Int.bmod_neg_bmod, Nat.reducePow, Int.reduceBmod, Int.reduceNeg, Int.reduceMul, Int.reduceAdd, Int.reduceSub, not_true_eq_false, not_false_eq_true] at *) <;> (try simp (disch := omega) only [i_bm'] at *) <;> omega)
    · intro _ _ _
      rw [hR _ hp]
      refine t2_Sections_gain_43 (d := d + 1) hc2 h5 k pl wd x5 h5 _ ?_
      generalize R pl.toNatClampNeg = r at *
      refine t_Member_liking (d := d) h5 r ?_ ?_ ?_
      · intro g; exfalso; clear hB hb N0 hm hR hRb hl; ((try simp only [i_lt, i_le, i_eq, i_in, i_cn, Int32.toInt_add, Int32.toInt_sub, Int32.toInt_mul, Int32.toInt_neg, Int32.reduceToInt, Int.bmod_add_bmod, Int.add_bmod_bmod, Int.bmod_sub_bmod, Int.sub_bmod_bmod, Int.bmod_mul_bmod, Int.mul_bmod_bmod, Int.bmod_neg_bmod, Nat.reducePow, Int.reduceBmod, Int.reduceNeg, Int.reduceMul, Int.reduceAdd, Int.reduceSub, not_true_eq_false, not_false_eq_true] at *) <;> (try simp (disch := omega) only [i_bm'] at *) <;> omega)
      · intro _ g; exfalso; clear hB hb N0 hm hR hRb hl; ((try simp only [i_lt, i_le, i_eq, i_in, i_cn, Int32.toInt_add, Int32.toInt_sub, Int32.toInt_mul, Int32.toInt_neg, Int32.reduceToInt, Int.bmod_add_bmod, Int.add_bmod_bmod, Int.bmod_sub_bmod, Int.sub_bmod_bmod, Int.bmod_mul_bmod, Int.mul_bmod_bmod, Int.bmod_neg_bmod, Nat.reducePow, Int.reduceBmod, Int.reduceNeg, Int.reduceMul, Int.reduceAdd, Int.reduceSub, not_true_eq_false, not_false_eq_true] at *) <;> (try simp (disch := omega) only [i_bm'] at *) <;> omega)
      · intro _ _
        rw [hl]
        exact t2_Sections_gain_46 (d := d + 1) hc2 h5 k pl wd x5 _ hb
  have N1 : (0 ≤ pl.toInt ∧ (k.toInt = 2 → pl.toInt ≤ n ∧ n < 10) ∧ (¬ k.toInt = 2 → pl.toInt < n)) → q_W G (d + 1) jm_Sections_gain B 6 [some (.ref c2), some (.ref (2 + 2 * A)), some (.int k), some (.int pl), some (.int wd), none, none] [.int 1] s := by
    intro hC
    rw [if_pos hC] at hB
    obtain ⟨q0, q1, q2⟩ := hC
    refine t2_Sections_gain_6 (d := d + 1) hc2 h5 k pl wd 1 ?_ ?_ ?_ ?_
    · intro _ k1
      rw [if_neg k1] at hB
      have k1' : ¬ k.toInt = 1 := fun e => k1 (Int32.toInt_inj.mp e)
      obtain ⟨w1, w2⟩ := hw (by omega)
      refine t_Member_liking (d := d) h5 wd ?_ ?_ ?_
      · intro g; exfalso; clear hB N0 T hm hR hRb; ((try simp only [i_lt, i_le, i_eq, i_in, i_cn, Int32.toInt_add, Int32.toInt_sub, Int32.toInt_mul, Int32.toInt_neg, Int32.reduceToInt, Int.bmod_add_bmod, Int.add_bmod_bmod, Int.bmod_sub_bmod, Int.sub_bmod_bmod, Int.bmod_mul_bmod, Int.mul_bmod_bmod, Int.bmod_neg_bmod, Nat.reducePow, Int.reduceBmod, Int.reduceNeg, Int.reduceMul, Int.reduceAdd, Int.reduceSub, not_true_eq_false, not_false_eq_true] at *) <;> (try simp (disch := omega) only [i_bm'] at *) <;> omega)
      · intro _ g; exfalso; clear hB N0 T hm hR hRb; ((try simp only [i_lt, i_le, i_eq, i_in, i_cn, Int32.toInt_add, Int32.toInt_sub, Int32.toInt_mul, Int32.toInt_neg, Int32.reduceToInt, Int.bmod_add_bmod, Int.add_bmod_bmod, Int.bmod_sub_bmod, Int.sub_bmod_bmod, Int.bmod_mul_bmod, Int.mul_bmod_bmod, Int.bmod_neg_bmod, Nat.reducePow, Int.reduceBmod, Int.reduceNeg, Int.reduceMul, Int.reduceAdd, Int.reduceSub, not_true_eq_false, not_false_eq_true] at *) <;> (try simp (disch := omega) only [i_bm'] at *) <;> omega)
      · intro _ _
        rw [lk_C hm hA wd (by omega) (by omega)]
        refine t2_Sections_gain_26 (d := d + 1) hc2 h5 k pl wd _ ?_ ?_
        · intro k2
          rw [if_neg k2] at hB
          exact T q0 (q2 (fun e => k2 (Int32.toInt_inj.mp e))) _ hB
        · intro k2
          rw [if_pos k2] at hB
          exact hB
    · intro _ k1 k2
      rw [if_pos k1, if_neg k2] at hB
      exact T q0 (q2 (fun e => k2 (Int32.toInt_inj.mp e))) _ hB
    · intro _ k1 k2
      rw [k1] at k2
      exact absurd k2 (by decide)
    · intro g; exact absurd g (by decide)
  refine t2_Sections_gain (d := d + 1) hc2 h5 k pl wd ?_
  clear hB T
  refine t_Sections_canChange (d := d) hc2 k pl ?_ ?_ ?_ ?_ ?_ ?_
  · intro g; refine N0 ?_; clear N0 N1 hm hR hRb; ((try simp only [i_lt, i_le, i_eq, i_in, i_cn, Int32.toInt_add, Int32.toInt_sub, Int32.toInt_mul, Int32.toInt_neg, Int32.reduceToInt, Int.bmod_add_bmod, Int.add_bmod_bmod, Int.bmod_sub_bmod, Int.sub_bmod_bmod, Int.bmod_mul_bmod, Int.mul_bmod_bmod, Int.bmod_neg_bmod, Nat.reducePow, Int.reduceBmod, Int.reduceNeg, Int.reduceMul, Int.reduceAdd, Int.reduceSub, not_true_eq_false, not_false_eq_true] at *) <;> (try simp (disch := omega) only [i_bm'] at *) <;> omega)
  · intro g g' g''; refine N0 ?_; clear N0 N1 hm hR hRb; ((try simp only [i_lt, i_le, i_eq, i_in, i_cn, Int32.toInt_add, Int32.toInt_sub, Int32.toInt_mul, Int32.toInt_neg, Int32.reduceToInt, Int.bmod_add_bmod, Int.add_bmod_bmod, Int.bmod_sub_bmod, Int.sub_bmod_bmod, Int.bmod_mul_bmod, Int.mul_bmod_bmod, Int.bmod_neg_bmod, Nat.reducePow, Int.reduceBmod, Int.reduceNeg, Int.reduceMul, Int.reduceAdd, Int.reduceSub, not_true_eq_false, not_false_eq_true] at *) <;> (try simp (disch := omega) only [i_bm'] at *) <;> omega)
  · intro g g' g''; refine N1 ?_; clear N0 N1 hm hR hRb; ((try simp only [i_lt, i_le, i_eq, i_in, i_cn, Int32.toInt_add, Int32.toInt_sub, Int32.toInt_mul, Int32.toInt_neg, Int32.reduceToInt, Int.bmod_add_bmod, Int.add_bmod_bmod, Int.bmod_sub_bmod, Int.sub_bmod_bmod, Int.bmod_mul_bmod, Int.mul_bmod_bmod, Int.bmod_neg_bmod, Nat.reducePow, Int.reduceBmod, Int.reduceNeg, Int.reduceMul, Int.reduceAdd, Int.reduceSub, not_true_eq_false, not_false_eq_true] at *) <;> (try simp (disch := omega) only [i_bm'] at *) <;> omega)
  · intro g g' g''; refine N0 ?_; clear N0 N1 hm hR hRb; ((try simp only [i_lt, i_le, i_eq, i_in, i_cn, Int32.toInt_add, Int32.toInt_sub, Int32.toInt_mul, Int32.toInt_neg, Int32.reduceToInt, Int.bmod_add_bmod, Int.add_bmod_bmod, Int.bmod_sub_bmod, Int.sub_bmod_bmod, Int.bmod_mul_bmod, Int.mul_bmod_bmod, Int.bmod_neg_bmod, Nat.reducePow, Int.reduceBmod, Int.reduceNeg, Int.reduceMul, Int.reduceAdd, Int.reduceSub, not_true_eq_false, not_false_eq_true] at *) <;> (try simp (disch := omega) only [i_bm'] at *) <;> omega)
  · intro g g' g'' g3; refine N0 ?_; clear N0 N1 hm hR hRb; ((try simp only [i_lt, i_le, i_eq, i_in, i_cn, Int32.toInt_add, Int32.toInt_sub, Int32.toInt_mul, Int32.toInt_neg, Int32.reduceToInt, Int.bmod_add_bmod, Int.add_bmod_bmod, Int.bmod_sub_bmod, Int.sub_bmod_bmod, Int.bmod_mul_bmod, Int.mul_bmod_bmod, Int.bmod_neg_bmod, Nat.reducePow, Int.reduceBmod, Int.reduceNeg, Int.reduceMul, Int.reduceAdd, Int.reduceSub, not_true_eq_false, not_false_eq_true] at *) <;> (try simp (disch := omega) only [i_bm'] at *) <;> omega)
  · intro g g' g'' g3; refine N1 ?_; clear N0 N1 hm hR hRb; ((try simp only [i_lt, i_le, i_eq, i_in, i_cn, Int32.toInt_add, Int32.toInt_sub, Int32.toInt_mul, Int32.toInt_neg, Int32.reduceToInt, Int.bmod_add_bmod, Int.add_bmod_bmod, Int.bmod_sub_bmod, Int.sub_bmod_bmod, Int.bmod_mul_bmod, Int.mul_bmod_bmod, Int.bmod_neg_bmod, Nat.reducePow, Int.reduceBmod, Int.reduceNeg, Int.reduceMul, Int.reduceAdd, Int.reduceSub, not_true_eq_false, not_false_eq_true] at *) <;> (try simp (disch := omega) only [i_bm'] at *) <;> omega)
theorem sum_C {s : jg_H} (hm : I_mem s) {A : Nat} (hA : A < 15) (c2 n : Nat) (R : Nat → Int32) (hR : ∀ j, j < n → s (c2 + 1) j = R j) (hRb : ∀ j, j < n → 1 ≤ (R j).toInt ∧ (R j).toInt ≤ 60) : f_sum (fun i => s (2 + 2 * A + 1) (s (c2 + 1) i).toNatClampNeg) n = x_sum s A n R := by
  refine f_sum_eq n fun i hi => ?_
  show s (2 + 2 * A + 1) (s (c2 + 1) i).toNatClampNeg = x_lk s A (R i)
  have := hRb i hi
  rw [hR i hi]
  exact lk_C hm hA _ (by omega) (by omega)
set_option maxRecDepth 20000 in
theorem sp_C_choice {G : jv_X} {d : Nat} {B : Option Value → jg_H → Prop} {s : jg_H} (hm : I_mem s) {A : Nat} (hA : A < 15) (hA' : (A : Int) < (s 146 0).toInt) {c2 : Nat} (hc2 : f_8 c2) {c3 L : Nat} (hc3 : f_6 c3 L) (i pl : Int32) (hi : 0 ≤ i.toInt) (hi1 : i.toInt < (s c3 0).toInt) (hi2 : i.toInt < (s c3 1).toInt) (hiL : i.toInt < L) (n : Nat) (hn : (s c2 0).toInt = n) (h10 : n ≤ 10) (R : Nat → Int32) (hR : ∀ j, j < n → s (c2 + 1) j = R j) (hRb : ∀ j, j < n → 1 ≤ (R j).toInt ∧ (R j).toInt ≤ 60) (k wd mv : Int32) (ek : s (c3 + 1) i.toNatClampNeg = k) (ew : s (c3 + 4) i.toNatClampNeg = wd) (em : s (c3 + 2) i.toNatClampNeg = mv) (hk0 : 0 ≤ k.toInt) (hk6 : k.toInt ≤ 6) (hw : k.toInt = 2 ∨ k.toInt = 3 → 1 ≤ wd.toInt ∧ wd.toInt ≤ 60) (hmv : k.toInt = 6 → 0 ≤ mv.toInt ∧ mv.toInt < (s 146 0).toInt) (hB : B (some (.int (x_vt s A n R k pl wd mv))) s) : q_P G (d + 4) 94 [.ref 0, .ref (2 + 2 * A), .ref c2, .ref c3, .int i, .int pl] s B := by
  have h5 := f_m1 (i := A) hA
  obtain ⟨m1, m2, m3⟩ := hm.2.2.2.1 A hA
  obtain ⟨n1, n2, n3, n4, n5, n6, n7, n8⟩ := hm.2.2.2.2.1 A hA hA'
  have m0 := hm.1
  have m15 := hm.2.2.1
  have sm := sum_C hm hA c2 n R hR hRb
  have hl : ∀ j, j < n → 0 ≤ (s (c2 + 1) j).toInt ∧ (s (c2 + 1) j).toInt < 61 := fun j hj => by rw [hR j hj]; have := hRb j hj; omega
  have ji : jv_in i L = true := by rw [i_in]; exact ⟨hi, by omega⟩
  have E0 : s 151 A = 0 → B (some (.int 0)) s := by
    intro e; unfold x_vt at hB; rw [if_pos e] at hB; exact hB
  have E1 : ¬ s 151 A = 0 → ¬ s 149 A = -1 → B (some (.int 0)) s := by
    intro e e'; unfold x_vt at hB; rw [if_neg e, if_pos e'] at hB; exact hB
  have E2 : ¬ s 151 A = 0 → s 149 A = -1 → ¬ s 150 A = 0 → B (some (.int (s 150 A))) s := by
    intro e e' e''; unfold x_vt at hB; rw [if_neg e, if_neg (fun h => h e'), if_pos e''] at hB; exact hB
  have E3 : ¬ s 151 A = 0 → s 149 A = -1 → s 150 A = 0 → B (some (.int (x_sg (x_ln s A n R k pl wd mv)))) s := by
    intro e e' e''; unfold x_vt at hB; rw [if_neg e, if_neg (fun h => h e'), if_neg (fun h => h e'')] at hB; exact hB
  clear hB
  unfold x_ln at E3
  refine t2_C_choice (d := d + 2) h5 hc2 hc3 i pl ?_ ?_ ?_ ?_ ?_ ?_ ?w0 ?w4 ?w5 ?_ ?w6 ?_ ?wg ?_
  case w0 =>
    intro g1 g2 _ _ _ g3 g4
    rw [n4] at g1; rw [n6] at g2; rw [m1] at g3; rw [ek] at g4 ⊢
    have hB := E3 g1 g2 g3
    rw [if_pos g4] at hB
    refine sp_C_worth (d := d + 1) hc2 h5 n hn h10 hl ?_
    rw [sm]
    refine t2_C_choice_97 (d := d + 2) h5 hc2 hc3 i pl k _ ?_
    exact sp_bySign _ (t2_C_choice_100 (d := d + 2) h5 hc2 hc3 i pl k _ hB)
  case w4 =>
    intro g1 g2 _ _ _ g3 g4 g5
    rw [n4] at g1; rw [n6] at g2; rw [m1] at g3; rw [ek] at g4 g5 ⊢
    have hB := E3 g1 g2 g3
    rw [if_neg g4, if_pos g5] at hB
    refine sp_C_worth (d := d + 1) hc2 h5 n hn h10 hl ?_
    rw [sm]
    refine t2_C_choice_106 (d := d + 2) h5 hc2 hc3 i pl k _ ?_
    exact sp_bySign _ (t2_C_choice_110 (d := d + 2) h5 hc2 hc3 i pl k _ hB)
  case w5 =>
    intro g1 g2 _ _ _ g3 g4 g5 g6
    rw [n4] at g1; rw [n6] at g2; rw [m1] at g3; rw [ek] at g4 g5 g6 ⊢
    have hB := E3 g1 g2 g3
    rw [if_neg g4, if_neg g5, if_pos g6] at hB
    refine sp_C_worth (d := d + 1) hc2 h5 n hn h10 hl ?_
    rw [sm]
    refine t2_C_choice_116 (d := d + 2) h5 hc2 hc3 i pl k _ ?_ ?_
    · intro e; rw [if_neg e] at hB; exact hB
    · intro e; rw [if_pos e] at hB; exact hB
  case w6 =>
    intro g1 g2 _ _ _ g3 g4 g5 g6 g7
    rw [n4] at g1; rw [n6] at g2; rw [m1] at g3; rw [ek] at g4 g5 g6 g7 ⊢
    have hB := E3 g1 g2 g3
    rw [if_neg g4, if_neg g5, if_neg g6, if_pos g7] at hB
    rw [em]
    obtain ⟨v1, v2⟩ := hmv (by rw [g7]; decide)
    have np := (key_mem hm mv v1 v2).2.2.2.1
    refine t_C_partyOf (d := d + 1) mv ?_ ?_ ?_ ?_
    · intro g; exfalso; clear hB E0 E1 E2 E3 hm sm hl hR hRb np; ((try simp only [i_lt, i_le, i_eq, i_in, i_cn, Int32.toInt_add, Int32.toInt_sub, Int32.toInt_mul, Int32.toInt_neg, Int32.reduceToInt, Int.bmod_add_bmod, Int.add_bmod_bmod, Int.bmod_sub_bmod, Int.sub_bmod_bmod, Int.bmod_mul_bmod, Int.mul_bmod_bmod, Int.bmod_neg_bmod, Nat.reducePow, Int.reduceBmod, Int.reduceNeg, Int.reduceMul, Int.reduceAdd, Int.reduceSub, not_true_eq_false, not_false_eq_true] at *) <;> (try simp (disch := omega) only [i_bm'] at *) <;> omega)
    · intro _ g; exfalso; clear hB E0 E1 E2 E3 hm sm hl hR hRb np; ((try simp only [i_lt, i_le, i_eq, i_in, i_cn, Int32.toInt_add, Int32.toInt_sub, Int32.toInt_mul, Int32.toInt_neg, Int32.reduceToInt, Int.bmod_add_bmod, Int.add_bmod_bmod, Int.bmod_sub_bmod, Int.sub_bmod_bmod, Int.bmod_mul_bmod, Int.mul_bmod_bmod, Int.bmod_neg_bmod, Nat.reducePow, Int.reduceBmod, Int.reduceNeg, Int.reduceMul, Int.reduceAdd, Int.reduceSub, not_true_eq_false, not_false_eq_true] at *) <;> (try simp (disch := omega) only [i_bm'] at *) <;> omega)
    · intro _ _ g; exfalso; clear hB E0 E1 E2 E3 hm sm hl hR hRb np; ((try simp only [i_lt, i_le, i_eq, i_in, i_cn, Int32.toInt_add, Int32.toInt_sub, Int32.toInt_mul, Int32.toInt_neg, Int32.reduceToInt, Int.bmod_add_bmod, Int.add_bmod_bmod, Int.bmod_sub_bmod, Int.sub_bmod_bmod, Int.bmod_mul_bmod, Int.mul_bmod_bmod, Int.bmod_neg_bmod, Nat.reducePow, Int.reduceBmod, Int.reduceNeg, Int.reduceMul, Int.reduceAdd, Int.reduceSub, not_true_eq_false, not_false_eq_true] at *) <;> (try simp (disch := omega) only [i_bm'] at *) <;> omega)
    · intro _ _ _
      rw [np, n1]
      refine t2_C_choice_140 (d := d + 2) h5 hc2 hc3 i pl k _ _ ?_ ?_
      · intro e; rw [if_neg e] at hB; exact hB
      · intro e; rw [if_pos e] at hB; exact hB
  case wg =>
    intro g1 g2 _ _ _ g3 g4 g5 g6 g7
    rw [n4] at g1; rw [n6] at g2; rw [m1] at g3; rw [ek] at g4 g5 g6 g7 ⊢
    have hB := E3 g1 g2 g3
    rw [if_neg g4, if_neg g5, if_neg g6, if_neg g7] at hB
    rw [ew]
    have hk13 : 1 ≤ k.toInt ∧ k.toInt ≤ 3 := by
      clear hB E0 E1 E2 E3 hm sm hl hR hRb g1 g2 g3
      (try simp only [i_lt, i_le, i_eq, i_in, i_cn, Int32.toInt_add, Int32.toInt_sub, Int32.toInt_mul, Int32.toInt_neg, Int32.reduceToInt, Int.bmod_add_bmod, Int.add_bmod_bmod, Int.bmod_sub_bmod, Int.sub_bmod_bmod, Int.bmod_mul_bmod, Int.mul_bmod_bmod, Int.bmod_neg_bmod, Nat.reducePow, Int.reduceBmod, Int.reduceNeg, Int.reduceMul, Int.reduceAdd, Int.reduceSub, not_true_eq_false, not_false_eq_true] at *) <;> (try simp (disch := omega) only [i_bm'] at *); omega
    refine sp_C_gain (d := d + 1) hm hA hc2 n hn h10 R hR hRb k pl wd hk13 hw ?_
    refine t2_C_choice_165 (d := d + 2) h5 hc2 hc3 i pl k _ ?_
    exact sp_bySign _ (t2_C_choice_168 (d := d + 2) h5 hc2 hc3 i pl k _ hB)
  · intro g; rw [n4] at g; exact E0 g
  · intro g g'; rw [n4] at g; rw [n6] at g'; exact E1 g g'
  · intro _ _ g; exfalso; clear E0 E1 E2 E3 hm sm hl hR hRb; ((try simp only [i_lt, i_le, i_eq, i_in, i_cn, Int32.toInt_add, Int32.toInt_sub, Int32.toInt_mul, Int32.toInt_neg, Int32.reduceToInt, Int.bmod_add_bmod, Int.add_bmod_bmod, Int.bmod_sub_bmod, Int.sub_bmod_bmod, Int.bmod_mul_bmod, Int.mul_bmod_bmod, Int.bmod_neg_bmod, Nat.reducePow, Int.reduceBmod, Int.reduceNeg, Int.reduceMul, Int.reduceAdd, Int.reduceSub, not_true_eq_false, not_false_eq_true] at *) <;> (try simp (disch := omega) only [i_bm'] at *) <;> omega)
  · intro _ _ _ g; exfalso; clear E0 E1 E2 E3 hm sm hl hR hRb; ((try simp only [i_lt, i_le, i_eq, i_in, i_cn, Int32.toInt_add, Int32.toInt_sub, Int32.toInt_mul, Int32.toInt_neg, Int32.reduceToInt, Int.bmod_add_bmod, Int.add_bmod_bmod, Int.bmod_sub_bmod, Int.sub_bmod_bmod, Int.bmod_mul_bmod, Int.mul_bmod_bmod, Int.bmod_neg_bmod, Nat.reducePow, Int.reduceBmod, Int.reduceNeg, Int.reduceMul, Int.reduceAdd, Int.reduceSub, not_true_eq_false, not_false_eq_true] at *) <;> (try simp (disch := omega) only [i_bm'] at *) <;> omega)
  · intro _ _ _ _ g; exfalso; clear E0 E1 E2 E3 hm sm hl hR hRb; ((try simp only [i_lt, i_le, i_eq, i_in, i_cn, Int32.toInt_add, Int32.toInt_sub, Int32.toInt_mul, Int32.toInt_neg, Int32.reduceToInt, Int.bmod_add_bmod, Int.add_bmod_bmod, Int.bmod_sub_bmod, Int.sub_bmod_bmod, Int.bmod_mul_bmod, Int.mul_bmod_bmod, Int.bmod_neg_bmod, Nat.reducePow, Int.reduceBmod, Int.reduceNeg, Int.reduceMul, Int.reduceAdd, Int.reduceSub, not_true_eq_false, not_false_eq_true] at *) <;> (try simp (disch := omega) only [i_bm'] at *) <;> omega)
  · intros; exact ji
  · intros; exact ji
  · intros; exact ji
  · intro g1 g2 _ _ _ g3
    rw [n4] at g1; rw [n6] at g2; rw [m1] at g3 ⊢
    exact E2 g1 g2 g3
