/-! a change is done on a row, and the places follow: the same on both sides -/
def r_n (k : Int32) (n : Nat) : Nat := if k = 2 then n + 1 else if k = 1 then n - 1 else n
def r_R (k : Int32) (p : Nat) (w : Int32) (R : Nat → Int32) : Nat → Int32 := if k = 2 then f_put p w R else if k = 1 then f_out p R else f_rep p w R
def x_can (n : Nat) (k pl : Int32) : Prop := 0 ≤ pl.toInt ∧ (k.toInt = 2 → pl.toInt ≤ n ∧ n < 10) ∧ (¬ k.toInt = 2 → pl.toInt < n)
theorem f_put_eq {p n : Nat} {w : Int32} {F R : Nat → Int32} (h : ∀ j, j < n → F j = R j) (hp : p ≤ n) (i : Nat) (hi : i ≤ n) : f_put p w F i = f_put p w R i := by
  unfold f_put
  split
  · exact h i (by omega)
  · split
    · rfl
    · exact h (i - 1) (by omega)
theorem f_out_eq {p n : Nat} {F R : Nat → Int32} (h : ∀ j, j < n → F j = R j) (i : Nat) (hi : i + 1 < n) : f_out p F i = f_out p R i := by
  unfold f_out
  split
  · exact h i (by omega)
  · exact h (i + 1) (by omega)
theorem r_b {k : Int32} {n p : Nat} (hp : p ≤ n) {w : Int32} {R : Nat → Int32} (hR : ∀ j, j < n → 1 ≤ (R j).toInt ∧ (R j).toInt ≤ 60) (hk : 1 ≤ k.toInt ∧ k.toInt ≤ 3) (hw : k.toInt = 2 ∨ k.toInt = 3 → 1 ≤ w.toInt ∧ w.toInt ≤ 60) (j : Nat) (hj : j < r_n k n) : 1 ≤ (r_R k p w R j).toInt ∧ (r_R k p w R j).toInt ≤ 60 := by
  unfold r_n at hj
  unfold r_R
  by_cases e2 : k = 2
  · rw [if_pos e2] at hj ⊢
    have hw := hw (Or.inl (by rw [e2]; decide))
    unfold f_put
    split
    · exact hR j (by omega)
    · split
      · exact hw
      · exact hR (j - 1) (by omega)
  · rw [if_neg e2] at hj ⊢
    by_cases e1 : k = 1
    · rw [if_pos e1] at hj ⊢
      unfold f_out
      split
      · exact hR j (by omega)
      · exact hR (j + 1) (by omega)
    · rw [if_neg e1] at hj ⊢
      have k2 : ¬ k.toInt = 2 := fun e => e2 (Int32.toInt_inj.mp e)
      have k1 : ¬ k.toInt = 1 := fun e => e1 (Int32.toInt_inj.mp e)
      have hw := hw (Or.inr (by omega))
      unfold f_rep
      split
      · exact hw
      · exact hR j hj
set_option maxRecDepth 20000 in
theorem sp_C_change {G : jv_X} {d : Nat} {B : Option Value → jg_H → Prop} {s : jg_H} {c : Nat} (hc : f_8 c) (n : Nat) (hn : (s c 0).toInt = n) (h10 : n ≤ 10) (R : Nat → Int32) (hR : ∀ j, j < n → s (c + 1) j = R j) (k pl w : Int32) (hk : 1 ≤ k.toInt ∧ k.toInt ≤ 3) (h0 : ¬ x_can n k pl → B (some (.int 0)) s) (h1 : x_can n k pl → ∀ t : jg_H, (t c 0).toInt = r_n k n → (∀ j, j < r_n k n → t (c + 1) j = r_R k pl.toNatClampNeg w R j) → (∀ q j, ¬ (q = c ∧ j = 0) → ¬ q = c + 1 → t q j = s q j) → B (some (.int 1)) t) : q_P G (d + 2) 54 [.ref c, .int k, .int pl, .int w] s B := by
  unfold x_can at h0 h1
  refine t_Sections_change (d := d) hc k pl w ?_ ?_ ?_ ?rep ?out ?_ ?_ ?put
  case rep =>
    intro g1 g2 g3 g4 g5
    have k2 : ¬ k = 2 := g2
    intro s1 e
    subst e
    have hp : pl.toNatClampNeg < n := by clear h0 h1 hR; (try simp only [i_lt, i_le, i_eq, i_in, i_cn, Int32.toInt_add, Int32.toInt_sub, Int32.toInt_mul, Int32.toInt_neg, Int32.reduceToInt, Int.bmod_add_bmod, Int.add_bmod_bmod, Int.bmod_sub_bmod, Int.sub_bmod_bmod, Int.bmod_mul_bmod, Int.mul_bmod_bmod, Int.bmod_neg_bmod, Nat.reducePow, Int.reduceBmod, Int.reduceNeg, Int.reduceMul, Int.reduceAdd, Int.reduceSub, not_true_eq_false, not_false_eq_true] at *) <;> (try simp (disch := omega) only [i_bm'] at *); omega
    refine h1 ⟨by clear h0 h1 hR; ((try simp only [i_lt, i_le, i_eq, i_in, i_cn, Int32.toInt_add, Int32.toInt_sub, Int32.toInt_mul, Int32.toInt_neg, Int32.reduceToInt, Int.bmod_add_bmod, Int.add_bmod_bmod, Int.bmod_sub_bmod, Int.sub_bmod_bmod, Int.bmod_mul_bmod, Int.mul_bmod_bmod, Int.bmod_neg_bmod, Nat.reducePow, Int.reduceBmod, Int.reduceNeg, Int.reduceMul, Int.reduceAdd, Int.reduceSub, not_true_eq_false, not_false_eq_true] at *) <;> (try simp (disch := omega) only [i_bm'] at *) <;> omega), fun h => absurd (Int32.toInt_inj.mp h) k2, fun _ => by clear h0 h1 hR hp; ((try simp only [i_lt, i_le, i_eq, i_in, i_cn, Int32.toInt_add, Int32.toInt_sub, Int32.toInt_mul, Int32.toInt_neg, Int32.reduceToInt, Int.bmod_add_bmod, Int.add_bmod_bmod, Int.bmod_sub_bmod, Int.sub_bmod_bmod, Int.bmod_mul_bmod, Int.mul_bmod_bmod, Int.bmod_neg_bmod, Nat.reducePow, Int.reduceBmod, Int.reduceNeg, Int.reduceMul, Int.reduceAdd, Int.reduceSub, not_true_eq_false, not_false_eq_true] at *) <;> (try simp (disch := omega) only [i_bm'] at *) <;> omega)⟩ _ ?_ ?_ ?_
    · unfold r_n; rw [if_neg k2, if_neg g4, u_c (by omega), hn]
    · intro j hj
      unfold r_n at hj
      rw [if_neg k2, if_neg g4] at hj
      unfold r_R
      rw [if_neg k2, if_neg g4]
      unfold f_rep
      by_cases e : j = pl.toNatClampNeg
      · rw [if_pos e, e, u_hit]
      · rw [if_neg e, u_j e]; exact hR j hj
    · intro q j hq hq'
      rw [u_c hq']
  case out =>
    intro g1 g2 g3 g4
    have hp : pl.toNatClampNeg < n := by clear h0 h1 hR; (try simp only [i_lt, i_le, i_eq, i_in, i_cn, Int32.toInt_add, Int32.toInt_sub, Int32.toInt_mul, Int32.toInt_neg, Int32.reduceToInt, Int.bmod_add_bmod, Int.add_bmod_bmod, Int.bmod_sub_bmod, Int.sub_bmod_bmod, Int.bmod_mul_bmod, Int.mul_bmod_bmod, Int.bmod_neg_bmod, Nat.reducePow, Int.reduceBmod, Int.reduceNeg, Int.reduceMul, Int.reduceAdd, Int.reduceSub, not_true_eq_false, not_false_eq_true] at *) <;> (try simp (disch := omega) only [i_bm'] at *); omega
    refine sp_C_takeOut (d := d) hc pl n pl.toNatClampNeg (by clear h0 h1 hR hp; (try simp only [i_lt, i_le, i_eq, i_in, i_cn, Int32.toInt_add, Int32.toInt_sub, Int32.toInt_mul, Int32.toInt_neg, Int32.reduceToInt, Int.bmod_add_bmod, Int.add_bmod_bmod, Int.bmod_sub_bmod, Int.sub_bmod_bmod, Int.bmod_mul_bmod, Int.mul_bmod_bmod, Int.bmod_neg_bmod, Nat.reducePow, Int.reduceBmod, Int.reduceNeg, Int.reduceMul, Int.reduceAdd, Int.reduceSub, not_true_eq_false, not_false_eq_true] at *) <;> (try simp (disch := omega) only [i_bm'] at *); omega) hp h10 hn ?_
    intro t e1 e2 e3
    refine t_Sections_change_35 (d := d) hc k pl w ?_
    refine h1 ⟨by clear h0 h1 hR e1 e2 e3 hp; ((try simp only [i_lt, i_le, i_eq, i_in, i_cn, Int32.toInt_add, Int32.toInt_sub, Int32.toInt_mul, Int32.toInt_neg, Int32.reduceToInt, Int.bmod_add_bmod, Int.add_bmod_bmod, Int.bmod_sub_bmod, Int.sub_bmod_bmod, Int.bmod_mul_bmod, Int.mul_bmod_bmod, Int.bmod_neg_bmod, Nat.reducePow, Int.reduceBmod, Int.reduceNeg, Int.reduceMul, Int.reduceAdd, Int.reduceSub, not_true_eq_false, not_false_eq_true] at *) <;> (try simp (disch := omega) only [i_bm'] at *) <;> omega), fun h => absurd (Int32.toInt_inj.mp h) g2, fun _ => by clear h0 h1 hR hp e1 e2 e3; ((try simp only [i_lt, i_le, i_eq, i_in, i_cn, Int32.toInt_add, Int32.toInt_sub, Int32.toInt_mul, Int32.toInt_neg, Int32.reduceToInt, Int.bmod_add_bmod, Int.add_bmod_bmod, Int.bmod_sub_bmod, Int.sub_bmod_bmod, Int.bmod_mul_bmod, Int.mul_bmod_bmod, Int.bmod_neg_bmod, Nat.reducePow, Int.reduceBmod, Int.reduceNeg, Int.reduceMul, Int.reduceAdd, Int.reduceSub, not_true_eq_false, not_false_eq_true] at *) <;> (try simp (disch := omega) only [i_bm'] at *) <;> omega)⟩ t ?_ ?_ ?_
    · unfold r_n; rw [if_neg g2, if_pos g4, e1]; omega
    · intro j hj
      unfold r_n at hj
      rw [if_neg g2, if_pos g4] at hj
      unfold r_R
      rw [if_neg g2, if_pos g4, e2 j (by omega)]
      exact f_out_eq hR j (by omega)
    · intro q j hq hq'
      exact e3 q j hq (fun e => hq' e.1)
  case put =>
    intro g1 g2 g3 g4
    have hp : pl.toNatClampNeg ≤ n := by clear h0 h1 hR; (try simp only [i_lt, i_le, i_eq, i_in, i_cn, Int32.toInt_add, Int32.toInt_sub, Int32.toInt_mul, Int32.toInt_neg, Int32.reduceToInt, Int.bmod_add_bmod, Int.add_bmod_bmod, Int.bmod_sub_bmod, Int.sub_bmod_bmod, Int.bmod_mul_bmod, Int.mul_bmod_bmod, Int.bmod_neg_bmod, Nat.reducePow, Int.reduceBmod, Int.reduceNeg, Int.reduceMul, Int.reduceAdd, Int.reduceSub, not_true_eq_false, not_false_eq_true] at *) <;> (try simp (disch := omega) only [i_bm'] at *); omega
    have h9 : n ≤ 9 := by clear h0 h1 hR hp; ((try simp only [i_lt, i_le, i_eq, i_in, i_cn, Int32.toInt_add, Int32.toInt_sub, Int32.toInt_mul, Int32.toInt_neg, Int32.reduceToInt, Int.bmod_add_bmod, Int.add_bmod_bmod, Int.bmod_sub_bmod, Int.sub_bmod_bmod, Int.bmod_mul_bmod, Int.mul_bmod_bmod, Int.bmod_neg_bmod, Nat.reducePow, Int.reduceBmod, Int.reduceNeg, Int.reduceMul, Int.reduceAdd, Int.reduceSub, not_true_eq_false, not_false_eq_true] at *) <;> (try simp (disch := omega) only [i_bm'] at *) <;> omega)
    refine sp_C_putIn (d := d) hc pl w n pl.toNatClampNeg (by clear h0 h1 hR hp h9; (try simp only [i_lt, i_le, i_eq, i_in, i_cn, Int32.toInt_add, Int32.toInt_sub, Int32.toInt_mul, Int32.toInt_neg, Int32.reduceToInt, Int.bmod_add_bmod, Int.add_bmod_bmod, Int.bmod_sub_bmod, Int.sub_bmod_bmod, Int.bmod_mul_bmod, Int.mul_bmod_bmod, Int.bmod_neg_bmod, Nat.reducePow, Int.reduceBmod, Int.reduceNeg, Int.reduceMul, Int.reduceAdd, Int.reduceSub, not_true_eq_false, not_false_eq_true] at *) <;> (try simp (disch := omega) only [i_bm'] at *); omega) hp h9 hn ?_
    intro t e1 e2 e3
    refine t_Sections_change_22 (d := d) hc k pl w ?_
    refine h1 ⟨by clear h0 h1 hR e1 e2 e3 hp; ((try simp only [i_lt, i_le, i_eq, i_in, i_cn, Int32.toInt_add, Int32.toInt_sub, Int32.toInt_mul, Int32.toInt_neg, Int32.reduceToInt, Int.bmod_add_bmod, Int.add_bmod_bmod, Int.bmod_sub_bmod, Int.sub_bmod_bmod, Int.bmod_mul_bmod, Int.mul_bmod_bmod, Int.bmod_neg_bmod, Nat.reducePow, Int.reduceBmod, Int.reduceNeg, Int.reduceMul, Int.reduceAdd, Int.reduceSub, not_true_eq_false, not_false_eq_true] at *) <;> (try simp (disch := omega) only [i_bm'] at *) <;> omega), fun _ => ⟨by clear h0 h1 hR hp e1 e2 e3; ((try simp only [i_lt, i_le, i_eq, i_in, i_cn, Int32.toInt_add, Int32.toInt_sub, Int32.toInt_mul, Int32.toInt_neg, Int32.reduceToInt, Int.bmod_add_bmod, Int.add_bmod_bmod, Int.bmod_sub_bmod, Int.sub_bmod_bmod, Int.bmod_mul_bmod, Int.mul_bmod_bmod, Int.bmod_neg_bmod, Nat.reducePow, Int.reduceBmod, Int.reduceNeg, Int.reduceMul, Int.reduceAdd, Int.reduceSub, not_true_eq_false, not_false_eq_true] at *) <;> (try simp (disch := omega) only [i_bm'] at *) <;> omega), by omega⟩, fun h => absurd (by rw [g2]; decide) h⟩ t ?_ ?_ ?_
    · unfold r_n; rw [if_pos g2, e1]; omega
    · intro j hj
      unfold r_n at hj
      rw [if_pos g2] at hj
      unfold r_R
      rw [if_pos g2, e2 j (by omega)]
      exact f_put_eq hR hp j (by omega)
    · intro q j hq hq'
      exact e3 q j hq (fun e => hq' e.1)
  · intro g; refine h0 (fun e => ?_); have := e.1; clear h0 h1 hR e; ((try simp only [i_lt, i_le, i_eq, i_in, i_cn, Int32.toInt_add, Int32.toInt_sub, Int32.toInt_mul, Int32.toInt_neg, Int32.reduceToInt, Int.bmod_add_bmod, Int.add_bmod_bmod, Int.bmod_sub_bmod, Int.sub_bmod_bmod, Int.bmod_mul_bmod, Int.mul_bmod_bmod, Int.bmod_neg_bmod, Nat.reducePow, Int.reduceBmod, Int.reduceNeg, Int.reduceMul, Int.reduceAdd, Int.reduceSub, not_true_eq_false, not_false_eq_true] at *) <;> (try simp (disch := omega) only [i_bm'] at *) <;> omega)
  · intro g g' g''; refine h0 (fun e => ?_); have := e.2.2; clear h0 h1 hR e; ((try simp only [i_lt, i_le, i_eq, i_in, i_cn, Int32.toInt_add, Int32.toInt_sub, Int32.toInt_mul, Int32.toInt_neg, Int32.reduceToInt, Int.bmod_add_bmod, Int.add_bmod_bmod, Int.bmod_sub_bmod, Int.sub_bmod_bmod, Int.bmod_mul_bmod, Int.mul_bmod_bmod, Int.bmod_neg_bmod, Nat.reducePow, Int.reduceBmod, Int.reduceNeg, Int.reduceMul, Int.reduceAdd, Int.reduceSub, not_true_eq_false, not_false_eq_true] at *) <;> (try simp (disch := omega) only [i_bm'] at *) <;> omega)
  · intro g g' g'' _ g3; exfalso; clear h0 h1 hR; ((try simp only [i_lt, i_le, i_eq, i_in, i_cn, Int32.toInt_add, Int32.toInt_sub, Int32.toInt_mul, Int32.toInt_neg, Int32.reduceToInt, Int.bmod_add_bmod, Int.add_bmod_bmod, Int.bmod_sub_bmod, Int.sub_bmod_bmod, Int.bmod_mul_bmod, Int.mul_bmod_bmod, Int.bmod_neg_bmod, Nat.reducePow, Int.reduceBmod, Int.reduceNeg, Int.reduceMul, Int.reduceAdd, Int.reduceSub, not_true_eq_false, not_false_eq_true] at *) <;> (try simp (disch := omega) only [i_bm'] at *) <;> omega)
  · intro g g' g''; refine h0 (fun e => ?_); have := e.2.1; clear h0 h1 hR e; ((try simp only [i_lt, i_le, i_eq, i_in, i_cn, Int32.toInt_add, Int32.toInt_sub, Int32.toInt_mul, Int32.toInt_neg, Int32.reduceToInt, Int.bmod_add_bmod, Int.add_bmod_bmod, Int.bmod_sub_bmod, Int.sub_bmod_bmod, Int.bmod_mul_bmod, Int.mul_bmod_bmod, Int.bmod_neg_bmod, Nat.reducePow, Int.reduceBmod, Int.reduceNeg, Int.reduceMul, Int.reduceAdd, Int.reduceSub, not_true_eq_false, not_false_eq_true] at *) <;> (try simp (disch := omega) only [i_bm'] at *) <;> omega)
  · intro g g' g'' g3; refine h0 (fun e => ?_); have := e.2.1; clear h0 h1 hR e; ((try simp only [i_lt, i_le, i_eq, i_in, i_cn, Int32.toInt_add, Int32.toInt_sub, Int32.toInt_mul, Int32.toInt_neg, Int32.reduceToInt, Int.bmod_add_bmod, Int.add_bmod_bmod, Int.bmod_sub_bmod, Int.sub_bmod_bmod, Int.bmod_mul_bmod, Int.mul_bmod_bmod, Int.bmod_neg_bmod, Nat.reducePow, Int.reduceBmod, Int.reduceNeg, Int.reduceMul, Int.reduceAdd, Int.reduceSub, not_true_eq_false, not_false_eq_true] at *) <;> (try simp (disch := omega) only [i_bm'] at *) <;> omega)
/-- where the reference takes a motion's place to be -/
theorem sp_M_sectionOf {G : jv_X} {d : Nat} {B : Option Value → jg_H → Prop} {s : jg_H} (i : Int32) (hi : 0 ≤ i.toInt) (hi' : i.toInt < 13) (n : Nat) (R : Nat → Int32) (k pl : Int32) (hk : 1 ≤ k.toInt ∧ k.toInt ≤ 3) (hr : m_row s i.toNatClampNeg n R k pl) (hB : B (some (.int pl)) s) : q_P G (d + 1) 195 [.ref 146, .int i] s B := by
  have ji : jv_in i 13 = true := by rw [i_in]; exact ⟨hi, by omega⟩
  obtain ⟨r1, r2, r3, r4, r5⟩ := hr
  refine t_M_sectionOf (d := d) i ji (fun _ => ji) ?_ ?_
  · intro g
    rcases r5.2 hk with ⟨e, _⟩ | ⟨_, e, _⟩
    · rw [g] at e; exact absurd e (by decide)
    · rw [← e]; exact hB
  · intro g
    rcases r5.2 hk with ⟨_, _, e, _⟩ | ⟨e, _⟩
    · rw [← e]; exact hB
    · exact absurd e g
theorem sp_M_isDoable {G : jv_X} {d : Nat} {B : Option Value → jg_H → Prop} {s : jg_H} (i : Int32) (hi : 0 ≤ i.toInt) (hi' : i.toInt < 13) (n : Nat) (R : Nat → Int32) (k pl : Int32) (ek : s 157 i.toNatClampNeg = k) (hk : 1 ≤ k.toInt ∧ k.toInt ≤ 3) (hr : m_row s i.toNatClampNeg n R k pl) (h0 : ¬ x_can n k pl → B (some (.int 0)) s) (h1 : x_can n k pl → B (some (.int 1)) s) : q_P G (d + 1) 194 [.ref 146, .int i] s B := by
  have ji : jv_in i 13 = true := by rw [i_in]; exact ⟨hi, by omega⟩
  obtain ⟨hn, h10, r3, r4, hpl⟩ := hr
  refine t_M_isDoable (d := d) i ji ?_ (fun _ => ji) ?_ ?_ ?_
  · intro g
    refine h0 (fun hC => ?_)
    rcases hpl.2 hk with ⟨_, _, _, e⟩ | ⟨_, e, _⟩
    · rw [g] at e; exact absurd e (by decide)
    · have := hC.1; rw [e, g] at this; exact absurd this (by decide)
  · intro g g'
    rw [ek] at g'
    have k2' : ¬ k.toInt = 2 := fun e => g' (Int32.toInt_inj.mp e)
    refine h1 ?_
    rcases hpl.2 hk with ⟨_, e, _⟩ | ⟨_, e, e1, e2⟩
    · exact absurd e g'
    · have : ¬ (s 159 i.toNatClampNeg).toInt = -1 := fun e => g (Int32.toInt_inj.mp e)
      rw [e]
      exact ⟨by omega, fun e => absurd e k2', fun _ => by omega⟩
  · intro g g' g''
    rw [ek] at g'
    have k2' : k.toInt = 2 := by rw [g']; decide
    refine h0 (fun hC => ?_)
    have := (hC.2.1 k2').2
    clear h0 h1 r3 r4 hpl ek hC
    ((try simp only [i_lt, i_le, i_eq, i_in, i_cn, Int32.toInt_add, Int32.toInt_sub, Int32.toInt_mul, Int32.toInt_neg, Int32.reduceToInt, Int.bmod_add_bmod, Int.add_bmod_bmod, Int.bmod_sub_bmod, Int.sub_bmod_bmod, Int.bmod_mul_bmod, Int.mul_bmod_bmod, Int.bmod_neg_bmod, Nat.reducePow, Int.reduceBmod, Int.reduceNeg, Int.reduceMul, Int.reduceAdd, Int.reduceSub, not_true_eq_false, not_false_eq_true] at *) <;> (try simp (disch := omega) only [i_bm'] at *) <;> omega)
  · intro g g' g''
    rw [ek] at g'
    have k2' : k.toInt = 2 := by rw [g']; decide
    have n10 : n < 10 := by clear h0 h1 r3 r4 hpl ek; ((try simp only [i_lt, i_le, i_eq, i_in, i_cn, Int32.toInt_add, Int32.toInt_sub, Int32.toInt_mul, Int32.toInt_neg, Int32.reduceToInt, Int.bmod_add_bmod, Int.add_bmod_bmod, Int.bmod_sub_bmod, Int.sub_bmod_bmod, Int.bmod_mul_bmod, Int.mul_bmod_bmod, Int.bmod_neg_bmod, Nat.reducePow, Int.reduceBmod, Int.reduceNeg, Int.reduceMul, Int.reduceAdd, Int.reduceSub, not_true_eq_false, not_false_eq_true] at *) <;> (try simp (disch := omega) only [i_bm'] at *) <;> omega)
    refine h1 ?_
    rcases hpl.2 hk with ⟨_, _, e, _⟩ | ⟨_, e, e1, e2⟩
    · rw [e]
      exact ⟨by omega, fun _ => ⟨by omega, n10⟩, fun h => absurd k2' h⟩
    · have : ¬ (s 159 i.toNatClampNeg).toInt = -1 := fun e => g (Int32.toInt_inj.mp e)
      rw [e]
      exact ⟨by omega, fun _ => ⟨by omega, n10⟩, fun h => absurd k2' h⟩
set_option maxRecDepth 20000 in
theorem sp_M_does {G : jv_X} {d : Nat} {B : Option Value → jg_H → Prop} {s : jg_H} (i : Int32) (hi : 0 ≤ i.toInt) (hi' : i.toInt < 13) (n : Nat) (R : Nat → Int32) (k pl w : Int32) (ek : s 157 i.toNatClampNeg = k) (ew : s 160 i.toNatClampNeg = w) (hk : 1 ≤ k.toInt ∧ k.toInt ≤ 3) (hr : m_row s i.toNatClampNeg n R k pl) (hcan : x_can n k pl) (hB : ∀ t : jg_H, (t 146 53).toInt = r_n k n → (∀ j, j < r_n k n → t 171 j = r_R k pl.toNatClampNeg w R j) → (∀ q j, ¬ (q = 146 ∧ j = 53) → ¬ q = 171 → t q j = s q j) → B none t) : q_P G (d + 2) 198 [.ref 146, .int i] s B := by
  have ji : jv_in i 13 = true := by rw [i_in]; exact ⟨hi, by omega⟩
  obtain ⟨hn, h10, r3, r4, hpl⟩ := hr
  obtain ⟨q0, q1, q2⟩ := hcan
  have hpl' := hpl.2 hk
  have ep : pl.toInt = (pl.toNatClampNeg : Int) := by rw [i_cn]; omega
  have PUT : k = 2 → ∀ x3 : Int32, x3.toInt = n → q_W G (d + 1) jm_M_does B 89 [some (.ref 146), some (.int i), some (.int pl), some (.int x3)] [] s := by
    intro g2 x3 h3
    obtain ⟨e1, e2⟩ := q1 (by rw [g2]; decide)
    refine lp_M_put (d := d) (s := s) i pl n pl.toNatClampNeg hi hi' ep (by omega) (by omega) hn ?_ (n - pl.toNatClampNeg) n x3 s (by omega) (Nat.le_refl _) h3 (fun _ _ => rfl) (fun a h h' => absurd h (by omega)) (fun _ _ _ => rfl)
    intro t f1 f2 f3
    refine hB t ?_ ?_ f3
    · unfold r_n; rw [if_pos g2, f1]; omega
    · intro j hj
      unfold r_n at hj
      rw [if_pos g2] at hj
      unfold r_R
      rw [if_pos g2, f2 j (by omega), ew]
      exact f_put_eq r3 (by omega) j (by omega)
  have k123 : ¬ k = 3 → ¬ k = 1 → k = 2 := by
    intro g3 g1
    have a3 : ¬ k.toInt = 3 := fun e => g3 (Int32.toInt_inj.mp e)
    have a1 : ¬ k.toInt = 1 := fun e => g1 (Int32.toInt_inj.mp e)
    exact Int32.toInt_inj.mp (by show k.toInt = 2; omega)
  have B0 : s 161 i.toNatClampNeg = 0 → pl = s 159 i.toNatClampNeg := by
    intro g
    rcases hpl' with ⟨e, _⟩ | ⟨_, e, _⟩
    · rw [g] at e; exact absurd e (by decide)
    · exact e
  have B1 : ¬ s 161 i.toNatClampNeg = 0 → k = 2 ∧ pl = s 146 53 := by
    intro g
    rcases hpl' with ⟨_, e, e', _⟩ | ⟨e, _⟩
    · exact ⟨e, e'⟩
    · exact absurd e g
  refine t_M_does (d := d) i ji (fun _ => ji) (fun _ => ji) (fun _ _ => ji) ?_ ?out (fun _ _ => ji) ?_ ?rep (fun _ => ji) (fun _ _ => ji) ?_ ?_ (fun _ _ => ji) ?_ ?_
  case out =>
    intro g g3 g1 s1 e
    rw [ek] at g1 g3
    rw [← B0 g]
    subst e
    have k2 : ¬ k = 2 := by rw [g1]; decide
    have hp : pl.toNatClampNeg < n := by have := q2 (fun e => k2 (Int32.toInt_inj.mp e)); omega
    have h53 : ((s 146 53) - 1).toInt = (n : Int) - 1 := by clear PUT hB r3 r4 hpl hpl' B0 B1 k123 ek ew; ((try simp only [i_lt, i_le, i_eq, i_in, i_cn, Int32.toInt_add, Int32.toInt_sub, Int32.toInt_mul, Int32.toInt_neg, Int32.reduceToInt, Int.bmod_add_bmod, Int.add_bmod_bmod, Int.bmod_sub_bmod, Int.sub_bmod_bmod, Int.bmod_mul_bmod, Int.mul_bmod_bmod, Int.bmod_neg_bmod, Nat.reducePow, Int.reduceBmod, Int.reduceNeg, Int.reduceMul, Int.reduceAdd, Int.reduceSub, not_true_eq_false, not_false_eq_true] at *) <;> (try simp (disch := omega) only [i_bm'] at *) <;> omega)
    refine lp_M_out (d := d) (s := jg_up s 146 53 ((s 146 53) - 1)) i pl n pl.toNatClampNeg hp h10 (by rw [u_hit]; exact h53) ?_ (n - 1 - pl.toNatClampNeg) pl.toNatClampNeg pl _ (by omega) (Nat.le_refl _) ep ?_ (fun _ _ => rfl) (fun _ _ _ => rfl)
    · intro t f1 f2 f3
      refine hB t ?_ ?_ ?_
      · unfold r_n; rw [if_neg k2, if_pos g1, f1]; omega
      · intro j hj
        unfold r_n at hj
        rw [if_neg k2, if_pos g1] at hj
        unfold r_R
        rw [if_neg k2, if_pos g1, f2 j (by omega)]
        refine f_out_eq (n := n) (fun a ha => ?_) j (by omega)
        rw [u_c (by decide)]
        exact r3 a ha
      · intro q j hq hq'
        rw [f3 q j hq']
        exact u_r (fun e e' => hq ⟨e, e'⟩)
    · intro a ha
      unfold f_out
      rw [if_pos ha]
  case rep =>
    intro g g3 s1 e
    rw [ek] at g3
    rw [ew, ← B0 g] at e
    subst e
    have k2 : ¬ k = 2 := by rw [g3]; decide
    have k1 : ¬ k = 1 := by rw [g3]; decide
    refine hB _ ?_ ?_ ?_
    · unfold r_n; rw [if_neg k2, if_neg k1, u_c (by decide), hn]
    · intro j hj
      unfold r_n at hj
      rw [if_neg k2, if_neg k1] at hj
      unfold r_R
      rw [if_neg k2, if_neg k1]
      unfold f_rep
      by_cases e : j = pl.toNatClampNeg
      · rw [if_pos e, e, u_hit]
      · rw [if_neg e, u_j e]; exact r3 j hj
    · intro q j hq hq'
      rw [u_c hq']
  · intro g g3 g1
    rw [ek] at g3 g1
    rw [← B0 g]
    exact PUT (k123 g3 g1) _ hn
  · intro g g3
    rw [ek] at g3
    rw [← B0 g, i_in]
    have k2 : ¬ k = 2 := by rw [g3]; decide
    have := q2 (fun e => k2 (Int32.toInt_inj.mp e))
    exact ⟨q0, by omega⟩
  · intro g g3 g1
    have q := PUT (B1 g).1 _ hn
    rw [(B1 g).2] at q
    exact q
  · intro g _ g1
    rw [ek] at g1
    have := (B1 g).1
    rw [g1] at this
    exact absurd this (by decide)
  · intro g g3
    rw [ek] at g3
    have := (B1 g).1
    rw [g3] at this
    exact absurd this (by decide)
  · intro g g3
    rw [ek] at g3
    have := (B1 g).1
    rw [g3] at this
    exact absurd this (by decide)
/-! places follow -/
def s_set (K at' x : Int32) : Int32 := if K = 2 then (if x < at' then x else x + 1) else if K = 1 then (if x = at' then -1 else if x ≤ at' then x else x - 1) else x
def s_fol (kk y b K at' bd : Int32) : Int32 := if 1 ≤ kk.toInt ∧ kk.toInt ≤ 3 ∧ b = 0 ∧ ¬ y = -1 ∧ bd = 0 then s_set K at' y else y
set_option maxRecDepth 20000 in
theorem sp_C_settle {G : jv_X} {d : Nat} {B : Option Value → jg_H → Prop} {s : jg_H} {c L : Nat} (hc : f_a c L) (hL : L ≤ 200) (cnt : Nat) (hcL : cnt ≤ L) (a2 K at' : Int32) (h2 : a2.toInt = cnt) (hB : ∀ t : jg_H, (∀ j, j < cnt → t c j = s_set K at' (s c j)) → (∀ q j, ¬ (q = c ∧ j < cnt) → t q j = s q j) → B none t) : q_P G (d + 1) 100 [.ref c, .int a2, .int K, .int at'] s B := by
  have eL : (Int32.ofNat L).toInt = L := by
    rw [Int32.toInt_ofNat']
    show ((L : Nat) : Int).bmod 4294967296 = L
    exact i_bm' _ (by omega) (by omega)
  have lp : ∀ (m q : Nat) (x4 : Int32) (t : jg_H), q + m = cnt → x4.toInt = q → (∀ j, j < q → t c j = s_set K at' (s c j)) → (∀ a j, ¬ (a = c ∧ j < q) → t a j = s a j) → q_W G d jm_C_settle B 3 [some (.ref c), some (.int a2), some (.int K), some (.int at'), some (.int x4)] [] t := by
    intro m
    induction m with
    | zero =>
      intro q x4 t h1 h4 hs hf
      have e : q = cnt := by omega
      subst e
      refine t_C_settle_3 (d := d) hc a2 K at' x4 ?_ ?_ ?_ ?_ ?_ ?_ ?_ ?_ ?_ ?_ ?_ ?_ ?_ ?_ ?_ ?_ ?_ ?_ ?_ ?_ ?_ ?_ ?_ ?_
      · intro _; exact hB t hs hf
      all_goals (intro g; exfalso; clear hB hs hf; ((try simp only [i_lt, i_le, i_eq, i_in, i_cn, Int32.toInt_add, Int32.toInt_sub, Int32.toInt_mul, Int32.toInt_neg, Int32.reduceToInt, Int.bmod_add_bmod, Int.add_bmod_bmod, Int.bmod_sub_bmod, Int.sub_bmod_bmod, Int.bmod_mul_bmod, Int.mul_bmod_bmod, Int.bmod_neg_bmod, Nat.reducePow, Int.reduceBmod, Int.reduceNeg, Int.reduceMul, Int.reduceAdd, Int.reduceSub, not_true_eq_false, not_false_eq_true] at *) <;> (try simp (disch := omega) only [i_bm'] at *) <;> omega))
    | succ m ih =>
      intro q x4 t h1 h4 hs hf
      have hq : x4.toNatClampNeg = q := by rw [i_cn]; omega
      have h5 : (x4 + 1).toInt = ((q + 1 : Nat) : Int) := by clear hB hs hf ih hq; ((try simp only [i_lt, i_le, i_eq, i_in, i_cn, Int32.toInt_add, Int32.toInt_sub, Int32.toInt_mul, Int32.toInt_neg, Int32.reduceToInt, Int.bmod_add_bmod, Int.add_bmod_bmod, Int.bmod_sub_bmod, Int.sub_bmod_bmod, Int.bmod_mul_bmod, Int.mul_bmod_bmod, Int.bmod_neg_bmod, Nat.reducePow, Int.reduceBmod, Int.reduceNeg, Int.reduceMul, Int.reduceAdd, Int.reduceSub, not_true_eq_false, not_false_eq_true] at *) <;> (try simp (disch := omega) only [i_bm'] at *) <;> omega)
      have tq : t c q = s c q := hf c q (fun e => absurd e.2 (Nat.lt_irrefl q))
      have ji : jv_in x4 L = true := by rw [i_in]; omega
      have KEEP : s_set K at' (s c q) = s c q → q_W G d jm_C_settle B 3 [some (.ref c), some (.int a2), some (.int K), some (.int at'), some (.int (x4 + 1))] [] t := by
        intro e
        refine ih (q + 1) _ t (by omega) h5 (fun j hj => ?_) (fun a j h => hf a j (fun e => h ⟨e.1, by omega⟩))
        by_cases e' : j = q
        · rw [e', tq, e]
        · exact hs j (by omega)
      have SET : ∀ v : Int32, s_set K at' (s c q) = v → ∀ s1 : jg_H, s1 = jg_up t c x4.toNatClampNeg v → q_W G d jm_C_settle B 3 [some (.ref c), some (.int a2), some (.int K), some (.int at'), some (.int (x4 + 1))] [] s1 := by
        intro v e s1 e1
        subst e1
        rw [hq]
        refine ih (q + 1) _ _ (by omega) h5 (fun j hj => ?_) (fun a j h => ?_)
        · by_cases e' : j = q
          · rw [e', u_hit, e]
          · rw [u_j e']; exact hs j (by omega)
        · rw [u_r (fun e e' => h ⟨e, by omega⟩)]
          exact hf a j (fun e => h ⟨e.1, by omega⟩)
      unfold s_set at KEEP SET
      rw [← tq] at KEEP SET
      rw [← hq] at KEEP SET
      clear ih hB hs hf tq
      refine t_C_settle_3 (d := d) hc a2 K at' x4 ?_ ?_ ?_ (fun _ _ _ _ => ji) (fun _ _ _ _ _ => ji) ?_ (fun _ _ _ _ _ _ => ji) (fun _ _ _ _ _ _ => ji) ?_ (fun _ _ _ _ _ => ji) ?_ (fun _ _ _ => ji) ?_ (fun _ _ _ _ _ => ji) (fun _ _ _ _ _ _ => ji) ?_ (fun _ _ _ _ _ _ _ => ji) (fun _ _ _ _ _ _ _ => ji) ?_ (fun _ _ _ _ _ _ => ji) ?_ (fun _ _ _ _ => ji) (fun _ _ _ _ => ji) ?_
      · intro g; exfalso; clear KEEP SET; ((try simp only [i_lt, i_le, i_eq, i_in, i_cn, Int32.toInt_add, Int32.toInt_sub, Int32.toInt_mul, Int32.toInt_neg, Int32.reduceToInt, Int.bmod_add_bmod, Int.add_bmod_bmod, Int.bmod_sub_bmod, Int.sub_bmod_bmod, Int.bmod_mul_bmod, Int.mul_bmod_bmod, Int.bmod_neg_bmod, Nat.reducePow, Int.reduceBmod, Int.reduceNeg, Int.reduceMul, Int.reduceAdd, Int.reduceSub, not_true_eq_false, not_false_eq_true] at *) <;> (try simp (disch := omega) only [i_bm'] at *) <;> omega)
      · intro _ g; exfalso; clear KEEP SET; ((try simp only [i_lt, i_le, i_eq, i_in, i_cn, Int32.toInt_add, Int32.toInt_sub, Int32.toInt_mul, Int32.toInt_neg, Int32.reduceToInt, Int.bmod_add_bmod, Int.add_bmod_bmod, Int.bmod_sub_bmod, Int.sub_bmod_bmod, Int.bmod_mul_bmod, Int.mul_bmod_bmod, Int.bmod_neg_bmod, Nat.reducePow, Int.reduceBmod, Int.reduceNeg, Int.reduceMul, Int.reduceAdd, Int.reduceSub, not_true_eq_false, not_false_eq_true] at *) <;> (try simp (disch := omega) only [i_bm'] at *) <;> omega)
      · intro _ _ g g'; exact KEEP (by rw [if_neg g, if_neg g'])
      · intro _ _ g1 g2 g3 g4; exact KEEP (by rw [if_neg g1, if_pos g2, if_neg g3, if_pos g4])
      · intro _ _ g1 g2 g3 g4; exact SET _ (by rw [if_neg g1, if_pos g2, if_neg g3, if_neg g4])
      · intro _ _ g1 g2 g3; exact SET _ (by rw [if_neg g1, if_pos g2, if_pos g3])
      · intro _ _ g1 g2 g3; exact KEEP (by rw [if_pos g1, if_pos g2])
      · intro _ _ g1 _ g3; rw [g1] at g3; exact absurd g3 (by decide)
      · intro _ _ g1 _ g3; rw [g1] at g3; exact absurd g3 (by decide)
      · intro _ _ g1 _ g3; rw [g1] at g3; exact absurd g3 (by decide)
      · intro _ _ g1 g2; exact SET _ (by rw [if_pos g1, if_neg g2])
  refine t_C_settle (d := d) hc a2 K at' ?_
  exact lp cnt 0 0 s (by omega) (by decide) (fun j hj => absurd hj (Nat.not_lt_zero j)) (fun _ _ _ => rfl)
set_option maxRecDepth 20000 in
theorem sp_M_follows {G : jv_X} {d : Nat} {B : Option Value → jg_H → Prop} {s : jg_H} (i K at' bd : Int32) (hi : 0 ≤ i.toInt) (hi' : i.toInt < 13) (hK : 1 ≤ K.toInt ∧ K.toInt ≤ 3) (hB : ∀ t : jg_H, t 159 i.toNatClampNeg = s_fol (s 157 i.toNatClampNeg) (s 159 i.toNatClampNeg) (s 161 i.toNatClampNeg) K at' bd → (∀ c j, ¬ (c = 159 ∧ j = i.toNatClampNeg) → t c j = s c j) → B none t) : q_P G (d + 2) 199 [.ref 146, .int i, .int K, .int at', .int bd] s B := by
  have ji : jv_in i 13 = true := by rw [i_in]; exact ⟨hi, by omega⟩
  have KEEP : s_fol (s 157 i.toNatClampNeg) (s 159 i.toNatClampNeg) (s 161 i.toNatClampNeg) K at' bd = s 159 i.toNatClampNeg → B none s := fun e => hB s e.symm (fun _ _ _ => rfl)
  have SET : ∀ v : Int32, s_fol (s 157 i.toNatClampNeg) (s 159 i.toNatClampNeg) (s 161 i.toNatClampNeg) K at' bd = v → ∀ s1 : jg_H, s1 = jg_up s 159 i.toNatClampNeg v → B none s1 := by
    intro v e s1 e1
    subst e1
    exact hB _ (by rw [u_hit, e]) (fun c j h => u_r (fun e e' => h ⟨e, e'⟩))
  have k12 : ¬ K = 3 → ¬ K = 1 → K = 2 := by
    intro g3 g1
    have a3 : ¬ K.toInt = 3 := fun e => g3 (Int32.toInt_inj.mp e)
    have a1 : ¬ K.toInt = 1 := fun e => g1 (Int32.toInt_inj.mp e)
    exact Int32.toInt_inj.mp (by show K.toInt = 2; omega)
  clear hB
  unfold s_fol at KEEP SET
  have N : (¬ (1 ≤ (s 157 i.toNatClampNeg).toInt ∧ (s 157 i.toNatClampNeg).toInt ≤ 3 ∧ s 161 i.toNatClampNeg = 0 ∧ ¬ s 159 i.toNatClampNeg = -1 ∧ bd = 0)) → B none s := fun h => KEEP (if_neg h)
  have Y : ¬ (s 157 i.toNatClampNeg) < 1 → (s 157 i.toNatClampNeg) ≤ 3 → s 161 i.toNatClampNeg = 0 → ¬ s 159 i.toNatClampNeg = -1 → bd = 0 → (1 ≤ (s 157 i.toNatClampNeg).toInt ∧ (s 157 i.toNatClampNeg).toInt ≤ 3 ∧ s 161 i.toNatClampNeg = 0 ∧ ¬ s 159 i.toNatClampNeg = -1 ∧ bd = 0) := by
    intro h1 h2 h3 h4 h5
    exact ⟨by clear KEEP SET N h3 h4 h5; ((try simp only [i_lt, i_le, i_eq, i_in, i_cn, Int32.toInt_add, Int32.toInt_sub, Int32.toInt_mul, Int32.toInt_neg, Int32.reduceToInt, Int.bmod_add_bmod, Int.add_bmod_bmod, Int.bmod_sub_bmod, Int.sub_bmod_bmod, Int.bmod_mul_bmod, Int.mul_bmod_bmod, Int.bmod_neg_bmod, Nat.reducePow, Int.reduceBmod, Int.reduceNeg, Int.reduceMul, Int.reduceAdd, Int.reduceSub, not_true_eq_false, not_false_eq_true] at *) <;> (try simp (disch := omega) only [i_bm'] at *) <;> omega), by clear KEEP SET N h3 h4 h5; ((try simp only [i_lt, i_le, i_eq, i_in, i_cn, Int32.toInt_add, Int32.toInt_sub, Int32.toInt_mul, Int32.toInt_neg, Int32.reduceToInt, Int.bmod_add_bmod, Int.add_bmod_bmod, Int.bmod_sub_bmod, Int.sub_bmod_bmod, Int.bmod_mul_bmod, Int.mul_bmod_bmod, Int.bmod_neg_bmod, Nat.reducePow, Int.reduceBmod, Int.reduceNeg, Int.reduceMul, Int.reduceAdd, Int.reduceSub, not_true_eq_false, not_false_eq_true] at *) <;> (try simp (disch := omega) only [i_bm'] at *) <;> omega), h3, h4, h5⟩
  unfold s_set at KEEP SET
  refine t_M_follows (d := d) i K at' bd ji ?_ ?_ (fun _ _ => ji) ?_ (fun _ _ _ => ji) ?_ ?_ (fun _ _ _ _ _ _ _ => ji) (fun _ _ _ _ _ _ _ => ji) (fun _ _ _ _ _ _ _ _ => ji) ?_ (fun _ _ _ _ _ _ _ _ => ji) ?_ (fun _ _ _ _ _ _ _ => ji) (fun _ _ _ _ _ _ _ _ => ji) (fun _ _ _ _ _ _ _ _ _ => ji) (fun _ _ _ _ _ _ _ _ _ => ji) ?_ (fun _ _ _ _ _ _ _ _ _ => ji) (fun _ _ _ _ _ _ _ _ _ => ji) ?_ (fun _ _ _ _ _ _ _ _ => ji) ?_ ?_
  · intro g; refine N (fun e => ?_); have := e.1; clear KEEP SET N Y e; ((try simp only [i_lt, i_le, i_eq, i_in, i_cn, Int32.toInt_add, Int32.toInt_sub, Int32.toInt_mul, Int32.toInt_neg, Int32.reduceToInt, Int.bmod_add_bmod, Int.add_bmod_bmod, Int.bmod_sub_bmod, Int.sub_bmod_bmod, Int.bmod_mul_bmod, Int.mul_bmod_bmod, Int.bmod_neg_bmod, Nat.reducePow, Int.reduceBmod, Int.reduceNeg, Int.reduceMul, Int.reduceAdd, Int.reduceSub, not_true_eq_false, not_false_eq_true] at *) <;> (try simp (disch := omega) only [i_bm'] at *) <;> omega)
  · intro g g'; refine N (fun e => ?_); have := e.2.1; clear KEEP SET N Y e; ((try simp only [i_lt, i_le, i_eq, i_in, i_cn, Int32.toInt_add, Int32.toInt_sub, Int32.toInt_mul, Int32.toInt_neg, Int32.reduceToInt, Int.bmod_add_bmod, Int.add_bmod_bmod, Int.bmod_sub_bmod, Int.sub_bmod_bmod, Int.bmod_mul_bmod, Int.mul_bmod_bmod, Int.bmod_neg_bmod, Nat.reducePow, Int.reduceBmod, Int.reduceNeg, Int.reduceMul, Int.reduceAdd, Int.reduceSub, not_true_eq_false, not_false_eq_true] at *) <;> (try simp (disch := omega) only [i_bm'] at *) <;> omega)
  · intro _ _ g; exact N (fun e => g e.2.2.1)
  · intro _ _ _ g; exact N (fun e => e.2.2.2.1 g)
  · intro h1 h2 h3 h4 g3
    by_cases hb : bd = 0
    · exact KEEP (by rw [if_pos (Y h1 h2 h3 h4 hb), if_neg (by rw [g3]; decide), if_neg (by rw [g3]; decide)])
    · exact N (fun e => hb e.2.2.2.2)
  · intro h1 h2 h3 h4 g3 h5 g1 g s1 e1
    exact SET _ (by rw [if_pos (Y h1 h2 h3 h4 h5), if_pos (k12 g3 g1), if_pos g]; exact (Int32.add_zero _).symm) s1 e1
  · intro h1 h2 h3 h4 g3 h5 g1 g s1 e1
    exact SET _ (by rw [if_pos (Y h1 h2 h3 h4 h5), if_pos (k12 g3 g1), if_neg g]) s1 e1
  · intro h1 h2 h3 h4 g3 h5 g1 g g' s1 e1
    exact SET _ (by rw [if_pos (Y h1 h2 h3 h4 h5), if_neg (by rw [g1]; decide), if_pos g1, if_neg g, if_pos g']) s1 e1
  · intro h1 h2 h3 h4 g3 h5 g1 g g' s1 e1
    exact SET _ (by rw [if_pos (Y h1 h2 h3 h4 h5), if_neg (by rw [g1]; decide), if_pos g1, if_neg g, if_neg g']) s1 e1
  · intro h1 h2 h3 h4 g3 h5 g1 g s1 e1
    exact SET _ (by rw [if_pos (Y h1 h2 h3 h4 h5), if_neg (by rw [g1]; decide), if_pos g1, if_pos g]) s1 e1
  · intro h1 h2 h3 h4 g3 h5
    exact N (fun e => h5 e.2.2.2.2)
/-- a place goes on lying alike on both sides -/
theorem pl_follow {kk x y b z K at' yd bd z' : Int32} {n : Nat} (h : f_pl kk x y b z) (hd : f_pl K at' yd bd z) (hz : z.toInt = n) (h10 : n ≤ 10) (hz' : z'.toInt = r_n K n) (hK : 1 ≤ K.toInt ∧ K.toInt ≤ 3) (hc : x_can n K at') : f_pl kk (s_set K at' x) (s_fol kk y b K at' bd) b z' := by
  obtain ⟨q0, q1, q2⟩ := hc
  have hd := hd.2 hK
  unfold r_n at hz'
  have m1 : ∀ v : Int32, v = -1 → s_set K at' v = -1 := by
    intro v e
    subst e
    unfold s_set
    by_cases e2 : K = 2
    · rw [if_pos e2, if_pos (by clear h hd hz'; ((try simp only [i_lt, i_le, i_eq, i_in, i_cn, Int32.toInt_add, Int32.toInt_sub, Int32.toInt_mul, Int32.toInt_neg, Int32.reduceToInt, Int.bmod_add_bmod, Int.add_bmod_bmod, Int.bmod_sub_bmod, Int.sub_bmod_bmod, Int.bmod_mul_bmod, Int.mul_bmod_bmod, Int.bmod_neg_bmod, Nat.reducePow, Int.reduceBmod, Int.reduceNeg, Int.reduceMul, Int.reduceAdd, Int.reduceSub, not_true_eq_false, not_false_eq_true] at *) <;> (try simp (disch := omega) only [i_bm'] at *) <;> omega))]
    · rw [if_neg e2]
      by_cases e1 : K = 1
      · rw [if_pos e1, if_neg (by clear h hd hz'; ((try simp only [i_lt, i_le, i_eq, i_in, i_cn, Int32.toInt_add, Int32.toInt_sub, Int32.toInt_mul, Int32.toInt_neg, Int32.reduceToInt, Int.bmod_add_bmod, Int.add_bmod_bmod, Int.bmod_sub_bmod, Int.sub_bmod_bmod, Int.bmod_mul_bmod, Int.mul_bmod_bmod, Int.bmod_neg_bmod, Nat.reducePow, Int.reduceBmod, Int.reduceNeg, Int.reduceMul, Int.reduceAdd, Int.reduceSub, not_true_eq_false, not_false_eq_true] at *) <;> (try simp (disch := omega) only [i_bm'] at *) <;> omega)), if_pos (by clear h hd hz'; ((try simp only [i_lt, i_le, i_eq, i_in, i_cn, Int32.toInt_add, Int32.toInt_sub, Int32.toInt_mul, Int32.toInt_neg, Int32.reduceToInt, Int.bmod_add_bmod, Int.add_bmod_bmod, Int.bmod_sub_bmod, Int.sub_bmod_bmod, Int.bmod_mul_bmod, Int.mul_bmod_bmod, Int.bmod_neg_bmod, Nat.reducePow, Int.reduceBmod, Int.reduceNeg, Int.reduceMul, Int.reduceAdd, Int.reduceSub, not_true_eq_false, not_false_eq_true] at *) <;> (try simp (disch := omega) only [i_bm'] at *) <;> omega))]
      · rw [if_neg e1]
  constructor
  · intro hk
    obtain ⟨e1, e2, e3⟩ := h.1 hk
    refine ⟨m1 x e1, ?_, e3⟩
    unfold s_fol
    rw [if_neg (fun e => by omega)]
    exact e2
  · intro hk
    rcases h.2 hk with ⟨e1, e2, e3, e4⟩ | ⟨e1, e2, e3, e4⟩
    · left
      refine ⟨e1, e2, ?_, ?_⟩
      · subst e3
        unfold s_set
        by_cases k2 : K = 2
        · have k2' : K.toInt = 2 := by rw [k2]; decide
          obtain ⟨w1, w2⟩ := q1 k2'
          rw [if_pos k2] at hz' ⊢
          rw [if_neg (by clear h hd hz' m1; ((try simp only [i_lt, i_le, i_eq, i_in, i_cn, Int32.toInt_add, Int32.toInt_sub, Int32.toInt_mul, Int32.toInt_neg, Int32.reduceToInt, Int.bmod_add_bmod, Int.add_bmod_bmod, Int.bmod_sub_bmod, Int.sub_bmod_bmod, Int.bmod_mul_bmod, Int.mul_bmod_bmod, Int.bmod_neg_bmod, Nat.reducePow, Int.reduceBmod, Int.reduceNeg, Int.reduceMul, Int.reduceAdd, Int.reduceSub, not_true_eq_false, not_false_eq_true] at *) <;> (try simp (disch := omega) only [i_bm'] at *) <;> omega))]
          refine Int32.toInt_inj.mp ?_
          clear h hd m1
          ((try simp only [i_lt, i_le, i_eq, i_in, i_cn, Int32.toInt_add, Int32.toInt_sub, Int32.toInt_mul, Int32.toInt_neg, Int32.reduceToInt, Int.bmod_add_bmod, Int.add_bmod_bmod, Int.bmod_sub_bmod, Int.sub_bmod_bmod, Int.bmod_mul_bmod, Int.mul_bmod_bmod, Int.bmod_neg_bmod, Nat.reducePow, Int.reduceBmod, Int.reduceNeg, Int.reduceMul, Int.reduceAdd, Int.reduceSub, not_true_eq_false, not_false_eq_true] at *) <;> (try simp (disch := omega) only [i_bm'] at *) <;> omega)
        · have k2' : ¬ K.toInt = 2 := fun e => k2 (Int32.toInt_inj.mp e)
          have w := q2 k2'
          rw [if_neg k2] at hz' ⊢
          by_cases k1 : K = 1
          · rw [if_pos k1] at hz' ⊢
            rw [if_neg (by clear h hd hz' m1; ((try simp only [i_lt, i_le, i_eq, i_in, i_cn, Int32.toInt_add, Int32.toInt_sub, Int32.toInt_mul, Int32.toInt_neg, Int32.reduceToInt, Int.bmod_add_bmod, Int.add_bmod_bmod, Int.bmod_sub_bmod, Int.sub_bmod_bmod, Int.bmod_mul_bmod, Int.mul_bmod_bmod, Int.bmod_neg_bmod, Nat.reducePow, Int.reduceBmod, Int.reduceNeg, Int.reduceMul, Int.reduceAdd, Int.reduceSub, not_true_eq_false, not_false_eq_true] at *) <;> (try simp (disch := omega) only [i_bm'] at *) <;> omega)), if_neg (by clear h hd hz' m1; ((try simp only [i_lt, i_le, i_eq, i_in, i_cn, Int32.toInt_add, Int32.toInt_sub, Int32.toInt_mul, Int32.toInt_neg, Int32.reduceToInt, Int.bmod_add_bmod, Int.add_bmod_bmod, Int.bmod_sub_bmod, Int.sub_bmod_bmod, Int.bmod_mul_bmod, Int.mul_bmod_bmod, Int.bmod_neg_bmod, Nat.reducePow, Int.reduceBmod, Int.reduceNeg, Int.reduceMul, Int.reduceAdd, Int.reduceSub, not_true_eq_false, not_false_eq_true] at *) <;> (try simp (disch := omega) only [i_bm'] at *) <;> omega))]
            refine Int32.toInt_inj.mp ?_
            clear h hd m1
            ((try simp only [i_lt, i_le, i_eq, i_in, i_cn, Int32.toInt_add, Int32.toInt_sub, Int32.toInt_mul, Int32.toInt_neg, Int32.reduceToInt, Int.bmod_add_bmod, Int.add_bmod_bmod, Int.bmod_sub_bmod, Int.sub_bmod_bmod, Int.bmod_mul_bmod, Int.mul_bmod_bmod, Int.bmod_neg_bmod, Nat.reducePow, Int.reduceBmod, Int.reduceNeg, Int.reduceMul, Int.reduceAdd, Int.reduceSub, not_true_eq_false, not_false_eq_true] at *) <;> (try simp (disch := omega) only [i_bm'] at *) <;> omega)
          · rw [if_neg k1] at hz' ⊢
            exact Int32.toInt_inj.mp (by omega)
      · unfold s_fol
        rw [if_neg (fun e => by have := e.2.2.1; rw [e1] at this; exact absurd this (by decide))]
        exact e4
    · right
      subst e2
      by_cases hy : x = -1
      · have f : s_fol kk x b K at' bd = -1 := by
          unfold s_fol
          rw [if_neg (fun e => e.2.2.2.1 hy), hy]
        rw [f, m1 x hy]
        refine ⟨e1, rfl, by decide, ?_⟩
        have : (-1 : Int32).toInt = -1 := by decide
        rw [this, hz']
        split <;> first | omega | (split <;> omega)
      · have hy' : 0 ≤ x.toInt := by have : ¬ x.toInt = -1 := fun e => hy (Int32.toInt_inj.mp e); omega
        have hf : s_fol kk x b K at' bd = s_set K at' x := by
          unfold s_fol
          by_cases hb : bd = 0
          · rw [if_pos ⟨hk.1, hk.2, e1, hy, hb⟩]
          · rw [if_neg (fun e => hb e.2.2.2.2)]
            rcases hd with ⟨_, d2, d3, _⟩ | ⟨d1, _⟩
            · unfold s_set
              rw [if_pos d2, if_pos (by subst d3; rw [i_lt]; exact e4)]
            · exact absurd d1 hb
        rw [hf]
        refine ⟨e1, rfl, ?_⟩
        unfold s_set
        by_cases k2 : K = 2
        · rw [if_pos k2] at hz' ⊢
          by_cases hl : x < at'
          · rw [if_pos hl]; clear h hd m1 hf; omega
          · rw [if_neg hl]; clear h hd m1 hf hl; constructor <;> ((try simp only [i_lt, i_le, i_eq, i_in, i_cn, Int32.toInt_add, Int32.toInt_sub, Int32.toInt_mul, Int32.toInt_neg, Int32.reduceToInt, Int.bmod_add_bmod, Int.add_bmod_bmod, Int.bmod_sub_bmod, Int.sub_bmod_bmod, Int.bmod_mul_bmod, Int.mul_bmod_bmod, Int.bmod_neg_bmod, Nat.reducePow, Int.reduceBmod, Int.reduceNeg, Int.reduceMul, Int.reduceAdd, Int.reduceSub, not_true_eq_false, not_false_eq_true] at *) <;> (try simp (disch := omega) only [i_bm'] at *) <;> omega)
        · have k2' : ¬ K.toInt = 2 := fun e => k2 (Int32.toInt_inj.mp e)
          have w := q2 k2'
          rw [if_neg k2] at hz' ⊢
          by_cases k1 : K = 1
          · rw [if_pos k1] at hz' ⊢
            by_cases ha : x = at'
            · rw [if_pos ha]
              have : (-1 : Int32).toInt = -1 := by decide
              rw [this]
              omega
            · rw [if_neg ha]
              by_cases hl : x ≤ at'
              · rw [if_pos hl]
                have : ¬ x.toInt = at'.toInt := fun e => ha (Int32.toInt_inj.mp e)
                rw [i_le] at hl
                omega
              · rw [if_neg hl]; clear h hd m1 hf; constructor <;> ((try simp only [i_lt, i_le, i_eq, i_in, i_cn, Int32.toInt_add, Int32.toInt_sub, Int32.toInt_mul, Int32.toInt_neg, Int32.reduceToInt, Int.bmod_add_bmod, Int.add_bmod_bmod, Int.bmod_sub_bmod, Int.sub_bmod_bmod, Int.bmod_mul_bmod, Int.mul_bmod_bmod, Int.bmod_neg_bmod, Nat.reducePow, Int.reduceBmod, Int.reduceNeg, Int.reduceMul, Int.reduceAdd, Int.reduceSub, not_true_eq_false, not_false_eq_true] at *) <;> (try simp (disch := omega) only [i_bm'] at *) <;> omega)
          · rw [if_neg k1] at hz' ⊢
            omega
