/-! what an order would make of a bill: the drafts -/
theorem x_gn_wd (s : jg_H) (m n : Nat) (R : Nat → Int32) (k pl wd wd' : Int32) (hw : k = 1 ∨ wd = wd') : x_gn s m n R k pl wd = x_gn s m n R k pl wd' := by
  rcases hw with h | h
  · unfold x_gn
    rw [if_pos h, if_pos h]
  · rw [h]
theorem x_vt_eq (s : jg_H) (m n : Nat) (R : Nat → Int32) (k pl wd wd' mv mv' : Int32) (h6 : ¬ k = 6) (hw : k = 1 ∨ wd = wd') : x_vt s m n R k pl wd mv = x_vt s m n R k pl wd' mv' := by
  unfold x_vt x_ln
  rw [if_neg h6, if_neg h6, x_gn_wd s m n R k pl wd wd' hw]
theorem r_R_wd (k : Int32) (p : Nat) (w w' : Int32) (R : Nat → Int32) (hw : k = 1 ∨ w = w') : r_R k p w R = r_R k p w' R := by
  rcases hw with h | h
  · unfold r_R
    have k2 : ¬ k = 2 := by rw [h]; decide
    rw [if_neg k2, if_neg k2, if_pos h, if_pos h]
  · rw [h]
/-- how a draft stands: how many words, the words, the places of what was told -/
def fs_V (s : jg_H) (g : Nat × (Nat → Int32) × (Nat → Int32)) (i A : Nat) : Int32 := x_vt s A g.1 g.2.1 (s 172 i) (g.2.2 i) (s 174 i) 0
def fs_P (s : jg_H) (g : Nat × (Nat → Int32) × (Nat → Int32)) (i : Nat) : Int32 := x_v s (s 146 15).toNatClampNeg 2 (s 172 i) 0 0 (f_ct (fs_V s g i) 1 (s 146 0).toInt.toNat) (f_ct (fs_V s g i) 2 (s 146 0).toInt.toNat)
def fs_step (s : jg_H) (g : Nat × (Nat → Int32) × (Nat → Int32)) (i : Nat) : Nat × (Nat → Int32) × (Nat → Int32) :=
  if (0 ≤ (g.2.2 i).toInt ∧ ((s 172 i).toInt = 2 → (g.2.2 i).toInt ≤ g.1 ∧ g.1 < 10) ∧ (¬ (s 172 i).toInt = 2 → (g.2.2 i).toInt < g.1)) ∧ ¬ fs_P s g i = 0 then (r_n (s 172 i) g.1, r_R (s 172 i) (g.2.2 i).toNatClampNeg (s 174 i) g.2.1, fun j => s_set (s 172 i) (g.2.2 i) (g.2.2 j)) else g
theorem fs_step_y {s : jg_H} {g : Nat × (Nat → Int32) × (Nat → Int32)} {i : Nat} (h : x_can g.1 (s 172 i) (g.2.2 i)) (hp : ¬ fs_P s g i = 0) : fs_step s g i = (r_n (s 172 i) g.1, r_R (s 172 i) (g.2.2 i).toNatClampNeg (s 174 i) g.2.1, fun j => s_set (s 172 i) (g.2.2 i) (g.2.2 j)) := if_pos ⟨h, hp⟩
theorem fs_step_n {s : jg_H} {g : Nat × (Nat → Int32) × (Nat → Int32)} {i : Nat} (h : ¬ x_can g.1 (s 172 i) (g.2.2 i) ∨ fs_P s g i = 0) : fs_step s g i = g := if_neg (fun e => by rcases h with h | h; exact h e.1; exact e.2 h)
def fs_ok (g : Nat × (Nat → Int32) × (Nat → Int32)) : Prop := g.1 ≤ 10 ∧ ∀ j, j < g.1 → 1 ≤ (g.2.1 j).toInt ∧ (g.2.1 j).toInt ≤ 60
/-- what was told: the reference's side -/
def tl_ok (s : jg_H) : Prop := 0 ≤ (s 146 19).toInt ∧ (s 146 19).toInt ≤ 5 ∧ ∀ i : Nat, (i : Int) < (s 146 19).toInt → (1 ≤ (s 172 i).toInt ∧ (s 172 i).toInt ≤ 3) ∧ ((s 172 i).toInt = 2 ∨ (s 172 i).toInt = 3 → 1 ≤ (s 174 i).toInt ∧ (s 174 i).toInt ≤ 60)
theorem tl_I {s : jg_H} (hI : Inv s) : tl_ok s := by
  obtain ⟨t1, t2, t3, t4, t5, t6⟩ := hI.2.2.2.2.1
  refine ⟨t2, t3, fun i hi => ?_⟩
  obtain ⟨b1, b2, b3, b4, b5, b6, b7, b8⟩ := t6 i hi
  refine ⟨⟨b2, b3⟩, fun h => ?_⟩
  have k1 : ¬ s 172 i = 1 := by
    intro e
    have : (s 172 i).toInt = 1 := by rw [e]; decide
    omega
  exact (b8 k1).2
theorem fs_ok_step {s : jg_H} (ht : tl_ok s) {g : Nat × (Nat → Int32) × (Nat → Int32)} (hg : fs_ok g) {i : Nat} (hi : (i : Int) < (s 146 19).toInt) : fs_ok (fs_step s g i) := by
  obtain ⟨k13, kw⟩ := ht.2.2 i hi
  by_cases h : x_can g.1 (s 172 i) (g.2.2 i) ∧ ¬ fs_P s g i = 0
  · rw [fs_step_y h.1 h.2]
    have hp : (g.2.2 i).toNatClampNeg ≤ g.1 := by
      obtain ⟨q0, q1, q2⟩ := h.1
      rw [i_cn]
      by_cases e : (s 172 i).toInt = 2
      · have := q1 e; omega
      · have := q2 e; omega
    exact ⟨r_n10 hg.1 h.1, fun j hj => r_b hp hg.2 k13 kw j hj⟩
  · rw [fs_step_n (by
      by_cases e : x_can g.1 (s 172 i) (g.2.2 i)
      · by_cases e' : fs_P s g i = 0
        · exact Or.inr e'
        · exact absurd ⟨e, e'⟩ h
      · exact Or.inl e)]
    exact hg
theorem fs_mo {s t : jg_H} (h : f_mo s t) : fs_step t = fs_step s := by
  have e1 : t 172 = s 172 := funext fun j => h 172 j (by decide) (by decide : ¬ (5 : Nat) = 0)
  have e2 : t 174 = s 174 := funext fun j => h 174 j (by decide) (by decide : ¬ (5 : Nat) = 0)
  have e3 : t 146 15 = s 146 15 := h 146 15 (by decide) (by decide : ¬ (6 : Nat) = 0)
  have e4 : t 146 0 = s 146 0 := h 146 0 (by decide) (by decide : ¬ (1 : Nat) = 0)
  funext g i
  unfold fs_step fs_P
  have ev : fs_V t g i = fs_V s g i := by funext A; unfold fs_V; rw [x_vt_mo h, e1, e2]
  rw [ev, e1, e2, e3, e4, x_v_mo h]
/-- a class's draft at a depth -/
def cl_at (t : jg_H) (n D : Nat) (g : Nat × (Nat → Int32) × (Nat → Int32)) : Prop := (t (80 + 2 * D) 0).toInt = g.1 ∧ (∀ j, j < g.1 → t (80 + 2 * D + 1) j = g.2.1 j) ∧ (∀ j, j < n → t (73 + D) j = g.2.2 j)
set_option maxRecDepth 20000 in
theorem sp_C_copyFrom {G : jv_X} {d : Nat} {B : Option Value → jg_H → Prop} {s : jg_H} {c0 c1 : Nat} (hc0 : f_8 c0) (hc1 : f_8 c1) (h1 : ¬ c1 + 1 = c0) (h2 : ¬ c1 + 1 = c0 + 1) (n : Nat) (hn : (s c1 0).toInt = n) (h10 : n ≤ 10) (hB : ∀ t : jg_H, t c0 0 = s c1 0 → (∀ j, j < n → t (c0 + 1) j = s (c1 + 1) j) → (∀ q j, ¬ (q = c0 ∧ j = 0) → ¬ q = c0 + 1 → t q j = s q j) → B none t) : q_P G (d + 1) 110 [.ref c0, .ref c1] s B := by
  have lp : ∀ (m q : Nat) (x2 : Int32) (t : jg_H), q + m = n → x2.toInt = q → t c0 0 = s c1 0 → (∀ j, j < q → t (c0 + 1) j = s (c1 + 1) j) → (∀ a j, ¬ (a = c0 ∧ j = 0) → ¬ a = c0 + 1 → t a j = s a j) → q_W G d jm_Sections_copyFrom B 10 [some (.ref c0), some (.ref c1), some (.int x2)] [] t := by
    intro m
    induction m with
    | zero =>
      intro q x2 t e1 e2 e3 hs hf
      have e : q = n := by omega
      subst e
      refine t_Sections_copyFrom_10 (d := d) hc0 hc1 x2 ?_ ?_ ?_ ?_ ?_
      · intro _; exact hB t e3 hs hf
      all_goals (intro g; exfalso; rw [e3, i_lt, hn, e2] at g; omega)
    | succ m ih =>
      intro q x2 t e1 e2 e3 hs hf
      have h5 : (x2 + 1).toInt = ((q + 1 : Nat) : Int) := by clear hB hs hf ih e3; ((try simp only [i_lt, i_le, i_eq, i_in, i_cn, Int32.toInt_add, Int32.toInt_sub, Int32.toInt_mul, Int32.toInt_neg, Int32.reduceToInt, Int.bmod_add_bmod, Int.add_bmod_bmod, Int.bmod_sub_bmod, Int.sub_bmod_bmod, Int.bmod_mul_bmod, Int.mul_bmod_bmod, Int.bmod_neg_bmod, Nat.reducePow, Int.reduceBmod, Int.reduceNeg, Int.reduceMul, Int.reduceAdd, Int.reduceSub, not_true_eq_false, not_false_eq_true] at *) <;> (try simp (disch := omega) only [i_bm'] at *) <;> omega)
      have hq : x2.toNatClampNeg = q := by rw [i_cn]; omega
      refine t_Sections_copyFrom_10 (d := d) hc0 hc1 x2 ?_ ?_ ?_ ?_ ?_
      · intro g; exfalso; rw [e3, i_lt, hn, e2] at g; omega
      · intro _ g; exfalso; clear hB hs hf ih e3; ((try simp only [i_lt, i_le, i_eq, i_in, i_cn, Int32.toInt_add, Int32.toInt_sub, Int32.toInt_mul, Int32.toInt_neg, Int32.reduceToInt, Int.bmod_add_bmod, Int.add_bmod_bmod, Int.bmod_sub_bmod, Int.sub_bmod_bmod, Int.bmod_mul_bmod, Int.mul_bmod_bmod, Int.bmod_neg_bmod, Nat.reducePow, Int.reduceBmod, Int.reduceNeg, Int.reduceMul, Int.reduceAdd, Int.reduceSub, not_true_eq_false, not_false_eq_true] at *) <;> (try simp (disch := omega) only [i_bm'] at *) <;> omega)
      · intros; rw [i_in]; omega
      · intros; rw [i_in]; omega
      · intro _ _ s1 e
        rw [hq, hf (c1 + 1) q (fun e => h1 e.1) h2] at e
        subst e
        refine ih (q + 1) _ _ (by omega) h5 (by rw [u_c (by omega)]; exact e3) (fun j hj => ?_) (fun a j ha ha' => ?_)
        · by_cases e : j = q
          · rw [e, u_hit]
          · rw [u_j e]; exact hs j (by omega)
        · rw [u_c ha']; exact hf a j ha ha'
  refine t_Sections_copyFrom (d := d) hc0 hc1 ?_
  intro s1 e
  subst e
  exact lp n 0 0 _ (by omega) (by decide) (by rw [u_hit]) (fun j hj => absurd hj (Nat.not_lt_zero j)) (fun a j ha _ => u_r (fun e e' => ha ⟨e, e'⟩))
/-- the cells that a step of foreseeing changes -/
def fz (D : Nat) (s t : jg_H) : Prop := ∀ c j, ¬ c = 80 + 2 * D → ¬ c = 80 + 2 * D + 1 → ¬ c = 73 + D → ¬ c = 79 → ¬ c = 120 → ¬ c = 121 → t c j = s c j
theorem fz_0 {D : Nat} (hD : D < 6) {s t : jg_H} (h : fz D s t) : f_only 0 s t := by
  have g0 : ∀ x, 71 ≤ x → x < 92 → ∀ j, g_of x j = 0 := by
    intro x h1 h2 j
    unfold g_of
    rw [if_neg (by omega), if_neg (by omega), if_neg (by omega), if_neg (by omega), if_neg (by omega), if_neg (by omega), if_neg (by omega), if_neg (by omega), if_pos h2]
  intro c j hg
  refine h c j ?_ ?_ ?_ ?_ ?_ ?_
  · intro e; exact hg (g0 c (by omega) (by omega) j)
  · intro e; exact hg (g0 c (by omega) (by omega) j)
  · intro e; exact hg (g0 c (by omega) (by omega) j)
  · intro e; exact hg (g0 c (by omega) (by omega) j)
  · rintro rfl; exact hg rfl
  · rintro rfl; exact hg rfl
set_option maxRecDepth 20000 in
theorem sp_C_goesOn {G : jv_X} {d : Nat} {B : Option Value → jg_H → Prop} {s : jg_H} (n : Nat) (hn : (s 66 0).toInt = n) (h5 : n ≤ 5) (g : Nat × (Nat → Int32) × (Nat → Int32)) (hg : g.1 ≤ 10) (D : Nat) (hD : D < 5) (a : Int32) (ea : a.toInt = D) (hat : cl_at s n D g) (hB : ∀ t : jg_H, cl_at t n (D + 1) g → (∀ c j, ¬ c = 80 + 2 * (D + 1) → ¬ c = 80 + 2 * (D + 1) + 1 → ¬ c = 73 + (D + 1) → t c j = s c j) → B (some (.int 1)) t) : q_P G (d + 2) 112 [.ref 65, .int a] s B := by
  obtain ⟨a1, a2, a3⟩ := hat
  have na : a.toNatClampNeg = D := by rw [i_cn]; omega
  have na1 : (a + 1).toNatClampNeg = D + 1 := by clear hB a1 a2 a3; (try simp only [i_lt, i_le, i_eq, i_in, i_cn, Int32.toInt_add, Int32.toInt_sub, Int32.toInt_mul, Int32.toInt_neg, Int32.reduceToInt, Int.bmod_add_bmod, Int.add_bmod_bmod, Int.bmod_sub_bmod, Int.sub_bmod_bmod, Int.bmod_mul_bmod, Int.mul_bmod_bmod, Int.bmod_neg_bmod, Nat.reducePow, Int.reduceBmod, Int.reduceNeg, Int.reduceMul, Int.reduceAdd, Int.reduceSub, not_true_eq_false, not_false_eq_true] at *) <;> (try simp (disch := omega) only [i_bm'] at *); omega
  refine t_Foresight_goesOn (d := d + 1) a ?_ ?_ ?_ ?_ ?_
  · intro g; exfalso; clear hB a1 a2 a3; ((try simp only [i_lt, i_le, i_eq, i_in, i_cn, Int32.toInt_add, Int32.toInt_sub, Int32.toInt_mul, Int32.toInt_neg, Int32.reduceToInt, Int.bmod_add_bmod, Int.add_bmod_bmod, Int.bmod_sub_bmod, Int.sub_bmod_bmod, Int.bmod_mul_bmod, Int.mul_bmod_bmod, Int.bmod_neg_bmod, Nat.reducePow, Int.reduceBmod, Int.reduceNeg, Int.reduceMul, Int.reduceAdd, Int.reduceSub, not_true_eq_false, not_false_eq_true] at *) <;> (try simp (disch := omega) only [i_bm'] at *) <;> omega)
  · intros; clear hB a1 a2 a3; ((try simp only [i_lt, i_le, i_eq, i_in, i_cn, Int32.toInt_add, Int32.toInt_sub, Int32.toInt_mul, Int32.toInt_neg, Int32.reduceToInt, Int.bmod_add_bmod, Int.add_bmod_bmod, Int.bmod_sub_bmod, Int.sub_bmod_bmod, Int.bmod_mul_bmod, Int.mul_bmod_bmod, Int.bmod_neg_bmod, Nat.reducePow, Int.reduceBmod, Int.reduceNeg, Int.reduceMul, Int.reduceAdd, Int.reduceSub, not_true_eq_false, not_false_eq_true] at *) <;> (try simp (disch := omega) only [i_bm'] at *) <;> omega)
  · intros; clear hB a1 a2 a3; ((try simp only [i_lt, i_le, i_eq, i_in, i_cn, Int32.toInt_add, Int32.toInt_sub, Int32.toInt_mul, Int32.toInt_neg, Int32.reduceToInt, Int.bmod_add_bmod, Int.add_bmod_bmod, Int.bmod_sub_bmod, Int.sub_bmod_bmod, Int.bmod_mul_bmod, Int.mul_bmod_bmod, Int.bmod_neg_bmod, Nat.reducePow, Int.reduceBmod, Int.reduceNeg, Int.reduceMul, Int.reduceAdd, Int.reduceSub, not_true_eq_false, not_false_eq_true] at *) <;> (try simp (disch := omega) only [i_bm'] at *) <;> omega)
  · intro _ _
    rw [na, na1]
    refine sp_C_copyFrom (d := d) (f_m71 (i := D + 1) (by omega)) (f_m71 (i := D) (by omega)) (by omega) (by omega) g.1 a1 hg ?_
    intro t1 w1 w2 w3
    refine t_Foresight_goesOn_28 (d := d + 1) a ?_
    have lp : ∀ (m q : Nat) (x2 : Int32) (t : jg_H), q + m = n → x2.toInt = q → (∀ j, j < q → t (73 + (D + 1)) j = s (73 + D) j) → (∀ c j, ¬ c = 73 + (D + 1) → t c j = t1 c j) → q_W G (d + 1) jm_Foresight_goesOn B 30 [some (.ref 65), some (.int a), some (.int x2)] [] t := by
      intro m
      induction m with
      | zero =>
        intro q x2 t e1 e2 hs hf
        have e : q = n := by omega
        subst e
        have t66 : t 66 0 = s 66 0 := by rw [hf 66 0 (by omega), w3 66 0 (by omega) (by omega)]
        refine t_Foresight_goesOn_30 (d := d + 1) a x2 ?_ ?_ ?_ ?_ ?_ ?_ ?_
        · intro _
          refine hB t ⟨?_, ?_, ?_⟩ ?_
          · rw [hf _ _ (by omega), w1]; exact a1
          · intro j hj; rw [hf _ _ (by omega), w2 j hj]; exact a2 j hj
          · intro j hj; rw [hs j hj]; exact a3 j hj
          · intro c j h1 h2 h3; rw [hf c j h3]; exact w3 c j (fun e => h1 e.1) h2
        all_goals (intro g; exfalso; rw [t66, i_lt, hn, e2] at g; omega)
      | succ m ih =>
        intro q x2 t e1 e2 hs hf
        have t66 : t 66 0 = s 66 0 := by rw [hf 66 0 (by omega), w3 66 0 (by omega) (by omega)]
        have h5' : (x2 + 1).toInt = ((q + 1 : Nat) : Int) := by clear hB hs hf ih a1 a2 a3 w1 w2 w3; ((try simp only [i_lt, i_le, i_eq, i_in, i_cn, Int32.toInt_add, Int32.toInt_sub, Int32.toInt_mul, Int32.toInt_neg, Int32.reduceToInt, Int.bmod_add_bmod, Int.add_bmod_bmod, Int.bmod_sub_bmod, Int.sub_bmod_bmod, Int.bmod_mul_bmod, Int.mul_bmod_bmod, Int.bmod_neg_bmod, Nat.reducePow, Int.reduceBmod, Int.reduceNeg, Int.reduceMul, Int.reduceAdd, Int.reduceSub, not_true_eq_false, not_false_eq_true] at *) <;> (try simp (disch := omega) only [i_bm'] at *) <;> omega)
        have hq : x2.toNatClampNeg = q := by rw [i_cn]; omega
        refine t_Foresight_goesOn_30 (d := d + 1) a x2 ?_ ?_ ?_ ?_ ?_ ?_ ?_
        · intro g; exfalso; rw [t66, i_lt, hn, e2] at g; omega
        · intro _ g; exfalso; clear hB hs hf ih a1 a2 a3 w1 w2 w3 t66; ((try simp only [i_lt, i_le, i_eq, i_in, i_cn, Int32.toInt_add, Int32.toInt_sub, Int32.toInt_mul, Int32.toInt_neg, Int32.reduceToInt, Int.bmod_add_bmod, Int.add_bmod_bmod, Int.bmod_sub_bmod, Int.sub_bmod_bmod, Int.bmod_mul_bmod, Int.mul_bmod_bmod, Int.bmod_neg_bmod, Nat.reducePow, Int.reduceBmod, Int.reduceNeg, Int.reduceMul, Int.reduceAdd, Int.reduceSub, not_true_eq_false, not_false_eq_true] at *) <;> (try simp (disch := omega) only [i_bm'] at *) <;> omega)
        · intros; clear hB hs hf ih a1 a2 a3 w1 w2 w3; ((try simp only [i_lt, i_le, i_eq, i_in, i_cn, Int32.toInt_add, Int32.toInt_sub, Int32.toInt_mul, Int32.toInt_neg, Int32.reduceToInt, Int.bmod_add_bmod, Int.add_bmod_bmod, Int.bmod_sub_bmod, Int.sub_bmod_bmod, Int.bmod_mul_bmod, Int.mul_bmod_bmod, Int.bmod_neg_bmod, Nat.reducePow, Int.reduceBmod, Int.reduceNeg, Int.reduceMul, Int.reduceAdd, Int.reduceSub, not_true_eq_false, not_false_eq_true] at *) <;> (try simp (disch := omega) only [i_bm'] at *) <;> omega)
        · intros; clear hB hs hf ih a1 a2 a3 w1 w2 w3; ((try simp only [i_lt, i_le, i_eq, i_in, i_cn, Int32.toInt_add, Int32.toInt_sub, Int32.toInt_mul, Int32.toInt_neg, Int32.reduceToInt, Int.bmod_add_bmod, Int.add_bmod_bmod, Int.bmod_sub_bmod, Int.sub_bmod_bmod, Int.bmod_mul_bmod, Int.mul_bmod_bmod, Int.bmod_neg_bmod, Nat.reducePow, Int.reduceBmod, Int.reduceNeg, Int.reduceMul, Int.reduceAdd, Int.reduceSub, not_true_eq_false, not_false_eq_true] at *) <;> (try simp (disch := omega) only [i_bm'] at *) <;> omega)
        · intros; rw [i_in]; omega
        · intros; rw [i_in]; omega
        · intro _ _ s1 e
          rw [hq, na, na1, hf (73 + D) q (by omega), w3 (73 + D) q (by omega) (by omega)] at e
          subst e
          refine ih (q + 1) _ _ (by omega) h5' (fun j hj => ?_) (fun c j hc => ?_)
          · by_cases e : j = q
            · rw [e, u_hit]
            · rw [u_j e]; exact hs j (by omega)
          · rw [u_c hc]; exact hf c j hc
    exact lp n 0 0 t1 (by omega) (by decide) (fun j hj => absurd hj (Nat.not_lt_zero j)) (fun _ _ _ => rfl)
  · intro _ g; exfalso; clear hB a1 a2 a3; ((try simp only [i_lt, i_le, i_eq, i_in, i_cn, Int32.toInt_add, Int32.toInt_sub, Int32.toInt_mul, Int32.toInt_neg, Int32.reduceToInt, Int.bmod_add_bmod, Int.add_bmod_bmod, Int.bmod_sub_bmod, Int.sub_bmod_bmod, Int.bmod_mul_bmod, Int.mul_bmod_bmod, Int.bmod_neg_bmod, Nat.reducePow, Int.reduceBmod, Int.reduceNeg, Int.reduceMul, Int.reduceAdd, Int.reduceSub, not_true_eq_false, not_false_eq_true] at *) <;> (try simp (disch := omega) only [i_bm'] at *) <;> omega)
theorem sp_C_canChange {G : jv_X} {d : Nat} {B : Option Value → jg_H → Prop} {s : jg_H} {c : Nat} (hc : f_8 c) (n : Nat) (hn : (s c 0).toInt = n) (k pl : Int32) (h0 : ¬ x_can n k pl → B (some (.int 0)) s) (h1 : x_can n k pl → B (some (.int 1)) s) : q_P G (d + 1) 55 [.ref c, .int k, .int pl] s B := by
  unfold x_can at h0 h1
  refine t_Sections_canChange (d := d) hc k pl ?_ ?_ ?_ ?_ ?_ ?_
  · intro g; refine h0 ?_; clear h0 h1; ((try simp only [i_lt, i_le, i_eq, i_in, i_cn, Int32.toInt_add, Int32.toInt_sub, Int32.toInt_mul, Int32.toInt_neg, Int32.reduceToInt, Int.bmod_add_bmod, Int.add_bmod_bmod, Int.bmod_sub_bmod, Int.sub_bmod_bmod, Int.bmod_mul_bmod, Int.mul_bmod_bmod, Int.bmod_neg_bmod, Nat.reducePow, Int.reduceBmod, Int.reduceNeg, Int.reduceMul, Int.reduceAdd, Int.reduceSub, not_true_eq_false, not_false_eq_true] at *) <;> (try simp (disch := omega) only [i_bm'] at *) <;> omega)
  · intro g g' g''; refine h0 ?_; clear h0 h1; ((try simp only [i_lt, i_le, i_eq, i_in, i_cn, Int32.toInt_add, Int32.toInt_sub, Int32.toInt_mul, Int32.toInt_neg, Int32.reduceToInt, Int.bmod_add_bmod, Int.add_bmod_bmod, Int.bmod_sub_bmod, Int.sub_bmod_bmod, Int.bmod_mul_bmod, Int.mul_bmod_bmod, Int.bmod_neg_bmod, Nat.reducePow, Int.reduceBmod, Int.reduceNeg, Int.reduceMul, Int.reduceAdd, Int.reduceSub, not_true_eq_false, not_false_eq_true] at *) <;> (try simp (disch := omega) only [i_bm'] at *) <;> omega)
  · intro g g' g''; refine h1 ?_; clear h0 h1; ((try simp only [i_lt, i_le, i_eq, i_in, i_cn, Int32.toInt_add, Int32.toInt_sub, Int32.toInt_mul, Int32.toInt_neg, Int32.reduceToInt, Int.bmod_add_bmod, Int.add_bmod_bmod, Int.bmod_sub_bmod, Int.sub_bmod_bmod, Int.bmod_mul_bmod, Int.mul_bmod_bmod, Int.bmod_neg_bmod, Nat.reducePow, Int.reduceBmod, Int.reduceNeg, Int.reduceMul, Int.reduceAdd, Int.reduceSub, not_true_eq_false, not_false_eq_true] at *) <;> (try simp (disch := omega) only [i_bm'] at *) <;> omega)
  · intro g g' g''; refine h0 ?_; clear h0 h1; ((try simp only [i_lt, i_le, i_eq, i_in, i_cn, Int32.toInt_add, Int32.toInt_sub, Int32.toInt_mul, Int32.toInt_neg, Int32.reduceToInt, Int.bmod_add_bmod, Int.add_bmod_bmod, Int.bmod_sub_bmod, Int.sub_bmod_bmod, Int.bmod_mul_bmod, Int.mul_bmod_bmod, Int.bmod_neg_bmod, Nat.reducePow, Int.reduceBmod, Int.reduceNeg, Int.reduceMul, Int.reduceAdd, Int.reduceSub, not_true_eq_false, not_false_eq_true] at *) <;> (try simp (disch := omega) only [i_bm'] at *) <;> omega)
  · intro g g' g'' g3; refine h0 ?_; clear h0 h1; ((try simp only [i_lt, i_le, i_eq, i_in, i_cn, Int32.toInt_add, Int32.toInt_sub, Int32.toInt_mul, Int32.toInt_neg, Int32.reduceToInt, Int.bmod_add_bmod, Int.add_bmod_bmod, Int.bmod_sub_bmod, Int.sub_bmod_bmod, Int.bmod_mul_bmod, Int.mul_bmod_bmod, Int.bmod_neg_bmod, Nat.reducePow, Int.reduceBmod, Int.reduceNeg, Int.reduceMul, Int.reduceAdd, Int.reduceSub, not_true_eq_false, not_false_eq_true] at *) <;> (try simp (disch := omega) only [i_bm'] at *) <;> omega)
  · intro g g' g'' g3; refine h1 ?_; clear h0 h1; ((try simp only [i_lt, i_le, i_eq, i_in, i_cn, Int32.toInt_add, Int32.toInt_sub, Int32.toInt_mul, Int32.toInt_neg, Int32.reduceToInt, Int.bmod_add_bmod, Int.add_bmod_bmod, Int.bmod_sub_bmod, Int.sub_bmod_bmod, Int.bmod_mul_bmod, Int.mul_bmod_bmod, Int.bmod_neg_bmod, Nat.reducePow, Int.reduceBmod, Int.reduceNeg, Int.reduceMul, Int.reduceAdd, Int.reduceSub, not_true_eq_false, not_false_eq_true] at *) <;> (try simp (disch := omega) only [i_bm'] at *) <;> omega)
set_option maxRecDepth 20000 in
theorem sp_C_fone {G : jv_X} {d : Nat} {B : Option Value → jg_H → Prop} {s : jg_H} (hI : Inv s) (n : Nat) (hn : (s 146 19).toInt = n) (g : Nat × (Nat → Int32) × (Nat → Int32)) (hg : fs_ok g) (D : Nat) (hD : D < 5) (i : Nat) (hi : i < n) (a1 a2 : Int32) (e1 : a1.toInt = D) (e2 : a2.toInt = i) (hat : cl_at s n D g) (hB : ∀ t : jg_H, cl_at t n (D + 1) (fs_step s g i) → fz (D + 1) s t → B none t) : q_P G (d + 6) 111 [.ref 0, .int a1, .int a2] s B := by
  obtain ⟨t1, t2, t3, t4, t5, t6⟩ := hI.2.2.2.2.1
  obtain ⟨k1, k2, k3, k4, k5, k6, k7, k8⟩ := t6 i (by omega)
  have x4 := hI.2.2.2.2.2.1.2.2.2.1
  have x5 := hI.2.2.2.2.2.1.2.2.2.2.1
  have x6 := hI.2.2.2.2.2.1.2.2.2.2.2.1
  have n66 : (s 66 0).toInt = n := by rw [t1]; exact hn
  have n5 : n ≤ 5 := by omega
  have na2 : a2.toNatClampNeg = i := by rw [i_cn]; omega
  have na1 : (a1 + 1).toNatClampNeg = D + 1 := by clear hB hat t6 k8 hI hg; (try simp only [i_lt, i_le, i_eq, i_in, i_cn, Int32.toInt_add, Int32.toInt_sub, Int32.toInt_mul, Int32.toInt_neg, Int32.reduceToInt, Int.bmod_add_bmod, Int.add_bmod_bmod, Int.bmod_sub_bmod, Int.sub_bmod_bmod, Int.bmod_mul_bmod, Int.mul_bmod_bmod, Int.bmod_neg_bmod, Nat.reducePow, Int.reduceBmod, Int.reduceNeg, Int.reduceMul, Int.reduceAdd, Int.reduceSub, not_true_eq_false, not_false_eq_true] at *) <;> (try simp (disch := omega) only [i_bm'] at *); omega
  have h6 : ¬ s 172 i = 6 := fun e => by rw [e] at k3; exact absurd k3 (by decide)
  have hw12 : s 172 i = 1 ∨ s 70 i = s 174 i := by
    by_cases h : s 172 i = 1
    · exact Or.inl h
    · exact Or.inr (k8 h).1
  have hw : (s 172 i).toInt = 2 ∨ (s 172 i).toInt = 3 → 1 ≤ (s 70 i).toInt ∧ (s 70 i).toInt ≤ 60 := by
    intro h
    have h1 : ¬ s 172 i = 1 := fun e => by
      have : (s 172 i).toInt = 1 := by rw [e]; decide
      omega
    rw [(k8 h1).1]; exact (k8 h1).2
  obtain ⟨g10, gR⟩ := hg
  refine t2_C_foreseeOne (d := d + 4) a1 a2 ?_ ?_ ?_ ?_
  · intro g; exfalso; rw [i_lt, e2] at g; have : (0 : Int32).toInt = 0 := rfl; omega
  · intro _ g; exfalso; rw [i_lt, e2, n66] at g; omega
  · intro _ _ g; exfalso; rw [t4, i_lt, e2] at g; have : (5 : Int32).toInt = 5 := rfl; omega
  · intro _ _ _
    refine sp_C_goesOn (d := d + 3) n n66 n5 g g10 D hD a1 e1 hat ?_
    intro u hu hf
    obtain ⟨c1, c2, c3⟩ := hu
    have z1 : fz (D + 1) s u := fun c j p1 p2 p3 _ _ _ => hf c j p1 p2 p3
    have f1 := fz_0 (by omega) z1
    have hIu := Inv_0 hI f1
    have u67 : u 67 i = s 172 i := by rw [hf 67 i (by omega) (by omega) (by omega)]; exact k1
    have u70 : u 70 i = s 70 i := hf 70 i (by omega) (by omega) (by omega)
    refine t2_C_foreseeOne_22 (d := d + 4) a1 a2 1 ?_ ?_ ?_ ?_ ?_ (fun g => absurd g (by decide))
    · intros; rw [i_in]; clear hB hat t6 k8 hI hIu f1 z1 hf c2 c3 gR; (try simp only [i_lt, i_le, i_eq, i_in, i_cn, Int32.toInt_add, Int32.toInt_sub, Int32.toInt_mul, Int32.toInt_neg, Int32.reduceToInt, Int.bmod_add_bmod, Int.add_bmod_bmod, Int.bmod_sub_bmod, Int.sub_bmod_bmod, Int.bmod_mul_bmod, Int.mul_bmod_bmod, Int.bmod_neg_bmod, Nat.reducePow, Int.reduceBmod, Int.reduceNeg, Int.reduceMul, Int.reduceAdd, Int.reduceSub, not_true_eq_false, not_false_eq_true] at *) <;> (try simp (disch := omega) only [i_bm'] at *); omega
    · intros; rw [i_in]; clear hB hat t6 k8 hI hIu f1 z1 hf c2 c3 gR; (try simp only [i_lt, i_le, i_eq, i_in, i_cn, Int32.toInt_add, Int32.toInt_sub, Int32.toInt_mul, Int32.toInt_neg, Int32.reduceToInt, Int.bmod_add_bmod, Int.add_bmod_bmod, Int.bmod_sub_bmod, Int.sub_bmod_bmod, Int.bmod_mul_bmod, Int.mul_bmod_bmod, Int.bmod_neg_bmod, Nat.reducePow, Int.reduceBmod, Int.reduceNeg, Int.reduceMul, Int.reduceAdd, Int.reduceSub, not_true_eq_false, not_false_eq_true] at *) <;> (try simp (disch := omega) only [i_bm'] at *); omega
    · intros; rw [i_in]; omega
    · intros; rw [i_in]; omega
    · intro _
      rw [na1, na2, u67, c3 i hi]
      have h8 := f_m71 (i := D + 1) (by omega)
      have h72 := f_m72 (i := D + 1) (by omega)
      refine sp_C_canChange (d := d + 4) h8 g.1 c1 (s 172 i) (g.2.2 i) ?_ ?_
      · intro hc
        refine t2_C_foreseeOne_79 (d := d + 4) a1 a2 h8 h72 _ _ 0 (fun g => absurd rfl g) ?_
        intro _
        refine hB u ?_ z1
        rw [fs_step_n (Or.inl hc)]
        exact ⟨c1, c2, c3⟩
      · intro hc
        refine t2_C_foreseeOne_79 (d := d + 4) a1 a2 h8 h72 _ _ 1 ?_ (fun g => absurd g (by decide))
        intro _
        have u0 : u 146 0 = s 146 0 := f1 146 0 (by decide : ¬ (1 : Nat) = 0)
        have b2 := hI.1.2.1
        refine sp_C_tally (d := d) hIu.1 f_79 (fun j => (by decide : ¬ (0 : Nat) = 1)) (by decide) h8 (by omega) (by omega) f_66 (fun x hx => by omega) a2 (g.2.2 i) (by omega) (by rw [hf 66 0 (by omega) (by omega) (by omega), n66]; omega) (by rw [hf 66 1 (by omega) (by omega) (by omega), t4]; show a2.toInt < 5; omega) (by omega) g.1 c1 g10 g.2.1 c2 gR (s 172 i) (s 70 i) (u 68 i) (by rw [na2]; exact u67) (by rw [na2]; exact u70) (by rw [na2]) (by omega) (by omega) hw (fun e => absurd e (by omega)) (s 146 0).toInt.toNat (by rw [u0]; omega) ?_
        intro v w1 w2 w3 w4
        have zv : fz (D + 1) s v := fun c j p1 p2 p3 p4 p5 p6 => by rw [w1 c j (fun e => p4 e.1)]; exact hf c j p1 p2 p3
        have ev : (fun A => x_vt u A g.1 g.2.1 (s 172 i) (g.2.2 i) (s 70 i) (u 68 i)) = fs_V s g i := by
          funext A
          unfold fs_V
          rw [x_vt_mo (mo_0 f1)]
          exact x_vt_eq s A g.1 g.2.1 (s 172 i) (g.2.2 i) (s 70 i) (s 174 i) (u 68 i) 0 h6 hw12
        rw [ev] at w2 w3
        refine t2_C_foreseeOne_109 (d := d + 4) a1 a2 h8 h72 _ _ ?_
        intro s1 q1 s2 q2 s3 q3 s4 q4 s5 q5
        have f5 : ∀ c j, ¬ c = 120 → s5 c j = v c j := fun c j h => by rw [q5, u_c h, q4, u_c h, q3, u_c h, q2, u_c h, q1, u_c h]
        have z5 : fz (D + 1) s s5 := fun c j p1 p2 p3 p4 p5 p6 => by rw [f5 c j p5]; exact zv c j p1 p2 p3 p4 p5 p6
        have f05 := fz_0 (by omega) z5
        have e14 : s5 146 14 = s 146 14 := f05 146 14 (by decide : ¬ (6 : Nat) = 0)
        rw [f05 0 12 (by decide : ¬ (6 : Nat) = 0), x4]
        refine sp_C_comesTo (d := d + 2) (Inv_0 hI f05) (s 146 15) 2 x5 (by rw [e14]; exact x6) (by decide) (by decide) (s 172 i) 0 0 (f_ct (fs_V s g i) 1 (s 146 0).toInt.toNat) (f_ct (fs_V s g i) 2 (s 146 0).toInt.toNat) ?_ ?_ ?_ ?_ ?_ ?_
        · rw [q5, u_j (by decide), q4, u_j (by decide), q3, u_j (by decide), q2, u_j (by decide), q1, u_hit]
        · rw [q5, u_j (by decide), q4, u_j (by decide), q3, u_j (by decide), q2, u_hit]
        · rw [q5, u_j (by decide), q4, u_j (by decide), q3, u_hit]
        · rw [q5, u_j (by decide), q4, u_hit, w2]
        · rw [q5, u_hit, w3]
        · intro t ht
          rw [x_v_fr f05]
          have hP : x_v s (s 146 15).toNatClampNeg (2 : Int32).toNatClampNeg (s 172 i) 0 0 (f_ct (fs_V s g i) 1 (s 146 0).toInt.toNat) (f_ct (fs_V s g i) 2 (s 146 0).toInt.toNat) = fs_P s g i := rfl
          rw [hP]
          have zt : fz (D + 1) s t := fun c j p1 p2 p3 p4 p5 p6 => by rw [ht c j p5 p6]; exact z5 c j p1 p2 p3 p4 p5 p6
          have back : ∀ c j, ¬ c = 79 → ¬ c = 120 → ¬ c = 121 → t c j = u c j := fun c j p4 p5 p6 => by
            rw [ht c j p5 p6, f5 c j p5, w1 c j (fun e => p4 e.1)]
          have d1 : (t (80 + 2 * (D + 1)) 0).toInt = g.1 := by rw [back _ _ (by omega) (by omega) (by omega)]; exact c1
          have d2 : ∀ j, j < g.1 → t (80 + 2 * (D + 1) + 1) j = g.2.1 j := fun j hj => by rw [back _ _ (by omega) (by omega) (by omega)]; exact c2 j hj
          have d3 : ∀ j, j < n → t (73 + (D + 1)) j = g.2.2 j := fun j hj => by rw [back _ _ (by omega) (by omega) (by omega)]; exact c3 j hj
          refine t2_C_foreseeOne_139 (d := d + 4) a1 a2 h8 h72 _ _ _ ?_ ?_ ?_
          · intros; rw [i_in]; omega
          · intro hp
            rw [na2, back 70 i (by decide) (by decide) (by decide), u70]
            refine sp_C_change (d := d + 3) h8 g.1 d1 g10 g.2.1 d2 (s 172 i) (g.2.2 i) (s 70 i) ⟨k2, k3⟩ (fun h => absurd hc h) ?_
            intro _ t' y1 y2 y3
            refine t2_C_foreseeOne_163 (d := d + 4) a1 a2 h8 h72 _ _ 1 ?_
            have t660 : t' 66 0 = s 66 0 := by rw [y3 66 0 (by omega) (by omega), back 66 0 (by decide) (by decide) (by decide), hf 66 0 (by omega) (by omega) (by omega)]
            rw [t660]
            refine sp_C_settle (d := d + 4) h72 (by decide) n n5 (s 66 0) (s 172 i) (g.2.2 i) n66 ?_
            intro t'' v1 v2
            refine t2_C_foreseeOne_183 (d := d + 4) a1 a2 h8 h72 _ _ ?_
            refine hB t'' ?_ ?_
            · rw [fs_step_y hc hp]
              refine ⟨?_, ?_, ?_⟩
              · rw [v2 _ _ (by omega)]; exact y1
              · intro j hj
                rw [v2 _ _ (by omega), y2 j hj]
                exact congrFun (r_R_wd _ _ _ _ _ hw12) j
              · intro j hj
                rw [v1 j hj, y3 _ _ (by omega) (by omega), d3 j hj]
            · intro c j p1 p2 p3 p4 p5 p6
              rw [v2 c j (fun e => p3 e.1), y3 c j (fun e => p1 e.1) p2]
              exact zt c j p1 p2 p3 p4 p5 p6
          · intro hp
            refine hB t ?_ zt
            rw [fs_step_n (Or.inr hp)]
            exact ⟨d1, d2, d3⟩
