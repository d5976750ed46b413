/-! an order is foreseen from its start -/
def fs_0 (s : jg_H) : Nat × (Nat → Int32) × (Nat → Int32) := (fl_n s, fl_R s, s 173)
def fs_run (s : jg_H) : Nat → Nat → (Nat × (Nat → Int32) × (Nat → Int32)) → (Nat × (Nat → Int32) × (Nat → Int32))
  | 0, _, g => g
  | m + 1, r, g => fs_run s m (r / 6) (fs_step s g (r % 6))
theorem fs_0_ok {s : jg_H} (hI : Inv s) : fs_ok (fs_0 s) := fl_b hI
theorem fs_run_ok {s : jg_H} (ht : tl_ok s) (n : Nat) (hn : (s 146 19).toInt = n) : ∀ (m r S : Nat) (g : Nat × (Nat → Int32) × (Nat → Int32)), o_C n m r S = true → fs_ok g → fs_ok (fs_run s m r g)
  | 0, _, _, g, _, hg => hg
  | m + 1, r, S, g, ho, hg => by
    unfold o_C at ho
    by_cases h : n ≤ r % 6
    · rw [if_pos h] at ho; exact absurd ho (by decide)
    · rw [if_neg h] at ho
      by_cases h' : S.testBit (r % 6) = true
      · rw [if_pos h'] at ho; exact absurd ho (by decide)
      · rw [if_neg h'] at ho
        exact fs_run_ok ht n hn m (r / 6) _ _ ho (fs_ok_step ht hg (by omega))
theorem fs_0_mo {s t : jg_H} (h : f_mo s t) : fs_0 t = fs_0 s := by
  have e : t 173 = s 173 := funext fun j => h 173 j (by decide) (by decide : ¬ (5 : Nat) = 0)
  unfold fs_0
  rw [(fl_mo h).1, (fl_mo h).2, e]
theorem fs_run_mo {s t : jg_H} (h : f_mo s t) : ∀ (m r : Nat) (g : Nat × (Nat → Int32) × (Nat → Int32)), fs_run t m r g = fs_run s m r g
  | 0, _, _ => rfl
  | m + 1, r, g => by
    unfold fs_run
    rw [fs_mo h, fs_run_mo h m]
theorem tl_mo {s t : jg_H} (h : f_mo s t) (ht : tl_ok s) : tl_ok t := by
  have e1 : t 172 = s 172 := funext fun j => h 172 j (by decide) (by decide : ¬ (5 : Nat) = 0)
  have e2 : t 174 = s 174 := funext fun j => h 174 j (by decide) (by decide : ¬ (5 : Nat) = 0)
  have e3 : t 146 19 = s 146 19 := h 146 19 (by decide) (by decide : ¬ (5 : Nat) = 0)
  unfold tl_ok
  rw [e1, e2, e3]
  exact ht
set_option maxRecDepth 20000 in
theorem sp_C_begin {G : jv_X} {d : Nat} {B : Option Value → jg_H → Prop} {s : jg_H} (hI : Inv s) (n : Nat) (hn : (s 146 19).toInt = n) (c : Nat) (hc : fl_c s c) (hB : ∀ t : jg_H, t 65 4 = -1 → cl_at t n 0 (fs_0 s) → (∀ a j, ¬ (a = 65 ∧ j = 4) → ¬ a = 80 → ¬ a = 81 → ¬ a = 73 → t a j = s a j) → B none t) : q_P G (d + 2) 109 [.ref 65, .ref c] s B := by
  obtain ⟨t1, t2, t3, t4, t5, t6⟩ := hI.2.2.2.2.1
  obtain ⟨f1, f2, f3, f4, f5, f6⟩ := hc
  obtain ⟨q1, q2⟩ := fl_b hI
  refine t_Foresight_begin (d := d + 1) f1 ?_
  intro s1 e
  have g1 : ∀ a j, ¬ (a = 65 ∧ j = 4) → s1 a j = s a j := fun a j h => by rw [e]; exact u_r (fun x y => h ⟨x, y⟩)
  have g65 : s1 65 4 = -1 := by rw [e, u_hit]
  refine sp_C_copyFrom (d := d) (f_m71 (i := 0) (by decide)) f1 (by omega) (by omega) (fl_n s) (by rw [g1 c 0 (by omega)]; exact f2) q1 ?_
  intro u w1 w2 w3
  refine t_Foresight_begin_15 (d := d + 1) f1 ?_
  have lp : ∀ (m q : Nat) (x2 : Int32) (t : jg_H), q + m = n → x2.toInt = q → (∀ j, j < q → t 73 j = s 173 j) → (∀ a j, ¬ a = 73 → t a j = u a j) → q_W G (d + 1) jm_Foresight_begin B 17 [some (.ref 65), some (.ref c), some (.int x2)] [] t := by
    intro m
    induction m with
    | zero =>
      intro q x2 t e1 e2 hs hf
      have eq : q = n := by omega
      subst eq
      have t66 : t 66 0 = s 146 19 := by rw [hf 66 0 (by decide), w3 66 0 (by omega) (by omega), g1 66 0 (by omega)]; exact t1
      refine t_Foresight_begin_17 (d := d + 1) f1 x2 ?_ ?_ ?_ ?_ ?_
      · intro _
        refine hB t ?_ ⟨?_, ?_, ?_⟩ ?_
        · rw [hf 65 4 (by decide), w3 65 4 (by omega) (by omega)]; exact g65
        · rw [hf 80 0 (by decide)]
          have : (u 80 0).toInt = (s1 c 0).toInt := by rw [← w1]
          rw [this, g1 c 0 (by omega)]; exact f2
        · intro j hj
          rw [hf _ _ (by omega)]
          have := w2 j hj
          rw [this, g1 (c + 1) j (by omega)]; exact f3 j hj
        · intro j hj; exact hs j hj
        · intro a j h1 h2 h3 h4
          rw [hf a j h4, w3 a j (fun x => h2 x.1) h3]
          exact g1 a j h1
      all_goals (intro g; exfalso; rw [t66, i_lt, hn, e2] at g; omega)
    | succ m ih =>
      intro q x2 t e1 e2 hs hf
      have t66 : t 66 0 = s 146 19 := by rw [hf 66 0 (by decide), w3 66 0 (by omega) (by omega), g1 66 0 (by omega)]; exact t1
      have h5' : (x2 + 1).toInt = ((q + 1 : Nat) : Int) := by clear hB hs hf ih w1 w2 w3 g1 t6 hI q2 f3; ((try simp only [i_lt, i_le, i_eq, i_in, i_cn, Int32.toInt_add, Int32.toInt_sub, Int32.toInt_mul, Int32.toInt_neg, Int32.reduceToInt, Int.bmod_add_bmod, Int.add_bmod_bmod, Int.bmod_sub_bmod, Int.sub_bmod_bmod, Int.bmod_mul_bmod, Int.mul_bmod_bmod, Int.bmod_neg_bmod, Nat.reducePow, Int.reduceBmod, Int.reduceNeg, Int.reduceMul, Int.reduceAdd, Int.reduceSub, not_true_eq_false, not_false_eq_true] at *) <;> (try simp (disch := omega) only [i_bm'] at *) <;> omega)
      have hq : x2.toNatClampNeg = q := by rw [i_cn]; omega
      refine t_Foresight_begin_17 (d := d + 1) f1 x2 ?_ ?_ ?_ ?_ ?_
      · intro g; exfalso; rw [t66, i_lt, hn, e2] at g; omega
      · intro _ g; exfalso; rw [i_lt, e2] at g; have : (5 : Int32).toInt = 5 := rfl; omega
      · intros; rw [i_in]; omega
      · intros; rw [i_in]; omega
      · intro _ _ s2 e2'
        rw [hq, hf 69 q (by decide), w3 69 q (by omega) (by omega), g1 69 q (by omega), (t6 q (by omega)).2.2.2.1] at e2'
        subst e2'
        refine ih (q + 1) _ _ (by omega) h5' (fun j hj => ?_) (fun a j ha => ?_)
        · by_cases e : j = q
          · rw [e, u_hit]
          · rw [u_j e]; exact hs j (by omega)
        · rw [u_c ha]; exact hf a j ha
  exact lp n 0 0 u (by omega) (by decide) (fun j hj => absurd hj (Nat.not_lt_zero j)) (fun _ _ _ => rfl)
theorem sp_C_behind {G : jv_X} {d : Nat} {B : Option Value → jg_H → Prop} {s : jg_H} (hm : I_mem s) (n : Nat) (hn : (s 66 0).toInt = n) (h5 : n ≤ 5) {A : Nat} (hA : A < 15) (g : Nat × (Nat → Int32) × (Nat → Int32)) (hg : fs_ok g) (hat : cl_at s n n g) (hB : B (some (.int (x_sum s A g.1 g.2.1))) s) : q_P G (d + 3) 113 [.ref 65, .ref (2 + 2 * A)] s B := by
  obtain ⟨a1, a2, a3⟩ := hat
  have nn : (s 66 0).toNatClampNeg = n := by rw [i_cn]; omega
  have h5' := f_m1 (i := A) hA
  refine t_Foresight_worthBehindAll (d := d + 2) h5' ?_ ?_ ?_
  · intro g; exfalso; rw [i_lt, hn] at g; have : (0 : Int32).toInt = 0 := rfl; omega
  · intro _ g; exfalso; rw [i_lt, hn] at g; have : (6 : Int32).toInt = 6 := rfl; omega
  · intro _ _
    rw [nn]
    refine sp_C_worth (d := d) (f_m71 (i := n) (by omega)) h5' g.1 a1 hg.1 (fun j hj => by rw [a2 j hj]; have := hg.2 j hj; omega) ?_
    rw [sum_C hm hA (80 + 2 * n) g.1 g.2.1 a2 hg.2]
    exact t_Foresight_worthBehindAll_41 (d := d + 2) h5' _ hB
/-! the reference's side -/
def md_at (s t : jg_H) (n : Nat) (g : Nat × (Nat → Int32) × (Nat → Int32)) : Prop := (t 146 53).toInt = g.1 ∧ (∀ j, j < g.1 → t 171 j = g.2.1 j) ∧ ∀ j, j < n → t 157 (8 + j) = s 172 j ∧ t 160 (8 + j) = s 174 j ∧ f_pl (s 172 j) (g.2.2 j) (t 159 (8 + j)) (t 161 (8 + j)) (t 146 53)
def f_fz (s t : jg_H) : Prop := ∀ c j, ¬ c = 170 → ¬ c = 171 → (c = 146 → ¬ j = 48 ∧ ¬ j = 49 ∧ ¬ j = 50 ∧ ¬ j = 51 ∧ ¬ j = 52 ∧ ¬ j = 53) → (157 ≤ c → c < 162 → j < 8) → t c j = s c j
theorem mfz_0 {s t : jg_H} (h : f_fz s t) : f_only 0 s t := fun c j hg => h c j (by rintro rfl; exact hg rfl) (by rintro rfl; exact hg rfl) (by rintro rfl; exact ⟨by rintro rfl; exact hg rfl, by rintro rfl; exact hg rfl, by rintro rfl; exact hg rfl, by rintro rfl; exact hg rfl, by rintro rfl; exact hg rfl, by rintro rfl; exact hg rfl⟩) (fun h1 h2 => by
  by_cases e : j < 8
  · exact e
  · exact absurd (g_4' h1 h2 e) hg)
set_option maxRecDepth 20000 in
theorem sp_M_fone {G : jv_X} {d : Nat} {B : Option Value → jg_H → Prop} {s u : jg_H} (hI : Inv s) (hm : f_mo s u) (n : Nat) (hn : (s 146 19).toInt = n) (g : Nat × (Nat → Int32) × (Nat → Int32)) (hg : fs_ok g) (i : Nat) (hi : i < n) (hat : md_at s u n g) (x1 x2 x3 : Int32) (hx : (x2 - x2 / 6 * 6).toInt = i) (h3 : x3 < u 146 19) {o4 o5 o6 o7 : Option Value} (ho4 : f_n o4 = true) (ho5 : f_n o5 = true) (ho6 : f_n o6 = true) (ho7 : f_n o7 = true)
    (hB : ∀ (t : jg_H) (p4 p5 p6 p7 : Option Value), f_n p4 = true → f_n p5 = true → f_n p6 = true → f_n p7 = true → md_at s t n (fs_step s g i) → f_fz u t → q_W G (d + 5) jm_M_foresees B 103 [some (.ref 146), some (.int x1), some (.int (x2 / 6)), some (.int (x3 + 1)), p4, p5, p6, p7] [] t) : q_W G (d + 5) jm_M_foresees B 103 [some (.ref 146), some (.int x1), some (.int x2), some (.int x3), o4, o5, o6, o7] [] u := by
  obtain ⟨tl0, tl5, tl⟩ := tl_I hI
  obtain ⟨k13, kw⟩ := tl i (by omega)
  obtain ⟨a1, a2, a3⟩ := hat
  obtain ⟨b1, b2, b3⟩ := a3 i hi
  obtain ⟨g10, gR⟩ := hg
  obtain ⟨x3', x5, x6⟩ := J_x (J_I hI)
  obtain ⟨n0, n15⟩ := J_n (J_I hI)
  have hD := of_n hx
  generalize hDD : x2 - x2 / 6 * 6 = D at *
  have hX : (8 + D).toInt = ((8 + i : Nat) : Int) := by clear hB a2 a3 b1 b2 b3 gR tl kw hI hm hDD; ((try simp only [i_lt, i_le, i_eq, i_in, i_cn, Int32.toInt_add, Int32.toInt_sub, Int32.toInt_mul, Int32.toInt_neg, Int32.reduceToInt, Int.bmod_add_bmod, Int.add_bmod_bmod, Int.bmod_sub_bmod, Int.sub_bmod_bmod, Int.bmod_mul_bmod, Int.mul_bmod_bmod, Int.bmod_neg_bmod, Nat.reducePow, Int.reduceBmod, Int.reduceNeg, Int.reduceMul, Int.reduceAdd, Int.reduceSub, not_true_eq_false, not_false_eq_true] at *) <;> (try simp (disch := omega) only [i_bm'] at *) <;> omega)
  have nX : (8 + D).toNatClampNeg = 8 + i := by rw [i_cn]; omega
  have jX : jv_in (8 + D) 13 = true := by rw [i_in]; omega
  have h6 : ¬ s 172 i = 6 := fun e => by rw [e] at k13; exact absurd k13.2 (by decide)
  have u15 : u 146 15 = s 146 15 := hm 146 15 (by decide) (by decide : ¬ (6 : Nat) = 0)
  have u14 : u 146 14 = s 146 14 := hm 146 14 (by decide) (by decide : ¬ (6 : Nat) = 0)
  have u0 : u 146 0 = s 146 0 := hm 146 0 (by decide) (by decide : ¬ (1 : Nat) = 0)
  have u19 : u 146 19 = s 146 19 := hm 146 19 (by decide) (by decide : ¬ (5 : Nat) = 0)
  have row : ∀ t : jg_H, t 146 53 = u 146 53 → t 171 = u 171 → t 159 (8 + i) = u 159 (8 + i) → t 161 (8 + i) = u 161 (8 + i) → m_row t (8 + i) g.1 g.2.1 (s 172 i) (g.2.2 i) := by
    intro t e1 e2 e3 e4
    refine ⟨by rw [e1]; exact a1, g10, by rw [e2]; exact a2, gR, ?_⟩
    rw [e1, e3, e4]; exact b3
  have ev : (fun A => x_vt u A g.1 g.2.1 (s 172 i) (g.2.2 i) (s 174 i) (u 158 (8 + i))) = fs_V s g i := by
    funext A
    unfold fs_V
    rw [x_vt_mo hm]
    exact x_vt_eq s A g.1 g.2.1 (s 172 i) (g.2.2 i) (s 174 i) (s 174 i) (u 158 (8 + i)) 0 h6 (Or.inr rfl)
  have CNT : ∀ (v : Int32) (B' : Option Value → jg_H → Prop), B' (some (.int (f_ct (fs_V s g i) v (s 146 0).toInt.toNat))) u → q_P G (d + 5) 190 [.ref 146, .int (8 + D), .int v] u B' := by
    intro v B' hb
    refine sp_M_counted (d := d) (s 146 0).toInt.toNat (by rw [u0]; omega) (by omega) (8 + D) v (by omega) (by omega) g.1 g.2.1 (s 172 i) (g.2.2 i) (s 174 i) (u 158 (8 + i)) (by rw [nX]; exact b1) (by rw [nX]; exact b2) (by rw [nX]) (by omega) (by omega) kw (fun e => absurd e (by omega)) (fun _ => by rw [nX]; exact row u rfl rfl rfl rfl) ?_
    rw [ev]
    exact hb
  refine t2_M_foresees_103 (d := d + 5) x1 x2 x3 ho4 ho5 ho6 ho7 (fun g => absurd h3 g) ?_ ?_
  · intro _; rw [hDD]; exact jX
  · intro _
    rw [hDD, nX, b1, u15]
    refine CNT 1 _ ?_
    refine t2_M_foresees_147 (d := d + 5) x1 (x2 / 6) x3 (8 + D) ho5 ho6 ho7 (s 146 15) 2 (s 172 i) 0 0 _ ?_
    refine CNT 2 _ ?_
    refine t2_M_foresees_154 (d := d + 5) x1 (x2 / 6) x3 (8 + D) ho5 ho6 ho7 (s 146 15) 2 (s 172 i) 0 0 _ _ ?_
    refine sp_M_worked (d := d + 2) (J_mo (J_I hI) hm) (s 146 15) 2 (s 172 i) 0 0 _ _ x5 (by rw [u14]; exact x6) (by decide) (by decide) ?_
    intro t ht
    rw [x_v_mo hm]
    have hP : x_v s (s 146 15).toNatClampNeg (2 : Int32).toNatClampNeg (s 172 i) 0 0 (f_ct (fs_V s g i) 1 (s 146 0).toInt.toNat) (f_ct (fs_V s g i) 2 (s 146 0).toInt.toNat) = fs_P s g i := rfl
    rw [hP]
    have q1 : ∀ c, ¬ c = 170 → ¬ c = 146 → t c = u c := fun c h1 h2 => funext fun j => ht c j h1 (fun e => absurd e h2)
    have t53 : t 146 53 = u 146 53 := ht 146 53 (by decide) (by omega)
    have f1 : f_fz u t := fun c j h1 h2 h3 h4 => ht c j h1 (fun e => ⟨(h3 e).1, (h3 e).2.1, (h3 e).2.2.1, (h3 e).2.2.2.1, (h3 e).2.2.2.2.1⟩)
    have AT : md_at s t n g := by
      refine ⟨by rw [t53]; exact a1, fun j hj => by rw [q1 171 (by decide) (by decide)]; exact a2 j hj, fun j hj => ?_⟩
      rw [q1 157 (by decide) (by decide), q1 160 (by decide) (by decide), q1 159 (by decide) (by decide), q1 161 (by decide) (by decide), t53]
      exact a3 j hj
    refine t2_M_foresees_157 (d := d + 5) x1 (x2 / 6) x3 (8 + D) ho5 ho6 ho7 _ ?_ ?_
    · intro hp
      refine hB t _ _ _ _ rfl rfl ho6 ho7 ?_ f1
      rw [fs_step_n (Or.inr hp)]
      exact AT
    · intro hp
      have hrow := row t t53 (q1 171 (by decide) (by decide)) (by rw [q1 159 (by decide) (by decide)]) (by rw [q1 161 (by decide) (by decide)])
      have e157 : t 157 (8 + i) = s 172 i := by rw [q1 157 (by decide) (by decide)]; exact b1
      have e160 : t 160 (8 + i) = s 174 i := by rw [q1 160 (by decide) (by decide)]; exact b2
      rw [← nX] at hrow e157 e160
      refine sp_M_isDoable (d := d + 4) (8 + D) (by omega) (by omega) g.1 g.2.1 (s 172 i) (g.2.2 i) e157 k13 hrow ?_ ?_
      · intro hc
        refine t2_M_foresees_178 (d := d + 5) x1 (x2 / 6) x3 (8 + D) 1 ho6 ho7 0 ?_ (fun e => absurd rfl e)
        intro _
        refine hB t _ _ _ _ rfl rfl ho6 ho7 ?_ f1
        rw [fs_step_n (Or.inl hc)]
        exact AT
      · intro hc
        refine t2_M_foresees_178 (d := d + 5) x1 (x2 / 6) x3 (8 + D) 1 ho6 ho7 1 (fun e => absurd e (by decide)) ?_
        intro _
        refine sp_M_sectionOf (d := d + 4) (8 + D) (by omega) (by omega) g.1 g.2.1 (s 172 i) (g.2.2 i) k13 hrow ?_
        refine t2_M_foresees_187 (d := d + 5) x1 (x2 / 6) x3 (8 + D) 1 ho6 ho7 _ ?_
        refine sp_M_does (d := d + 3) (8 + D) (by omega) (by omega) g.1 g.2.1 (s 172 i) (g.2.2 i) (s 174 i) e157 e160 k13 hrow hc ?_
        intro t2 w1 w2 w3
        refine t2_M_foresees_195 (d := d + 5) x1 (x2 / 6) x3 (8 + D) 1 _ ho7 ?_
        have p2 : ∀ c, ¬ c = 146 → ¬ c = 170 → ¬ c = 171 → t2 c = u c := fun c h1 h2 h3 => funext fun j => by rw [w3 c j (by omega) h3, q1 c h2 h1]
        have t219 : t2 146 19 = s 146 19 := by rw [w3 146 19 (by omega) (by omega), ht 146 19 (by decide) (by omega)]; exact u19
        have f2 : f_fz u t2 := fun c j h1 h2 h3 h4 => by
          rw [w3 c j (fun e => (h3 e.1).2.2.2.2.2 e.2) h2]
          exact f1 c j h1 h2 h3 h4
        have lp : ∀ (m q : Nat) (x7 : Int32) (v : jg_H), q + m = n → x7.toInt = ((8 + q : Nat) : Int) → (∀ j, j < q → v 159 (8 + j) = s_fol (s 172 j) (u 159 (8 + j)) (u 161 (8 + j)) (s 172 i) (g.2.2 i) (u 161 (8 + i))) → (∀ c j, ¬ (c = 159 ∧ 8 ≤ j ∧ j < 8 + q) → v c j = t2 c j) → q_W G (d + 5) jm_M_foresees B 199 [some (.ref 146), some (.int x1), some (.int (x2 / 6)), some (.int x3), some (.int (8 + D)), some (.int 1), some (.int (g.2.2 i)), some (.int x7)] [] v := by
          intro m
          induction m with
          | zero =>
            intro q x7 v e1 e7 hs hf
            have eq : q = n := by omega
            subst eq
            have v19 : v 146 19 = s 146 19 := by rw [hf 146 19 (by omega)]; exact t219
            have v8 : (8 + (s 146 19)).toInt = 8 + (s 146 19).toInt := by clear hB a2 a3 b3 gR tl kw hI hm hDD hs hf row ev CNT AT hrow w1 w2 w3 p2 f2 f1 ht; ((try simp only [i_lt, i_le, i_eq, i_in, i_cn, Int32.toInt_add, Int32.toInt_sub, Int32.toInt_mul, Int32.toInt_neg, Int32.reduceToInt, Int.bmod_add_bmod, Int.add_bmod_bmod, Int.bmod_sub_bmod, Int.sub_bmod_bmod, Int.bmod_mul_bmod, Int.mul_bmod_bmod, Int.bmod_neg_bmod, Nat.reducePow, Int.reduceBmod, Int.reduceNeg, Int.reduceMul, Int.reduceAdd, Int.reduceSub, not_true_eq_false, not_false_eq_true] at *) <;> (try simp (disch := omega) only [i_bm'] at *) <;> omega)
            refine t2_M_foresees_199 (d := d + 5) x1 (x2 / 6) x3 (8 + D) 1 (g.2.2 i) x7 ?_ (fun _ => jX) (fun _ => jX) ?_
            · intro _
              refine hB v _ _ _ _ rfl rfl rfl rfl ?_ ?_
              · rw [fs_step_y hc hp]
                refine ⟨by rw [hf 146 53 (by omega)]; exact w1, fun j hj => by rw [hf 171 j (by omega)]; exact w2 j hj, fun j hj => ?_⟩
                rw [hf 157 _ (by omega), hf 160 _ (by omega), hs j hj, hf 161 _ (by omega), hf 146 53 (by omega), p2 157 (by decide) (by decide) (by decide), p2 160 (by decide) (by decide) (by decide), p2 161 (by decide) (by decide) (by decide)]
                obtain ⟨c1, c2, c3⟩ := a3 j hj
                exact ⟨c1, c2, pl_follow c3 b3 a1 g10 w1 k13 hc⟩
              · intro c j h1 h2 h3 h4
                rw [hf c j (by omega)]
                exact f2 c j h1 h2 h3 h4
            · intro g; exfalso; rw [v19, i_lt, v8, e7] at g; omega
          | succ m ih =>
            intro q x7 v e1 e7 hs hf
            have v19 : v 146 19 = s 146 19 := by rw [hf 146 19 (by omega)]; exact t219
            have v8 : (8 + (s 146 19)).toInt = 8 + (s 146 19).toInt := by clear hB a2 a3 b3 gR tl kw hI hm hDD hs hf ih row ev CNT AT hrow w1 w2 w3 p2 f2 f1 ht; ((try simp only [i_lt, i_le, i_eq, i_in, i_cn, Int32.toInt_add, Int32.toInt_sub, Int32.toInt_mul, Int32.toInt_neg, Int32.reduceToInt, Int.bmod_add_bmod, Int.add_bmod_bmod, Int.bmod_sub_bmod, Int.sub_bmod_bmod, Int.bmod_mul_bmod, Int.mul_bmod_bmod, Int.bmod_neg_bmod, Nat.reducePow, Int.reduceBmod, Int.reduceNeg, Int.reduceMul, Int.reduceAdd, Int.reduceSub, not_true_eq_false, not_false_eq_true] at *) <;> (try simp (disch := omega) only [i_bm'] at *) <;> omega)
            have h7 : (x7 + 1).toInt = ((8 + (q + 1) : Nat) : Int) := by clear hB a2 a3 b3 gR tl kw hI hm hDD hs hf ih row ev CNT AT hrow w1 w2 w3 p2 f2 f1 ht v8; ((try simp only [i_lt, i_le, i_eq, i_in, i_cn, Int32.toInt_add, Int32.toInt_sub, Int32.toInt_mul, Int32.toInt_neg, Int32.reduceToInt, Int.bmod_add_bmod, Int.add_bmod_bmod, Int.bmod_sub_bmod, Int.sub_bmod_bmod, Int.bmod_mul_bmod, Int.mul_bmod_bmod, Int.bmod_neg_bmod, Nat.reducePow, Int.reduceBmod, Int.reduceNeg, Int.reduceMul, Int.reduceAdd, Int.reduceSub, not_true_eq_false, not_false_eq_true] at *) <;> (try simp (disch := omega) only [i_bm'] at *) <;> omega)
            have n7 : x7.toNatClampNeg = 8 + q := by rw [i_cn]; omega
            refine t2_M_foresees_199 (d := d + 5) x1 (x2 / 6) x3 (8 + D) 1 (g.2.2 i) x7 ?_ (fun _ => jX) (fun _ => jX) ?_
            · intro g; exfalso; rw [v19, i_lt, v8, e7] at g; omega
            · intro _
              rw [nX, hf 157 _ (by omega), hf 161 _ (by omega), p2 157 (by decide) (by decide) (by decide), p2 161 (by decide) (by decide) (by decide), b1]
              refine sp_M_follows (d := d + 3) x7 (s 172 i) (g.2.2 i) (u 161 (8 + i)) (by omega) (by omega) k13 ?_
              rw [n7, hf 157 _ (by omega), hf 161 _ (by omega), hf 159 _ (by omega), p2 157 (by decide) (by decide) (by decide), p2 161 (by decide) (by decide) (by decide), p2 159 (by decide) (by decide) (by decide), (a3 q (by omega)).1]
              intro v2 y1 y2
              refine t2_M_foresees_233 (d := d + 5) x1 (x2 / 6) x3 (8 + D) 1 (g.2.2 i) x7 ?_
              refine ih (q + 1) _ v2 (by omega) h7 (fun j hj => ?_) (fun c j h => ?_)
              · by_cases e : j = q
                · rw [e]; exact y1
                · rw [y2 159 _ (by omega)]; exact hs j (by omega)
              · rw [y2 c j (by omega)]
                exact hf c j (by omega)
        exact lp n 0 8 t2 (by omega) (by decide) (fun j hj => absurd hj (Nat.not_lt_zero j)) (fun _ _ _ => rfl)
