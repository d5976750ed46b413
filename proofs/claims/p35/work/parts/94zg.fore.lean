/-! an order is foreseen, on the reference's side and the class's -/
set_option maxRecDepth 20000 in
theorem sp_M_foresees {G : jv_X} {d : Nat} {B : Option Value → jg_H → Prop} {s u : jg_H} (hI : Inv s) (hm : f_mo s u) (n : Nat) (hn : (s 146 19).toInt = n) (hu : 0 ≤ (s 146 13).toInt) (a : Int32) (ha : 0 ≤ a.toInt) (ho : o_C n n a.toInt.toNat 0 = true) (hB : ∀ t : jg_H, md_at s t n (fs_run s n a.toInt.toNat (fs_0 s)) → f_fz u t → B none t) : q_P G (d + 6) 208 [.ref 146, .int a] u B := by
  have u13 := mo_13 hm
  obtain ⟨t1, t2, t3, t4, t5, t6⟩ := hI.2.2.2.2.1
  have e173 : u 173 = s 173 := funext fun j => hm 173 j (by decide) (by decide : ¬ (5 : Nat) = 0)
  have e172 : u 172 = s 172 := funext fun j => hm 172 j (by decide) (by decide : ¬ (5 : Nat) = 0)
  have e174 : u 174 = s 174 := funext fun j => hm 174 j (by decide) (by decide : ¬ (5 : Nat) = 0)
  have u19 : u 146 19 = s 146 19 := hm 146 19 (by decide) (by decide : ¬ (5 : Nat) = 0)
  -- the run behind the start
  have RUN : ∀ (m q r S : Nat) (g : Nat × (Nat → Int32) × (Nat → Int32)) (x2 x3 : Int32) (t : jg_H) (p4 p5 p6 p7 : Option Value), q + m = n → x3.toInt = q → x2.toInt = r → o_C n m r S = true → fs_ok g → md_at s t n g → f_fz u t → fs_run s m r g = fs_run s n a.toInt.toNat (fs_0 s) → f_n p4 = true → f_n p5 = true → f_n p6 = true → f_n p7 = true → q_W G (d + 5) jm_M_foresees B 103 [some (.ref 146), some (.int a), some (.int x2), some (.int x3), p4, p5, p6, p7] [] t := by
    intro m
    induction m with
    | zero =>
      intro q r S g x2 x3 t p4 p5 p6 p7 e1 e3 e2 hoc hg hat hf he h4 h5 h6 h7
      have t19 : t 146 19 = s 146 19 := by rw [hf 146 19 (by decide) (by decide) (by omega) (by omega)]; exact u19
      have nl : ¬ x3 < t 146 19 := by rw [t19, i_lt, hn, e3]; omega
      refine t2_M_foresees_103 (d := d + 5) a x2 x3 h4 h5 h6 h7 ?_ (fun g => absurd g nl) (fun g => absurd g nl)
      intro _
      refine hB t ?_ hf
      rw [← he]
      exact hat
    | succ m ih =>
      intro q r S g x2 x3 t p4 p5 p6 p7 e1 e3 e2 hoc hg hat hf he h4 h5 h6 h7
      have t19 : t 146 19 = s 146 19 := by rw [hf 146 19 (by decide) (by decide) (by omega) (by omega)]; exact u19
      have lt : x3 < t 146 19 := by rw [t19, i_lt, hn, e3]; omega
      obtain ⟨f1, f2⟩ := d6 x2 (by omega)
      have g1 : (x2 / 6).toInt = ((r / 6 : Nat) : Int) := by rw [f1, e2]; omega
      have g2 : (x2 - x2 / 6 * 6).toInt = ((r % 6 : Nat) : Int) := by rw [f2, e2]; omega
      have g3 : (x3 + 1).toInt = ((q + 1 : Nat) : Int) := by clear hB ih f1 f2 g1 g2 hat hf he hg hI hm t6 hoc ho lt t19; ((try simp only [i_lt, i_le, i_eq, i_in, i_cn, Int32.toInt_add, Int32.toInt_sub, Int32.toInt_mul, Int32.toInt_neg, Int32.reduceToInt, Int.bmod_add_bmod, Int.add_bmod_bmod, Int.bmod_sub_bmod, Int.sub_bmod_bmod, Int.bmod_mul_bmod, Int.mul_bmod_bmod, Int.bmod_neg_bmod, Nat.reducePow, Int.reduceBmod, Int.reduceNeg, Int.reduceMul, Int.reduceAdd, Int.reduceSub, not_true_eq_false, not_false_eq_true] at *) <;> (try simp (disch := omega) only [i_bm'] at *) <;> omega)
      unfold o_C at hoc
      by_cases hr : n ≤ r % 6
      · rw [if_pos hr] at hoc; exact absurd hoc (by decide)
      · rw [if_neg hr] at hoc
        by_cases hb : S.testBit (r % 6) = true
        · rw [if_pos hb] at hoc; exact absurd hoc (by decide)
        · rw [if_neg hb] at hoc
          refine sp_M_fone (d := d) hI (mo_trans hm (mo_0 (mfz_0 hf))) n hn g hg (r % 6) (by omega) hat a x2 x3 g2 lt h4 h5 h6 h7 ?_
          intro t' q4 q5 q6 q7 w4 w5 w6 w7 hat' hf'
          exact ih (q + 1) (r / 6) _ _ _ _ t' _ _ _ _ (by omega) g3 g1 hoc (fs_ok_step (tl_I hI) hg (by omega)) hat' (fun c j h1 h2 h3 h4 => (hf' c j h1 h2 h3 h4).trans (hf c j h1 h2 h3 h4)) he w4 w5 w6 w7
  refine t2_M_foresees (d := d + 5) a ?_
  refine sp_M_look (d := d + 4) (J_mo (J_I hI) hm) (by rw [u13]; exact hu) ?_
  intro t0 v1 v2 v3 v4
  rw [(fl_mo hm).1] at v1 v2
  rw [(fl_mo hm).2] at v2
  rw [u13, hm 153 _ (by decide) (by decide : ¬ (2 : Nat) = 0)] at v3
  have F0 : f_fz u t0 := fun c j h1 h2 h3 h4 => v4 c j h2 (fun e => (h3 e).2.2.2.2.2)
  refine t2_M_foresees_8 (d := d + 5) a ?_
  have lp : ∀ (m q : Nat) (x2 : Int32) (o3 : Option Value) (t : jg_H), q + m = n → x2.toInt = q → f_n o3 = true → (∀ j, j < q → t 157 (8 + j) = s 172 j ∧ t 160 (8 + j) = s 174 j ∧ t 159 (8 + j) = s 173 j ∧ (s 172 j = 2 ∧ s 173 j = t0 146 53 → t 161 (8 + j) = 1) ∧ (¬ (s 172 j = 2 ∧ s 173 j = t0 146 53) → t 161 (8 + j) = 0)) → (∀ c j, (157 ≤ c → c < 162 → j < 8) → t c j = t0 c j) → q_W G (d + 5) jm_M_foresees B 10 [some (.ref 146), some (.int a), some (.int x2), o3, none, none, none, none] [] t := by
    intro m
    induction m with
    | zero =>
      intro q x2 o3 t e1 e2 h3 hs hf
      have eq : q = n := by omega
      subst eq
      have t19 : t 146 19 = s 146 19 := by rw [hf 146 19 (by omega), F0 146 19 (by decide) (by decide) (by omega) (by omega)]; exact u19
      have nl : ¬ x2 < t 146 19 := by rw [t19, i_lt, hn, e2]; omega
      refine t2_M_foresees_10 (d := d + 5) a x2 h3 ?_ (fun g => absurd g nl) (fun g => absurd g nl) (fun g => absurd g nl) (fun g => absurd g nl) (fun g => absurd g nl) (fun g => absurd g nl) (fun g => absurd g nl) (fun g => absurd g nl) (fun g => absurd g nl) (fun g => absurd g nl) (fun g => absurd g nl) (fun g => absurd g nl) (fun g => absurd g nl) (fun g => absurd g nl)
      intro _
      have t53 : t 146 53 = t0 146 53 := hf 146 53 (by omega)
      refine RUN q 0 a.toInt.toNat 0 (fs_0 s) a 0 t none none none none (by omega) (by decide) (by omega) ho (fs_0_ok hI) ⟨?_, ?_, ?_⟩ ?_ rfl rfl rfl rfl rfl
      · rw [t53]; exact v1
      · intro j hj; rw [hf 171 j (by omega)]; exact v2 j hj
      · intro j hj
        obtain ⟨c1, c2, c3, c4, c5⟩ := hs j hj
        refine ⟨c1, c2, ?_⟩
        obtain ⟨b1, b2, b3, b4, b5, b6, b7, b8⟩ := t6 j (by omega)
        rw [t53, c3]
        have hU : (s 146 13).toInt.toNat = (s 146 13).toNatClampNeg := rfl
        rw [hU, ← v3] at b6 b7
        show f_pl (s 172 j) (s 173 j) (s 173 j) (t 161 (8 + j)) (t0 146 53)
        refine ⟨fun h => by omega, fun _ => ?_⟩
        by_cases h : s 172 j = 2 ∧ s 173 j = t0 146 53
        · exact Or.inl ⟨c4 h, h.1, h.2, b5⟩
        · refine Or.inr ⟨c5 h, rfl, by omega, ?_⟩
          by_cases h2 : s 172 j = 2
          · have : ¬ (s 173 j).toInt = (t0 146 53).toInt := fun e => h ⟨h2, Int32.toInt_inj.mp e⟩
            omega
          · exact b7 h2
      · intro c j h1 h2 h3 h4
        rw [hf c j h4]
        exact F0 c j h1 h2 h3 h4
    | succ m ih =>
      intro q x2 o3 t e1 e2 h3 hs hf
      have t19 : t 146 19 = s 146 19 := by rw [hf 146 19 (by omega), F0 146 19 (by decide) (by decide) (by omega) (by omega)]; exact u19
      have lt : x2 < t 146 19 := by rw [t19, i_lt, hn, e2]; omega
      have h5' : (x2 + 1).toInt = ((q + 1 : Nat) : Int) := by clear hB hs hf ih RUN v1 v2 v3 v4 F0 hI hm t6 ho lt t19; ((try simp only [i_lt, i_le, i_eq, i_in, i_cn, Int32.toInt_add, Int32.toInt_sub, Int32.toInt_mul, Int32.toInt_neg, Int32.reduceToInt, Int.bmod_add_bmod, Int.add_bmod_bmod, Int.bmod_sub_bmod, Int.sub_bmod_bmod, Int.bmod_mul_bmod, Int.mul_bmod_bmod, Int.bmod_neg_bmod, Nat.reducePow, Int.reduceBmod, Int.reduceNeg, Int.reduceMul, Int.reduceAdd, Int.reduceSub, not_true_eq_false, not_false_eq_true] at *) <;> (try simp (disch := omega) only [i_bm'] at *) <;> omega)
      have hq : x2.toNatClampNeg = q := by rw [i_cn]; omega
      have hX : (8 + x2).toInt = ((8 + q : Nat) : Int) := by clear hB hs hf ih RUN v1 v2 v3 v4 F0 hI hm t6 ho lt t19 hq h5'; ((try simp only [i_lt, i_le, i_eq, i_in, i_cn, Int32.toInt_add, Int32.toInt_sub, Int32.toInt_mul, Int32.toInt_neg, Int32.reduceToInt, Int.bmod_add_bmod, Int.add_bmod_bmod, Int.bmod_sub_bmod, Int.sub_bmod_bmod, Int.bmod_mul_bmod, Int.mul_bmod_bmod, Int.bmod_neg_bmod, Nat.reducePow, Int.reduceBmod, Int.reduceNeg, Int.reduceMul, Int.reduceAdd, Int.reduceSub, not_true_eq_false, not_false_eq_true] at *) <;> (try simp (disch := omega) only [i_bm'] at *) <;> omega)
      have nX : (8 + x2).toNatClampNeg = 8 + q := by rw [i_cn]; omega
      have jX : jv_in (8 + x2) 13 = true := by rw [i_in]; omega
      have j5 : jv_in x2 5 = true := by rw [i_in]; omega
      have t172 : t 172 q = s 172 q := by rw [hf 172 q (by omega), F0 172 q (by decide) (by decide) (by omega) (by omega), e172]
      have t173 : t 173 q = s 173 q := by rw [hf 173 q (by omega), F0 173 q (by decide) (by decide) (by omega) (by omega), e173]
      have t174 : t 174 q = s 174 q := by rw [hf 174 q (by omega), F0 174 q (by decide) (by decide) (by omega) (by omega), e174]
      have t53 : t 146 53 = t0 146 53 := hf 146 53 (by omega)
      have NEXT : ∀ b : Int32, (s 172 q = 2 ∧ s 173 q = t0 146 53 → b = 1) → (¬ (s 172 q = 2 ∧ s 173 q = t0 146 53) → b = 0) → q_W G (d + 5) jm_M_foresees B 10 [some (.ref 146), some (.int a), some (.int (x2 + 1)), some (.int (8 + x2)), none, none, none, none] [] (jg_up (jg_up (jg_up (jg_up t 157 (8 + q) (s 172 q)) 159 (8 + q) (s 173 q)) 160 (8 + q) (s 174 q)) 161 (8 + q) b) := by
        intro b hb1 hb0
        refine ih (q + 1) _ _ _ (by omega) h5' rfl (fun j hj => ?_) (fun c j h => ?_)
        · by_cases e : j = q
          · subst e
            refine ⟨by (simp (disch := omega) only [u_hit, u_c, u_j]), by (simp (disch := omega) only [u_hit, u_c, u_j]), by (simp (disch := omega) only [u_hit, u_c, u_j]), fun h => by rw [u_hit]; exact hb1 h, fun h => by rw [u_hit]; exact hb0 h⟩
          · have := hs j (by omega)
            rw [u_c (by decide), u_c (by decide), u_c (by decide), u_j (by omega), u_c (by decide), u_j (by omega), u_c (by decide), u_c (by decide), u_c (by decide), u_c (by decide), u_j (by omega), u_c (by decide), u_j (by omega), u_c (by decide), u_c (by decide), u_c (by decide)]
            exact this
        · rw [u_r (by omega), u_r (by omega), u_r (by omega), u_r (by omega)]
          exact hf c j h
      refine t2_M_foresees_10 (d := d + 5) a x2 h3 (fun g => absurd lt g) (fun _ => j5) (fun _ => jX) (fun _ _ _ => j5) (fun _ _ _ => jX) (fun _ _ _ _ _ => j5) (fun _ _ _ _ _ => jX) (fun _ _ _ _ _ _ _ => jX) (fun _ _ _ _ _ _ _ _ => jX) ?_ (fun _ _ _ _ _ _ _ _ => jX) (fun _ _ _ _ _ _ _ _ _ => jX) ?_ (fun _ _ _ _ _ _ _ _ _ => jX) ?_
      all_goals (rw [nX, hq])
      · intro _ s1 q1 s2 q2 s3 q3 g s4 q4
        rw [t172] at q1
        subst q1
        rw [u_c (by decide), t173] at q2
        subst q2
        rw [u_c (by decide), u_c (by decide), t174] at q3
        subst q3
        rw [u_c (by decide), u_c (by decide), u_hit] at g
        subst q4
        exact NEXT 0 (fun h => absurd h.1 g) (fun _ => rfl)
      · intro _ s1 q1 s2 q2 s3 q3 g g' s4 q4
        rw [t172] at q1
        subst q1
        rw [u_c (by decide), t173] at q2
        subst q2
        rw [u_c (by decide), u_c (by decide), t174] at q3
        subst q3
        rw [u_c (by decide), u_hit, u_c (by decide), u_c (by decide), u_c (by decide), t53] at g'
        subst q4
        exact NEXT 0 (fun h => absurd h.2 g') (fun _ => rfl)
      · intro _ s1 q1 s2 q2 s3 q3 g g' s4 q4
        rw [t172] at q1
        subst q1
        rw [u_c (by decide), t173] at q2
        subst q2
        rw [u_c (by decide), u_c (by decide), t174] at q3
        subst q3
        rw [u_c (by decide), u_c (by decide), u_hit] at g
        rw [u_c (by decide), u_hit, u_c (by decide), u_c (by decide), u_c (by decide), t53] at g'
        subst q4
        exact NEXT 1 (fun _ => rfl) (fun h => absurd ⟨g, g'⟩ h)
  exact lp n 0 0 none t0 (by omega) (by decide) rfl (fun j hj => absurd hj (Nat.not_lt_zero j)) (fun _ _ _ => rfl)
/-- the worth of what the reference has looked at -/
theorem sp_M_worth {G : jv_X} {d : Nat} {B : Option Value → jg_H → Prop} {s t : jg_H} {n : Nat} (g : Nat × (Nat → Int32) × (Nat → Int32)) (hg : fs_ok g) (hat : md_at s t n g) (a : Int32) (ha : 0 ≤ a.toInt) (ha' : a.toInt < 15) (hB : B (some (.int (x_sum t a.toNatClampNeg g.1 g.2.1))) t) : q_P G (d + 1) 170 [.ref 146, .int a] t B := by
  obtain ⟨a1, a2, a3⟩ := hat
  refine sp_M_valued (d := d) a ha ha' g.1 a1 hg.1 (fun j hj => by rw [a2 j hj]; have := hg.2 j hj; omega) ?_
  rw [sum_M t a ha ha' g.1 g.2.1 a2 hg.2]
  exact hB
theorem x_sum_mo {s t : jg_H} (h : f_mo s t) : x_sum t = x_sum s := by
  have e : t 148 = s 148 := funext fun j => h 148 j (by decide) (by decide : ¬ (1 : Nat) = 0)
  unfold x_sum x_lk
  rw [e]
