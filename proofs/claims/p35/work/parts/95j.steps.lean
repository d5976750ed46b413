/-! why, act and made -/
set_option maxRecDepth 20000 in
theorem st_why {G : jv_X} {d : Nat} {s : jg_H} (hI : Inv s) (a1 a2 a3 a4 : Int32) : q_P G (d + 6) 91 [.ref 0, .int a1, .int a2, .int a3, .int a4] s (fun r s' => q_P G (d + 6) 182 [.ref 146, .int a1, .int a2, .int a3, .int a4] s' (fun r' s'' => r = r' ∧ Inv s'')) := by
  refine t_C_why (d := d + 5) a1 a2 a3 a4 ?_
  refine sp_C_hin (d := d) hI a1 a2 a3 a4 ?_ ?_
  · intro hn
    refine t_C_why_9 (d := d + 5) _ _ _ _ _ ?_
    refine t_M_why (d := d + 5) a1 a2 a3 a4 ?_
    refine sp_M_isAct (d := d + 2) (J_I hI) a1 a2 a3 a4 (fun h => absurd h hn) ?_
    intro _
    refine t_M_why_9 (d := d + 5) _ _ _ _ _ ?_ ?_
    · intro _; exact ⟨rfl, hI⟩
    · intro g; exact absurd rfl g
  · intro ha t ht
    have hIt := Inv_0 hI ht
    have ha' : f_act t a1 a2 a3 a4 := by rw [f_act_mo (mo_0 ht)]; exact ha
    refine t_C_why_9 (d := d + 5) _ _ _ _ _ ?_
    refine t_M_why (d := d + 5) a1 a2 a3 a4 ?_
    refine sp_M_isAct (d := d + 2) (J_I hIt) a1 a2 a3 a4 ?_ (fun h => absurd ha' h)
    intro _
    refine t_M_why_9 (d := d + 5) _ _ _ _ _ ?_ ?_
    · intro g; exact absurd g (by decide)
    · intro _
      refine sp_M_hin (d := d) (J_I hIt) a1 a2 ha'.1.2.2.1 ha'.1.2.2.2 ?_
      intro t2 ht2
      refine t_M_why_18 (d := d + 5) _ _ _ _ _ ⟨?_, Inv_0 hIt ht2⟩
      rw [f_hin_mo (mo_0 ht) (J_p (J_I hI))]
/-- a byte as the class has it and as the reference does: another byte is no kind, member, place or word on either side -/
def f_by2 (a b : Int32) : Prop := a = b ∨ (60 < a.toInt ∧ b.toInt < 0)
theorem act_by2 {s : jg_H} {a1 a2 a3 a4 b1 b2 b3 b4 : Int32} (hJ : J s) (h1 : f_by2 a1 b1) (h2 : f_by2 a2 b2) (h3 : f_by2 a3 b3) (h4 : f_by2 a4 b4) :
    (f_act s a1 a2 a3 a4 → f_act s b1 b2 b3 b4 ∧ a1 = b1 ∧ a2 = b2 ∧ (1 ≤ a1.toInt ∧ a1.toInt ≤ 3 ∧ ¬ (s 146 13).toInt = -1 → a3 = b3) ∧ (a1.toInt = 2 ∨ a1.toInt = 3 ∨ a1.toInt = 6 → a4 = b4)) ∧ (f_act s b1 b2 b3 b4 → f_act s a1 a2 a3 a4) := by
  obtain ⟨n0, n1⟩ := J_n hJ
  obtain ⟨x0, x1, x2⟩ := J_x hJ
  obtain ⟨u0, u1, u2, u3⟩ := J_u hJ
  have ub := J_b hJ (s 146 13)
  unfold f_act
  constructor
  · rintro ⟨⟨q1, q2, q3, q4⟩, q5, q6, q7⟩
    have e1 : a1 = b1 := by rcases h1 with e | e; exact e; omega
    have e2 : a2 = b2 := by rcases h2 with e | e; exact e; omega
    subst e1
    subst e2
    have e3 : 1 ≤ a1.toInt ∧ a1.toInt ≤ 3 ∧ ¬ (s 146 13).toInt = -1 → a3 = b3 := by
      intro hh
      rcases h3 with e | e
      · exact e
      · have := q7 hh; have := ub (by omega) u3; omega
    have e4 : a1.toInt = 2 ∨ a1.toInt = 3 ∨ a1.toInt = 6 → a4 = b4 := by
      intro hh
      rcases h4 with e | e
      · exact e
      · omega
    refine ⟨⟨⟨q1, q2, q3, q4⟩, ?_, ?_, ?_⟩, rfl, rfl, e3, e4⟩
    · intro hh; rw [← e4 (by omega)]; exact q5 hh
    · intro hh; rw [← e4 (by omega)]; exact q6 hh
    · intro hh; rw [← e3 hh]; exact q7 hh
  · rintro ⟨⟨q1, q2, q3, q4⟩, q5, q6, q7⟩
    have e1 : a1 = b1 := by rcases h1 with e | e; exact e; omega
    have e2 : a2 = b2 := by rcases h2 with e | e; exact e; omega
    subst e1
    subst e2
    refine ⟨⟨q1, q2, q3, q4⟩, ?_, ?_, ?_⟩
    · intro hh
      rcases h4 with e | e
      · rw [e]; exact q5 hh
      · have := q5 hh; omega
    · intro hh
      rcases h4 with e | e
      · rw [e]; exact q6 hh
      · have := q6 hh; omega
    · intro hh
      rcases h3 with e | e
      · rw [e]; exact q7 hh
      · have := q7 hh; omega
theorem fo_cong {k c j : Nat} {v : Int32} {s t : jg_H} (h : f_only k s t) : f_only k (jg_up s c j v) (jg_up t c j v) := by
  intro a i hg
  unfold jg_up
  split
  · rfl
  · exact h a i hg
set_option maxRecDepth 20000 in
theorem st_acts {G : jv_X} {d : Nat} {s : jg_H} (hI : Inv s) (a1 a2 a3 a4 b1 b2 b3 b4 : Int32) (h1 : f_by2 a1 b1) (h2 : f_by2 a2 b2) (h3 : f_by2 a3 b3) (h4 : f_by2 a4 b4) (B : Option Value → jg_H → Prop) (hB : ∀ (v : Int32) t, q_P G (d + 6) 187 [.ref 146, .int b1, .int b2, .int b3, .int b4] t (fun r' s'' => some (.int v) = r' ∧ Inv s'') → (∀ c, c = 166 ∨ c = 167 → t c = s c) → B (some (.int v)) t) : q_P G (d + 6) 80 [.ref 0, .int a1, .int a2, .int a3, .int a4] s B := by
  have by2 := act_by2 (J_I hI) h1 h2 h3 h4
  refine t_C_act (d := d + 3) a1 a2 a3 a4 ?_
  refine sp_C_hin (d := d) hI a1 a2 a3 a4 ?_ ?_
  · intro hn
    have hn' : ¬ f_act s b1 b2 b3 b4 := fun e => hn (by2.2 e)
    have hB1 : B (some (.int (-2))) s := by
      refine hB _ _ ?_ (fun _ _ => rfl)
      refine t_M_acts (d := d + 3) b1 b2 b3 b4 ?_
      refine sp_M_isAct (d := d + 2) (J_I hI) b1 b2 b3 b4 (fun h => absurd h hn') ?_
      intro _
      refine t_M_acts_9 (d := d + 3) _ _ _ _ _ ?_ ?_
      · intro g; exact absurd rfl g
      · intro _; exact ⟨rfl, hI⟩
    clear hB by2 hI h1 h2 h3 h4 hn hn'
    refine t_C_act_9 (d := d + 3) a1 a2 a3 a4 (-2) ?_ ?_ ?_ ?_ ?_ ?_ ?_ ?_ ?_ ?_ ?_ ?_ ?_ ?_ ?_ ?_ ?_ ?_ ?_ ?_ ?_ ?_ ?_ ?_ ?_ ?_ ?_ ?_ ?_ ?_ ?_ ?_ ?_ ?_ ?_ ?_ ?_ ?_ ?_ ?_ ?_ ?_ ?_ ?_ ?_ ?_ ?_ ?_ ?_ ?_ ?_ ?_ ?_ ?_ ?_ ?_ ?_ ?_ ?_ ?_ ?_ ?_ ?_ ?_ ?_ ?_ ?_ ?_ ?_ ?_ ?_ ?_ ?_ ?_ ?_ ?_ ?_ ?_ ?_ ?_ ?_ ?_ ?_ ?_ ?_ ?_
    all_goals first
      | (intro _; exact hB1)
      | (intro g; exact absurd (by decide) g)
  · intro ha t ht
    obtain ⟨hb, e1, e2, e3, e4⟩ := by2.1 ha
    subst e1
    subst e2
    have hIt := Inv_0 hI ht
    have hn0 := J_p (J_I hI)
    have hat : f_act t a1 a2 b3 b4 := by rw [f_act_mo (mo_0 ht)]; exact hb
    have hht : f_hin t a1 a2 = f_hin s a1 a2 := by rw [f_hin_mo (mo_0 ht) hn0]
    have t166 : ∀ c, c = 166 ∨ c = 167 → t c = s c := fun c hc => funext fun j => ht c j (by rcases hc with e | e <;> subst e <;> exact (by decide : ¬ (10 : Nat) = 0))
    have hb7 := f_hin_b s a1 a2
    by_cases hz : f_hin s a1 a2 = 0
    · rw [hz]
      obtain ⟨q1, q2, q3⟩ := f_hin_0 hz
      have hz' : f_hin t a1 a2 = 0 := hht.trans hz
      obtain ⟨q1', q2', q3'⟩ := f_hin_0 hz'
      have p1 := hIt.2.2.2.1.1
      have p4 := hIt.2.2.2.1.2.2.2.1
      obtain ⟨p2, p3⟩ := J_p (J_I hIt)
      have u13 : t 146 13 = s 146 13 := ht 146 13 (by decide : ¬ (3 : Nat) = 0)
      have u153 : t 153 = s 153 := funext fun j => ht 153 j (by decide : ¬ (2 : Nat) = 0)
      obtain ⟨c0, c1, c2, c3⟩ := J_u (J_I hIt)
      refine sp_C_push (d := d + 3) (by rw [p1]; exact p2) (by rw [p1]; omega) p4 a1 a2 a3 a4 ?_
      intro x y gx gw
      rw [p1]
      refine hB _ _ ?_ ?_
      · have hm : f_mo t (p_C t a1 a2 x y) := mo_hi (fun c hc => by
          funext j
          unfold p_C
          rw [u_c (by omega), u_c (by omega), u_c (by omega), u_c (by omega), u_c (by omega), u_c (by omega)])
        have hJ := J_mo (J_I hIt) hm
        have ha2 : f_act (p_C t a1 a2 x y) a1 a2 b3 b4 := by rw [f_act_mo hm]; exact hat
        refine t_M_acts (d := d + 3) a1 a2 b3 b4 ?_
        refine sp_M_isAct (d := d + 2) hJ a1 a2 b3 b4 ?_ (fun h => absurd ha2 h)
        intro _
        refine t_M_acts_9 (d := d + 3) _ _ _ _ _ ?_ (fun g => absurd g (by decide))
        intro _
        refine sp_M_hin (d := d) hJ a1 a2 ha2.1.2.2.1 ha2.1.2.2.2 ?_
        intro t2 ht2
        rw [f_hin_mo hm (J_p (J_I hIt)), hz']
        have v18 : t2 146 18 = t 146 18 := (ht2 146 18 (by decide : ¬ (4 : Nat) = 0)).trans (hm 146 18 (by decide) (by decide : ¬ (4 : Nat) = 0))
        have v13 : t2 146 13 = t 146 13 := (ht2 146 13 (by decide : ¬ (3 : Nat) = 0)).trans (hm 146 13 (by decide) (by decide : ¬ (3 : Nat) = 0))
        have v153 : t2 153 = t 153 := funext fun j => (ht2 153 j (by decide : ¬ (2 : Nat) = 0)).trans (hm 153 j (by decide) (by decide : ¬ (2 : Nat) = 0))
        refine sp_M_push (d := d + 3) (by rw [v18]; exact p2) (by rw [v18]; omega) a1 a2 b3 b4 ?_ ?_
        · by_cases hk : a1.toInt = 2
          · refine Or.inl ?_
            rw [v13]
            have q : 0 ≤ (t 146 13).toInt := by omega
            have q' := c3
            clear hB hI hIt ha hb hat ha2 by2 gx gw e3 e4 h3 h4
            ((try simp only [i_lt, i_le, i_eq, i_in, i_cn, Int32.toInt_add, Int32.toInt_sub, Int32.toInt_mul, Int32.toInt_neg, Int32.reduceToInt, Int.bmod_add_bmod, Int.add_bmod_bmod, Int.bmod_sub_bmod, Int.sub_bmod_bmod, Int.bmod_mul_bmod, Int.mul_bmod_bmod, Int.bmod_neg_bmod, Nat.reducePow, Int.reduceBmod, Int.reduceNeg, Int.reduceMul, Int.reduceAdd, Int.reduceSub, not_true_eq_false, not_false_eq_true] at *) <;> (try simp (disch := omega) only [i_bm'] at *) <;> omega)
          · exact Or.inr hk
        · intro x' b' y' gx' gb' gw'
          have hz7 : ((p_C t a1 a2 x y) 153) = t 153 := funext fun j => hm 153 j (by decide) (by decide : ¬ (2 : Nat) = 0)
          rw [v18]
          rw [v13, v153] at gb'
          obtain ⟨⟨r1, r2, r3, r4⟩, r5, r6, r7⟩ := hat
          have u0 : 0 ≤ (t 146 13).toInt → (t 146 13).toNatClampNeg = (t 146 13).toInt.toNat := fun _ => rfl
          have e13 : (s 146 13).toInt = (t 146 13).toInt := by rw [u13]
          have exx : ¬ (1 ≤ a1.toInt ∧ a1.toInt ≤ 3) ∨ (x = b3 ∧ x' = b3 ∧ 0 ≤ (t 146 13).toInt) := by
            by_cases hk : 1 ≤ a1.toInt ∧ a1.toInt ≤ 3
            · exact Or.inr ⟨(gx.1 hk).trans (e3 ⟨hk.1, hk.2, by omega⟩), gx'.1 hk, by omega⟩
            · exact Or.inl hk
          have eyy : y' = y := by
            by_cases hk : a1.toInt = 2 ∨ a1.toInt = 3 ∨ a1.toInt = 6
            · rw [gw.1 hk, gw'.1 hk, e4 hk]
            · rw [gw.2 hk, gw'.2 hk]
          subst eyy
          have hpl : f_pl a1 x x' b' (t 153 (t 146 13).toInt.toNat) := by
            constructor
            · intro hk
              have hk' : ¬ (1 ≤ a1.toInt ∧ a1.toInt ≤ 3) := by omega
              exact ⟨gx.2 hk', gx'.2 hk', gb'.2 (fun e => hk' (by omega))⟩
            · intro hk
              rcases exx with e | ⟨e5, e6, e7⟩
              · exact absurd hk e
              · have r8 := r7 ⟨hk.1, hk.2, by omega⟩
                rw [u0 e7] at gb' r8
                by_cases hb2 : a1.toInt = 2 ∧ b3 = t 153 (t 146 13).toInt.toNat
                · exact Or.inl ⟨gb'.1 hb2, Int32.toInt_inj.mp hb2.1, e5.trans hb2.2, by rw [e6]; omega⟩
                · refine Or.inr ⟨gb'.2 hb2, e5.trans e6.symm, by rw [e6]; omega, ?_⟩
                  rw [e6]
                  by_cases h2 : a1.toInt = 2
                  · have : ¬ b3.toInt = (t 153 (t 146 13).toInt.toNat).toInt := fun e => hb2 ⟨h2, Int32.toInt_inj.mp e⟩
                    omega
                  · exact r8.2.2 h2
          have hfin := Inv_push hIt (by omega) q2' a1 a2 x x' b' y' r1 r2 r3 r4 ?_ ?_ ?_ hpl
          · refine ⟨rfl, Inv_0 hfin ?_⟩
            have w18 : t2 146 18 = (p_C t a1 a2 x y') 146 18 := ht2 146 18 (by decide : ¬ (4 : Nat) = 0)
            have w17 : t2 146 17 = (p_C t a1 a2 x y') 146 17 := ht2 146 17 (by decide : ¬ (8 : Nat) = 0)
            unfold p_M
            rw [w18, w17]
            exact fo_cong (fo_cong (fo_cong (fo_cong (fo_cong (fo_cong (fo_cong ht2))))))
          · intro h
            have h' : a1.toInt = 2 ∨ a1.toInt = 3 := by rcases h with h | h <;> rw [h] <;> decide
            rw [gw'.1 (by omega)]
            exact r5 h'
          · intro h
            have h' : a1.toInt = 6 := by rw [h]; decide
            rw [gw'.1 (by omega)]
            exact r6 h'
          · intro h
            have h' : ¬ a1.toInt = 6 := fun e => h (Int32.toInt_inj.mp e)
            omega
      · intro c hc; rw [← t166 c hc]; funext j; unfold p_C; rw [u_c (by omega), u_c (by omega), u_c (by omega), u_c (by omega), u_c (by omega), u_c (by omega)]
    · have hB1 : B (some (.int ((-20) - f_hin s a1 a2))) t := by
        refine hB _ _ ?_ t166
        refine t_M_acts (d := d + 3) a1 a2 b3 b4 ?_
        refine sp_M_isAct (d := d + 2) (J_I hIt) a1 a2 b3 b4 ?_ (fun h => absurd hat h)
        intro _
        refine t_M_acts_9 (d := d + 3) _ _ _ _ _ ?_ (fun g => absurd g (by decide))
        intro _
        refine sp_M_hin (d := d) (J_I hIt) a1 a2 hat.1.2.2.1 hat.1.2.2.2 ?_
        intro t2 ht2
        rw [hht]
        refine t_M_acts_21 (d := d + 3) a1 a2 b3 b4 (f_hin s a1 a2) ?_ ?_ ?_ ?_ ?_ ?_ ?_ ?_ ?_ ?_ ?_ ?_ ?_ ?_ ?_ ?_ ?_ ?_ ?_ ?_ ?_ ?_ ?_ ?_ ?_ ?_ ?_ ?_ ?_ ?_ ?_ ?_ ?_ ?_ ?_ ?_ ?_ ?_ ?_ ?_ ?_ ?_ ?_ ?_ ?_ ?_ ?_ ?_ ?_ ?_ ?_ ?_ ?_ ?_ ?_ ?_ ?_ ?_ ?_ ?_ ?_ ?_ ?_ ?_ ?_ ?_ ?_ ?_ ?_ ?_ ?_ ?_ ?_ ?_ ?_ ?_ ?_ ?_ ?_ ?_ ?_ ?_ ?_ ?_ ?_ ?_ ?_ ?_
        all_goals first
          | (intro g; exact absurd g hz)
          | (intro _; exact ⟨rfl, Inv_0 hIt ht2⟩)
      have g1 : ¬ f_hin s a1 a2 < 0 := by
        generalize f_hin s a1 a2 = H at *
        clear hB1 hB hI hIt ha hb hat by2 e3 e4 h3 h4
        ((try simp only [i_lt, i_le, i_eq, i_in, i_cn, Int32.toInt_add, Int32.toInt_sub, Int32.toInt_mul, Int32.toInt_neg, Int32.reduceToInt, Int.bmod_add_bmod, Int.add_bmod_bmod, Int.bmod_sub_bmod, Int.sub_bmod_bmod, Int.bmod_mul_bmod, Int.mul_bmod_bmod, Int.bmod_neg_bmod, Nat.reducePow, Int.reduceBmod, Int.reduceNeg, Int.reduceMul, Int.reduceAdd, Int.reduceSub, not_true_eq_false, not_false_eq_true] at *) <;> (try simp (disch := omega) only [i_bm'] at *) <;> omega)
      have g2 : ¬ f_hin s a1 a2 ≤ 0 := by
        generalize f_hin s a1 a2 = H at *
        clear hB1 hB hI hIt ha hb hat by2 e3 e4 h3 h4
        ((try simp only [i_lt, i_le, i_eq, i_in, i_cn, Int32.toInt_add, Int32.toInt_sub, Int32.toInt_mul, Int32.toInt_neg, Int32.reduceToInt, Int.bmod_add_bmod, Int.add_bmod_bmod, Int.bmod_sub_bmod, Int.sub_bmod_bmod, Int.bmod_mul_bmod, Int.mul_bmod_bmod, Int.bmod_neg_bmod, Nat.reducePow, Int.reduceBmod, Int.reduceNeg, Int.reduceMul, Int.reduceAdd, Int.reduceSub, not_true_eq_false, not_false_eq_true] at *) <;> (try simp (disch := omega) only [i_bm'] at *) <;> omega)
      clear hB by2 hI hIt h3 h4 ha hb hat e3 e4
      generalize f_hin s a1 a2 = H at *
      refine t_C_act_9 (d := d + 3) a1 a2 a3 a4 H ?_ ?_ ?_ ?_ ?_ ?_ ?_ ?_ ?_ ?_ ?_ ?_ ?_ ?_ ?_ ?_ ?_ ?_ ?_ ?_ ?_ ?_ ?_ ?_ ?_ ?_ ?_ ?_ ?_ ?_ ?_ ?_ ?_ ?_ ?_ ?_ ?_ ?_ ?_ ?_ ?_ ?_ ?_ ?_ ?_ ?_ ?_ ?_ ?_ ?_ ?_ ?_ ?_ ?_ ?_ ?_ ?_ ?_ ?_ ?_ ?_ ?_ ?_ ?_ ?_ ?_ ?_ ?_ ?_ ?_ ?_ ?_ ?_ ?_ ?_ ?_ ?_ ?_ ?_ ?_ ?_ ?_ ?_ ?_ ?_ ?_
      all_goals first
        | (intro g; exact absurd g g1)
        | (intro _ g; exact absurd g g2)
        | (intro _ _; exact hB1)
set_option maxRecDepth 20000 in
theorem st_act {G : jv_X} {d : Nat} {s : jg_H} (hI : Inv s) (a1 a2 a3 a4 : Int32) : q_P G (d + 7) 80 [.ref 0, .int a1, .int a2, .int a3, .int a4] s (fun r s' => q_P G (d + 7) 186 [.ref 146, .int a1, .int a2, .int a3, .int a4] s' (fun r' s'' => r = r' ∧ Inv s'')) := by
  refine q_up (d := d + 6) 1 (st_acts (d := d) hI a1 a2 a3 a4 a1 a2 a3 a4 (Or.inl rfl) (Or.inl rfl) (Or.inl rfl) (Or.inl rfl) _ ?_)
  intro v t hq _
  refine t_M_act (d := d + 6) a1 a2 a3 a4 ?_
  refine q_mono ?_ hq
  rintro r s'' ⟨e, hI'⟩
  subst e
  exact t_M_act_9 (d := d + 6) _ _ _ _ _ ⟨rfl, hI'⟩
set_option maxRecDepth 20000 in
theorem st_made {G : jv_X} {d : Nat} {s : jg_H} (hI : Inv s) (a1 a2 : Int32) : q_P G (d + 8) 129 [.ref 0, .int a1, .int a2] s (fun r s' => q_P G (d + 8) 218 [.ref 146, .int a1, .int a2] s' (fun r' s'' => r = r' ∧ Inv s'')) := by
  have kt := key_try hI.2.2.2.2.2.2.2.2.1 a1
  refine t_C_made (d := d + 6) a1 a2 ?_ ?_ ?_ ?_ ?_ ?_ ?_ ?_ ?_ ?_ ?_ ?main ?_
  case main =>
    intro g1 g2 g3 g4 g5 g6 g7 g8 g9 g10
    obtain ⟨k1, k2, k3⟩ := kt (by clear kt hI; ((try simp only [i_lt, i_le, i_eq, i_in, i_cn, Int32.toInt_add, Int32.toInt_sub, Int32.toInt_mul, Int32.toInt_neg, Int32.reduceToInt, Int.bmod_add_bmod, Int.add_bmod_bmod, Int.bmod_sub_bmod, Int.sub_bmod_bmod, Int.bmod_mul_bmod, Int.mul_bmod_bmod, Int.bmod_neg_bmod, Nat.reducePow, Int.reduceBmod, Int.reduceNeg, Int.reduceMul, Int.reduceAdd, Int.reduceSub, not_true_eq_false, not_false_eq_true] at *) <;> (try simp (disch := omega) only [i_bm'] at *) <;> omega)) (by clear kt hI; ((try simp only [i_lt, i_le, i_eq, i_in, i_cn, Int32.toInt_add, Int32.toInt_sub, Int32.toInt_mul, Int32.toInt_neg, Int32.reduceToInt, Int.bmod_add_bmod, Int.add_bmod_bmod, Int.bmod_sub_bmod, Int.sub_bmod_bmod, Int.bmod_mul_bmod, Int.mul_bmod_bmod, Int.bmod_neg_bmod, Nat.reducePow, Int.reduceBmod, Int.reduceNeg, Int.reduceMul, Int.reduceAdd, Int.reduceSub, not_true_eq_false, not_false_eq_true] at *) <;> (try simp (disch := omega) only [i_bm'] at *) <;> omega))
    clear kt
    have hA : a1.toNatClampNeg < 4 := by clear hI k1 k2 k3; (try simp only [i_lt, i_le, i_eq, i_in, i_cn, Int32.toInt_add, Int32.toInt_sub, Int32.toInt_mul, Int32.toInt_neg, Int32.reduceToInt, Int.bmod_add_bmod, Int.add_bmod_bmod, Int.bmod_sub_bmod, Int.sub_bmod_bmod, Int.bmod_mul_bmod, Int.mul_bmod_bmod, Int.bmod_neg_bmod, Nat.reducePow, Int.reduceBmod, Int.reduceNeg, Int.reduceMul, Int.reduceAdd, Int.reduceSub, not_true_eq_false, not_false_eq_true] at *) <;> (try simp (disch := omega) only [i_bm'] at *); omega
    have k4 := (hI.2.2.2.2.2.2.2.2.1 _ hA).2.2.2
    have h2 : 0 ≤ a2.toInt ∧ a2.toInt + 3 < (s 166 a1.toNatClampNeg).toInt := by have k5 := congrArg Int32.toInt k1; clear hI k4 k1; constructor <;> ((try simp only [i_lt, i_le, i_eq, i_in, i_cn, Int32.toInt_add, Int32.toInt_sub, Int32.toInt_mul, Int32.toInt_neg, Int32.reduceToInt, Int.bmod_add_bmod, Int.add_bmod_bmod, Int.bmod_sub_bmod, Int.sub_bmod_bmod, Int.bmod_mul_bmod, Int.mul_bmod_bmod, Int.bmod_neg_bmod, Nat.reducePow, Int.reduceBmod, Int.reduceNeg, Int.reduceMul, Int.reduceAdd, Int.reduceSub, not_true_eq_false, not_false_eq_true] at *) <;> (try simp (disch := omega) only [i_bm'] at *) <;> omega)
    have bb : ∀ i : Nat, i < 40 → f_by2 (s (138 + 2 * a1.toNatClampNeg + 1) i) (s 167 (40 * a1.toNatClampNeg + i)) := by
      intro i hi
      obtain ⟨e1, e2, e3, e4, e5⟩ := k4 i hi
      rcases e1 with e1 | e1
      · exact Or.inl e1
      · exact Or.inr (by omega)
    have n1 : (a2 + 1).toNatClampNeg = a2.toNatClampNeg + 1 := by clear hI k1 k4 bb g1 g2 g3 g4 g5 g6 g7 g8 g9 g10; (try simp only [i_lt, i_le, i_eq, i_in, i_cn, Int32.toInt_add, Int32.toInt_sub, Int32.toInt_mul, Int32.toInt_neg, Int32.reduceToInt, Int.bmod_add_bmod, Int.add_bmod_bmod, Int.bmod_sub_bmod, Int.sub_bmod_bmod, Int.bmod_mul_bmod, Int.mul_bmod_bmod, Int.bmod_neg_bmod, Nat.reducePow, Int.reduceBmod, Int.reduceNeg, Int.reduceMul, Int.reduceAdd, Int.reduceSub, not_true_eq_false, not_false_eq_true] at *) <;> (try simp (disch := omega) only [i_bm'] at *); omega
    have n2 : (a2 + 2).toNatClampNeg = a2.toNatClampNeg + 2 := by clear hI k1 k4 bb g1 g2 g3 g4 g5 g6 g7 g8 g9 g10 n1; (try simp only [i_lt, i_le, i_eq, i_in, i_cn, Int32.toInt_add, Int32.toInt_sub, Int32.toInt_mul, Int32.toInt_neg, Int32.reduceToInt, Int.bmod_add_bmod, Int.add_bmod_bmod, Int.bmod_sub_bmod, Int.sub_bmod_bmod, Int.bmod_mul_bmod, Int.mul_bmod_bmod, Int.bmod_neg_bmod, Nat.reducePow, Int.reduceBmod, Int.reduceNeg, Int.reduceMul, Int.reduceAdd, Int.reduceSub, not_true_eq_false, not_false_eq_true] at *) <;> (try simp (disch := omega) only [i_bm'] at *); omega
    have n3 : (a2 + 3).toNatClampNeg = a2.toNatClampNeg + 3 := by clear hI k1 k4 bb g1 g2 g3 g4 g5 g6 g7 g8 g9 g10 n1 n2; (try simp only [i_lt, i_le, i_eq, i_in, i_cn, Int32.toInt_add, Int32.toInt_sub, Int32.toInt_mul, Int32.toInt_neg, Int32.reduceToInt, Int.bmod_add_bmod, Int.add_bmod_bmod, Int.bmod_sub_bmod, Int.sub_bmod_bmod, Int.bmod_mul_bmod, Int.mul_bmod_bmod, Int.bmod_neg_bmod, Nat.reducePow, Int.reduceBmod, Int.reduceNeg, Int.reduceMul, Int.reduceAdd, Int.reduceSub, not_true_eq_false, not_false_eq_true] at *) <;> (try simp (disch := omega) only [i_bm'] at *); omega
    have n4 : a2.toNatClampNeg + 3 < 40 := by rw [i_cn]; omega
    rw [n1, n2, n3]
    refine q_up (d := d + 6) 1 (st_acts (d := d) hI _ _ _ _ _ _ _ _ (bb _ (by omega)) (bb _ (by omega)) (bb _ (by omega)) (bb _ (by omega)) _ ?_)
    intro v t hq he
    have m0 : ((40 * a1) + a2).toNatClampNeg = 40 * a1.toNatClampNeg + a2.toNatClampNeg := by clear hI k1 k4 bb n1 n2 n3 n4 hq he g3 g6 g9; (try simp only [i_lt, i_le, i_eq, i_in, i_cn, Int32.toInt_add, Int32.toInt_sub, Int32.toInt_mul, Int32.toInt_neg, Int32.reduceToInt, Int.bmod_add_bmod, Int.add_bmod_bmod, Int.bmod_sub_bmod, Int.sub_bmod_bmod, Int.bmod_mul_bmod, Int.mul_bmod_bmod, Int.bmod_neg_bmod, Nat.reducePow, Int.reduceBmod, Int.reduceNeg, Int.reduceMul, Int.reduceAdd, Int.reduceSub, not_true_eq_false, not_false_eq_true] at *) <;> (try simp (disch := omega) only [i_bm'] at *); omega
    have m1 : (((40 * a1) + a2) + 1).toNatClampNeg = 40 * a1.toNatClampNeg + (a2.toNatClampNeg + 1) := by clear hI k1 k4 bb n1 n2 n3 n4 hq he g3 g6 g9 m0; (try simp only [i_lt, i_le, i_eq, i_in, i_cn, Int32.toInt_add, Int32.toInt_sub, Int32.toInt_mul, Int32.toInt_neg, Int32.reduceToInt, Int.bmod_add_bmod, Int.add_bmod_bmod, Int.bmod_sub_bmod, Int.sub_bmod_bmod, Int.bmod_mul_bmod, Int.mul_bmod_bmod, Int.bmod_neg_bmod, Nat.reducePow, Int.reduceBmod, Int.reduceNeg, Int.reduceMul, Int.reduceAdd, Int.reduceSub, not_true_eq_false, not_false_eq_true] at *) <;> (try simp (disch := omega) only [i_bm'] at *); omega
    have m2 : (((40 * a1) + a2) + 2).toNatClampNeg = 40 * a1.toNatClampNeg + (a2.toNatClampNeg + 2) := by clear hI k1 k4 bb n1 n2 n3 n4 hq he g3 g6 g9 m0 m1; (try simp only [i_lt, i_le, i_eq, i_in, i_cn, Int32.toInt_add, Int32.toInt_sub, Int32.toInt_mul, Int32.toInt_neg, Int32.reduceToInt, Int.bmod_add_bmod, Int.add_bmod_bmod, Int.bmod_sub_bmod, Int.sub_bmod_bmod, Int.bmod_mul_bmod, Int.mul_bmod_bmod, Int.bmod_neg_bmod, Nat.reducePow, Int.reduceBmod, Int.reduceNeg, Int.reduceMul, Int.reduceAdd, Int.reduceSub, not_true_eq_false, not_false_eq_true] at *) <;> (try simp (disch := omega) only [i_bm'] at *); omega
    have m3 : (((40 * a1) + a2) + 3).toNatClampNeg = 40 * a1.toNatClampNeg + (a2.toNatClampNeg + 3) := by clear hI k1 k4 bb n1 n2 n3 n4 hq he g3 g6 g9 m0 m1 m2; (try simp only [i_lt, i_le, i_eq, i_in, i_cn, Int32.toInt_add, Int32.toInt_sub, Int32.toInt_mul, Int32.toInt_neg, Int32.reduceToInt, Int.bmod_add_bmod, Int.add_bmod_bmod, Int.bmod_sub_bmod, Int.sub_bmod_bmod, Int.bmod_mul_bmod, Int.mul_bmod_bmod, Int.bmod_neg_bmod, Nat.reducePow, Int.reduceBmod, Int.reduceNeg, Int.reduceMul, Int.reduceAdd, Int.reduceSub, not_true_eq_false, not_false_eq_true] at *) <;> (try simp (disch := omega) only [i_bm'] at *); omega
    refine t_C_made_89 (d := d + 6) a1 a2 (f_m137 (i := a1.toNatClampNeg) hA) v ?_
    have t166 := he 166 (Or.inl rfl)
    have t167 := he 167 (Or.inr rfl)
    refine t_M_made (d := d + 5) a1 a2 ?_ ?_ ?_ ?_ ?_ ?_ ?_ ?_ ?_ ?_ ?m2 ?_
    case m2 =>
      intros
      rw [t167, m0, m1, m2, m3]
      refine q_mono ?_ (q_up (d := d + 6) 1 hq)
      rintro r s'' ⟨e, hI'⟩
      subst e
      exact t_M_made_83 (d := d + 5) _ _ _ _ ⟨rfl, hI'⟩
    all_goals (intros; (try rw [t166] at *); clear hI k1 k4 bb n1 n2 n3 hq he m0 m1 m2 m3 g3 g6 g9; first | ((try simp only [i_lt, i_le, i_eq, i_in, i_cn, Int32.toInt_add, Int32.toInt_sub, Int32.toInt_mul, Int32.toInt_neg, Int32.reduceToInt, Int.bmod_add_bmod, Int.add_bmod_bmod, Int.bmod_sub_bmod, Int.sub_bmod_bmod, Int.bmod_mul_bmod, Int.mul_bmod_bmod, Int.bmod_neg_bmod, Nat.reducePow, Int.reduceBmod, Int.reduceNeg, Int.reduceMul, Int.reduceAdd, Int.reduceSub, not_true_eq_false, not_false_eq_true] at *) <;> (try simp (disch := omega) only [i_bm'] at *) <;> omega) | (exfalso; ((try simp only [i_lt, i_le, i_eq, i_in, i_cn, Int32.toInt_add, Int32.toInt_sub, Int32.toInt_mul, Int32.toInt_neg, Int32.reduceToInt, Int.bmod_add_bmod, Int.add_bmod_bmod, Int.bmod_sub_bmod, Int.sub_bmod_bmod, Int.bmod_mul_bmod, Int.mul_bmod_bmod, Int.bmod_neg_bmod, Nat.reducePow, Int.reduceBmod, Int.reduceNeg, Int.reduceMul, Int.reduceAdd, Int.reduceSub, not_true_eq_false, not_false_eq_true] at *) <;> (try simp (disch := omega) only [i_bm'] at *) <;> omega)))
  all_goals (
    intros
    first
    | (exfalso; clear hI kt; ((try simp only [i_lt, i_le, i_eq, i_in, i_cn, Int32.toInt_add, Int32.toInt_sub, Int32.toInt_mul, Int32.toInt_neg, Int32.reduceToInt, Int.bmod_add_bmod, Int.add_bmod_bmod, Int.bmod_sub_bmod, Int.sub_bmod_bmod, Int.bmod_mul_bmod, Int.mul_bmod_bmod, Int.bmod_neg_bmod, Nat.reducePow, Int.reduceBmod, Int.reduceNeg, Int.reduceMul, Int.reduceAdd, Int.reduceSub, not_true_eq_false, not_false_eq_true] at *) <;> (try simp (disch := omega) only [i_bm'] at *) <;> omega))
    | (clear hI kt; ((try simp only [i_lt, i_le, i_eq, i_in, i_cn, Int32.toInt_add, Int32.toInt_sub, Int32.toInt_mul, Int32.toInt_neg, Int32.reduceToInt, Int.bmod_add_bmod, Int.add_bmod_bmod, Int.bmod_sub_bmod, Int.sub_bmod_bmod, Int.bmod_mul_bmod, Int.mul_bmod_bmod, Int.bmod_neg_bmod, Nat.reducePow, Int.reduceBmod, Int.reduceNeg, Int.reduceMul, Int.reduceAdd, Int.reduceSub, not_true_eq_false, not_false_eq_true] at *) <;> (try simp (disch := omega) only [i_bm'] at *) <;> omega))
    | (refine t_M_made (d := d + 5) a1 a2 ?_ ?_ ?_ ?_ ?_ ?_ ?_ ?_ ?_ ?_ ?_ ?_ <;> intros <;> first
      | (exact ⟨rfl, hI⟩)
      | (exfalso; clear hI kt; ((try simp only [i_lt, i_le, i_eq, i_in, i_cn, Int32.toInt_add, Int32.toInt_sub, Int32.toInt_mul, Int32.toInt_neg, Int32.reduceToInt, Int.bmod_add_bmod, Int.add_bmod_bmod, Int.bmod_sub_bmod, Int.sub_bmod_bmod, Int.bmod_mul_bmod, Int.mul_bmod_bmod, Int.bmod_neg_bmod, Nat.reducePow, Int.reduceBmod, Int.reduceNeg, Int.reduceMul, Int.reduceAdd, Int.reduceSub, not_true_eq_false, not_false_eq_true] at *) <;> (try simp (disch := omega) only [i_bm'] at *) <;> omega))
      | (clear hI kt; ((try simp only [i_lt, i_le, i_eq, i_in, i_cn, Int32.toInt_add, Int32.toInt_sub, Int32.toInt_mul, Int32.toInt_neg, Int32.reduceToInt, Int.bmod_add_bmod, Int.add_bmod_bmod, Int.bmod_sub_bmod, Int.sub_bmod_bmod, Int.bmod_mul_bmod, Int.mul_bmod_bmod, Int.bmod_neg_bmod, Nat.reducePow, Int.reduceBmod, Int.reduceNeg, Int.reduceMul, Int.reduceAdd, Int.reduceSub, not_true_eq_false, not_false_eq_true] at *) <;> (try simp (disch := omega) only [i_bm'] at *) <;> omega))
      | (exfalso; obtain ⟨k1, k2, k3⟩ := kt (by clear kt hI; ((try simp only [i_lt, i_le, i_eq, i_in, i_cn, Int32.toInt_add, Int32.toInt_sub, Int32.toInt_mul, Int32.toInt_neg, Int32.reduceToInt, Int.bmod_add_bmod, Int.add_bmod_bmod, Int.bmod_sub_bmod, Int.sub_bmod_bmod, Int.bmod_mul_bmod, Int.mul_bmod_bmod, Int.bmod_neg_bmod, Nat.reducePow, Int.reduceBmod, Int.reduceNeg, Int.reduceMul, Int.reduceAdd, Int.reduceSub, not_true_eq_false, not_false_eq_true] at *) <;> (try simp (disch := omega) only [i_bm'] at *) <;> omega)) (by clear kt hI; ((try simp only [i_lt, i_le, i_eq, i_in, i_cn, Int32.toInt_add, Int32.toInt_sub, Int32.toInt_mul, Int32.toInt_neg, Int32.reduceToInt, Int.bmod_add_bmod, Int.add_bmod_bmod, Int.bmod_sub_bmod, Int.sub_bmod_bmod, Int.bmod_mul_bmod, Int.mul_bmod_bmod, Int.bmod_neg_bmod, Nat.reducePow, Int.reduceBmod, Int.reduceNeg, Int.reduceMul, Int.reduceAdd, Int.reduceSub, not_true_eq_false, not_false_eq_true] at *) <;> (try simp (disch := omega) only [i_bm'] at *) <;> omega)); have k5 := congrArg Int32.toInt k1; clear kt hI k1; ((try simp only [i_lt, i_le, i_eq, i_in, i_cn, Int32.toInt_add, Int32.toInt_sub, Int32.toInt_mul, Int32.toInt_neg, Int32.reduceToInt, Int.bmod_add_bmod, Int.add_bmod_bmod, Int.bmod_sub_bmod, Int.sub_bmod_bmod, Int.bmod_mul_bmod, Int.mul_bmod_bmod, Int.bmod_neg_bmod, Nat.reducePow, Int.reduceBmod, Int.reduceNeg, Int.reduceMul, Int.reduceAdd, Int.reduceSub, not_true_eq_false, not_false_eq_true] at *) <;> (try simp (disch := omega) only [i_bm'] at *) <;> omega))))
