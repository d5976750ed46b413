/-! steps: a section -/
/-- a bill's row of words is set: n sections, the words F -/
theorem b_row {s t : jg_H} (hI : I_bil s) (A : Nat) (hA : A < 8) (n : Nat) (hn : n ≤ 10) (h1 : (t (33 + 3 * A + 1) 0).toInt = n) (h2 : (t 153 A).toInt = n)
    (h3 : ∀ i, i < n → t (33 + 3 * A + 1 + 1) i = t 154 (10 * A + i) ∧ 1 ≤ (t 154 (10 * A + i)).toInt ∧ (t 154 (10 * A + i)).toInt ≤ 60)
    (h4 : ∀ q j, g_of q j = 2 → ¬ (q = 33 + 3 * A + 1 ∧ j = 0) → ¬ (q = 153 ∧ j = A) → ¬ q = 33 + 3 * A + 1 + 1 → ¬ (q = 154 ∧ 10 * A ≤ j ∧ j < 10 * A + 10) → t q j = s q j) : I_bil t := by
  obtain ⟨a1, a2, a3, a4, a5⟩ := hI
  have e6 : t 146 6 = s 146 6 := h4 _ _ rfl (by omega) (by omega) (by omega) (by omega)
  refine ⟨by rw [e6, h4 0 3 rfl (by omega) (by omega) (by omega) (by omega)]; exact a1, by rw [e6]; exact a2, by rw [e6]; exact a3, ?_, ?_⟩
  · intro i hi
    obtain ⟨b1, b2, b3, b4, b5, b6, b7, b8, b9, b10⟩ := a4 i hi
    rw [h4 (33 + 3 * i) 0 (g_2 (by omega) (by omega)) (by omega) (by omega) (by omega) (by omega), h4 152 i rfl (by omega) (by omega) (by omega) (by omega), h4 (33 + 3 * i) 1 (g_2 (by omega) (by omega)) (by omega) (by omega) (by omega) (by omega), h4 155 i rfl (by omega) (by omega) (by omega) (by omega), e6]
    refine ⟨b1, b2, b3, b4, b5, b6, ?_⟩
    by_cases e : i = A
    · subst e
      exact ⟨Int32.toInt_inj.mp (by rw [h1, h2]), by omega, by omega, b10⟩
    · rw [h4 (33 + 3 * i + 1) 0 (g_2 (by omega) (by omega)) (by omega) (by omega) (by omega) (by omega), h4 153 i rfl (by omega) (by omega) (by omega) (by omega)]
      exact ⟨b7, b8, b9, b10⟩
  · intro i k hi hk
    by_cases e : i = A
    · subst e
      exact h3 k (by omega)
    · rw [h4 153 i rfl (by omega) (by omega) (by omega) (by omega)] at hk
      obtain ⟨_, _, _, _, _, _, _, _, b9, _⟩ := a4 i hi
      rw [h4 (33 + 3 * i + 1 + 1) k (g_2 (by omega) (by omega)) (by omega) (by omega) (by omega) (by omega), h4 154 (10 * i + k) rfl (by omega) (by omega) (by omega) (by omega)]
      exact a5 i k hi hk
/-- only the bills' rows have changed, none of them the floor's while motions name it -/
theorem Inv_row {s t : jg_H} (hI : Inv s) (hf : f_only 2 s t) (h152 : t 152 = s 152) (h6 : t 146 6 = s 146 6) (hu : 0 ≤ (s 146 13).toInt → t 153 (s 146 13).toInt.toNat = s 153 (s 146 13).toInt.toNat) (hb : I_bil t) : Inv t := by
  obtain ⟨hm, hb0, hc, hp, ht, hx, hr, hz, hy, hk⟩ := hI
  have hs := fun k' hk' => fo_same hf (k' := k') hk'
  have h13 : t 146 13 = s 146 13 := hs 3 (by decide) 146 13 rfl
  refine ⟨fr_mem (hs 1 (by decide)) hm, hb, fr_cal (hs 3 (by decide)) h152 (Int.le_of_eq (congrArg _ h6.symm)) hc, ?_, ?_, fr_txt (hs 6 (by decide)) hx, fr_tap (hs 7 (by decide)) hr, fr_mis (hs 8 (by decide)) hz, fr_try (hs 10 (by decide)) hy, fr_cst (hs 9 (by decide)) hk⟩
  · obtain ⟨p1, p2, p3, p4, p5⟩ := hp
    have h := hs 4 (by decide)
    refine ⟨by rw [h 60 0 rfl, h 146 18 rfl]; exact p1, by rw [h 146 18 rfl]; exact p2, by rw [h 146 18 rfl]; exact p3, by rw [h 60 1 rfl]; exact p4, ?_⟩
    intro i hi
    rw [h 146 18 rfl] at hi
    have hi8 : i < 8 := by omega
    obtain ⟨b1, b2, b3, b4, b5, b6, b7, b8, b9, b10, b11⟩ := p5 i hi
    rw [h 61 i rfl, h 62 i rfl, h 63 i rfl, h 64 i rfl, h 157 i (g_4 (by omega) (by omega) hi8), h 158 i (g_4 (by omega) (by omega) hi8), h 159 i (g_4 (by omega) (by omega) hi8), h 160 i (g_4 (by omega) (by omega) hi8), h 161 i (g_4 (by omega) (by omega) hi8), hs 1 (by decide) 146 0 rfl, hs 6 (by decide) 146 14 rfl, h13]
    refine ⟨b1, b2, b3, b4, b5, b6, b7, b8, b9, b10, b11.1, ?_⟩
    intro e
    have : ¬ s 157 i = 6 := by intro e'; rw [e'] at e; exact absurd e.2 (by decide)
    rw [hu (b10 this)]
    exact b11.2 e
  · obtain ⟨p1, p2, p3, p4, p5, p6⟩ := ht
    have h := hs 5 (by decide)
    refine ⟨by rw [h 66 0 rfl, h 146 19 rfl]; exact p1, by rw [h 146 19 rfl]; exact p2, by rw [h 146 19 rfl]; exact p3, by rw [h 66 1 rfl]; exact p4, by rw [h 146 19 rfl, h13]; exact p5, ?_⟩
    intro i hi
    rw [h 146 19 rfl] at hi
    rw [h 67 i rfl, h 69 i rfl, h 70 i rfl, h 172 i rfl, h 173 i rfl, h 174 i rfl, h13, hu (p5 (by omega))]
    exact p6 i hi
theorem st_section {G : jv_X} {d : Nat} {s : jg_H} (hI : Inv s) (a1 a2 : Int32) : q_P G (d + 3) 51 [.ref 0, .int a1, .int a2] s (fun r s' => q_P G (d + 3) 162 [.ref 146, .int a1, .int a2] s' (fun r' s'' => r = r' ∧ Inv s'')) := by
  have c1 := hI.2.1.1
  have c2 := hI.2.1.2.1
  have c3 := hI.2.1.2.2.1
  have c4 := key_bil hI.2.1 a1
  refine t_C_section (d := d + 1) a1 a2 ?_ ?_ ?_ ?_ ?_ ?six ?_ ?_
  case six =>
    intro h1 h2 h3 h4 h5 h6 h7
    have w1 : 0 ≤ a1.toInt ∧ a1.toInt < (s 146 6).toInt ∧ 1 ≤ a2.toInt ∧ a2.toInt ≤ 60 := by clear c4; ((try simp only [i_lt, i_le, i_eq, i_in, i_cn, Int32.toInt_add, Int32.toInt_sub, Int32.toInt_mul, Int32.toInt_neg, Int32.reduceToInt, Int.bmod_add_bmod, Int.add_bmod_bmod, Int.bmod_sub_bmod, Int.sub_bmod_bmod, Int.bmod_mul_bmod, Int.mul_bmod_bmod, Int.bmod_neg_bmod, Nat.reducePow, Int.reduceBmod, Int.reduceNeg, Int.reduceMul, Int.reduceAdd, Int.reduceSub, not_true_eq_false, not_false_eq_true] at *) <;> (try simp (disch := omega) only [i_bm'] at *) <;> omega)
    obtain ⟨w1, w2, w3, w4⟩ := w1
    have hA : a1.toNatClampNeg < 8 := by rw [i_cn]; omega
    have hAi : (a1.toNatClampNeg : Int) = a1.toInt := by rw [i_cn]; omega
    obtain ⟨e1, e2, e3, e4, e5, e6, e7, e8, e9⟩ := c4 w1 w2
    clear c4
    have hc8 := f_1_s2 (f_m32 hA)
    have hsz : (s (33 + 3 * a1.toNatClampNeg + 1) 0).toInt ≤ 9 := by clear e1 e2 e3 e4 e5 e6 e7; ((try simp only [i_lt, i_le, i_eq, i_in, i_cn, Int32.toInt_add, Int32.toInt_sub, Int32.toInt_mul, Int32.toInt_neg, Int32.reduceToInt, Int.bmod_add_bmod, Int.add_bmod_bmod, Int.bmod_sub_bmod, Int.sub_bmod_bmod, Int.bmod_mul_bmod, Int.mul_bmod_bmod, Int.bmod_neg_bmod, Nat.reducePow, Int.reduceBmod, Int.reduceNeg, Int.reduceMul, Int.reduceAdd, Int.reduceSub, not_true_eq_false, not_false_eq_true] at *) <;> (try simp (disch := omega) only [i_bm'] at *) <;> omega)
    obtain ⟨n, hn⟩ : ∃ n : Nat, (s 153 a1.toNatClampNeg).toInt = n := ⟨(s 153 a1.toNatClampNeg).toInt.toNat, by omega⟩
    have hn9 : n ≤ 9 := by rw [e7] at hsz; omega
    rw [e7]
    refine t_Sections_change (d := d) hc8 2 _ a2 ?_ ?_ ?_ ?_ ?_ ?_ ?_ ?last
    case last =>
      intro g1 g2 g3 g4
      refine sp_C_putIn (d := d) hc8 _ a2 n n hn (Nat.le_refl _) hn9 (by rw [e7]; exact hn) ?_
      intro t q1 q2 q3
      refine t_Sections_change_22 hc8 _ _ _ ?_
      refine t_C_section_63 _ _ hc8 _ ?_
      have z6 : t 146 6 = s 146 6 := q3 _ _ (by omega) (by omega)
      have z152 : t 152 = s 152 := funext fun j => q3 _ _ (by omega) (by omega)
      have z153 : t 153 = s 153 := funext fun j => q3 _ _ (by omega) (by omega)
      have z0 : s 152 a1.toNatClampNeg = 0 := by rw [← e1]; exact h6
      refine t_M_section (d := d) a1 a2 ?_ ?_ ?_ ?_ ?_ ?_ ?_ ?_ ?_ ?_ ?_ ?fin ?_ ?_
      case fin =>
        intro u1 u2 u3 u4 u5 u6 s1 f1 s2 f2
        rw [z153] at f1
        have hix : (10 * a1 + s 153 a1.toNatClampNeg).toNatClampNeg = 10 * a1.toNatClampNeg + n := by
          clear f1 f2 u1 u2 u3 u4 u5 u6 g1 g2 g3 g4 h1 h2 h3 h4 h5 h6 h7 e1 e2 e3 e4 e5 e6 e7 q1 q2 q3 z6 z152 z153 z0
          rw [i_cn] at hAi
          (try simp only [i_lt, i_le, i_eq, i_in, i_cn, Int32.toInt_add, Int32.toInt_sub, Int32.toInt_mul, Int32.toInt_neg, Int32.reduceToInt, Int.bmod_add_bmod, Int.add_bmod_bmod, Int.bmod_sub_bmod, Int.sub_bmod_bmod, Int.bmod_mul_bmod, Int.mul_bmod_bmod, Int.bmod_neg_bmod, Nat.reducePow, Int.reduceBmod, Int.reduceNeg, Int.reduceMul, Int.reduceAdd, Int.reduceSub, not_true_eq_false, not_false_eq_true] at *) <;> (try simp (disch := omega) only [i_bm'] at *)
          omega
        rw [hix] at f1
        have k1 : s2 153 a1.toNatClampNeg = t (33 + 3 * a1.toNatClampNeg + 1) 0 := by
          refine Int32.toInt_inj.mp ?_
          subst f2; subst f1
          rw [u_hit, q1, u_c (by omega), z153]
          clear u1 u2 u3 u4 u5 u6 g1 g2 g3 g4 h1 h2 h3 h4 h5 h6 h7 e1 e2 e3 e4 e5 e6 e7 q1 q2 q3 z6 z152 z153 z0 hix
          ((try simp only [i_lt, i_le, i_eq, i_in, i_cn, Int32.toInt_add, Int32.toInt_sub, Int32.toInt_mul, Int32.toInt_neg, Int32.reduceToInt, Int.bmod_add_bmod, Int.add_bmod_bmod, Int.bmod_sub_bmod, Int.sub_bmod_bmod, Int.bmod_mul_bmod, Int.mul_bmod_bmod, Int.bmod_neg_bmod, Nat.reducePow, Int.reduceBmod, Int.reduceNeg, Int.reduceMul, Int.reduceAdd, Int.reduceSub, not_true_eq_false, not_false_eq_true] at *) <;> (try simp (disch := omega) only [i_bm'] at *) <;> omega)
        refine ⟨by rw [k1], ?_⟩
        have k2 : ∀ q j, ¬ (q = 33 + 3 * a1.toNatClampNeg + 1 ∧ j = 0) → ¬ (q = 153 ∧ j = a1.toNatClampNeg) → ¬ (q = 33 + 3 * a1.toNatClampNeg + 1 + 1 ∧ j ≤ n) → ¬ (q = 154 ∧ j = 10 * a1.toNatClampNeg + n) → s2 q j = s q j := by
          intro q j v1 v2 v3 v4
          subst f2; subst f1
          rw [u_r (by omega), u_r (by omega)]
          exact q3 q j v1 v3
        refine Inv_row hI ?_ ?_ (k2 _ _ (by omega) (by omega) (by omega) (by omega)) ?_ ?_
        · intro q j hg
          refine k2 q j ?_ ?_ ?_ ?_
          · rintro ⟨rfl, rfl⟩; exact hg (g_2 (by omega) (by omega))
          · rintro ⟨rfl, rfl⟩; exact hg rfl
          · rintro ⟨rfl, _⟩; exact hg (g_2 (by omega) (by omega))
          · rintro ⟨rfl, rfl⟩; exact hg rfl
        · funext j; exact k2 _ _ (by omega) (by omega) (by omega) (by omega)
        · intro hu
          have hup := hI.2.2.1.2.2.2.2.2.2.2.2 hu
          refine k2 _ _ (by omega) ?_ (by omega) (by omega)
          rintro ⟨_, e⟩
          rw [e, z0] at hup
          exact absurd hup (by decide)
        · refine b_row hI.2.1 _ hA (n + 1) (by omega) ?_ ?_ ?_ ?_
          · subst f2; subst f1
            rw [u_c (by omega), u_c (by omega), q1]; omega
          · rw [k1, q1]; omega
          · intro i hi
            have hl : s2 (33 + 3 * a1.toNatClampNeg + 1 + 1) i = f_put n a2 (s (33 + 3 * a1.toNatClampNeg + 1 + 1)) i := by
              subst f2; subst f1
              rw [u_c (by omega), u_c (by omega)]
              exact q2 i (by omega)
            by_cases e : i = n
            · subst e
              have hr : s2 154 (10 * a1.toNatClampNeg + i) = a2 := by
                subst f2; subst f1
                rw [u_c (by omega), u_hit]
              rw [hl, hr]
              unfold f_put
              rw [if_neg (by omega), if_pos rfl]
              exact ⟨rfl, w3, w4⟩
            · have hr : s2 154 (10 * a1.toNatClampNeg + i) = s 154 (10 * a1.toNatClampNeg + i) := k2 _ _ (by omega) (by omega) (by omega) (by omega)
              rw [hl, hr]
              unfold f_put
              rw [if_pos (by omega)]
              exact hI.2.1.2.2.2.2 _ i hA (by omega)
          · intro q j hg v1 v2 v3 v4
            exact k2 q j v1 v2 (fun e => v3 e.1) (by omega)
      all_goals (intros; subst_vars; first | (rw [i_in]; omega) | (exfalso; clear q1 q2 q3 e1 e2 e3 e4 e5 e6; rw [z6] at *; ((try simp only [i_lt, i_le, i_eq, i_in, i_cn, Int32.toInt_add, Int32.toInt_sub, Int32.toInt_mul, Int32.toInt_neg, Int32.reduceToInt, Int.bmod_add_bmod, Int.add_bmod_bmod, Int.bmod_sub_bmod, Int.sub_bmod_bmod, Int.bmod_mul_bmod, Int.mul_bmod_bmod, Int.bmod_neg_bmod, Nat.reducePow, Int.reduceBmod, Int.reduceNeg, Int.reduceMul, Int.reduceAdd, Int.reduceSub, not_true_eq_false, not_false_eq_true] at *) <;> (try simp (disch := omega) only [i_bm'] at *) <;> omega)) | (exfalso; rw [z153] at *; rw [‹s 153 _ = 10›] at hn; clear q1 q2 q3 e1 e2 e3 e4 e5 e6; ((try simp only [i_lt, i_le, i_eq, i_in, i_cn, Int32.toInt_add, Int32.toInt_sub, Int32.toInt_mul, Int32.toInt_neg, Int32.reduceToInt, Int.bmod_add_bmod, Int.add_bmod_bmod, Int.bmod_sub_bmod, Int.sub_bmod_bmod, Int.bmod_mul_bmod, Int.mul_bmod_bmod, Int.bmod_neg_bmod, Nat.reducePow, Int.reduceBmod, Int.reduceNeg, Int.reduceMul, Int.reduceAdd, Int.reduceSub, not_true_eq_false, not_false_eq_true] at *) <;> (try simp (disch := omega) only [i_bm'] at *) <;> omega)) | (exfalso; rw [z152] at *; exact absurd z0 ‹_›) | (rw [z153]; clear q1 q2 q3 e1 e2 e3 e4 e5 e6 e7 h1 h2 h3 h4 h5 h6 h7; ((try simp only [i_lt, i_le, i_eq, i_in, i_cn, Int32.toInt_add, Int32.toInt_sub, Int32.toInt_mul, Int32.toInt_neg, Int32.reduceToInt, Int.bmod_add_bmod, Int.add_bmod_bmod, Int.bmod_sub_bmod, Int.sub_bmod_bmod, Int.bmod_mul_bmod, Int.mul_bmod_bmod, Int.bmod_neg_bmod, Nat.reducePow, Int.reduceBmod, Int.reduceNeg, Int.reduceMul, Int.reduceAdd, Int.reduceSub, not_true_eq_false, not_false_eq_true] at *) <;> (try simp (disch := omega) only [i_bm'] at *) <;> omega)))
    all_goals (intros; exfalso; clear e1 e2 e3 e4 e5 e6; rw [e7] at *; ((try simp only [i_lt, i_le, i_eq, i_in, i_cn, Int32.toInt_add, Int32.toInt_sub, Int32.toInt_mul, Int32.toInt_neg, Int32.reduceToInt, Int.bmod_add_bmod, Int.add_bmod_bmod, Int.bmod_sub_bmod, Int.sub_bmod_bmod, Int.bmod_mul_bmod, Int.mul_bmod_bmod, Int.bmod_neg_bmod, Nat.reducePow, Int.reduceBmod, Int.reduceNeg, Int.reduceMul, Int.reduceAdd, Int.reduceSub, not_true_eq_false, not_false_eq_true] at *) <;> (try simp (disch := omega) only [i_bm'] at *) <;> omega))
  all_goals (intros; refine t_M_section (d := d) a1 a2 ?_ ?_ ?_ ?_ ?_ ?_ ?_ ?_ ?_ ?_ ?_ ?_ ?_ ?_ <;> intros <;> subst_vars <;> first | (exact ⟨rfl, hI⟩) | (exfalso; ((try simp only [i_lt, i_le, i_eq, i_in, i_cn, Int32.toInt_add, Int32.toInt_sub, Int32.toInt_mul, Int32.toInt_neg, Int32.reduceToInt, Int.bmod_add_bmod, Int.add_bmod_bmod, Int.bmod_sub_bmod, Int.sub_bmod_bmod, Int.bmod_mul_bmod, Int.mul_bmod_bmod, Int.bmod_neg_bmod, Nat.reducePow, Int.reduceBmod, Int.reduceNeg, Int.reduceMul, Int.reduceAdd, Int.reduceSub, not_true_eq_false, not_false_eq_true] at *) <;> (try simp (disch := omega) only [i_bm'] at *) <;> omega)) | ((try simp only [i_lt, i_le, i_eq, i_in, i_cn, Int32.toInt_add, Int32.toInt_sub, Int32.toInt_mul, Int32.toInt_neg, Int32.reduceToInt, Int.bmod_add_bmod, Int.add_bmod_bmod, Int.bmod_sub_bmod, Int.sub_bmod_bmod, Int.bmod_mul_bmod, Int.mul_bmod_bmod, Int.bmod_neg_bmod, Nat.reducePow, Int.reduceBmod, Int.reduceNeg, Int.reduceMul, Int.reduceAdd, Int.reduceSub, not_true_eq_false, not_false_eq_true] at *) <;> (try simp (disch := omega) only [i_bm'] at *) <;> omega) | (exfalso; (try simp only [i_lt, i_le, i_eq, i_in, i_cn, Int32.toInt_add, Int32.toInt_sub, Int32.toInt_mul, Int32.toInt_neg, Int32.reduceToInt, Int.bmod_add_bmod, Int.add_bmod_bmod, Int.bmod_sub_bmod, Int.sub_bmod_bmod, Int.bmod_mul_bmod, Int.mul_bmod_bmod, Int.bmod_neg_bmod, Nat.reducePow, Int.reduceBmod, Int.reduceNeg, Int.reduceMul, Int.reduceAdd, Int.reduceSub, not_true_eq_false, not_false_eq_true] at *); (try simp (disch := omega) only [u_hit, u_c, u_j] at *); ((try simp only [i_lt, i_le, i_eq, i_in, i_cn, Int32.toInt_add, Int32.toInt_sub, Int32.toInt_mul, Int32.toInt_neg, Int32.reduceToInt, Int.bmod_add_bmod, Int.add_bmod_bmod, Int.bmod_sub_bmod, Int.sub_bmod_bmod, Int.bmod_mul_bmod, Int.mul_bmod_bmod, Int.bmod_neg_bmod, Nat.reducePow, Int.reduceBmod, Int.reduceNeg, Int.reduceMul, Int.reduceAdd, Int.reduceSub, not_true_eq_false, not_false_eq_true] at *) <;> (try simp (disch := omega) only [i_bm'] at *) <;> omega)) | ((try simp only [i_lt, i_le, i_eq, i_in, i_cn, Int32.toInt_add, Int32.toInt_sub, Int32.toInt_mul, Int32.toInt_neg, Int32.reduceToInt, Int.bmod_add_bmod, Int.add_bmod_bmod, Int.bmod_sub_bmod, Int.sub_bmod_bmod, Int.bmod_mul_bmod, Int.mul_bmod_bmod, Int.bmod_neg_bmod, Nat.reducePow, Int.reduceBmod, Int.reduceNeg, Int.reduceMul, Int.reduceAdd, Int.reduceSub, not_true_eq_false, not_false_eq_true] at *); (try simp (disch := omega) only [u_hit, u_c, u_j] at *); ((try simp only [i_lt, i_le, i_eq, i_in, i_cn, Int32.toInt_add, Int32.toInt_sub, Int32.toInt_mul, Int32.toInt_neg, Int32.reduceToInt, Int.bmod_add_bmod, Int.add_bmod_bmod, Int.bmod_sub_bmod, Int.sub_bmod_bmod, Int.bmod_mul_bmod, Int.mul_bmod_bmod, Int.bmod_neg_bmod, Nat.reducePow, Int.reduceBmod, Int.reduceNeg, Int.reduceMul, Int.reduceAdd, Int.reduceSub, not_true_eq_false, not_false_eq_true] at *) <;> (try simp (disch := omega) only [i_bm'] at *) <;> omega)) | (refine ⟨r_i ?_, hI⟩; ((try simp only [i_lt, i_le, i_eq, i_in, i_cn, Int32.toInt_add, Int32.toInt_sub, Int32.toInt_mul, Int32.toInt_neg, Int32.reduceToInt, Int.bmod_add_bmod, Int.add_bmod_bmod, Int.bmod_sub_bmod, Int.sub_bmod_bmod, Int.bmod_mul_bmod, Int.mul_bmod_bmod, Int.bmod_neg_bmod, Nat.reducePow, Int.reduceBmod, Int.reduceNeg, Int.reduceMul, Int.reduceAdd, Int.reduceSub, not_true_eq_false, not_false_eq_true] at *) <;> (try simp (disch := omega) only [i_bm'] at *) <;> omega)) | skip)
