/-! steps with loops -/
theorem st_count {G : jv_X} {d : Nat} {s : jg_H} (hI : Inv s) (a1 : Int32) : q_P G (d + 2) 123 [.ref 0, .int a1] s (fun r s' => q_P G (d + 2) 214 [.ref 146, .int a1] s' (fun r' s'' => r = r' ∧ Inv s'')) := by
  have b1 := hI.1.1
  have b2 := hI.1.2.1
  have b3 := hI.1.2.2.1
  have c1 := hI.2.1.1
  have c2 := hI.2.1.2.1
  have c3 := hI.2.1.2.2.1
  have d1 := hI.2.2.1.1
  have d2 := hI.2.2.1.2.1
  have d6 := hI.2.2.1.2.2.2.2.2.1
  have d7 := hI.2.2.1.2.2.2.2.2.2.1
  have d8 := hI.2.2.1.2.2.2.2.2.2.2.1
  have p1 := hI.2.2.2.1.1
  have p2 := hI.2.2.2.1.2.1
  have p3 := hI.2.2.2.1.2.2.1
  have p4 := hI.2.2.2.1.2.2.2.1
  have t1 := hI.2.2.2.2.1.1
  have t2 := hI.2.2.2.2.1.2.1
  have t3 := hI.2.2.2.2.1.2.2.1
  have t4 := hI.2.2.2.2.1.2.2.2.1
  have x1 := hI.2.2.2.2.2.1.1
  have x2 := hI.2.2.2.2.2.1.2.1
  have x3 := hI.2.2.2.2.2.1.2.2.1
  have x4 := hI.2.2.2.2.2.1.2.2.2.1
  have x5 := hI.2.2.2.2.2.1.2.2.2.2.1
  have x6 := hI.2.2.2.2.2.1.2.2.2.2.2.1
  have r1 := hI.2.2.2.2.2.2.1.1
  have r2 := hI.2.2.2.2.2.2.1.2.1
  have r3 := hI.2.2.2.2.2.2.1.2.2.1
  obtain ⟨z1, z2, z3, z4, z5, z6, z7, z8, z9, z10, z11⟩ := hI.2.2.2.2.2.2.2.1
  refine t_C_count (d := d + 1) a1 ?_ ?two ?_ ?_ ?_ ?_ ?_ ?_ ?_ ?_ ?_ ?_ ?_
  case two =>
    intro h0 h1
    refine sp_C_there (s 146 0).toInt.toNat (by rw [b1]; omega) (by omega) ?_
    refine t_C_count_73 _ _ ?_
    refine t_M_count (d := d + 1) a1 ?_ ?two ?_ ?_ ?_ ?_ ?_ ?_ ?_ ?_ ?_ ?_ ?_
    case two =>
      intro g0 g1
      refine sp_M_there (s 146 0).toInt.toNat (by omega) (by omega) ?_
      refine t_M_count_73 _ _ ?_
      exact ⟨by rw [there_eq hI.1], hI⟩
    all_goals (intros; exfalso; ((try simp only [i_lt, i_le, i_eq, i_in, i_cn, Int32.toInt_add, Int32.toInt_sub, Int32.toInt_mul, Int32.toInt_neg, Int32.reduceToInt, Int.bmod_add_bmod, Int.add_bmod_bmod, Int.bmod_sub_bmod, Int.sub_bmod_bmod, Int.bmod_mul_bmod, Int.mul_bmod_bmod, Int.bmod_neg_bmod, Nat.reducePow, Int.reduceBmod, Int.reduceNeg, Int.reduceMul, Int.reduceAdd, Int.reduceSub, not_true_eq_false, not_false_eq_true] at *) <;> (try simp (disch := omega) only [i_bm'] at *) <;> omega))
  all_goals (intros; refine t_M_count (d := d + 1) a1 ?_ ?_ ?_ ?_ ?_ ?_ ?_ ?_ ?_ ?_ ?_ ?_ ?_ <;> intros <;> first | (exact ⟨rfl, hI⟩) | (exfalso; ((try simp only [i_lt, i_le, i_eq, i_in, i_cn, Int32.toInt_add, Int32.toInt_sub, Int32.toInt_mul, Int32.toInt_neg, Int32.reduceToInt, Int.bmod_add_bmod, Int.add_bmod_bmod, Int.bmod_sub_bmod, Int.sub_bmod_bmod, Int.bmod_mul_bmod, Int.mul_bmod_bmod, Int.bmod_neg_bmod, Nat.reducePow, Int.reduceBmod, Int.reduceNeg, Int.reduceMul, Int.reduceAdd, Int.reduceSub, not_true_eq_false, not_false_eq_true] at *) <;> (try simp (disch := omega) only [i_bm'] at *) <;> omega)) | ((try simp only [i_lt, i_le, i_eq, i_in, i_cn, Int32.toInt_add, Int32.toInt_sub, Int32.toInt_mul, Int32.toInt_neg, Int32.reduceToInt, Int.bmod_add_bmod, Int.add_bmod_bmod, Int.bmod_sub_bmod, Int.sub_bmod_bmod, Int.bmod_mul_bmod, Int.mul_bmod_bmod, Int.bmod_neg_bmod, Nat.reducePow, Int.reduceBmod, Int.reduceNeg, Int.reduceMul, Int.reduceAdd, Int.reduceSub, not_true_eq_false, not_false_eq_true] at *) <;> (try simp (disch := omega) only [i_bm'] at *) <;> omega) | (exfalso; (try simp only [i_lt, i_le, i_eq, i_in, i_cn, Int32.toInt_add, Int32.toInt_sub, Int32.toInt_mul, Int32.toInt_neg, Int32.reduceToInt, Int.bmod_add_bmod, Int.add_bmod_bmod, Int.bmod_sub_bmod, Int.sub_bmod_bmod, Int.bmod_mul_bmod, Int.mul_bmod_bmod, Int.bmod_neg_bmod, Nat.reducePow, Int.reduceBmod, Int.reduceNeg, Int.reduceMul, Int.reduceAdd, Int.reduceSub, not_true_eq_false, not_false_eq_true] at *); (try simp (disch := omega) only [u_hit, u_c, u_j] at *); ((try simp only [i_lt, i_le, i_eq, i_in, i_cn, Int32.toInt_add, Int32.toInt_sub, Int32.toInt_mul, Int32.toInt_neg, Int32.reduceToInt, Int.bmod_add_bmod, Int.add_bmod_bmod, Int.bmod_sub_bmod, Int.sub_bmod_bmod, Int.bmod_mul_bmod, Int.mul_bmod_bmod, Int.bmod_neg_bmod, Nat.reducePow, Int.reduceBmod, Int.reduceNeg, Int.reduceMul, Int.reduceAdd, Int.reduceSub, not_true_eq_false, not_false_eq_true] at *) <;> (try simp (disch := omega) only [i_bm'] at *) <;> omega)) | ((try simp only [i_lt, i_le, i_eq, i_in, i_cn, Int32.toInt_add, Int32.toInt_sub, Int32.toInt_mul, Int32.toInt_neg, Int32.reduceToInt, Int.bmod_add_bmod, Int.add_bmod_bmod, Int.bmod_sub_bmod, Int.sub_bmod_bmod, Int.bmod_mul_bmod, Int.mul_bmod_bmod, Int.bmod_neg_bmod, Nat.reducePow, Int.reduceBmod, Int.reduceNeg, Int.reduceMul, Int.reduceAdd, Int.reduceSub, not_true_eq_false, not_false_eq_true] at *); (try simp (disch := omega) only [u_hit, u_c, u_j] at *); ((try simp only [i_lt, i_le, i_eq, i_in, i_cn, Int32.toInt_add, Int32.toInt_sub, Int32.toInt_mul, Int32.toInt_neg, Int32.reduceToInt, Int.bmod_add_bmod, Int.add_bmod_bmod, Int.bmod_sub_bmod, Int.sub_bmod_bmod, Int.bmod_mul_bmod, Int.mul_bmod_bmod, Int.bmod_neg_bmod, Nat.reducePow, Int.reduceBmod, Int.reduceNeg, Int.reduceMul, Int.reduceAdd, Int.reduceSub, not_true_eq_false, not_false_eq_true] at *) <;> (try simp (disch := omega) only [i_bm'] at *) <;> omega)) | (refine ⟨r_i ?_, hI⟩; ((try simp only [i_lt, i_le, i_eq, i_in, i_cn, Int32.toInt_add, Int32.toInt_sub, Int32.toInt_mul, Int32.toInt_neg, Int32.reduceToInt, Int.bmod_add_bmod, Int.add_bmod_bmod, Int.bmod_sub_bmod, Int.sub_bmod_bmod, Int.bmod_mul_bmod, Int.mul_bmod_bmod, Int.bmod_neg_bmod, Nat.reducePow, Int.reduceBmod, Int.reduceNeg, Int.reduceMul, Int.reduceAdd, Int.reduceSub, not_true_eq_false, not_false_eq_true] at *) <;> (try simp (disch := omega) only [i_bm'] at *) <;> omega)) | skip)
theorem st_worth {G : jv_X} {d : Nat} {s : jg_H} (hI : Inv s) (a1 a2 : Int32) : q_P G (d + 3) 63 [.ref 0, .int a1, .int a2] s (fun r s' => q_P G (d + 3) 168 [.ref 146, .int a1, .int a2] s' (fun r' s'' => r = r' ∧ Inv s'')) := by
  have b1 := hI.1.1
  have b2 := hI.1.2.1
  have b3 := hI.1.2.2.1
  have c1 := hI.2.1.1
  have c2 := hI.2.1.2.1
  have c3 := hI.2.1.2.2.1
  have c4 := key_bil hI.2.1 a1
  refine t_C_worth (d := d + 1) a1 a2 ?_ ?_ ?_ ?_ ?_ ?_ ?last
  case last =>
    intro h1 h2 h3 h4 h5 h6
    have w1 : 0 ≤ a1.toInt ∧ a1.toInt < (s 146 6).toInt ∧ 0 ≤ a2.toInt ∧ a2.toInt < (s 146 0).toInt := by clear c4; ((try simp only [i_lt, i_le, i_eq, i_in, i_cn, Int32.toInt_add, Int32.toInt_sub, Int32.toInt_mul, Int32.toInt_neg, Int32.reduceToInt, Int.bmod_add_bmod, Int.add_bmod_bmod, Int.bmod_sub_bmod, Int.sub_bmod_bmod, Int.bmod_mul_bmod, Int.mul_bmod_bmod, Int.bmod_neg_bmod, Nat.reducePow, Int.reduceBmod, Int.reduceNeg, Int.reduceMul, Int.reduceAdd, Int.reduceSub, not_true_eq_false, not_false_eq_true] at *) <;> (try simp (disch := omega) only [i_bm'] at *) <;> omega)
    obtain ⟨w1, w2, w3, w4⟩ := w1
    have hA : a1.toNatClampNeg < 8 := by rw [i_cn]; omega
    have hM : a2.toNatClampNeg < 15 := by rw [i_cn]; omega
    obtain ⟨e1, e2, e3, e4, e5, e6, e7, e8, e9⟩ := c4 w1 w2
    refine sp_C_worth (d := d) (f_1_s2 (f_m32 hA)) (f_m1 hM) (s 153 a1.toNatClampNeg).toInt.toNat (by rw [e7]; omega) (by omega) ?_ ?_
    · intro i hi
      obtain ⟨b1, b2, b3⟩ := hI.2.1.2.2.2.2 a1.toNatClampNeg i hA (by omega)
      rw [b1]
      omega
    refine t_C_worth_38 _ _ _ ?_
    refine t_M_worth (d := d) a1 a2 ?_ ?_ ?_ ?_ ?last
    case last =>
      intro g1 g2 g3 g4
      refine sp_M_takes (d := d + 1) a1 w1 (by omega) (s 153 a1.toNatClampNeg).toInt.toNat (by omega) (by omega) ?_
      intro t q1 q2 q3
      refine t_M_worth_25 _ _ ?_
      refine sp_M_valued (d := d + 1) a2 w3 (by omega) (s 153 a1.toNatClampNeg).toInt.toNat (by rw [q1]; omega) (by omega) ?_ ?_
      · intro i hi
        obtain ⟨b1, b2, b3⟩ := hI.2.1.2.2.2.2 a1.toNatClampNeg i hA (by omega)
        rw [q2 i hi]
        omega
      refine t_M_worth_30 _ _ _ ?_
      refine ⟨?_, Inv_0 hI (fo_takes q3)⟩
      rw [wor_eq hI.1 hI.2.1 a1.toNatClampNeg hA a2 w3 (by omega) _ (by omega) q2 (funext fun i => q3 148 i (by decide) (fun e => absurd e (by decide)))]
    all_goals (intros; exfalso; clear c4 e1 e2 e3 e4 e5 e6 e7 e8 e9; ((try simp only [i_lt, i_le, i_eq, i_in, i_cn, Int32.toInt_add, Int32.toInt_sub, Int32.toInt_mul, Int32.toInt_neg, Int32.reduceToInt, Int.bmod_add_bmod, Int.add_bmod_bmod, Int.bmod_sub_bmod, Int.sub_bmod_bmod, Int.bmod_mul_bmod, Int.mul_bmod_bmod, Int.bmod_neg_bmod, Nat.reducePow, Int.reduceBmod, Int.reduceNeg, Int.reduceMul, Int.reduceAdd, Int.reduceSub, not_true_eq_false, not_false_eq_true] at *) <;> (try simp (disch := omega) only [i_bm'] at *) <;> omega))
  all_goals (clear c4; intros; refine t_M_worth (d := d) a1 a2 ?_ ?_ ?_ ?_ ?_ <;> intros <;> first | (exact ⟨rfl, hI⟩) | (exfalso; ((try simp only [i_lt, i_le, i_eq, i_in, i_cn, Int32.toInt_add, Int32.toInt_sub, Int32.toInt_mul, Int32.toInt_neg, Int32.reduceToInt, Int.bmod_add_bmod, Int.add_bmod_bmod, Int.bmod_sub_bmod, Int.sub_bmod_bmod, Int.bmod_mul_bmod, Int.mul_bmod_bmod, Int.bmod_neg_bmod, Nat.reducePow, Int.reduceBmod, Int.reduceNeg, Int.reduceMul, Int.reduceAdd, Int.reduceSub, not_true_eq_false, not_false_eq_true] at *) <;> (try simp (disch := omega) only [i_bm'] at *) <;> omega)) | ((try simp only [i_lt, i_le, i_eq, i_in, i_cn, Int32.toInt_add, Int32.toInt_sub, Int32.toInt_mul, Int32.toInt_neg, Int32.reduceToInt, Int.bmod_add_bmod, Int.add_bmod_bmod, Int.bmod_sub_bmod, Int.sub_bmod_bmod, Int.bmod_mul_bmod, Int.mul_bmod_bmod, Int.bmod_neg_bmod, Nat.reducePow, Int.reduceBmod, Int.reduceNeg, Int.reduceMul, Int.reduceAdd, Int.reduceSub, not_true_eq_false, not_false_eq_true] at *) <;> (try simp (disch := omega) only [i_bm'] at *) <;> omega) | (exfalso; (try simp only [i_lt, i_le, i_eq, i_in, i_cn, Int32.toInt_add, Int32.toInt_sub, Int32.toInt_mul, Int32.toInt_neg, Int32.reduceToInt, Int.bmod_add_bmod, Int.add_bmod_bmod, Int.bmod_sub_bmod, Int.sub_bmod_bmod, Int.bmod_mul_bmod, Int.mul_bmod_bmod, Int.bmod_neg_bmod, Nat.reducePow, Int.reduceBmod, Int.reduceNeg, Int.reduceMul, Int.reduceAdd, Int.reduceSub, not_true_eq_false, not_false_eq_true] at *); (try simp (disch := omega) only [u_hit, u_c, u_j] at *); ((try simp only [i_lt, i_le, i_eq, i_in, i_cn, Int32.toInt_add, Int32.toInt_sub, Int32.toInt_mul, Int32.toInt_neg, Int32.reduceToInt, Int.bmod_add_bmod, Int.add_bmod_bmod, Int.bmod_sub_bmod, Int.sub_bmod_bmod, Int.bmod_mul_bmod, Int.mul_bmod_bmod, Int.bmod_neg_bmod, Nat.reducePow, Int.reduceBmod, Int.reduceNeg, Int.reduceMul, Int.reduceAdd, Int.reduceSub, not_true_eq_false, not_false_eq_true] at *) <;> (try simp (disch := omega) only [i_bm'] at *) <;> omega)) | ((try simp only [i_lt, i_le, i_eq, i_in, i_cn, Int32.toInt_add, Int32.toInt_sub, Int32.toInt_mul, Int32.toInt_neg, Int32.reduceToInt, Int.bmod_add_bmod, Int.add_bmod_bmod, Int.bmod_sub_bmod, Int.sub_bmod_bmod, Int.bmod_mul_bmod, Int.mul_bmod_bmod, Int.bmod_neg_bmod, Nat.reducePow, Int.reduceBmod, Int.reduceNeg, Int.reduceMul, Int.reduceAdd, Int.reduceSub, not_true_eq_false, not_false_eq_true] at *); (try simp (disch := omega) only [u_hit, u_c, u_j] at *); ((try simp only [i_lt, i_le, i_eq, i_in, i_cn, Int32.toInt_add, Int32.toInt_sub, Int32.toInt_mul, Int32.toInt_neg, Int32.reduceToInt, Int.bmod_add_bmod, Int.add_bmod_bmod, Int.bmod_sub_bmod, Int.sub_bmod_bmod, Int.bmod_mul_bmod, Int.mul_bmod_bmod, Int.bmod_neg_bmod, Nat.reducePow, Int.reduceBmod, Int.reduceNeg, Int.reduceMul, Int.reduceAdd, Int.reduceSub, not_true_eq_false, not_false_eq_true] at *) <;> (try simp (disch := omega) only [i_bm'] at *) <;> omega)) | (refine ⟨r_i ?_, hI⟩; ((try simp only [i_lt, i_le, i_eq, i_in, i_cn, Int32.toInt_add, Int32.toInt_sub, Int32.toInt_mul, Int32.toInt_neg, Int32.reduceToInt, Int.bmod_add_bmod, Int.add_bmod_bmod, Int.bmod_sub_bmod, Int.sub_bmod_bmod, Int.bmod_mul_bmod, Int.mul_bmod_bmod, Int.bmod_neg_bmod, Nat.reducePow, Int.reduceBmod, Int.reduceNeg, Int.reduceMul, Int.reduceAdd, Int.reduceSub, not_true_eq_false, not_false_eq_true] at *) <;> (try simp (disch := omega) only [i_bm'] at *) <;> omega)) | skip)
theorem st_tray {G : jv_X} {d : Nat} {s : jg_H} (hI : Inv s) (a1 a2 : Int32) : q_P G (d + 3) 124 [.ref 0, .int a1, .int a2] s (fun r s' => q_P G (d + 3) 215 [.ref 146, .int a1, .int a2] s' (fun r' s'' => r = r' ∧ Inv s'')) := by
  refine t_C_tray (d := d + 1) a1 a2 ?_ ?_ ?three ?_ ?_
  case three =>
    intro h1 h2 h3 h4
    have w1 : 0 ≤ a1.toInt ∧ a1.toInt < 4 ∧ -1 ≤ a2.toInt ∧ a2.toInt ≤ 40 := by ((try simp only [i_lt, i_le, i_eq, i_in, i_cn, Int32.toInt_add, Int32.toInt_sub, Int32.toInt_mul, Int32.toInt_neg, Int32.reduceToInt, Int.bmod_add_bmod, Int.add_bmod_bmod, Int.bmod_sub_bmod, Int.sub_bmod_bmod, Int.bmod_mul_bmod, Int.mul_bmod_bmod, Int.bmod_neg_bmod, Nat.reducePow, Int.reduceBmod, Int.reduceNeg, Int.reduceMul, Int.reduceAdd, Int.reduceSub, not_true_eq_false, not_false_eq_true] at *) <;> (try simp (disch := omega) only [i_bm'] at *) <;> omega)
    obtain ⟨w1, w2, w3, w4⟩ := w1
    have hA : a1.toNatClampNeg < 4 := by rw [i_cn]; omega
    refine sp_C_reset (f_m137 hA) a2 ?_
    intro t q1 q2
    refine t_C_tray_34 _ _ ?_
    refine t_M_tray (d := d) a1 a2 ?_ ?_ ?_ ?four ?_ ?_
    case four =>
      intro g1 g2 g3 g4 s1 e
      subst e
      refine lp_M_tray a1 a2 w1 w2 ?_ 40 0 _ _ (by omega) ?_ (fun i hi => absurd hi (by omega)) (fun _ _ _ => rfl)
      · intro t' u1 u2
        refine ⟨rfl, ?_⟩
        have hf : f_only 10 s t' := by
          intro c j hg
          rw [u2 c j (by rintro ⟨rfl, _⟩; exact hg rfl), u_r (by rintro rfl _; exact hg rfl)]
          rw [q2 c j (by rintro ⟨rfl, _⟩; exact hg (g_10 (by omega) (by omega))), u_r (by rintro rfl _; exact hg (g_10 (by omega) (by omega)))]
        have f2 := fo_same hf (k' := 2) (by decide)
        obtain ⟨hm, hb, hc, hp, ht, hx, hr, hz, hy, hk⟩ := hI
        have hs := fun k' hk' => fo_same hf (k' := k') hk'
        have h3' := hs 3 (by decide)
        have hy' : I_try t' := by
          intro q hq
          obtain ⟨b1, b2, b3, b4⟩ := hy q hq
          by_cases e : q = a1.toNatClampNeg
          · subst e
            have y1 : t' (138 + 2 * a1.toNatClampNeg) 0 = a2 := by
              rw [u2 _ _ (by omega), u_c (by omega), q2 _ _ (by omega), u_hit]
            have y2 : t' 166 a1.toNatClampNeg = a2 := by
              rw [u2 _ _ (by omega), u_hit]
            rw [y1, y2]
            refine ⟨rfl, w3, w4, ?_⟩
            intro i hi
            have y3 : t' (138 + 2 * a1.toNatClampNeg + 1) i = 0 := by
              rw [u2 _ _ (by omega), u_c (by omega)]
              exact q1 i hi
            rw [y3, u1 i hi]
            exact ⟨Or.inl rfl, by decide, by decide, by decide, by decide⟩
          · have y1 : t' (138 + 2 * q) 0 = s (138 + 2 * q) 0 := by
              rw [u2 _ _ (by omega), u_c (by omega), q2 _ _ (by omega), u_c (by omega)]
            have y2 : t' 166 q = s 166 q := by
              rw [u2 _ _ (by omega), u_j e, q2 _ _ (by omega), u_c (by omega)]
            rw [y1, y2]
            refine ⟨b1, b2, b3, ?_⟩
            intro i hi
            have y3 : t' (138 + 2 * q + 1) i = s (138 + 2 * q + 1) i := by
              rw [u2 _ _ (by omega), u_c (by omega), q2 _ _ (by omega), u_c (by omega)]
            have y4 : t' 167 (40 * q + i) = s 167 (40 * q + i) := by
              rw [u2 _ _ (by omega), u_c (by omega), q2 _ _ (by omega), u_c (by omega)]
            rw [y3, y4]
            exact b4 i hi
        have f3 : t' 153 = s 153 := funext fun i => f2 153 i rfl
        exact ⟨fr_mem (hs 1 (by decide)) hm, fr_bil f2 hb, fr_cal h3' (funext fun i => f2 152 i rfl) (Int.le_of_eq (congrArg _ (f2 146 6 rfl).symm)) hc, fr_pil (hs 4 (by decide)) (Int.le_of_eq (congrArg _ (hs 1 (by decide) 146 0 rfl).symm)) (Int.le_of_eq (congrArg _ (hs 6 (by decide) 146 14 rfl).symm)) (h3' 146 13 rfl) f3 hp, fr_tol (hs 5 (by decide)) (h3' 146 13 rfl) f3 ht, fr_txt (hs 6 (by decide)) hx, fr_tap (hs 7 (by decide)) hr, fr_mis (hs 8 (by decide)) hz, hy', fr_cst (hs 9 (by decide)) hk⟩
      · rw [i_cn]
        ((try simp only [i_lt, i_le, i_eq, i_in, i_cn, Int32.toInt_add, Int32.toInt_sub, Int32.toInt_mul, Int32.toInt_neg, Int32.reduceToInt, Int.bmod_add_bmod, Int.add_bmod_bmod, Int.bmod_sub_bmod, Int.sub_bmod_bmod, Int.bmod_mul_bmod, Int.mul_bmod_bmod, Int.bmod_neg_bmod, Nat.reducePow, Int.reduceBmod, Int.reduceNeg, Int.reduceMul, Int.reduceAdd, Int.reduceSub, not_true_eq_false, not_false_eq_true] at *) <;> (try simp (disch := omega) only [i_bm'] at *) <;> omega)
    all_goals (intros; first | (exfalso; ((try simp only [i_lt, i_le, i_eq, i_in, i_cn, Int32.toInt_add, Int32.toInt_sub, Int32.toInt_mul, Int32.toInt_neg, Int32.reduceToInt, Int.bmod_add_bmod, Int.add_bmod_bmod, Int.bmod_sub_bmod, Int.sub_bmod_bmod, Int.bmod_mul_bmod, Int.mul_bmod_bmod, Int.bmod_neg_bmod, Nat.reducePow, Int.reduceBmod, Int.reduceNeg, Int.reduceMul, Int.reduceAdd, Int.reduceSub, not_true_eq_false, not_false_eq_true] at *) <;> (try simp (disch := omega) only [i_bm'] at *) <;> omega)) | ((try simp only [i_lt, i_le, i_eq, i_in, i_cn, Int32.toInt_add, Int32.toInt_sub, Int32.toInt_mul, Int32.toInt_neg, Int32.reduceToInt, Int.bmod_add_bmod, Int.add_bmod_bmod, Int.bmod_sub_bmod, Int.sub_bmod_bmod, Int.bmod_mul_bmod, Int.mul_bmod_bmod, Int.bmod_neg_bmod, Nat.reducePow, Int.reduceBmod, Int.reduceNeg, Int.reduceMul, Int.reduceAdd, Int.reduceSub, not_true_eq_false, not_false_eq_true] at *) <;> (try simp (disch := omega) only [i_bm'] at *) <;> omega))
  all_goals (intros; refine t_M_tray (d := d) a1 a2 ?_ ?_ ?_ ?_ ?_ ?_ <;> intros <;> first | (exact ⟨rfl, hI⟩) | (exfalso; ((try simp only [i_lt, i_le, i_eq, i_in, i_cn, Int32.toInt_add, Int32.toInt_sub, Int32.toInt_mul, Int32.toInt_neg, Int32.reduceToInt, Int.bmod_add_bmod, Int.add_bmod_bmod, Int.bmod_sub_bmod, Int.sub_bmod_bmod, Int.bmod_mul_bmod, Int.mul_bmod_bmod, Int.bmod_neg_bmod, Nat.reducePow, Int.reduceBmod, Int.reduceNeg, Int.reduceMul, Int.reduceAdd, Int.reduceSub, not_true_eq_false, not_false_eq_true] at *) <;> (try simp (disch := omega) only [i_bm'] at *) <;> omega)) | ((try simp only [i_lt, i_le, i_eq, i_in, i_cn, Int32.toInt_add, Int32.toInt_sub, Int32.toInt_mul, Int32.toInt_neg, Int32.reduceToInt, Int.bmod_add_bmod, Int.add_bmod_bmod, Int.bmod_sub_bmod, Int.sub_bmod_bmod, Int.bmod_mul_bmod, Int.mul_bmod_bmod, Int.bmod_neg_bmod, Nat.reducePow, Int.reduceBmod, Int.reduceNeg, Int.reduceMul, Int.reduceAdd, Int.reduceSub, not_true_eq_false, not_false_eq_true] at *) <;> (try simp (disch := omega) only [i_bm'] at *) <;> omega) | (exfalso; (try simp only [i_lt, i_le, i_eq, i_in, i_cn, Int32.toInt_add, Int32.toInt_sub, Int32.toInt_mul, Int32.toInt_neg, Int32.reduceToInt, Int.bmod_add_bmod, Int.add_bmod_bmod, Int.bmod_sub_bmod, Int.sub_bmod_bmod, Int.bmod_mul_bmod, Int.mul_bmod_bmod, Int.bmod_neg_bmod, Nat.reducePow, Int.reduceBmod, Int.reduceNeg, Int.reduceMul, Int.reduceAdd, Int.reduceSub, not_true_eq_false, not_false_eq_true] at *); (try simp (disch := omega) only [u_hit, u_c, u_j] at *); ((try simp only [i_lt, i_le, i_eq, i_in, i_cn, Int32.toInt_add, Int32.toInt_sub, Int32.toInt_mul, Int32.toInt_neg, Int32.reduceToInt, Int.bmod_add_bmod, Int.add_bmod_bmod, Int.bmod_sub_bmod, Int.sub_bmod_bmod, Int.bmod_mul_bmod, Int.mul_bmod_bmod, Int.bmod_neg_bmod, Nat.reducePow, Int.reduceBmod, Int.reduceNeg, Int.reduceMul, Int.reduceAdd, Int.reduceSub, not_true_eq_false, not_false_eq_true] at *) <;> (try simp (disch := omega) only [i_bm'] at *) <;> omega)) | ((try simp only [i_lt, i_le, i_eq, i_in, i_cn, Int32.toInt_add, Int32.toInt_sub, Int32.toInt_mul, Int32.toInt_neg, Int32.reduceToInt, Int.bmod_add_bmod, Int.add_bmod_bmod, Int.bmod_sub_bmod, Int.sub_bmod_bmod, Int.bmod_mul_bmod, Int.mul_bmod_bmod, Int.bmod_neg_bmod, Nat.reducePow, Int.reduceBmod, Int.reduceNeg, Int.reduceMul, Int.reduceAdd, Int.reduceSub, not_true_eq_false, not_false_eq_true] at *); (try simp (disch := omega) only [u_hit, u_c, u_j] at *); ((try simp only [i_lt, i_le, i_eq, i_in, i_cn, Int32.toInt_add, Int32.toInt_sub, Int32.toInt_mul, Int32.toInt_neg, Int32.reduceToInt, Int.bmod_add_bmod, Int.add_bmod_bmod, Int.bmod_sub_bmod, Int.sub_bmod_bmod, Int.bmod_mul_bmod, Int.mul_bmod_bmod, Int.bmod_neg_bmod, Nat.reducePow, Int.reduceBmod, Int.reduceNeg, Int.reduceMul, Int.reduceAdd, Int.reduceSub, not_true_eq_false, not_false_eq_true] at *) <;> (try simp (disch := omega) only [i_bm'] at *) <;> omega)) | (refine ⟨r_i ?_, hI⟩; ((try simp only [i_lt, i_le, i_eq, i_in, i_cn, Int32.toInt_add, Int32.toInt_sub, Int32.toInt_mul, Int32.toInt_neg, Int32.reduceToInt, Int.bmod_add_bmod, Int.add_bmod_bmod, Int.bmod_sub_bmod, Int.sub_bmod_bmod, Int.bmod_mul_bmod, Int.mul_bmod_bmod, Int.bmod_neg_bmod, Nat.reducePow, Int.reduceBmod, Int.reduceNeg, Int.reduceMul, Int.reduceAdd, Int.reduceSub, not_true_eq_false, not_false_eq_true] at *) <;> (try simp (disch := omega) only [i_bm'] at *) <;> omega)) | skip)
