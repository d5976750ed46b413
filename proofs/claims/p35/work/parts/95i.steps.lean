/-! says and motion -/
set_option maxRecDepth 20000 in
theorem st_says {G : jv_X} {d : Nat} {s : jg_H} (hI : Inv s) (a1 a2 a3 a4 a5 a6 : Int32) : q_P G (d + 4) 71 [.ref 0, .int a1, .int a2, .int a3, .int a4, .int a5, .int a6] s (fun r s' => q_P G (d + 4) 177 [.ref 146, .int a1, .int a2, .int a3, .int a4, .int a5, .int a6] s' (fun r' s'' => r = r' ∧ Inv s'')) := by
  have x1 := hI.2.2.2.2.2.1.1
  have x2 := hI.2.2.2.2.2.1.2.1
  have x3 := hI.2.2.2.2.2.1.2.2.1
  have x4 := hI.2.2.2.2.2.1.2.2.2.1
  have x5 := hI.2.2.2.2.2.1.2.2.2.2.1
  have x6 := hI.2.2.2.2.2.1.2.2.2.2.2.1
  have p1 := hI.2.2.2.1.1
  refine t_C_says (d := d + 2) a1 a2 a3 a4 a5 a6 ?_ ?_ ?_ ?_ ?_ ?_ ?_ ?_ ?_ ?_ ?_ ?main ?_ ?_
  case main =>
    intro g1 g2 g3 g4 g5 g6 g7 g8 g9 g10 g11 g12 g13 s1 h1 s2 h2 s3 h3 s4 h4 s5 h5
    have f5 : ∀ c j, ¬ c = 120 → s5 c j = s c j := fun c j h => by rw [h5, u_c h, h4, u_c h, h3, u_c h, h2, u_c h, h1, u_c h]
    have fo : f_only 0 s s5 := fo_120 (fun c j h _ => f5 c j h)
    have e14 : s5 146 14 = s 146 14 := f5 _ _ (by decide)
    have ha : 0 ≤ a1.toInt := by clear h1 h2 h3 h4 h5 f5 fo hI; ((try simp only [i_lt, i_le, i_eq, i_in, i_cn, Int32.toInt_add, Int32.toInt_sub, Int32.toInt_mul, Int32.toInt_neg, Int32.reduceToInt, Int.bmod_add_bmod, Int.add_bmod_bmod, Int.bmod_sub_bmod, Int.sub_bmod_bmod, Int.bmod_mul_bmod, Int.mul_bmod_bmod, Int.bmod_neg_bmod, Nat.reducePow, Int.reduceBmod, Int.reduceNeg, Int.reduceMul, Int.reduceAdd, Int.reduceSub, not_true_eq_false, not_false_eq_true] at *) <;> (try simp (disch := omega) only [i_bm'] at *) <;> omega)
    have ha' : a1.toInt < (s 146 14).toInt := by clear h1 h2 h3 h4 h5 f5 fo hI; ((try simp only [i_lt, i_le, i_eq, i_in, i_cn, Int32.toInt_add, Int32.toInt_sub, Int32.toInt_mul, Int32.toInt_neg, Int32.reduceToInt, Int.bmod_add_bmod, Int.add_bmod_bmod, Int.bmod_sub_bmod, Int.sub_bmod_bmod, Int.bmod_mul_bmod, Int.mul_bmod_bmod, Int.bmod_neg_bmod, Nat.reducePow, Int.reduceBmod, Int.reduceNeg, Int.reduceMul, Int.reduceAdd, Int.reduceSub, not_true_eq_false, not_false_eq_true] at *) <;> (try simp (disch := omega) only [i_bm'] at *) <;> omega)
    have hp : 0 ≤ a2.toInt := by clear h1 h2 h3 h4 h5 f5 fo hI; ((try simp only [i_lt, i_le, i_eq, i_in, i_cn, Int32.toInt_add, Int32.toInt_sub, Int32.toInt_mul, Int32.toInt_neg, Int32.reduceToInt, Int.bmod_add_bmod, Int.add_bmod_bmod, Int.bmod_sub_bmod, Int.sub_bmod_bmod, Int.bmod_mul_bmod, Int.mul_bmod_bmod, Int.bmod_neg_bmod, Nat.reducePow, Int.reduceBmod, Int.reduceNeg, Int.reduceMul, Int.reduceAdd, Int.reduceSub, not_true_eq_false, not_false_eq_true] at *) <;> (try simp (disch := omega) only [i_bm'] at *) <;> omega)
    have hp' : a2.toInt < 4 := by clear h1 h2 h3 h4 h5 f5 fo hI; ((try simp only [i_lt, i_le, i_eq, i_in, i_cn, Int32.toInt_add, Int32.toInt_sub, Int32.toInt_mul, Int32.toInt_neg, Int32.reduceToInt, Int.bmod_add_bmod, Int.add_bmod_bmod, Int.bmod_sub_bmod, Int.sub_bmod_bmod, Int.bmod_mul_bmod, Int.mul_bmod_bmod, Int.bmod_neg_bmod, Nat.reducePow, Int.reduceBmod, Int.reduceNeg, Int.reduceMul, Int.reduceAdd, Int.reduceSub, not_true_eq_false, not_false_eq_true] at *) <;> (try simp (disch := omega) only [i_bm'] at *) <;> omega)
    refine sp_C_comesTo (d := d) (Inv_0 hI fo) a1 a2 ha (by rw [e14]; exact ha') hp hp' a3 (s 146 18) a4 a5 a6 ?_ ?_ ?_ ?_ ?_ ?_
    · rw [h5, u_j (by decide), h4, u_j (by decide), h3, u_j (by decide), h2, u_j (by decide), h1, u_hit]
    · rw [h5, u_j (by decide), h4, u_j (by decide), h3, u_j (by decide), h2, u_hit, p1]
    · rw [h5, u_j (by decide), h4, u_j (by decide), h3, u_hit]
    · rw [h5, u_j (by decide), h4, u_hit]
    · rw [h5, u_hit]
    · intro t ht
      have ft : f_only 0 s t := fun c j hg => (fo_120 ht c j hg).trans (fo c j hg)
      have hIt := Inv_0 hI ft
      have u14 : t 146 14 = s 146 14 := ft 146 14 (by decide : ¬ (6 : Nat) = 0)
      have u18 : t 146 18 = s 146 18 := ft 146 18 (by decide : ¬ (4 : Nat) = 0)
      rw [x_v_fr fo, ← x_v_fr ft]
      refine t_C_says_98 (d := d + 2) _ _ _ _ _ _ _ ?_
      clear h1 h2 h3 h4 h5 f5 ht
      refine t_M_says (d := d + 2) a1 a2 a3 a4 a5 a6 ?_ ?_ ?_ ?_ ?_ ?_ ?_ ?_ ?_ ?_ ?_ ?_ ?m2
      case m2 =>
        intros
        rw [u18]
        refine sp_M_worked (d := d) (J_I hIt) a1 a2 a3 a4 (s 146 18) a5 a6 ha (by rw [u14]; exact ha') hp hp' ?_
        intro t2 ht2
        exact t_M_says_94 (d := d + 2) _ _ _ _ _ _ _ _ ⟨rfl, Inv_0 hIt (fo_170 ht2)⟩
      all_goals (intros; exfalso; rw [u14] at *; clear fo ft hIt hI; ((try simp only [i_lt, i_le, i_eq, i_in, i_cn, Int32.toInt_add, Int32.toInt_sub, Int32.toInt_mul, Int32.toInt_neg, Int32.reduceToInt, Int.bmod_add_bmod, Int.add_bmod_bmod, Int.bmod_sub_bmod, Int.sub_bmod_bmod, Int.bmod_mul_bmod, Int.mul_bmod_bmod, Int.bmod_neg_bmod, Nat.reducePow, Int.reduceBmod, Int.reduceNeg, Int.reduceMul, Int.reduceAdd, Int.reduceSub, not_true_eq_false, not_false_eq_true] at *) <;> (try simp (disch := omega) only [i_bm'] at *) <;> omega))
  all_goals (intros; refine t_M_says (d := d + 2) a1 a2 a3 a4 a5 a6 ?_ ?_ ?_ ?_ ?_ ?_ ?_ ?_ ?_ ?_ ?_ ?_ ?_ <;> intros <;> first | (exact ⟨rfl, hI⟩) | (exfalso; clear hI; ((try simp only [i_lt, i_le, i_eq, i_in, i_cn, Int32.toInt_add, Int32.toInt_sub, Int32.toInt_mul, Int32.toInt_neg, Int32.reduceToInt, Int.bmod_add_bmod, Int.add_bmod_bmod, Int.bmod_sub_bmod, Int.sub_bmod_bmod, Int.bmod_mul_bmod, Int.mul_bmod_bmod, Int.bmod_neg_bmod, Nat.reducePow, Int.reduceBmod, Int.reduceNeg, Int.reduceMul, Int.reduceAdd, Int.reduceSub, not_true_eq_false, not_false_eq_true] at *) <;> (try simp (disch := omega) only [i_bm'] at *) <;> omega)))
set_option maxRecDepth 20000 in
theorem st_motion {G : jv_X} {d : Nat} {s : jg_H} (hI : Inv s) (a1 a2 : Int32) : q_P G (d + 6) 103 [.ref 0, .int a1, .int a2] s (fun r s' => q_P G (d + 6) 202 [.ref 146, .int a1, .int a2] s' (fun r' s'' => r = r' ∧ Inv s'')) := by
  have b1 := hI.1.1
  have b2 := hI.1.2.1
  have b3 := hI.1.2.2.1
  have p1 := hI.2.2.2.1.1
  have p2 := hI.2.2.2.1.2.1
  have p3 := hI.2.2.2.1.2.2.1
  have p4 := hI.2.2.2.1.2.2.2.1
  have d1 := hI.2.2.1.1
  have d2 := hI.2.2.1.2.1
  have d6 := hI.2.2.1.2.2.2.2.2.1
  have d7 := hI.2.2.1.2.2.2.2.2.2.1
  have d8 := hI.2.2.1.2.2.2.2.2.2.2.1
  have c1 := hI.2.1.1
  have c2 := hI.2.1.2.1
  have c3 := hI.2.1.2.2.1
  have kp := key_pil hI.2.2.2.1 a1
  refine t_C_motion (d := d + 4) a1 a2 ?_ ?_ ?_ ?_ ?_ ?_ ?_ ?_ ?pl ?_ ?_ ?_ ?_ ?main ?_
  case main =>
    intro g1 g2 g3 g4 g5 g6 g7 g8
    have h0 : 0 ≤ a1.toInt := by clear kp hI; ((try simp only [i_lt, i_le, i_eq, i_in, i_cn, Int32.toInt_add, Int32.toInt_sub, Int32.toInt_mul, Int32.toInt_neg, Int32.reduceToInt, Int.bmod_add_bmod, Int.add_bmod_bmod, Int.bmod_sub_bmod, Int.sub_bmod_bmod, Int.bmod_mul_bmod, Int.mul_bmod_bmod, Int.bmod_neg_bmod, Nat.reducePow, Int.reduceBmod, Int.reduceNeg, Int.reduceMul, Int.reduceAdd, Int.reduceSub, not_true_eq_false, not_false_eq_true] at *) <;> (try simp (disch := omega) only [i_bm'] at *) <;> omega)
    have h1 : a1.toInt < (s 146 18).toInt := by clear kp hI; ((try simp only [i_lt, i_le, i_eq, i_in, i_cn, Int32.toInt_add, Int32.toInt_sub, Int32.toInt_mul, Int32.toInt_neg, Int32.reduceToInt, Int.bmod_add_bmod, Int.add_bmod_bmod, Int.bmod_sub_bmod, Int.sub_bmod_bmod, Int.bmod_mul_bmod, Int.mul_bmod_bmod, Int.bmod_neg_bmod, Nat.reducePow, Int.reduceBmod, Int.reduceNeg, Int.reduceMul, Int.reduceAdd, Int.reduceSub, not_true_eq_false, not_false_eq_true] at *) <;> (try simp (disch := omega) only [i_bm'] at *) <;> omega)
    obtain ⟨k1, k2, k3, k4, k5, k6, k7⟩ := kp h0 h1
    clear k7
    rw [k1, k4]
    refine sp_C_ruled (d := d + 1) hI 0 _ _ (by decide) (by decide) k5 k6 ?_
    intro t ht
    refine t_C_motion_115 (d := d + 4) _ _ _ ?_
    have hIt := Inv_0 hI ht
    have u18 : t 146 18 = s 146 18 := ht 146 18 (by decide : ¬ (4 : Nat) = 0)
    have u0 : t 146 0 = s 146 0 := ht 146 0 (by decide : ¬ (1 : Nat) = 0)
    have hN : a1.toNatClampNeg < 8 := by rw [i_cn]; omega
    have u57 : t 157 a1.toNatClampNeg = s 157 a1.toNatClampNeg := ht _ _ (by rw [g_4 (by decide) (by decide) hN]; decide)
    have u58 : t 158 a1.toNatClampNeg = s 158 a1.toNatClampNeg := ht _ _ (by rw [g_4 (by decide) (by decide) hN]; decide)
    have ji : jv_in a1 13 = true := by clear ht hIt hI u57 u58; ((try simp only [i_lt, i_le, i_eq, i_in, i_cn, Int32.toInt_add, Int32.toInt_sub, Int32.toInt_mul, Int32.toInt_neg, Int32.reduceToInt, Int.bmod_add_bmod, Int.add_bmod_bmod, Int.bmod_sub_bmod, Int.sub_bmod_bmod, Int.bmod_mul_bmod, Int.mul_bmod_bmod, Int.bmod_neg_bmod, Nat.reducePow, Int.reduceBmod, Int.reduceNeg, Int.reduceMul, Int.reduceAdd, Int.reduceSub, not_true_eq_false, not_false_eq_true] at *) <;> (try simp (disch := omega) only [i_bm'] at *) <;> omega)
    refine t_M_motion (d := d + 4) a1 a2 ?_ ?_ ?_ ?_ ?_ ?_ ?_ ?_ ?_ ?_ ?_ ?_ ?_ ?_ ?_ ?m2 ?_
    case m2 =>
      intros
      rw [u57, u58]
      refine sp_M_ranked (d := d + 1) (J_I hIt) _ _ k5 (by rw [u0]; exact k6) ?_
      intro t2 ht2
      refine t_M_motion_117 (d := d + 4) _ _ _ ⟨?_, Inv_0 hIt ht2⟩
      rw [x_r_fr ht]
      rfl
    all_goals (intros; first | exact ji | (exfalso; (try rw [u18] at *); clear ht hIt hI u57 u58 kp; ((try simp only [i_lt, i_le, i_eq, i_in, i_cn, Int32.toInt_add, Int32.toInt_sub, Int32.toInt_mul, Int32.toInt_neg, Int32.reduceToInt, Int.bmod_add_bmod, Int.add_bmod_bmod, Int.bmod_sub_bmod, Int.sub_bmod_bmod, Int.bmod_mul_bmod, Int.mul_bmod_bmod, Int.bmod_neg_bmod, Nat.reducePow, Int.reduceBmod, Int.reduceNeg, Int.reduceMul, Int.reduceAdd, Int.reduceSub, not_true_eq_false, not_false_eq_true] at *) <;> (try simp (disch := omega) only [i_bm'] at *) <;> omega)))
  case pl =>
    intro g1 g2 g3 g4 g5 g6
    have h0 : 0 ≤ a1.toInt := by clear kp hI; ((try simp only [i_lt, i_le, i_eq, i_in, i_cn, Int32.toInt_add, Int32.toInt_sub, Int32.toInt_mul, Int32.toInt_neg, Int32.reduceToInt, Int.bmod_add_bmod, Int.add_bmod_bmod, Int.bmod_sub_bmod, Int.sub_bmod_bmod, Int.bmod_mul_bmod, Int.mul_bmod_bmod, Int.bmod_neg_bmod, Nat.reducePow, Int.reduceBmod, Int.reduceNeg, Int.reduceMul, Int.reduceAdd, Int.reduceSub, not_true_eq_false, not_false_eq_true] at *) <;> (try simp (disch := omega) only [i_bm'] at *) <;> omega)
    have h1 : a1.toInt < (s 146 18).toInt := by clear kp hI; ((try simp only [i_lt, i_le, i_eq, i_in, i_cn, Int32.toInt_add, Int32.toInt_sub, Int32.toInt_mul, Int32.toInt_neg, Int32.reduceToInt, Int.bmod_add_bmod, Int.add_bmod_bmod, Int.bmod_sub_bmod, Int.sub_bmod_bmod, Int.bmod_mul_bmod, Int.mul_bmod_bmod, Int.bmod_neg_bmod, Nat.reducePow, Int.reduceBmod, Int.reduceNeg, Int.reduceMul, Int.reduceAdd, Int.reduceSub, not_true_eq_false, not_false_eq_true] at *) <;> (try simp (disch := omega) only [i_bm'] at *) <;> omega)
    obtain ⟨k1, k2, k3, k4, k5, k6, k7, k8, k9, k10, k11⟩ := kp h0 h1
    have ji : jv_in a1 13 = true := by clear hI k1 k2 k3 k4 k5 k6 k7 k8 k9 k10 k11 kp; ((try simp only [i_lt, i_le, i_eq, i_in, i_cn, Int32.toInt_add, Int32.toInt_sub, Int32.toInt_mul, Int32.toInt_neg, Int32.reduceToInt, Int.bmod_add_bmod, Int.add_bmod_bmod, Int.bmod_sub_bmod, Int.sub_bmod_bmod, Int.bmod_mul_bmod, Int.mul_bmod_bmod, Int.bmod_neg_bmod, Nat.reducePow, Int.reduceBmod, Int.reduceNeg, Int.reduceMul, Int.reduceAdd, Int.reduceSub, not_true_eq_false, not_false_eq_true] at *) <;> (try simp (disch := omega) only [i_bm'] at *) <;> omega)
    have hN : a1.toNatClampNeg < 8 := by rw [i_cn]; omega
    have pl : (s 161 a1.toNatClampNeg = 0 → s 63 a1.toNatClampNeg = s 159 a1.toNatClampNeg) ∧ (¬ s 161 a1.toNatClampNeg = 0 → 0 ≤ (s 146 13).toInt ∧ s 63 a1.toNatClampNeg = s 153 (s 146 13).toInt.toNat) := by
      obtain ⟨q1, q2⟩ := k11
      by_cases hk : 1 ≤ (s 157 a1.toNatClampNeg).toInt ∧ (s 157 a1.toNatClampNeg).toInt ≤ 3
      · rcases q2 hk with ⟨e1, e2, e3, _⟩ | ⟨e1, e2, e3, e4⟩
        · refine ⟨fun e => absurd (e1.symm.trans e) (by decide), fun _ => ⟨k10 (by rw [e2]; decide), e3⟩⟩
        · exact ⟨fun _ => e2, fun e => absurd e1 e⟩
      · obtain ⟨e1, e2, e3⟩ := q1 (by omega)
        exact ⟨fun _ => e1.trans e2.symm, fun e => absurd e3 e⟩
    have hup : 0 ≤ (s 146 13).toInt → jv_in (s 146 13) 8 = true := by clear hI k1 k2 k3 k4 k5 k6 k7 k8 k9 k10 k11 kp pl ji g1 g2 g3; intro; ((try simp only [i_lt, i_le, i_eq, i_in, i_cn, Int32.toInt_add, Int32.toInt_sub, Int32.toInt_mul, Int32.toInt_neg, Int32.reduceToInt, Int.bmod_add_bmod, Int.add_bmod_bmod, Int.bmod_sub_bmod, Int.sub_bmod_bmod, Int.bmod_mul_bmod, Int.mul_bmod_bmod, Int.bmod_neg_bmod, Nat.reducePow, Int.reduceBmod, Int.reduceNeg, Int.reduceMul, Int.reduceAdd, Int.reduceSub, not_true_eq_false, not_false_eq_true] at *) <;> (try simp (disch := omega) only [i_bm'] at *) <;> omega)
    clear k1 k2 k3 k4 k5 k6 k7 k8 k9 k10 k11 kp
    refine t_M_motion (d := d + 4) a1 a2 ?_ ?_ ?_ ?_ ?_ ?_ ?_ ?_ ?ra ?rb ?rc ?_ ?_ ?_ ?_ ?_ ?_
    case ra => intro _ _ _ _ _ e; exact ⟨by rw [pl.1 e], hI⟩
    case rb => intro _ _ _ _ _ e; exact hup (pl.2 e).1
    case rc => intro _ _ _ _ _ e; exact ⟨by rw [(pl.2 e).2]; rfl, hI⟩
    all_goals (intros; first | exact ji | (exfalso; clear hI pl; ((try simp only [i_lt, i_le, i_eq, i_in, i_cn, Int32.toInt_add, Int32.toInt_sub, Int32.toInt_mul, Int32.toInt_neg, Int32.reduceToInt, Int.bmod_add_bmod, Int.add_bmod_bmod, Int.bmod_sub_bmod, Int.sub_bmod_bmod, Int.bmod_mul_bmod, Int.mul_bmod_bmod, Int.bmod_neg_bmod, Nat.reducePow, Int.reduceBmod, Int.reduceNeg, Int.reduceMul, Int.reduceAdd, Int.reduceSub, not_true_eq_false, not_false_eq_true] at *) <;> (try simp (disch := omega) only [i_bm'] at *) <;> omega)))
  all_goals (
    intros
    first
    | (clear hI kp; ((try simp only [i_lt, i_le, i_eq, i_in, i_cn, Int32.toInt_add, Int32.toInt_sub, Int32.toInt_mul, Int32.toInt_neg, Int32.reduceToInt, Int.bmod_add_bmod, Int.add_bmod_bmod, Int.bmod_sub_bmod, Int.sub_bmod_bmod, Int.bmod_mul_bmod, Int.mul_bmod_bmod, Int.bmod_neg_bmod, Nat.reducePow, Int.reduceBmod, Int.reduceNeg, Int.reduceMul, Int.reduceAdd, Int.reduceSub, not_true_eq_false, not_false_eq_true] at *) <;> (try simp (disch := omega) only [i_bm'] at *) <;> omega))
    | (refine t_M_motion (d := d + 4) a1 a2 ?_ ?_ ?_ ?_ ?_ ?_ ?_ ?_ ?_ ?_ ?_ ?_ ?_ ?_ ?_ ?_ ?_ <;> intros <;> first
      | (exact ⟨rfl, hI⟩) | (exfalso; clear hI kp; ((try simp only [i_lt, i_le, i_eq, i_in, i_cn, Int32.toInt_add, Int32.toInt_sub, Int32.toInt_mul, Int32.toInt_neg, Int32.reduceToInt, Int.bmod_add_bmod, Int.add_bmod_bmod, Int.bmod_sub_bmod, Int.sub_bmod_bmod, Int.bmod_mul_bmod, Int.mul_bmod_bmod, Int.bmod_neg_bmod, Nat.reducePow, Int.reduceBmod, Int.reduceNeg, Int.reduceMul, Int.reduceAdd, Int.reduceSub, not_true_eq_false, not_false_eq_true] at *) <;> (try simp (disch := omega) only [i_bm'] at *) <;> omega)) | (clear hI kp; ((try simp only [i_lt, i_le, i_eq, i_in, i_cn, Int32.toInt_add, Int32.toInt_sub, Int32.toInt_mul, Int32.toInt_neg, Int32.reduceToInt, Int.bmod_add_bmod, Int.add_bmod_bmod, Int.bmod_sub_bmod, Int.sub_bmod_bmod, Int.bmod_mul_bmod, Int.mul_bmod_bmod, Int.bmod_neg_bmod, Nat.reducePow, Int.reduceBmod, Int.reduceNeg, Int.reduceMul, Int.reduceAdd, Int.reduceSub, not_true_eq_false, not_false_eq_true] at *) <;> (try simp (disch := omega) only [i_bm'] at *) <;> omega))
      | (refine ⟨?_, hI⟩; have h0 : 0 ≤ a1.toInt := (by clear kp hI; ((try simp only [i_lt, i_le, i_eq, i_in, i_cn, Int32.toInt_add, Int32.toInt_sub, Int32.toInt_mul, Int32.toInt_neg, Int32.reduceToInt, Int.bmod_add_bmod, Int.add_bmod_bmod, Int.bmod_sub_bmod, Int.sub_bmod_bmod, Int.bmod_mul_bmod, Int.mul_bmod_bmod, Int.bmod_neg_bmod, Nat.reducePow, Int.reduceBmod, Int.reduceNeg, Int.reduceMul, Int.reduceAdd, Int.reduceSub, not_true_eq_false, not_false_eq_true] at *) <;> (try simp (disch := omega) only [i_bm'] at *) <;> omega)); have h1 : a1.toInt < (s 146 18).toInt := (by clear kp hI; ((try simp only [i_lt, i_le, i_eq, i_in, i_cn, Int32.toInt_add, Int32.toInt_sub, Int32.toInt_mul, Int32.toInt_neg, Int32.reduceToInt, Int.bmod_add_bmod, Int.add_bmod_bmod, Int.bmod_sub_bmod, Int.sub_bmod_bmod, Int.bmod_mul_bmod, Int.mul_bmod_bmod, Int.bmod_neg_bmod, Nat.reducePow, Int.reduceBmod, Int.reduceNeg, Int.reduceMul, Int.reduceAdd, Int.reduceSub, not_true_eq_false, not_false_eq_true] at *) <;> (try simp (disch := omega) only [i_bm'] at *) <;> omega)); obtain ⟨k1, k2, k3, k4, k5, k6, k7, k8, k9, k10, k11⟩ := kp h0 h1; first | rw [k1] | rw [k4] | rw [k7])))
