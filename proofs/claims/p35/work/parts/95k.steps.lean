/-! would -/
set_option maxRecDepth 20000 in
theorem st_would {G : jv_X} {d : Nat} {s : jg_H} (hI : Inv s) (a1 : Int32) : q_P G (d + 6) 102 [.ref 0, .int a1] s (fun r s' => q_P G (d + 6) 201 [.ref 146, .int a1] s' (fun r' s'' => r = r' ∧ Inv s'')) := by
  have b1 := hI.1.1
  have b2 := hI.1.2.1
  have b3 := hI.1.2.2.1
  have p1 := hI.2.2.2.1.1
  have p2 := hI.2.2.2.1.2.1
  have p3 := hI.2.2.2.1.2.2.1
  have p4 := hI.2.2.2.1.2.2.2.1
  have d1 := hI.2.2.1.1
  have d2 := hI.2.2.1.2.1
  have d6 := hI.2.2.1.2.2.2.2.2.1
  have d7 := hI.2.2.1.2.2.2.2.2.2.1
  have d8 := hI.2.2.1.2.2.2.2.2.2.2.1
  have c1 := hI.2.1.1
  have c2 := hI.2.1.2.1
  have c3 := hI.2.1.2.2.1
  refine t2_C_would (d := d + 4) a1 ?_ ?_ ?_ ?_ ?_ ?_ ?main
  case main =>
    intro g1 g2 g3 g4 g5 g6
    have ha : 0 ≤ a1.toInt := by clear hI; ((try simp only [i_lt, i_le, i_eq, i_in, i_cn, Int32.toInt_add, Int32.toInt_sub, Int32.toInt_mul, Int32.toInt_neg, Int32.reduceToInt, Int.bmod_add_bmod, Int.add_bmod_bmod, Int.bmod_sub_bmod, Int.sub_bmod_bmod, Int.bmod_mul_bmod, Int.mul_bmod_bmod, Int.bmod_neg_bmod, Nat.reducePow, Int.reduceBmod, Int.reduceNeg, Int.reduceMul, Int.reduceAdd, Int.reduceSub, not_true_eq_false, not_false_eq_true] at *) <;> (try simp (disch := omega) only [i_bm'] at *) <;> omega)
    have ha' : a1.toInt < (s 146 0).toInt := by clear hI; ((try simp only [i_lt, i_le, i_eq, i_in, i_cn, Int32.toInt_add, Int32.toInt_sub, Int32.toInt_mul, Int32.toInt_neg, Int32.reduceToInt, Int.bmod_add_bmod, Int.add_bmod_bmod, Int.bmod_sub_bmod, Int.sub_bmod_bmod, Int.bmod_mul_bmod, Int.mul_bmod_bmod, Int.bmod_neg_bmod, Nat.reducePow, Int.reduceBmod, Int.reduceNeg, Int.reduceMul, Int.reduceAdd, Int.reduceSub, not_true_eq_false, not_false_eq_true] at *) <;> (try simp (disch := omega) only [i_bm'] at *) <;> omega)
    have hA : a1.toNatClampNeg < 15 := by rw [i_cn]; omega
    have hAn : (a1.toNatClampNeg : Int) < (s 146 0).toInt := by rw [i_cn]; omega
    have hi : 0 ≤ ((s 146 18) - 1).toInt := by clear hI hA hAn; ((try simp only [i_lt, i_le, i_eq, i_in, i_cn, Int32.toInt_add, Int32.toInt_sub, Int32.toInt_mul, Int32.toInt_neg, Int32.reduceToInt, Int.bmod_add_bmod, Int.add_bmod_bmod, Int.bmod_sub_bmod, Int.sub_bmod_bmod, Int.bmod_mul_bmod, Int.mul_bmod_bmod, Int.bmod_neg_bmod, Nat.reducePow, Int.reduceBmod, Int.reduceNeg, Int.reduceMul, Int.reduceAdd, Int.reduceSub, not_true_eq_false, not_false_eq_true] at *) <;> (try simp (disch := omega) only [i_bm'] at *) <;> omega)
    have hi1 : ((s 146 18) - 1).toInt < (s 146 18).toInt := by clear hI hA hAn; ((try simp only [i_lt, i_le, i_eq, i_in, i_cn, Int32.toInt_add, Int32.toInt_sub, Int32.toInt_mul, Int32.toInt_neg, Int32.reduceToInt, Int.bmod_add_bmod, Int.add_bmod_bmod, Int.bmod_sub_bmod, Int.sub_bmod_bmod, Int.bmod_mul_bmod, Int.mul_bmod_bmod, Int.bmod_neg_bmod, Nat.reducePow, Int.reduceBmod, Int.reduceNeg, Int.reduceMul, Int.reduceAdd, Int.reduceSub, not_true_eq_false, not_false_eq_true] at *) <;> (try simp (disch := omega) only [i_bm'] at *) <;> omega)
    have kp := key_pil hI.2.2.2.1 ((s 146 18) - 1) hi hi1
    rw [p1]
    generalize hII : (s 146 18) - 1 = I at *
    obtain ⟨k1, k2, k3, k4, k5, k6, k7, k8, k9, k10, k11⟩ := kp
    obtain ⟨q1, q2⟩ := fl_b hI
    refine sp_C_floor (d := d + 3) hI ?_
    rintro c ⟨f1, f2, f3, f4, f5, f6⟩
    refine t2_C_would_45 (d := d + 4) a1 I (f_m1 hA) f1 (by rw [i_in]; exact ⟨hi, by omega⟩) ?_
    refine sp_C_choice (d := d + 1) hI.1 hA hAn f1 f_60 I _ hi (by rw [p1]; exact hi1) (by rw [p4]; show I.toInt < 8; omega) (by omega) (fl_n s) f2 q1 (fl_R s) f3 q2 (s 157 I.toNatClampNeg) (s 160 I.toNatClampNeg) (s 158 I.toNatClampNeg) k1 k7 k4 k2 k3 (fun h => k8 (by rcases h with h | h; exact Or.inl (Int32.toInt_inj.mp h); exact Or.inr (Int32.toInt_inj.mp h))) (fun _ => ⟨k5, k6⟩) ?_
    refine t2_C_would_62 (d := d + 4) a1 I _ ?_
    have W : ∀ t : jg_H, f_only 0 s t → (¬ (s 157 I.toNatClampNeg).toInt = 6 → (t 146 53).toInt = fl_n s ∧ (∀ j, j < fl_n s → t 171 j = fl_R s j) ∧ t 146 53 = s 153 (s 146 13).toNatClampNeg) → q_P G (d + 5) 191 [.ref 146, .int I, .int a1] t (fun v t => q_W G (d + 5) jm_M_would (fun r' s'' => some (.int (x_vt s a1.toNatClampNeg (fl_n s) (fl_R s) (s 157 I.toNatClampNeg) (s 63 I.toNatClampNeg) (s 160 I.toNatClampNeg) (s 158 I.toNatClampNeg))) = r' ∧ Inv s'') 47 [some (.ref 146), some (.int a1)] (v.toList ++ []) t) := by
      intro t ht hr
      have hN : I.toNatClampNeg < 8 := by rw [i_cn]; omega
      have u : ∀ c, 157 ≤ c → c < 162 → t c I.toNatClampNeg = s c I.toNatClampNeg := fun c hc hc' => ht _ _ (by rw [g_4 hc hc' hN]; decide)
      refine sp_M_votes (d := d + 1) a1 ha (by omega) I hi (by omega) (fl_n s) (fl_R s) (s 157 I.toNatClampNeg) (s 63 I.toNatClampNeg) (s 160 I.toNatClampNeg) (s 158 I.toNatClampNeg) (u 157 (by decide) (by decide)) (u 160 (by decide) (by decide)) (u 158 (by decide) (by decide)) k2 k3 (fun h => k8 (by rcases h with h | h; exact Or.inl (Int32.toInt_inj.mp h); exact Or.inr (Int32.toInt_inj.mp h))) (fun _ => ⟨k5, by omega⟩) (pil_row hI I hi hi1 t hr (u 159 (by decide) (by decide)) (u 161 (by decide) (by decide))) ?_
      rw [x_vt_mo (mo_0 ht)]
      exact t_M_would_47 (d := d + 3) a1 _ ⟨rfl, Inv_0 hI ht⟩
    refine t_M_would (d := d + 3) a1 ?_ ?_ ?m3 ?m4 ?_
    case m3 =>
      intro _ _ _ g
      rw [hII]
      refine W s fo_refl ?_
      intro h6
      exact absurd (k10 (fun e => h6 (by rw [e]; decide))) (by rw [g]; decide)
    case m4 =>
      intro _ _ _ g
      have hu : 0 ≤ (s 146 13).toInt := by clear W k11 k9 k10 k8 hI f2 f3 f6 q2; ((try simp only [i_lt, i_le, i_eq, i_in, i_cn, Int32.toInt_add, Int32.toInt_sub, Int32.toInt_mul, Int32.toInt_neg, Int32.reduceToInt, Int.bmod_add_bmod, Int.add_bmod_bmod, Int.bmod_sub_bmod, Int.sub_bmod_bmod, Int.bmod_mul_bmod, Int.mul_bmod_bmod, Int.bmod_neg_bmod, Nat.reducePow, Int.reduceBmod, Int.reduceNeg, Int.reduceMul, Int.reduceAdd, Int.reduceSub, not_true_eq_false, not_false_eq_true] at *) <;> (try simp (disch := omega) only [i_bm'] at *) <;> omega)
      refine sp_M_look (d := d + 4) (J_I hI) hu ?_
      intro t e1 e2 e3 e4
      have ft := fo_takes e4
      refine t_M_would_36 (d := d + 3) a1 ?_
      have u18 : t 146 18 = s 146 18 := ft 146 18 (by decide : ¬ (4 : Nat) = 0)
      rw [u18, hII]
      exact W t ft (fun _ => ⟨e1, e2, e3⟩)
    all_goals (intros; exfalso; clear W k11 k9 k10 k8 hI f2 f3 f6 q2 k1 k4 k7; ((try simp only [i_lt, i_le, i_eq, i_in, i_cn, Int32.toInt_add, Int32.toInt_sub, Int32.toInt_mul, Int32.toInt_neg, Int32.reduceToInt, Int.bmod_add_bmod, Int.add_bmod_bmod, Int.bmod_sub_bmod, Int.sub_bmod_bmod, Int.bmod_mul_bmod, Int.mul_bmod_bmod, Int.bmod_neg_bmod, Nat.reducePow, Int.reduceBmod, Int.reduceNeg, Int.reduceMul, Int.reduceAdd, Int.reduceSub, not_true_eq_false, not_false_eq_true] at *) <;> (try simp (disch := omega) only [i_bm'] at *) <;> omega))
  all_goals (intros; first
    | (exfalso; clear hI; ((try simp only [i_lt, i_le, i_eq, i_in, i_cn, Int32.toInt_add, Int32.toInt_sub, Int32.toInt_mul, Int32.toInt_neg, Int32.reduceToInt, Int.bmod_add_bmod, Int.add_bmod_bmod, Int.bmod_sub_bmod, Int.sub_bmod_bmod, Int.bmod_mul_bmod, Int.mul_bmod_bmod, Int.bmod_neg_bmod, Nat.reducePow, Int.reduceBmod, Int.reduceNeg, Int.reduceMul, Int.reduceAdd, Int.reduceSub, not_true_eq_false, not_false_eq_true] at *) <;> (try simp (disch := omega) only [i_bm'] at *) <;> omega))
    | (refine t_M_would (d := d + 3) a1 ?_ ?_ ?_ ?_ ?_ <;> intros <;> first | (exact ⟨rfl, hI⟩) | (exfalso; clear hI; ((try simp only [i_lt, i_le, i_eq, i_in, i_cn, Int32.toInt_add, Int32.toInt_sub, Int32.toInt_mul, Int32.toInt_neg, Int32.reduceToInt, Int.bmod_add_bmod, Int.add_bmod_bmod, Int.bmod_sub_bmod, Int.sub_bmod_bmod, Int.bmod_mul_bmod, Int.mul_bmod_bmod, Int.bmod_neg_bmod, Nat.reducePow, Int.reduceBmod, Int.reduceNeg, Int.reduceMul, Int.reduceAdd, Int.reduceSub, not_true_eq_false, not_false_eq_true] at *) <;> (try simp (disch := omega) only [i_bm'] at *) <;> omega))))
