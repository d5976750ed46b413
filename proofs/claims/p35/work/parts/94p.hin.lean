/-! the class says what stands in an act's way -/
set_option maxRecDepth 20000 in
theorem sp_C_h6 {G : jv_X} {d : Nat} {B : Option Value → jg_H → Prop} {s : jg_H} (hI : Inv s) (k m a w : Int32) (hm : 0 ≤ m.toInt) (hm' : m.toInt < (s 146 0).toInt) (x5 : Int32) {o6 : Option Value} (ho6 : f_n o6 = true) (hB : ∀ t : jg_H, f_only 0 s t → B (some (.int (if (x_r s 1 k m).toInt = 0 then 6 else if (s 146 18).toInt = 8 then 7 else 0))) t) : q_W G (d + 4) jm_C_hindrance B 221 [some (.ref 0), some (.int k), some (.int m), some (.int a), some (.int w), some (.int x5), o6] [] s := by
  have p1 := hI.2.2.2.1.1
  have p2 := hI.2.2.2.1.2.1
  have p3 := hI.2.2.2.1.2.2.1
  have p4 := hI.2.2.2.1.2.2.2.1
  refine t_C_hindrance_221 (d := d + 2) k m a w x5 ho6 ?_
  refine sp_C_ruled (d := d) hI 1 k m (by decide) (by decide) hm hm' ?_
  intro t ht
  have hBt := hB t ht
  have u60 : t 60 0 = s 60 0 := ht 60 0 (by decide : ¬ (4 : Nat) = 0)
  have u61 : t 60 1 = s 60 1 := ht 60 1 (by decide : ¬ (4 : Nat) = 0)
  have hx : x_r s (1 : Int32).toNatClampNeg k m = x_r s 1 k m := rfl
  rw [hx]
  generalize x_r s 1 k m = X at *
  refine t_C_hindrance_228 (d := d + 2) k m a w x5 ho6 X ?_ ?_ ?_
  · intro g1 g2
    rw [if_neg (by clear hBt hB hI ht; ((try simp only [i_lt, i_le, i_eq, i_in, i_cn, Int32.toInt_add, Int32.toInt_sub, Int32.toInt_mul, Int32.toInt_neg, Int32.reduceToInt, Int.bmod_add_bmod, Int.add_bmod_bmod, Int.bmod_sub_bmod, Int.sub_bmod_bmod, Int.bmod_mul_bmod, Int.mul_bmod_bmod, Int.bmod_neg_bmod, Nat.reducePow, Int.reduceBmod, Int.reduceNeg, Int.reduceMul, Int.reduceAdd, Int.reduceSub, not_true_eq_false, not_false_eq_true] at *) <;> (try simp (disch := omega) only [i_bm'] at *) <;> omega)), if_neg (by rw [u60, u61] at g2; clear hBt hB hI ht; ((try simp only [i_lt, i_le, i_eq, i_in, i_cn, Int32.toInt_add, Int32.toInt_sub, Int32.toInt_mul, Int32.toInt_neg, Int32.reduceToInt, Int.bmod_add_bmod, Int.add_bmod_bmod, Int.bmod_sub_bmod, Int.sub_bmod_bmod, Int.bmod_mul_bmod, Int.mul_bmod_bmod, Int.bmod_neg_bmod, Nat.reducePow, Int.reduceBmod, Int.reduceNeg, Int.reduceMul, Int.reduceAdd, Int.reduceSub, not_true_eq_false, not_false_eq_true] at *) <;> (try simp (disch := omega) only [i_bm'] at *) <;> omega))] at hBt; exact hBt
  · intro g1 g2
    rw [if_neg (by clear hBt hB hI ht; ((try simp only [i_lt, i_le, i_eq, i_in, i_cn, Int32.toInt_add, Int32.toInt_sub, Int32.toInt_mul, Int32.toInt_neg, Int32.reduceToInt, Int.bmod_add_bmod, Int.add_bmod_bmod, Int.bmod_sub_bmod, Int.sub_bmod_bmod, Int.bmod_mul_bmod, Int.mul_bmod_bmod, Int.bmod_neg_bmod, Nat.reducePow, Int.reduceBmod, Int.reduceNeg, Int.reduceMul, Int.reduceAdd, Int.reduceSub, not_true_eq_false, not_false_eq_true] at *) <;> (try simp (disch := omega) only [i_bm'] at *) <;> omega)), if_pos (by rw [u60, u61] at g2; clear hBt hB hI ht; ((try simp only [i_lt, i_le, i_eq, i_in, i_cn, Int32.toInt_add, Int32.toInt_sub, Int32.toInt_mul, Int32.toInt_neg, Int32.reduceToInt, Int.bmod_add_bmod, Int.add_bmod_bmod, Int.bmod_sub_bmod, Int.sub_bmod_bmod, Int.bmod_mul_bmod, Int.mul_bmod_bmod, Int.bmod_neg_bmod, Nat.reducePow, Int.reduceBmod, Int.reduceNeg, Int.reduceMul, Int.reduceAdd, Int.reduceSub, not_true_eq_false, not_false_eq_true] at *) <;> (try simp (disch := omega) only [i_bm'] at *) <;> omega))] at hBt; exact hBt
  · intro g1
    rw [if_pos (by clear hBt hB hI ht; ((try simp only [i_lt, i_le, i_eq, i_in, i_cn, Int32.toInt_add, Int32.toInt_sub, Int32.toInt_mul, Int32.toInt_neg, Int32.reduceToInt, Int.bmod_add_bmod, Int.add_bmod_bmod, Int.bmod_sub_bmod, Int.sub_bmod_bmod, Int.bmod_mul_bmod, Int.mul_bmod_bmod, Int.bmod_neg_bmod, Nat.reducePow, Int.reduceBmod, Int.reduceNeg, Int.reduceMul, Int.reduceAdd, Int.reduceSub, not_true_eq_false, not_false_eq_true] at *) <;> (try simp (disch := omega) only [i_bm'] at *) <;> omega))] at hBt; exact hBt
set_option maxRecDepth 20000 in
theorem sp_C_h5 {G : jv_X} {d : Nat} {B : Option Value → jg_H → Prop} {s : jg_H} (hI : Inv s) (k m a w : Int32) (hm : 0 ≤ m.toInt) (hm' : m.toInt < (s 146 0).toInt) (hB : ∀ t : jg_H, f_only 0 s t → B (some (.int (if 0 < (s 146 18).toInt ∧ (x_r s 0 k m).toInt ≤ (x_r s 0 (s 157 ((s 146 18) - 1).toNatClampNeg) (s 158 ((s 146 18) - 1).toNatClampNeg)).toInt then 5 else if (x_r s 1 k m).toInt = 0 then 6 else if (s 146 18).toInt = 8 then 7 else 0))) t) : q_W G (d + 4) jm_C_hindrance B 157 [some (.ref 0), some (.int k), some (.int m), some (.int a), some (.int w), none, none] [] s := by
  have p1 := hI.2.2.2.1.1
  have p2 := hI.2.2.2.1.2.1
  have p3 := hI.2.2.2.1.2.2.1
  have p4 := hI.2.2.2.1.2.2.2.1
  have kp := key_pil hI.2.2.2.1 ((s 146 18) - 1)
  refine t_C_hindrance_157 (d := d + 2) k m a w ?_ ?_ ?_ ?_ ?_ ?_
  · intro g
    refine sp_C_h6 hI k m a w hm hm' _ rfl ?_
    intro t ht
    have hBt := hB t ht
    rw [if_neg (by clear hBt hB hI ht kp; intro e; revert e; generalize x_r s 0 k m = X at *; ((try simp only [i_lt, i_le, i_eq, i_in, i_cn, Int32.toInt_add, Int32.toInt_sub, Int32.toInt_mul, Int32.toInt_neg, Int32.reduceToInt, Int.bmod_add_bmod, Int.add_bmod_bmod, Int.bmod_sub_bmod, Int.sub_bmod_bmod, Int.bmod_mul_bmod, Int.mul_bmod_bmod, Int.bmod_neg_bmod, Nat.reducePow, Int.reduceBmod, Int.reduceNeg, Int.reduceMul, Int.reduceAdd, Int.reduceSub, not_true_eq_false, not_false_eq_true] at *) <;> (try simp (disch := omega) only [i_bm'] at *) <;> omega))] at hBt; exact hBt
  · intro _ g; exfalso; clear hB hI kp; ((try simp only [i_lt, i_le, i_eq, i_in, i_cn, Int32.toInt_add, Int32.toInt_sub, Int32.toInt_mul, Int32.toInt_neg, Int32.reduceToInt, Int.bmod_add_bmod, Int.add_bmod_bmod, Int.bmod_sub_bmod, Int.sub_bmod_bmod, Int.bmod_mul_bmod, Int.mul_bmod_bmod, Int.bmod_neg_bmod, Nat.reducePow, Int.reduceBmod, Int.reduceNeg, Int.reduceMul, Int.reduceAdd, Int.reduceSub, not_true_eq_false, not_false_eq_true] at *) <;> (try simp (disch := omega) only [i_bm'] at *) <;> omega)
  · intro _ _ g; exfalso; clear hB hI kp; ((try simp only [i_lt, i_le, i_eq, i_in, i_cn, Int32.toInt_add, Int32.toInt_sub, Int32.toInt_mul, Int32.toInt_neg, Int32.reduceToInt, Int.bmod_add_bmod, Int.add_bmod_bmod, Int.bmod_sub_bmod, Int.sub_bmod_bmod, Int.bmod_mul_bmod, Int.mul_bmod_bmod, Int.bmod_neg_bmod, Nat.reducePow, Int.reduceBmod, Int.reduceNeg, Int.reduceMul, Int.reduceAdd, Int.reduceSub, not_true_eq_false, not_false_eq_true] at *) <;> (try simp (disch := omega) only [i_bm'] at *) <;> omega)
  · intros; clear hB hI kp; ((try simp only [i_lt, i_le, i_eq, i_in, i_cn, Int32.toInt_add, Int32.toInt_sub, Int32.toInt_mul, Int32.toInt_neg, Int32.reduceToInt, Int.bmod_add_bmod, Int.add_bmod_bmod, Int.bmod_sub_bmod, Int.sub_bmod_bmod, Int.bmod_mul_bmod, Int.mul_bmod_bmod, Int.bmod_neg_bmod, Nat.reducePow, Int.reduceBmod, Int.reduceNeg, Int.reduceMul, Int.reduceAdd, Int.reduceSub, not_true_eq_false, not_false_eq_true] at *) <;> (try simp (disch := omega) only [i_bm'] at *) <;> omega)
  · intros; clear hB hI kp; ((try simp only [i_lt, i_le, i_eq, i_in, i_cn, Int32.toInt_add, Int32.toInt_sub, Int32.toInt_mul, Int32.toInt_neg, Int32.reduceToInt, Int.bmod_add_bmod, Int.add_bmod_bmod, Int.bmod_sub_bmod, Int.sub_bmod_bmod, Int.bmod_mul_bmod, Int.mul_bmod_bmod, Int.bmod_neg_bmod, Nat.reducePow, Int.reduceBmod, Int.reduceNeg, Int.reduceMul, Int.reduceAdd, Int.reduceSub, not_true_eq_false, not_false_eq_true] at *) <;> (try simp (disch := omega) only [i_bm'] at *) <;> omega)
  · intro g1 g2 g3
    obtain ⟨k1, k2, k3, k4, k5, k6, k7⟩ := kp (by clear hB hI kp; ((try simp only [i_lt, i_le, i_eq, i_in, i_cn, Int32.toInt_add, Int32.toInt_sub, Int32.toInt_mul, Int32.toInt_neg, Int32.reduceToInt, Int.bmod_add_bmod, Int.add_bmod_bmod, Int.bmod_sub_bmod, Int.sub_bmod_bmod, Int.bmod_mul_bmod, Int.mul_bmod_bmod, Int.bmod_neg_bmod, Nat.reducePow, Int.reduceBmod, Int.reduceNeg, Int.reduceMul, Int.reduceAdd, Int.reduceSub, not_true_eq_false, not_false_eq_true] at *) <;> (try simp (disch := omega) only [i_bm'] at *) <;> omega)) (by clear hB hI kp; ((try simp only [i_lt, i_le, i_eq, i_in, i_cn, Int32.toInt_add, Int32.toInt_sub, Int32.toInt_mul, Int32.toInt_neg, Int32.reduceToInt, Int.bmod_add_bmod, Int.add_bmod_bmod, Int.bmod_sub_bmod, Int.sub_bmod_bmod, Int.bmod_mul_bmod, Int.mul_bmod_bmod, Int.bmod_neg_bmod, Nat.reducePow, Int.reduceBmod, Int.reduceNeg, Int.reduceMul, Int.reduceAdd, Int.reduceSub, not_true_eq_false, not_false_eq_true] at *) <;> (try simp (disch := omega) only [i_bm'] at *) <;> omega))
    clear k7
    rw [p1] at *
    rw [k1, k4]
    refine sp_C_ruled (d := d) hI 0 _ _ (by decide) (by decide) k5 k6 ?_
    intro t ht
    have hIt := Inv_0 hI ht
    have u0 : t 146 0 = s 146 0 := ht 146 0 (by decide : ¬ (1 : Nat) = 0)
    refine t_C_hindrance_205 (d := d + 2) k m a w _ _ ?_
    refine sp_C_ruled (d := d) hIt 0 k m (by decide) (by decide) hm (by rw [u0]; exact hm') ?_
    intro t2 ht2
    have hB2 := fun t3 (ht3 : f_only 0 t2 t3) => hB t3 (fun c j hg => (ht3 c j hg).trans ((ht2 c j hg).trans (ht c j hg)))
    have f2 : f_only 0 s t2 := fun c j hg => (ht2 c j hg).trans (ht c j hg)
    have hI2 := Inv_0 hI f2
    have u02 : t2 146 0 = s 146 0 := f2 146 0 (by decide : ¬ (1 : Nat) = 0)
    have hx : x_r t (0 : Int32).toNatClampNeg k m = x_r s 0 k m := by rw [x_r_fr ht]; rfl
    have hy : ∀ p q : Int32, x_r s (0 : Int32).toNatClampNeg p q = x_r s 0 p q := fun _ _ => rfl
    rw [hx, hy]
    clear hx hy
    generalize hX : x_r s 0 k m = X at *
    generalize hY : x_r s 0 (s 157 (s 146 18 - 1).toNatClampNeg) (s 158 (s 146 18 - 1).toNatClampNeg) = Y at *
    refine t_C_hindrance_214 (d := d + 2) k m a w _ Y X ?_ ?_
    · intro g
      refine sp_C_h6 hI2 k m a w hm (by rw [u02]; exact hm') _ rfl ?_
      intro t3 ht3
      have hB3 := hB2 t3 ht3
      have u18 : t2 146 18 = s 146 18 := f2 146 18 (by decide : ¬ (4 : Nat) = 0)
      rw [x_r_fr f2, u18]
      rw [if_neg (by clear hB3 hB2 hB hI hIt hI2 ht ht2 f2 ht3; ((try simp only [i_lt, i_le, i_eq, i_in, i_cn, Int32.toInt_add, Int32.toInt_sub, Int32.toInt_mul, Int32.toInt_neg, Int32.reduceToInt, Int.bmod_add_bmod, Int.add_bmod_bmod, Int.bmod_sub_bmod, Int.sub_bmod_bmod, Int.bmod_mul_bmod, Int.mul_bmod_bmod, Int.bmod_neg_bmod, Nat.reducePow, Int.reduceBmod, Int.reduceNeg, Int.reduceMul, Int.reduceAdd, Int.reduceSub, not_true_eq_false, not_false_eq_true] at *) <;> (try simp (disch := omega) only [i_bm'] at *) <;> omega))] at hB3; exact hB3
    · intro g
      have hB3 := hB2 t2 fo_refl
      rw [if_pos (by clear hB3 hB2 hB hI hIt hI2 ht ht2 f2; ((try simp only [i_lt, i_le, i_eq, i_in, i_cn, Int32.toInt_add, Int32.toInt_sub, Int32.toInt_mul, Int32.toInt_neg, Int32.reduceToInt, Int.bmod_add_bmod, Int.add_bmod_bmod, Int.bmod_sub_bmod, Int.sub_bmod_bmod, Int.bmod_mul_bmod, Int.mul_bmod_bmod, Int.bmod_neg_bmod, Nat.reducePow, Int.reduceBmod, Int.reduceNeg, Int.reduceMul, Int.reduceAdd, Int.reduceSub, not_true_eq_false, not_false_eq_true] at *) <;> (try simp (disch := omega) only [i_bm'] at *) <;> omega))] at hB3; exact hB3
/-- a class's sections: of the bill that is up -/
theorem up_C {s : jg_H} (hI : Inv s) (h : 0 ≤ (s 146 13).toInt) : s ((33 + 3 * (s 0 6).toNatClampNeg) + 1) 0 = s 153 (s 146 13).toNatClampNeg ∧ 0 ≤ (s 153 (s 146 13).toNatClampNeg).toInt ∧ (s 153 (s 146 13).toNatClampNeg).toInt ≤ 10 := by
  have d1 := hI.2.2.1.1
  have d2 := hI.2.2.1.2.1
  have d6 := hI.2.2.1.2.2.2.2.2.1
  have d7 := hI.2.2.1.2.2.2.2.2.2.1
  have d8 := hI.2.2.1.2.2.2.2.2.2.2.1
  have c := (key_bil hI.2.1 (s 146 13) h d8).2.2.2.2.2.2
  rw [d6]
  exact c
set_option maxRecDepth 20000 in
theorem sp_C_hin {G : jv_X} {d : Nat} {B : Option Value → jg_H → Prop} {s : jg_H} (hI : Inv s) (k m a w : Int32) (h0 : ¬ f_act s k m a w → B (some (.int (-2))) s) (h1 : f_act s k m a w → ∀ t : jg_H, f_only 0 s t → B (some (.int (f_hin s k m))) t) : q_P G (d + 5) 81 [.ref 0, .int k, .int m, .int a, .int w] s B := by
  have b1 := hI.1.1
  have b2 := hI.1.2.1
  have b3 := hI.1.2.2.1
  have d1 := hI.2.2.1.1
  have d2 := hI.2.2.1.2.1
  have d6 := hI.2.2.1.2.2.2.2.2.1
  have d7 := hI.2.2.1.2.2.2.2.2.2.1
  have d8 := hI.2.2.1.2.2.2.2.2.2.2.1
  have c1 := hI.2.1.1
  have c2 := hI.2.1.2.1
  have c3 := hI.2.1.2.2.1
  have x1 := hI.2.2.2.2.2.1.1
  have x2 := hI.2.2.2.2.2.1.2.1
  have x3 := hI.2.2.2.2.2.1.2.2.1
  have x4 := hI.2.2.2.2.2.1.2.2.2.1
  have x5 := hI.2.2.2.2.2.1.2.2.2.2.1
  have x6 := hI.2.2.2.2.2.1.2.2.2.2.2.1
  have km := fun h h' => (key_mem hI.1 m h h').2.2.2.2.2.2.1
  have H97 : f_act s k m a w → (¬ (s 146 13).toInt = -1 ∨ k.toInt = 6) → q_W G (d + 4) jm_C_hindrance B 97 [some (.ref 0), some (.int k), some (.int m), some (.int a), some (.int w), none, none] [] s := by
    intro ha hu
    have hB := h1 ha
    have hm := ha.1.2.2.1
    have hm' := ha.1.2.2.2
    obtain ⟨z1, z2, z3, z4, z5, z6, z7⟩ := hI.2.2.2.2.2.2.2.1
    clear z7 h0 h1
    have p1 := hI.2.2.2.1.1
    have p2 := hI.2.2.2.1.2.1
    have p3 := hI.2.2.2.1.2.2.1
    have p4 := hI.2.2.2.1.2.2.2.1
    have kmm := km hm hm'
    unfold f_hin at hB
    rw [if_neg (by clear hB ha hI km kmm; omega)] at hB
    have H5 : ¬ 100 ≤ (s 146 17).toInt → ¬ (s 151 m.toNatClampNeg).toInt = 0 → ¬ (((k.toInt = 0 ∨ k.toInt = 6) ∧ ¬ (s 146 18).toInt = 0) ∨ (¬ (k.toInt = 0 ∨ k.toInt = 6) ∧ (s 146 18).toInt = 0)) → q_W G (d + 4) jm_C_hindrance B 157 [some (.ref 0), some (.int k), some (.int m), some (.int a), some (.int w), none, none] [] s := by
      intro e1 e2 e3
      rw [if_neg e1, if_neg e2, if_neg e3] at hB
      exact sp_C_h5 hI k m a w hm hm' hB
    have E2 : 100 ≤ (s 146 17).toInt → B (some (.int 2)) s := by
      intro e1
      have hBt := hB s fo_refl
      rw [if_pos e1] at hBt; exact hBt
    have E3 : ¬ 100 ≤ (s 146 17).toInt → (s 151 m.toNatClampNeg).toInt = 0 → B (some (.int 3)) s := by
      intro e1 e2
      have hBt := hB s fo_refl
      rw [if_neg e1, if_pos e2] at hBt; exact hBt
    have E4 : ¬ 100 ≤ (s 146 17).toInt → ¬ (s 151 m.toNatClampNeg).toInt = 0 → (((k.toInt = 0 ∨ k.toInt = 6) ∧ ¬ (s 146 18).toInt = 0) ∨ (¬ (k.toInt = 0 ∨ k.toInt = 6) ∧ (s 146 18).toInt = 0)) → B (some (.int 4)) s := by
      intro e1 e2 e3
      have hBt := hB s fo_refl
      rw [if_neg e1, if_neg e2, if_pos e3] at hBt; exact hBt
    clear hB
    refine t_C_hindrance_97 (d := d + 2) k m a w ?_ ?_ ?_ ?_ ?_ ?_ ?_ ?_ ?_
    all_goals (intros; (try rw [kmm] at *); first
      | (refine E2 ?_; clear E2 E3 E4 H5 ha hI km kmm; ((try simp only [i_lt, i_le, i_eq, i_in, i_cn, Int32.toInt_add, Int32.toInt_sub, Int32.toInt_mul, Int32.toInt_neg, Int32.reduceToInt, Int.bmod_add_bmod, Int.add_bmod_bmod, Int.bmod_sub_bmod, Int.sub_bmod_bmod, Int.bmod_mul_bmod, Int.mul_bmod_bmod, Int.bmod_neg_bmod, Nat.reducePow, Int.reduceBmod, Int.reduceNeg, Int.reduceMul, Int.reduceAdd, Int.reduceSub, not_true_eq_false, not_false_eq_true] at *) <;> (try simp (disch := omega) only [i_bm'] at *) <;> omega))
      | (refine E3 ?_ ?_ <;> (clear E2 E3 E4 H5 ha hI km kmm; ((try simp only [i_lt, i_le, i_eq, i_in, i_cn, Int32.toInt_add, Int32.toInt_sub, Int32.toInt_mul, Int32.toInt_neg, Int32.reduceToInt, Int.bmod_add_bmod, Int.add_bmod_bmod, Int.bmod_sub_bmod, Int.sub_bmod_bmod, Int.bmod_mul_bmod, Int.mul_bmod_bmod, Int.bmod_neg_bmod, Nat.reducePow, Int.reduceBmod, Int.reduceNeg, Int.reduceMul, Int.reduceAdd, Int.reduceSub, not_true_eq_false, not_false_eq_true] at *) <;> (try simp (disch := omega) only [i_bm'] at *) <;> omega)))
      | (refine E4 ?_ ?_ ?_ <;> (clear E2 E3 E4 H5 ha hI km kmm; ((try simp only [i_lt, i_le, i_eq, i_in, i_cn, Int32.toInt_add, Int32.toInt_sub, Int32.toInt_mul, Int32.toInt_neg, Int32.reduceToInt, Int.bmod_add_bmod, Int.add_bmod_bmod, Int.bmod_sub_bmod, Int.sub_bmod_bmod, Int.bmod_mul_bmod, Int.mul_bmod_bmod, Int.bmod_neg_bmod, Nat.reducePow, Int.reduceBmod, Int.reduceNeg, Int.reduceMul, Int.reduceAdd, Int.reduceSub, not_true_eq_false, not_false_eq_true] at *) <;> (try simp (disch := omega) only [i_bm'] at *) <;> omega)))
      | (refine H5 ?_ ?_ ?_ <;> (clear E2 E3 E4 H5 ha hI km kmm; ((try simp only [i_lt, i_le, i_eq, i_in, i_cn, Int32.toInt_add, Int32.toInt_sub, Int32.toInt_mul, Int32.toInt_neg, Int32.reduceToInt, Int.bmod_add_bmod, Int.add_bmod_bmod, Int.bmod_sub_bmod, Int.sub_bmod_bmod, Int.bmod_mul_bmod, Int.mul_bmod_bmod, Int.bmod_neg_bmod, Nat.reducePow, Int.reduceBmod, Int.reduceNeg, Int.reduceMul, Int.reduceAdd, Int.reduceSub, not_true_eq_false, not_false_eq_true] at *) <;> (try simp (disch := omega) only [i_bm'] at *) <;> omega)))
      | (clear E2 E3 E4 H5 ha hI km kmm; ((try simp only [i_lt, i_le, i_eq, i_in, i_cn, Int32.toInt_add, Int32.toInt_sub, Int32.toInt_mul, Int32.toInt_neg, Int32.reduceToInt, Int.bmod_add_bmod, Int.add_bmod_bmod, Int.bmod_sub_bmod, Int.sub_bmod_bmod, Int.bmod_mul_bmod, Int.mul_bmod_bmod, Int.bmod_neg_bmod, Nat.reducePow, Int.reduceBmod, Int.reduceNeg, Int.reduceMul, Int.reduceAdd, Int.reduceSub, not_true_eq_false, not_false_eq_true] at *) <;> (try simp (disch := omega) only [i_bm'] at *) <;> omega)))
  have H81 : f_act s k m a w → q_W G (d + 4) jm_C_hindrance B 81 [some (.ref 0), some (.int k), some (.int m), some (.int a), some (.int w), none, none] [] s := by
    intro ha
    refine t_C_hindrance_81 (d := d + 2) k m a w ?_ ?_ ?_
    · intro g; refine H97 ha (Or.inl ?_); clear H97 h0 h1 ha hI km; ((try simp only [i_lt, i_le, i_eq, i_in, i_cn, Int32.toInt_add, Int32.toInt_sub, Int32.toInt_mul, Int32.toInt_neg, Int32.reduceToInt, Int.bmod_add_bmod, Int.add_bmod_bmod, Int.bmod_sub_bmod, Int.sub_bmod_bmod, Int.bmod_mul_bmod, Int.mul_bmod_bmod, Int.bmod_neg_bmod, Nat.reducePow, Int.reduceBmod, Int.reduceNeg, Int.reduceMul, Int.reduceAdd, Int.reduceSub, not_true_eq_false, not_false_eq_true] at *) <;> (try simp (disch := omega) only [i_bm'] at *) <;> omega)
    · intro g g'; refine H97 ha (Or.inr ?_); clear H97 h0 h1 ha hI km; ((try simp only [i_lt, i_le, i_eq, i_in, i_cn, Int32.toInt_add, Int32.toInt_sub, Int32.toInt_mul, Int32.toInt_neg, Int32.reduceToInt, Int.bmod_add_bmod, Int.add_bmod_bmod, Int.bmod_sub_bmod, Int.sub_bmod_bmod, Int.bmod_mul_bmod, Int.mul_bmod_bmod, Int.bmod_neg_bmod, Nat.reducePow, Int.reduceBmod, Int.reduceNeg, Int.reduceMul, Int.reduceAdd, Int.reduceSub, not_true_eq_false, not_false_eq_true] at *) <;> (try simp (disch := omega) only [i_bm'] at *) <;> omega)
    · intro g g'
      have hBt := h1 ha s fo_refl
      unfold f_hin at hBt
      rw [if_pos (by clear H97 h0 h1 ha hI km hBt; ((try simp only [i_lt, i_le, i_eq, i_in, i_cn, Int32.toInt_add, Int32.toInt_sub, Int32.toInt_mul, Int32.toInt_neg, Int32.reduceToInt, Int.bmod_add_bmod, Int.add_bmod_bmod, Int.bmod_sub_bmod, Int.sub_bmod_bmod, Int.bmod_mul_bmod, Int.mul_bmod_bmod, Int.bmod_neg_bmod, Nat.reducePow, Int.reduceBmod, Int.reduceNeg, Int.reduceMul, Int.reduceAdd, Int.reduceSub, not_true_eq_false, not_false_eq_true] at *) <;> (try simp (disch := omega) only [i_bm'] at *) <;> omega))] at hBt; exact hBt
  clear H97 h1 km
  have uc := up_C hI
  have n58 := hI.2.2.2.2.2.2.2.2.2.1
  clear hI
  have H51 : (0 ≤ k.toInt ∧ k.toInt ≤ 6 ∧ 0 ≤ m.toInt ∧ m.toInt < (s 146 0).toInt) → (k.toInt = 2 ∨ k.toInt = 3 → 1 ≤ w.toInt ∧ w.toInt ≤ 60) → (k.toInt = 6 → 0 ≤ w.toInt ∧ w.toInt < (s 146 14).toInt) → q_W G (d + 4) jm_C_hindrance B 51 [some (.ref 0), some (.int k), some (.int m), some (.int a), some (.int w), none, none] [] s := by
    intro e1 e2 e3
    unfold f_act at h0 H81
    refine t_C_hindrance_51 (d := d + 2) k m a w ?_ ?_ ?_ ?_ ?_ ?_ ?_ ?_ ?_ ?_ ?_ ?_ ?_ ?_ ?_ ?_ ?_ ?_ ?_ ?_ ?_ ?_ ?_
    all_goals (intros; first
      | (exfalso; clear H81 h0 uc; ((try simp only [i_lt, i_le, i_eq, i_in, i_cn, Int32.toInt_add, Int32.toInt_sub, Int32.toInt_mul, Int32.toInt_neg, Int32.reduceToInt, Int.bmod_add_bmod, Int.add_bmod_bmod, Int.bmod_sub_bmod, Int.sub_bmod_bmod, Int.bmod_mul_bmod, Int.mul_bmod_bmod, Int.bmod_neg_bmod, Nat.reducePow, Int.reduceBmod, Int.reduceNeg, Int.reduceMul, Int.reduceAdd, Int.reduceSub, not_true_eq_false, not_false_eq_true] at *) <;> (try simp (disch := omega) only [i_bm'] at *) <;> omega))
      | (refine H81 ⟨e1, e2, e3, ?_⟩; clear H81 h0 uc; ((try simp only [i_lt, i_le, i_eq, i_in, i_cn, Int32.toInt_add, Int32.toInt_sub, Int32.toInt_mul, Int32.toInt_neg, Int32.reduceToInt, Int.bmod_add_bmod, Int.add_bmod_bmod, Int.bmod_sub_bmod, Int.sub_bmod_bmod, Int.bmod_mul_bmod, Int.mul_bmod_bmod, Int.bmod_neg_bmod, Nat.reducePow, Int.reduceBmod, Int.reduceNeg, Int.reduceMul, Int.reduceAdd, Int.reduceSub, not_true_eq_false, not_false_eq_true] at *) <;> (try simp (disch := omega) only [i_bm'] at *) <;> omega))
      | (refine h0 (fun e => ?_); have e4 := e.2.2.2; clear H81 h0 uc e; ((try simp only [i_lt, i_le, i_eq, i_in, i_cn, Int32.toInt_add, Int32.toInt_sub, Int32.toInt_mul, Int32.toInt_neg, Int32.reduceToInt, Int.bmod_add_bmod, Int.add_bmod_bmod, Int.bmod_sub_bmod, Int.sub_bmod_bmod, Int.bmod_mul_bmod, Int.mul_bmod_bmod, Int.bmod_neg_bmod, Nat.reducePow, Int.reduceBmod, Int.reduceNeg, Int.reduceMul, Int.reduceAdd, Int.reduceSub, not_true_eq_false, not_false_eq_true] at *) <;> (try simp (disch := omega) only [i_bm'] at *) <;> omega))
      | (refine H81 ⟨e1, e2, e3, ?_⟩; obtain ⟨u1, u2, u3⟩ := uc (by clear H81 h0 uc; ((try simp only [i_lt, i_le, i_eq, i_in, i_cn, Int32.toInt_add, Int32.toInt_sub, Int32.toInt_mul, Int32.toInt_neg, Int32.reduceToInt, Int.bmod_add_bmod, Int.add_bmod_bmod, Int.bmod_sub_bmod, Int.sub_bmod_bmod, Int.bmod_mul_bmod, Int.mul_bmod_bmod, Int.bmod_neg_bmod, Nat.reducePow, Int.reduceBmod, Int.reduceNeg, Int.reduceMul, Int.reduceAdd, Int.reduceSub, not_true_eq_false, not_false_eq_true] at *) <;> (try simp (disch := omega) only [i_bm'] at *) <;> omega)); have u4 := congrArg Int32.toInt u1; clear u1; clear H81 h0 uc; ((try simp only [i_lt, i_le, i_eq, i_in, i_cn, Int32.toInt_add, Int32.toInt_sub, Int32.toInt_mul, Int32.toInt_neg, Int32.reduceToInt, Int.bmod_add_bmod, Int.add_bmod_bmod, Int.bmod_sub_bmod, Int.sub_bmod_bmod, Int.bmod_mul_bmod, Int.mul_bmod_bmod, Int.bmod_neg_bmod, Nat.reducePow, Int.reduceBmod, Int.reduceNeg, Int.reduceMul, Int.reduceAdd, Int.reduceSub, not_true_eq_false, not_false_eq_true] at *) <;> (try simp (disch := omega) only [i_bm'] at *) <;> omega))
      | (refine h0 (fun e => ?_); have e4 := e.2.2.2; obtain ⟨u1, u2, u3⟩ := uc (by clear H81 h0 uc e; ((try simp only [i_lt, i_le, i_eq, i_in, i_cn, Int32.toInt_add, Int32.toInt_sub, Int32.toInt_mul, Int32.toInt_neg, Int32.reduceToInt, Int.bmod_add_bmod, Int.add_bmod_bmod, Int.bmod_sub_bmod, Int.sub_bmod_bmod, Int.bmod_mul_bmod, Int.mul_bmod_bmod, Int.bmod_neg_bmod, Nat.reducePow, Int.reduceBmod, Int.reduceNeg, Int.reduceMul, Int.reduceAdd, Int.reduceSub, not_true_eq_false, not_false_eq_true] at *) <;> (try simp (disch := omega) only [i_bm'] at *) <;> omega)); have u4 := congrArg Int32.toInt u1; clear u1; clear H81 h0 uc e; ((try simp only [i_lt, i_le, i_eq, i_in, i_cn, Int32.toInt_add, Int32.toInt_sub, Int32.toInt_mul, Int32.toInt_neg, Int32.reduceToInt, Int.bmod_add_bmod, Int.add_bmod_bmod, Int.bmod_sub_bmod, Int.sub_bmod_bmod, Int.bmod_mul_bmod, Int.mul_bmod_bmod, Int.bmod_neg_bmod, Nat.reducePow, Int.reduceBmod, Int.reduceNeg, Int.reduceMul, Int.reduceAdd, Int.reduceSub, not_true_eq_false, not_false_eq_true] at *) <;> (try simp (disch := omega) only [i_bm'] at *) <;> omega)))
  clear H81 uc n58
  refine t_C_hindrance (d := d + 2) k m a w ?_ ?_ ?_ ?_ ?_ ?_ ?_ ?_ ?_ ?_ ?_ ?_ ?_ ?_ ?_ ?_ ?_ ?_ ?_ ?_ ?_ ?_ ?_ ?_
  all_goals (intros; first
    | (refine h0 (fun e => ?_); unfold f_act at e; obtain ⟨e1, e2, e3, _⟩ := e; clear H51 h0; ((try simp only [i_lt, i_le, i_eq, i_in, i_cn, Int32.toInt_add, Int32.toInt_sub, Int32.toInt_mul, Int32.toInt_neg, Int32.reduceToInt, Int.bmod_add_bmod, Int.add_bmod_bmod, Int.bmod_sub_bmod, Int.sub_bmod_bmod, Int.bmod_mul_bmod, Int.mul_bmod_bmod, Int.bmod_neg_bmod, Nat.reducePow, Int.reduceBmod, Int.reduceNeg, Int.reduceMul, Int.reduceAdd, Int.reduceSub, not_true_eq_false, not_false_eq_true] at *) <;> (try simp (disch := omega) only [i_bm'] at *) <;> omega))
    | (exfalso; clear H51 h0; ((try simp only [i_lt, i_le, i_eq, i_in, i_cn, Int32.toInt_add, Int32.toInt_sub, Int32.toInt_mul, Int32.toInt_neg, Int32.reduceToInt, Int.bmod_add_bmod, Int.add_bmod_bmod, Int.bmod_sub_bmod, Int.sub_bmod_bmod, Int.bmod_mul_bmod, Int.mul_bmod_bmod, Int.bmod_neg_bmod, Nat.reducePow, Int.reduceBmod, Int.reduceNeg, Int.reduceMul, Int.reduceAdd, Int.reduceSub, not_true_eq_false, not_false_eq_true] at *) <;> (try simp (disch := omega) only [i_bm'] at *) <;> omega))
    | (refine H51 ⟨?_, ?_, ?_, ?_⟩ ?_ ?_ <;> (clear H51 h0; ((try simp only [i_lt, i_le, i_eq, i_in, i_cn, Int32.toInt_add, Int32.toInt_sub, Int32.toInt_mul, Int32.toInt_neg, Int32.reduceToInt, Int.bmod_add_bmod, Int.add_bmod_bmod, Int.bmod_sub_bmod, Int.sub_bmod_bmod, Int.bmod_mul_bmod, Int.mul_bmod_bmod, Int.bmod_neg_bmod, Nat.reducePow, Int.reduceBmod, Int.reduceNeg, Int.reduceMul, Int.reduceAdd, Int.reduceSub, not_true_eq_false, not_false_eq_true] at *) <;> (try simp (disch := omega) only [i_bm'] at *) <;> omega))))
