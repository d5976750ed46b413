/-! the reference says what stands in an act's way -/
set_option maxRecDepth 20000 in
theorem sp_M_h6 {G : jv_X} {d : Nat} {B : Option Value → jg_H → Prop} {s : jg_H} (hJ : J s) (k m : Int32) (hm : 0 ≤ m.toInt) (hm' : m.toInt < (s 146 0).toInt) (x3 : Int32) (hB : ∀ t : jg_H, f_only 0 s t → B (some (.int (if (x_r s 1 k m).toInt = 0 then 6 else if (s 146 18).toInt = 8 then 7 else 0))) t) : q_P G (d + 4) 178 [.ref 146, .int (s 146 15), .int 1, .int k, .int (s 147 m.toNatClampNeg), .int (s 146 18), .int 0, .int 0] s (fun v t => q_W G (d + 4) jm_M_hinders B 138 [some (.ref 146), some (.int k), some (.int m), some (.int x3)] (v.toList ++ []) t) := by
  obtain ⟨x3', x5, x6⟩ := J_x hJ
  obtain ⟨p2, p3⟩ := J_p hJ
  refine sp_M_worked (d := d + 1) hJ _ 1 k _ _ 0 0 x5 x6 (by decide) (by decide) ?_
  intro t ht'
  have ht := fo_170 ht'
  have hBt := hB t ht
  have u18 : t 146 18 = s 146 18 := ht 146 18 (by decide : ¬ (4 : Nat) = 0)
  have hx : x_v s (s 146 15).toNatClampNeg (1 : Int32).toNatClampNeg k (s 146 18) (s 147 m.toNatClampNeg) 0 0 = x_r s 1 k m := rfl
  rw [hx]
  generalize x_r s 1 k m = X at *
  refine t_M_hinders_138 (d := d + 4) k m x3 X ?_ ?_ ?_
  · intro g1 g2
    rw [if_neg (by clear hBt hB hJ ht ht'; ((try simp only [i_lt, i_le, i_eq, i_in, i_cn, Int32.toInt_add, Int32.toInt_sub, Int32.toInt_mul, Int32.toInt_neg, Int32.reduceToInt, Int.bmod_add_bmod, Int.add_bmod_bmod, Int.bmod_sub_bmod, Int.sub_bmod_bmod, Int.bmod_mul_bmod, Int.mul_bmod_bmod, Int.bmod_neg_bmod, Nat.reducePow, Int.reduceBmod, Int.reduceNeg, Int.reduceMul, Int.reduceAdd, Int.reduceSub, not_true_eq_false, not_false_eq_true] at *) <;> (try simp (disch := omega) only [i_bm'] at *) <;> omega)), if_neg (by rw [u18] at g2; clear hBt hB hJ ht ht'; ((try simp only [i_lt, i_le, i_eq, i_in, i_cn, Int32.toInt_add, Int32.toInt_sub, Int32.toInt_mul, Int32.toInt_neg, Int32.reduceToInt, Int.bmod_add_bmod, Int.add_bmod_bmod, Int.bmod_sub_bmod, Int.sub_bmod_bmod, Int.bmod_mul_bmod, Int.mul_bmod_bmod, Int.bmod_neg_bmod, Nat.reducePow, Int.reduceBmod, Int.reduceNeg, Int.reduceMul, Int.reduceAdd, Int.reduceSub, not_true_eq_false, not_false_eq_true] at *) <;> (try simp (disch := omega) only [i_bm'] at *) <;> omega))] at hBt; exact hBt
  · intro g1 g2
    rw [if_neg (by clear hBt hB hJ ht ht'; ((try simp only [i_lt, i_le, i_eq, i_in, i_cn, Int32.toInt_add, Int32.toInt_sub, Int32.toInt_mul, Int32.toInt_neg, Int32.reduceToInt, Int.bmod_add_bmod, Int.add_bmod_bmod, Int.bmod_sub_bmod, Int.sub_bmod_bmod, Int.bmod_mul_bmod, Int.mul_bmod_bmod, Int.bmod_neg_bmod, Nat.reducePow, Int.reduceBmod, Int.reduceNeg, Int.reduceMul, Int.reduceAdd, Int.reduceSub, not_true_eq_false, not_false_eq_true] at *) <;> (try simp (disch := omega) only [i_bm'] at *) <;> omega)), if_pos (by rw [u18] at g2; clear hBt hB hJ ht ht'; ((try simp only [i_lt, i_le, i_eq, i_in, i_cn, Int32.toInt_add, Int32.toInt_sub, Int32.toInt_mul, Int32.toInt_neg, Int32.reduceToInt, Int.bmod_add_bmod, Int.add_bmod_bmod, Int.bmod_sub_bmod, Int.sub_bmod_bmod, Int.bmod_mul_bmod, Int.mul_bmod_bmod, Int.bmod_neg_bmod, Nat.reducePow, Int.reduceBmod, Int.reduceNeg, Int.reduceMul, Int.reduceAdd, Int.reduceSub, not_true_eq_false, not_false_eq_true] at *) <;> (try simp (disch := omega) only [i_bm'] at *) <;> omega))] at hBt; exact hBt
  · intro g1
    rw [if_pos (by clear hBt hB hJ ht ht'; ((try simp only [i_lt, i_le, i_eq, i_in, i_cn, Int32.toInt_add, Int32.toInt_sub, Int32.toInt_mul, Int32.toInt_neg, Int32.reduceToInt, Int.bmod_add_bmod, Int.add_bmod_bmod, Int.bmod_sub_bmod, Int.sub_bmod_bmod, Int.bmod_mul_bmod, Int.mul_bmod_bmod, Int.bmod_neg_bmod, Nat.reducePow, Int.reduceBmod, Int.reduceNeg, Int.reduceMul, Int.reduceAdd, Int.reduceSub, not_true_eq_false, not_false_eq_true] at *) <;> (try simp (disch := omega) only [i_bm'] at *) <;> omega))] at hBt; exact hBt
set_option maxRecDepth 20000 in
theorem sp_M_h5 {G : jv_X} {d : Nat} {B : Option Value → jg_H → Prop} {s : jg_H} (hJ : J s) (k m : Int32) (hm : 0 ≤ m.toInt) (hm' : m.toInt < (s 146 0).toInt) (hn : 0 < (s 146 18).toInt) (x3 : Int32) (hB : ∀ t : jg_H, f_only 0 s t → B (some (.int (if 0 < (s 146 18).toInt ∧ (x_r s 0 k m).toInt ≤ (x_r s 0 (s 157 ((s 146 18) - 1).toNatClampNeg) (s 158 ((s 146 18) - 1).toNatClampNeg)).toInt then 5 else if (x_r s 1 k m).toInt = 0 then 6 else if (s 146 18).toInt = 8 then 7 else 0))) t) : q_P G (d + 4) 185 [.ref 146, .int k, .int m] s (fun v t => q_W G (d + 4) jm_M_hinders B 85 [some (.ref 146), some (.int k), some (.int m), some (.int x3)] (v.toList ++ []) t) := by
  obtain ⟨p2, p3⟩ := J_p hJ
  obtain ⟨b2, b3⟩ := J_n hJ
  obtain ⟨k2, k3, k5, k6⟩ := J_pil hJ ((s 146 18) - 1) (by clear hB hJ; ((try simp only [i_lt, i_le, i_eq, i_in, i_cn, Int32.toInt_add, Int32.toInt_sub, Int32.toInt_mul, Int32.toInt_neg, Int32.reduceToInt, Int.bmod_add_bmod, Int.add_bmod_bmod, Int.bmod_sub_bmod, Int.sub_bmod_bmod, Int.bmod_mul_bmod, Int.mul_bmod_bmod, Int.bmod_neg_bmod, Nat.reducePow, Int.reduceBmod, Int.reduceNeg, Int.reduceMul, Int.reduceAdd, Int.reduceSub, not_true_eq_false, not_false_eq_true] at *) <;> (try simp (disch := omega) only [i_bm'] at *) <;> omega)) (by clear hB hJ; ((try simp only [i_lt, i_le, i_eq, i_in, i_cn, Int32.toInt_add, Int32.toInt_sub, Int32.toInt_mul, Int32.toInt_neg, Int32.reduceToInt, Int.bmod_add_bmod, Int.add_bmod_bmod, Int.bmod_sub_bmod, Int.sub_bmod_bmod, Int.bmod_mul_bmod, Int.mul_bmod_bmod, Int.bmod_neg_bmod, Nat.reducePow, Int.reduceBmod, Int.reduceNeg, Int.reduceMul, Int.reduceAdd, Int.reduceSub, not_true_eq_false, not_false_eq_true] at *) <;> (try simp (disch := omega) only [i_bm'] at *) <;> omega))
  refine sp_M_ranked (d := d) hJ k m hm hm' ?_
  intro t ht
  have hJt := J_0 hJ ht
  have u0 : t 146 0 = s 146 0 := ht 146 0 (by decide : ¬ (1 : Nat) = 0)
  have u18 : t 146 18 = s 146 18 := ht 146 18 (by decide : ¬ (4 : Nat) = 0)
  have hN : ((s 146 18) - 1).toNatClampNeg < 8 := by clear hB hJ hJt ht k2 k3 k5 k6; (try simp only [i_lt, i_le, i_eq, i_in, i_cn, Int32.toInt_add, Int32.toInt_sub, Int32.toInt_mul, Int32.toInt_neg, Int32.reduceToInt, Int.bmod_add_bmod, Int.add_bmod_bmod, Int.bmod_sub_bmod, Int.sub_bmod_bmod, Int.bmod_mul_bmod, Int.mul_bmod_bmod, Int.bmod_neg_bmod, Nat.reducePow, Int.reduceBmod, Int.reduceNeg, Int.reduceMul, Int.reduceAdd, Int.reduceSub, not_true_eq_false, not_false_eq_true] at *) <;> (try simp (disch := omega) only [i_bm'] at *); omega
  have u57 : t 157 ((s 146 18) - 1).toNatClampNeg = s 157 ((s 146 18) - 1).toNatClampNeg := ht _ _ (by rw [g_4 (by decide) (by decide) hN]; decide)
  have u58 : t 158 ((s 146 18) - 1).toNatClampNeg = s 158 ((s 146 18) - 1).toNatClampNeg := ht _ _ (by rw [g_4 (by decide) (by decide) hN]; decide)
  have ji : jv_in ((t 146 18) - 1) 13 = true := by rw [u18]; clear hB hJ hJt ht k2 k3 k5 k6 u57 u58 hN; ((try simp only [i_lt, i_le, i_eq, i_in, i_cn, Int32.toInt_add, Int32.toInt_sub, Int32.toInt_mul, Int32.toInt_neg, Int32.reduceToInt, Int.bmod_add_bmod, Int.add_bmod_bmod, Int.bmod_sub_bmod, Int.sub_bmod_bmod, Int.bmod_mul_bmod, Int.mul_bmod_bmod, Int.bmod_neg_bmod, Nat.reducePow, Int.reduceBmod, Int.reduceNeg, Int.reduceMul, Int.reduceAdd, Int.reduceSub, not_true_eq_false, not_false_eq_true] at *) <;> (try simp (disch := omega) only [i_bm'] at *) <;> omega)
  refine t_M_hinders_85 (d := d + 4) k m x3 _ ji ji ?_
  rw [u18, u57, u58]
  refine sp_M_ranked (d := d) hJt _ _ k5 (by rw [u0]; exact k6) ?_
  intro t2 ht2
  have hB2 := fun t3 (ht3 : f_only 0 t2 t3) => hB t3 (fun c j hg => (ht3 c j hg).trans ((ht2 c j hg).trans (ht c j hg)))
  have f2 : f_only 0 s t2 := fun c j hg => (ht2 c j hg).trans (ht c j hg)
  have hJ2 := J_0 hJ f2
  have u02 : t2 146 0 = s 146 0 := f2 146 0 (by decide : ¬ (1 : Nat) = 0)
  rw [x_r_fr ht]
  generalize hX : x_r s 0 k m = X at *
  generalize hY : x_r s 0 (s 157 (s 146 18 - 1).toNatClampNeg) (s 158 (s 146 18 - 1).toNatClampNeg) = Y at *
  refine t_M_hinders_111 (d := d + 4) k m x3 _ _ ?_ ?_ ?_
  · intro _; clear hB2 hB hJ hJt hJ2 ht ht2 f2; ((try simp only [i_lt, i_le, i_eq, i_in, i_cn, Int32.toInt_add, Int32.toInt_sub, Int32.toInt_mul, Int32.toInt_neg, Int32.reduceToInt, Int.bmod_add_bmod, Int.add_bmod_bmod, Int.bmod_sub_bmod, Int.sub_bmod_bmod, Int.bmod_mul_bmod, Int.mul_bmod_bmod, Int.bmod_neg_bmod, Nat.reducePow, Int.reduceBmod, Int.reduceNeg, Int.reduceMul, Int.reduceAdd, Int.reduceSub, not_true_eq_false, not_false_eq_true] at *) <;> (try simp (disch := omega) only [i_bm'] at *) <;> omega)
  · intro g
    refine sp_M_h6 hJ2 k m hm (by rw [u02]; exact hm') _ ?_
    intro t3 ht3
    have hB3 := hB2 t3 ht3
    have u182 : t2 146 18 = s 146 18 := f2 146 18 (by decide : ¬ (4 : Nat) = 0)
    rw [x_r_fr f2, u182]
    rw [if_neg (by clear hB3 hB2 hB hJ hJt hJ2 ht ht2 f2 ht3; ((try simp only [i_lt, i_le, i_eq, i_in, i_cn, Int32.toInt_add, Int32.toInt_sub, Int32.toInt_mul, Int32.toInt_neg, Int32.reduceToInt, Int.bmod_add_bmod, Int.add_bmod_bmod, Int.bmod_sub_bmod, Int.sub_bmod_bmod, Int.bmod_mul_bmod, Int.mul_bmod_bmod, Int.bmod_neg_bmod, Nat.reducePow, Int.reduceBmod, Int.reduceNeg, Int.reduceMul, Int.reduceAdd, Int.reduceSub, not_true_eq_false, not_false_eq_true] at *) <;> (try simp (disch := omega) only [i_bm'] at *) <;> omega))] at hB3; exact hB3
  · intro g
    have hB3 := hB2 t2 fo_refl
    rw [if_pos (by clear hB3 hB2 hB hJ hJt hJ2 ht ht2 f2; ((try simp only [i_lt, i_le, i_eq, i_in, i_cn, Int32.toInt_add, Int32.toInt_sub, Int32.toInt_mul, Int32.toInt_neg, Int32.reduceToInt, Int.bmod_add_bmod, Int.add_bmod_bmod, Int.bmod_sub_bmod, Int.sub_bmod_bmod, Int.bmod_mul_bmod, Int.mul_bmod_bmod, Int.bmod_neg_bmod, Nat.reducePow, Int.reduceBmod, Int.reduceNeg, Int.reduceMul, Int.reduceAdd, Int.reduceSub, not_true_eq_false, not_false_eq_true] at *) <;> (try simp (disch := omega) only [i_bm'] at *) <;> omega))] at hB3; exact hB3
set_option maxRecDepth 20000 in
theorem sp_M_hin {G : jv_X} {d : Nat} {B : Option Value → jg_H → Prop} {s : jg_H} (hJ : J s) (k m : Int32) (hm : 0 ≤ m.toInt) (hm' : m.toInt < (s 146 0).toInt) (hB : ∀ t : jg_H, f_only 0 s t → B (some (.int (f_hin s k m))) t) : q_P G (d + 5) 184 [.ref 146, .int k, .int m] s B := by
  obtain ⟨b2, b3⟩ := J_n hJ
  obtain ⟨p2, p3⟩ := J_p hJ
  obtain ⟨c2, c3, d7, d8⟩ := J_u hJ
  obtain ⟨z5, z6⟩ := J_m hJ
  have h5 := fun (hn : 0 < (s 146 18).toInt) x3 => sp_M_h5 (G := G) (d := d) (B := B) hJ k m hm hm' hn x3
  have h6 := fun x3 => sp_M_h6 (G := G) (d := d) (B := B) hJ k m hm hm' x3
  unfold f_hin at hB
  have E1 : (s 146 13).toInt = -1 ∧ ¬ k.toInt = 6 → B (some (.int 1)) s := by
    intro e1; have hBt := hB s fo_refl; rw [if_pos e1] at hBt; exact hBt
  have E2 : ¬ ((s 146 13).toInt = -1 ∧ ¬ k.toInt = 6) → 100 ≤ (s 146 17).toInt → B (some (.int 2)) s := by
    intro e1 e2; have hBt := hB s fo_refl; rw [if_neg e1, if_pos e2] at hBt; exact hBt
  have E3 : ¬ ((s 146 13).toInt = -1 ∧ ¬ k.toInt = 6) → ¬ 100 ≤ (s 146 17).toInt → (s 151 m.toNatClampNeg).toInt = 0 → B (some (.int 3)) s := by
    intro e1 e2 e3; have hBt := hB s fo_refl; rw [if_neg e1, if_neg e2, if_pos e3] at hBt; exact hBt
  have E4 : ¬ ((s 146 13).toInt = -1 ∧ ¬ k.toInt = 6) → ¬ 100 ≤ (s 146 17).toInt → ¬ (s 151 m.toNatClampNeg).toInt = 0 → (((k.toInt = 0 ∨ k.toInt = 6) ∧ ¬ (s 146 18).toInt = 0) ∨ (¬ (k.toInt = 0 ∨ k.toInt = 6) ∧ (s 146 18).toInt = 0)) → B (some (.int 4)) s := by
    intro e1 e2 e3 e4; have hBt := hB s fo_refl; rw [if_neg e1, if_neg e2, if_neg e3, if_pos e4] at hBt; exact hBt
  have H5 : ¬ ((s 146 13).toInt = -1 ∧ ¬ k.toInt = 6) → ¬ 100 ≤ (s 146 17).toInt → ¬ (s 151 m.toNatClampNeg).toInt = 0 → ¬ (((k.toInt = 0 ∨ k.toInt = 6) ∧ ¬ (s 146 18).toInt = 0) ∨ (¬ (k.toInt = 0 ∨ k.toInt = 6) ∧ (s 146 18).toInt = 0)) → 0 < (s 146 18).toInt → ∀ x3 : Int32, q_P G (d + 4) 185 [.ref 146, .int k, .int m] s (fun v t => q_W G (d + 4) jm_M_hinders B 85 [some (.ref 146), some (.int k), some (.int m), some (.int x3)] (v.toList ++ []) t) := by
    intro e1 e2 e3 e4 hn x3; rw [if_neg e1, if_neg e2, if_neg e3, if_neg e4] at hB; exact h5 hn x3 hB
  have H6 : ¬ ((s 146 13).toInt = -1 ∧ ¬ k.toInt = 6) → ¬ 100 ≤ (s 146 17).toInt → ¬ (s 151 m.toNatClampNeg).toInt = 0 → ¬ (((k.toInt = 0 ∨ k.toInt = 6) ∧ ¬ (s 146 18).toInt = 0) ∨ (¬ (k.toInt = 0 ∨ k.toInt = 6) ∧ (s 146 18).toInt = 0)) → ¬ 0 < (s 146 18).toInt → ∀ x3 : Int32, q_P G (d + 4) 178 [.ref 146, .int (s 146 15), .int 1, .int k, .int (s 147 m.toNatClampNeg), .int (s 146 18), .int 0, .int 0] s (fun v t => q_W G (d + 4) jm_M_hinders B 138 [some (.ref 146), some (.int k), some (.int m), some (.int x3)] (v.toList ++ []) t) := by
    intro e1 e2 e3 e4 hn x3; rw [if_neg e1, if_neg e2, if_neg e3, if_neg e4, if_neg (fun e => hn e.1)] at hB; exact h6 x3 hB
  clear hB h5 h6
  refine t_M_hinders (d := d + 4) k m ?_ ?_ ?_ ?_ ?_ ?_ ?_ ?_ ?_ ?_ ?_ ?_ ?_ ?_ ?_ ?_ ?_ ?_ ?_ ?_ ?_ ?_ ?_ ?_ ?_ ?_ ?_
  all_goals (intros; first
    | (refine E1 ?_; clear E1 E2 E3 E4 H5 H6 hJ; ((try simp only [i_lt, i_le, i_eq, i_in, i_cn, Int32.toInt_add, Int32.toInt_sub, Int32.toInt_mul, Int32.toInt_neg, Int32.reduceToInt, Int.bmod_add_bmod, Int.add_bmod_bmod, Int.bmod_sub_bmod, Int.sub_bmod_bmod, Int.bmod_mul_bmod, Int.mul_bmod_bmod, Int.bmod_neg_bmod, Nat.reducePow, Int.reduceBmod, Int.reduceNeg, Int.reduceMul, Int.reduceAdd, Int.reduceSub, not_true_eq_false, not_false_eq_true] at *) <;> (try simp (disch := omega) only [i_bm'] at *) <;> omega))
    | (refine E2 ?_ ?_ <;> (clear E1 E2 E3 E4 H5 H6 hJ; ((try simp only [i_lt, i_le, i_eq, i_in, i_cn, Int32.toInt_add, Int32.toInt_sub, Int32.toInt_mul, Int32.toInt_neg, Int32.reduceToInt, Int.bmod_add_bmod, Int.add_bmod_bmod, Int.bmod_sub_bmod, Int.sub_bmod_bmod, Int.bmod_mul_bmod, Int.mul_bmod_bmod, Int.bmod_neg_bmod, Nat.reducePow, Int.reduceBmod, Int.reduceNeg, Int.reduceMul, Int.reduceAdd, Int.reduceSub, not_true_eq_false, not_false_eq_true] at *) <;> (try simp (disch := omega) only [i_bm'] at *) <;> omega)))
    | (refine E3 ?_ ?_ ?_ <;> (clear E1 E2 E3 E4 H5 H6 hJ; ((try simp only [i_lt, i_le, i_eq, i_in, i_cn, Int32.toInt_add, Int32.toInt_sub, Int32.toInt_mul, Int32.toInt_neg, Int32.reduceToInt, Int.bmod_add_bmod, Int.add_bmod_bmod, Int.bmod_sub_bmod, Int.sub_bmod_bmod, Int.bmod_mul_bmod, Int.mul_bmod_bmod, Int.bmod_neg_bmod, Nat.reducePow, Int.reduceBmod, Int.reduceNeg, Int.reduceMul, Int.reduceAdd, Int.reduceSub, not_true_eq_false, not_false_eq_true] at *) <;> (try simp (disch := omega) only [i_bm'] at *) <;> omega)))
    | (refine E4 ?_ ?_ ?_ ?_ <;> (clear E1 E2 E3 E4 H5 H6 hJ; ((try simp only [i_lt, i_le, i_eq, i_in, i_cn, Int32.toInt_add, Int32.toInt_sub, Int32.toInt_mul, Int32.toInt_neg, Int32.reduceToInt, Int.bmod_add_bmod, Int.add_bmod_bmod, Int.bmod_sub_bmod, Int.sub_bmod_bmod, Int.bmod_mul_bmod, Int.mul_bmod_bmod, Int.bmod_neg_bmod, Nat.reducePow, Int.reduceBmod, Int.reduceNeg, Int.reduceMul, Int.reduceAdd, Int.reduceSub, not_true_eq_false, not_false_eq_true] at *) <;> (try simp (disch := omega) only [i_bm'] at *) <;> omega)))
    | (refine H5 ?_ ?_ ?_ ?_ ?_ _ <;> (clear E1 E2 E3 E4 H5 H6 hJ; ((try simp only [i_lt, i_le, i_eq, i_in, i_cn, Int32.toInt_add, Int32.toInt_sub, Int32.toInt_mul, Int32.toInt_neg, Int32.reduceToInt, Int.bmod_add_bmod, Int.add_bmod_bmod, Int.bmod_sub_bmod, Int.sub_bmod_bmod, Int.bmod_mul_bmod, Int.mul_bmod_bmod, Int.bmod_neg_bmod, Nat.reducePow, Int.reduceBmod, Int.reduceNeg, Int.reduceMul, Int.reduceAdd, Int.reduceSub, not_true_eq_false, not_false_eq_true] at *) <;> (try simp (disch := omega) only [i_bm'] at *) <;> omega)))
    | (refine H6 ?_ ?_ ?_ ?_ ?_ _ <;> (clear E1 E2 E3 E4 H5 H6 hJ; ((try simp only [i_lt, i_le, i_eq, i_in, i_cn, Int32.toInt_add, Int32.toInt_sub, Int32.toInt_mul, Int32.toInt_neg, Int32.reduceToInt, Int.bmod_add_bmod, Int.add_bmod_bmod, Int.bmod_sub_bmod, Int.sub_bmod_bmod, Int.bmod_mul_bmod, Int.mul_bmod_bmod, Int.bmod_neg_bmod, Nat.reducePow, Int.reduceBmod, Int.reduceNeg, Int.reduceMul, Int.reduceAdd, Int.reduceSub, not_true_eq_false, not_false_eq_true] at *) <;> (try simp (disch := omega) only [i_bm'] at *) <;> omega)))
    | (clear E1 E2 E3 E4 H5 H6 hJ; ((try simp only [i_lt, i_le, i_eq, i_in, i_cn, Int32.toInt_add, Int32.toInt_sub, Int32.toInt_mul, Int32.toInt_neg, Int32.reduceToInt, Int.bmod_add_bmod, Int.add_bmod_bmod, Int.bmod_sub_bmod, Int.sub_bmod_bmod, Int.bmod_mul_bmod, Int.mul_bmod_bmod, Int.bmod_neg_bmod, Nat.reducePow, Int.reduceBmod, Int.reduceNeg, Int.reduceMul, Int.reduceAdd, Int.reduceSub, not_true_eq_false, not_false_eq_true] at *) <;> (try simp (disch := omega) only [i_bm'] at *) <;> omega))
    | (exfalso; clear E1 E2 E3 E4 H5 H6 hJ; ((try simp only [i_lt, i_le, i_eq, i_in, i_cn, Int32.toInt_add, Int32.toInt_sub, Int32.toInt_mul, Int32.toInt_neg, Int32.reduceToInt, Int.bmod_add_bmod, Int.add_bmod_bmod, Int.bmod_sub_bmod, Int.sub_bmod_bmod, Int.bmod_mul_bmod, Int.mul_bmod_bmod, Int.bmod_neg_bmod, Nat.reducePow, Int.reduceBmod, Int.reduceNeg, Int.reduceMul, Int.reduceAdd, Int.reduceSub, not_true_eq_false, not_false_eq_true] at *) <;> (try simp (disch := omega) only [i_bm'] at *) <;> omega)))
