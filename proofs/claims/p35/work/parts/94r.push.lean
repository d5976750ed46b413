/-! a motion is put on the pile -/
def p_C (s : jg_H) (k m x w : Int32) : jg_H := jg_up (jg_up (jg_up (jg_up (jg_up (jg_up s 61 (s 60 0).toNatClampNeg k) 62 (s 60 0).toNatClampNeg m) 63 (s 60 0).toNatClampNeg x) 64 (s 60 0).toNatClampNeg w) 60 0 ((s 60 0) + 1)) 0 19 ((s 0 19) + 1)
def p_M (s : jg_H) (k m y b w : Int32) : jg_H := jg_up (jg_up (jg_up (jg_up (jg_up (jg_up (jg_up s 157 (s 146 18).toNatClampNeg k) 158 (s 146 18).toNatClampNeg m) 161 (s 146 18).toNatClampNeg b) 159 (s 146 18).toNatClampNeg y) 160 (s 146 18).toNatClampNeg w) 146 18 ((s 146 18) + 1)) 146 17 ((s 146 17) + 1)
def g_x (k a x : Int32) : Prop := (1 ≤ k.toInt ∧ k.toInt ≤ 3 → x = a) ∧ (¬ (1 ≤ k.toInt ∧ k.toInt ≤ 3) → x = -1)
def g_w (k w y : Int32) : Prop := (k.toInt = 2 ∨ k.toInt = 3 ∨ k.toInt = 6 → y = w) ∧ (¬ (k.toInt = 2 ∨ k.toInt = 3 ∨ k.toInt = 6) → y = -1)
def g_b (k a z b : Int32) : Prop := (k.toInt = 2 ∧ a = z → b = 1) ∧ (¬ (k.toInt = 2 ∧ a = z) → b = 0)
set_option maxRecDepth 20000 in
theorem sp_C_push {G : jv_X} {d : Nat} {B : Option Value → jg_H → Prop} {s : jg_H} (p0 : 0 ≤ (s 60 0).toInt) (p7 : (s 60 0).toInt < 8) (p8 : s 60 1 = 8) (k m a w : Int32) (hB : ∀ x y : Int32, g_x k a x → g_w k w y → B (some (.int ((s 60 0) + 1))) (p_C s k m x y)) : q_W G (d + 2) jm_C_act B 9 [some (.ref 0), some (.int k), some (.int m), some (.int a), some (.int w), none] [.int 0] s := by
  unfold p_C at hB
  refine t_C_act_9 (d := d) k m a w 0 ?_ ?_ ?_ ?_ ?_ ?_ ?_ ?_ ?_ ?_ ?_ ?_ ?_ ?_ ?_ ?_ ?_ ?_ ?_ ?_ ?_ ?_ ?_ ?_ ?_ ?_ ?_ ?_ ?_ ?_ ?_ ?_ ?_ ?_ ?_ ?_ ?_ ?_ ?_ ?_ ?_ ?_ ?_ ?_ ?_ ?_ ?_ ?_ ?_ ?_ ?_ ?_ ?_ ?_ ?_ ?_ ?_ ?_ ?_ ?_ ?_ ?_ ?_ ?_ ?_ ?_ ?_ ?_ ?_ ?_ ?_ ?_ ?_ ?_ ?_ ?_ ?_ ?_ ?_ ?_ ?_ ?_ ?_ ?_ ?_ ?_
  all_goals (intros; subst_vars; first
    | (exfalso; clear hB; (try rw [p8] at *); ((try simp only [i_lt, i_le, i_eq, i_in, i_cn, Int32.toInt_add, Int32.toInt_sub, Int32.toInt_mul, Int32.toInt_neg, Int32.reduceToInt, Int.bmod_add_bmod, Int.add_bmod_bmod, Int.bmod_sub_bmod, Int.sub_bmod_bmod, Int.bmod_mul_bmod, Int.mul_bmod_bmod, Int.bmod_neg_bmod, Nat.reducePow, Int.reduceBmod, Int.reduceNeg, Int.reduceMul, Int.reduceAdd, Int.reduceSub, not_true_eq_false, not_false_eq_true] at *) <;> (try simp (disch := omega) only [i_bm'] at *) <;> omega))
    | (refine hB _ _ ⟨?_, ?_⟩ ⟨?_, ?_⟩ <;> (clear hB; intro e; first | rfl | (exfalso; revert e; decide) | (exfalso; ((try simp only [i_lt, i_le, i_eq, i_in, i_cn, Int32.toInt_add, Int32.toInt_sub, Int32.toInt_mul, Int32.toInt_neg, Int32.reduceToInt, Int.bmod_add_bmod, Int.add_bmod_bmod, Int.bmod_sub_bmod, Int.sub_bmod_bmod, Int.bmod_mul_bmod, Int.mul_bmod_bmod, Int.bmod_neg_bmod, Nat.reducePow, Int.reduceBmod, Int.reduceNeg, Int.reduceMul, Int.reduceAdd, Int.reduceSub, not_true_eq_false, not_false_eq_true] at *) <;> (try simp (disch := omega) only [i_bm'] at *) <;> omega))))
    | (clear hB; (try rw [p8] at *); (try simp (disch := omega) only [u_hit, u_c, u_j] at *); ((try simp only [i_lt, i_le, i_eq, i_in, i_cn, Int32.toInt_add, Int32.toInt_sub, Int32.toInt_mul, Int32.toInt_neg, Int32.reduceToInt, Int.bmod_add_bmod, Int.add_bmod_bmod, Int.bmod_sub_bmod, Int.sub_bmod_bmod, Int.bmod_mul_bmod, Int.mul_bmod_bmod, Int.bmod_neg_bmod, Nat.reducePow, Int.reduceBmod, Int.reduceNeg, Int.reduceMul, Int.reduceAdd, Int.reduceSub, not_true_eq_false, not_false_eq_true] at *) <;> (try simp (disch := omega) only [i_bm'] at *) <;> omega))
    | ((simp (disch := omega) only [u_hit, u_c, u_j]); refine hB _ _ ⟨?_, ?_⟩ ⟨?_, ?_⟩ <;> (clear hB; intro e; first | rfl | (exfalso; revert e; decide) | (exfalso; ((try simp only [i_lt, i_le, i_eq, i_in, i_cn, Int32.toInt_add, Int32.toInt_sub, Int32.toInt_mul, Int32.toInt_neg, Int32.reduceToInt, Int.bmod_add_bmod, Int.add_bmod_bmod, Int.bmod_sub_bmod, Int.sub_bmod_bmod, Int.bmod_mul_bmod, Int.mul_bmod_bmod, Int.bmod_neg_bmod, Nat.reducePow, Int.reduceBmod, Int.reduceNeg, Int.reduceMul, Int.reduceAdd, Int.reduceSub, not_true_eq_false, not_false_eq_true] at *) <;> (try simp (disch := omega) only [i_bm'] at *) <;> omega)))))
set_option maxRecDepth 20000 in
theorem sp_M_push {G : jv_X} {d : Nat} {B : Option Value → jg_H → Prop} {s : jg_H} (p0 : 0 ≤ (s 146 18).toInt) (p7 : (s 146 18).toInt < 8) (k m a w : Int32) (hu : jv_in (s 146 13) 8 = true ∨ ¬ k.toInt = 2) (hB : ∀ x b y : Int32, g_x k a x → g_b k a (s 153 (s 146 13).toNatClampNeg) b → g_w k w y → B (some (.int ((s 146 18) + 1))) (p_M s k m x b y)) : q_W G (d + 2) jm_M_acts B 21 [some (.ref 146), some (.int k), some (.int m), some (.int a), some (.int w), none] [.int 0] s := by
  unfold p_M at hB
  refine t_M_acts_21 (d := d) k m a w 0 ?_ ?_ ?_ ?_ ?_ ?_ ?_ ?_ ?_ ?_ ?_ ?_ ?_ ?_ ?_ ?_ ?_ ?_ ?_ ?_ ?_ ?_ ?_ ?_ ?_ ?_ ?_ ?_ ?_ ?_ ?_ ?_ ?_ ?_ ?_ ?_ ?_ ?_ ?_ ?_ ?_ ?_ ?_ ?_ ?_ ?_ ?_ ?_ ?_ ?_ ?_ ?_ ?_ ?_ ?_ ?_ ?_ ?_ ?_ ?_ ?_ ?_ ?_ ?_ ?_ ?_ ?_ ?_ ?_ ?_ ?_ ?_ ?_ ?_ ?_ ?_ ?_ ?_ ?_ ?_ ?_ ?_ ?_ ?_ ?_ ?_ ?_ ?_
  all_goals (intros; subst_vars; first
    | (exfalso; clear hB; ((try simp only [i_lt, i_le, i_eq, i_in, i_cn, Int32.toInt_add, Int32.toInt_sub, Int32.toInt_mul, Int32.toInt_neg, Int32.reduceToInt, Int.bmod_add_bmod, Int.add_bmod_bmod, Int.bmod_sub_bmod, Int.sub_bmod_bmod, Int.bmod_mul_bmod, Int.mul_bmod_bmod, Int.bmod_neg_bmod, Nat.reducePow, Int.reduceBmod, Int.reduceNeg, Int.reduceMul, Int.reduceAdd, Int.reduceSub, not_true_eq_false, not_false_eq_true] at *) <;> (try simp (disch := omega) only [i_bm'] at *) <;> omega))
    | (clear hB; ((try simp only [i_lt, i_le, i_eq, i_in, i_cn, Int32.toInt_add, Int32.toInt_sub, Int32.toInt_mul, Int32.toInt_neg, Int32.reduceToInt, Int.bmod_add_bmod, Int.add_bmod_bmod, Int.bmod_sub_bmod, Int.sub_bmod_bmod, Int.bmod_mul_bmod, Int.mul_bmod_bmod, Int.bmod_neg_bmod, Nat.reducePow, Int.reduceBmod, Int.reduceNeg, Int.reduceMul, Int.reduceAdd, Int.reduceSub, not_true_eq_false, not_false_eq_true] at *) <;> (try simp (disch := omega) only [i_bm'] at *) <;> omega))
    | (clear hB; rcases hu with hu | hu <;> first | exact hu | (exfalso; exact hu rfl) | (exfalso; ((try simp only [i_lt, i_le, i_eq, i_in, i_cn, Int32.toInt_add, Int32.toInt_sub, Int32.toInt_mul, Int32.toInt_neg, Int32.reduceToInt, Int.bmod_add_bmod, Int.add_bmod_bmod, Int.bmod_sub_bmod, Int.sub_bmod_bmod, Int.bmod_mul_bmod, Int.mul_bmod_bmod, Int.bmod_neg_bmod, Nat.reducePow, Int.reduceBmod, Int.reduceNeg, Int.reduceMul, Int.reduceAdd, Int.reduceSub, not_true_eq_false, not_false_eq_true] at *) <;> (try simp (disch := omega) only [i_bm'] at *) <;> omega)))
    | ((simp (disch := omega) only [u_hit, u_c, u_j]); refine hB _ _ _ ⟨?_, ?_⟩ ⟨?_, ?_⟩ ⟨?_, ?_⟩ <;> (clear hB; intro e; first | rfl | (exfalso; revert e; decide) | (exfalso; exact e ⟨by decide, by (simp (disch := omega) only [u_hit, u_c, u_j])⟩) | (exfalso; (try simp (disch := omega) only [u_hit, u_c, u_j] at *); ((try simp only [i_lt, i_le, i_eq, i_in, i_cn, Int32.toInt_add, Int32.toInt_sub, Int32.toInt_mul, Int32.toInt_neg, Int32.reduceToInt, Int.bmod_add_bmod, Int.add_bmod_bmod, Int.bmod_sub_bmod, Int.sub_bmod_bmod, Int.bmod_mul_bmod, Int.mul_bmod_bmod, Int.bmod_neg_bmod, Nat.reducePow, Int.reduceBmod, Int.reduceNeg, Int.reduceMul, Int.reduceAdd, Int.reduceSub, not_true_eq_false, not_false_eq_true] at *) <;> (try simp (disch := omega) only [i_bm'] at *) <;> omega)))))
/-- what holds goes on holding behind a push -/
theorem Inv_push {s : jg_H} (hI : Inv s) (hn : (s 146 18).toInt < 8) (hmin : (s 146 17).toInt < 100) (k m x y b w : Int32) (k0 : 0 ≤ k.toInt) (k6 : k.toInt ≤ 6) (hm : 0 ≤ m.toInt) (hm' : m.toInt < (s 146 0).toInt) (hw : k = 2 ∨ k = 3 → 1 ≤ w.toInt ∧ w.toInt ≤ 60) (hw' : k = 6 → 0 ≤ w.toInt ∧ w.toInt < (s 146 14).toInt) (hu : ¬ k = 6 → 0 ≤ (s 146 13).toInt) (hpl : f_pl k x y b (s 153 (s 146 13).toInt.toNat)) : Inv (p_M (p_C s k m x w) k m y b w) := by
  have p1 := hI.2.2.2.1.1
  have p2 := hI.2.2.2.1.2.1
  have p3 := hI.2.2.2.1.2.2.1
  have p4 := hI.2.2.2.1.2.2.2.1
  obtain ⟨z1, z2, z3, z4, z5, z6, z7, z8, z9, z10, z11⟩ := hI.2.2.2.2.2.2.2.1
  have hN : (s 146 18).toNatClampNeg < 8 := by rw [i_cn]; omega
  have hNi : ((s 146 18).toNatClampNeg : Int) = (s 146 18).toInt := by rw [i_cn]; omega
  have hm1 : ((s 146 18) + 1).toInt = (s 146 18).toInt + 1 := by clear hI hpl hw hw' hu z7 z8 z9 z10 z11; ((try simp only [i_lt, i_le, i_eq, i_in, i_cn, Int32.toInt_add, Int32.toInt_sub, Int32.toInt_mul, Int32.toInt_neg, Int32.reduceToInt, Int.bmod_add_bmod, Int.add_bmod_bmod, Int.bmod_sub_bmod, Int.sub_bmod_bmod, Int.bmod_mul_bmod, Int.mul_bmod_bmod, Int.bmod_neg_bmod, Nat.reducePow, Int.reduceBmod, Int.reduceNeg, Int.reduceMul, Int.reduceAdd, Int.reduceSub, not_true_eq_false, not_false_eq_true] at *) <;> (try simp (disch := omega) only [i_bm'] at *) <;> omega)
  have hm2 : ((s 146 17) + 1).toInt = (s 146 17).toInt + 1 := by clear hI hpl hw hw' hu z7 z8 z9 z10 z11; ((try simp only [i_lt, i_le, i_eq, i_in, i_cn, Int32.toInt_add, Int32.toInt_sub, Int32.toInt_mul, Int32.toInt_neg, Int32.reduceToInt, Int.bmod_add_bmod, Int.add_bmod_bmod, Int.bmod_sub_bmod, Int.sub_bmod_bmod, Int.bmod_mul_bmod, Int.mul_bmod_bmod, Int.bmod_neg_bmod, Nat.reducePow, Int.reduceBmod, Int.reduceNeg, Int.reduceMul, Int.reduceAdd, Int.reduceSub, not_true_eq_false, not_false_eq_true] at *) <;> (try simp (disch := omega) only [i_bm'] at *) <;> omega)
  unfold p_M p_C
  rw [p1, z4]
  simp (disch := omega) only [u_hit, u_c, u_j]
  generalize hNN : (s 146 18).toNatClampNeg = N at *
  have f1 : ∀ c j v (u : jg_H), g_of c j = 4 ∨ g_of c j = 8 → (∀ q, ¬ q = 4 → ¬ q = 8 → f_same q s u) → ∀ q, ¬ q = 4 → ¬ q = 8 → f_same q s (jg_up u c j v) := fun c j v u hg h q h4 h8 => fs_up (h q h4 h8) (fun e => by rcases hg with g | g <;> (rw [g] at e; first | exact h4 e.symm | exact h8 e.symm))
  have g57 : ∀ c, 157 ≤ c → c < 162 → g_of c N = 4 := fun c h h' => g_4 h h' hN
  have F : ∀ q, ¬ q = 4 → ¬ q = 8 → f_same q s (jg_up (jg_up (jg_up (jg_up (jg_up (jg_up (jg_up (jg_up (jg_up (jg_up (jg_up (jg_up (jg_up s 61 N k) 62 N m) 63 N x) 64 N w) 60 0 (s 146 18 + 1)) 0 19 (s 146 17 + 1)) 157 N k) 158 N m) 161 N b) 159 N y) 160 N w) 146 18 (s 146 18 + 1)) 146 17 (s 146 17 + 1)) :=
    f1 _ _ _ _ (Or.inr rfl) (f1 _ _ _ _ (Or.inl rfl) (f1 _ _ _ _ (Or.inl (g57 _ (by decide) (by decide))) (f1 _ _ _ _ (Or.inl (g57 _ (by decide) (by decide))) (f1 _ _ _ _ (Or.inl (g57 _ (by decide) (by decide))) (f1 _ _ _ _ (Or.inl (g57 _ (by decide) (by decide))) (f1 _ _ _ _ (Or.inl (g57 _ (by decide) (by decide))) (f1 _ _ _ _ (Or.inr rfl) (f1 _ _ _ _ (Or.inl rfl) (f1 _ _ _ _ (Or.inl rfl) (f1 _ _ _ _ (Or.inl rfl) (f1 _ _ _ _ (Or.inl rfl) (f1 _ _ _ _ (Or.inl rfl) (fun _ _ _ => fs_refl)))))))))))))
  generalize hT : jg_up (jg_up (jg_up (jg_up (jg_up (jg_up (jg_up (jg_up (jg_up (jg_up (jg_up (jg_up (jg_up s 61 N k) 62 N m) 63 N x) 64 N w) 60 0 (s 146 18 + 1)) 0 19 (s 146 17 + 1)) 157 N k) 158 N m) 161 N b) 159 N y) 160 N w) 146 18 (s 146 18 + 1)) 146 17 (s 146 17 + 1) = T at F ⊢
  have v0 : T 146 18 = s 146 18 + 1 := by rw [← hT]; (simp (disch := omega) only [u_hit, u_c, u_j])
  have v1 : T 60 0 = s 146 18 + 1 := by rw [← hT]; (simp (disch := omega) only [u_hit, u_c, u_j])
  have v2 : T 60 1 = s 60 1 := by rw [← hT]; (simp (disch := omega) only [u_hit, u_c, u_j])
  have v3 : T 0 19 = s 146 17 + 1 := by rw [← hT]; (simp (disch := omega) only [u_hit, u_c, u_j])
  have v4 : T 146 17 = s 146 17 + 1 := by rw [← hT]; (simp (disch := omega) only [u_hit, u_c, u_j])
  have v5 : T 146 13 = s 146 13 := F 3 (by decide) (by decide) 146 13 rfl
  have v6 : T 146 0 = s 146 0 := F 1 (by decide) (by decide) 146 0 rfl
  have v7 : T 146 14 = s 146 14 := F 6 (by decide) (by decide) 146 14 rfl
  have v8 : T 153 = s 153 := funext fun j => F 2 (by decide) (by decide) 153 j rfl
  have v9 : T 152 = s 152 := funext fun j => F 2 (by decide) (by decide) 152 j rfl
  have v10 : T 146 6 = s 146 6 := F 2 (by decide) (by decide) 146 6 rfl
  have w1 : ∀ c, c = 61 ∨ c = 62 ∨ c = 63 ∨ c = 64 ∨ c = 157 ∨ c = 158 ∨ c = 159 ∨ c = 160 ∨ c = 161 → ∀ i, ¬ i = N → T c i = s c i := by
    intro c hc i hi
    rw [← hT]
    rcases hc with e | e | e | e | e | e | e | e | e <;> subst e <;> (simp (disch := omega) only [u_hit, u_c, u_j])
  have n1 : T 61 N = k := by rw [← hT]; (simp (disch := omega) only [u_hit, u_c, u_j])
  have n2 : T 62 N = m := by rw [← hT]; (simp (disch := omega) only [u_hit, u_c, u_j])
  have n3 : T 63 N = x := by rw [← hT]; (simp (disch := omega) only [u_hit, u_c, u_j])
  have n4 : T 64 N = w := by rw [← hT]; (simp (disch := omega) only [u_hit, u_c, u_j])
  have n5 : T 157 N = k := by rw [← hT]; (simp (disch := omega) only [u_hit, u_c, u_j])
  have n6 : T 158 N = m := by rw [← hT]; (simp (disch := omega) only [u_hit, u_c, u_j])
  have n7 : T 159 N = y := by rw [← hT]; (simp (disch := omega) only [u_hit, u_c, u_j])
  have n8 : T 160 N = w := by rw [← hT]; (simp (disch := omega) only [u_hit, u_c, u_j])
  have n9 : T 161 N = b := by rw [← hT]; (simp (disch := omega) only [u_hit, u_c, u_j])
  have y1 : T 0 18 = s 0 18 := by rw [← hT]; (simp (disch := omega) only [u_hit, u_c, u_j])
  have y2 : T 146 16 = s 146 16 := by rw [← hT]; (simp (disch := omega) only [u_hit, u_c, u_j])
  have y3 : T 122 = s 122 := by rw [← hT]; funext j; (simp (disch := omega) only [u_hit, u_c, u_j])
  have y4 : T 146 25 = s 146 25 := by rw [← hT]; (simp (disch := omega) only [u_hit, u_c, u_j])
  have y5 : T 146 26 = s 146 26 := by rw [← hT]; (simp (disch := omega) only [u_hit, u_c, u_j])
  have y6 : T 146 27 = s 146 27 := by rw [← hT]; (simp (disch := omega) only [u_hit, u_c, u_j])
  have y7 : T 146 28 = s 146 28 := by rw [← hT]; (simp (disch := omega) only [u_hit, u_c, u_j])
  clear hT
  refine ⟨fr_mem (F 1 (by decide) (by decide)) hI.1, fr_bil (F 2 (by decide) (by decide)) hI.2.1, fr_cal (F 3 (by decide) (by decide)) v9 (by rw [v10]; exact Int.le_refl _) hI.2.2.1, ?_, fr_tol (F 5 (by decide) (by decide)) v5 v8 hI.2.2.2.2.1, fr_txt (F 6 (by decide) (by decide)) hI.2.2.2.2.2.1, fr_tap (F 7 (by decide) (by decide)) hI.2.2.2.2.2.2.1, ?_, fr_try (F 10 (by decide) (by decide)) hI.2.2.2.2.2.2.2.2.1, fr_cst (F 9 (by decide) (by decide)) hI.2.2.2.2.2.2.2.2.2⟩
  · refine ⟨by rw [v0, v1], by rw [v0]; omega, by rw [v0]; omega, by rw [v2]; exact p4, fun i hi => ?_⟩
    rw [v0, hm1] at hi
    rw [v5, v6, v7, v8]
    by_cases e : i = N
    · subst e
      rw [n1, n2, n3, n4, n5, n6, n7, n8, n9]
      exact ⟨rfl, k0, k6, rfl, hm, hm', rfl, hw, hw', hu, hpl⟩
    · rw [w1 61 (by decide) i e, w1 62 (by decide) i e, w1 63 (by decide) i e, w1 64 (by decide) i e, w1 157 (by decide) i e, w1 158 (by decide) i e, w1 159 (by decide) i e, w1 160 (by decide) i e, w1 161 (by decide) i e]
      exact hI.2.2.2.1.2.2.2.2 i (by omega)
  · unfold I_mis
    rw [y1, y2, y3, v3, v4, y4, y5, y6, y7, hm2]
    exact ⟨z1, z2, z3, rfl, by omega, by omega, z7, z8, z9, z10, z11⟩
