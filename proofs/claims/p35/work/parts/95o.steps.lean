/-! confer and conferred -/
set_option maxRecDepth 20000 in
theorem st_confer {G : jv_X} {d : Nat} {s : jg_H} (hI : Inv s) (a1 a2 : Int32) : q_P G (d + 5) 117 [.ref 0, .int a1, .int a2] s (fun r s' => q_P G (d + 5) 210 [.ref 146, .int a1, .int a2] s' (fun r' s'' => r = r' ∧ Inv s'')) := by
  have c1 := hI.2.1.1
  have c2 := hI.2.1.2.1
  have c3 := hI.2.1.2.2.1
  refine t_C_confer (d := d + 3) a1 a2 ?_ ?_ ?_ ?_ ?_ ?_ ?main ?_
  case main =>
    intro g1 g2 g3 g4 g5 g6 g7
    have h0 : 0 ≤ a1.toInt := by clear hI; ((try simp only [i_lt, i_le, i_eq, i_in, i_cn, Int32.toInt_add, Int32.toInt_sub, Int32.toInt_mul, Int32.toInt_neg, Int32.reduceToInt, Int.bmod_add_bmod, Int.add_bmod_bmod, Int.bmod_sub_bmod, Int.sub_bmod_bmod, Int.bmod_mul_bmod, Int.mul_bmod_bmod, Int.bmod_neg_bmod, Nat.reducePow, Int.reduceBmod, Int.reduceNeg, Int.reduceMul, Int.reduceAdd, Int.reduceSub, not_true_eq_false, not_false_eq_true] at *) <;> (try simp (disch := omega) only [i_bm'] at *) <;> omega)
    have h1 : a1.toInt < (s 146 6).toInt := by clear hI; ((try simp only [i_lt, i_le, i_eq, i_in, i_cn, Int32.toInt_add, Int32.toInt_sub, Int32.toInt_mul, Int32.toInt_neg, Int32.reduceToInt, Int.bmod_add_bmod, Int.add_bmod_bmod, Int.bmod_sub_bmod, Int.sub_bmod_bmod, Int.bmod_mul_bmod, Int.mul_bmod_bmod, Int.bmod_neg_bmod, Nat.reducePow, Int.reduceBmod, Int.reduceNeg, Int.reduceMul, Int.reduceAdd, Int.reduceSub, not_true_eq_false, not_false_eq_true] at *) <;> (try simp (disch := omega) only [i_bm'] at *) <;> omega)
    have h2 : 0 ≤ a2.toInt := by clear hI; ((try simp only [i_lt, i_le, i_eq, i_in, i_cn, Int32.toInt_add, Int32.toInt_sub, Int32.toInt_mul, Int32.toInt_neg, Int32.reduceToInt, Int.bmod_add_bmod, Int.add_bmod_bmod, Int.bmod_sub_bmod, Int.sub_bmod_bmod, Int.bmod_mul_bmod, Int.mul_bmod_bmod, Int.bmod_neg_bmod, Nat.reducePow, Int.reduceBmod, Int.reduceNeg, Int.reduceMul, Int.reduceAdd, Int.reduceSub, not_true_eq_false, not_false_eq_true] at *) <;> (try simp (disch := omega) only [i_bm'] at *) <;> omega)
    have h3 : a2.toInt < (s 146 6).toInt := by clear hI; ((try simp only [i_lt, i_le, i_eq, i_in, i_cn, Int32.toInt_add, Int32.toInt_sub, Int32.toInt_mul, Int32.toInt_neg, Int32.reduceToInt, Int.bmod_add_bmod, Int.add_bmod_bmod, Int.bmod_sub_bmod, Int.sub_bmod_bmod, Int.bmod_mul_bmod, Int.mul_bmod_bmod, Int.bmod_neg_bmod, Nat.reducePow, Int.reduceBmod, Int.reduceNeg, Int.reduceMul, Int.reduceAdd, Int.reduceSub, not_true_eq_false, not_false_eq_true] at *) <;> (try simp (disch := omega) only [i_bm'] at *) <;> omega)
    have le1 : a1 ≤ (s 146 6) - 1 := by clear hI; ((try simp only [i_lt, i_le, i_eq, i_in, i_cn, Int32.toInt_add, Int32.toInt_sub, Int32.toInt_mul, Int32.toInt_neg, Int32.reduceToInt, Int.bmod_add_bmod, Int.add_bmod_bmod, Int.bmod_sub_bmod, Int.sub_bmod_bmod, Int.bmod_mul_bmod, Int.mul_bmod_bmod, Int.bmod_neg_bmod, Nat.reducePow, Int.reduceBmod, Int.reduceNeg, Int.reduceMul, Int.reduceAdd, Int.reduceSub, not_true_eq_false, not_false_eq_true] at *) <;> (try simp (disch := omega) only [i_bm'] at *) <;> omega)
    have le2 : a2 ≤ (s 146 6) - 1 := by clear hI; ((try simp only [i_lt, i_le, i_eq, i_in, i_cn, Int32.toInt_add, Int32.toInt_sub, Int32.toInt_mul, Int32.toInt_neg, Int32.reduceToInt, Int.bmod_add_bmod, Int.add_bmod_bmod, Int.bmod_sub_bmod, Int.sub_bmod_bmod, Int.bmod_mul_bmod, Int.mul_bmod_bmod, Int.bmod_neg_bmod, Nat.reducePow, Int.reduceBmod, Int.reduceNeg, Int.reduceMul, Int.reduceAdd, Int.reduceSub, not_true_eq_false, not_false_eq_true] at *) <;> (try simp (disch := omega) only [i_bm'] at *) <;> omega)
    obtain ⟨k1, k2, k3⟩ := (key_bil hI.2.1 a1 h0 h1).2.2.2.2.2.2
    obtain ⟨l1, l2, l3⟩ := (key_bil hI.2.1 a2 h2 h3).2.2.2.2.2.2
    have hA8 : a1.toNatClampNeg < 8 := by rw [i_cn]; omega
    have hC8 : a2.toNatClampNeg < 8 := by rw [i_cn]; omega
    have wA := hI.2.1.2.2.2.2 a1.toNatClampNeg
    have wC := hI.2.1.2.2.2.2 a2.toNatClampNeg
    have hA : a1.toInt = a1.toNatClampNeg := by rw [i_cn]; omega
    have hC : a2.toInt = a2.toNatClampNeg := by rw [i_cn]; omega
    obtain ⟨na, hna⟩ : ∃ n : Nat, (s 153 a1.toNatClampNeg).toInt = n := ⟨(s 153 a1.toNatClampNeg).toInt.toNat, by omega⟩
    obtain ⟨nb, hnb⟩ : ∃ n : Nat, (s 153 a2.toNatClampNeg).toInt = n := ⟨(s 153 a2.toNatClampNeg).toInt.toNat, by omega⟩
    have hba : ∀ j, j < na → 1 ≤ (s 154 (10 * a1.toNatClampNeg + j)).toInt ∧ (s 154 (10 * a1.toNatClampNeg + j)).toInt ≤ 60 := fun j hj => (wA j hA8 (by omega)).2
    generalize hAA : a1.toNatClampNeg = A at *
    generalize hCC : a2.toNatClampNeg = C at *
    refine sp_C_bring (d := d) (f_1_s2 (f_m32 hA8)) (f_1_s2 (f_m32 hC8)) (by omega) (by omega) na nb (by rw [k1]; exact hna) (by rw [l1]; exact hnb) (by omega) (by omega) (fun j => s 154 (10 * A + j)) (fun j => s 154 (10 * C + j)) (fun j hj => (wA j hA8 (by omega)).1) (fun j hj => (wC j hC8 (by omega)).1) hba ?_
    intro t r hr hrow hf
    have ft : f_only 0 s t := by
      intro c j hg
      have gz : ∀ x, 123 ≤ x → x < 137 → g_of x j = 0 := by
        intro x p1 p2
        unfold g_of
        rw [if_neg (by omega), if_neg (by omega), if_neg (by omega), if_neg (by omega), if_neg (by omega), if_neg (by omega), if_neg (by omega), if_neg (by omega), if_neg (by omega), if_neg (by omega), if_neg (by omega), if_neg (by omega), if_neg (by omega), if_neg (by omega), if_pos p2]
      exact hf c j (fun e => hg (gz c (by omega) (by omega))) (fun e => hg (gz c (by omega) (by omega)))
    have hIt := Inv_0 hI ft
    have up : ∀ c, 146 ≤ c → t c = s c := fun c hc => funext fun j => hf c j (by omega) (by omega)
    have u6 : t 146 6 = s 146 6 := by rw [up 146 (by decide)]
    refine t_C_confer_49 (d := d + 3) a1 a2 r ?_
    refine t_M_confer (d := d + 2) a1 a2 (fun g => absurd g g1) (fun _ g => absurd le1 (by rw [u6] at g; exact g)) (fun _ _ g => absurd g g4) (fun _ _ _ g => absurd le2 (by rw [u6] at g; exact g)) ?_ (fun _ _ _ _ g => absurd g g7)
    intro _ _ _ _ _
    refine sp_M_brings (d := d + 3) a1 a2 A C hA hC hA8 hC8 na nb (by rw [up 153 (by decide)]; exact hna) (by rw [up 153 (by decide)]; exact hnb) (by omega) (by omega) (fun j => s 154 (10 * A + j)) (fun j => s 154 (10 * C + j)) (fun j _ => by rw [up 154 (by decide)]) (fun j _ => by rw [up 154 (by decide)]) ?_
    intro t' T' hf'
    refine t_M_confer_30 (d := d + 2) a1 a2 ⟨?_, Inv_0 hIt (fun c j hg => hf' c j (by rintro rfl; exact hg rfl))⟩
    have e := T' 0 0 (Nat.zero_le _) (Nat.zero_le _)
    exact r_i (by rw [hr]; exact e.symm)
  all_goals (intros; refine t_M_confer (d := d + 2) a1 a2 ?_ ?_ ?_ ?_ ?_ ?_ <;> intros <;> first | (exact ⟨rfl, hI⟩) | (exfalso; clear hI; ((try simp only [i_lt, i_le, i_eq, i_in, i_cn, Int32.toInt_add, Int32.toInt_sub, Int32.toInt_mul, Int32.toInt_neg, Int32.reduceToInt, Int.bmod_add_bmod, Int.add_bmod_bmod, Int.bmod_sub_bmod, Int.sub_bmod_bmod, Int.bmod_mul_bmod, Int.mul_bmod_bmod, Int.bmod_neg_bmod, Nat.reducePow, Int.reduceBmod, Int.reduceNeg, Int.reduceMul, Int.reduceAdd, Int.reduceSub, not_true_eq_false, not_false_eq_true] at *) <;> (try simp (disch := omega) only [i_bm'] at *) <;> omega)))
set_option maxRecDepth 20000 in
theorem st_conferred {G : jv_X} {d : Nat} {s : jg_H} (hI : Inv s) (a1 a2 a3 : Int32) : q_P G (d + 5) 122 [.ref 0, .int a1, .int a2, .int a3] s (fun r s' => q_P G (d + 5) 212 [.ref 146, .int a1, .int a2, .int a3] s' (fun r' s'' => r = r' ∧ Inv s'')) := by
  have c1 := hI.2.1.1
  have c2 := hI.2.1.2.1
  have c3 := hI.2.1.2.2.1
  refine t_C_conferred (d := d + 3) a1 a2 a3 ?_ ?_ ?_ ?_ ?_ ?_ ?main ?_
  case main =>
    intro g1 g2 g3 g4 g5 g6 g7
    have h0 : 0 ≤ a1.toInt := by clear hI; ((try simp only [i_lt, i_le, i_eq, i_in, i_cn, Int32.toInt_add, Int32.toInt_sub, Int32.toInt_mul, Int32.toInt_neg, Int32.reduceToInt, Int.bmod_add_bmod, Int.add_bmod_bmod, Int.bmod_sub_bmod, Int.sub_bmod_bmod, Int.bmod_mul_bmod, Int.mul_bmod_bmod, Int.bmod_neg_bmod, Nat.reducePow, Int.reduceBmod, Int.reduceNeg, Int.reduceMul, Int.reduceAdd, Int.reduceSub, not_true_eq_false, not_false_eq_true] at *) <;> (try simp (disch := omega) only [i_bm'] at *) <;> omega)
    have h1 : a1.toInt < (s 146 6).toInt := by clear hI; ((try simp only [i_lt, i_le, i_eq, i_in, i_cn, Int32.toInt_add, Int32.toInt_sub, Int32.toInt_mul, Int32.toInt_neg, Int32.reduceToInt, Int.bmod_add_bmod, Int.add_bmod_bmod, Int.bmod_sub_bmod, Int.sub_bmod_bmod, Int.bmod_mul_bmod, Int.mul_bmod_bmod, Int.bmod_neg_bmod, Nat.reducePow, Int.reduceBmod, Int.reduceNeg, Int.reduceMul, Int.reduceAdd, Int.reduceSub, not_true_eq_false, not_false_eq_true] at *) <;> (try simp (disch := omega) only [i_bm'] at *) <;> omega)
    have h2 : 0 ≤ a2.toInt := by clear hI; ((try simp only [i_lt, i_le, i_eq, i_in, i_cn, Int32.toInt_add, Int32.toInt_sub, Int32.toInt_mul, Int32.toInt_neg, Int32.reduceToInt, Int.bmod_add_bmod, Int.add_bmod_bmod, Int.bmod_sub_bmod, Int.sub_bmod_bmod, Int.bmod_mul_bmod, Int.mul_bmod_bmod, Int.bmod_neg_bmod, Nat.reducePow, Int.reduceBmod, Int.reduceNeg, Int.reduceMul, Int.reduceAdd, Int.reduceSub, not_true_eq_false, not_false_eq_true] at *) <;> (try simp (disch := omega) only [i_bm'] at *) <;> omega)
    have h3 : a2.toInt < (s 146 6).toInt := by clear hI; ((try simp only [i_lt, i_le, i_eq, i_in, i_cn, Int32.toInt_add, Int32.toInt_sub, Int32.toInt_mul, Int32.toInt_neg, Int32.reduceToInt, Int.bmod_add_bmod, Int.add_bmod_bmod, Int.bmod_sub_bmod, Int.sub_bmod_bmod, Int.bmod_mul_bmod, Int.mul_bmod_bmod, Int.bmod_neg_bmod, Nat.reducePow, Int.reduceBmod, Int.reduceNeg, Int.reduceMul, Int.reduceAdd, Int.reduceSub, not_true_eq_false, not_false_eq_true] at *) <;> (try simp (disch := omega) only [i_bm'] at *) <;> omega)
    have le1 : a1 ≤ (s 146 6) - 1 := by clear hI; ((try simp only [i_lt, i_le, i_eq, i_in, i_cn, Int32.toInt_add, Int32.toInt_sub, Int32.toInt_mul, Int32.toInt_neg, Int32.reduceToInt, Int.bmod_add_bmod, Int.add_bmod_bmod, Int.bmod_sub_bmod, Int.sub_bmod_bmod, Int.bmod_mul_bmod, Int.mul_bmod_bmod, Int.bmod_neg_bmod, Nat.reducePow, Int.reduceBmod, Int.reduceNeg, Int.reduceMul, Int.reduceAdd, Int.reduceSub, not_true_eq_false, not_false_eq_true] at *) <;> (try simp (disch := omega) only [i_bm'] at *) <;> omega)
    have le2 : a2 ≤ (s 146 6) - 1 := by clear hI; ((try simp only [i_lt, i_le, i_eq, i_in, i_cn, Int32.toInt_add, Int32.toInt_sub, Int32.toInt_mul, Int32.toInt_neg, Int32.reduceToInt, Int.bmod_add_bmod, Int.add_bmod_bmod, Int.bmod_sub_bmod, Int.sub_bmod_bmod, Int.bmod_mul_bmod, Int.mul_bmod_bmod, Int.bmod_neg_bmod, Nat.reducePow, Int.reduceBmod, Int.reduceNeg, Int.reduceMul, Int.reduceAdd, Int.reduceSub, not_true_eq_false, not_false_eq_true] at *) <;> (try simp (disch := omega) only [i_bm'] at *) <;> omega)
    obtain ⟨k1, k2, k3⟩ := (key_bil hI.2.1 a1 h0 h1).2.2.2.2.2.2
    obtain ⟨l1, l2, l3⟩ := (key_bil hI.2.1 a2 h2 h3).2.2.2.2.2.2
    have hA8 : a1.toNatClampNeg < 8 := by rw [i_cn]; omega
    have hC8 : a2.toNatClampNeg < 8 := by rw [i_cn]; omega
    have wA := hI.2.1.2.2.2.2 a1.toNatClampNeg
    have wC := hI.2.1.2.2.2.2 a2.toNatClampNeg
    have hA : a1.toInt = a1.toNatClampNeg := by rw [i_cn]; omega
    have hC : a2.toInt = a2.toNatClampNeg := by rw [i_cn]; omega
    obtain ⟨na, hna⟩ : ∃ n : Nat, (s 153 a1.toNatClampNeg).toInt = n := ⟨(s 153 a1.toNatClampNeg).toInt.toNat, by omega⟩
    obtain ⟨nb, hnb⟩ : ∃ n : Nat, (s 153 a2.toNatClampNeg).toInt = n := ⟨(s 153 a2.toNatClampNeg).toInt.toNat, by omega⟩
    have hba : ∀ j, j < na → 1 ≤ (s 154 (10 * a1.toNatClampNeg + j)).toInt ∧ (s 154 (10 * a1.toNatClampNeg + j)).toInt ≤ 60 := fun j hj => (wA j hA8 (by omega)).2
    generalize hAA : a1.toNatClampNeg = A at *
    generalize hCC : a2.toNatClampNeg = C at *
    refine sp_C_bring (d := d) (f_1_s2 (f_m32 hA8)) (f_1_s2 (f_m32 hC8)) (by omega) (by omega) na nb (by rw [k1]; exact hna) (by rw [l1]; exact hnb) (by omega) (by omega) (fun j => s 154 (10 * A + j)) (fun j => s 154 (10 * C + j)) (fun j hj => (wA j hA8 (by omega)).1) (fun j hj => (wC j hC8 (by omega)).1) hba ?_
    intro t r hr hrow hf
    have ft : f_only 0 s t := by
      intro c j hg
      have gz : ∀ x, 123 ≤ x → x < 137 → g_of x j = 0 := by
        intro x p1 p2
        unfold g_of
        rw [if_neg (by omega), if_neg (by omega), if_neg (by omega), if_neg (by omega), if_neg (by omega), if_neg (by omega), if_neg (by omega), if_neg (by omega), if_neg (by omega), if_neg (by omega), if_neg (by omega), if_neg (by omega), if_neg (by omega), if_neg (by omega), if_pos p2]
      exact hf c j (fun e => hg (gz c (by omega) (by omega))) (fun e => hg (gz c (by omega) (by omega)))
    have hIt := Inv_0 hI ft
    have up : ∀ c, 146 ≤ c → t c = s c := fun c hc => funext fun j => hf c j (by omega) (by omega)
    have u6 : t 146 6 = s 146 6 := by rw [up 146 (by decide)]
    obtain ⟨L, hL⟩ : ∃ L, f_L (fun j => s 154 (10 * A + j)) (fun j => s 154 (10 * C + j)) na nb 0 0 = L := ⟨_, rfl⟩
    have L10 : L ≤ 10 := by rw [← hL]; exact Nat.le_trans (L_na (na - 0) 0 0 rfl) (by omega)
    rw [hL] at hr hrow
    -- the reference's side
    have M : ∀ (B : Option Value → jg_H → Prop), (a3.toInt < 0 ∨ (L : Int) ≤ a3.toInt → ∀ t', Inv t' → B (some (.int (-1))) t') → (∀ I : Nat, a3.toInt = I → I < L → ∀ (v : Int32) (t' : jg_H), Inv t' → (∃ x y, f_go (fun j => s 154 (10 * A + j)) (fun j => s 154 (10 * C + j)) na nb I x y ∧ f_min (fun j => s 154 (10 * A + j)) (fun j => s 154 (10 * C + j)) na nb x y v) → B (some (.int v)) t') → q_P G (d + 5) 212 [.ref 146, .int a1, .int a2, .int a3] t B := by
      intro B b1 b2
      refine t_M_conferred (d := d + 2) a1 a2 a3 (fun g => absurd g g1) (fun _ g => absurd le1 (by rw [u6] at g; exact g)) (fun _ _ g => absurd g g4) (fun _ _ _ g => absurd le2 (by rw [u6] at g; exact g)) ?_ (fun _ _ _ _ g => absurd g g7)
      intro _ _ _ _ _
      refine sp_M_brings (d := d + 3) a1 a2 A C hA hC hA8 hC8 na nb (by rw [up 153 (by decide)]; exact hna) (by rw [up 153 (by decide)]; exact hnb) (by omega) (by omega) (fun j => s 154 (10 * A + j)) (fun j => s 154 (10 * C + j)) (fun j _ => by rw [up 154 (by decide)]) (fun j _ => by rw [up 154 (by decide)]) ?_
      intro t' T' hf'
      have hI' := Inv_0 hIt (fun c j hg => hf' c j (by rintro rfl; exact hg rfl))
      have e := T' 0 0 (Nat.zero_le _) (Nat.zero_le _)
      have e : (t' 175 0).toInt = L := by rw [← hL]; exact e
      have z : ((t' 175 0) - 1).toInt = (L : Int) - 1 := by
        generalize t' 175 0 = Z at *
        clear hI hI' hIt hf hf' T' b1 b2 hrow hba wA wC up ft hr hL k1 l1 hna hnb hA hC hAA hCC
        ((try simp only [i_lt, i_le, i_eq, i_in, i_cn, Int32.toInt_add, Int32.toInt_sub, Int32.toInt_mul, Int32.toInt_neg, Int32.reduceToInt, Int.bmod_add_bmod, Int.add_bmod_bmod, Int.bmod_sub_bmod, Int.sub_bmod_bmod, Int.bmod_mul_bmod, Int.mul_bmod_bmod, Int.bmod_neg_bmod, Nat.reducePow, Int.reduceBmod, Int.reduceNeg, Int.reduceMul, Int.reduceAdd, Int.reduceSub, not_true_eq_false, not_false_eq_true] at *) <;> (try simp (disch := omega) only [i_bm'] at *) <;> omega)
      refine t_M_conferred_30 (d := d + 2) a1 a2 a3 ?_ ?_ ?_
      · intro g
        refine b1 (Or.inl ?_) t' hI'
        rw [i_lt] at g; have : (0 : Int32).toInt = 0 := rfl; omega
      · intro _ g
        refine b1 (Or.inr ?_) t' hI'
        rw [i_le, z] at g; omega
      · intro g g'
        rw [i_lt] at g; have z0 : (0 : Int32).toInt = 0 := rfl
        rw [i_le, z] at g'
        refine sp_M_conferred (d := d + 1) a1 a2 A C hA hC hA8 hC8 na nb (by rw [hf' 153 _ (by decide), up 153 (by decide)]; exact hna) (by rw [hf' 153 _ (by decide), up 153 (by decide)]; exact hnb) (by omega) (by omega) (fun j => s 154 (10 * A + j)) (fun j => s 154 (10 * C + j)) (fun j _ => by rw [hf' 154 _ (by decide), up 154 (by decide)]) (fun j _ => by rw [hf' 154 _ (by decide), up 154 (by decide)]) hba T' a3 a3.toInt.toNat (by omega) (by rw [hL]; omega) ?_
        intro v hv
        exact b2 a3.toInt.toNat (by omega) (by omega) v t' hI' hv
    have z0 : (0 : Int32).toInt = 0 := rfl
    refine t_C_conferred_49 (d := d + 3) a1 a2 a3 r ?_ ?_ ?_ ?_
    · intro g
      rw [i_lt] at g
      refine M _ (fun _ t' h => ⟨rfl, h⟩) (fun I e _ => by omega)
    · intro _ g
      rw [i_lt, hr] at g
      refine M _ (fun _ t' h => ⟨rfl, h⟩) (fun I e h' => by omega)
    · intro _ g g'
      rw [i_lt, hr] at g
      rw [i_lt] at g'
      have : (10 : Int32).toInt = 10 := rfl
      omega
    · intro g g' _
      rw [i_lt] at g
      rw [i_lt, hr] at g'
      refine M _ (fun h => by omega) ?_
      intro I e h' v t' hI' hv
      refine ⟨?_, hI'⟩
      obtain ⟨x, y, p1, p2⟩ := hrow I h'
      obtain ⟨x', y', p1', p2'⟩ := hv
      obtain ⟨q1, q2⟩ := go_u I x y x' y' p1 p1'
      subst q1
      subst q2
      rw [cn_of e]
      rw [min_u p2 p2']
  all_goals (intros; refine t_M_conferred (d := d + 2) a1 a2 a3 ?_ ?_ ?_ ?_ ?_ ?_ <;> intros <;> first | (exact ⟨rfl, hI⟩) | (exfalso; clear hI; ((try simp only [i_lt, i_le, i_eq, i_in, i_cn, Int32.toInt_add, Int32.toInt_sub, Int32.toInt_mul, Int32.toInt_neg, Int32.reduceToInt, Int.bmod_add_bmod, Int.add_bmod_bmod, Int.bmod_sub_bmod, Int.sub_bmod_bmod, Int.bmod_mul_bmod, Int.mul_bmod_bmod, Int.bmod_neg_bmod, Nat.reducePow, Int.reduceBmod, Int.reduceNeg, Int.reduceMul, Int.reduceAdd, Int.reduceSub, not_true_eq_false, not_false_eq_true] at *) <;> (try simp (disch := omega) only [i_bm'] at *) <;> omega)))
