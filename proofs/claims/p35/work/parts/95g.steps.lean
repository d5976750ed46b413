/-! steps: a name is signed -/
theorem n_01 (x : Int32) : (x &&& 1) = 0 ∨ (x &&& 1) = 1 := by
  have h : n_v (x &&& 1) ≤ 1 := by
    rw [n_and]
    exact Nat.and_le_right
  unfold n_v at h
  have : (x &&& 1).toBitVec.toNat = 0 ∨ (x &&& 1).toBitVec.toNat = 1 := by omega
  rcases this with e | e
  · exact Or.inl (Int32.toBitVec_inj.mp (BitVec.eq_of_toNat_eq e))
  · exact Or.inr (Int32.toBitVec_inj.mp (BitVec.eq_of_toNat_eq e))
theorem n_ti (x : Int32) (h : n_v x < 32768) : 0 ≤ x.toInt ∧ x.toInt < 32768 := by
  have h2 : x.toInt = (n_v x : Int) := by
    show x.toBitVec.toInt = _
    exact BitVec.toInt_eq_toNat_of_lt (by unfold n_v at h; omega)
  omega
theorem n_it (x : Int32) (h0 : 0 ≤ x.toInt) (h1 : x.toInt < 32768) : n_v x < 32768 := by
  have : x.toInt = x.toBitVec.toInt := rfl
  rw [this, BitVec.toInt_eq_toNat_cond] at h0 h1
  unfold n_v
  split at h0 <;> split at h1 <;> omega
theorem n_or (x y : Int32) (hx : n_v x < 32768) (hy : n_v y < 32768) : n_v (x ||| y) < 32768 := by
  unfold n_v at *
  rw [Int32.toBitVec_or, BitVec.toNat_or]
  exact Nat.or_lt_two_pow (n := 15) hx hy
theorem n_bit (a : Int32) (h0 : 0 ≤ a.toInt) (h1 : a.toInt < 15) : n_v (1 <<< (a &&& 31)) < 32768 := by
  have e : a = Int32.ofNat a.toInt.toNat := by
    refine Int32.toInt_inj.mp ?_
    rw [Int32.toInt_ofNat_of_lt (by omega)]
    omega
  rw [e]
  exact (by decide : ∀ k, k < 15 → n_v (1 <<< (Int32.ofNat k &&& 31)) < 32768) _ (by omega)
theorem f_bits_b (x : Int32) (hx : n_v x < 32768) : 0 ≤ (f_bits x 15).toInt ∧ (f_bits x 15).toInt ≤ 15 := by
  have h : n_v (f_bits x 15) ≤ 15 := by
    rw [n_bits x hx 15 (by omega)]
    have hb : ∀ k, k ≤ 15 → g_bits (n_v x) k ≤ k := by
      intro k
      induction k with
      | zero => intro _; exact Nat.le_refl 0
      | succ k ih =>
        intro hk
        unfold g_bits
        have h1 := ih (by omega)
        have h2 : (n_v x >>> k) &&& 1 ≤ 1 := Nat.and_le_right
        have h3 := Nat.mod_le (g_bits (n_v x) k + ((n_v x >>> k) &&& 1)) 4294967296
        omega
    exact hb 15 (by omega)
  have h2 : (f_bits x 15).toInt = (n_v (f_bits x 15) : Int) := by
    show (f_bits x 15).toBitVec.toInt = _
    exact BitVec.toInt_eq_toNat_of_lt (by unfold n_v at h; omega)
  omega
theorem b_nam {s : jg_H} (hI : I_bil s) (A : Nat) (hA : A < 8) (v : Int32) (h0 : 0 ≤ v.toInt) (h1 : v.toInt < 32768) : I_bil (jg_up (jg_up s (33 + 3 * A) 1 v) 155 A v) := by
  obtain ⟨a1, a2, a3, a4, a5⟩ := hI
  refine ⟨by (simp (disch := omega) only [u_hit, u_c, u_j]); exact a1, by (simp (disch := omega) only [u_hit, u_c, u_j]); exact a2, by (simp (disch := omega) only [u_hit, u_c, u_j]); exact a3, ?_, ?_⟩
  · intro i hi
    obtain ⟨b1, b2, b3, b4, b5, b6, b7, b8, b9, b10⟩ := a4 i hi
    by_cases e : i = A
    · subst e
      (simp (disch := omega) only [u_hit, u_c, u_j])
      exact ⟨b1, b2, b3, by trivial, h0, h1, b7, b8, b9, b10⟩
    · (simp (disch := omega) only [u_hit, u_c, u_j]); exact ⟨b1, b2, b3, b4, b5, b6, b7, b8, b9, b10⟩
  · intro i k hi hk
    have hk : (k : Int) < (s 153 i).toInt := by revert hk; (simp (disch := omega) only [u_hit, u_c, u_j]); exact id
    (simp (disch := omega) only [u_hit, u_c, u_j]); exact a5 i k hi hk
theorem Inv_nam {s : jg_H} (hI : Inv s) (A : Nat) (hA : A < 8) (v : Int32) (h0 : 0 ≤ v.toInt) (h1 : v.toInt < 32768) : Inv (jg_up (jg_up s (33 + 3 * A) 1 v) 155 A v) :=
  Inv_row hI (fo_up rfl (fo_up (g_2 (by omega) (by omega)) fo_refl)) (funext fun _ => by (simp (disch := omega) only [u_hit, u_c, u_j])) (by (simp (disch := omega) only [u_hit, u_c, u_j])) (fun _ => by (simp (disch := omega) only [u_hit, u_c, u_j])) (b_nam hI.2.1 A hA v h0 h1)
theorem st_sign {G : jv_X} {d : Nat} {s : jg_H} (hI : Inv s) (a1 a2 : Int32) : q_P G (d + 3) 67 [.ref 0, .int a1, .int a2] s (fun r s' => q_P G (d + 3) 173 [.ref 146, .int a1, .int a2] s' (fun r' s'' => r = r' ∧ Inv s'')) := by
  have b1 := hI.1.1
  have b2 := hI.1.2.1
  have b3 := hI.1.2.2.1
  have c1 := hI.2.1.1
  have c2 := hI.2.1.2.1
  have c3 := hI.2.1.2.2.1
  have c4 := key_bil hI.2.1 a1
  have d1 := hI.2.2.1.1
  have d2 := hI.2.2.1.2.1
  have d6 := hI.2.2.1.2.2.2.2.2.1
  have d7 := hI.2.2.1.2.2.2.2.2.2.1
  have d8 := hI.2.2.1.2.2.2.2.2.2.2.1
  have b01 := n_01 (s 155 a1.toNatClampNeg >>> (a2 &&& 31))
  refine t_C_sign (d := d) a1 a2 ?_ ?_ ?_ ?_ ?_ ?_ ?seven ?eight ?nine
  case seven =>
    intro h1 h2 h3 h4 h5 h6 h7
    have w1 : 0 ≤ a1.toInt ∧ a1.toInt < (s 146 6).toInt := by clear c4 b01; ((try simp only [i_lt, i_le, i_eq, i_in, i_cn, Int32.toInt_add, Int32.toInt_sub, Int32.toInt_mul, Int32.toInt_neg, Int32.reduceToInt, Int.bmod_add_bmod, Int.add_bmod_bmod, Int.bmod_sub_bmod, Int.sub_bmod_bmod, Int.bmod_mul_bmod, Int.mul_bmod_bmod, Int.bmod_neg_bmod, Nat.reducePow, Int.reduceBmod, Int.reduceNeg, Int.reduceMul, Int.reduceAdd, Int.reduceSub, not_true_eq_false, not_false_eq_true] at *) <;> (try simp (disch := omega) only [i_bm'] at *) <;> omega)
    rw [(c4 w1.1 w1.2).1] at h7
    clear b01 c4
    refine t_M_sign (d := d) a1 a2 ?_ ?_ ?_ ?_ ?_ ?_ ?_ ?_ ?_ ?_ ?_ ?_ <;> intros <;> subst_vars <;> first | exact ⟨rfl, hI⟩ | (exfalso; exact h7 ‹_›) | (exfalso; ((try simp only [i_lt, i_le, i_eq, i_in, i_cn, Int32.toInt_add, Int32.toInt_sub, Int32.toInt_mul, Int32.toInt_neg, Int32.reduceToInt, Int.bmod_add_bmod, Int.add_bmod_bmod, Int.bmod_sub_bmod, Int.sub_bmod_bmod, Int.bmod_mul_bmod, Int.mul_bmod_bmod, Int.bmod_neg_bmod, Nat.reducePow, Int.reduceBmod, Int.reduceNeg, Int.reduceMul, Int.reduceAdd, Int.reduceSub, not_true_eq_false, not_false_eq_true] at *) <;> (try simp (disch := omega) only [i_bm'] at *) <;> omega)) | ((try simp only [i_lt, i_le, i_eq, i_in, i_cn, Int32.toInt_add, Int32.toInt_sub, Int32.toInt_mul, Int32.toInt_neg, Int32.reduceToInt, Int.bmod_add_bmod, Int.add_bmod_bmod, Int.bmod_sub_bmod, Int.sub_bmod_bmod, Int.bmod_mul_bmod, Int.mul_bmod_bmod, Int.bmod_neg_bmod, Nat.reducePow, Int.reduceBmod, Int.reduceNeg, Int.reduceMul, Int.reduceAdd, Int.reduceSub, not_true_eq_false, not_false_eq_true] at *) <;> (try simp (disch := omega) only [i_bm'] at *) <;> omega)
  case nine =>
    intro h1 h2 h3 h4 h5 h6 h7 h8
    have w1 : 0 ≤ a1.toInt ∧ a1.toInt < (s 146 6).toInt := by clear c4 b01; ((try simp only [i_lt, i_le, i_eq, i_in, i_cn, Int32.toInt_add, Int32.toInt_sub, Int32.toInt_mul, Int32.toInt_neg, Int32.reduceToInt, Int.bmod_add_bmod, Int.add_bmod_bmod, Int.bmod_sub_bmod, Int.sub_bmod_bmod, Int.bmod_mul_bmod, Int.mul_bmod_bmod, Int.bmod_neg_bmod, Nat.reducePow, Int.reduceBmod, Int.reduceNeg, Int.reduceMul, Int.reduceAdd, Int.reduceSub, not_true_eq_false, not_false_eq_true] at *) <;> (try simp (disch := omega) only [i_bm'] at *) <;> omega)
    have e4 := (c4 w1.1 w1.2).2.2.2.1
    have e1 := (c4 w1.1 w1.2).1
    rw [e4] at h8
    rw [e1] at h7
    have h9 := b01.resolve_left h8
    clear b01 c4
    refine t_M_sign (d := d) a1 a2 ?_ ?_ ?_ ?_ ?_ ?_ ?_ ?_ ?_ ?_ ?_ ?_ <;> intros <;> first | exact ⟨rfl, hI⟩ | (exfalso; exact ‹¬ (s 152 a1.toNatClampNeg = 0)› h7) | (exfalso; exact absurd h9 ‹_›) | (clear h9 h8 h7 e4 e1; exfalso; ((try simp only [i_lt, i_le, i_eq, i_in, i_cn, Int32.toInt_add, Int32.toInt_sub, Int32.toInt_mul, Int32.toInt_neg, Int32.reduceToInt, Int.bmod_add_bmod, Int.add_bmod_bmod, Int.bmod_sub_bmod, Int.sub_bmod_bmod, Int.bmod_mul_bmod, Int.mul_bmod_bmod, Int.bmod_neg_bmod, Nat.reducePow, Int.reduceBmod, Int.reduceNeg, Int.reduceMul, Int.reduceAdd, Int.reduceSub, not_true_eq_false, not_false_eq_true] at *) <;> (try simp (disch := omega) only [i_bm'] at *) <;> omega)) | (clear h9 h8 h7 e4 e1; ((try simp only [i_lt, i_le, i_eq, i_in, i_cn, Int32.toInt_add, Int32.toInt_sub, Int32.toInt_mul, Int32.toInt_neg, Int32.reduceToInt, Int.bmod_add_bmod, Int.add_bmod_bmod, Int.bmod_sub_bmod, Int.sub_bmod_bmod, Int.bmod_mul_bmod, Int.mul_bmod_bmod, Int.bmod_neg_bmod, Nat.reducePow, Int.reduceBmod, Int.reduceNeg, Int.reduceMul, Int.reduceAdd, Int.reduceSub, not_true_eq_false, not_false_eq_true] at *) <;> (try simp (disch := omega) only [i_bm'] at *) <;> omega))
  case eight =>
    intro h1 h2 h3 h4 h5 h6 h7 h8 s1 f1
    have w1 : 0 ≤ a1.toInt ∧ a1.toInt < (s 146 6).toInt ∧ 0 ≤ a2.toInt ∧ a2.toInt < 15 := by clear c4 b01 f1; ((try simp only [i_lt, i_le, i_eq, i_in, i_cn, Int32.toInt_add, Int32.toInt_sub, Int32.toInt_mul, Int32.toInt_neg, Int32.reduceToInt, Int.bmod_add_bmod, Int.add_bmod_bmod, Int.bmod_sub_bmod, Int.sub_bmod_bmod, Int.bmod_mul_bmod, Int.mul_bmod_bmod, Int.bmod_neg_bmod, Nat.reducePow, Int.reduceBmod, Int.reduceNeg, Int.reduceMul, Int.reduceAdd, Int.reduceSub, not_true_eq_false, not_false_eq_true] at *) <;> (try simp (disch := omega) only [i_bm'] at *) <;> omega)
    obtain ⟨w1, w2, w3, w4⟩ := w1
    obtain ⟨e1, e2, e3, e4, e5, e6, e7, e8, e9⟩ := c4 w1 w2
    clear c4
    have hA : a1.toNatClampNeg < 8 := by rw [i_cn]; omega
    rw [e4] at h8 f1
    rw [e1] at h7
    have hv := n_ti _ (n_or _ _ (n_it _ e5 e6) (n_bit a2 w3 w4))
    generalize hvv : (s 155 a1.toNatClampNeg ||| 1 <<< (a2 &&& 31)) = v at *
    have hvn := n_it _ hv.1 hv.2
    refine sp_bitCount (d := d + 1) _ ?_
    rw [show s1 (33 + 3 * a1.toNatClampNeg) 1 = v by subst f1; rw [u_hit], bits_eq v hv.1 hv.2]
    have hy := f_bits_b v hvn
    have k1 : s1 0 1 = s 146 0 := by subst f1; rw [u_c (by omega)]; exact b1
    have k3 : s1 0 3 = s 146 6 := by subst f1; rw [u_c (by omega)]; exact c1
    have k5 : s1 0 5 = s 146 11 := by subst f1; rw [u_c (by omega)]; exact d1
    have hkc := key_cal hI.2.2.1 a1 w1 (by omega) h7
    -- the reference, from any heap that has the class's new places
    have M : ∀ (B : Option Value → jg_H → Prop) (t : jg_H), t 152 = s 152 → t 155 = s 155 → t 146 = s 146 →
        (∀ u : jg_H, u = jg_up t 155 a1.toNatClampNeg v → ((2 * f_bits v 15) ≤ s 146 0 → B (some (.int (f_bits v 15))) u) ∧ (¬ (2 * f_bits v 15) ≤ s 146 0 → B (some (.int (f_bits v 15))) (jg_up (jg_up (jg_up u 152 a1.toNatClampNeg 1) 156 (s 146 11).toNatClampNeg a1) 146 11 (s 146 11 + 1)))) → q_P G (d + 3) 173 [.ref 146, .int a1, .int a2] t B := by
      intro B t t1 t2 t3 hB
      refine t_M_sign (d := d) a1 a2 ?_ ?_ ?_ ?_ ?_ ?_ ?_ ?_ ?_ ?_ ?ele ?tw
      case tw => intro _ _ _ _ _ g; exfalso; rw [t2, h8] at g; exact absurd g (by decide)
      case ele =>
        intro g1 g2 g3 g4 g5 g6 u fu
        rw [t2, hvv] at fu
        refine sp_M_bits (d := d + 1) _ ?_
        rw [show u 155 a1.toNatClampNeg = v by subst fu; rw [u_hit]]
        obtain ⟨B1, B2⟩ := hB u fu
        have q0 : u 146 0 = s 146 0 := by subst fu; rw [u_c (by omega), t3]
        have q11 : u 146 11 = s 146 11 := by subst fu; rw [u_c (by omega), t3]
        refine t_M_sign_66 _ _ _ ?_ ?_ ?_ ?_
        · rw [q0]; exact B1
        · intro _; rw [i_in]; omega
        · intro _ v1 fv; subst fv; rw [u_c (by omega), q11, i_in]; have := hI.2.2.1.2.1; omega
        · rw [q0]
          intro g v1 fv v2 fw v3 fx
          subst fx; subst fw; subst fv
          rw [u_c (c := 156) (by omega), u_c (c := 152) (by omega), q11]
          exact B2 g
      all_goals (intros; rw [t1] at *; rw [t3] at *; first | (rw [i_in]; omega) | (exfalso; exact absurd h7 ‹_›) | (clear h7 h8 t1 t2 t3 hB; exfalso; ((try simp only [i_lt, i_le, i_eq, i_in, i_cn, Int32.toInt_add, Int32.toInt_sub, Int32.toInt_mul, Int32.toInt_neg, Int32.reduceToInt, Int.bmod_add_bmod, Int.add_bmod_bmod, Int.bmod_sub_bmod, Int.sub_bmod_bmod, Int.bmod_mul_bmod, Int.mul_bmod_bmod, Int.bmod_neg_bmod, Nat.reducePow, Int.reduceBmod, Int.reduceNeg, Int.reduceMul, Int.reduceAdd, Int.reduceSub, not_true_eq_false, not_false_eq_true] at *) <;> (try simp (disch := omega) only [i_bm'] at *) <;> omega)))
    refine t_C_sign_66 _ _ (f_m32 hA) _ ?_ ?_ ?_ ?_ ?_ ?six ?_
    case six =>
      rw [k1, k5]
      intro g1 g2 g3 g4 g5 u1 p1 u2 p2 u3 p3
      have t0 : ∀ q, (q = 152 ∨ q = 155 ∨ q = 146) → u3 q = s q := by
        intro q hq
        subst p3; subst p2; subst p1; subst f1
        funext j
        rw [u_c (by omega), u_c (by omega), u_c (by omega), u_c (by omega)]
      refine M _ u3 (t0 _ (by omega)) (t0 _ (by omega)) (t0 _ (by omega)) ?_
      intro u fu
      refine ⟨fun g => ?_, fun _ => ⟨rfl, ?_⟩⟩
      · exfalso; clear M h8 h7 hvn e1 e4 e7 p1 p2 p3 f1 t0 fu hvv hkc; ((try simp only [i_lt, i_le, i_eq, i_in, i_cn, Int32.toInt_add, Int32.toInt_sub, Int32.toInt_mul, Int32.toInt_neg, Int32.reduceToInt, Int.bmod_add_bmod, Int.add_bmod_bmod, Int.bmod_sub_bmod, Int.sub_bmod_bmod, Int.bmod_mul_bmod, Int.mul_bmod_bmod, Int.bmod_neg_bmod, Nat.reducePow, Int.reduceBmod, Int.reduceNeg, Int.reduceMul, Int.reduceAdd, Int.reduceSub, not_true_eq_false, not_false_eq_true] at *) <;> (try simp (disch := omega) only [i_bm'] at *) <;> omega)
      · subst fu; subst p3; subst p2; subst p1; subst f1
        rw [u_c (c := 57) (by omega), u_c (c := 33 + 3 * a1.toNatClampNeg) (by omega), d1]
        rw [up_comm (c := 33 + 3 * a1.toNatClampNeg) (j := 0) (c' := 155) (by omega), up_comm (c := 0) (c' := 155) (by omega), up_comm (c := 57) (c' := 155) (by omega)]
        have q := Inv_nam hI a1.toNatClampNeg hA v hv.1 hv.2
        have z11 : jg_up (jg_up s (33 + 3 * a1.toNatClampNeg) 1 v) 155 a1.toNatClampNeg v 146 11 = s 146 11 := by (simp (disch := omega) only [u_hit, u_c, u_j])
        have := Inv_put q a1 w1 (by (simp (disch := omega) only [u_hit, u_c, u_j]); exact w2) (by (simp (disch := omega) only [u_hit, u_c, u_j]); exact h7) (s 146 11 + 1) (by rw [z11])
        rw [z11] at this
        exact this
    · rw [k1]
      intro g1
      have t0 : ∀ q, (q = 152 ∨ q = 155 ∨ q = 146) → s1 q = s q := by
        intro q hq
        subst f1
        funext j
        rw [u_c (by omega)]
      refine M _ s1 (t0 _ (by omega)) (t0 _ (by omega)) (t0 _ (by omega)) ?_
      intro u fu
      refine ⟨fun _ => ⟨rfl, ?_⟩, fun g => ?_⟩
      · subst fu; subst f1
        exact Inv_nam hI a1.toNatClampNeg hA v hv.1 hv.2
      · exfalso; clear M h8 h7 hvn e1 e4 e7 f1 t0 fu hvv hkc; ((try simp only [i_lt, i_le, i_eq, i_in, i_cn, Int32.toInt_add, Int32.toInt_sub, Int32.toInt_mul, Int32.toInt_neg, Int32.reduceToInt, Int.bmod_add_bmod, Int.add_bmod_bmod, Int.bmod_sub_bmod, Int.sub_bmod_bmod, Int.bmod_mul_bmod, Int.mul_bmod_bmod, Int.bmod_neg_bmod, Nat.reducePow, Int.reduceBmod, Int.reduceNeg, Int.reduceMul, Int.reduceAdd, Int.reduceSub, not_true_eq_false, not_false_eq_true] at *) <;> (try simp (disch := omega) only [i_bm'] at *) <;> omega)
    all_goals (intros; (try rw [k5] at *); (try rw [k3] at *); clear M h8 h7 hvn e1 e4 e7 f1 hvv k1 hy; first | (exfalso; ((try simp only [i_lt, i_le, i_eq, i_in, i_cn, Int32.toInt_add, Int32.toInt_sub, Int32.toInt_mul, Int32.toInt_neg, Int32.reduceToInt, Int.bmod_add_bmod, Int.add_bmod_bmod, Int.bmod_sub_bmod, Int.sub_bmod_bmod, Int.bmod_mul_bmod, Int.mul_bmod_bmod, Int.bmod_neg_bmod, Nat.reducePow, Int.reduceBmod, Int.reduceNeg, Int.reduceMul, Int.reduceAdd, Int.reduceSub, not_true_eq_false, not_false_eq_true] at *) <;> (try simp (disch := omega) only [i_bm'] at *) <;> omega)) | ((try simp only [i_lt, i_le, i_eq, i_in, i_cn, Int32.toInt_add, Int32.toInt_sub, Int32.toInt_mul, Int32.toInt_neg, Int32.reduceToInt, Int.bmod_add_bmod, Int.add_bmod_bmod, Int.bmod_sub_bmod, Int.sub_bmod_bmod, Int.bmod_mul_bmod, Int.mul_bmod_bmod, Int.bmod_neg_bmod, Nat.reducePow, Int.reduceBmod, Int.reduceNeg, Int.reduceMul, Int.reduceAdd, Int.reduceSub, not_true_eq_false, not_false_eq_true] at *) <;> (try simp (disch := omega) only [i_bm'] at *) <;> omega))
  all_goals (clear b01; intros; refine t_M_sign (d := d) a1 a2 ?_ ?_ ?_ ?_ ?_ ?_ ?_ ?_ ?_ ?_ ?_ ?_ <;> intros <;> first | (exact ⟨rfl, hI⟩) | (exfalso; ((try simp only [i_lt, i_le, i_eq, i_in, i_cn, Int32.toInt_add, Int32.toInt_sub, Int32.toInt_mul, Int32.toInt_neg, Int32.reduceToInt, Int.bmod_add_bmod, Int.add_bmod_bmod, Int.bmod_sub_bmod, Int.sub_bmod_bmod, Int.bmod_mul_bmod, Int.mul_bmod_bmod, Int.bmod_neg_bmod, Nat.reducePow, Int.reduceBmod, Int.reduceNeg, Int.reduceMul, Int.reduceAdd, Int.reduceSub, not_true_eq_false, not_false_eq_true] at *) <;> (try simp (disch := omega) only [i_bm'] at *) <;> omega)) | ((try simp only [i_lt, i_le, i_eq, i_in, i_cn, Int32.toInt_add, Int32.toInt_sub, Int32.toInt_mul, Int32.toInt_neg, Int32.reduceToInt, Int.bmod_add_bmod, Int.add_bmod_bmod, Int.bmod_sub_bmod, Int.sub_bmod_bmod, Int.bmod_mul_bmod, Int.mul_bmod_bmod, Int.bmod_neg_bmod, Nat.reducePow, Int.reduceBmod, Int.reduceNeg, Int.reduceMul, Int.reduceAdd, Int.reduceSub, not_true_eq_false, not_false_eq_true] at *) <;> (try simp (disch := omega) only [i_bm'] at *) <;> omega) | (exfalso; (try simp only [i_lt, i_le, i_eq, i_in, i_cn, Int32.toInt_add, Int32.toInt_sub, Int32.toInt_mul, Int32.toInt_neg, Int32.reduceToInt, Int.bmod_add_bmod, Int.add_bmod_bmod, Int.bmod_sub_bmod, Int.sub_bmod_bmod, Int.bmod_mul_bmod, Int.mul_bmod_bmod, Int.bmod_neg_bmod, Nat.reducePow, Int.reduceBmod, Int.reduceNeg, Int.reduceMul, Int.reduceAdd, Int.reduceSub, not_true_eq_false, not_false_eq_true] at *); (try simp (disch := omega) only [u_hit, u_c, u_j] at *); ((try simp only [i_lt, i_le, i_eq, i_in, i_cn, Int32.toInt_add, Int32.toInt_sub, Int32.toInt_mul, Int32.toInt_neg, Int32.reduceToInt, Int.bmod_add_bmod, Int.add_bmod_bmod, Int.bmod_sub_bmod, Int.sub_bmod_bmod, Int.bmod_mul_bmod, Int.mul_bmod_bmod, Int.bmod_neg_bmod, Nat.reducePow, Int.reduceBmod, Int.reduceNeg, Int.reduceMul, Int.reduceAdd, Int.reduceSub, not_true_eq_false, not_false_eq_true] at *) <;> (try simp (disch := omega) only [i_bm'] at *) <;> omega)) | ((try simp only [i_lt, i_le, i_eq, i_in, i_cn, Int32.toInt_add, Int32.toInt_sub, Int32.toInt_mul, Int32.toInt_neg, Int32.reduceToInt, Int.bmod_add_bmod, Int.add_bmod_bmod, Int.bmod_sub_bmod, Int.sub_bmod_bmod, Int.bmod_mul_bmod, Int.mul_bmod_bmod, Int.bmod_neg_bmod, Nat.reducePow, Int.reduceBmod, Int.reduceNeg, Int.reduceMul, Int.reduceAdd, Int.reduceSub, not_true_eq_false, not_false_eq_true] at *); (try simp (disch := omega) only [u_hit, u_c, u_j] at *); ((try simp only [i_lt, i_le, i_eq, i_in, i_cn, Int32.toInt_add, Int32.toInt_sub, Int32.toInt_mul, Int32.toInt_neg, Int32.reduceToInt, Int.bmod_add_bmod, Int.add_bmod_bmod, Int.bmod_sub_bmod, Int.sub_bmod_bmod, Int.bmod_mul_bmod, Int.mul_bmod_bmod, Int.bmod_neg_bmod, Nat.reducePow, Int.reduceBmod, Int.reduceNeg, Int.reduceMul, Int.reduceAdd, Int.reduceSub, not_true_eq_false, not_false_eq_true] at *) <;> (try simp (disch := omega) only [i_bm'] at *) <;> omega)) | (refine ⟨r_i ?_, hI⟩; ((try simp only [i_lt, i_le, i_eq, i_in, i_cn, Int32.toInt_add, Int32.toInt_sub, Int32.toInt_mul, Int32.toInt_neg, Int32.reduceToInt, Int.bmod_add_bmod, Int.add_bmod_bmod, Int.bmod_sub_bmod, Int.sub_bmod_bmod, Int.bmod_mul_bmod, Int.mul_bmod_bmod, Int.bmod_neg_bmod, Nat.reducePow, Int.reduceBmod, Int.reduceNeg, Int.reduceMul, Int.reduceAdd, Int.reduceSub, not_true_eq_false, not_false_eq_true] at *) <;> (try simp (disch := omega) only [i_bm'] at *) <;> omega)) | skip)
