/-! foresee -/
set_option maxRecDepth 20000 in
theorem st_foresee {G : jv_X} {d : Nat} {s : jg_H} (hI : Inv s) (a1 a2 : Int32) : q_P G (d + 7) 107 [.ref 0, .int a1, .int a2] s (fun r s' => q_P G (d + 7) 206 [.ref 146, .int a1, .int a2] s' (fun r' s'' => r = r' ∧ Inv s'')) := by
  have D6 := @d6
  have b1 := hI.1.1
  have b2 := hI.1.2.1
  have b3 := hI.1.2.2.1
  have d1 := hI.2.2.1.1
  have d2 := hI.2.2.1.2.1
  have d6 := hI.2.2.1.2.2.2.2.2.1
  have d7 := hI.2.2.1.2.2.2.2.2.2.1
  have d8 := hI.2.2.1.2.2.2.2.2.2.2.1
  have c1 := hI.2.1.1
  have c2 := hI.2.1.2.1
  have c3 := hI.2.1.2.2.1
  have t1 := hI.2.2.2.2.1.1
  have t2 := hI.2.2.2.2.1.2.1
  have t3 := hI.2.2.2.2.1.2.2.1
  have t4 := hI.2.2.2.2.1.2.2.2.1
  obtain ⟨n, hn⟩ : ∃ n : Nat, (s 146 19).toInt = n := ⟨(s 146 19).toInt.toNat, by omega⟩
  have n5 : n ≤ 5 := by omega
  refine t2_C_foresee (d := d + 5) a1 a2 ?_ ?_ ?_ ?_ ?main
  case main =>
    intro g1 g2 g3 g4
    have h0 : 0 ≤ a2.toInt := by clear hI D6; ((try simp only [i_lt, i_le, i_eq, i_in, i_cn, Int32.toInt_add, Int32.toInt_sub, Int32.toInt_mul, Int32.toInt_neg, Int32.reduceToInt, Int.bmod_add_bmod, Int.add_bmod_bmod, Int.bmod_sub_bmod, Int.sub_bmod_bmod, Int.bmod_mul_bmod, Int.mul_bmod_bmod, Int.bmod_neg_bmod, Nat.reducePow, Int.reduceBmod, Int.reduceNeg, Int.reduceMul, Int.reduceAdd, Int.reduceSub, not_true_eq_false, not_false_eq_true] at *) <;> (try simp (disch := omega) only [i_bm'] at *) <;> omega)
    have h1 : a2.toInt < (s 146 0).toInt := by clear hI D6; ((try simp only [i_lt, i_le, i_eq, i_in, i_cn, Int32.toInt_add, Int32.toInt_sub, Int32.toInt_mul, Int32.toInt_neg, Int32.reduceToInt, Int.bmod_add_bmod, Int.add_bmod_bmod, Int.bmod_sub_bmod, Int.sub_bmod_bmod, Int.bmod_mul_bmod, Int.mul_bmod_bmod, Int.bmod_neg_bmod, Nat.reducePow, Int.reduceBmod, Int.reduceNeg, Int.reduceMul, Int.reduceAdd, Int.reduceSub, not_true_eq_false, not_false_eq_true] at *) <;> (try simp (disch := omega) only [i_bm'] at *) <;> omega)
    have hu : 0 ≤ (s 146 13).toInt := by clear hI D6; ((try simp only [i_lt, i_le, i_eq, i_in, i_cn, Int32.toInt_add, Int32.toInt_sub, Int32.toInt_mul, Int32.toInt_neg, Int32.reduceToInt, Int.bmod_add_bmod, Int.add_bmod_bmod, Int.bmod_sub_bmod, Int.sub_bmod_bmod, Int.bmod_mul_bmod, Int.mul_bmod_bmod, Int.bmod_neg_bmod, Nat.reducePow, Int.reduceBmod, Int.reduceNeg, Int.reduceMul, Int.reduceAdd, Int.reduceSub, not_true_eq_false, not_false_eq_true] at *) <;> (try simp (disch := omega) only [i_bm'] at *) <;> omega)
    have nz : ¬ a2 < 0 := g1
    have le1 : a2 ≤ (s 146 0) - 1 := by clear hI D6; ((try simp only [i_lt, i_le, i_eq, i_in, i_cn, Int32.toInt_add, Int32.toInt_sub, Int32.toInt_mul, Int32.toInt_neg, Int32.reduceToInt, Int.bmod_add_bmod, Int.add_bmod_bmod, Int.bmod_sub_bmod, Int.sub_bmod_bmod, Int.bmod_mul_bmod, Int.mul_bmod_bmod, Int.bmod_neg_bmod, Nat.reducePow, Int.reduceBmod, Int.reduceNeg, Int.reduceMul, Int.reduceAdd, Int.reduceSub, not_true_eq_false, not_false_eq_true] at *) <;> (try simp (disch := omega) only [i_bm'] at *) <;> omega)
    have nu : ¬ s 146 13 = -1 := fun e => by rw [e] at hu; exact absurd hu (by decide)
    have hA : a2.toNatClampNeg < 15 := by rw [i_cn]; omega
    refine sp_C_names (d := d + 4) n (by rw [t1]; exact hn) n5 t4 a1 ?yes ?no
    case no =>
      intro ho
      refine t2_C_foresee_24 (d := d + 5) a1 a2 0 (fun g => absurd rfl g) ?_
      intro _
      refine t_M_foresee (d := d + 4) a1 a2 (fun g => absurd g nz) (fun _ g => absurd le1 g) (fun _ _ g => absurd g nu) ?_
      intro _ _ _
      refine sp_M_isOrder (d := d + 5) n hn n5 a1 (fun p q => absurd ⟨p, q⟩ ho) ?_
      intro _
      exact t_M_foresee_21 (d := d + 4) a1 a2 0 (fun g => absurd rfl g) (fun _ => ⟨rfl, hI⟩)
    case yes =>
      intro ha ho
      refine t2_C_foresee_24 (d := d + 5) a1 a2 1 ?_ (fun g => absurd g (by decide))
      intro _
      refine sp_C_floor (d := d + 4) hI ?_
      intro c hc
      refine t2_C_foresee_39 (d := d + 5) a1 a2 hc.1 ?_
      refine sp_C_begin (d := d + 4) hI n hn c hc ?_
      intro t0 _ hat0 hf0
      refine t2_C_foresee_42 (d := d + 5) a1 a2 ?_
      have gz : ∀ x, 71 ≤ x → x < 92 → ∀ j, g_of x j = 0 := by
        intro x h1 h2 j
        unfold g_of
        rw [if_neg (by omega), if_neg (by omega), if_neg (by omega), if_neg (by omega), if_neg (by omega), if_neg (by omega), if_neg (by omega), if_neg (by omega), if_pos h2]
      have F0 : f_only 0 s t0 := fun c j hg => hf0 c j (by rintro ⟨rfl, _⟩; exact hg rfl) (by rintro rfl; exact hg (gz 80 (by decide) (by decide) j)) (by rintro rfl; exact hg (gz 81 (by decide) (by decide) j)) (by rintro rfl; exact hg (gz 73 (by decide) (by decide) j))
      have RUN : ∀ (m q r S : Nat) (g : Nat × (Nat → Int32) × (Nat → Int32)) (x3 x4 : Int32) (t : jg_H), q + m = n → x4.toInt = q → x3.toInt = r → o_C n m r S = true → fs_ok g → cl_at t n q g → f_only 0 s t → fs_run s m r g = fs_run s n a1.toInt.toNat (fs_0 s) → q_W G (d + 6) jm_C_foresee (fun r s' => q_P G (d + 7) 206 [.ref 146, .int a1, .int a2] s' (fun r' s'' => r = r' ∧ Inv s'')) 47 [some (.ref 0), some (.int a1), some (.int a2), some (.int x3), some (.int x4)] [] t := by
        intro m
        induction m with
        | zero =>
          intro q r S g x3 x4 t e1 e4 e3 hoc hg hat hf he
          have eq : q = n := by omega
          subst eq
          have t66 : t 66 0 = s 146 19 := by rw [hf 66 0 (by decide : ¬ (5 : Nat) = 0)]; exact t1
          have nl : ¬ x4 < t 66 0 := by rw [t66, i_lt, hn, e4]; omega
          refine t2_C_foresee_47 (d := d + 5) a1 a2 x3 x4 (fun _ => by rw [i_in]; exact ⟨h0, hA⟩) ?_ (fun g => absurd g nl)
          intro _
          have hIt := Inv_0 hI hf
          refine sp_C_behind (d := d + 3) hIt.1 q (by rw [t66]; exact hn) n5 hA g hg hat ?_
          refine t2_C_foresee_96 (d := d + 5) a1 a2 x3 x4 _ ?_
          have m0 := mo_0 hf
          have u0 : t 146 0 = s 146 0 := hf 146 0 (by decide : ¬ (1 : Nat) = 0)
          have u13 : t 146 13 = s 146 13 := mo_13 m0
          have u19 : t 146 19 = s 146 19 := hf 146 19 (by decide : ¬ (5 : Nat) = 0)
          refine t_M_foresee (d := d + 4) a1 a2 (fun g => absurd g nz) (fun _ g => absurd le1 (by rw [u0] at g; exact g)) (fun _ _ g => absurd (by rw [u13] at g; exact g) nu) ?_
          intro _ _ _
          refine sp_M_isOrder (d := d + 5) q (by rw [u19]; exact hn) n5 a1 ?_ (fun p => absurd ⟨ha, ho⟩ p)
          intro _ _
          refine t_M_foresee_21 (d := d + 4) a1 a2 1 ?_ (fun g => absurd g (by decide))
          intro _
          refine sp_M_foresees (d := d) hI m0 q hn hu a1 ha ho ?_
          intro t' hat' hf'
          refine t_M_foresee_33 (d := d + 4) a1 a2 ?_
          have e2 : fs_run s q a1.toInt.toNat (fs_0 s) = g := he.symm
          rw [e2] at hat'
          refine sp_M_worth (d := d + 5) g hg hat' a2 h0 (by omega) ?_
          refine t_M_foresee_38 (d := d + 4) a1 a2 _ ⟨?_, Inv_0 hIt (mfz_0 hf')⟩
          rw [x_sum_mo (mo_0 (mfz_0 hf'))]
        | succ m ih =>
          intro q r S g x3 x4 t e1 e4 e3 hoc hg hat hf he
          have t66 : t 66 0 = s 146 19 := by rw [hf 66 0 (by decide : ¬ (5 : Nat) = 0)]; exact t1
          have lt : x4 < t 66 0 := by rw [t66, i_lt, hn, e4]; omega
          obtain ⟨f1, f2⟩ := D6 x3 (by omega)
          have g1' : (x3 / 6).toInt = ((r / 6 : Nat) : Int) := by rw [f1, e3]; omega
          have g2' : (x3 - x3 / 6 * 6).toInt = ((r % 6 : Nat) : Int) := by rw [f2, e3]; omega
          have g3' : (x4 + 1).toInt = ((q + 1 : Nat) : Int) := by clear ih f1 f2 g1' g2' D6 hat hf he hg hI hoc ho lt t66 F0 hf0 hat0 hc gz; ((try simp only [i_lt, i_le, i_eq, i_in, i_cn, Int32.toInt_add, Int32.toInt_sub, Int32.toInt_mul, Int32.toInt_neg, Int32.reduceToInt, Int.bmod_add_bmod, Int.add_bmod_bmod, Int.bmod_sub_bmod, Int.sub_bmod_bmod, Int.bmod_mul_bmod, Int.mul_bmod_bmod, Int.bmod_neg_bmod, Nat.reducePow, Int.reduceBmod, Int.reduceNeg, Int.reduceMul, Int.reduceAdd, Int.reduceSub, not_true_eq_false, not_false_eq_true] at *) <;> (try simp (disch := omega) only [i_bm'] at *) <;> omega)
          unfold o_C at hoc
          by_cases hr : n ≤ r % 6
          · rw [if_pos hr] at hoc; exact absurd hoc (by decide)
          · rw [if_neg hr] at hoc
            by_cases hb : S.testBit (r % 6) = true
            · rw [if_pos hb] at hoc; exact absurd hoc (by decide)
            · rw [if_neg hb] at hoc
              refine t2_C_foresee_47 (d := d + 5) a1 a2 x3 x4 (fun g => absurd lt g) (fun g => absurd lt g) ?_
              intro _
              have u19 : t 146 19 = s 146 19 := hf 146 19 (by decide : ¬ (5 : Nat) = 0)
              refine sp_C_fone (d := d) (Inv_0 hI hf) n (by rw [u19]; exact hn) g hg q (by omega) (r % 6) (by omega) x4 _ e4 g2' hat ?_
              intro t' hat' hz
              rw [fs_mo (mo_0 hf)] at hat'
              refine t2_C_foresee_72 (d := d + 5) a1 a2 x3 x4 ?_
              refine ih (q + 1) (r / 6) _ _ _ _ t' (by omega) g3' g1' hoc (fs_ok_step (tl_I hI) hg (by omega)) hat' ?_ he
              intro c j hg'
              rw [fz_0 (by omega) hz c j hg']
              exact hf c j hg'
      exact RUN n 0 a1.toInt.toNat 0 (fs_0 s) a1 0 t0 (by omega) (by decide) (by omega) ho (fs_0_ok hI) hat0 F0 rfl
  all_goals (intros; refine t_M_foresee (d := d + 4) a1 a2 ?_ ?_ ?_ ?_ <;> intros <;> first | (exact ⟨rfl, hI⟩) | (exfalso; clear hI D6; ((try simp only [i_lt, i_le, i_eq, i_in, i_cn, Int32.toInt_add, Int32.toInt_sub, Int32.toInt_mul, Int32.toInt_neg, Int32.reduceToInt, Int.bmod_add_bmod, Int.add_bmod_bmod, Int.bmod_sub_bmod, Int.sub_bmod_bmod, Int.bmod_mul_bmod, Int.mul_bmod_bmod, Int.bmod_neg_bmod, Nat.reducePow, Int.reduceBmod, Int.reduceNeg, Int.reduceMul, Int.reduceAdd, Int.reduceSub, not_true_eq_false, not_false_eq_true] at *) <;> (try simp (disch := omega) only [i_bm'] at *) <;> omega)))
