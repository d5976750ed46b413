/-! best -/
set_option maxRecDepth 20000 in
theorem st_best {G : jv_X} {d : Nat} {s : jg_H} (hI : Inv s) (a1 : Int32) : q_P G (d + 13) 114 [.ref 0, .int a1] s (fun r s' => q_P G (d + 13) 209 [.ref 146, .int a1] s' (fun r' s'' => r = r' ∧ Inv s'')) := by
  have b1 := hI.1.1
  have b2 := hI.1.2.1
  have b3 := hI.1.2.2.1
  have d1 := hI.2.2.1.1
  have d2 := hI.2.2.1.2.1
  have d6 := hI.2.2.1.2.2.2.2.2.1
  have d7 := hI.2.2.1.2.2.2.2.2.2.1
  have d8 := hI.2.2.1.2.2.2.2.2.2.2.1
  have c1 := hI.2.1.1
  have c2 := hI.2.1.2.1
  have c3 := hI.2.1.2.2.1
  have t1 := hI.2.2.2.2.1.1
  have t2 := hI.2.2.2.2.1.2.1
  have t3 := hI.2.2.2.2.1.2.2.1
  have t4 := hI.2.2.2.2.1.2.2.2.1
  obtain ⟨n, hn⟩ : ∃ n : Nat, (s 146 19).toInt = n := ⟨(s 146 19).toInt.toNat, by omega⟩
  have n5 : n ≤ 5 := by omega
  refine t2_C_best (d := d + 11) a1 ?_ ?_ ?_ ?main ?_
  case main =>
    intro g1 g2 g3 g4
    have h0 : 0 ≤ a1.toInt := by clear hI; ((try simp only [i_lt, i_le, i_eq, i_in, i_cn, Int32.toInt_add, Int32.toInt_sub, Int32.toInt_mul, Int32.toInt_neg, Int32.reduceToInt, Int.bmod_add_bmod, Int.add_bmod_bmod, Int.bmod_sub_bmod, Int.sub_bmod_bmod, Int.bmod_mul_bmod, Int.mul_bmod_bmod, Int.bmod_neg_bmod, Nat.reducePow, Int.reduceBmod, Int.reduceNeg, Int.reduceMul, Int.reduceAdd, Int.reduceSub, not_true_eq_false, not_false_eq_true] at *) <;> (try simp (disch := omega) only [i_bm'] at *) <;> omega)
    have h1 : a1.toInt < (s 146 0).toInt := by clear hI; ((try simp only [i_lt, i_le, i_eq, i_in, i_cn, Int32.toInt_add, Int32.toInt_sub, Int32.toInt_mul, Int32.toInt_neg, Int32.reduceToInt, Int.bmod_add_bmod, Int.add_bmod_bmod, Int.bmod_sub_bmod, Int.sub_bmod_bmod, Int.bmod_mul_bmod, Int.mul_bmod_bmod, Int.bmod_neg_bmod, Nat.reducePow, Int.reduceBmod, Int.reduceNeg, Int.reduceMul, Int.reduceAdd, Int.reduceSub, not_true_eq_false, not_false_eq_true] at *) <;> (try simp (disch := omega) only [i_bm'] at *) <;> omega)
    have hu : 0 ≤ (s 146 13).toInt := by clear hI; ((try simp only [i_lt, i_le, i_eq, i_in, i_cn, Int32.toInt_add, Int32.toInt_sub, Int32.toInt_mul, Int32.toInt_neg, Int32.reduceToInt, Int.bmod_add_bmod, Int.add_bmod_bmod, Int.bmod_sub_bmod, Int.sub_bmod_bmod, Int.bmod_mul_bmod, Int.mul_bmod_bmod, Int.bmod_neg_bmod, Nat.reducePow, Int.reduceBmod, Int.reduceNeg, Int.reduceMul, Int.reduceAdd, Int.reduceSub, not_true_eq_false, not_false_eq_true] at *) <;> (try simp (disch := omega) only [i_bm'] at *) <;> omega)
    have nz : ¬ a1 < 0 := g1
    have le1 : a1 ≤ (s 146 0) - 1 := by clear hI; ((try simp only [i_lt, i_le, i_eq, i_in, i_cn, Int32.toInt_add, Int32.toInt_sub, Int32.toInt_mul, Int32.toInt_neg, Int32.reduceToInt, Int.bmod_add_bmod, Int.add_bmod_bmod, Int.bmod_sub_bmod, Int.sub_bmod_bmod, Int.bmod_mul_bmod, Int.mul_bmod_bmod, Int.bmod_neg_bmod, Nat.reducePow, Int.reduceBmod, Int.reduceNeg, Int.reduceMul, Int.reduceAdd, Int.reduceSub, not_true_eq_false, not_false_eq_true] at *) <;> (try simp (disch := omega) only [i_bm'] at *) <;> omega)
    have nu : ¬ s 146 13 = -1 := fun e => by rw [e] at hu; exact absurd hu (by decide)
    have hA : a1.toNatClampNeg < 15 := by rw [i_cn]; omega
    have ji : jv_in a1 15 = true := by rw [i_in]; exact ⟨h0, hA⟩
    refine sp_C_floor (d := d + 10) hI ?_
    intro c hc
    refine t2_C_best_30 (d := d + 11) a1 hc.1 ?_
    refine sp_C_begin (d := d + 10) hI n hn c hc ?_
    intro t0 hb0 hat0 hf0
    have gz : ∀ x, 71 ≤ x → x < 92 → ∀ j, g_of x j = 0 := by
      intro x h1 h2 j
      unfold g_of
      rw [if_neg (by omega), if_neg (by omega), if_neg (by omega), if_neg (by omega), if_neg (by omega), if_neg (by omega), if_neg (by omega), if_neg (by omega), if_pos h2]
    have F0 : f_only 0 s t0 := fun c j hg => hf0 c j (by rintro ⟨rfl, _⟩; exact hg rfl) (by rintro rfl; exact hg (gz 80 (by decide) (by decide) j)) (by rintro rfl; exact hg (gz 81 (by decide) (by decide) j)) (by rintro rfl; exact hg (gz 73 (by decide) (by decide) j))
    refine t2_C_best_33 (d := d + 11) a1 ji ?_
    have hd : d + 11 + 1 = (d + (5 - n)) + n + 7 := by omega
    rw [hd]
    refine sp_C_search (d := d + (5 - n)) hI n hn hA (fun r => x_sum s a1.toNatClampNeg (fs_run s n r (fs_0 s)).1 (fs_run s n r (fs_0 s)).2.1) n 0 0 0 1 (fs_0 s) 0 0 1 t0 (fun _ => False) _ (by omega) (by decide) (by decide) (by decide) (by decide) rfl (by decide) (fs_0_ok hI) F0 hat0 (fun r _ => by rw [Nat.zero_add, Nat.one_mul]) (Or.inl ⟨hb0, fun _ h => h⟩) ?_
    intro t hb hz
    rw [← hd]
    refine t2_C_best_47 (d := d + 11) a1 ?_
    have ft : f_only 0 s t := fun c j hg => (fzz_0 hz c j hg).trans (F0 c j hg)
    have hIt := Inv_0 hI ft
    have mt := mo_0 ft
    have u0 : t 146 0 = s 146 0 := ft 146 0 (by decide : ¬ (1 : Nat) = 0)
    have u13 : t 146 13 = s 146 13 := mo_13 mt
    refine t_M_best (d := d + 10) a1 (fun g => absurd g nz) (fun _ g => absurd le1 (by rw [u0] at g; exact g)) ?_ (fun _ _ g => absurd (by rw [u13] at g; exact g) nu)
    intro _ _ _
    refine sp_M_scan (d := d + 6) hI mt n hn hu a1 h0 (by omega) (fun r => x_sum s a1.toNatClampNeg (fs_run s n r (fs_0 s)).1 (fs_run s n r (fs_0 s)).2.1) (fun _ _ => rfl) ?_
    intro t' bo bw hf' hb'
    refine ⟨?_, Inv_0 hIt hf'⟩
    have e := bs_uniq (bs_congr (fun x => ?_) hb) hb'
    · rw [e]
    · constructor
      · rintro (h | ⟨r, h1, h2⟩)
        · exact absurd h id
        · have hlt := o_C_lt n n r 0 h1
          have hp : 6 ^ n ≤ 7776 := by
            rcases (by omega : n = 0 ∨ n = 1 ∨ n = 2 ∨ n = 3 ∨ n = 4 ∨ n = 5) with e | e | e | e | e | e <;> subst e <;> decide
          rw [Nat.zero_add, Nat.one_mul] at h2
          subst h2
          exact ⟨by omega, h1⟩
      · rintro ⟨_, h2⟩
        exact Or.inr ⟨x, h2, by rw [Nat.zero_add, Nat.one_mul]⟩
  all_goals (intros; refine t_M_best (d := d + 10) a1 ?_ ?_ ?_ ?_ <;> intros <;> first | (exact ⟨rfl, hI⟩) | (exfalso; clear hI; ((try simp only [i_lt, i_le, i_eq, i_in, i_cn, Int32.toInt_add, Int32.toInt_sub, Int32.toInt_mul, Int32.toInt_neg, Int32.reduceToInt, Int.bmod_add_bmod, Int.add_bmod_bmod, Int.bmod_sub_bmod, Int.sub_bmod_bmod, Int.bmod_mul_bmod, Int.mul_bmod_bmod, Int.bmod_neg_bmod, Nat.reducePow, Int.reduceBmod, Int.reduceNeg, Int.reduceMul, Int.reduceAdd, Int.reduceSub, not_true_eq_false, not_false_eq_true] at *) <;> (try simp (disch := omega) only [i_bm'] at *) <;> omega)))
