/-! steps: tell -/
theorem Inv_tol {s s' : jg_H} (hI : Inv s) (h : f_only 5 s s') (ht : I_tol s') : Inv s' := by
  obtain ⟨a1, a2, a3, a4, a5, a6, a7, a8, a9, a10⟩ := hI
  have hs := fun k' hk' => fo_same h (k' := k') hk'
  have f2 := hs 2 (by decide)
  have h3 := hs 3 (by decide)
  have f3 : s' 153 = s 153 := funext fun i => f2 153 i rfl
  exact ⟨fr_mem (hs 1 (by decide)) a1, fr_bil f2 a2, fr_cal h3 (funext fun i => f2 152 i rfl) (Int.le_of_eq (congrArg _ (f2 146 6 rfl).symm)) a3, fr_pil (hs 4 (by decide)) (Int.le_of_eq (congrArg _ (hs 1 (by decide) 146 0 rfl).symm)) (Int.le_of_eq (congrArg _ (hs 6 (by decide) 146 14 rfl).symm)) (h3 146 13 rfl) f3 a4, ht, fr_txt (hs 6 (by decide)) a6, fr_tap (hs 7 (by decide)) a7, fr_mis (hs 8 (by decide)) a8, fr_try (hs 10 (by decide)) a9, fr_cst (hs 9 (by decide)) a10⟩
theorem Inv_tell {s : jg_H} (hI : Inv s) (a1 a2 a3 w v : Int32) (T : Nat) (hT : (s 146 19).toInt = T) (hT5 : T < 5) (hv : v.toInt = (T : Int) + 1) (hu : 0 ≤ (s 146 13).toInt) (k1 : tl_1 a1 a3) (k2 : tl_2 a1 a2 (s 153 (s 146 13).toInt.toNat).toInt) (hw : ¬ a1.toInt = 1 → w = a3) : Inv (jg_up (jg_up (jg_up (jg_up (jg_up (jg_up (jg_up (jg_up (jg_up s 67 T a1) 68 T (-1)) 69 T a2) 70 T w) 66 0 v) 172 T a1) 173 T a2) 174 T a3) 146 19 v) := by
  refine Inv_tol hI (fo_up rfl (fo_up rfl (fo_up rfl (fo_up rfl (fo_up rfl (fo_up rfl (fo_up rfl (fo_up rfl (fo_up rfl fo_refl))))))))) ?_
  obtain ⟨p1, p2, p3, p4, p5, p6⟩ := hI.2.2.2.2.1
  refine ⟨by (simp (disch := omega) only [u_hit, u_c, u_j]), by (simp (disch := omega) only [u_hit, u_c, u_j]); omega, by (simp (disch := omega) only [u_hit, u_c, u_j]); omega, by (simp (disch := omega) only [u_hit, u_c, u_j]); exact p4, by (simp (disch := omega) only [u_hit, u_c, u_j]); exact fun _ => hu, ?_⟩
  intro i hi
  have hi : (i : Int) < (T : Int) + 1 := by revert hi; (simp (disch := omega) only [u_hit, u_c, u_j]); rw [hv]; exact id
  unfold tl_1 at k1
  unfold tl_2 at k2
  by_cases e : i = T
  · subst e
    (simp (disch := omega) only [u_hit, u_c, u_j])
    refine ⟨by trivial, k1.1, k1.2.1, by trivial, k2.1, by omega, ?_, ?_⟩
    · intro h
      have : ¬ a1.toInt = 2 := fun e => h (Int32.toInt_inj.mp (by rw [e]; rfl))
      omega
    · intro h
      have : ¬ a1.toInt = 1 := fun e => h (Int32.toInt_inj.mp (by rw [e]; rfl))
      exact ⟨hw this, by omega, by omega⟩
  · (simp (disch := omega) only [u_hit, u_c, u_j])
    exact p6 i (by omega)
theorem st_tell {G : jv_X} {d : Nat} {s : jg_H} (hI : Inv s) (a1 a2 a3 : Int32) : q_P G (d + 3) 106 [.ref 0, .int a1, .int a2, .int a3] s (fun r s' => q_P G (d + 3) 205 [.ref 146, .int a1, .int a2, .int a3] s' (fun r' s'' => r = r' ∧ Inv s'')) := by
  have t1 := hI.2.2.2.2.1.1
  have t2 := hI.2.2.2.2.1.2.1
  have t3 := hI.2.2.2.2.1.2.2.1
  have t4 := hI.2.2.2.2.1.2.2.2.1
  have c1 := hI.2.1.1
  have c2 := hI.2.1.2.1
  have c3 := hI.2.1.2.2.1
  have d1 := hI.2.2.1.1
  have d2 := hI.2.2.1.2.1
  have d6 := hI.2.2.1.2.2.2.2.2.1
  have d7 := hI.2.2.1.2.2.2.2.2.2.1
  have d8 := hI.2.2.1.2.2.2.2.2.2.2.1
  have hz : 0 ≤ (s 146 13).toInt → s (33 + 3 * (s 146 13).toNatClampNeg + 1) 0 = s 153 (s 146 13).toNatClampNeg ∧ 0 ≤ (s 153 (s 146 13).toNatClampNeg).toInt ∧ (s 153 (s 146 13).toNatClampNeg).toInt ≤ 10 := by
    intro h
    obtain ⟨e1, e2, e3, e4, e5, e6, e7, e8, e9⟩ := key_bil hI.2.1 (s 146 13) h (by omega)
    exact ⟨e7, e8, e9⟩
  obtain ⟨z, hzz, hz0, hz1⟩ : ∃ z : Int, (0 ≤ (s 146 13).toInt → (s 153 (s 146 13).toNatClampNeg).toInt = z) ∧ 0 ≤ z ∧ z ≤ 10 := by
    by_cases h : 0 ≤ (s 146 13).toInt
    · exact ⟨_, fun _ => rfl, (hz h).2.1, (hz h).2.2⟩
    · exact ⟨0, fun e => absurd e h, by omega, by omega⟩
  have M : ∀ (B : Option Value → jg_H → Prop) (t : jg_H), t 146 = s 146 → t 153 = s 153 → (¬ tl_1 a1 a3 → B (some (.int (-2))) t) → (tl_1 a1 a3 → (s 146 13).toInt = -1 → B (some (.int (-3))) t) → (tl_1 a1 a3 → 0 ≤ (s 146 13).toInt → ¬ tl_2 a1 a2 z → B (some (.int (-2))) t) → (tl_1 a1 a3 → 0 ≤ (s 146 13).toInt → tl_2 a1 a2 z → (s 146 19).toInt = 5 → B (some (.int (-4))) t) → (tl_1 a1 a3 → 0 ≤ (s 146 13).toInt → tl_2 a1 a2 z → (s 146 19).toInt < 5 → B (some (.int (s 146 19 + 1))) (jg_up (jg_up (jg_up (jg_up t 172 (s 146 19).toNatClampNeg a1) 173 (s 146 19).toNatClampNeg a2) 174 (s 146 19).toNatClampNeg a3) 146 19 (s 146 19 + 1))) → q_P G (d + 3) 205 [.ref 146, .int a1, .int a2, .int a3] t B := by
    intro B t e1 e2 c1 c2 c3 c4 c5
    refine sp_M_tell (d := d) a1 a2 a3 z ?_ ?_ ?_ ?_ ?_ hz0 hz1 c1 ?_ ?_ ?_ ?_
    all_goals (rw [e1]; try rw [e2])
    · exact t2
    · exact t3
    · exact d7
    · omega
    · exact hzz
    · exact c2
    · exact c3
    · exact c4
    · exact c5
  refine sp_C_tell (d := d) a1 a2 a3 z (by rw [t1]; exact t2) (by rw [t1]; exact t3) t4 (by rw [d6]; exact d7) (by rw [d6, c1]; exact d8) (by rw [c1]; exact c3) ?_ ?_ ?_ ?_ ?_ ?_
  · rw [d6]; intro h; rw [(hz h).1]; exact hzz h
  · intro h
    exact M _ s rfl rfl (fun _ => ⟨rfl, hI⟩) (fun k => absurd k h) (fun k => absurd k h) (fun k => absurd k h) (fun k => absurd k h)
  · rw [d6]
    intro h h'
    exact M _ s rfl rfl (fun k => absurd h k) (fun _ _ => ⟨rfl, hI⟩) (fun _ k => absurd h' (by omega)) (fun _ k => absurd h' (by omega)) (fun _ k => absurd h' (by omega))
  · rw [d6]
    intro h h' h2
    exact M _ s rfl rfl (fun k => absurd h k) (fun _ k => absurd h' (by omega)) (fun _ _ _ => ⟨rfl, hI⟩) (fun _ _ k => absurd k h2) (fun _ _ k => absurd k h2)
  · rw [d6, t1]
    intro h h' h2 h3
    exact M _ s rfl rfl (fun k => absurd h k) (fun _ k => absurd h' (by omega)) (fun _ _ k => absurd h2 k) (fun _ _ _ _ => ⟨rfl, hI⟩) (fun _ _ _ k => absurd h3 (by omega))
  · rw [d6, t1]
    intro h h' h2 h3 w hw
    have hTn : (s 146 19).toNatClampNeg = (s 146 19).toInt.toNat := i_cn _
    refine M _ _ (funext fun j => by (simp (disch := omega) only [u_hit, u_c, u_j])) (funext fun j => by (simp (disch := omega) only [u_hit, u_c, u_j])) (fun k => absurd h k) (fun _ k => absurd h' (by omega)) (fun _ _ k => absurd h2 k) (fun _ _ _ k => absurd h3 (by omega)) ?_
    intro _ _ _ _
    refine ⟨rfl, ?_⟩
    rw [hTn]
    have hu := hzz h'
    refine Inv_tell hI a1 a2 a3 w _ _ (by omega) (by omega) ?_ h' h ?_ hw
    · clear M hz hzz hu h h2 hTn hw d1 d6 t1 t4
      ((try simp only [i_lt, i_le, i_eq, i_in, i_cn, Int32.toInt_add, Int32.toInt_sub, Int32.toInt_mul, Int32.toInt_neg, Int32.reduceToInt, Int.bmod_add_bmod, Int.add_bmod_bmod, Int.bmod_sub_bmod, Int.sub_bmod_bmod, Int.bmod_mul_bmod, Int.mul_bmod_bmod, Int.bmod_neg_bmod, Nat.reducePow, Int.reduceBmod, Int.reduceNeg, Int.reduceMul, Int.reduceAdd, Int.reduceSub, not_true_eq_false, not_false_eq_true] at *) <;> (try simp (disch := omega) only [i_bm'] at *) <;> omega)
    · rw [← i_cn (s 146 13), hu]; exact h2
