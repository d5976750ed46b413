/-! the reference votes -/
theorem mo_13 {V u : jg_H} (h : f_mo V u) : u 146 13 = V 146 13 := h 146 13 (by decide) (by decide : ¬ (3 : Nat) = 0)
set_option maxRecDepth 20000 in
theorem sp_M_leave {G : jv_X} {d : Nat} {B : Option Value → jg_H → Prop} {V u : jg_H} (hm : f_mo V u) (hu : 0 ≤ (V 146 13).toInt) (hu8 : (V 146 13).toInt < 8) (st nm : Int32) (h0 : st = 0 → nm = 0) (h1 : ¬ st = 0 → nm = V 155 (V 146 13).toNatClampNeg) (hB : ∀ t : jg_H, f_ls u t → f_mo (VL V (V 146 13).toNatClampNeg st nm) t → B none t) : q_P G (d + 1) 197 [.ref 146, .int st] u B := by
  have e13 := mo_13 hm
  have ji : jv_in (u 146 13) 8 = true := by rw [e13, i_in]; exact ⟨hu, by omega⟩
  have hU : (V 146 13).toNatClampNeg < 8 := by rw [i_cn]; omega
  have fin : ∀ t : jg_H, t = jg_up (jg_up (jg_up (jg_up (jg_up u 152 (V 146 13).toNatClampNeg st) 155 (V 146 13).toNatClampNeg nm) 146 13 (-1)) 146 18 0) 146 19 0 → B none t := by
    intro t e
    subst e
    refine hB _ (ls_up (by decide) (ls_up (by decide) (ls_up (by decide) (ls_up (by decide) (ls_up (by decide) (fun _ _ => rfl)))))) ?_
    unfold VL
    exact mo_up (mo_up (mo_up (mo_up (mo_up (mo_lo (by decide) (mo_lo (by decide) (mo_lo (by decide) (mo_lo (by omega) (mo_lo (by omega) hm)))))))))
  refine t_M_isUpNoMore (d := d) st ji ?_ ?_ ?_ ?_ ?_
  · intro s1 e1 _; subst e1; rw [u_c (by decide)]; exact ji
  · intro s1 e1 _; subst e1; rw [u_c (by decide)]; exact ji
  · intro s1 e1 g s2 e2 s3 e3 s4 e4 s5 e5
    refine fin s5 ?_
    have e155 : u 155 (V 146 13).toNatClampNeg = nm := by
      rw [hm 155 _ (by decide) (by decide : ¬ (2 : Nat) = 0)]; exact (h1 g).symm
    rw [e13] at e1
    subst e1
    rw [u_c (by decide), e13, u_c (by decide), e155] at e2
    subst e2; subst e3; subst e4; subst e5
    rfl
  · intro s1 e1 _; subst e1; rw [u_c (by decide)]; exact ji
  · intro s1 e1 g s2 e2 s3 e3 s4 e4 s5 e5
    refine fin s5 ?_
    rw [e13] at e1
    subst e1
    rw [u_c (by decide), e13, ← h0 g] at e2
    subst e2; subst e3; subst e4; subst e5
    rfl
set_option maxRecDepth 20000 in
theorem sp_M_copy {G : jv_X} {d : Nat} {B : Option Value → jg_H → Prop} {u : jg_H} (x1 x2 : Int32) (hu : 0 ≤ (u 146 13).toInt) (hu8 : (u 146 13).toInt < 8) (nn : Nat) (hn : (u 146 53).toInt = nn) (h10 : nn ≤ 10) (hB : ∀ t : jg_H, (∀ j, j < nn → t 154 (10 * (u 146 13).toNatClampNeg + j) = u 171 j) → (∀ c j, ¬ (c = 154 ∧ 10 * (u 146 13).toNatClampNeg ≤ j ∧ j < 10 * (u 146 13).toNatClampNeg + 10) → t c j = u c j) → q_W G d jm_M_carries B 155 [some (.ref 146), some (.int x1), some (.int x2), some (.int 0)] [] t) : q_W G d jm_M_carries B 119 [some (.ref 146), some (.int x1), some (.int x2), some (.int 0)] [] u := by
  have lp : ∀ (m q : Nat) (x3 : Int32) (t : jg_H), q + m = nn → x3.toInt = q → (∀ j, j < q → t 154 (10 * (u 146 13).toNatClampNeg + j) = u 171 j) → (∀ c j, ¬ (c = 154 ∧ 10 * (u 146 13).toNatClampNeg ≤ j ∧ j < 10 * (u 146 13).toNatClampNeg + 10) → t c j = u c j) → q_W G d jm_M_carries B 119 [some (.ref 146), some (.int x1), some (.int x2), some (.int x3)] [] t := by
    intro m
    induction m with
    | zero =>
      intro q x3 t h1 h3 hs hf
      have e : q = nn := by omega
      subst e
      have t53 : t 146 53 = u 146 53 := hf 146 53 (by omega)
      refine t2_M_carries_119 (d := d) x1 x2 x3 ?_ ?_ ?_ ?_
      · intro _; exact hB t hs hf
      all_goals (intro g; exfalso; rw [t53] at g; clear hB hs hf; ((try simp only [i_lt, i_le, i_eq, i_in, i_cn, Int32.toInt_add, Int32.toInt_sub, Int32.toInt_mul, Int32.toInt_neg, Int32.reduceToInt, Int.bmod_add_bmod, Int.add_bmod_bmod, Int.bmod_sub_bmod, Int.sub_bmod_bmod, Int.bmod_mul_bmod, Int.mul_bmod_bmod, Int.bmod_neg_bmod, Nat.reducePow, Int.reduceBmod, Int.reduceNeg, Int.reduceMul, Int.reduceAdd, Int.reduceSub, not_true_eq_false, not_false_eq_true] at *) <;> (try simp (disch := omega) only [i_bm'] at *) <;> omega))
    | succ m ih =>
      intro q x3 t h1 h3 hs hf
      have t53 : t 146 53 = u 146 53 := hf 146 53 (by omega)
      have t13 : t 146 13 = u 146 13 := hf 146 13 (by omega)
      have h5 : (x3 + 1).toInt = ((q + 1 : Nat) : Int) := by clear hB hs hf ih; ((try simp only [i_lt, i_le, i_eq, i_in, i_cn, Int32.toInt_add, Int32.toInt_sub, Int32.toInt_mul, Int32.toInt_neg, Int32.reduceToInt, Int.bmod_add_bmod, Int.add_bmod_bmod, Int.bmod_sub_bmod, Int.sub_bmod_bmod, Int.bmod_mul_bmod, Int.mul_bmod_bmod, Int.bmod_neg_bmod, Nat.reducePow, Int.reduceBmod, Int.reduceNeg, Int.reduceMul, Int.reduceAdd, Int.reduceSub, not_true_eq_false, not_false_eq_true] at *) <;> (try simp (disch := omega) only [i_bm'] at *) <;> omega)
      have hq : x3.toNatClampNeg = q := by rw [i_cn]; omega
      have hx : ((10 * (u 146 13)) + x3).toNatClampNeg = 10 * (u 146 13).toNatClampNeg + q := by
        clear hB hs hf ih t53 t13 h5 hq
        (try simp only [i_lt, i_le, i_eq, i_in, i_cn, Int32.toInt_add, Int32.toInt_sub, Int32.toInt_mul, Int32.toInt_neg, Int32.reduceToInt, Int.bmod_add_bmod, Int.add_bmod_bmod, Int.bmod_sub_bmod, Int.sub_bmod_bmod, Int.bmod_mul_bmod, Int.mul_bmod_bmod, Int.bmod_neg_bmod, Nat.reducePow, Int.reduceBmod, Int.reduceNeg, Int.reduceMul, Int.reduceAdd, Int.reduceSub, not_true_eq_false, not_false_eq_true] at *) <;> (try simp (disch := omega) only [i_bm'] at *); omega
      have t171 : t 171 q = u 171 q := hf 171 q (by omega)
      refine t2_M_carries_119 (d := d) x1 x2 x3 ?_ ?_ ?_ ?_
      · intro g; exfalso; rw [t53] at g; clear hB hs hf ih; ((try simp only [i_lt, i_le, i_eq, i_in, i_cn, Int32.toInt_add, Int32.toInt_sub, Int32.toInt_mul, Int32.toInt_neg, Int32.reduceToInt, Int.bmod_add_bmod, Int.add_bmod_bmod, Int.bmod_sub_bmod, Int.sub_bmod_bmod, Int.bmod_mul_bmod, Int.mul_bmod_bmod, Int.bmod_neg_bmod, Nat.reducePow, Int.reduceBmod, Int.reduceNeg, Int.reduceMul, Int.reduceAdd, Int.reduceSub, not_true_eq_false, not_false_eq_true] at *) <;> (try simp (disch := omega) only [i_bm'] at *) <;> omega)
      · intro _; rw [i_in]; omega
      · intro _; rw [t13]; clear hB hs hf ih t53 t13 h5 hq hx t171; ((try simp only [i_lt, i_le, i_eq, i_in, i_cn, Int32.toInt_add, Int32.toInt_sub, Int32.toInt_mul, Int32.toInt_neg, Int32.reduceToInt, Int.bmod_add_bmod, Int.add_bmod_bmod, Int.bmod_sub_bmod, Int.sub_bmod_bmod, Int.bmod_mul_bmod, Int.mul_bmod_bmod, Int.bmod_neg_bmod, Nat.reducePow, Int.reduceBmod, Int.reduceNeg, Int.reduceMul, Int.reduceAdd, Int.reduceSub, not_true_eq_false, not_false_eq_true] at *) <;> (try simp (disch := omega) only [i_bm'] at *) <;> omega)
      · intro _ s1 e1
        rw [t13, hx, hq, t171] at e1
        subst e1
        refine ih (q + 1) _ _ (by omega) h5 (fun j hj => ?_) (fun c j h => ?_)
        · by_cases e : j = q
          · rw [e, u_hit]
          · rw [u_j (by omega)]; exact hs j (by omega)
        · rw [u_r (fun e e' => h ⟨e, by omega, by omega⟩)]
          exact hf c j h
  exact lp nn 0 0 u (by omega) (by decide) (fun j hj => absurd hj (Nat.not_lt_zero j)) (fun _ _ _ => rfl)
set_option maxRecDepth 20000 in
theorem sp_M_allfollow {G : jv_X} {d : Nat} {B : Option Value → jg_H → Prop} {u : jg_H} (I pl K bd : Int32) (hi : 0 ≤ I.toInt) (hi' : I.toInt < 13) (eK : u 157 I.toNatClampNeg = K) (eb : u 161 I.toNatClampNeg = bd) (hK : 1 ≤ K.toInt ∧ K.toInt ≤ 3) (cnt : Nat) (hc : (u 146 18).toInt = cnt) (h8 : cnt ≤ 8) (hB : ∀ t : jg_H, (∀ j, j < cnt → t 159 j = s_fol (u 157 j) (u 159 j) (u 161 j) K pl bd) → (∀ c j, ¬ (c = 159 ∧ j < cnt) → t c j = u c j) → B none (jg_up t 146 19 0)) : q_W G (d + 2) jm_M_carries B 155 [some (.ref 146), some (.int I), some (.int pl), some (.int 0)] [] u := by
  have ji : jv_in I 13 = true := by rw [i_in]; exact ⟨hi, by omega⟩
  have lp : ∀ (m q : Nat) (x3 : Int32) (t : jg_H), q + m = cnt → x3.toInt = q → (∀ j, j < q → t 159 j = s_fol (u 157 j) (u 159 j) (u 161 j) K pl bd) → (∀ c j, ¬ (c = 159 ∧ j < q) → t c j = u c j) → q_W G (d + 2) jm_M_carries B 155 [some (.ref 146), some (.int I), some (.int pl), some (.int x3)] [] t := by
    intro m
    induction m with
    | zero =>
      intro q x3 t h1 h3 hs hf
      have e : q = cnt := by omega
      subst e
      have t18 : t 146 18 = u 146 18 := hf 146 18 (by omega)
      refine t2_M_carries_155 (d := d + 2) I pl x3 ?_ (fun _ => ji) (fun _ => ji) ?_
      · intro _ s1 e1; subst e1; exact hB t hs hf
      · intro g; exfalso; rw [t18] at g; clear hB hs hf; ((try simp only [i_lt, i_le, i_eq, i_in, i_cn, Int32.toInt_add, Int32.toInt_sub, Int32.toInt_mul, Int32.toInt_neg, Int32.reduceToInt, Int.bmod_add_bmod, Int.add_bmod_bmod, Int.bmod_sub_bmod, Int.sub_bmod_bmod, Int.bmod_mul_bmod, Int.mul_bmod_bmod, Int.bmod_neg_bmod, Nat.reducePow, Int.reduceBmod, Int.reduceNeg, Int.reduceMul, Int.reduceAdd, Int.reduceSub, not_true_eq_false, not_false_eq_true] at *) <;> (try simp (disch := omega) only [i_bm'] at *) <;> omega)
    | succ m ih =>
      intro q x3 t h1 h3 hs hf
      have t18 : t 146 18 = u 146 18 := hf 146 18 (by omega)
      have h5 : (x3 + 1).toInt = ((q + 1 : Nat) : Int) := by clear hB hs hf ih; ((try simp only [i_lt, i_le, i_eq, i_in, i_cn, Int32.toInt_add, Int32.toInt_sub, Int32.toInt_mul, Int32.toInt_neg, Int32.reduceToInt, Int.bmod_add_bmod, Int.add_bmod_bmod, Int.bmod_sub_bmod, Int.sub_bmod_bmod, Int.bmod_mul_bmod, Int.mul_bmod_bmod, Int.bmod_neg_bmod, Nat.reducePow, Int.reduceBmod, Int.reduceNeg, Int.reduceMul, Int.reduceAdd, Int.reduceSub, not_true_eq_false, not_false_eq_true] at *) <;> (try simp (disch := omega) only [i_bm'] at *) <;> omega)
      have hq : x3.toNatClampNeg = q := by rw [i_cn]; omega
      refine t2_M_carries_155 (d := d + 2) I pl x3 ?_ (fun _ => ji) (fun _ => ji) ?_
      · intro g; exfalso; rw [t18] at g; clear hB hs hf ih; ((try simp only [i_lt, i_le, i_eq, i_in, i_cn, Int32.toInt_add, Int32.toInt_sub, Int32.toInt_mul, Int32.toInt_neg, Int32.reduceToInt, Int.bmod_add_bmod, Int.add_bmod_bmod, Int.bmod_sub_bmod, Int.sub_bmod_bmod, Int.bmod_mul_bmod, Int.mul_bmod_bmod, Int.bmod_neg_bmod, Nat.reducePow, Int.reduceBmod, Int.reduceNeg, Int.reduceMul, Int.reduceAdd, Int.reduceSub, not_true_eq_false, not_false_eq_true] at *) <;> (try simp (disch := omega) only [i_bm'] at *) <;> omega)
      · intro _
        rw [hf 157 _ (by omega), hf 161 _ (by omega), eK, eb]
        refine sp_M_follows (d := d) x3 K pl bd (by omega) (by omega) hK ?_
        rw [hq, hf 157 q (by omega), hf 161 q (by omega), hf 159 q (by omega)]
        intro t2 w1 w2
        refine t2_M_carries_181 (d := d + 2) I pl x3 ?_
        refine ih (q + 1) _ t2 (by omega) h5 (fun j hj => ?_) (fun c j h => ?_)
        · by_cases e : j = q
          · rw [e]; exact w1
          · rw [w2 159 j (by omega)]; exact hs j (by omega)
        · rw [w2 c j (by omega)]
          exact hf c j (by omega)
  exact lp cnt 0 0 u (by omega) (by decide) (fun j hj => absurd hj (Nat.not_lt_zero j)) (fun _ _ _ => rfl)
set_option maxRecDepth 20000 in
theorem sp_M_carries {G : jv_X} {d : Nat} {B : Option Value → jg_H → Prop} {V u : jg_H} (hI : Inv V) (hm : f_mo V u) (I K pl wd bd : Int32) (hi : 0 ≤ I.toInt) (hi' : I.toInt < 13) (eK : u 157 I.toNatClampNeg = K) (ew : u 160 I.toNatClampNeg = wd) (eb : u 161 I.toNatClampNeg = bd) (hk0 : 0 ≤ K.toInt) (hk6 : K.toInt ≤ 6) (hu : ¬ K = 6 → 0 ≤ (V 146 13).toInt) (hr : ¬ K.toInt = 6 → m_row u I.toNatClampNeg (fl_n V) (fl_R V) K pl) (cnt : Nat) (hcnt : (V 146 18).toInt = cnt)
    (hL : ∀ st nm : Int32, (K = 0 ∧ st = 3 ∧ nm = V 155 (V 146 13).toNatClampNeg) ∨ (K = 4 ∧ st = 4 ∧ nm = V 155 (V 146 13).toNatClampNeg) ∨ (K = 5 ∧ st = 0 ∧ nm = 0) → ∀ t : jg_H, f_ls u t → f_mo (VL V (V 146 13).toNatClampNeg st nm) t → B none t)
    (hR : K = 6 → ∀ t : jg_H, f_ls u t → f_mo (VR V wd) t → B none t)
    (hN : 1 ≤ K.toInt ∧ K.toInt ≤ 3 → ¬ x_can (fl_n V) K pl → B none u)
    (hA : 1 ≤ K.toInt ∧ K.toInt ≤ 3 → x_can (fl_n V) K pl → ∀ t : jg_H, f_ls u t → A_M V t (V 146 13).toNatClampNeg (fl_n V) (fl_R V) K pl wd bd cnt → B none t) : q_P G (d + 3) 196 [.ref 146, .int I] u B := by
  have ji : jv_in I 13 = true := by rw [i_in]; exact ⟨hi, by omega⟩
  have d8 := hI.2.2.1.2.2.2.2.2.2.2.1
  have c3 := hI.2.1.2.2.1
  have p3 := hI.2.2.2.1.2.2.1
  have e13 := mo_13 hm
  refine t2_M_carries (d := d + 2) I ji ?_ ?_ ?_ (fun _ _ _ _ => ji) ?_ ?_
  · intro g
    rw [eK] at g
    refine sp_M_leave (d := d + 1) hm (hu (by rw [g]; decide)) (by omega) 3 _ (fun e => absurd e (by decide)) (fun _ => rfl) ?_
    intro t h1 h2
    exact t2_M_carries_53 (d := d + 2) I (hL _ _ (Or.inl ⟨g, rfl, rfl⟩) t h1 h2)
  · intro _ g
    rw [eK] at g
    refine sp_M_leave (d := d + 1) hm (hu (by rw [g]; decide)) (by omega) 4 _ (fun e => absurd e (by decide)) (fun _ => rfl) ?_
    intro t h1 h2
    exact t2_M_carries_61 (d := d + 2) I (hL _ _ (Or.inr (Or.inl ⟨g, rfl, rfl⟩)) t h1 h2)
  · intro _ _ g
    rw [eK] at g
    refine sp_M_leave (d := d + 1) hm (hu (by rw [g]; decide)) (by omega) 0 0 (fun _ => rfl) (fun e => absurd rfl e) ?_
    intro t h1 h2
    exact t2_M_carries_69 (d := d + 2) I (hL _ _ (Or.inr (Or.inr ⟨g, rfl, rfl⟩)) t h1 h2)
  · intro _ _ _ g s1 e1
    rw [eK] at g
    rw [ew] at e1
    subst e1
    refine hR g _ (ls_up (by decide) (fun _ _ => rfl)) ?_
    unfold VR
    exact mo_up (mo_lo (by decide) hm)
  · intro g0 g4 g5 g6
    rw [eK] at g0 g4 g5 g6
    have hk : 1 ≤ K.toInt ∧ K.toInt ≤ 3 := by
      clear hL hR hN hA hI hu hcnt hr eK ew eb e13 hm
      (try simp only [i_lt, i_le, i_eq, i_in, i_cn, Int32.toInt_add, Int32.toInt_sub, Int32.toInt_mul, Int32.toInt_neg, Int32.reduceToInt, Int.bmod_add_bmod, Int.add_bmod_bmod, Int.bmod_sub_bmod, Int.sub_bmod_bmod, Int.bmod_mul_bmod, Int.mul_bmod_bmod, Int.bmod_neg_bmod, Nat.reducePow, Int.reduceBmod, Int.reduceNeg, Int.reduceMul, Int.reduceAdd, Int.reduceSub, not_true_eq_false, not_false_eq_true] at *) <;> (try simp (disch := omega) only [i_bm'] at *); omega
    have hu0 := hu g6
    have hrow := hr (by omega)
    refine sp_M_isDoable (d := d + 1) I hi hi' (fl_n V) (fl_R V) K pl eK hk hrow ?_ ?_
    · intro hc
      exact t2_M_carries_90 (d := d + 2) I 0 (fun _ => hN hk hc) (fun g => absurd rfl g)
    · intro hc
      refine t2_M_carries_90 (d := d + 2) I 1 (fun g => absurd g (by decide)) ?_
      intro _
      refine sp_M_sectionOf (d := d + 1) I hi hi' (fl_n V) (fl_R V) K pl hk hrow ?_
      refine t2_M_carries_98 (d := d + 2) I pl ?_
      refine sp_M_does (d := d) I hi hi' (fl_n V) (fl_R V) K pl wd eK ew hk hrow hc ?_
      intro u1 w1 w2 w3
      have r10 := r_n10 (fl_b hI).1 hc
      have u13 : u1 146 13 = V 146 13 := (w3 146 13 (by omega) (by omega)).trans e13
      refine t2_M_carries_104 (d := d + 2) I pl (by rw [u13, i_in]; exact ⟨hu0, by omega⟩) ?_
      intro s1 e1
      rw [u13] at e1
      have s13 : s1 146 13 = V 146 13 := by rw [e1, u_c (by decide)]; exact u13
      refine sp_M_copy (d := d + 2) I pl (by rw [s13]; exact hu0) (by rw [s13]; omega) (r_n K (fl_n V)) (by rw [e1, u_c (by decide)]; exact w1) r10 ?_
      rw [s13]
      intro u2 y1 y2
      have b : ∀ c j, ¬ c = 153 → ¬ c = 154 → ¬ c = 171 → ¬ (c = 146 ∧ j = 53) → u2 c j = u c j := by
        intro c j h1 h2 h3 h4
        rw [y2 c j (by omega), e1, u_c h1]
        exact w3 c j h4 h3
      have hIN : I.toNatClampNeg < 13 := by rw [i_cn]; omega
      refine sp_M_allfollow (d := d) I pl K bd hi hi' (by rw [b 157 _ (by decide) (by decide) (by decide) (by omega)]; exact eK) (by rw [b 161 _ (by decide) (by decide) (by decide) (by omega)]; exact eb) hk cnt (by rw [b 146 18 (by decide) (by decide) (by decide) (by omega), hm 146 18 (by decide) (by decide : ¬ (4 : Nat) = 0)]; exact hcnt) (by omega) ?_
      intro u3 v1 v2
      refine hA hk hc _ ?_ ⟨?_, ?_, ?_, by rw [u_hit], ?_⟩
      · intro c hc'
        funext j
        rw [u_c (by omega), v2 c j (by omega)]
        exact b c j (by omega) (by omega) (by omega) (by omega)
      · rw [u_c (by decide), v2 153 _ (by omega), y2 153 _ (by omega), e1, u_hit]
        exact w1
      · intro j hj
        rw [u_c (by decide), v2 154 _ (by omega), y1 j hj, e1, u_c (by decide)]
        exact w2 j hj
      · intro j hj
        have hj8 : j < 8 := by omega
        rw [u_c (by decide), v1 j hj, b 157 j (by decide) (by decide) (by decide) (by omega), b 159 j (by decide) (by decide) (by decide) (by omega), b 161 j (by decide) (by decide) (by decide) (by omega)]
        rw [hm 157 j (by decide) (by rw [g_4 (by decide) (by decide) hj8]; decide), hm 159 j (by decide) (by rw [g_4 (by decide) (by decide) hj8]; decide), hm 161 j (by decide) (by rw [g_4 (by decide) (by decide) hj8]; decide)]
      · intro c j hc' hg h1 h2 h3 h4
        rw [u_r (fun e e' => h4 ⟨e, e'⟩), v2 c j h3, y2 c j h2, e1, u_r (fun e e' => h1 ⟨e, e'⟩), w3 c j (by rintro ⟨rfl, rfl⟩; exact hg rfl) (by rintro rfl; exact hg rfl)]
        exact hm c j hc' hg
set_option maxRecDepth 20000 in
theorem sp_M_vote {G : jv_X} {d : Nat} {B : Option Value → jg_H → Prop} {s u : jg_H} (hI : Inv s) (hmo : f_mo s u) (I K M pl wd Y N P : Int32) (mb : Nat) (hv : vt_ok s I K M pl wd Y N P mb)
    (h21 : (s 146 18).toInt = 0 → B (some (.int (-21))) u)
    (h22 : 0 < (s 146 18).toInt → 100 ≤ (s 146 17).toInt → B (some (.int (-22))) u)
    (h23 : 0 < (s 146 18).toInt → (s 146 17).toInt < 100 → x_r s 3 K M = 0 → ∀ t : jg_H, f_ls u t → f_mo s t → B (some (.int (-23))) t)
    (h0 : 0 < (s 146 18).toInt → (s 146 17).toInt < 100 → ¬ x_r s 3 K M = 0 → P = 0 → ¬ K = 0 → ∀ t : jg_H, f_ls u t → f_mo (V1 s Y N K 0 I) t → B (some (.int 0)) (jg_up t 146 17 ((s 146 17) + 1)))
    (hL : 0 < (s 146 18).toInt → (s 146 17).toInt < 100 → ¬ x_r s 3 K M = 0 → ∀ c st nm : Int32, (P = 0 ∧ c = 0 ∧ K = 0 ∧ st = 4 ∧ nm = s 155 (s 146 13).toNatClampNeg) ∨ (¬ P = 0 ∧ c = 1 ∧ ((K = 0 ∧ st = 3 ∧ nm = s 155 (s 146 13).toNatClampNeg) ∨ (K = 4 ∧ st = 4 ∧ nm = s 155 (s 146 13).toNatClampNeg) ∨ (K = 5 ∧ st = 0 ∧ nm = 0))) → ∀ t : jg_H, f_ls u t → f_mo (VL (V1 s Y N K c I) (s 146 13).toNatClampNeg st nm) t → B (some (.int c)) (jg_up t 146 17 ((s 146 17) + 1)))
    (hR : 0 < (s 146 18).toInt → (s 146 17).toInt < 100 → ¬ x_r s 3 K M = 0 → ¬ P = 0 → K = 6 → ∀ t : jg_H, f_ls u t → f_mo (VR (V1 s Y N K 1 I) wd) t → B (some (.int 1)) (jg_up t 146 17 ((s 146 17) + 1)))
    (hN : 0 < (s 146 18).toInt → (s 146 17).toInt < 100 → ¬ x_r s 3 K M = 0 → ¬ P = 0 → 1 ≤ K.toInt ∧ K.toInt ≤ 3 → ¬ x_can (fl_n s) K pl → ∀ t : jg_H, f_ls u t → f_mo (V1 s Y N K 1 I) t → B (some (.int 1)) (jg_up t 146 17 ((s 146 17) + 1)))
    (hA : 0 < (s 146 18).toInt → (s 146 17).toInt < 100 → ¬ x_r s 3 K M = 0 → ¬ P = 0 → 1 ≤ K.toInt ∧ K.toInt ≤ 3 → x_can (fl_n s) K pl → ∀ t : jg_H, f_ls u t → A_M (V1 s Y N K 1 I) t (s 146 13).toNatClampNeg (fl_n s) (fl_R s) K pl wd (s 161 I.toNatClampNeg) I.toNatClampNeg → B (some (.int 1)) (jg_up t 146 17 ((s 146 17) + 1))) : q_P G (d + 6) 189 [.ref 146] u B := by
  obtain ⟨eb, eI, eK, eM, ep, ew, eY, eN, eP⟩ := hv
  have b1 := hI.1.1
  have b2 := hI.1.2.1
  have b3 := hI.1.2.2.1
  have p1 := hI.2.2.2.1.1
  have p2 := hI.2.2.2.1.2.1
  have p3 := hI.2.2.2.1.2.2.1
  have p4 := hI.2.2.2.1.2.2.2.1
  have d1 := hI.2.2.1.1
  have d2 := hI.2.2.1.2.1
  have d6 := hI.2.2.1.2.2.2.2.2.1
  have d7 := hI.2.2.1.2.2.2.2.2.2.1
  have d8 := hI.2.2.1.2.2.2.2.2.2.2.1
  have c1 := hI.2.1.1
  have c2 := hI.2.1.2.1
  have c3 := hI.2.1.2.2.1
  obtain ⟨_, _, _, _, z5, z6, _, _, _, _, z11⟩ := hI.2.2.2.2.2.2.2.1
  obtain ⟨x3', x5, x6⟩ := J_x (J_I hI)
  have kp := key_pil hI.2.2.2.1 I
  have u18 : u 146 18 = s 146 18 := hmo 146 18 (by decide) (by decide : ¬ (4 : Nat) = 0)
  have u17 : u 146 17 = s 146 17 := hmo 146 17 (by decide) (by decide : ¬ (8 : Nat) = 0)
  refine t2_M_vote (d := d + 5) ?_ ?_ ?_ ?main ?_ ?_
  case main =>
    rw [u18, u17, eI]
    intro g1 g2
    have hn : 0 < (s 146 18).toInt := by clear h21 h22 h23 h0 hL hR hN hA hI kp eY eN eP hmo; ((try simp only [i_lt, i_le, i_eq, i_in, i_cn, Int32.toInt_add, Int32.toInt_sub, Int32.toInt_mul, Int32.toInt_neg, Int32.reduceToInt, Int.bmod_add_bmod, Int.add_bmod_bmod, Int.bmod_sub_bmod, Int.sub_bmod_bmod, Int.bmod_mul_bmod, Int.mul_bmod_bmod, Int.bmod_neg_bmod, Nat.reducePow, Int.reduceBmod, Int.reduceNeg, Int.reduceMul, Int.reduceAdd, Int.reduceSub, not_true_eq_false, not_false_eq_true] at *) <;> (try simp (disch := omega) only [i_bm'] at *) <;> omega)
    have hm : (s 146 17).toInt < 100 := by clear h21 h22 h23 h0 hL hR hN hA hI kp eY eN eP hmo; ((try simp only [i_lt, i_le, i_eq, i_in, i_cn, Int32.toInt_add, Int32.toInt_sub, Int32.toInt_mul, Int32.toInt_neg, Int32.reduceToInt, Int.bmod_add_bmod, Int.add_bmod_bmod, Int.bmod_sub_bmod, Int.sub_bmod_bmod, Int.bmod_mul_bmod, Int.mul_bmod_bmod, Int.bmod_neg_bmod, Nat.reducePow, Int.reduceBmod, Int.reduceNeg, Int.reduceMul, Int.reduceAdd, Int.reduceSub, not_true_eq_false, not_false_eq_true] at *) <;> (try simp (disch := omega) only [i_bm'] at *) <;> omega)
    have hi : 0 ≤ I.toInt := by rw [← eI]; clear h21 h22 h23 h0 hL hR hN hA hI kp eY eN eP eK eM ep ew eI hmo; ((try simp only [i_lt, i_le, i_eq, i_in, i_cn, Int32.toInt_add, Int32.toInt_sub, Int32.toInt_mul, Int32.toInt_neg, Int32.reduceToInt, Int.bmod_add_bmod, Int.add_bmod_bmod, Int.bmod_sub_bmod, Int.sub_bmod_bmod, Int.bmod_mul_bmod, Int.mul_bmod_bmod, Int.bmod_neg_bmod, Nat.reducePow, Int.reduceBmod, Int.reduceNeg, Int.reduceMul, Int.reduceAdd, Int.reduceSub, not_true_eq_false, not_false_eq_true] at *) <;> (try simp (disch := omega) only [i_bm'] at *) <;> omega)
    have hi1 : I.toInt < (s 146 18).toInt := by rw [← eI]; clear h21 h22 h23 h0 hL hR hN hA hI kp eY eN eP eK eM ep ew eI hmo; ((try simp only [i_lt, i_le, i_eq, i_in, i_cn, Int32.toInt_add, Int32.toInt_sub, Int32.toInt_mul, Int32.toInt_neg, Int32.reduceToInt, Int.bmod_add_bmod, Int.add_bmod_bmod, Int.bmod_sub_bmod, Int.sub_bmod_bmod, Int.bmod_mul_bmod, Int.mul_bmod_bmod, Int.bmod_neg_bmod, Nat.reducePow, Int.reduceBmod, Int.reduceNeg, Int.reduceMul, Int.reduceAdd, Int.reduceSub, not_true_eq_false, not_false_eq_true] at *) <;> (try simp (disch := omega) only [i_bm'] at *) <;> omega)
    replace h23 := h23 hn hm
    replace h0 := h0 hn hm
    replace hL := hL hn hm
    replace hR := hR hn hm
    replace hN := hN hn hm
    replace hA := hA hn hm
    clear h21 h22
    obtain ⟨k1, k2, k3, k4, k5, k6, k7, k8, k9, k10, k11⟩ := kp hi hi1
    clear kp g1 g2
    rw [eK] at k1 k2 k3 k8 k9 k10 k11
    rw [eM] at k4 k5 k6
    rw [ew] at k7 k8 k9
    have hk2 : K.toInt = 2 ∨ K.toInt = 3 → 1 ≤ wd.toInt ∧ wd.toInt ≤ 60 := fun h => k8 (by rcases h with h | h; exact Or.inl (Int32.toInt_inj.mp h); exact Or.inr (Int32.toInt_inj.mp h))
    have hI8 : I.toNatClampNeg < 8 := by rw [i_cn]; omega
    have ji : jv_in I 13 = true := by rw [i_in]; exact ⟨hi, by omega⟩
    have P8 : ∀ (V t : jg_H), f_mo V t → ∀ c, 157 ≤ c → c < 162 → t c I.toNatClampNeg = V c I.toNatClampNeg := fun V t h c h1 h2 => h c _ (by omega) (by rw [g_4 h1 h2 hI8]; decide)
    have u147 : u 147 = s 147 := funext fun j => hmo 147 j (by decide) (by decide : ¬ (1 : Nat) = 0)
    have u15 : u 146 15 = s 146 15 := hmo 146 15 (by decide) (by decide : ¬ (6 : Nat) = 0)
    have u14 : u 146 14 = s 146 14 := hmo 146 14 (by decide) (by decide : ¬ (6 : Nat) = 0)
    rw [P8 s u hmo 157 (by decide) (by decide), P8 s u hmo 158 (by decide) (by decide), eK, eM, u147, u15]
    refine sp_M_worked (d := d + 2) (J_mo (J_I hI) hmo) (s 146 15) 3 K (s 147 M.toNatClampNeg) (s 146 18) 0 0 x5 (by rw [u14]; exact x6) (by decide) (by decide) ?_
    intro u1 hu1
    have m1 : f_mo s u1 := mo_trans hmo (mo_0 (fo_170 hu1))
    have l1 : f_ls u u1 := fun c hc => funext fun j => hu1 c j (by omega) (by omega)
    rw [x_v_mo hmo]
    have hx : x_v s (s 146 15).toNatClampNeg (3 : Int32).toNatClampNeg K (s 146 18) (s 147 M.toNatClampNeg) 0 0 = x_r s 3 K M := rfl
    rw [hx]
    have hcnt0 : (s 146 0).toInt = mb := eb
    -- behind the look at the floor
    have REST : ¬ x_r s 3 K M = 0 → ∀ u2 : jg_H, f_mo s u2 → f_ls u u2 → (¬ K.toInt = 6 → (u2 146 53).toInt = fl_n s ∧ (∀ j, j < fl_n s → u2 171 j = fl_R s j) ∧ u2 146 53 = s 153 (s 146 13).toNatClampNeg) → q_P G (d + 5) 190 [.ref 146, .int I, .int 1] u2 (fun v t => q_W G (d + 5) jm_M_vote B 90 [some (.ref 146), some (.int I), none] (v.toList ++ [.ref 146]) t) := by
      intro hq u2 m2 l2 hrow
      replace h0 := h0 hq
      replace hL := hL hq
      replace hR := hR hq
      replace hN := hN hq
      replace hA := hA hq
      have ROW : ∀ t : jg_H, t 146 53 = u2 146 53 → t 171 = u2 171 → t 159 I.toNatClampNeg = s 159 I.toNatClampNeg → t 161 I.toNatClampNeg = s 161 I.toNatClampNeg → ¬ K.toInt = 6 → m_row t I.toNatClampNeg (fl_n s) (fl_R s) K pl := by
        intro t e1 e2 e3 e4 h6
        obtain ⟨r1, r2, r3⟩ := hrow h6
        have := pil_row hI I hi hi1 t (fun _ => ⟨by rw [e1]; exact r1, by rw [e2]; exact r2, by rw [e1]; exact r3⟩) e3 e4 (by rw [eK]; exact h6)
        rw [eK, ep] at this
        exact this
      have v0 : u2 146 0 = s 146 0 := m2 146 0 (by decide) (by decide : ¬ (1 : Nat) = 0)
      refine sp_M_counted (d := d) mb (by rw [v0]; exact eb) (by omega) I 1 hi (by omega) (fl_n s) (fl_R s) K pl wd M (by rw [P8 s u2 m2 157 (by decide) (by decide)]; exact eK) (by rw [P8 s u2 m2 160 (by decide) (by decide)]; exact ew) (by rw [P8 s u2 m2 158 (by decide) (by decide)]; exact eM) k2 k3 hk2 (fun _ => ⟨k5, by omega⟩) (ROW u2 rfl rfl (P8 s u2 m2 159 (by decide) (by decide)) (P8 s u2 m2 161 (by decide) (by decide))) ?_
      rw [x_vt_mo m2, eY]
      refine t2_M_vote_90 (d := d + 5) I Y ?_
      intro s1 e1
      have f1 : ∀ c j, ¬ (c = 146 ∧ j = 25) → s1 c j = u2 c j := fun c j h => by rw [e1]; exact u_r (fun e e' => h ⟨e, e'⟩)
      have q1 : ∀ c, ¬ c = 146 → s1 c = u2 c := fun c h => funext fun j => f1 c j (by omega)
      refine sp_M_counted (d := d) mb (by rw [f1 146 0 (by omega), v0]; exact eb) (by omega) I 2 hi (by omega) (fl_n s) (fl_R s) K pl wd M (by rw [q1 157 (by decide), P8 s u2 m2 157 (by decide) (by decide)]; exact eK) (by rw [q1 160 (by decide), P8 s u2 m2 160 (by decide) (by decide)]; exact ew) (by rw [q1 158 (by decide), P8 s u2 m2 158 (by decide) (by decide)]; exact eM) k2 k3 hk2 (fun _ => ⟨k5, by omega⟩) (ROW s1 (f1 146 53 (by omega)) (q1 171 (by decide)) (by rw [q1 159 (by decide)]; exact P8 s u2 m2 159 (by decide) (by decide)) (by rw [q1 161 (by decide)]; exact P8 s u2 m2 161 (by decide) (by decide))) ?_
      have vt1 : x_vt s1 = x_vt u2 := x_vt_s fun c h1 h2 => q1 c (by omega)
      rw [vt1, x_vt_mo m2, eN]
      have M147 : jv_in M 15 = true := by rw [i_in]; exact ⟨k5, by omega⟩
      have k57 : u2 157 I.toNatClampNeg = K := by rw [P8 s u2 m2 157 (by decide) (by decide)]; exact eK
      have k58 : u2 158 I.toNatClampNeg = M := by rw [P8 s u2 m2 158 (by decide) (by decide)]; exact eM
      refine t2_M_vote_100 (d := d + 5) I N (fun _ _ => ji) (fun _ _ _ _ => ji) (fun _ _ _ _ => ji) ?_ ?_
      · intro s2 e2 s3 e3
        subst e3; subst e2
        rw [u_c (by decide), u_c (by decide), q1 158 (by decide), k58]
        exact M147
      · intro s2 e2 s3 e3
        rw [e2, u_c (by decide), q1 157 (by decide), k57] at e3
        have f3 : ∀ c j, ¬ (c = 146 ∧ (j = 25 ∨ j = 26 ∨ j = 27)) → s3 c j = u2 c j := fun c j h => by
          rw [e3, u_r (fun e e' => h ⟨e, by omega⟩), u_r (fun e e' => h ⟨e, by omega⟩)]
          exact f1 c j (fun e => h ⟨e.1, by omega⟩)
        have q3 : ∀ c, ¬ c = 146 → s3 c = u2 c := fun c h => funext fun j => f3 c j (by omega)
        have y25 : s3 146 25 = Y := by rw [e3, u_j (by decide), u_j (by decide), e1, u_hit]
        have y26 : s3 146 26 = N := by rw [e3, u_j (by decide), u_hit]
        have y27 : s3 146 27 = K := by rw [e3, u_hit]
        have m3 : f_mo (jg_up (jg_up (jg_up s 146 25 Y) 146 26 N) 146 27 K) s3 := by
          rw [e3, e1]
          exact mo_up (mo_up (mo_up m2))
        have l3 : f_ls u s3 := by
          rw [e3, e1]
          exact ls_up (by decide) (ls_up (by decide) (ls_up (by decide) l2))
        have v15 : s3 146 15 = s 146 15 := by rw [f3 146 15 (by omega)]; exact m2 146 15 (by decide) (by decide : ¬ (6 : Nat) = 0)
        have v14 : s3 146 14 = s 146 14 := by rw [f3 146 14 (by omega)]; exact m2 146 14 (by decide) (by decide : ¬ (6 : Nat) = 0)
        have v18 : s3 146 18 = s 146 18 := by rw [f3 146 18 (by omega)]; exact m2 146 18 (by decide) (by decide : ¬ (4 : Nat) = 0)
        have v147 : s3 147 = s 147 := by rw [q3 147 (by decide)]; exact funext fun j => m2 147 j (by decide) (by decide : ¬ (1 : Nat) = 0)
        rw [v15, q3 157 (by decide), k57, q3 158 (by decide), k58, v147, v18, y25, y26]
        have m3c : f_mo (jg_up (jg_up (jg_up (jg_up (jg_up (jg_up (jg_up s 122 0 Y) 122 1 N) 122 2 K) 122 3 (s 146 28)) 146 25 Y) 146 26 N) 146 27 K) s3 := by
          rw [e3, e1]
          exact mo_up (mo_up (mo_up (mo_lo (by decide) (mo_lo (by decide) (mo_lo (by decide) (mo_lo (by decide) m2))))))
        have J3 : J s3 := by
          refine J_mo (J_I (Inv_V1 hI Y N K (s 146 28) (s 146 18) z11 p2 (Int.le_refl _))) ?_
          unfold V1
          have e28 : jg_up (jg_up (jg_up (jg_up (jg_up (jg_up (jg_up (jg_up s 122 0 Y) 122 1 N) 122 2 K) 122 3 (s 146 28)) 146 25 Y) 146 26 N) 146 27 K) 146 28 (s 146 28) = jg_up (jg_up (jg_up (jg_up (jg_up (jg_up (jg_up s 122 0 Y) 122 1 N) 122 2 K) 122 3 (s 146 28)) 146 25 Y) 146 26 N) 146 27 K := up_id (by (simp (disch := omega) only [u_hit, u_c, u_j]))
          have e18 : jg_up (jg_up (jg_up (jg_up (jg_up (jg_up (jg_up (jg_up (jg_up s 122 0 Y) 122 1 N) 122 2 K) 122 3 (s 146 28)) 146 25 Y) 146 26 N) 146 27 K) 60 0 (s 146 18)) 146 18 (s 146 18) = jg_up (jg_up (jg_up (jg_up (jg_up (jg_up (jg_up (jg_up s 122 0 Y) 122 1 N) 122 2 K) 122 3 (s 146 28)) 146 25 Y) 146 26 N) 146 27 K) 60 0 (s 146 18) := up_id (by (simp (disch := omega) only [u_hit, u_c, u_j]))
          rw [e28, e18]
          exact mo_lo (by decide) m3c
        refine sp_M_worked (d := d + 2) J3 (s 146 15) 2 K (s 147 M.toNatClampNeg) (s 146 18) Y N x5 (by rw [v14]; exact x6) (by decide) (by decide) ?_
        intro t4 ht4
        have xe : x_v s3 = x_v s := by
          rw [x_v_s q3 (f3 146 0 (by omega)) (f3 146 17 (by omega)), x_v_mo m2]
        rw [xe]
        have hP : x_v s (s 146 15).toNatClampNeg (2 : Int32).toNatClampNeg K (s 146 18) (s 147 M.toNatClampNeg) Y N = P := eP
        rw [hP]
        have r18 : t4 146 18 = s 146 18 := (ht4 146 18 (by decide) (by omega)).trans v18
        have r17 : t4 146 17 = s 146 17 := (ht4 146 17 (by decide) (by omega)).trans ((f3 146 17 (by omega)).trans (m2 146 17 (by decide) (by decide : ¬ (8 : Nat) = 0)))
        have r27 : t4 146 27 = K := (ht4 146 27 (by decide) (by omega)).trans y27
        have l4 : f_ls u t4 := ls_trans l3 (fun c hc => funext fun j => ht4 c j (by omega) (by omega))
        have T5mo : ∀ c : Int32, f_mo (V1 s Y N K c I) (jg_up (jg_up t4 146 28 c) 146 18 I) := by
          intro c
          unfold V1
          refine mo_up (mo_lo (by decide) (mo_up ?_))
          refine mo_trans ?_ (mo_0 (fo_170 ht4))
          rw [e3, e1]
          exact mo_up (mo_up (mo_up (mo_lo (by decide) (mo_lo (by decide) (mo_lo (by decide) (mo_lo (by decide) m2))))))
        have T5ls : ∀ c : Int32, f_ls u (jg_up (jg_up t4 146 28 c) 146 18 I) := fun c => ls_up (by decide) (ls_up (by decide) l4)
        have E18 : ∀ c : Int32, (jg_up t4 146 28 c 146 18) - 1 = I := fun c => by rw [u_j (by decide), r18]; exact eI
        have X27 : ∀ c : Int32, (jg_up (jg_up t4 146 28 c) 146 18 I) 146 27 = K := fun c => by rw [u_j (by decide), u_j (by decide)]; exact r27
        have V1I : ∀ c : Int32, c = 0 ∨ c = 1 → Inv (V1 s Y N K c I) := fun c hc => Inv_V1 hI Y N K c I hc hi (by omega)
        have W13 : ∀ c : Int32, V1 s Y N K c I 146 13 = s 146 13 := fun c => by unfold V1; (simp (disch := omega) only [u_hit, u_c, u_j])
        have W155 : ∀ c : Int32, V1 s Y N K c I 155 = s 155 := fun c => by unfold V1; funext j; (simp (disch := omega) only [u_hit, u_c, u_j])
        have W153 : ∀ c : Int32, V1 s Y N K c I 153 = s 153 := fun c => by unfold V1; funext j; (simp (disch := omega) only [u_hit, u_c, u_j])
        have W154 : ∀ c : Int32, V1 s Y N K c I 154 = s 154 := fun c => by unfold V1; funext j; (simp (disch := omega) only [u_hit, u_c, u_j])
        have W18 : ∀ c : Int32, V1 s Y N K c I 146 18 = I := fun c => by unfold V1; (simp (disch := omega) only [u_hit, u_c, u_j])
        have Wfl : ∀ c : Int32, fl_n (V1 s Y N K c I) = fl_n s ∧ fl_R (V1 s Y N K c I) = fl_R s := by
          intro c
          constructor
          · unfold fl_n; rw [W13, W153]
          · funext j; unfold fl_R; rw [W13, W154]
        have hcnt : ∀ c : Int32, (V1 s Y N K c I 146 18).toInt = I.toNatClampNeg := fun c => by rw [W18, i_cn]; omega
        -- what is left: the minute
        have fin192 : ∀ t7 : jg_H, t7 146 17 = s 146 17 → t7 146 28 = 1 → B (some (.int 1)) (jg_up t7 146 17 ((s 146 17) + 1)) → q_W G (d + 5) jm_M_vote B 192 [some (.ref 146), some (.int I), some (.int 1)] [] t7 := by
          intro t7 l17 l28 hf
          refine t2_M_vote_192 (d := d + 5) I 1 ?_
          intro s8 e8; rw [l17] at e8; subst e8; rw [u_j (by decide), l28]; exact hf
        refine t2_M_vote_151 (d := d + 5) I P ?_ ?_ ?_
        · intro g s5 e5 s6 e6 gk s7 e7
          subst e5
          rw [E18] at e6
          subst e6
          rw [X27] at gk
          rw [u_j (by decide), u_j (by decide), r17] at e7
          subst e7
          rw [u_j (by decide), u_j (by decide), u_hit]
          exact h0 g gk _ (T5ls 0) (T5mo 0)
        · intro g s5 e5 s6 e6 gk
          subst e5
          rw [E18] at e6
          subst e6
          rw [X27] at gk
          have hu := k10 (by rw [gk]; decide)
          refine sp_M_leave (d := d + 4) (T5mo 0) (by rw [W13]; exact hu) (by rw [W13]; omega) 4 _ (fun e => absurd e (by decide)) (fun _ => rfl) ?_
          intro t7 h7 n7
          rw [W13, W155] at n7
          have hf := hL 0 4 _ (Or.inl ⟨g, rfl, gk, rfl, rfl⟩) t7 (ls_trans (T5ls 0) h7) n7
          refine t2_M_vote_207 (d := d + 5) I 0 ?_
          intro s8 e8
          have l17 : t7 146 17 = s 146 17 := by
            rw [n7 146 17 (by decide) (by decide : ¬ (8 : Nat) = 0)]
            unfold VL V1
            (simp (disch := omega) only [u_hit, u_c, u_j])
          have l28 : t7 146 28 = 0 := by
            rw [n7 146 28 (by decide) (by decide : ¬ (8 : Nat) = 0)]
            unfold VL V1
            (simp (disch := omega) only [u_hit, u_c, u_j])
          rw [l17] at e8
          subst e8
          rw [u_j (by decide), l28]
          exact hf
        · intro g s5 e5 s6 e6
          subst e5
          rw [E18] at e6
          subst e6
          have c7 : ∀ c, 157 ≤ c → c < 162 → (jg_up (jg_up t4 146 28 1) 146 18 I) c I.toNatClampNeg = s c I.toNatClampNeg := fun c h1 h2 => by
            rw [u_c (by omega), u_c (by omega), ht4 c _ (by omega) (by omega), q3 c (by omega)]
            exact P8 s u2 m2 c h1 h2
          refine sp_M_carries (d := d + 2) (V1I 1 (Or.inr rfl)) (T5mo 1) I K pl wd (s 161 I.toNatClampNeg) hi (by omega) (by rw [c7 157 (by decide) (by decide)]; exact eK) (by rw [c7 160 (by decide) (by decide)]; exact ew) (c7 161 (by decide) (by decide)) k2 k3 (fun h => by rw [W13]; exact k10 h) ?_ I.toNatClampNeg (hcnt 1) ?_ ?_ ?_ ?_
          · rw [(Wfl 1).1, (Wfl 1).2]
            refine ROW _ ?_ ?_ (c7 159 (by decide) (by decide)) (c7 161 (by decide) (by decide))
            · rw [u_j (by decide), u_j (by decide), ht4 146 53 (by decide) (by omega)]; exact f3 146 53 (by omega)
            · funext j; rw [u_c (by decide), u_c (by decide), ht4 171 j (by decide) (by omega), q3 171 (by decide)]
          · intro st nm hs t7 h7 n7
            rw [W13] at n7
            rw [W13, W155] at hs
            refine fin192 t7 ?_ ?_ (hL 1 st nm (Or.inr ⟨g, rfl, hs⟩) t7 (ls_trans (T5ls 1) h7) n7)
            · rw [n7 146 17 (by decide) (by decide : ¬ (8 : Nat) = 0)]
              unfold VL V1
              (simp (disch := omega) only [u_hit, u_c, u_j])
            · rw [n7 146 28 (by decide) (by decide : ¬ (8 : Nat) = 0)]
              unfold VL V1
              (simp (disch := omega) only [u_hit, u_c, u_j])
          · intro gk t7 h7 n7
            refine fin192 t7 ?_ ?_ (hR g gk t7 (ls_trans (T5ls 1) h7) n7)
            · rw [n7 146 17 (by decide) (by decide : ¬ (8 : Nat) = 0)]
              unfold VR V1
              (simp (disch := omega) only [u_hit, u_c, u_j])
            · rw [n7 146 28 (by decide) (by decide : ¬ (8 : Nat) = 0)]
              unfold VR V1
              (simp (disch := omega) only [u_hit, u_c, u_j])
          · intro gk hc
            rw [(Wfl 1).1] at hc
            exact fin192 _ (by rw [u_j (by decide), u_j (by decide)]; exact r17) (by rw [u_j (by decide), u_hit]) (hN g gk hc _ (T5ls 1) (T5mo 1))
          · intro gk hc t7 h7 n7
            rw [(Wfl 1).1] at hc
            rw [W13, (Wfl 1).1, (Wfl 1).2] at n7
            refine fin192 t7 ?_ ?_ (hA g gk hc t7 (ls_trans (T5ls 1) h7) n7)
            · rw [n7.2.2.2.2 146 17 (by decide) (by decide : ¬ (8 : Nat) = 0) (by omega) (by omega) (by omega) (by omega)]
              unfold V1
              (simp (disch := omega) only [u_hit, u_c, u_j])
            · rw [n7.2.2.2.2 146 28 (by decide) (by decide : ¬ (8 : Nat) = 0) (by omega) (by omega) (by omega) (by omega)]
              unfold V1
              (simp (disch := omega) only [u_hit, u_c, u_j])
    refine t2_M_vote_61 (d := d + 5) I _ ?_ ?_ ?_
    · intro hq g
      have up13 : u1 146 13 = s 146 13 := mo_13 m1
      rw [up13] at g
      refine REST hq u1 m1 l1 ?_
      intro h6
      exact absurd (k10 (fun e => h6 (by rw [e]; decide))) (by rw [g]; decide)
    · intro hq g
      have up13 : u1 146 13 = s 146 13 := mo_13 m1
      rw [up13] at g
      have hu : 0 ≤ (s 146 13).toInt := by clear REST k11 k9 k10 k8 hI eY eN eP hL hR hA hN h0 h23 hmo m1 l1 hu1 P8; ((try simp only [i_lt, i_le, i_eq, i_in, i_cn, Int32.toInt_add, Int32.toInt_sub, Int32.toInt_mul, Int32.toInt_neg, Int32.reduceToInt, Int.bmod_add_bmod, Int.add_bmod_bmod, Int.bmod_sub_bmod, Int.sub_bmod_bmod, Int.bmod_mul_bmod, Int.mul_bmod_bmod, Int.bmod_neg_bmod, Nat.reducePow, Int.reduceBmod, Int.reduceNeg, Int.reduceMul, Int.reduceAdd, Int.reduceSub, not_true_eq_false, not_false_eq_true] at *) <;> (try simp (disch := omega) only [i_bm'] at *) <;> omega)
      refine sp_M_look (d := d + 4) (J_mo (J_I hI) m1) (by rw [up13]; exact hu) ?_
      intro u2 a1 a2 a3 a4
      rw [(fl_mo m1).1] at a1 a2
      rw [(fl_mo m1).2] at a2
      rw [up13, m1 153 _ (by decide) (by decide : ¬ (2 : Nat) = 0)] at a3
      refine t2_M_vote_83 (d := d + 5) I ?_
      refine REST hq u2 (mo_trans m1 (mo_0 (fo_takes a4))) ?_ (fun _ => ⟨a1, a2, a3⟩)
      exact ls_trans l1 (fun c hc => funext fun j => a4 c j (by omega) (by omega))
    · intro hq; exact h23 hq u1 l1 m1
  · intros; rw [u18]; clear h21 h22 h23 h0 hL hR hN hA hI kp eY eN eP hmo eK eM ep ew eI; rw [u18] at *; clear u18; ((try simp only [i_lt, i_le, i_eq, i_in, i_cn, Int32.toInt_add, Int32.toInt_sub, Int32.toInt_mul, Int32.toInt_neg, Int32.reduceToInt, Int.bmod_add_bmod, Int.add_bmod_bmod, Int.bmod_sub_bmod, Int.sub_bmod_bmod, Int.bmod_mul_bmod, Int.mul_bmod_bmod, Int.bmod_neg_bmod, Nat.reducePow, Int.reduceBmod, Int.reduceNeg, Int.reduceMul, Int.reduceAdd, Int.reduceSub, not_true_eq_false, not_false_eq_true] at *) <;> (try simp (disch := omega) only [i_bm'] at *) <;> omega)
  · intros; rw [u18]; clear h21 h22 h23 h0 hL hR hN hA hI kp eY eN eP hmo eK eM ep ew eI; rw [u18] at *; clear u18; ((try simp only [i_lt, i_le, i_eq, i_in, i_cn, Int32.toInt_add, Int32.toInt_sub, Int32.toInt_mul, Int32.toInt_neg, Int32.reduceToInt, Int.bmod_add_bmod, Int.add_bmod_bmod, Int.bmod_sub_bmod, Int.sub_bmod_bmod, Int.bmod_mul_bmod, Int.mul_bmod_bmod, Int.bmod_neg_bmod, Nat.reducePow, Int.reduceBmod, Int.reduceNeg, Int.reduceMul, Int.reduceAdd, Int.reduceSub, not_true_eq_false, not_false_eq_true] at *) <;> (try simp (disch := omega) only [i_bm'] at *) <;> omega)
  · intro g1 g2
    rw [u18] at g1 ⊢
    rw [eI]
    have hi : 0 ≤ I.toInt := by rw [← eI]; clear h21 h22 h23 h0 hL hR hN hA hI kp eY eN eP eK eM ep ew eI hmo; ((try simp only [i_lt, i_le, i_eq, i_in, i_cn, Int32.toInt_add, Int32.toInt_sub, Int32.toInt_mul, Int32.toInt_neg, Int32.reduceToInt, Int.bmod_add_bmod, Int.add_bmod_bmod, Int.bmod_sub_bmod, Int.sub_bmod_bmod, Int.bmod_mul_bmod, Int.mul_bmod_bmod, Int.bmod_neg_bmod, Nat.reducePow, Int.reduceBmod, Int.reduceNeg, Int.reduceMul, Int.reduceAdd, Int.reduceSub, not_true_eq_false, not_false_eq_true] at *) <;> (try simp (disch := omega) only [i_bm'] at *) <;> omega)
    have hi1 : I.toInt < (s 146 18).toInt := by rw [← eI]; clear h21 h22 h23 h0 hL hR hN hA hI kp eY eN eP eK eM ep ew eI hmo; ((try simp only [i_lt, i_le, i_eq, i_in, i_cn, Int32.toInt_add, Int32.toInt_sub, Int32.toInt_mul, Int32.toInt_neg, Int32.reduceToInt, Int.bmod_add_bmod, Int.add_bmod_bmod, Int.bmod_sub_bmod, Int.sub_bmod_bmod, Int.bmod_mul_bmod, Int.mul_bmod_bmod, Int.bmod_neg_bmod, Nat.reducePow, Int.reduceBmod, Int.reduceNeg, Int.reduceMul, Int.reduceAdd, Int.reduceSub, not_true_eq_false, not_false_eq_true] at *) <;> (try simp (disch := omega) only [i_bm'] at *) <;> omega)
    have hI8 : I.toNatClampNeg < 8 := by rw [i_cn]; omega
    obtain ⟨_, _, _, _, k5, k6, _⟩ := kp hi hi1
    rw [hmo 158 _ (by decide) (by rw [g_4 (by decide) (by decide) hI8]; decide), i_in]
    exact ⟨k5, by omega⟩
  · intro g1 g2
    rw [u18] at g1
    rw [u17] at g2
    refine h22 ?_ ?_ <;> (clear h21 h22 h23 h0 hL hR hN hA hI kp eY eN eP hmo eK eM ep ew eI; ((try simp only [i_lt, i_le, i_eq, i_in, i_cn, Int32.toInt_add, Int32.toInt_sub, Int32.toInt_mul, Int32.toInt_neg, Int32.reduceToInt, Int.bmod_add_bmod, Int.add_bmod_bmod, Int.bmod_sub_bmod, Int.sub_bmod_bmod, Int.bmod_mul_bmod, Int.mul_bmod_bmod, Int.bmod_neg_bmod, Nat.reducePow, Int.reduceBmod, Int.reduceNeg, Int.reduceMul, Int.reduceAdd, Int.reduceSub, not_true_eq_false, not_false_eq_true] at *) <;> (try simp (disch := omega) only [i_bm'] at *) <;> omega))
  · intro g1
    rw [u18] at g1
    refine h21 ?_
    clear h21 h22 h23 h0 hL hR hN hA hI kp eY eN eP hmo eK eM ep ew eI
    ((try simp only [i_lt, i_le, i_eq, i_in, i_cn, Int32.toInt_add, Int32.toInt_sub, Int32.toInt_mul, Int32.toInt_neg, Int32.reduceToInt, Int.bmod_add_bmod, Int.add_bmod_bmod, Int.bmod_sub_bmod, Int.sub_bmod_bmod, Int.bmod_mul_bmod, Int.mul_bmod_bmod, Int.bmod_neg_bmod, Nat.reducePow, Int.reduceBmod, Int.reduceNeg, Int.reduceMul, Int.reduceAdd, Int.reduceSub, not_true_eq_false, not_false_eq_true] at *) <;> (try simp (disch := omega) only [i_bm'] at *) <;> omega)
