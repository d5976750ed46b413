/-! the floor, and the votes counted -/
def fl_n (s : jg_H) : Nat := if 0 ≤ (s 146 13).toInt then (s 153 (s 146 13).toNatClampNeg).toInt.toNat else 0
def fl_R (s : jg_H) (j : Nat) : Int32 := s 154 (10 * (s 146 13).toNatClampNeg + j)
theorem fl_b {s : jg_H} (hI : Inv s) : fl_n s ≤ 10 ∧ ∀ j, j < fl_n s → 1 ≤ (fl_R s j).toInt ∧ (fl_R s j).toInt ≤ 60 := by
  have d8 := hI.2.2.1.2.2.2.2.2.2.2.1
  have c3 := hI.2.1.2.2.1
  unfold fl_n fl_R
  by_cases h : 0 ≤ (s 146 13).toInt
  · rw [if_pos h]
    obtain ⟨k1, k2⟩ := (key_bil hI.2.1 (s 146 13) h d8).2.2.2.2.2.2.2
    refine ⟨by omega, fun j hj => ?_⟩
    exact (hI.2.1.2.2.2.2 (s 146 13).toNatClampNeg j (by rw [i_cn]; omega) (by omega)).2
  · rw [if_neg h]
    exact ⟨by omega, fun j hj => absurd hj (Nat.not_lt_zero j)⟩
theorem fl_mo {s t : jg_H} (h : f_mo s t) : fl_n t = fl_n s ∧ fl_R t = fl_R s := by
  have e2 : t 146 13 = s 146 13 := h 146 13 (by decide) (by decide : ¬ (3 : Nat) = 0)
  have e3 : t 153 = s 153 := funext fun j => h 153 j (by decide) (by decide : ¬ (2 : Nat) = 0)
  have e4 : t 154 = s 154 := funext fun j => h 154 j (by decide) (by decide : ¬ (2 : Nat) = 0)
  constructor
  · unfold fl_n; rw [e2, e3]
  · funext j; unfold fl_R; rw [e2, e4]
/-- a cell that is the floor's row -/
def fl_c (s : jg_H) (c : Nat) : Prop := f_8 c ∧ (s c 0).toInt = fl_n s ∧ (∀ j, j < fl_n s → s (c + 1) j = fl_R s j) ∧ 32 < c ∧ c < 59 ∧ (0 ≤ (s 146 13).toInt → c = 33 + 3 * (s 146 13).toNatClampNeg + 1)
set_option maxRecDepth 20000 in
theorem sp_C_floor {G : jv_X} {d : Nat} {B : Option Value → jg_H → Prop} {s : jg_H} (hI : Inv s) (hB : ∀ c, fl_c s c → B (some (.ref c)) s) : q_P G (d + 2) 84 [.ref 0] s B := by
  have c1 := hI.2.1.1
  have c3 := hI.2.1.2.2.1
  have d6 := hI.2.2.1.2.2.2.2.2.1
  have d7 := hI.2.2.1.2.2.2.2.2.2.1
  have d8 := hI.2.2.1.2.2.2.2.2.2.2.1
  have h58 := hI.2.2.2.2.2.2.2.2.2.1
  have kb := key_bil hI.2.1 (s 146 13)
  have kw := hI.2.1.2.2.2.2 (s 146 13).toNatClampNeg
  refine t_C_floor (d := d) ?_ ?_ ?_ ?_
  · intro g
    have g' : ¬ 0 ≤ (s 146 13).toInt := by clear hB hI kb kw; ((try simp only [i_lt, i_le, i_eq, i_in, i_cn, Int32.toInt_add, Int32.toInt_sub, Int32.toInt_mul, Int32.toInt_neg, Int32.reduceToInt, Int.bmod_add_bmod, Int.add_bmod_bmod, Int.bmod_sub_bmod, Int.sub_bmod_bmod, Int.bmod_mul_bmod, Int.mul_bmod_bmod, Int.bmod_neg_bmod, Nat.reducePow, Int.reduceBmod, Int.reduceNeg, Int.reduceMul, Int.reduceAdd, Int.reduceSub, not_true_eq_false, not_false_eq_true] at *) <;> (try simp (disch := omega) only [i_bm'] at *) <;> omega)
    refine hB 58 ⟨f_58, ?_, ?_, by decide, by decide, fun h => absurd h g'⟩
    · unfold fl_n; rw [if_neg g', h58]; rfl
    · unfold fl_n; rw [if_neg g']; intro j hj; exact absurd hj (Nat.not_lt_zero j)
  · intro _ g; exfalso; clear hB hI kb kw; ((try simp only [i_lt, i_le, i_eq, i_in, i_cn, Int32.toInt_add, Int32.toInt_sub, Int32.toInt_mul, Int32.toInt_neg, Int32.reduceToInt, Int.bmod_add_bmod, Int.add_bmod_bmod, Int.bmod_sub_bmod, Int.sub_bmod_bmod, Int.bmod_mul_bmod, Int.mul_bmod_bmod, Int.bmod_neg_bmod, Nat.reducePow, Int.reduceBmod, Int.reduceNeg, Int.reduceMul, Int.reduceAdd, Int.reduceSub, not_true_eq_false, not_false_eq_true] at *) <;> (try simp (disch := omega) only [i_bm'] at *) <;> omega)
  · intro _ _ g; exfalso; clear hB hI kb kw; ((try simp only [i_lt, i_le, i_eq, i_in, i_cn, Int32.toInt_add, Int32.toInt_sub, Int32.toInt_mul, Int32.toInt_neg, Int32.reduceToInt, Int.bmod_add_bmod, Int.add_bmod_bmod, Int.bmod_sub_bmod, Int.sub_bmod_bmod, Int.bmod_mul_bmod, Int.mul_bmod_bmod, Int.bmod_neg_bmod, Nat.reducePow, Int.reduceBmod, Int.reduceNeg, Int.reduceMul, Int.reduceAdd, Int.reduceSub, not_true_eq_false, not_false_eq_true] at *) <;> (try simp (disch := omega) only [i_bm'] at *) <;> omega)
  · intro g1 g2 g3
    have g' : 0 ≤ (s 146 13).toInt := by clear hB hI kb kw; ((try simp only [i_lt, i_le, i_eq, i_in, i_cn, Int32.toInt_add, Int32.toInt_sub, Int32.toInt_mul, Int32.toInt_neg, Int32.reduceToInt, Int.bmod_add_bmod, Int.add_bmod_bmod, Int.bmod_sub_bmod, Int.sub_bmod_bmod, Int.bmod_mul_bmod, Int.mul_bmod_bmod, Int.bmod_neg_bmod, Nat.reducePow, Int.reduceBmod, Int.reduceNeg, Int.reduceMul, Int.reduceAdd, Int.reduceSub, not_true_eq_false, not_false_eq_true] at *) <;> (try simp (disch := omega) only [i_bm'] at *) <;> omega)
    obtain ⟨k1, k2⟩ := (kb g' d8).2.2.2.2.2.2
    have hU : (s 146 13).toNatClampNeg < 8 := by rw [i_cn]; omega
    rw [d6]
    refine hB _ ⟨f_1_s2 (f_m32 hU), ?_, ?_, by omega, by omega, fun _ => rfl⟩
    · rw [k1]; unfold fl_n; rw [if_pos g']; omega
    · intro j hj
      unfold fl_n at hj
      rw [if_pos g'] at hj
      exact (kw j hU (by omega)).1
set_option maxRecDepth 20000 in
theorem lp_C_tally {G : jv_X} {d : Nat} {B : Option Value → jg_H → Prop} {s : jg_H} (hm : I_mem s) {c1 : Nat} (hc1 : f_0 c1) (hc1g : ∀ j, ¬ g_of c1 j = 1) (hc14 : c1 < 146) {c2 : Nat} (hc2 : f_8 c2) (h12 : ¬ c2 = c1) (h12' : ¬ c2 + 1 = c1) {c3 L : Nat} (hc3 : f_6 c3 L) (h13 : ∀ x, x < 5 → ¬ c3 + x = c1) (i pl : Int32) (hi : 0 ≤ i.toInt) (hi1 : i.toInt < (s c3 0).toInt) (hi2 : i.toInt < (s c3 1).toInt) (hiL : i.toInt < L) (n : Nat) (hn : (s c2 0).toInt = n) (h10 : n ≤ 10) (R : Nat → Int32) (hR : ∀ j, j < n → s (c2 + 1) j = R j) (hRb : ∀ j, j < n → 1 ≤ (R j).toInt ∧ (R j).toInt ≤ 60) (k wd mv : Int32) (ek : s (c3 + 1) i.toNatClampNeg = k) (ew : s (c3 + 4) i.toNatClampNeg = wd) (em : s (c3 + 2) i.toNatClampNeg = mv) (hk0 : 0 ≤ k.toInt) (hk6 : k.toInt ≤ 6) (hw : k.toInt = 2 ∨ k.toInt = 3 → 1 ≤ wd.toInt ∧ wd.toInt ≤ 60) (hmv : k.toInt = 6 → 0 ≤ mv.toInt ∧ mv.toInt < (s 146 0).toInt) (N : Nat) (hN : (s 146 0).toInt = N) (hB : ∀ t : jg_H, (∀ c j, ¬ (c = c1 ∧ (j = 0 ∨ j = 1)) → t c j = s c j) → t c1 0 = f_ct (fun A => x_vt s A n R k pl wd mv) 1 N → t c1 1 = f_ct (fun A => x_vt s A n R k pl wd mv) 2 N → B none t) : ∀ (m q : Nat) (x6 : Int32) (o7 : Option Value) (t : jg_H), q + m = N → x6.toInt = q → f_n o7 = true → (∀ c j, ¬ (c = c1 ∧ (j = 0 ∨ j = 1)) → t c j = s c j) → t c1 0 = f_ct (fun A => x_vt s A n R k pl wd mv) 1 q → t c1 1 = f_ct (fun A => x_vt s A n R k pl wd mv) 2 q → q_W G (d + 4) jm_C_tally B 37 [some (.ref 0), some (.ref c1), some (.ref c2), some (.ref c3), some (.int i), some (.int pl), some (.int x6), o7] [] t := by
  have m0 := hm.1
  have m15 := hm.2.2.1
  intro m
  induction m with
  | zero =>
    intro q x6 o7 t h1 h2 h3 hf hy hn'
    have e01 : t 0 1 = s 0 1 := hf 0 1 (fun e => h13 0 (by decide) (by have := hc1; have := e.1; subst this; exact absurd (hc1g 1) (fun h => h rfl)))
    refine t_C_tally_37 (d := d + 3) hc1 hc2 hc3 i pl x6 h3 ?_ ?_ ?_ ?_
    · intro _
      have e : q = N := by omega
      subst e
      exact hB t hf hy hn'
    · intro g; exfalso; rw [e01, m0] at g; clear hB hm hf hR hRb ek ew em hw hmv hy hn' hc1g h13 e01 m0; ((try simp only [i_lt, i_le, i_eq, i_in, i_cn, Int32.toInt_add, Int32.toInt_sub, Int32.toInt_mul, Int32.toInt_neg, Int32.reduceToInt, Int.bmod_add_bmod, Int.add_bmod_bmod, Int.bmod_sub_bmod, Int.sub_bmod_bmod, Int.bmod_mul_bmod, Int.mul_bmod_bmod, Int.bmod_neg_bmod, Nat.reducePow, Int.reduceBmod, Int.reduceNeg, Int.reduceMul, Int.reduceAdd, Int.reduceSub, not_true_eq_false, not_false_eq_true] at *) <;> (try simp (disch := omega) only [i_bm'] at *) <;> omega)
    · intro g; exfalso; rw [e01, m0] at g; clear hB hm hf hR hRb ek ew em hw hmv hy hn' hc1g h13 e01 m0; ((try simp only [i_lt, i_le, i_eq, i_in, i_cn, Int32.toInt_add, Int32.toInt_sub, Int32.toInt_mul, Int32.toInt_neg, Int32.reduceToInt, Int.bmod_add_bmod, Int.add_bmod_bmod, Int.bmod_sub_bmod, Int.sub_bmod_bmod, Int.bmod_mul_bmod, Int.mul_bmod_bmod, Int.bmod_neg_bmod, Nat.reducePow, Int.reduceBmod, Int.reduceNeg, Int.reduceMul, Int.reduceAdd, Int.reduceSub, not_true_eq_false, not_false_eq_true] at *) <;> (try simp (disch := omega) only [i_bm'] at *) <;> omega)
    · intro g; exfalso; rw [e01, m0] at g; clear hB hm hf hR hRb ek ew em hw hmv hy hn' hc1g h13 e01 m0; ((try simp only [i_lt, i_le, i_eq, i_in, i_cn, Int32.toInt_add, Int32.toInt_sub, Int32.toInt_mul, Int32.toInt_neg, Int32.reduceToInt, Int.bmod_add_bmod, Int.add_bmod_bmod, Int.bmod_sub_bmod, Int.sub_bmod_bmod, Int.bmod_mul_bmod, Int.mul_bmod_bmod, Int.bmod_neg_bmod, Nat.reducePow, Int.reduceBmod, Int.reduceNeg, Int.reduceMul, Int.reduceAdd, Int.reduceSub, not_true_eq_false, not_false_eq_true] at *) <;> (try simp (disch := omega) only [i_bm'] at *) <;> omega)
  | succ m ih =>
    intro q x6 o7 t h1 h2 h3 hf hy hn'
    have e01 : t 0 1 = s 0 1 := hf 0 1 (fun e => h13 0 (by decide) (by have := hc1; have := e.1; subst this; exact absurd (hc1g 1) (fun h => h rfl)))
    have hq : x6.toNatClampNeg = q := by rw [i_cn]; omega
    have h5 : (x6 + 1).toInt = ((q + 1 : Nat) : Int) := by clear hB hm hf hR hRb ek ew em hw hmv hy hn' hc1g h13 e01 m0 ih hq; ((try simp only [i_lt, i_le, i_eq, i_in, i_cn, Int32.toInt_add, Int32.toInt_sub, Int32.toInt_mul, Int32.toInt_neg, Int32.reduceToInt, Int.bmod_add_bmod, Int.add_bmod_bmod, Int.bmod_sub_bmod, Int.sub_bmod_bmod, Int.bmod_mul_bmod, Int.mul_bmod_bmod, Int.bmod_neg_bmod, Nat.reducePow, Int.reduceBmod, Int.reduceNeg, Int.reduceMul, Int.reduceAdd, Int.reduceSub, not_true_eq_false, not_false_eq_true] at *) <;> (try simp (disch := omega) only [i_bm'] at *) <;> omega)
    have hmt : I_mem t := fr_mem (fun c j hg => hf c j (fun e => hc1g j (by rw [← e.1]; exact hg))) hm
    have t1460 : t 146 0 = s 146 0 := hf 146 0 (fun e => by have := e.1; omega)
    have vt : x_vt t = x_vt s := x_vt_s fun c hc hc' => funext fun j => hf c j (fun e => by have := e.1; omega)
    refine t_C_tally_37 (d := d + 3) hc1 hc2 hc3 i pl x6 h3 ?_ ?_ ?_ ?_
    · intro g; exfalso; rw [e01, m0] at g; clear hB hm hf hR hRb ek ew em hw hmv hy hn' hc1g h13 e01 m0 ih hmt vt; ((try simp only [i_lt, i_le, i_eq, i_in, i_cn, Int32.toInt_add, Int32.toInt_sub, Int32.toInt_mul, Int32.toInt_neg, Int32.reduceToInt, Int.bmod_add_bmod, Int.add_bmod_bmod, Int.bmod_sub_bmod, Int.sub_bmod_bmod, Int.bmod_mul_bmod, Int.mul_bmod_bmod, Int.bmod_neg_bmod, Nat.reducePow, Int.reduceBmod, Int.reduceNeg, Int.reduceMul, Int.reduceAdd, Int.reduceSub, not_true_eq_false, not_false_eq_true] at *) <;> (try simp (disch := omega) only [i_bm'] at *) <;> omega)
    · intro _ g; exfalso; clear hB hm hf hR hRb ek ew em hw hmv hy hn' hc1g h13 e01 m0 ih hmt vt; ((try simp only [i_lt, i_le, i_eq, i_in, i_cn, Int32.toInt_add, Int32.toInt_sub, Int32.toInt_mul, Int32.toInt_neg, Int32.reduceToInt, Int.bmod_add_bmod, Int.add_bmod_bmod, Int.bmod_sub_bmod, Int.sub_bmod_bmod, Int.bmod_mul_bmod, Int.mul_bmod_bmod, Int.bmod_neg_bmod, Nat.reducePow, Int.reduceBmod, Int.reduceNeg, Int.reduceMul, Int.reduceAdd, Int.reduceSub, not_true_eq_false, not_false_eq_true] at *) <;> (try simp (disch := omega) only [i_bm'] at *) <;> omega)
    · intros; clear hB hm hf hR hRb ek ew em hw hmv hy hn' hc1g h13 e01 m0 ih hmt vt; ((try simp only [i_lt, i_le, i_eq, i_in, i_cn, Int32.toInt_add, Int32.toInt_sub, Int32.toInt_mul, Int32.toInt_neg, Int32.reduceToInt, Int.bmod_add_bmod, Int.add_bmod_bmod, Int.bmod_sub_bmod, Int.sub_bmod_bmod, Int.bmod_mul_bmod, Int.mul_bmod_bmod, Int.bmod_neg_bmod, Nat.reducePow, Int.reduceBmod, Int.reduceNeg, Int.reduceMul, Int.reduceAdd, Int.reduceSub, not_true_eq_false, not_false_eq_true] at *) <;> (try simp (disch := omega) only [i_bm'] at *) <;> omega)
    · intro _ _
      rw [hq]
      have f2 : ∀ j, t c2 j = s c2 j := fun j => hf c2 j (fun e => h12 e.1)
      have f3 : ∀ j, t (c2 + 1) j = s (c2 + 1) j := fun j => hf _ j (fun e => h12' e.1)
      have f4 : ∀ x, x < 5 → ∀ j, t (c3 + x) j = s (c3 + x) j := fun x hx j => hf _ j (fun e => h13 x hx e.1)
      have g30 : ∀ j, t c3 j = s c3 j := f4 0 (by decide)
      refine sp_C_choice (d := d) hmt (A := q) (by omega) (by rw [t1460]; omega) hc2 hc3 i pl hi (by rw [g30]; exact hi1) (by rw [g30]; exact hi2) hiL n (by rw [f2]; exact hn) h10 R (fun j hj => by rw [f3]; exact hR j hj) hRb k wd mv (by rw [f4 1 (by decide)]; exact ek) (by rw [f4 4 (by decide)]; exact ew) (by rw [f4 2 (by decide)]; exact em) hk0 hk6 hw (fun h => by rw [t1460]; exact hmv h) ?_
      rw [vt]
      have st1 : ∀ v : Int32, f_ct (fun A => x_vt s A n R k pl wd mv) v (q + 1) = f_ct (fun A => x_vt s A n R k pl wd mv) v q + (if x_vt s q n R k pl wd mv = v then 1 else 0) := fun _ => rfl
      generalize hV : x_vt s q n R k pl wd mv = V at *
      refine t_C_tally_73 (d := d + 3) hc1 hc2 hc3 i pl x6 h3 V ?_ ?_ ?_
      · intro ga gb
        refine ih (q + 1) _ _ t (by omega) h5 rfl hf ?_ ?_
        · rw [st1, if_neg ga, hy]; exact (Int32.add_zero _).symm
        · rw [st1, if_neg gb, hn']; exact (Int32.add_zero _).symm
      · intro ga gb s1 e1
        subst e1
        refine ih (q + 1) _ _ _ (by omega) h5 rfl (fun c j hcj => (u_r (fun e e' => hcj ⟨e, Or.inr e'⟩)).trans (hf c j hcj)) ?_ ?_
        · rw [st1, if_neg ga, u_j (by decide), hy]; exact (Int32.add_zero _).symm
        · rw [st1, if_pos gb, u_hit, hn']
      · intro ga s1 e1
        subst e1
        have gb : ¬ V = 2 := by rw [ga]; decide
        refine ih (q + 1) _ _ _ (by omega) h5 rfl (fun c j hcj => (u_r (fun e e' => hcj ⟨e, Or.inl e'⟩)).trans (hf c j hcj)) ?_ ?_
        · rw [st1, if_pos ga, u_hit, hy]
        · rw [st1, if_neg gb, u_j (by decide), hn']; exact (Int32.add_zero _).symm
set_option maxRecDepth 20000 in
theorem sp_C_tally {G : jv_X} {d : Nat} {B : Option Value → jg_H → Prop} {s : jg_H} (hm : I_mem s) {c1 : Nat} (hc1 : f_0 c1) (hc1g : ∀ j, ¬ g_of c1 j = 1) (hc14 : c1 < 146) {c2 : Nat} (hc2 : f_8 c2) (h12 : ¬ c2 = c1) (h12' : ¬ c2 + 1 = c1) {c3 L : Nat} (hc3 : f_6 c3 L) (h13 : ∀ x, x < 5 → ¬ c3 + x = c1) (i pl : Int32) (hi : 0 ≤ i.toInt) (hi1 : i.toInt < (s c3 0).toInt) (hi2 : i.toInt < (s c3 1).toInt) (hiL : i.toInt < L) (n : Nat) (hn : (s c2 0).toInt = n) (h10 : n ≤ 10) (R : Nat → Int32) (hR : ∀ j, j < n → s (c2 + 1) j = R j) (hRb : ∀ j, j < n → 1 ≤ (R j).toInt ∧ (R j).toInt ≤ 60) (k wd mv : Int32) (ek : s (c3 + 1) i.toNatClampNeg = k) (ew : s (c3 + 4) i.toNatClampNeg = wd) (em : s (c3 + 2) i.toNatClampNeg = mv) (hk0 : 0 ≤ k.toInt) (hk6 : k.toInt ≤ 6) (hw : k.toInt = 2 ∨ k.toInt = 3 → 1 ≤ wd.toInt ∧ wd.toInt ≤ 60) (hmv : k.toInt = 6 → 0 ≤ mv.toInt ∧ mv.toInt < (s 146 0).toInt) (N : Nat) (hN : (s 146 0).toInt = N) (hB : ∀ t : jg_H, (∀ c j, ¬ (c = c1 ∧ (j = 0 ∨ j = 1 ∨ j = 2)) → t c j = s c j) → t c1 0 = f_ct (fun A => x_vt s A n R k pl wd mv) 1 N → t c1 1 = f_ct (fun A => x_vt s A n R k pl wd mv) 2 N → t c1 2 = k → B none t) : q_P G (d + 5) 93 [.ref 0, .ref c1, .ref c2, .ref c3, .int i, .int pl] s B := by
  have g3 : ∀ x, x < 5 → ∀ (u : jg_H), (∀ c j, ¬ (c = c1 ∧ (j = 0 ∨ j = 1 ∨ j = 2)) → u c j = s c j) → ∀ j, u (c3 + x) j = s (c3 + x) j := fun x hx u hu j => hu _ j (fun e => h13 x hx e.1)
  have F2 : ∀ v : Int32, ∀ c j, ¬ (c = c1 ∧ (j = 0 ∨ j = 1 ∨ j = 2)) → jg_up (jg_up (jg_up s c1 0 0) c1 1 0) c1 2 v c j = s c j := fun v c j h => by
    rw [u_r (fun e e' => h ⟨e, Or.inr (Or.inr e')⟩), u_r (fun e e' => h ⟨e, Or.inr (Or.inl e')⟩), u_r (fun e e' => h ⟨e, Or.inl e'⟩)]
  have F1 : ∀ c j, ¬ (c = c1 ∧ (j = 0 ∨ j = 1 ∨ j = 2)) → jg_up (jg_up s c1 0 0) c1 1 0 c j = s c j := fun c j h => by
    rw [u_r (fun e e' => h ⟨e, Or.inr (Or.inl e')⟩), u_r (fun e e' => h ⟨e, Or.inl e'⟩)]
  have a0 : jg_up (jg_up s c1 0 0) c1 1 0 c3 0 = s c3 0 := g3 0 (by decide) _ F1 0
  have a1 : jg_up (jg_up s c1 0 0) c1 1 0 c3 1 = s c3 1 := g3 0 (by decide) _ F1 1
  refine t_C_tally (d := d + 3) hc1 hc2 hc3 i pl ?_ ?_ ?_ ?_ ?_
  · intro _ _ _ _ g; exfalso; rw [i_lt] at g; have : (0 : Int32).toInt = 0 := rfl; omega
  · intro s1 e1 s2 e2 _ g; subst e1; subst e2; exfalso; rw [a0, i_lt] at g; omega
  · intro s1 e1 s2 e2 _ _ g; subst e1; subst e2; exfalso; rw [a1, i_lt] at g; omega
  · intros; rw [i_in]; exact ⟨hi, by omega⟩
  · intro s1 e1 s2 e2 _ _ _ s6 e6
    subst e1; subst e2
    rw [g3 1 (by decide) _ F1, ek] at e6
    subst e6
    have hmt : I_mem (jg_up (jg_up (jg_up s c1 0 0) c1 1 0) c1 2 k) := fr_mem (fun c j hg => F2 k c j (fun e => hc1g j (by rw [← e.1]; exact hg))) hm
    have vt : x_vt (jg_up (jg_up (jg_up s c1 0 0) c1 1 0) c1 2 k) = x_vt s := x_vt_s fun c hc hc' => funext fun j => F2 k c j (fun e => by have := e.1; omega)
    have t1460 : jg_up (jg_up (jg_up s c1 0 0) c1 1 0) c1 2 k 146 0 = s 146 0 := F2 k 146 0 (fun e => by have := e.1; omega)
    have f2 : ∀ j, jg_up (jg_up (jg_up s c1 0 0) c1 1 0) c1 2 k c2 j = s c2 j := fun j => F2 k c2 j (fun e => h12 e.1)
    have f3 : ∀ j, jg_up (jg_up (jg_up s c1 0 0) c1 1 0) c1 2 k (c2 + 1) j = s (c2 + 1) j := fun j => F2 k _ j (fun e => h12' e.1)
    have b0 : jg_up (jg_up (jg_up s c1 0 0) c1 1 0) c1 2 k c3 0 = s c3 0 := g3 0 (by decide) _ (F2 k) 0
    have b1 : jg_up (jg_up (jg_up s c1 0 0) c1 1 0) c1 2 k c3 1 = s c3 1 := g3 0 (by decide) _ (F2 k) 1
    have y0 : jg_up (jg_up (jg_up s c1 0 0) c1 1 0) c1 2 k c1 0 = 0 := by rw [u_j (by decide), u_j (by decide), u_hit]
    have y1 : jg_up (jg_up (jg_up s c1 0 0) c1 1 0) c1 2 k c1 1 = 0 := by rw [u_j (by decide), u_hit]
    have y2 : jg_up (jg_up (jg_up s c1 0 0) c1 1 0) c1 2 k c1 2 = k := by rw [u_hit]
    generalize hS : jg_up (jg_up (jg_up s c1 0 0) c1 1 0) c1 2 k = S at *
    have FS := F2 k
    rw [hS] at FS
    refine lp_C_tally (d := d) hmt hc1 hc1g hc14 hc2 h12 h12' hc3 h13 i pl hi (by rw [b0]; exact hi1) (by rw [b1]; exact hi2) hiL n (by rw [f2]; exact hn) h10 R (fun j hj => by rw [f3]; exact hR j hj) hRb k wd mv (by rw [g3 1 (by decide) _ FS]; exact ek) (by rw [g3 4 (by decide) _ FS]; exact ew) (by rw [g3 2 (by decide) _ FS]; exact em) hk0 hk6 hw (fun h => by rw [t1460]; exact hmv h) N (by rw [t1460]; exact hN) ?_ N 0 0 none S (by omega) (by decide) rfl (fun _ _ _ => rfl) y0 y1
    intro t ht h1 h2
    rw [vt] at h1 h2
    refine hB t (fun c j h => ?_) h1 h2 ?_
    · rw [ht c j (fun e => h ⟨e.1, by rcases e.2 with e | e; exact Or.inl e; exact Or.inr (Or.inl e)⟩)]
      exact FS c j h
    · rw [ht c1 2 (fun e => by rcases e.2 with e | e <;> exact absurd e (by decide))]
      exact y2
/-- the reference looks at the floor, if there is one -/
theorem sp_M_look {G : jv_X} {d : Nat} {B : Option Value → jg_H → Prop} {s : jg_H} (hJ : J s) (hu : 0 ≤ (s 146 13).toInt) (hB : ∀ t : jg_H, (t 146 53).toInt = fl_n s → (∀ i, i < fl_n s → t 171 i = fl_R s i) → t 146 53 = s 153 (s 146 13).toNatClampNeg → (∀ c j, ¬ c = 171 → (c = 146 → ¬ j = 53) → t c j = s c j) → B none t) : q_P G (d + 1) 169 [.ref 146, .int (s 146 13)] s B := by
  obtain ⟨u0, u1, u2, u3⟩ := J_u hJ
  obtain ⟨v0, v1⟩ := J_b hJ (s 146 13) hu u3
  have en : fl_n s = (s 153 (s 146 13).toNatClampNeg).toInt.toNat := by unfold fl_n; rw [if_pos hu]
  refine sp_M_takes (s 146 13) hu (by omega) (fl_n s) (by rw [en]; omega) (by rw [en]; omega) ?_
  intro t h1 h2 h3
  exact hB t (by rw [h1, en]; omega) h2 h1 h3
/-- how a motion of the pile stands, and its row -/
theorem pil_row {s : jg_H} (hI : Inv s) (i : Int32) (h0 : 0 ≤ i.toInt) (h1 : i.toInt < (s 146 18).toInt) (t : jg_H) (ht : ¬ (s 157 i.toNatClampNeg).toInt = 6 → (t 146 53).toInt = fl_n s ∧ (∀ j, j < fl_n s → t 171 j = fl_R s j) ∧ t 146 53 = s 153 (s 146 13).toNatClampNeg) (h59 : t 159 i.toNatClampNeg = s 159 i.toNatClampNeg) (h61 : t 161 i.toNatClampNeg = s 161 i.toNatClampNeg) : ¬ (s 157 i.toNatClampNeg).toInt = 6 → m_row t i.toNatClampNeg (fl_n s) (fl_R s) (s 157 i.toNatClampNeg) (s 63 i.toNatClampNeg) := by
  intro h6
  obtain ⟨e1, e2, e3⟩ := ht h6
  obtain ⟨q1, q2⟩ := fl_b hI
  obtain ⟨k1, k2, k3, k4, k5, k6, k7, k8, k9, k10, k11⟩ := key_pil hI.2.2.2.1 i h0 h1
  refine ⟨e1, q1, e2, q2, ?_⟩
  rw [h59, h61, e3]
  exact k11
