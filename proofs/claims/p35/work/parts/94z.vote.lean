/-! a carried amendment: what both sides have behind it -/
def A_C (V t : jg_H) (U n : Nat) (R : Nat → Int32) (K pl wd : Int32) (cnt : Nat) : Prop :=
  (t (33 + 3 * U + 1) 0).toInt = r_n K n ∧ (∀ j, j < r_n K n → t (33 + 3 * U + 1 + 1) j = r_R K pl.toNatClampNeg wd R j) ∧ (∀ j, j < cnt → t 63 j = s_set K pl (V 63 j)) ∧ t 66 0 = 0
  ∧ (∀ c j, c < 146 → ¬ g_of c j = 0 → ¬ (c = 33 + 3 * U + 1 ∧ j = 0) → ¬ c = 33 + 3 * U + 1 + 1 → ¬ (c = 63 ∧ j < cnt) → ¬ (c = 66 ∧ j = 0) → t c j = V c j)
def A_M (V t : jg_H) (U n : Nat) (R : Nat → Int32) (K pl wd bd : Int32) (cnt : Nat) : Prop :=
  (t 153 U).toInt = r_n K n ∧ (∀ j, j < r_n K n → t 154 (10 * U + j) = r_R K pl.toNatClampNeg wd R j) ∧ (∀ j, j < cnt → t 159 j = s_fol (V 157 j) (V 159 j) (V 161 j) K pl bd) ∧ t 146 19 = 0
  ∧ (∀ c j, 146 ≤ c → ¬ g_of c j = 0 → ¬ (c = 153 ∧ j = U) → ¬ (c = 154 ∧ 10 * U ≤ j ∧ j < 10 * U + 10) → ¬ (c = 159 ∧ j < cnt) → ¬ (c = 146 ∧ j = 19) → t c j = V c j)
theorem r_n10 {K pl : Int32} {n : Nat} (h10 : n ≤ 10) (hc : x_can n K pl) : r_n K n ≤ 10 := by
  unfold r_n
  split
  · rename_i h
    have := (hc.2.1 (by rw [h]; decide)).2
    omega
  · split <;> omega
theorem Inv_amend {V T : jg_H} (hI : Inv V) (hu : 0 ≤ (V 146 13).toInt) (K pl wd yd bd : Int32) (hK : 1 ≤ K.toInt ∧ K.toInt ≤ 3) (hw : K.toInt = 2 ∨ K.toInt = 3 → 1 ≤ wd.toInt ∧ wd.toInt ≤ 60) (hcan : x_can (fl_n V) K pl) (hd : f_pl K pl yd bd (V 153 (V 146 13).toInt.toNat)) (cnt : Nat) (hcnt : (V 146 18).toInt = cnt) (hC : A_C V T (V 146 13).toNatClampNeg (fl_n V) (fl_R V) K pl wd cnt) (hM : A_M V T (V 146 13).toNatClampNeg (fl_n V) (fl_R V) K pl wd bd cnt) : Inv T := by
  obtain ⟨q1, q2⟩ := fl_b hI
  have d8 := hI.2.2.1.2.2.2.2.2.2.2.1
  have c3 := hI.2.1.2.2.1
  have p3 := hI.2.2.2.1.2.2.1
  have hU : (V 146 13).toNatClampNeg < 8 := by rw [i_cn]; omega
  have hUt : (V 146 13).toNatClampNeg = (V 146 13).toInt.toNat := rfl
  have en : (V 153 (V 146 13).toNatClampNeg).toInt = fl_n V := by
    have := (key_bil hI.2.1 (V 146 13) hu d8).2.2.2.2.2.2.2
    unfold fl_n; rw [if_pos hu]; omega
  have hr10 := r_n10 q1 hcan
  have hp : pl.toNatClampNeg ≤ fl_n V := by
    obtain ⟨e0, e1, e2⟩ := hcan
    rw [i_cn]
    by_cases h : K.toInt = 2
    · have := e1 h; omega
    · have := e2 h; omega
  have rb := fun j hj => r_b (n := fl_n V) hp (w := wd) q2 hK hw j hj
  rw [← hUt] at hd
  generalize hUU : (V 146 13).toNatClampNeg = U at *
  generalize hNN : fl_n V = n at *
  generalize hRR : fl_R V = R at *
  obtain ⟨m1, m2, m3, m4, m5⟩ := hC
  obtain ⟨k1, k2, k3, k4, k5⟩ := hM
  have F : ∀ q, ¬ q = 0 → ¬ q = 2 → ¬ q = 4 → ¬ q = 5 → f_same q V T := by
    intro q a0 a2 a4 a5 c j hg
    by_cases hc : c < 146
    · refine m5 c j hc (by rw [hg]; exact a0) ?_ ?_ ?_ ?_
      · rintro ⟨rfl, rfl⟩; rw [g_2 (by omega) (by omega)] at hg; exact a2 hg.symm
      · rintro rfl; rw [g_2 (by omega) (by omega)] at hg; exact a2 hg.symm
      · rintro ⟨rfl, _⟩; exact a4 (hg.symm.trans rfl)
      · rintro ⟨rfl, rfl⟩; exact a5 (hg.symm.trans rfl)
    · refine k5 c j (by omega) (by rw [hg]; exact a0) ?_ ?_ ?_ ?_
      · rintro ⟨rfl, rfl⟩; exact a2 (hg.symm.trans rfl)
      · rintro ⟨rfl, _⟩; exact a2 (hg.symm.trans rfl)
      · rintro ⟨rfl, h⟩; exact a4 (hg.symm.trans (g_4 (by decide) (by decide) (by omega)))
      · rintro ⟨rfl, rfl⟩; exact a5 (hg.symm.trans rfl)
  have nU : ∀ i, i < 8 → ∀ j, T (33 + 3 * i) j = V (33 + 3 * i) j := fun i hi j => m5 _ j (by omega) (by rw [g_2 (by omega) (by omega)]; decide) (by omega) (by omega) (by omega) (by omega)
  have nS : ∀ i, i < 8 → ¬ i = U → ∀ j, T (33 + 3 * i + 1) j = V (33 + 3 * i + 1) j := fun i hi h j => m5 _ j (by omega) (by rw [g_2 (by omega) (by omega)]; decide) (by omega) (by omega) (by omega) (by omega)
  have nW : ∀ i, i < 8 → ¬ i = U → ∀ j, T (33 + 3 * i + 1 + 1) j = V (33 + 3 * i + 1 + 1) j := fun i hi h j => m5 _ j (by omega) (by rw [g_2 (by omega) (by omega)]; decide) (by omega) (by omega) (by omega) (by omega)
  have e152 : T 152 = V 152 := funext fun j => k5 152 j (by decide) (by decide : ¬ (2 : Nat) = 0) (by omega) (by omega) (by omega) (by omega)
  have e155 : T 155 = V 155 := funext fun j => k5 155 j (by decide) (by decide : ¬ (2 : Nat) = 0) (by omega) (by omega) (by omega) (by omega)
  have e153 : ∀ i, ¬ i = U → T 153 i = V 153 i := fun i h => k5 153 i (by decide) (by decide : ¬ (2 : Nat) = 0) (by omega) (by omega) (by omega) (by omega)
  have e146 : ∀ j, ¬ g_of 146 j = 0 → ¬ j = 19 → T 146 j = V 146 j := fun j hg h => k5 146 j (by decide) hg (by omega) (by omega) (by omega) (by omega)
  have e6 := e146 6 (by decide : ¬ (2 : Nat) = 0) (by decide)
  have e13 := e146 13 (by decide : ¬ (3 : Nat) = 0) (by decide)
  have e0 := e146 0 (by decide : ¬ (1 : Nat) = 0) (by decide)
  have e14 := e146 14 (by decide : ¬ (6 : Nat) = 0) (by decide)
  have e18 := e146 18 (by decide : ¬ (4 : Nat) = 0) (by decide)
  have e03 : T 0 3 = V 0 3 := m5 0 3 (by decide) (by decide : ¬ (2 : Nat) = 0) (by omega) (by omega) (by omega) (by omega)
  refine ⟨fr_mem (F 1 (by decide) (by decide) (by decide) (by decide)) hI.1, ?_, fr_cal (F 3 (by decide) (by decide) (by decide) (by decide)) e152 (by rw [e6]; exact Int.le_refl _) hI.2.2.1, ?_, ?_, fr_txt (F 6 (by decide) (by decide) (by decide) (by decide)) hI.2.2.2.2.2.1, fr_tap (F 7 (by decide) (by decide) (by decide) (by decide)) hI.2.2.2.2.2.2.1, fr_mis (F 8 (by decide) (by decide) (by decide) (by decide)) hI.2.2.2.2.2.2.2.1, fr_try (F 10 (by decide) (by decide) (by decide) (by decide)) hI.2.2.2.2.2.2.2.2.1, fr_cst (F 9 (by decide) (by decide) (by decide) (by decide)) hI.2.2.2.2.2.2.2.2.2⟩
  · obtain ⟨a1, a2, a3, a4, a5⟩ := hI.2.1
    refine ⟨by rw [e03, e6]; exact a1, by rw [e6]; exact a2, by rw [e6]; exact a3, ?_, ?_⟩
    · intro i hi
      obtain ⟨b1, b2, b3, b4, b5, b6, b7, b8, b9, b10⟩ := a4 i hi
      rw [nU i hi, nU i hi, e152, e155, e6]
      by_cases e : i = U
      · subst e
        refine ⟨b1, b2, b3, b4, b5, b6, Int32.toInt_inj.mp (by rw [m1, k1]), by rw [k1]; omega, by rw [k1]; omega, b10⟩
      · rw [nS i hi e, e153 i e]
        exact ⟨b1, b2, b3, b4, b5, b6, b7, b8, b9, b10⟩
    · intro i k hi hk
      by_cases e : i = U
      · subst e
        have hk' : k < r_n K n := by rw [k1] at hk; omega
        rw [m2 k hk', k2 k hk']
        exact ⟨rfl, rb k hk'⟩
      · rw [e153 i e] at hk
        have hk10 : (V 153 i).toInt ≤ 10 := (a4 i hi).2.2.2.2.2.2.2.2.1
        rw [nW i hi e, k5 154 (10 * i + k) (by decide) (by decide : ¬ (2 : Nat) = 0) (by omega) (by omega) (by omega) (by omega)]
        exact a5 i k hi hk
  · obtain ⟨a1, a2, a3, a4, a5⟩ := hI.2.2.2.1
    have t60 : ∀ j, T 60 j = V 60 j := fun j => m5 60 j (by decide) (by decide : ¬ (4 : Nat) = 0) (by omega) (by omega) (by omega) (by omega)
    refine ⟨by rw [t60, e18]; exact a1, by rw [e18]; exact a2, by rw [e18]; exact a3, by rw [t60]; exact a4, ?_⟩
    intro i hi
    rw [e18, hcnt] at hi
    have hi' : i < cnt := by omega
    have hi8 : i < 8 := by omega
    obtain ⟨b1, b2, b3, b4, b5, b6, b7, b8, b9, b10, b11⟩ := a5 i (by omega)
    have x6 : ∀ c, c = 61 ∨ c = 62 ∨ c = 64 → T c i = V c i := by
      intro c hc
      refine m5 c i (by omega) ?_ (by omega) (by omega) (by omega) (by omega)
      rcases hc with e | e | e <;> subst e <;> exact (by decide : ¬ (4 : Nat) = 0)
    have x7 : ∀ c, c = 157 ∨ c = 158 ∨ c = 160 ∨ c = 161 → T c i = V c i := by
      intro c hc
      exact k5 c i (by omega) (by rw [g_4 (by omega) (by omega) hi8]; decide) (by omega) (by omega) (by omega) (by omega)
    rw [x6 61 (by decide), x6 62 (by decide), x6 64 (by decide), x7 157 (by decide), x7 158 (by decide), x7 160 (by decide), x7 161 (by decide), e0, e14, e13, m3 i hi', k3 i hi']
    refine ⟨b1, b2, b3, b4, b5, b6, b7, b8, b9, b10, ?_⟩
    rw [← hUt] at b11 ⊢
    exact pl_follow b11 hd en q1 k1 hK hcan
  · obtain ⟨a1, a2, a3, a4, a5, a6⟩ := hI.2.2.2.2.1
    have t661 : T 66 1 = V 66 1 := m5 66 1 (by decide) (by decide : ¬ (5 : Nat) = 0) (by omega) (by omega) (by omega) (by omega)
    have z0 : (0 : Int32).toInt = 0 := rfl
    refine ⟨by rw [m4, k4], by rw [k4]; decide, by rw [k4]; decide, by rw [t661]; exact a4, fun h => ?_, fun i hi => ?_⟩
    · rw [k4, z0] at h; omega
    · rw [k4, z0] at hi; omega
/-! the class's doings behind a vote -/
set_option maxRecDepth 20000 in
theorem sp_C_floor' {G : jv_X} {d : Nat} {B : Option Value → jg_H → Prop} {V t : jg_H} (hI : Inv V) (hl : f_lo V t) (hB : ∀ c, fl_c V c → B (some (.ref c)) t) : q_P G (d + 2) 84 [.ref 0] t B := by
  have c1 := hI.2.1.1
  have c3 := hI.2.1.2.2.1
  have d6 := hI.2.2.1.2.2.2.2.2.1
  have d7 := hI.2.2.1.2.2.2.2.2.2.1
  have d8 := hI.2.2.1.2.2.2.2.2.2.2.1
  have h58 := hI.2.2.2.2.2.2.2.2.2.1
  have kb := key_bil hI.2.1 (V 146 13)
  have kw := hI.2.1.2.2.2.2 (V 146 13).toNatClampNeg
  have t06 : t 0 6 = V 0 6 := hl 0 6 (by decide) (by decide : ¬ (3 : Nat) = 0)
  have t03 : t 0 3 = V 0 3 := hl 0 3 (by decide) (by decide : ¬ (2 : Nat) = 0)
  refine t_C_floor (d := d) ?_ ?_ ?_ ?_
  · intro g
    rw [t06] at g
    have g' : ¬ 0 ≤ (V 146 13).toInt := by clear hB hI kb kw hl t06 t03; ((try simp only [i_lt, i_le, i_eq, i_in, i_cn, Int32.toInt_add, Int32.toInt_sub, Int32.toInt_mul, Int32.toInt_neg, Int32.reduceToInt, Int.bmod_add_bmod, Int.add_bmod_bmod, Int.bmod_sub_bmod, Int.sub_bmod_bmod, Int.bmod_mul_bmod, Int.mul_bmod_bmod, Int.bmod_neg_bmod, Nat.reducePow, Int.reduceBmod, Int.reduceNeg, Int.reduceMul, Int.reduceAdd, Int.reduceSub, not_true_eq_false, not_false_eq_true] at *) <;> (try simp (disch := omega) only [i_bm'] at *) <;> omega)
    refine hB 58 ⟨f_58, ?_, ?_, by decide, by decide, fun h => absurd h g'⟩
    · unfold fl_n; rw [if_neg g', h58]; rfl
    · unfold fl_n; rw [if_neg g']; intro j hj; exact absurd hj (Nat.not_lt_zero j)
  · intro _ g; exfalso; rw [t06, t03] at g; clear hB hI kb kw hl t06 t03; ((try simp only [i_lt, i_le, i_eq, i_in, i_cn, Int32.toInt_add, Int32.toInt_sub, Int32.toInt_mul, Int32.toInt_neg, Int32.reduceToInt, Int.bmod_add_bmod, Int.add_bmod_bmod, Int.bmod_sub_bmod, Int.sub_bmod_bmod, Int.bmod_mul_bmod, Int.mul_bmod_bmod, Int.bmod_neg_bmod, Nat.reducePow, Int.reduceBmod, Int.reduceNeg, Int.reduceMul, Int.reduceAdd, Int.reduceSub, not_true_eq_false, not_false_eq_true] at *) <;> (try simp (disch := omega) only [i_bm'] at *) <;> omega)
  · intro _ _ g; exfalso; rw [t06] at g; clear hB hI kb kw hl t06 t03; ((try simp only [i_lt, i_le, i_eq, i_in, i_cn, Int32.toInt_add, Int32.toInt_sub, Int32.toInt_mul, Int32.toInt_neg, Int32.reduceToInt, Int.bmod_add_bmod, Int.add_bmod_bmod, Int.bmod_sub_bmod, Int.sub_bmod_bmod, Int.bmod_mul_bmod, Int.mul_bmod_bmod, Int.bmod_neg_bmod, Nat.reducePow, Int.reduceBmod, Int.reduceNeg, Int.reduceMul, Int.reduceAdd, Int.reduceSub, not_true_eq_false, not_false_eq_true] at *) <;> (try simp (disch := omega) only [i_bm'] at *) <;> omega)
  · intro g1 g2 g3
    rw [t06] at g1 g2 g3 ⊢
    rw [t03] at g2
    have g' : 0 ≤ (V 146 13).toInt := by clear hB hI kb kw hl t06 t03; ((try simp only [i_lt, i_le, i_eq, i_in, i_cn, Int32.toInt_add, Int32.toInt_sub, Int32.toInt_mul, Int32.toInt_neg, Int32.reduceToInt, Int.bmod_add_bmod, Int.add_bmod_bmod, Int.bmod_sub_bmod, Int.sub_bmod_bmod, Int.bmod_mul_bmod, Int.mul_bmod_bmod, Int.bmod_neg_bmod, Nat.reducePow, Int.reduceBmod, Int.reduceNeg, Int.reduceMul, Int.reduceAdd, Int.reduceSub, not_true_eq_false, not_false_eq_true] at *) <;> (try simp (disch := omega) only [i_bm'] at *) <;> omega)
    obtain ⟨k1, k2⟩ := (kb g' d8).2.2.2.2.2.2
    have hU : (V 146 13).toNatClampNeg < 8 := by rw [i_cn]; omega
    rw [d6]
    refine hB _ ⟨f_1_s2 (f_m32 hU), ?_, ?_, by omega, by omega, fun _ => rfl⟩
    · rw [k1]; unfold fl_n; rw [if_pos g']; omega
    · intro j hj
      unfold fl_n at hj
      rw [if_pos g'] at hj
      exact (kw j hU (by omega)).1
/-- the floor's row in a heap whose lower cells are V's -/
theorem fl_lo {V t : jg_H} (hl : f_lo V t) {c : Nat} (hc : fl_c V c) : (t c 0).toInt = fl_n V ∧ ∀ j, j < fl_n V → t (c + 1) j = fl_R V j := by
  obtain ⟨f1, f2, f3, f4, f5, f6⟩ := hc
  have g : ∀ a, 32 < a → a < 60 → ¬ a = 57 → ∀ j, t a j = V a j := by
    intro a h1 h2 h3 j
    refine hl a j (by omega) ?_
    by_cases h : a < 57
    · rw [g_2 (by omega) h]; decide
    · have e : a = 58 ∨ a = 59 := by omega
      rcases e with e | e <;> subst e <;> exact (by decide : ¬ (9 : Nat) = 0)
  have hc57 : ¬ c = 57 ∧ ¬ c + 1 = 57 := by
    have hk := f_8_k f1
    constructor
    · rintro rfl; exact absurd hk (by decide)
    · intro e
      have : c = 56 := by omega
      subst this
      exact absurd hk (by decide)
  refine ⟨by rw [g c f4 (by omega) hc57.1]; exact f2, fun j hj => ?_⟩
  rw [g (c + 1) (by omega) (by omega) hc57.2]
  exact f3 j hj
set_option maxRecDepth 20000 in
theorem sp_C_amend {G : jv_X} {d : Nat} {B : Option Value → jg_H → Prop} {V t : jg_H} (hI : Inv V) (hl : f_lo V t) (hu : 0 ≤ (V 146 13).toInt) (K pl wd : Int32) (hK : 1 ≤ K.toInt ∧ K.toInt ≤ 3) (cnt : Nat) (hcnt : (V 146 18).toInt = cnt) (h0 : ¬ x_can (fl_n V) K pl → B none t) (h1 : x_can (fl_n V) K pl → ∀ t' : jg_H, f_hs t t' → A_C V t' (V 146 13).toNatClampNeg (fl_n V) (fl_R V) K pl wd cnt → B none t') : q_P G (d + 3) 99 [.ref 0, .int K, .int pl, .int wd] t B := by
  obtain ⟨q1, q2⟩ := fl_b hI
  have p1 := hI.2.2.2.1.1
  have p3 := hI.2.2.2.1.2.2.1
  refine t2_C_amendFloor (d := d + 2) K pl wd ?_
  refine sp_C_floor' (d := d) hI hl ?_
  intro c hc
  obtain ⟨r1, r2⟩ := fl_lo hl hc
  have ec := hc.2.2.2.2.2 hu
  have hc8 := hc.1
  have l1 := hc.2.2.2.1
  have l2 := hc.2.2.2.2.1
  refine t2_C_amendFloor_4 (d := d + 2) K pl wd hc8 ?_
  refine sp_C_change (d := d) hc8 (fl_n V) r1 q1 (fl_R V) r2 K pl wd hK ?_ ?_
  · intro hn
    exact t2_C_amendFloor_10 (d := d + 2) K pl wd 0 (fun g => absurd rfl g) (fun _ => h0 hn)
  · intro hcan t1 e1 e2 e3
    refine t2_C_amendFloor_10 (d := d + 2) K pl wd 1 ?_ (fun g => absurd g (by decide))
    intro _
    have t60 : t1 60 0 = V 60 0 := by
      rw [e3 60 0 (by omega) (by omega)]
      exact hl 60 0 (by decide) (by decide : ¬ (4 : Nat) = 0)
    rw [t60, p1]
    refine sp_C_settle (d := d + 1) (f_6_s4 f_60) (by decide) cnt (by omega) (V 146 18) K pl hcnt ?_
    intro t2 s1 s2
    refine t2_C_amendFloor_33 (d := d + 2) K pl wd ?_
    intro t3 e4
    subst e4
    refine h1 hcan _ ?_ ?_
    · intro a ha
      funext j
      rw [u_c (by omega), s2 a j (by omega), e3 a j (by omega) (by omega)]
    · rw [ec] at e1 e2 e3 l1 l2
      refine ⟨?_, ?_, ?_, by rw [u_hit], ?_⟩
      · rw [u_c (by omega), s2 _ 0 (by omega)]; exact e1
      · intro j hj
        rw [u_c (by omega), s2 _ j (by omega)]; exact e2 j hj
      · intro j hj
        rw [u_c (by decide), s1 j hj, e3 63 j (by omega) (by omega)]
        rw [hl 63 j (by decide) (by decide : ¬ (4 : Nat) = 0)]
      · intro a j ha hg g1 g2 g3 g4
        rw [u_r (fun e e' => g4 ⟨e, e'⟩), s2 a j g3, e3 a j g1 g2]
        exact hl a j ha hg
set_option maxRecDepth 20000 in
theorem sp_C_leave {G : jv_X} {d : Nat} {B : Option Value → jg_H → Prop} {V t : jg_H} (hI : Inv V) (hl : f_lo V t) (hu : 0 ≤ (V 146 13).toInt) (st nm : Int32) (h0 : st = 0 → nm = 0) (h1 : ¬ st = 0 → nm = V 155 (V 146 13).toNatClampNeg) (hB : ∀ t' : jg_H, f_hs t t' → f_lo (VL V (V 146 13).toNatClampNeg st nm) t' → B none t') : q_P G (d + 2) 98 [.ref 0, .int st] t B := by
  have c1 := hI.2.1.1
  have c3 := hI.2.1.2.2.1
  have d6 := hI.2.2.1.2.2.2.2.2.1
  have d7 := hI.2.2.1.2.2.2.2.2.2.1
  have d8 := hI.2.2.1.2.2.2.2.2.2.2.1
  have kb := (key_bil hI.2.1 (V 146 13) hu d8).2.2.2.1
  have t06 : t 0 6 = V 0 6 := hl 0 6 (by decide) (by decide : ¬ (3 : Nat) = 0)
  have t03 : t 0 3 = V 0 3 := hl 0 3 (by decide) (by decide : ¬ (2 : Nat) = 0)
  have hU : (V 146 13).toNatClampNeg < 8 := by rw [i_cn]; omega
  refine t_C_leaveFloor (d := d) st ?_ ?_ ?_ ?_ ?_ ?_
  · intro g; exfalso; rw [t06] at g; clear hB hI kb hl t06 t03 h0 h1; ((try simp only [i_lt, i_le, i_eq, i_in, i_cn, Int32.toInt_add, Int32.toInt_sub, Int32.toInt_mul, Int32.toInt_neg, Int32.reduceToInt, Int.bmod_add_bmod, Int.add_bmod_bmod, Int.bmod_sub_bmod, Int.sub_bmod_bmod, Int.bmod_mul_bmod, Int.mul_bmod_bmod, Int.bmod_neg_bmod, Nat.reducePow, Int.reduceBmod, Int.reduceNeg, Int.reduceMul, Int.reduceAdd, Int.reduceSub, not_true_eq_false, not_false_eq_true] at *) <;> (try simp (disch := omega) only [i_bm'] at *) <;> omega)
  · intro _ g; exfalso; rw [t06, t03] at g; clear hB hI kb hl t06 t03 h0 h1; ((try simp only [i_lt, i_le, i_eq, i_in, i_cn, Int32.toInt_add, Int32.toInt_sub, Int32.toInt_mul, Int32.toInt_neg, Int32.reduceToInt, Int.bmod_add_bmod, Int.add_bmod_bmod, Int.bmod_sub_bmod, Int.sub_bmod_bmod, Int.bmod_mul_bmod, Int.mul_bmod_bmod, Int.bmod_neg_bmod, Nat.reducePow, Int.reduceBmod, Int.reduceNeg, Int.reduceMul, Int.reduceAdd, Int.reduceSub, not_true_eq_false, not_false_eq_true] at *) <;> (try simp (disch := omega) only [i_bm'] at *) <;> omega)
  · intro _ _ g; exfalso; rw [t06] at g; clear hB hI kb hl t06 t03 h0 h1; ((try simp only [i_lt, i_le, i_eq, i_in, i_cn, Int32.toInt_add, Int32.toInt_sub, Int32.toInt_mul, Int32.toInt_neg, Int32.reduceToInt, Int.bmod_add_bmod, Int.add_bmod_bmod, Int.bmod_sub_bmod, Int.sub_bmod_bmod, Int.bmod_mul_bmod, Int.mul_bmod_bmod, Int.bmod_neg_bmod, Nat.reducePow, Int.reduceBmod, Int.reduceNeg, Int.reduceMul, Int.reduceAdd, Int.reduceSub, not_true_eq_false, not_false_eq_true] at *) <;> (try simp (disch := omega) only [i_bm'] at *) <;> omega)
  · intro _ _ _ s1 e1 g s2 e2 s3 e3 s4 e4
    rw [t06, d6] at e1
    subst e1; subst e2; subst e3; subst e4
    refine hB _ (hs_up (by decide) (hs_up (by decide) (hs_up (by decide) (hs_up (by omega) (fun _ _ => rfl))))) ?_
    unfold VL
    refine lo_hi (by decide) (lo_hi (by decide) (lo_hi (by decide) (lo_hi (by decide) (lo_hi (by decide) (lo_up (lo_up (lo_up ?_)))))))
    have e : jg_up (jg_up V (33 + 3 * (V 146 13).toNatClampNeg) 0 st) (33 + 3 * (V 146 13).toNatClampNeg) 1 nm = jg_up V (33 + 3 * (V 146 13).toNatClampNeg) 0 st := up_id (by rw [u_j (by decide), kb, h1 g])
    rw [e]
    exact lo_up hl
  · intro _ _ _ s1 e1 g
    subst e1
    rw [u_c (by omega), t06, d6]
    clear hB hI kb hl t06 t03 h0 h1
    ((try simp only [i_lt, i_le, i_eq, i_in, i_cn, Int32.toInt_add, Int32.toInt_sub, Int32.toInt_mul, Int32.toInt_neg, Int32.reduceToInt, Int.bmod_add_bmod, Int.add_bmod_bmod, Int.bmod_sub_bmod, Int.sub_bmod_bmod, Int.bmod_mul_bmod, Int.mul_bmod_bmod, Int.bmod_neg_bmod, Nat.reducePow, Int.reduceBmod, Int.reduceNeg, Int.reduceMul, Int.reduceAdd, Int.reduceSub, not_true_eq_false, not_false_eq_true] at *) <;> (try simp (disch := omega) only [i_bm'] at *) <;> omega)
  · intro _ _ _ s1 e1 g s5 e5 s6 e6 s7 e7 s8 e8
    rw [t06, d6] at e1
    subst e1
    rw [u_c (by omega), t06, d6] at e5
    subst e5; subst e6; subst e7; subst e8
    rw [← h0 g]
    refine hB _ (hs_up (by decide) (hs_up (by decide) (hs_up (by decide) (hs_up (by omega) (hs_up (by omega) (fun _ _ => rfl)))))) ?_
    unfold VL
    rw [h0 g]
    refine lo_hi (by decide) (lo_hi (by decide) (lo_hi (by decide) (lo_hi (by decide) (lo_hi (by decide) (lo_up (lo_up (lo_up (lo_up (lo_up hl)))))))))
