/-! the reference's own side of what holds -/
def J (s : jg_H) : Prop := ∃ s0 : jg_H, Inv s0 ∧ ∀ c, 146 ≤ c → s c = s0 c
theorem J_I {s : jg_H} (hI : Inv s) : J s := ⟨s, hI, fun _ _ => rfl⟩
/-- the reference's own cells are the same, but for those that do not count -/
def f_mo (s t : jg_H) : Prop := ∀ c j, 146 ≤ c → ¬ g_of c j = 0 → t c j = s c j
theorem mo_0 {s t : jg_H} (h : f_only 0 s t) : f_mo s t := fun c j _ hg => h c j hg
theorem mo_hi {s t : jg_H} (h : ∀ c, 146 ≤ c → t c = s c) : f_mo s t := fun c j hc _ => congrFun (h c hc) j
theorem mo_trans {s t u : jg_H} (h : f_mo s t) (h' : f_mo t u) : f_mo s u := fun c j hc hg => (h' c j hc hg).trans (h c j hc hg)
theorem J_mo {s t : jg_H} (hJ : J s) (h : f_mo s t) : J t := by
  obtain ⟨s0, hI, e⟩ := hJ
  refine ⟨fun c => if c < 146 then s0 c else t c, Inv_0 hI (fun c j hg => ?_), fun c hc => ?_⟩
  · by_cases hc : c < 146
    · exact congrFun (if_pos hc) j
    · exact (congrFun (if_neg hc) j).trans ((h c j (by omega) hg).trans (congrFun (e c (by omega)) j))
  · exact (if_neg (by omega)).symm
theorem J_0 {s t : jg_H} (hJ : J s) (h : f_only 0 s t) : J t := J_mo hJ (mo_0 h)
theorem J_n {s : jg_H} (hJ : J s) : 0 ≤ (s 146 0).toInt ∧ (s 146 0).toInt ≤ 15 := by
  obtain ⟨s0, hI, e⟩ := hJ
  rw [e 146 (by decide)]
  exact ⟨hI.1.2.1, hI.1.2.2.1⟩
theorem J_x {s : jg_H} (hJ : J s) : (s 146 14).toInt ≤ 8 ∧ 0 ≤ (s 146 15).toInt ∧ (s 146 15).toInt < (s 146 14).toInt := by
  obtain ⟨s0, hI, e⟩ := hJ
  rw [e 146 (by decide)]
  exact ⟨hI.2.2.2.2.2.1.2.2.1, hI.2.2.2.2.2.1.2.2.2.2.1, hI.2.2.2.2.2.1.2.2.2.2.2.1⟩
def m_ok (s : jg_H) (t : Nat) : Prop := (∀ p : Nat, p < 5 → 0 ≤ (s 165 (5 * t + p)).toInt ∧ (s 165 (5 * t + p)).toInt ≤ 200) ∧ (∀ p : Nat, p < 4 → (s 165 (5 * t + p)).toInt ≤ (s 165 (5 * t + p + 1)).toInt ∧ t_bal (s 163) ((s 165 (5 * t + p + 1)).toInt.toNat - (s 165 (5 * t + p)).toInt.toNat) (200 * t + (s 165 (5 * t + p)).toInt.toNat) 0)
theorem J_ok {s : jg_H} (hJ : J s) (t : Nat) (ht : (t : Int) < (s 146 14).toInt) : m_ok s t := by
  obtain ⟨s0, hI, e⟩ := hJ
  unfold m_ok
  rw [e 163 (by decide), e 165 (by decide)]
  rw [e 146 (by decide)] at ht
  have ok := hI.2.2.2.2.2.1.2.2.2.2.2.2 t ht
  exact ⟨fun p hp => (ok.1 p hp).2, ok.2.1⟩
theorem J_p {s : jg_H} (hJ : J s) : 0 ≤ (s 146 18).toInt ∧ (s 146 18).toInt ≤ 8 := by
  obtain ⟨s0, hI, e⟩ := hJ
  rw [e 146 (by decide)]
  exact ⟨hI.2.2.2.1.2.1, hI.2.2.2.1.2.2.1⟩
theorem J_pil {s : jg_H} (hJ : J s) (a : Int32) (h0 : 0 ≤ a.toInt) (h1 : a.toInt < (s 146 18).toInt) : 0 ≤ (s 157 a.toNatClampNeg).toInt ∧ (s 157 a.toNatClampNeg).toInt ≤ 6 ∧ 0 ≤ (s 158 a.toNatClampNeg).toInt ∧ (s 158 a.toNatClampNeg).toInt < (s 146 0).toInt := by
  obtain ⟨s0, hI, e⟩ := hJ
  rw [e 146 (by decide)] at h1
  rw [e 146 (by decide), e 157 (by decide), e 158 (by decide)]
  obtain ⟨k1, k2, k3, k4, k5, k6, k7⟩ := key_pil hI.2.2.2.1 a h0 h1
  exact ⟨k2, k3, k5, k6⟩
theorem J_u {s : jg_H} (hJ : J s) : 0 ≤ (s 146 6).toInt ∧ (s 146 6).toInt ≤ 8 ∧ -1 ≤ (s 146 13).toInt ∧ (s 146 13).toInt < (s 146 6).toInt := by
  obtain ⟨s0, hI, e⟩ := hJ
  rw [e 146 (by decide)]
  exact ⟨hI.2.1.2.1, hI.2.1.2.2.1, hI.2.2.1.2.2.2.2.2.2.1, hI.2.2.1.2.2.2.2.2.2.2.1⟩
theorem J_b {s : jg_H} (hJ : J s) (a : Int32) (h0 : 0 ≤ a.toInt) (h1 : a.toInt < (s 146 6).toInt) : 0 ≤ (s 153 a.toNatClampNeg).toInt ∧ (s 153 a.toNatClampNeg).toInt ≤ 10 := by
  obtain ⟨s0, hI, e⟩ := hJ
  rw [e 146 (by decide)] at h1
  rw [e 153 (by decide)]
  exact (key_bil hI.2.1 a h0 h1).2.2.2.2.2.2.2
theorem J_m {s : jg_H} (hJ : J s) : 0 ≤ (s 146 17).toInt ∧ (s 146 17).toInt ≤ 100 := by
  obtain ⟨s0, hI, e⟩ := hJ
  rw [e 146 (by decide)]
  obtain ⟨_, _, _, _, z5, z6, _⟩ := hI.2.2.2.2.2.2.2.1
  exact ⟨z5, z6⟩
/-! a text's part worked out on both sides -/
/-- what a name stands for -/
def x_n (s : jg_H) (k dp pa y n x : Int32) : Int32 := if x = 0 then k else if x = 1 then dp else if x = 2 then s 146 17 else if x = 3 then pa else if x = 4 then f_cnt (s 151) (s 146 0).toInt.toNat else if x = 5 then s 146 0 else if x = 6 then y else n
/-- what part p of text t comes to -/
def x_v (s : jg_H) (t p : Nat) (k dp pa y n : Int32) : Int32 :=
  v_ev (s 163) (s 164) (x_n s k dp pa y n) ((s 165 (5 * t + p + 1)).toInt.toNat - (s 165 (5 * t + p)).toInt.toNat) (200 * t + (s 165 (5 * t + p)).toInt.toNat) 0 (fun _ => 0)
theorem x_n_mo {s t : jg_H} (h : f_mo s t) : x_n t = x_n s := by
  have e1 : t 151 = s 151 := funext fun j => h 151 j (by decide) (by decide : ¬ (1 : Nat) = 0)
  have e2 : t 146 0 = s 146 0 := h 146 0 (by decide) (by decide : ¬ (1 : Nat) = 0)
  have e3 : t 146 17 = s 146 17 := h 146 17 (by decide) (by decide : ¬ (8 : Nat) = 0)
  unfold x_n
  rw [e1, e2, e3]
theorem x_n_fr {s t : jg_H} (h : f_only 0 s t) : x_n t = x_n s := x_n_mo (mo_0 h)
theorem x_v_mo {s t : jg_H} (h : f_mo s t) : x_v t = x_v s := by
  have e1 : t 163 = s 163 := funext fun j => h 163 j (by decide) (by decide : ¬ (6 : Nat) = 0)
  have e2 : t 164 = s 164 := funext fun j => h 164 j (by decide) (by decide : ¬ (6 : Nat) = 0)
  have e3 : t 165 = s 165 := funext fun j => h 165 j (by decide) (by decide : ¬ (6 : Nat) = 0)
  unfold x_v
  rw [e1, e2, e3, x_n_mo h]
theorem x_v_fr {s t : jg_H} (h : f_only 0 s t) : x_v t = x_v s := x_v_mo (mo_0 h)
theorem x_v_s {s t : jg_H} (h : ∀ c, ¬ c = 146 → t c = s c) (h0 : t 146 0 = s 146 0) (h17 : t 146 17 = s 146 17) : x_v t = x_v s := by
  have e : x_n t = x_n s := by
    unfold x_n
    rw [h 151 (by decide), h0, h17]
  unfold x_v
  rw [h 163 (by decide), h 164 (by decide), h 165 (by decide), e]
/-- a text's parts lie one behind the other -/
theorem t_up {s : jg_H} {t : Nat} (h : t_ok s t) (p : Nat) (hp : p < 4) : (s 165 (5 * t + p)).toInt ≤ (s 165 (5 * t + p + 1)).toInt ∧ (s 165 (5 * t + p + 1)).toInt ≤ (s 165 (5 * t + 4)).toInt := by
  have h0 : (s 165 (5 * t + 0)).toInt ≤ (s 165 (5 * t + 1)).toInt := (h.2.1 0 (by decide)).1
  have h1 : (s 165 (5 * t + 1)).toInt ≤ (s 165 (5 * t + 2)).toInt := (h.2.1 1 (by decide)).1
  have h2 : (s 165 (5 * t + 2)).toInt ≤ (s 165 (5 * t + 3)).toInt := (h.2.1 2 (by decide)).1
  have h3 : (s 165 (5 * t + 3)).toInt ≤ (s 165 (5 * t + 4)).toInt := (h.2.1 3 (by decide)).1
  have e : p = 0 ∨ p = 1 ∨ p = 2 ∨ p = 3 := by omega
  rcases e with e | e | e | e <;> subst e
  · exact ⟨h0, by show (s 165 (5 * t + 1)).toInt ≤ _; omega⟩
  · exact ⟨h1, by show (s 165 (5 * t + 2)).toInt ≤ _; omega⟩
  · exact ⟨h2, by show (s 165 (5 * t + 3)).toInt ≤ _; omega⟩
  · exact ⟨h3, Int.le_refl _⟩
theorem fo_120 {s t : jg_H} (h : ∀ c j, ¬ c = 120 → ¬ c = 121 → t c j = s c j) : f_only 0 s t :=
  fun c j hg => h c j (fun e => hg (by subst e; rfl)) (fun e => hg (by subst e; rfl))
theorem fo_170 {s t : jg_H} (h : ∀ c j, ¬ c = 170 → (c = 146 → ¬ j = 48 ∧ ¬ j = 49 ∧ ¬ j = 50 ∧ ¬ j = 51 ∧ ¬ j = 52) → t c j = s c j) : f_only 0 s t :=
  fun c j hg => h c j (fun e => hg (by subst e; rfl)) (fun e => ⟨fun e' => hg (by subst e; subst e'; rfl), fun e' => hg (by subst e; subst e'; rfl), fun e' => hg (by subst e; subst e'; rfl), fun e' => hg (by subst e; subst e'; rfl), fun e' => hg (by subst e; subst e'; rfl)⟩)
set_option maxRecDepth 20000 in
theorem sp_C_comesTo' {G : jv_X} {d : Nat} {B : Option Value → jg_H → Prop} {s : jg_H} (hm : I_mem s) (hxx : I_txt s) (z4 : s 0 19 = s 146 17) (a p : Int32) (ha : 0 ≤ a.toInt) (ha' : a.toInt < (s 146 14).toInt) (hp : 0 ≤ p.toInt) (hp' : p.toInt < 4) (k dp pa y n : Int32) (e0 : s 120 0 = k) (e1 : s 120 1 = dp) (e3 : s 120 3 = pa) (e6 : s 120 6 = y) (e7 : s 120 7 = n) (hB : ∀ t : jg_H, (∀ a j, ¬ a = 120 → ¬ a = 121 → t a j = s a j) → B (some (.int (x_v s a.toNatClampNeg p.toNatClampNeg k dp pa y n))) t) : q_P G (d + 3) 75 [.ref 0, .int a, .int p] s B := by
  have x1 := hxx.1
  have x3 := hxx.2.2.1
  have b1 := hm.1
  have b2 := hm.2.1
  have b3 := hm.2.2.1
  have ok := hxx.2.2.2.2.2.2 a.toNatClampNeg (by rw [i_cn]; omega)
  have th := there_eq hm
  have hA : a.toNatClampNeg < 8 := by rw [i_cn]; omega
  have hP : p.toNatClampNeg < 4 := by rw [i_cn]; omega
  have hP1 : (p + 1).toNatClampNeg = p.toNatClampNeg + 1 := by clear hB e0 e1 e3 e6 e7 ok hm hxx th; (try simp only [i_lt, i_le, i_eq, i_in, i_cn, Int32.toInt_add, Int32.toInt_sub, Int32.toInt_mul, Int32.toInt_neg, Int32.reduceToInt, Int.bmod_add_bmod, Int.add_bmod_bmod, Int.bmod_sub_bmod, Int.sub_bmod_bmod, Int.bmod_mul_bmod, Int.mul_bmod_bmod, Int.bmod_neg_bmod, Nat.reducePow, Int.reduceBmod, Int.reduceNeg, Int.reduceMul, Int.reduceAdd, Int.reduceSub, not_true_eq_false, not_false_eq_true] at *) <;> (try simp (disch := omega) only [i_bm'] at *); omega
  obtain ⟨u1, u2⟩ := t_up ok p.toNatClampNeg hP
  obtain ⟨w1, w2, w3⟩ := ok.1 p.toNatClampNeg (by omega)
  obtain ⟨v1, v2, v3⟩ := ok.1 (p.toNatClampNeg + 1) (by omega)
  have v2 : 0 ≤ (s 165 (5 * a.toNatClampNeg + p.toNatClampNeg + 1)).toInt := v2
  have v3 : (s 165 (5 * a.toNatClampNeg + p.toNatClampNeg + 1)).toInt ≤ 200 := v3
  have hbal := (ok.2.1 p.toNatClampNeg hP).2
  refine t_C_comesTo (d := d + 1) a p ?_ ?_ ?_ ?_
  · intro g; exfalso; clear hB e0 e1 e3 e6 e7 ok hbal th hm hxx; ((try simp only [i_lt, i_le, i_eq, i_in, i_cn, Int32.toInt_add, Int32.toInt_sub, Int32.toInt_mul, Int32.toInt_neg, Int32.reduceToInt, Int.bmod_add_bmod, Int.add_bmod_bmod, Int.bmod_sub_bmod, Int.sub_bmod_bmod, Int.bmod_mul_bmod, Int.mul_bmod_bmod, Int.bmod_neg_bmod, Nat.reducePow, Int.reduceBmod, Int.reduceNeg, Int.reduceMul, Int.reduceAdd, Int.reduceSub, not_true_eq_false, not_false_eq_true] at *) <;> (try simp (disch := omega) only [i_bm'] at *) <;> omega)
  · intro _ g; exfalso; clear hB e0 e1 e3 e6 e7 ok hbal th hm hxx; ((try simp only [i_lt, i_le, i_eq, i_in, i_cn, Int32.toInt_add, Int32.toInt_sub, Int32.toInt_mul, Int32.toInt_neg, Int32.reduceToInt, Int.bmod_add_bmod, Int.add_bmod_bmod, Int.bmod_sub_bmod, Int.sub_bmod_bmod, Int.bmod_mul_bmod, Int.mul_bmod_bmod, Int.bmod_neg_bmod, Nat.reducePow, Int.reduceBmod, Int.reduceNeg, Int.reduceMul, Int.reduceAdd, Int.reduceSub, not_true_eq_false, not_false_eq_true] at *) <;> (try simp (disch := omega) only [i_bm'] at *) <;> omega)
  · intro _ _ g; exfalso; clear hB e0 e1 e3 e6 e7 ok hbal th hm hxx; ((try simp only [i_lt, i_le, i_eq, i_in, i_cn, Int32.toInt_add, Int32.toInt_sub, Int32.toInt_mul, Int32.toInt_neg, Int32.reduceToInt, Int.bmod_add_bmod, Int.add_bmod_bmod, Int.bmod_sub_bmod, Int.sub_bmod_bmod, Int.bmod_mul_bmod, Int.mul_bmod_bmod, Int.bmod_neg_bmod, Nat.reducePow, Int.reduceBmod, Int.reduceNeg, Int.reduceMul, Int.reduceAdd, Int.reduceSub, not_true_eq_false, not_false_eq_true] at *) <;> (try simp (disch := omega) only [i_bm'] at *) <;> omega)
  · intro _ _ _
    refine sp_C_there (s 146 0).toInt.toNat (by rw [b1]; omega) (by omega) ?_
    rw [th]
    refine t_C_comesTo_22 (d := d + 1) a p _ _ ?_ ?_
    · intro _ _ _ _ _ _; clear hB e0 e1 e3 e6 e7 ok hbal th hm hxx; ((try simp only [i_lt, i_le, i_eq, i_in, i_cn, Int32.toInt_add, Int32.toInt_sub, Int32.toInt_mul, Int32.toInt_neg, Int32.reduceToInt, Int.bmod_add_bmod, Int.add_bmod_bmod, Int.bmod_sub_bmod, Int.sub_bmod_bmod, Int.bmod_mul_bmod, Int.mul_bmod_bmod, Int.bmod_neg_bmod, Nat.reducePow, Int.reduceBmod, Int.reduceNeg, Int.reduceMul, Int.reduceAdd, Int.reduceSub, not_true_eq_false, not_false_eq_true] at *) <;> (try simp (disch := omega) only [i_bm'] at *) <;> omega)
    · intro s1 h1 s2 h2 s3 h3
      have f3 : ∀ a j, ¬ a = 120 → s3 a j = s a j := fun a j h => by rw [h3, u_c h, h2, u_c h, h1, u_c h]
      refine sp_C_run (d := d) (f_m92 hA) p hp hp' (s 165 (5 * a.toNatClampNeg + p.toNatClampNeg)).toInt.toNat (s 165 (5 * a.toNatClampNeg + p.toNatClampNeg + 1)).toInt.toNat (200 * a.toNatClampNeg) ?_ ?_ ?_ ?_ (by omega) (by omega) (s 163) (s 164) (x_n s k dp pa y n) ?_ ?_ (x_v s a.toNatClampNeg p.toNatClampNeg k dp pa y n) ?_ ?_ ?_
      · rw [f3 _ _ (by omega), w1]; omega
      · omega
      · rw [f3 _ _ (by omega), hP1, v1]; show (s 165 (5 * a.toNatClampNeg + p.toNatClampNeg + 1)).toInt = _; omega
      · omega
      · intro c hc
        rw [f3 _ _ (by omega)]
        exact ok.2.2 c (by omega)
      · intro x hx hx'
        have q0 : s3 120 0 = k := by rw [h3, u_j (by decide), h2, u_j (by decide), h1, u_j (by decide)]; exact e0
        have q1 : s3 120 1 = dp := by rw [h3, u_j (by decide), h2, u_j (by decide), h1, u_j (by decide)]; exact e1
        have q2 : s3 120 2 = s 146 17 := by rw [h3, u_j (by decide), h2, u_j (by decide), h1, u_hit]; exact z4
        have q3 : s3 120 3 = pa := by rw [h3, u_j (by decide), h2, u_j (by decide), h1, u_j (by decide)]; exact e3
        have q4 : s3 120 4 = f_cnt (s 151) (s 146 0).toInt.toNat := by rw [h3, u_j (by decide), h2, u_hit]
        have q5 : s3 120 5 = s 146 0 := by rw [h3, u_hit]; exact b1
        have q6 : s3 120 6 = y := by rw [h3, u_j (by decide), h2, u_j (by decide), h1, u_j (by decide)]; exact e6
        have q7 : s3 120 7 = n := by rw [h3, u_j (by decide), h2, u_j (by decide), h1, u_j (by decide)]; exact e7
        have hx8 : x = 0 ∨ x = 1 ∨ x = 2 ∨ x = 3 ∨ x = 4 ∨ x = 5 ∨ x = 6 ∨ x = 7 := by
          clear q0 q1 q2 q3 q4 q5 q6 q7 hB e0 e1 e3 e6 e7 ok hbal th hm hxx f3 h1 h2 h3 u1 u2 w1 w2 w3 v1 v2 v3 z4 hP1
          (try simp only [i_lt, i_le, i_eq, i_in, i_cn, Int32.toInt_add, Int32.toInt_sub, Int32.toInt_mul, Int32.toInt_neg, Int32.reduceToInt, Int.bmod_add_bmod, Int.add_bmod_bmod, Int.bmod_sub_bmod, Int.sub_bmod_bmod, Int.bmod_mul_bmod, Int.mul_bmod_bmod, Int.bmod_neg_bmod, Nat.reducePow, Int.reduceBmod, Int.reduceNeg, Int.reduceMul, Int.reduceAdd, Int.reduceSub, not_true_eq_false, not_false_eq_true] at *) <;> (try simp (disch := omega) only [i_bm'] at *); omega
        rcases hx8 with e | e | e | e | e | e | e | e <;> subst e
        · exact q0
        · exact q1
        · exact q2
        · exact q3
        · exact q4
        · exact q5
        · exact q6
        · exact q7
      · exact hbal
      · unfold x_v
        exact v_ev_eq _ _ _ _ _ hbal (fun i hi => absurd hi (Nat.not_lt_zero i))
      · intro t ht
        exact t_C_comesTo_43 (d := d + 1) _ _ _ (hB t (fun a j h h' => (ht a j h').trans (f3 a j h)))
theorem sp_C_comesTo {G : jv_X} {d : Nat} {B : Option Value → jg_H → Prop} {s : jg_H} (hI : Inv s) (a p : Int32) (ha : 0 ≤ a.toInt) (ha' : a.toInt < (s 146 14).toInt) (hp : 0 ≤ p.toInt) (hp' : p.toInt < 4) (k dp pa y n : Int32) (e0 : s 120 0 = k) (e1 : s 120 1 = dp) (e3 : s 120 3 = pa) (e6 : s 120 6 = y) (e7 : s 120 7 = n) (hB : ∀ t : jg_H, (∀ a j, ¬ a = 120 → ¬ a = 121 → t a j = s a j) → B (some (.int (x_v s a.toNatClampNeg p.toNatClampNeg k dp pa y n))) t) : q_P G (d + 3) 75 [.ref 0, .int a, .int p] s B :=
  sp_C_comesTo' hI.1 hI.2.2.2.2.2.1 hI.2.2.2.2.2.2.2.1.2.2.2.1 a p ha ha' hp hp' k dp pa y n e0 e1 e3 e6 e7 hB
set_option maxRecDepth 20000 in
theorem sp_M_worked {G : jv_X} {d : Nat} {B : Option Value → jg_H → Prop} {s : jg_H} (hJ : J s) (a p k pa dp y n : Int32) (ha : 0 ≤ a.toInt) (ha' : a.toInt < (s 146 14).toInt) (hp : 0 ≤ p.toInt) (hp' : p.toInt < 4) (hB : ∀ t : jg_H, (∀ c j, ¬ c = 170 → (c = 146 → ¬ j = 48 ∧ ¬ j = 49 ∧ ¬ j = 50 ∧ ¬ j = 51 ∧ ¬ j = 52) → t c j = s c j) → B (some (.int (x_v s a.toNatClampNeg p.toNatClampNeg k dp pa y n))) t) : q_P G (d + 3) 178 [.ref 146, .int a, .int p, .int k, .int pa, .int dp, .int y, .int n] s B := by
  obtain ⟨x3, _, _⟩ := J_x hJ
  obtain ⟨b2, b3⟩ := J_n hJ
  have ok := J_ok hJ a.toNatClampNeg (by rw [i_cn]; omega)
  have hA : a.toNatClampNeg < 8 := by rw [i_cn]; omega
  have hP : p.toNatClampNeg < 4 := by rw [i_cn]; omega
  have j0 : ((5 * a) + p).toNatClampNeg = 5 * a.toNatClampNeg + p.toNatClampNeg := by clear hB ok hJ; (try simp only [i_lt, i_le, i_eq, i_in, i_cn, Int32.toInt_add, Int32.toInt_sub, Int32.toInt_mul, Int32.toInt_neg, Int32.reduceToInt, Int.bmod_add_bmod, Int.add_bmod_bmod, Int.bmod_sub_bmod, Int.sub_bmod_bmod, Int.bmod_mul_bmod, Int.mul_bmod_bmod, Int.bmod_neg_bmod, Nat.reducePow, Int.reduceBmod, Int.reduceNeg, Int.reduceMul, Int.reduceAdd, Int.reduceSub, not_true_eq_false, not_false_eq_true] at *) <;> (try simp (disch := omega) only [i_bm'] at *); omega
  have j1 : (((5 * a) + p) + 1).toNatClampNeg = 5 * a.toNatClampNeg + p.toNatClampNeg + 1 := by clear hB ok hJ j0; (try simp only [i_lt, i_le, i_eq, i_in, i_cn, Int32.toInt_add, Int32.toInt_sub, Int32.toInt_mul, Int32.toInt_neg, Int32.reduceToInt, Int.bmod_add_bmod, Int.add_bmod_bmod, Int.bmod_sub_bmod, Int.sub_bmod_bmod, Int.bmod_mul_bmod, Int.mul_bmod_bmod, Int.bmod_neg_bmod, Nat.reducePow, Int.reduceBmod, Int.reduceNeg, Int.reduceMul, Int.reduceAdd, Int.reduceSub, not_true_eq_false, not_false_eq_true] at *) <;> (try simp (disch := omega) only [i_bm'] at *); omega
  have ji : jv_in ((5 * a) + p) 45 = true := by clear hB ok hJ j0 j1; ((try simp only [i_lt, i_le, i_eq, i_in, i_cn, Int32.toInt_add, Int32.toInt_sub, Int32.toInt_mul, Int32.toInt_neg, Int32.reduceToInt, Int.bmod_add_bmod, Int.add_bmod_bmod, Int.bmod_sub_bmod, Int.sub_bmod_bmod, Int.bmod_mul_bmod, Int.mul_bmod_bmod, Int.bmod_neg_bmod, Nat.reducePow, Int.reduceBmod, Int.reduceNeg, Int.reduceMul, Int.reduceAdd, Int.reduceSub, not_true_eq_false, not_false_eq_true] at *) <;> (try simp (disch := omega) only [i_bm'] at *) <;> omega)
  have u1 := (ok.2 p.toNatClampNeg hP).1
  obtain ⟨w2, w3⟩ := ok.1 p.toNatClampNeg (by omega)
  obtain ⟨v2, v3⟩ := ok.1 (p.toNatClampNeg + 1) (by omega)
  have v2 : 0 ≤ (s 165 (5 * a.toNatClampNeg + p.toNatClampNeg + 1)).toInt := v2
  have v3 : (s 165 (5 * a.toNatClampNeg + p.toNatClampNeg + 1)).toInt ≤ 200 := v3
  have hbal := (ok.2 p.toNatClampNeg hP).2
  refine t2_M_worked (d := d + 2) a p k pa dp y n ?_ ?_
  · intro _ _ _ _ _ _ _ _ _ _; exact ji
  · intro s1 h1 s2 h2 s3 h3 s4 h4 s5 h5
    have f5 : ∀ c j, (c = 146 → ¬ j = 48 ∧ ¬ j = 49 ∧ ¬ j = 50 ∧ ¬ j = 51 ∧ ¬ j = 52) → s5 c j = s c j := fun c j h => by
      rw [h5, u_r (fun e => (h e).2.2.2.2), h4, u_r (fun e => (h e).2.2.2.1), h3, u_r (fun e => (h e).2.2.1), h2, u_r (fun e => (h e).2.1), h1, u_r (fun e => (h e).1)]
    have f65 : ∀ j, s5 165 j = s 165 j := fun j => f5 165 j (fun e => absurd e (by decide))
    have f63 : s5 163 = s 163 := funext fun j => f5 163 j (fun e => absurd e (by decide))
    have f64 : s5 164 = s 164 := funext fun j => f5 164 j (fun e => absurd e (by decide))
    have f51 : s5 151 = s 151 := funext fun j => f5 151 j (fun e => absurd e (by decide))
    have f0 : s5 146 0 = s 146 0 := f5 146 0 (fun _ => by decide)
    have f17 : s5 146 17 = s 146 17 := f5 146 17 (fun _ => by decide)
    have q48 : s5 146 48 = k := by rw [h5, u_j (by decide), h4, u_j (by decide), h3, u_j (by decide), h2, u_j (by decide), h1, u_hit]
    have q49 : s5 146 49 = pa := by rw [h5, u_j (by decide), h4, u_j (by decide), h3, u_j (by decide), h2, u_hit]
    have q50 : s5 146 50 = dp := by rw [h5, u_j (by decide), h4, u_j (by decide), h3, u_hit]
    have q51 : s5 146 51 = y := by rw [h5, u_j (by decide), h4, u_hit]
    have q52 : s5 146 52 = n := by rw [h5, u_hit]
    have nm : v_nm s5 = x_n s k dp pa y n := by
      funext x
      unfold v_nm x_n
      rw [q48, q49, q50, q51, q52, f51, f0, f17]
    have g1 : ((200 * a.toNatClampNeg : Nat) : Int) = 200 * a.toInt := by clear hB ok hJ hbal h1 h2 h3 h4 h5 f5 f65 f63 f64 f51 nm; rw [i_cn]; omega
    have g2 : ((200 * a) + (s 165 (5 * a.toNatClampNeg + p.toNatClampNeg))).toInt = ((200 * a.toNatClampNeg : Nat) : Int) + ((s 165 (5 * a.toNatClampNeg + p.toNatClampNeg)).toInt.toNat : Int) := by
      rw [g1]
      generalize s 165 (5 * a.toNatClampNeg + p.toNatClampNeg) = E at *
      clear hB ok hJ hbal h1 h2 h3 h4 h5 f5 f65 f63 f64 f51 nm j0 j1 ji u1 v2 v3 g1
      ((try simp only [i_lt, i_le, i_eq, i_in, i_cn, Int32.toInt_add, Int32.toInt_sub, Int32.toInt_mul, Int32.toInt_neg, Int32.reduceToInt, Int.bmod_add_bmod, Int.add_bmod_bmod, Int.bmod_sub_bmod, Int.sub_bmod_bmod, Int.bmod_mul_bmod, Int.mul_bmod_bmod, Int.bmod_neg_bmod, Nat.reducePow, Int.reduceBmod, Int.reduceNeg, Int.reduceMul, Int.reduceAdd, Int.reduceSub, not_true_eq_false, not_false_eq_true] at *) <;> (try simp (disch := omega) only [i_bm'] at *) <;> omega)
    clear q48 q49 q50 q51 q52 h1 h2 h3 h4 h5
    refine lp_M_worked (d := d) (s := s5) a p k pa dp y n ha (by omega) hp hp' (s 165 (5 * a.toNatClampNeg + p.toNatClampNeg + 1)).toInt.toNat (200 * a.toNatClampNeg) g1 ?_ ?_ ?_ ?_ (x_v s a.toNatClampNeg p.toNatClampNeg k dp pa y n) ?_ ((s 165 (5 * a.toNatClampNeg + p.toNatClampNeg + 1)).toInt.toNat - (s 165 (5 * a.toNatClampNeg + p.toNatClampNeg)).toInt.toNat) (s 165 (5 * a.toNatClampNeg + p.toNatClampNeg)).toInt.toNat 0 _ _ none s5 ?_ ?_ rfl ?_ rfl ?_ ?_ (fun _ _ _ => rfl)
    · rw [f65, j1]; omega
    · omega
    · rw [f0]; exact b2
    · rw [f0]; exact b3
    · intro t ht
      exact hB t (fun c j h h' => (ht c j h).trans (f5 c j h'))
    · omega
    · rw [f65, j0]; exact g2
    · exact Nat.zero_le _
    · rw [f63]; exact hbal
    · rw [f63, f64, nm]
      unfold x_v
      exact v_ev_eq _ _ _ _ _ hbal (fun i hi => absurd hi (Nat.not_lt_zero i))
/-- the rule that stands, for a kind and a mover -/
def x_r (s : jg_H) (p : Nat) (k m : Int32) : Int32 := x_v s (s 146 15).toNatClampNeg p k (s 146 18) (s 147 m.toNatClampNeg) 0 0
theorem x_r_mo {s t : jg_H} (h : f_mo s t) : x_r t = x_r s := by
  have e1 : t 147 = s 147 := funext fun j => h 147 j (by decide) (by decide : ¬ (1 : Nat) = 0)
  have e2 : t 146 15 = s 146 15 := h 146 15 (by decide) (by decide : ¬ (6 : Nat) = 0)
  have e3 : t 146 18 = s 146 18 := h 146 18 (by decide) (by decide : ¬ (4 : Nat) = 0)
  unfold x_r
  rw [e1, e2, e3, x_v_mo h]
theorem x_r_fr {s t : jg_H} (h : f_only 0 s t) : x_r t = x_r s := x_r_mo (mo_0 h)
set_option maxRecDepth 20000 in
theorem sp_C_ruled {G : jv_X} {d : Nat} {B : Option Value → jg_H → Prop} {s : jg_H} (hI : Inv s) (p k m : Int32) (hp : 0 ≤ p.toInt) (hp' : p.toInt < 4) (hm : 0 ≤ m.toInt) (hm' : m.toInt < (s 146 0).toInt) (hB : ∀ t : jg_H, f_only 0 s t → B (some (.int (x_r s p.toNatClampNeg k m))) t) : q_P G (d + 4) 87 [.ref 0, .int p, .int k, .int m] s B := by
  have b1 := hI.1.1
  have b3 := hI.1.2.2.1
  have p1 := hI.2.2.2.1.1
  have x4 := hI.2.2.2.2.2.1.2.2.2.1
  have x5 := hI.2.2.2.2.2.1.2.2.2.2.1
  have x6 := hI.2.2.2.2.2.1.2.2.2.2.2.1
  have km := (key_mem hI.1 m hm hm').2.2.2.1
  refine t_C_ruled (d := d + 1) p k m ?_ ?_ ?_ ?_
  · intro g; exfalso; clear hB km hI; ((try simp only [i_lt, i_le, i_eq, i_in, i_cn, Int32.toInt_add, Int32.toInt_sub, Int32.toInt_mul, Int32.toInt_neg, Int32.reduceToInt, Int.bmod_add_bmod, Int.add_bmod_bmod, Int.bmod_sub_bmod, Int.sub_bmod_bmod, Int.bmod_mul_bmod, Int.mul_bmod_bmod, Int.bmod_neg_bmod, Nat.reducePow, Int.reduceBmod, Int.reduceNeg, Int.reduceMul, Int.reduceAdd, Int.reduceSub, not_true_eq_false, not_false_eq_true] at *) <;> (try simp (disch := omega) only [i_bm'] at *) <;> omega)
  · intro _ g; exfalso; clear hB km hI; ((try simp only [i_lt, i_le, i_eq, i_in, i_cn, Int32.toInt_add, Int32.toInt_sub, Int32.toInt_mul, Int32.toInt_neg, Int32.reduceToInt, Int.bmod_add_bmod, Int.add_bmod_bmod, Int.bmod_sub_bmod, Int.sub_bmod_bmod, Int.bmod_mul_bmod, Int.mul_bmod_bmod, Int.bmod_neg_bmod, Nat.reducePow, Int.reduceBmod, Int.reduceNeg, Int.reduceMul, Int.reduceAdd, Int.reduceSub, not_true_eq_false, not_false_eq_true] at *) <;> (try simp (disch := omega) only [i_bm'] at *) <;> omega)
  · intro _ _ g; exfalso; clear hB km hI; ((try simp only [i_lt, i_le, i_eq, i_in, i_cn, Int32.toInt_add, Int32.toInt_sub, Int32.toInt_mul, Int32.toInt_neg, Int32.reduceToInt, Int.bmod_add_bmod, Int.add_bmod_bmod, Int.bmod_sub_bmod, Int.sub_bmod_bmod, Int.bmod_mul_bmod, Int.mul_bmod_bmod, Int.bmod_neg_bmod, Nat.reducePow, Int.reduceBmod, Int.reduceNeg, Int.reduceMul, Int.reduceAdd, Int.reduceSub, not_true_eq_false, not_false_eq_true] at *) <;> (try simp (disch := omega) only [i_bm'] at *) <;> omega)
  · intro _ _ _ s1 h1 s2 h2 s3 h3 s4 h4 s5 h5
    have f5 : ∀ c j, ¬ c = 120 → s5 c j = s c j := fun c j h => by rw [h5, u_c h, h4, u_c h, h3, u_c h, h2, u_c h, h1, u_c h]
    have fo : f_only 0 s s5 := fo_120 (fun c j h _ => f5 c j h)
    have e14 : s5 146 14 = s 146 14 := f5 _ _ (by decide)
    rw [f5 0 12 (by decide), x4]
    refine sp_C_comesTo (d := d) (Inv_0 hI fo) _ p x5 (by rw [e14]; exact x6) hp hp' k (s 146 18) (s 147 m.toNatClampNeg) 0 0 ?_ ?_ ?_ ?_ ?_ ?_
    · rw [h5, u_j (by decide), h4, u_j (by decide), h3, u_j (by decide), h2, u_j (by decide), h1, u_hit]
    · rw [h5, u_j (by decide), h4, u_j (by decide), h3, u_j (by decide), h2, u_hit, p1]
    · rw [h5, u_j (by decide), h4, u_j (by decide), h3, u_hit, km]
    · rw [h5, u_j (by decide), h4, u_hit]
    · rw [h5, u_hit]
    · intro t ht
      rw [x_v_fr fo]
      exact t_C_ruled_31 (d := d + 1) _ _ _ _ (hB t (fun c j hg => (fo_120 ht c j hg).trans (fo c j hg)))
theorem sp_M_ranked {G : jv_X} {d : Nat} {B : Option Value → jg_H → Prop} {s : jg_H} (hJ : J s) (k m : Int32) (hm : 0 ≤ m.toInt) (hm' : m.toInt < (s 146 0).toInt) (hB : ∀ t : jg_H, f_only 0 s t → B (some (.int (x_r s 0 k m))) t) : q_P G (d + 4) 185 [.ref 146, .int k, .int m] s B := by
  obtain ⟨b2, b3⟩ := J_n hJ
  obtain ⟨_, x5, x6⟩ := J_x hJ
  refine t_M_ranked (d := d + 3) k m ?_ ?_
  · clear hB hJ; ((try simp only [i_lt, i_le, i_eq, i_in, i_cn, Int32.toInt_add, Int32.toInt_sub, Int32.toInt_mul, Int32.toInt_neg, Int32.reduceToInt, Int.bmod_add_bmod, Int.add_bmod_bmod, Int.bmod_sub_bmod, Int.sub_bmod_bmod, Int.bmod_mul_bmod, Int.mul_bmod_bmod, Int.bmod_neg_bmod, Nat.reducePow, Int.reduceBmod, Int.reduceNeg, Int.reduceMul, Int.reduceAdd, Int.reduceSub, not_true_eq_false, not_false_eq_true] at *) <;> (try simp (disch := omega) only [i_bm'] at *) <;> omega)
  · refine sp_M_worked (d := d) hJ _ 0 k _ _ 0 0 x5 x6 (by decide) (by decide) ?_
    intro t ht
    exact t_M_ranked_22 (d := d + 3) _ _ _ (hB t (fo_170 ht))
