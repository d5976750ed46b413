/-! the reference's reader: expressions -/
def y_m (o : Int32) : Nat := if o = 0 ∨ o = 1 then 0 else if o = 4 ∨ o = 10 then 1 else 2
def y_mok (o v : Int32) : Prop := (o = 0 ∧ 0 ≤ v.toInt ∧ v.toInt ≤ 9999) ∨ (o = 1 ∧ 0 ≤ v.toInt ∧ v.toInt ≤ 7) ∨ (2 ≤ o.toInt ∧ o.toInt ≤ 10)
abbrev zW_M (t c j : Nat) : Prop := (c = 146 ∧ 40 ≤ j ∧ j ≤ 46) ∨ ((c = 163 ∨ c = 164) ∧ 200 * t ≤ j)
/-- how far the reader has come: where its token begins, and one more where it has gone wrong -/
def zm_f (s : jg_H) : Int := (s 146 41).toInt + (if s 146 44 = -1 then 0 else 1)
theorem zm_fl {s : jg_H} (h : s 146 44 = -1) : zm_f s = (s 146 41).toInt := by unfold zm_f; rw [if_pos h]; omega
theorem zm_fw {s : jg_H} (h : ¬ s 146 44 = -1) : zm_f s = (s 146 41).toInt + 1 := by unfold zm_f; rw [if_neg h]
def zm_D (t n m : Nat) (s s' : jg_H) : Prop := (∀ i, i < n → s' 163 (200 * t + i) = s 163 (200 * t + i) ∧ s' 164 (200 * t + i) = s 164 (200 * t + i)) ∧ (∀ i, n ≤ i → i < n + m → y_mok (s' 163 (200 * t + i)) (s' 164 (200 * t + i)))
def zm_E (t : Nat) (o : Int32) (s s' : jg_H) : Prop := zfr (zW_M t) s s' ∧ zm_ok s' ∧ s' 146 45 = o ∧ ∃ n m : Nat, (s 146 46).toInt = n ∧ (s' 146 46).toInt = ((n + m : Nat) : Int) ∧ (m : Int) + zm_f s ≤ zm_f s' ∧ (s' 146 44 = -1 → s 146 44 = -1 ∧ zm_D t n m s s' ∧ y_E (fun i => y_m (s' 163 (200 * t + i))) n m)
def zm_X (t q : Nat) (s s' : jg_H) : Prop := zfr (zW_M t) s s' ∧ zm_ok s' ∧ ∃ n m : Nat, (s 146 46).toInt = n ∧ (s' 146 46).toInt = ((n + m : Nat) : Int) ∧ (m : Int) + 1 + zm_f s ≤ zm_f s' ∧ (s' 146 44 = -1 → s 146 44 = -1 ∧ zm_D t n m s s' ∧ ∀ y : Nat → Nat, (∀ i, n ≤ i → i < n + m → y i = y_m (s' 163 (200 * t + i))) → y (n + m) = q → y_E y n (m + 1))
def zm_P (t : Nat) (s : jg_H) : Prop := t ≤ 7 ∧ (s 146 39).toInt = t ∧ 0 ≤ (s 146 45).toInt ∧ (s 146 45).toInt ≤ 6 ∧ zm_ok s ∧ 0 ≤ (s 146 46).toInt ∧ (s 146 46).toInt ≤ zm_f s
theorem zm_f_b {s : jg_H} (h : zm_ok s) : 0 ≤ zm_f s ∧ zm_f s ≤ 201 := by
  obtain ⟨h1, h2, h3, h4, -⟩ := h
  by_cases e : s 146 44 = -1
  · rw [zm_fl e]; omega
  · rw [zm_fw e]; omega
theorem zmf_39 {t : Nat} {s s' : jg_H} (f : zfr (zW_M t) s s') : s' 146 39 = s 146 39 := f 146 39 (by rintro (h | h) <;> omega)
theorem zmf_38 {t : Nat} {s s' : jg_H} (f : zfr (zW_M t) s s') : s' 146 38 = s 146 38 := f 146 38 (by rintro (h | h) <;> omega)
theorem zVM {t : Nat} {s s' : jg_H} (h : zfr zV_L s s') : zfr (zW_M t) s s' := zfr_sub (fun _ _ w => Or.inl ⟨w.1, w.2.1, by have := w.2.2; omega⟩) h
theorem zvl {s s' : jg_H} (f : zfr zV_L s s') : s' 146 44 = s 146 44 ∧ s' 146 45 = s 146 45 ∧ s' 146 46 = s 146 46 ∧ s' 163 = s 163 ∧ s' 164 = s 164 := ⟨f 146 44 (by decide), f 146 45 (by decide), f 146 46 (by decide), funext fun i => f 163 i (by rintro ⟨h, -⟩; omega), funext fun i => f 164 i (by rintro ⟨h, -⟩; omega)⟩
theorem zm_PE {t : Nat} {o : Int32} {s s' : jg_H} (hP : zm_P t s) (h : zm_E t o s s') (ho : 0 ≤ o.toInt ∧ o.toInt ≤ 6) : zm_P t s' := by
  obtain ⟨p1, p2, p3, p4, p5, p6, p7⟩ := hP
  obtain ⟨f, g, e, n, m, k2, k3, k4, -⟩ := h
  exact ⟨p1, by rw [zmf_39 f]; exact p2, by rw [e]; exact ho.1, by rw [e]; exact ho.2, g, by omega, by omega⟩
theorem zm_GF {s s' : jg_H} (hk : zm_ok s) (h : zm_G s s') : zm_f s ≤ zm_f s' := by
  obtain ⟨f, g, k⟩ := h
  have e := (zvl f).1
  obtain ⟨h1, h2, -⟩ := hk
  by_cases q : s 146 44 = -1
  · rw [zm_fl q, zm_fl (e.trans q)]; omega
  · rw [zm_fw q, zm_fw (fun z => q (e.symm.trans z))]; omega
theorem zm_PG {t : Nat} {s s' : jg_H} (hP : zm_P t s) (h : zm_G s s') : zm_P t s' := by
  obtain ⟨p1, p2, p3, p4, p5, p6, p7⟩ := hP
  have hf := zm_GF p5 h
  obtain ⟨f, g, k⟩ := h
  obtain ⟨e1, e2, e3, -⟩ := zvl f
  exact ⟨p1, by rw [f 146 39 (by decide)]; exact p2, by rw [e2]; exact p3, by rw [e2]; exact p4, g, by rw [e3]; exact p6, by rw [e3]; omega⟩
theorem zm_next {G : jv_X} {t d : Nat} (hd : 3 ≤ d) {B : Option Value → jg_H → Prop} {s : jg_H} (hP : zm_P t s) (hB : ∀ s', zm_G s s' → B none s') : q_P G d 134 [.ref 146] s B := by
  obtain ⟨a, b, c, e, -⟩ := hP.2.2.2.2.1
  exact zh_next hd (by omega) c e hB
theorem zm_ok_of {s s' : jg_H} (e : ∀ j, 38 ≤ j → j ≤ 43 → s' 146 j = s 146 j) (h : zm_ok s) : zm_ok s' := by
  unfold zm_ok at *
  rw [e 38 (by decide) (by decide), e 40 (by decide) (by decide), e 41 (by decide) (by decide), e 42 (by decide) (by decide), e 43 (by decide) (by decide)]
  exact h
theorem zm_ix {a b : Int32} {t n : Nat} (h1 : a.toInt = t) (h2 : t ≤ 7) (h3 : b.toInt = n) (h4 : n ≤ 399) : ((200 * a) + b).toInt = ((200 * t + n : Nat) : Int) := by ((try simp only [i_lt, i_le, i_eq, i_in, i_cn, Int32.toInt_add, Int32.toInt_sub, Int32.toInt_mul, Int32.toInt_neg, Int32.reduceToInt, Int.bmod_add_bmod, Int.add_bmod_bmod, Int.bmod_sub_bmod, Int.sub_bmod_bmod, Int.bmod_mul_bmod, Int.mul_bmod_bmod, Int.bmod_neg_bmod, Nat.reducePow, Int.reduceBmod, Int.reduceNeg, Int.reduceMul, Int.reduceAdd, Int.reduceSub, not_true_eq_false, not_false_eq_true] at *) <;> (try simp (disch := omega) only [i_bm'] at *) <;> omega)
theorem zm_ixn {a b : Int32} {t n : Nat} (h1 : a.toInt = t) (h2 : t ≤ 7) (h3 : b.toInt = n) (h4 : n ≤ 399) : ((200 * a) + b).toNatClampNeg = 200 * t + n ∧ jv_in ((200 * a) + b) 1800 = true := by
  have e := zm_ix h1 h2 h3 h4
  refine ⟨by rw [i_cn, e]; omega, ?_⟩
  rw [i_in, e]
  omega
/-- what is written, and its row -/
theorem zm_add {t q : Nat} {o x v : Int32} {s s' : jg_H} (hP : zm_P t s) (hX : zm_X t q s s') (ho : s' 146 45 = o) (hx : y_m x = q) (hk : y_mok x v) {C : jg_H → Prop} (hC : ∀ s3, zm_E t o s s3 → (∀ j, ¬ j = 46 → s3 146 j = s' 146 j) → C s3) :
    jv_in ((200 * (s' 146 39)) + (s' 146 46)) 1800 = true ∧ (∀ s1 : jg_H, s1 = jg_up s' 163 ((200 * (s' 146 39)) + (s' 146 46)).toNatClampNeg x → jv_in ((200 * (s1 146 39)) + (s1 146 46)) 1800 = true) ∧ (∀ s1 : jg_H, s1 = jg_up s' 163 ((200 * (s' 146 39)) + (s' 146 46)).toNatClampNeg x → ∀ s2 : jg_H, s2 = jg_up s1 164 ((200 * (s1 146 39)) + (s1 146 46)).toNatClampNeg v → ∀ s3 : jg_H, s3 = jg_up s2 146 46 ((s2 146 46) + 1) → C s3) := by
  obtain ⟨p1, p2, p3, p4, p5, p6, p7⟩ := hP
  obtain ⟨f, g, n, m, k2, k3, k4, k5⟩ := hX
  have fb := zm_f_b g
  have e39 : (s' 146 39).toInt = t := by rw [zmf_39 f]; exact p2
  obtain ⟨ei, ein⟩ := zm_ixn e39 p1 k3 (by omega)
  have a0 : ∀ s1 : jg_H, s1 = jg_up s' 163 ((200 * (s' 146 39)) + (s' 146 46)).toNatClampNeg x → ∀ j, s1 146 j = s' 146 j := fun s1 e1 j => by rw [e1, u_c (by decide)]
  refine ⟨ein, fun s1 e1 => by rw [a0 s1 e1, a0 s1 e1]; exact ein, fun s1 e1 s2 e2 s3 e3 => ?_⟩
  rw [a0 s1 e1, a0 s1 e1, ei] at e2
  have a1 := a0 s1 e1
  rw [ei] at e1
  have b0 : ∀ j, ¬ j = 46 → s3 146 j = s' 146 j := fun j hj => by rw [e3, u_j hj, e2, u_c (by decide), a1]
  have b46 : s3 146 46 = s' 146 46 + 1 := by rw [e3, u_hit, e2, u_c (by decide), a1]
  have c3 : ∀ i, ¬ i = n + m → s3 163 (200 * t + i) = s' 163 (200 * t + i) := fun i hi => by rw [e3, u_c (by decide), e2, u_c (by decide), e1, u_j (by omega)]
  have c4 : ∀ i, ¬ i = n + m → s3 164 (200 * t + i) = s' 164 (200 * t + i) := fun i hi => by rw [e3, u_c (by decide), e2, u_j (by omega), e1, u_c (by decide)]
  have d3 : s3 163 (200 * t + (n + m)) = x := by rw [e3, u_c (by decide), e2, u_c (by decide), e1, u_hit]
  have d4 : s3 164 (200 * t + (n + m)) = v := by rw [e3, u_c (by decide), e2, u_hit]
  have ez := z_p1 (a := s' 146 46) (by omega)
  have ff : zm_f s3 = zm_f s' := by unfold zm_f; rw [b0 41 (by decide), b0 44 (by decide)]
  refine hC _ ⟨?_, zm_ok_of (fun j h1 h2 => b0 j (by omega)) g, (b0 45 (by decide)).trans ho, n, m + 1, k2, by rw [b46]; omega, by rw [ff]; omega, fun l => ?_⟩ b0
  · rw [e3, e2, e1]
    exact zfr_up (zfr_up (zfr_up f (Or.inr ⟨Or.inl rfl, by omega⟩)) (Or.inr ⟨Or.inr rfl, by omega⟩)) (Or.inl ⟨rfl, by omega, by omega⟩)
  · obtain ⟨l1, ⟨l2, l3⟩, l4⟩ := k5 ((b0 44 (by decide)).symm.trans l)
    refine ⟨l1, ⟨fun i hi => by rw [c3 i (by omega), c4 i (by omega)]; exact l2 i hi, fun i h1 h2 => ?_⟩, l4 _ (fun i h1 h2 => congrArg y_m (c3 i (by omega))) (by show y_m (s3 163 (200 * t + (n + m))) = q; rw [d3]; exact hx)⟩
    by_cases hi : i = n + m
    · rw [hi, d3, d4]; exact hk
    · rw [c3 i hi, c4 i hi]; exact l3 i h1 (by omega)
/-- the state with the number of those that are not ended set: nothing else is told of it -/
theorem zm_X6 {t q : Nat} {o : Int32} {s s' : jg_H} (h : zm_X t q s s') : zm_X t q s (jg_up s' 146 45 o) := by
  obtain ⟨f, g, n, m, k2, k3, k4, k5⟩ := h
  have b0 : ∀ j, ¬ j = 45 → jg_up s' 146 45 o 146 j = s' 146 j := fun j hj => u_j hj
  have c3 : jg_up s' 146 45 o 163 = s' 163 := funext fun i => u_c (by decide)
  have c4 : jg_up s' 146 45 o 164 = s' 164 := funext fun i => u_c (by decide)
  have ff : zm_f (jg_up s' 146 45 o) = zm_f s' := by unfold zm_f; rw [b0 41 (by decide), b0 44 (by decide)]
  refine ⟨zfr_up f (Or.inl ⟨rfl, by omega, by omega⟩), zm_ok_of (fun j h1 h2 => b0 j (by omega)) g, n, m, k2, by rw [b0 46 (by decide)]; exact k3, by rw [ff]; exact k4, fun l => ?_⟩
  rw [b0 44 (by decide)] at l
  unfold zm_D at *
  rw [c3, c4]
  exact k5 l
theorem zm_E6 {t : Nat} {o o' : Int32} {s s' : jg_H} (h : zm_E t o s s') : zm_E t o' s (jg_up s' 146 45 o') := by
  obtain ⟨f, g, e, n, m, k2, k3, k4, k5⟩ := h
  have b0 : ∀ j, ¬ j = 45 → jg_up s' 146 45 o' 146 j = s' 146 j := fun j hj => u_j hj
  have c3 : jg_up s' 146 45 o' 163 = s' 163 := funext fun i => u_c (by decide)
  have c4 : jg_up s' 146 45 o' 164 = s' 164 := funext fun i => u_c (by decide)
  have ff : zm_f (jg_up s' 146 45 o') = zm_f s' := by unfold zm_f; rw [b0 41 (by decide), b0 44 (by decide)]
  refine ⟨zfr_up f (Or.inl ⟨rfl, by omega, by omega⟩), zm_ok_of (fun j h1 h2 => b0 j (by omega)) g, u_hit, n, m, k2, by rw [b0 46 (by decide)]; exact k3, by rw [ff]; exact k4, fun l => ?_⟩
  rw [b0 44 (by decide)] at l
  unfold zm_D at *
  rw [c3, c4]
  exact k5 l
/-- it goes wrong here and now -/
theorem zm_cannot {t : Nat} {s : jg_H} (hP : zm_P t s) (hl : s 146 44 = -1) : zm_E t (s 146 45) s (jg_up s 146 44 (s 146 41)) := by
  obtain ⟨p1, p2, p3, p4, p5, p6, p7⟩ := hP
  have w : ¬ jg_up s 146 44 (s 146 41) 146 44 = -1 := by rw [u_hit]; exact z_nm1 p5.1
  refine ⟨zfr_up zfr_refl (Or.inl ⟨rfl, by omega, by omega⟩), zm_ok_of (fun j h1 h2 => u_j (by omega)) p5, u_j (by decide), (s 146 46).toInt.toNat, 0, by omega, by rw [u_j (by decide)]; omega, ?_, fun l => absurd l w⟩
  rw [zm_fl hl, zm_fw w, u_j (by decide)]
  omega
/-- it had gone wrong -/
theorem zm_wrong {t : Nat} {s : jg_H} (hP : zm_P t s) (hl : ¬ s 146 44 = -1) : zm_E t (s 146 45) s s := by
  obtain ⟨p1, p2, p3, p4, p5, p6, p7⟩ := hP
  exact ⟨zfr_refl, p5, rfl, (s 146 46).toInt.toNat, 0, by omega, by omega, by omega, fun l => absurd l hl⟩
/-- a fifth opener would be one too many -/
theorem zm_five {t q : Nat} {s s1 : jg_H} {o : Int32} (hP : zm_P t s) (hl : s 146 44 = -1) (e1 : s1 = jg_up (jg_up s 146 44 (s 146 41)) 146 45 o) : zm_X t q s s1 ∧ ¬ s1 146 44 = -1 := by
  obtain ⟨p1, p2, p3, p4, p5, p6, p7⟩ := hP
  have w : ¬ s1 146 44 = -1 := by rw [e1, u_j (by decide), u_hit]; exact z_nm1 p5.1
  have b0 : ∀ j, ¬ j = 44 → ¬ j = 45 → s1 146 j = s 146 j := fun j h1 h2 => by rw [e1, u_j h2, u_j h1]
  refine ⟨⟨by rw [e1]; exact zfr_up (zfr_up zfr_refl (Or.inl ⟨rfl, by omega, by omega⟩)) (Or.inl ⟨rfl, by omega, by omega⟩), zm_ok_of (fun j h1 h2 => b0 j (by omega) (by omega)) p5, (s 146 46).toInt.toNat, 0, by omega, by rw [b0 46 (by decide) (by decide)]; omega, ?_, fun l => absurd l w⟩, w⟩
  rw [zm_fl hl, zm_fw w, b0 41 (by decide) (by decide)]
  omega
/-- an opener and what it belongs to -/
theorem zm_un {t : Nat} {o1 o2 : Int32} {s s1 s2 s3 : jg_H} (hP : zm_P t s) (hl : s 146 44 = -1) (ht : ¬ s 146 42 = 0) (e1 : s1 = jg_up s 146 45 o1) (g : zm_G s1 s2) (b : zm_E t o2 s2 s3) : zm_X t 1 s s3 := by
  obtain ⟨p1, p2, p3, p4, p5, p6, p7⟩ := hP
  obtain ⟨gf, gg, gk⟩ := g
  obtain ⟨bf, bg, -, n, m, k2, k3, k4, k5⟩ := b
  obtain ⟨v1, v2, v3, v4, v5⟩ := zvl gf
  have b0 : ∀ j, ¬ j = 45 → s1 146 j = s 146 j := fun j hj => by rw [e1, u_j hj]
  have c3 : s2 163 = s 163 := v4.trans (by rw [e1]; exact funext fun i => u_c (by decide))
  have c4 : s2 164 = s 164 := v5.trans (by rw [e1]; exact funext fun i => u_c (by decide))
  have l2 : s2 146 44 = -1 := v1.trans ((b0 44 (by decide)).trans hl)
  have f2 := zm_fl l2
  have f0 := zm_fl hl
  rw [b0 40 (by decide)] at gk
  obtain ⟨q1, q2, q3, q4, q5, -⟩ := p5
  refine ⟨zfr_trans (by rw [e1]; exact zfr_up zfr_refl (Or.inl ⟨rfl, by omega, by omega⟩)) (zfr_trans (zVM gf) bf), bg, n, m, by rw [← k2, v3, b0 46 (by decide)], k3, by rcases q5 with q5 | q5; (exact absurd q5 ht); omega, fun l => ?_⟩
  obtain ⟨k6, ⟨k7, k8⟩, k9⟩ := k5 l
  exact ⟨hl, ⟨fun i hi => by rw [← c3, ← c4]; exact k7 i hi, k8⟩, fun y h1 h2 => y_un (y_Eq (fun i a b => h1 i a b) k9) h2⟩
theorem zm_bi {t : Nat} {o o2 : Int32} {s0 s s1 s2 : jg_H} (a : zm_E t o s0 s) (hl : s 146 44 = -1) (ht : ¬ s 146 42 = 0) (g : zm_G s s1) (b : zm_E t o2 s1 s2) : zm_X t 2 s0 s2 := by
  obtain ⟨af, ag, -, n, m, l2, l3, l4, l5⟩ := a
  obtain ⟨gf, gg, gk⟩ := g
  obtain ⟨bf, bg, -, n', m', k2, k3, k4, k5⟩ := b
  obtain ⟨v1, v2, v3, v4, v5⟩ := zvl gf
  have f1 := zm_fl (v1.trans hl)
  have f0 := zm_fl hl
  have en : n' = n + m := by rw [v3] at k2; omega
  subst en
  obtain ⟨q1, q2, q3, q4, q5, -⟩ := ag
  refine ⟨zfr_trans af (zfr_trans (zVM gf) bf), bg, n, m + m', l2, by omega, by rcases q5 with q5 | q5; (exact absurd q5 ht); omega, fun l => ?_⟩
  obtain ⟨k6, ⟨k7, k8⟩, k9⟩ := k5 l
  obtain ⟨r6, ⟨r7, r8⟩, r9⟩ := l5 hl
  rw [v4, v5] at k7
  refine ⟨r6, ⟨fun i hi => ?_, fun i h1 h2 => ?_⟩, fun y h1 h2 => ?_⟩
  · rw [(k7 i (by omega)).1, (k7 i (by omega)).2]; exact r7 i hi
  · by_cases hi : i < n + m
    · rw [(k7 i hi).1, (k7 i hi).2]; exact r8 i h1 hi
    · exact k8 i (by omega) (by omega)
  · refine y_bin (y_Eq (fun i a b => ?_) r9) (y_Eq (fun i a b => ?_) k9) (by rw [Nat.add_assoc]; exact h2)
    · show y i = y_m (s 163 (200 * t + i))
      rw [h1 i a (by omega), (k7 i b).1]
    · exact h1 i (by omega) (by omega)
/-- what stands in brackets, and the sign behind it -/
theorem zm_pa {t : Nat} {o1 o2 : Int32} {s s1 s2 s3 : jg_H} (hP : zm_P t s) (hl : s 146 44 = -1) (e1 : s1 = jg_up s 146 45 o1) (g : zm_G s1 s2) (b : zm_E t o2 s2 s3) : zm_E t (s3 146 45) s s3 := by
  obtain ⟨p1, p2, p3, p4, p5, p6, p7⟩ := hP
  obtain ⟨gf, gg, gk⟩ := g
  obtain ⟨bf, bg, -, n, m, k2, k3, k4, k5⟩ := b
  obtain ⟨v1, v2, v3, v4, v5⟩ := zvl gf
  have b0 : ∀ j, ¬ j = 45 → s1 146 j = s 146 j := fun j hj => by rw [e1, u_j hj]
  have c3 : s2 163 = s 163 := v4.trans (by rw [e1]; exact funext fun i => u_c (by decide))
  have c4 : s2 164 = s 164 := v5.trans (by rw [e1]; exact funext fun i => u_c (by decide))
  have f2 := zm_fl (v1.trans ((b0 44 (by decide)).trans hl))
  have f0 := zm_fl hl
  rw [b0 40 (by decide)] at gk
  obtain ⟨q1, q2, q3, q4, q5, -⟩ := p5
  refine ⟨zfr_trans (by rw [e1]; exact zfr_up zfr_refl (Or.inl ⟨rfl, by omega, by omega⟩)) (zfr_trans (zVM gf) bf), bg, rfl, n, m, by rw [← k2, v3, b0 46 (by decide)], k3, by omega, fun l => ?_⟩
  obtain ⟨k6, ⟨k7, k8⟩, k9⟩ := k5 l
  exact ⟨hl, ⟨fun i hi => by rw [← c3, ← c4]; exact k7 i hi, k8⟩, k9⟩
/-- a token more behind an expression -/
theorem zm_EG {t : Nat} {o : Int32} {s s1 s2 : jg_H} (a : zm_E t o s s1) (g : zm_G s1 s2) : zm_E t o s s2 := by
  have hf := zm_GF a.2.1 g
  obtain ⟨af, ag, ao, n, m, l2, l3, l4, l5⟩ := a
  obtain ⟨gf, gg, gk⟩ := g
  obtain ⟨v1, v2, v3, v4, v5⟩ := zvl gf
  refine ⟨zfr_trans af (zVM gf), gg, v2.trans ao, n, m, l2, by rw [v3]; exact l3, by omega, fun l => ?_⟩
  unfold zm_D at *
  rw [v4, v5]
  exact l5 (v1.symm.trans l)
/-- an expression, and it goes wrong behind it -/
theorem zm_EW {t : Nat} {o : Int32} {s s1 s2 : jg_H} (a : zm_E t o s s1) (hl : s1 146 44 = -1) (e2 : s2 = jg_up s1 146 44 (s1 146 41)) : zm_E t o s s2 := by
  obtain ⟨af, ag, ao, n, m, l2, l3, l4, l5⟩ := a
  have b0 : ∀ j, ¬ j = 44 → s2 146 j = s1 146 j := fun j hj => by rw [e2, u_j hj]
  have w : ¬ s2 146 44 = -1 := by rw [e2, u_hit]; exact z_nm1 ag.1
  have f1 := zm_fl hl
  have f2 := zm_fw w
  rw [b0 41 (by decide)] at f2
  exact ⟨by rw [e2]; exact zfr_up af (Or.inl ⟨rfl, by omega, by omega⟩), zm_ok_of (fun j h1 h2 => b0 j (by omega)) ag, (b0 45 (by decide)).trans ao, n, m, l2, by rw [b0 46 (by decide)]; exact l3, by omega, fun l => absurd l w⟩
/-- a number or a name, and the next token -/
theorem zm_leaf {t : Nat} {x v : Int32} {s s1 s2 s3 s4 : jg_H} (hP : zm_P t s) (hl : s 146 44 = -1) (ht : ¬ s 146 42 = 0) (hx : y_m x = 0) (hk : y_mok x v) (e1 : s1 = jg_up s 163 ((200 * (s 146 39)) + (s 146 46)).toNatClampNeg x) (e2 : s2 = jg_up s1 164 ((200 * (s1 146 39)) + (s1 146 46)).toNatClampNeg v) (e3 : s3 = jg_up s2 146 46 ((s2 146 46) + 1)) (g : zm_G s3 s4) : zm_E t (s 146 45) s s4 := by
  obtain ⟨p1, p2, p3, p4, p5, p6, p7⟩ := hP
  have fb := zm_f_b p5
  obtain ⟨n, hn⟩ : ∃ n : Nat, (s 146 46).toInt = n := ⟨(s 146 46).toInt.toNat, by omega⟩
  obtain ⟨ei, ein⟩ := zm_ixn p2 p1 hn (by omega)
  have a1 : ∀ j, s1 146 j = s 146 j := fun j => by rw [e1, u_c (by decide)]
  rw [a1, a1, ei] at e2
  rw [ei] at e1
  have b0 : ∀ j, ¬ j = 46 → s3 146 j = s 146 j := fun j hj => by rw [e3, u_j hj, e2, u_c (by decide), a1]
  have b46 : s3 146 46 = s 146 46 + 1 := by rw [e3, u_hit, e2, u_c (by decide), a1]
  have c3 : ∀ i, ¬ i = n → s3 163 (200 * t + i) = s 163 (200 * t + i) := fun i hi => by rw [e3, u_c (by decide), e2, u_c (by decide), e1, u_j (by omega)]
  have c4 : ∀ i, ¬ i = n → s3 164 (200 * t + i) = s 164 (200 * t + i) := fun i hi => by rw [e3, u_c (by decide), e2, u_j (by omega), e1, u_c (by decide)]
  have d3 : s3 163 (200 * t + n) = x := by rw [e3, u_c (by decide), e2, u_c (by decide), e1, u_hit]
  have d4 : s3 164 (200 * t + n) = v := by rw [e3, u_c (by decide), e2, u_hit]
  have ez := z_p1 (a := s 146 46) (by omega)
  obtain ⟨gf, gg, gk⟩ := g
  obtain ⟨v1, v2, v3, v4, v5⟩ := zvl gf
  have f0 := zm_fl hl
  have f4 := zm_fl (v1.trans ((b0 44 (by decide)).trans hl))
  rw [b0 40 (by decide)] at gk
  obtain ⟨q1, q2, q3, q4, q5, -⟩ := p5
  refine ⟨?_, gg, v2.trans (b0 45 (by decide)), n, 1, hn, by rw [v3, b46]; omega, by rcases q5 with q5 | q5; (exact absurd q5 ht); omega, fun l => ⟨hl, ?_⟩⟩
  · refine zfr_trans ?_ (zVM gf)
    rw [e3, e2, e1]
    exact zfr_up (zfr_up (zfr_up zfr_refl (Or.inr ⟨Or.inl rfl, by omega⟩)) (Or.inr ⟨Or.inr rfl, by omega⟩)) (Or.inl ⟨rfl, by omega, by omega⟩)
  · unfold zm_D
    rw [v4, v5]
    refine ⟨⟨fun i hi => ⟨c3 i (by omega), c4 i (by omega)⟩, fun i h1 h2 => ?_⟩, y_push ?_⟩
    · rw [show i = n by omega, d3, d4]; exact hk
    · show y_m (s3 163 (200 * t + n)) = 0
      rw [d3]; exact hx
def zm_C (G : jv_X) (t k D m : Nat) : Prop := ∀ (d : Nat), D ≤ d → ∀ (s : jg_H) (B : Option Value → jg_H → Prop), zm_P t s → (s 146 44 = -1 → 5 ≤ (s 146 45).toInt + m ∧ (s 146 45).toInt ≤ 5) → (∀ s', zm_E t (s 146 45) s s' → B none s') → q_P G d k [.ref 146] s B
/-- openers -/
theorem zm_opens {G : jv_X} {t d : Nat} (hd : 5 ≤ d) {B : Option Value → jg_H → Prop} {s : jg_H} (hP : zm_P t s) (hl : s 146 44 = -1) (h5 : (s 146 45).toInt ≤ 5) (k1 : (s 146 45).toInt < 5 → ∀ s1, s1 = jg_up s 146 45 ((s 146 45) + 1) → ∀ s2, zm_G s1 s2 → B none s2) (k2 : (s 146 45).toInt = 5 → ∀ s1, s1 = jg_up (jg_up s 146 44 (s 146 41)) 146 45 ((s 146 45) + 1) → B none s1) : q_P G d 146 [.ref 146] s B := by
  obtain ⟨d, rfl⟩ : ∃ e, d = e + 2 := ⟨d - 2, by omega⟩
  have e5 : (5 : Int32).toInt = 5 := rfl
  have h0 := hP.2.2.2.2.1.1
  refine t_M_opens (d := d) (fun n s1 e1 _ => ?_) (fun n s1 e1 w => ?_) (fun _ w => absurd hl w) (fun _ w => absurd hl w) (fun _ _ s4 e4 s5 e5 l => ?_) (fun n _ s4 e4 s5 e5' _ => ?_)
  · have hlt : (s 146 45).toInt < 5 := by
      have : ¬ (s 146 45).toInt = 5 := fun e => n (Int32.toInt_inj.mp (e.trans e5.symm))
      omega
    obtain ⟨a, b, c, e, -⟩ := hP.2.2.2.2.1
    have b0 : ∀ j, ¬ j = 45 → s1 146 j = s 146 j := fun j hj => by rw [e1, u_j hj]
    exact zh_next (by omega) (by rw [b0 40 (by decide)]; omega) (by rw [b0 40 (by decide), b0 38 (by decide)]; exact c) (by rw [b0 38 (by decide)]; exact e) (fun s2 g => t_M_opens_33 (d := d) (k1 hlt s1 e1 s2 g))
  · rw [e1, u_j (by decide)] at w
    exact absurd hl w
  · rw [e5, u_j (by decide), e4, u_hit] at l
    exact absurd l (z_nm1 h0)
  · refine k2 (by rw [n]; rfl) s5 ?_
    rw [e5', e4, u_j (by decide)]
/-- where it has gone wrong, nothing more is read -/
theorem zm_w1 {G : jv_X} {d : Nat} (hd : 2 ≤ d) {B : Option Value → jg_H → Prop} {s : jg_H} (hw : ¬ s 146 44 = -1) (hB : B none s) : q_P G d 150 [.ref 146] s B := by
  obtain ⟨d, rfl⟩ : ∃ e, d = e + 2 := ⟨d - 2, by omega⟩
  exact t_M_one (d := d) (fun l => absurd l hw) (fun l => absurd l hw) (fun l => absurd l hw) (fun l => absurd l hw) (fun l => absurd l hw) (fun l => absurd l hw) (fun l => absurd l hw) (fun l => absurd l hw) (fun l => absurd l hw) (fun _ => hB)
theorem zm_w4 {G : jv_X} {d : Nat} (hd : 2 ≤ d) {B : Option Value → jg_H → Prop} {s : jg_H} (hw : ¬ s 146 44 = -1) (hB : B none s) : q_P G d 145 [.ref 146] s B := by
  obtain ⟨d, rfl⟩ : ∃ e, d = e + 2 := ⟨d - 2, by omega⟩
  exact t_M_not (d := d) (fun l => absurd l hw) (fun l => absurd l hw) (fun _ => hB)
theorem zm_w5 {G : jv_X} {d : Nat} (hd : 3 ≤ d) {B : Option Value → jg_H → Prop} {s : jg_H} (hw : ¬ s 146 44 = -1) (hB : B none s) : q_P G d 144 [.ref 146] s B := by
  obtain ⟨d, rfl⟩ : ∃ e, d = e + 2 := ⟨d - 2, by omega⟩
  exact t_M_both (d := d) (zm_w4 (by omega) hw (t_M_both_4 (d := d) (fun l => absurd l hw) (fun l => absurd l hw) (fun _ => hB)))
theorem zm_w6 {G : jv_X} {d : Nat} (hd : 4 ≤ d) {B : Option Value → jg_H → Prop} {s : jg_H} (hw : ¬ s 146 44 = -1) (hB : B none s) : q_P G d 143 [.ref 146] s B := by
  obtain ⟨d, rfl⟩ : ∃ e, d = e + 2 := ⟨d - 2, by omega⟩
  exact t_M_either (d := d) (zm_w5 (by omega) hw (t_M_either_4 (d := d) (fun l => absurd l hw) (fun l => absurd l hw) (fun _ => hB)))
/-- a sign that is asked for -/
theorem zm_need {G : jv_X} {d : Nat} (hd : 5 ≤ d) {B : Option Value → jg_H → Prop} {s : jg_H} {a : Int32} (hk : zm_ok s) (k1 : s 146 44 = -1 → ∀ s', zm_G s s' → B none s') (k2 : s 146 44 = -1 → ∀ s', s' = jg_up s 146 44 (s 146 41) → B none s') (k3 : ¬ s 146 44 = -1 → B none s) : q_P G d 140 [.ref 146, .int a] s B := by
  obtain ⟨d, rfl⟩ : ∃ e, d = e + 2 := ⟨d - 2, by omega⟩
  obtain ⟨h1, h2, h3, h4, -⟩ := hk
  exact t_M_need (d := d) a (fun l _ => zh_next (by omega) (by omega) h3 h4 (fun s' g => t_M_need_27 (d := d) a (k1 l s' g))) (fun l _ s1 e1 => k2 l s1 e1) k3
theorem z_po {a : Int32} (h0 : 0 ≤ a.toInt) (h1 : a.toInt ≤ 5) : (a + 1).toInt = a.toInt + 1 ∧ a + 1 - 1 = a := by
  have e := z_p1 (a := a) (by omega)
  refine ⟨e, ?_⟩
  apply Int32.toInt_inj.mp
  rw [z_m1 (by omega), e]
  omega
/-- the state behind an opener -/
theorem zm_PO {t : Nat} {s s1 s2 : jg_H} (hP : zm_P t s) (h5 : (s 146 45).toInt < 5) (e1 : s1 = jg_up s 146 45 ((s 146 45) + 1)) (g : zm_G s1 s2) : zm_P t s2 ∧ s2 146 45 = s 146 45 + 1 ∧ s2 146 44 = s 146 44 := by
  obtain ⟨p1, p2, p3, p4, p5, p6, p7⟩ := hP
  obtain ⟨ep, -⟩ := z_po p3 (by omega)
  have b0 : ∀ j, ¬ j = 45 → s1 146 j = s 146 j := fun j hj => by rw [e1, u_j hj]
  have b5 : s1 146 45 = s 146 45 + 1 := by rw [e1, u_hit]
  have hP1 : zm_P t s1 := ⟨p1, by rw [b0 39 (by decide)]; exact p2, by rw [b5]; omega, by rw [b5]; omega, zm_ok_of (fun j h1 h2 => b0 j (by omega)) p5, by rw [b0 46 (by decide)]; exact p6, by
    have : zm_f s1 = zm_f s := by unfold zm_f; rw [b0 41 (by decide), b0 44 (by decide)]
    rw [b0 46 (by decide), this]; exact p7⟩
  obtain ⟨v1, v2, -⟩ := zvl g.1
  exact ⟨zm_PG hP1 g, v2.trans b5, v1.trans (b0 44 (by decide))⟩
theorem zm_one {G : jv_X} {t D m : Nat} (hD : 5 ≤ D) (hO : ∀ m', m = m' + 1 → zm_C G t 143 D m' ∧ zm_C G t 150 D m') : zm_C G t 150 (D + 1) m := by
  intro d hd s B hP hm hB
  obtain ⟨d, rfl⟩ : ∃ e, d = e + 2 := ⟨d - 2, by omega⟩
  have fb := zm_f_b hP.2.2.2.2.1
  obtain ⟨n, hn⟩ : ∃ n : Nat, (s 146 46).toInt = n := ⟨(s 146 46).toInt.toNat, by have := hP.2.2.2.2.2.1; omega⟩
  obtain ⟨ei, ein⟩ := zm_ixn hP.2.1 hP.1 hn (by have := hP.2.2.2.2.2.2; omega)
  have a1 : ∀ x : Int32, ∀ s1 : jg_H, s1 = jg_up s 163 ((200 * (s 146 39)) + (s 146 46)).toNatClampNeg x → jv_in ((200 * (s1 146 39)) + (s1 146 46)) 1800 = true := fun x s1 e1 => by
    rw [e1, u_c (by decide), u_c (by decide)]
    exact ein
  have put : ∀ x : Int32, s 146 44 = -1 → ¬ s 146 42 = 0 → y_m x = 0 → y_mok x (s 146 43) → ∀ s1 : jg_H, s1 = jg_up s 163 ((200 * (s 146 39)) + (s 146 46)).toNatClampNeg x → ∀ s2 : jg_H, s2 = jg_up s1 164 ((200 * (s1 146 39)) + (s1 146 46)).toNatClampNeg (s 146 43) → ∀ s3 : jg_H, s3 = jg_up s2 146 46 ((s2 146 46) + 1) → q_P G (d + 1) 134 [.ref 146] s3 (fun v t' => q_W G (d + 1) jm_M_one B 49 [some (.ref 146)] (v.toList ++ []) t') := fun x hl ht hx hk s1 e1 s2 e2 s3 e3 => by
    obtain ⟨q1, q2, q3, q4, -⟩ := hP.2.2.2.2.1
    have c0 : ∀ j, ¬ j = 46 → s3 146 j = s 146 j := fun j hj => by rw [e3, u_j hj, e2, u_c (by decide), e1, u_c (by decide)]
    refine zh_next (by omega) (by rw [c0 40 (by decide)]; omega) (by rw [c0 40 (by decide), c0 38 (by decide)]; exact q3) (by rw [c0 38 (by decide)]; exact q4) (fun s4 g => t_M_one_49 (d := d) (hB _ (zm_leaf hP hl ht hx hk e1 e2 e3 g)))
  refine t_M_one (d := d) (fun _ _ => ein) (fun _ _ => a1 0) (fun l h => put 0 l (by rw [h]; decide) (by decide) (Or.inl ⟨rfl, hP.2.2.2.2.1.2.2.2.2.2.1 h⟩)) (fun l _ _ _ _ s4 e4 => ?_) (fun l _ _ _ h => ?_) (fun l _ _ h => ?_) (fun _ _ _ => ein) (fun _ _ _ => a1 1) (fun l _ h => put 1 l (by rw [h]; decide) (by decide) (Or.inr (Or.inl ⟨rfl, hP.2.2.2.2.1.2.2.2.2.2.2 h⟩))) (fun w => hB _ (zm_wrong hP w))
  · subst e4
    exact hB _ (zm_cannot hP l)
  · -- brackets
    obtain ⟨m5, o5⟩ := hm l
    refine zm_opens (by omega) hP l o5 (fun lt s1 e1 s2 g => ?_) (fun eq s1 e1 => ?_)
    · obtain ⟨m', rfl⟩ : ∃ m', m = m' + 1 := ⟨m - 1, by omega⟩
      obtain ⟨hS, -⟩ := hO m' rfl
      obtain ⟨hP2, e45, e44⟩ := zm_PO hP lt e1 g
      obtain ⟨z1, z2⟩ := z_po hP.2.2.1 (by omega)
      refine t_M_one_102 (d := d) (hS (d + 1) (by omega) s2 _ hP2 (fun _ => by rw [e45]; omega) (fun s3 b => t_M_one_106 (d := d) ?_))
      have hpa := zm_pa hP l e1 g b
      have f45 : s3 146 45 - 1 = s 146 45 := by rw [b.2.2.1, e45]; exact z2
      have fin : ∀ s4, zm_E t (s3 146 45) s s4 → q_W G (d + 1) jm_M_one B 112 [some (.ref 146)] [] s4 := fun s4 h4 => t_M_one_112 (d := d) (fun s5 e5 => by
        rw [h4.2.2.1, f45] at e5
        rw [e5]
        exact hB _ (zm_E6 h4))
      exact zm_need (by omega) b.2.1 (fun _ s4 g4 => fin s4 (zm_EG hpa g4)) (fun l4 s4 e4 => fin s4 (zm_EW hpa l4 e4)) (fun _ => fin s3 hpa)
    · obtain ⟨hX, hw⟩ := zm_five (q := 1) hP l e1
      obtain ⟨z1, z2⟩ := z_po hP.2.2.1 o5
      have o1 : s1 146 45 = s 146 45 + 1 := by rw [e1, u_hit]
      refine t_M_one_102 (d := d) (zm_w6 (by omega) hw (t_M_one_106 (d := d) (zm_need (by omega) hX.2.1 (fun l => absurd l hw) (fun l => absurd l hw) (fun _ => t_M_one_112 (d := d) (fun s5 e5 => ?_)))))
      have hc := zm_E6 (o' := s 146 45) (zm_cannot hP l)
      rw [o1, z2] at e5
      have : s5 = jg_up (jg_up s 146 44 (s 146 41)) 146 45 (s 146 45) := by
        rw [e5, e1]
        funext c j
        unfold jg_up
        by_cases q : c = 146 ∧ j = 45
        · rw [if_pos q, if_pos q]
        · rw [if_neg q, if_neg q, if_neg q]
      rw [this]
      exact hB _ hc
  · -- a sign ahead of one
    obtain ⟨m5, o5⟩ := hm l
    have fin : ∀ s3, zm_X t 1 s s3 → s3 146 45 - 1 = s 146 45 → q_W G (d + 1) jm_M_one B 69 [some (.ref 146)] [] s3 := fun s3 hX f45 => by
      have ad := fun (s4 : jg_H) (e4 : s4 = jg_up s3 146 45 ((s3 146 45) - 1)) => zm_add (x := 10) (v := 0) (o := s 146 45) (s' := s4) (q := 1) hP (by rw [e4]; exact zm_X6 hX) (by rw [e4, u_hit]; exact f45) (by decide) (Or.inr (Or.inr ⟨by decide, by decide⟩)) (C := fun s' => B none s') (fun s' h _ => hB s' h)
      exact t_M_one_69 (d := d) (fun s4 e4 => (ad s4 e4).1) (fun s4 e4 => (ad s4 e4).2.1) (fun s4 e4 => (ad s4 e4).2.2)
    refine zm_opens (by omega) hP l o5 (fun lt s1 e1 s2 g => ?_) (fun eq s1 e1 => ?_)
    · obtain ⟨m', rfl⟩ : ∃ m', m = m' + 1 := ⟨m - 1, by omega⟩
      obtain ⟨-, hS⟩ := hO m' rfl
      obtain ⟨hP2, e45, e44⟩ := zm_PO hP lt e1 g
      obtain ⟨z1, z2⟩ := z_po hP.2.2.1 (by omega)
      exact t_M_one_65 (d := d) (hS (d + 1) (by omega) s2 _ hP2 (fun _ => by rw [e45]; omega) (fun s3 b => fin s3 (zm_un hP l (by rw [h]; decide) e1 g b) (by rw [b.2.2.1, e45]; exact z2)))
    · obtain ⟨hX, hw⟩ := zm_five (q := 1) hP l e1
      obtain ⟨z1, z2⟩ := z_po hP.2.2.1 o5
      exact t_M_one_65 (d := d) (zm_w1 (by omega) hw (fin s1 hX (by rw [e1, u_hit]; exact z2)))
theorem zm_termL {G : jv_X} {t D m : Nat} (hD : 5 ≤ D) (hO : zm_C G t 150 D m) {d : Nat} (hd : D ≤ d + 1) {s0 : jg_H} {B : Option Value → jg_H → Prop} (hP : zm_P t s0) (hm : s0 146 44 = -1 → 5 ≤ (s0 146 45).toInt + m ∧ (s0 146 45).toInt ≤ 5) (hB : ∀ s', zm_E t (s0 146 45) s0 s' → B none s') :
    ∀ (n : Nat) (s : jg_H), (s 146 44 = -1 → (s 146 38).toInt + 1 ≤ (s 146 41).toInt + n) → zm_E t (s0 146 45) s0 s → q_W G (d + 1) jm_M_term B 4 [some (.ref 146)] [] s
  | n, s, hn, hE => by
    have hP1 := zm_PE hP hE ⟨hP.2.2.1, hP.2.2.2.1⟩
    have go : s 146 44 = -1 → ¬ s 146 42 = 0 → q_P G (d + 1) 134 [.ref 146] s (fun v t' => q_W G (d + 1) jm_M_term B 24 [some (.ref 146)] (v.toList ++ []) t') := fun l ht => by
      have hn := hn l
      obtain ⟨q1, q2, q3, q4, q5, -⟩ := hP1.2.2.2.2.1
      have hlt : (s 146 41).toInt < (s 146 40).toInt := by
        rcases q5 with q5 | q5
        · exact absurd q5 ht
        · exact q5
      match n, hn with
      | 0, hn => omega
      | n + 1, hn =>
        refine zm_next (by omega) hP1 (fun s1 g => ?_)
        refine t_M_term_24 (d := d) ?_
        have hP2 := zm_PG hP1 g
        obtain ⟨v1, v2, v3, v4, v5⟩ := zvl g.1
        have lv : 5 ≤ (s1 146 45).toInt + m ∧ (s1 146 45).toInt ≤ 5 := by
          obtain ⟨-, -, e, n', m', -, -, -, k⟩ := hE
          rw [v2, e]
          exact hm (k l).1
        refine hO (d + 1) hd s1 _ hP2 (fun _ => lv) (fun s2 b => ?_)
        have far : ∀ s3, zm_E t (s0 146 45) s0 s3 → (∀ j, ¬ j = 46 → s3 146 j = s2 146 j) → s3 146 44 = -1 → (s3 146 38).toInt + 1 ≤ (s3 146 41).toInt + n := fun s3 hE3 b3 l3 => by
          have f1 := zm_fl (v1.trans l)
          have f2 := zm_fl ((b3 44 (by decide)).symm.trans l3)
          have gk := g.2.2
          have e38 : s3 146 38 = s 146 38 := (zmf_38 hE3.1).trans (zmf_38 hE.1).symm
          obtain ⟨-, -, -, n', m', -, -, k, -⟩ := b
          rw [e38, b3 41 (by decide)]
          omega
        obtain ⟨w1, w2, w3⟩ := zm_add (x := 9) (v := 0) hP (zm_bi hE l ht g b) (b.2.2.1.trans (v2.trans hE.2.2.1)) (by decide) (Or.inr (Or.inr ⟨by decide, by decide⟩)) (C := fun s3 => q_W G (d + 1) jm_M_term B 4 [some (.ref 146)] [] s3) (fun s3 hE3 b3 => zm_termL hD hO hd hP hm hB n s3 (far s3 hE3 b3) hE3)
        exact t_M_term_28 (d := d) w1 w2 w3
    exact t_M_term_4 (d := d) (fun _ _ => hB s hE) (fun l ht => go l (by rw [ht]; decide)) (fun _ => hB s hE)
theorem zm_term {G : jv_X} {t D m : Nat} (hD : 5 ≤ D) (hO : zm_C G t 150 D m) : zm_C G t 149 (D + 1) m := by
  intro d hd s B hP hm hB
  obtain ⟨d, rfl⟩ : ∃ e, d = e + 2 := ⟨d - 2, by omega⟩
  refine t_M_term (d := d) (hO (d + 1) (by omega) s _ hP hm (fun s1 h => ?_))
  have hP1 := zm_PE hP h ⟨hP.2.2.1, hP.2.2.2.1⟩
  obtain ⟨q1, q2, q3, q4, q5, -⟩ := hP1.2.2.2.2.1
  exact zm_termL hD hO (by omega) hP hm hB 202 s1 (fun _ => by omega) h
theorem zm_addedL {G : jv_X} {t D m : Nat} (hD : 5 ≤ D) (hO : zm_C G t 149 D m) {d : Nat} (hd : D ≤ d + 1) {s0 : jg_H} {B : Option Value → jg_H → Prop} (hP : zm_P t s0) (hm : s0 146 44 = -1 → 5 ≤ (s0 146 45).toInt + m ∧ (s0 146 45).toInt ≤ 5) (hB : ∀ s', zm_E t (s0 146 45) s0 s' → B none s') :
    ∀ (n : Nat) (o1 : Option Value) (s : jg_H), f_n o1 = true → (s 146 44 = -1 → (s 146 38).toInt + 1 ≤ (s 146 41).toInt + n) → zm_E t (s0 146 45) s0 s → q_W G (d + 1) jm_M_added B 4 [some (.ref 146), o1] [] s
  | n, o1, s, ho, hn, hE => by
    have hP1 := zm_PE hP hE ⟨hP.2.2.1, hP.2.2.2.1⟩
    have go : ∀ w : Int32, y_m w = 2 → (2 ≤ w.toInt ∧ w.toInt ≤ 10) → s 146 44 = -1 → ¬ s 146 42 = 0 → q_P G (d + 1) 134 [.ref 146] s (fun v t' => q_W G (d + 1) jm_M_added B 50 [some (.ref 146), some (.int w)] (v.toList ++ []) t') := fun w hw hk l ht => by
      have hn := hn l
      obtain ⟨q1, q2, q3, q4, q5, -⟩ := hP1.2.2.2.2.1
      have hlt : (s 146 41).toInt < (s 146 40).toInt := by
        rcases q5 with q5 | q5
        · exact absurd q5 ht
        · exact q5
      match n, hn with
      | 0, hn => omega
      | n + 1, hn =>
        refine zm_next (by omega) hP1 (fun s1 g => ?_)
        refine t_M_added_50 (d := d) w ?_
        have hP2 := zm_PG hP1 g
        obtain ⟨v1, v2, v3, v4, v5⟩ := zvl g.1
        have lv : 5 ≤ (s1 146 45).toInt + m ∧ (s1 146 45).toInt ≤ 5 := by
          obtain ⟨-, -, e, n', m', -, -, -, k⟩ := hE
          rw [v2, e]
          exact hm (k l).1
        refine hO (d + 1) hd s1 _ hP2 (fun _ => lv) (fun s2 b => ?_)
        have far : ∀ s3, zm_E t (s0 146 45) s0 s3 → (∀ j, ¬ j = 46 → s3 146 j = s2 146 j) → s3 146 44 = -1 → (s3 146 38).toInt + 1 ≤ (s3 146 41).toInt + n := fun s3 hE3 b3 l3 => by
          have f1 := zm_fl (v1.trans l)
          have f2 := zm_fl ((b3 44 (by decide)).symm.trans l3)
          have gk := g.2.2
          have e38 : s3 146 38 = s 146 38 := (zmf_38 hE3.1).trans (zmf_38 hE.1).symm
          obtain ⟨-, -, -, n', m', -, -, k, -⟩ := b
          rw [e38, b3 41 (by decide)]
          omega
        obtain ⟨w1, w2, w3⟩ := zm_add (x := w) (v := 0) hP (zm_bi hE l ht g b) (b.2.2.1.trans (v2.trans hE.2.2.1)) hw (Or.inr (Or.inr hk)) (C := fun s3 => q_W G (d + 1) jm_M_added B 4 [some (.ref 146), some (.int w)] [] s3) (fun s3 hE3 b3 => zm_addedL hD hO hd hP hm hB n _ s3 rfl (far s3 hE3 b3) hE3)
        exact t_M_added_54 (d := d) w w1 w2 w3
    exact t_M_added_4 (d := d) ho (fun l ht => go 7 (by decide) ⟨by decide, by decide⟩ l (by rw [ht]; decide)) (fun _ _ _ => hB s hE) (fun l _ ht => go 8 (by decide) ⟨by decide, by decide⟩ l (by rw [ht]; decide)) (fun _ => hB s hE)
theorem zm_added {G : jv_X} {t D m : Nat} (hD : 5 ≤ D) (hO : zm_C G t 149 D m) : zm_C G t 148 (D + 1) m := by
  intro d hd s B hP hm hB
  obtain ⟨d, rfl⟩ : ∃ e, d = e + 2 := ⟨d - 2, by omega⟩
  refine t_M_added (d := d) (hO (d + 1) (by omega) s _ hP hm (fun s1 h => ?_))
  have hP1 := zm_PE hP h ⟨hP.2.2.1, hP.2.2.2.1⟩
  obtain ⟨q1, q2, q3, q4, q5, -⟩ := hP1.2.2.2.2.1
  exact zm_addedL hD hO (by omega) hP hm hB 202 _ s1 rfl (fun _ => by omega) h
theorem zm_not {G : jv_X} {t D m : Nat} (hD : 5 ≤ D) (hA : zm_C G t 148 D m) (hO : ∀ m', m = m' + 1 → zm_C G t 145 D m') : zm_C G t 145 (D + 1) m := by
  intro d hd s0 B hP hm hB
  obtain ⟨d, rfl⟩ : ∃ e, d = e + 2 := ⟨d - 2, by omega⟩
  refine t_M_not (d := d) (fun l0 _ => ?_) (fun l h => ?_) (fun w => hB _ (zm_wrong hP w))
  · refine hA (d + 1) (by omega) s0 _ hP hm (fun s hE => ?_)
    have hP1 := zm_PE hP hE ⟨hP.2.2.1, hP.2.2.2.1⟩
    have go : ∀ w : Int32, y_m w = 2 → (2 ≤ w.toInt ∧ w.toInt ≤ 10) → s 146 44 = -1 → ¬ s 146 42 = 0 → q_P G (d + 1) 134 [.ref 146] s (fun v t' => q_W G (d + 1) jm_M_not B 92 [some (.ref 146), some (.int w)] (v.toList ++ []) t') := fun w hw hk l ht => by
      refine zm_next (by omega) hP1 (fun s1 g => ?_)
      refine t_M_not_92 (d := d) w ?_
      have hP2 := zm_PG hP1 g
      obtain ⟨v1, v2, v3, v4, v5⟩ := zvl g.1
      refine hA (d + 1) (by omega) s1 _ hP2 (fun _ => by rw [v2, hE.2.2.1]; exact hm l0) (fun s2 b => ?_)
      obtain ⟨w1, w2, w3⟩ := zm_add (x := w) (v := 0) hP (zm_bi hE l ht g b) (b.2.2.1.trans (v2.trans hE.2.2.1)) hw (Or.inr (Or.inr hk)) (C := fun s3 => B none s3) (fun s3 hE3 _ => hB s3 hE3)
      exact t_M_not_96 (d := d) w w1 w2 w3
    exact t_M_not_47 (d := d) (fun l ht => go 5 (by decide) ⟨by decide, by decide⟩ l (by rw [ht]; decide)) (fun _ _ _ => hB s hE) (fun l _ ht => go 6 (by decide) ⟨by decide, by decide⟩ l (by rw [ht]; decide)) (fun _ => hB s hE)
  · obtain ⟨m5, o5⟩ := hm l
    have fin : ∀ s3, zm_X t 1 s0 s3 → s3 146 45 - 1 = s0 146 45 → q_W G (d + 1) jm_M_not B 26 [some (.ref 146), none] [] s3 := fun s3 hX f45 => by
      have ad := fun (s4 : jg_H) (e4 : s4 = jg_up s3 146 45 ((s3 146 45) - 1)) => zm_add (x := 4) (v := 0) (o := s0 146 45) (s' := s4) (q := 1) hP (by rw [e4]; exact zm_X6 hX) (by rw [e4, u_hit]; exact f45) (by decide) (Or.inr (Or.inr ⟨by decide, by decide⟩)) (C := fun s' => B none s') (fun s' h _ => hB s' h)
      exact t_M_not_26 (d := d) (fun s4 e4 => (ad s4 e4).1) (fun s4 e4 => (ad s4 e4).2.1) (fun s4 e4 => (ad s4 e4).2.2)
    refine zm_opens (by omega) hP l o5 (fun lt s1 e1 s2 g => ?_) (fun eq s1 e1 => ?_)
    · obtain ⟨m', rfl⟩ : ∃ m', m = m' + 1 := ⟨m - 1, by omega⟩
      obtain ⟨hP2, e45, e44⟩ := zm_PO hP lt e1 g
      obtain ⟨z1, z2⟩ := z_po hP.2.2.1 (by omega)
      exact t_M_not_22 (d := d) (hO m' rfl (d + 1) (by omega) s2 _ hP2 (fun _ => by rw [e45]; omega) (fun s3 b => fin s3 (zm_un hP l (by rw [h]; decide) e1 g b) (by rw [b.2.2.1, e45]; exact z2)))
    · obtain ⟨hX, hw⟩ := zm_five (q := 1) hP l e1
      obtain ⟨z1, z2⟩ := z_po hP.2.2.1 o5
      exact t_M_not_22 (d := d) (zm_w4 (by omega) hw (fin s1 hX (by rw [e1, u_hit]; exact z2)))
theorem zm_bothL {G : jv_X} {t D m : Nat} (hD : 5 ≤ D) (hO : zm_C G t 145 D m) {d : Nat} (hd : D ≤ d + 1) {s0 : jg_H} {B : Option Value → jg_H → Prop} (hP : zm_P t s0) (hm : s0 146 44 = -1 → 5 ≤ (s0 146 45).toInt + m ∧ (s0 146 45).toInt ≤ 5) (hB : ∀ s', zm_E t (s0 146 45) s0 s' → B none s') :
    ∀ (n : Nat) (s : jg_H), (s 146 44 = -1 → (s 146 38).toInt + 1 ≤ (s 146 41).toInt + n) → zm_E t (s0 146 45) s0 s → q_W G (d + 1) jm_M_both B 4 [some (.ref 146)] [] s
  | n, s, hn, hE => by
    have hP1 := zm_PE hP hE ⟨hP.2.2.1, hP.2.2.2.1⟩
    have go : s 146 44 = -1 → ¬ s 146 42 = 0 → q_P G (d + 1) 134 [.ref 146] s (fun v t' => q_W G (d + 1) jm_M_both B 25 [some (.ref 146)] (v.toList ++ []) t') := fun l ht => by
      have hn := hn l
      obtain ⟨q1, q2, q3, q4, q5, -⟩ := hP1.2.2.2.2.1
      have hlt : (s 146 41).toInt < (s 146 40).toInt := by
        rcases q5 with q5 | q5
        · exact absurd q5 ht
        · exact q5
      match n, hn with
      | 0, hn => omega
      | n + 1, hn =>
        refine zm_next (by omega) hP1 (fun s1 g => ?_)
        refine t_M_both_25 (d := d) ?_
        have hP2 := zm_PG hP1 g
        obtain ⟨v1, v2, v3, v4, v5⟩ := zvl g.1
        have lv : 5 ≤ (s1 146 45).toInt + m ∧ (s1 146 45).toInt ≤ 5 := by
          obtain ⟨-, -, e, n', m', -, -, -, k⟩ := hE
          rw [v2, e]
          exact hm (k l).1
        refine hO (d + 1) hd s1 _ hP2 (fun _ => lv) (fun s2 b => ?_)
        have far : ∀ s3, zm_E t (s0 146 45) s0 s3 → (∀ j, ¬ j = 46 → s3 146 j = s2 146 j) → s3 146 44 = -1 → (s3 146 38).toInt + 1 ≤ (s3 146 41).toInt + n := fun s3 hE3 b3 l3 => by
          have f1 := zm_fl (v1.trans l)
          have f2 := zm_fl ((b3 44 (by decide)).symm.trans l3)
          have gk := g.2.2
          have e38 : s3 146 38 = s 146 38 := (zmf_38 hE3.1).trans (zmf_38 hE.1).symm
          obtain ⟨-, -, -, n', m', -, -, k, -⟩ := b
          rw [e38, b3 41 (by decide)]
          omega
        obtain ⟨w1, w2, w3⟩ := zm_add (x := 3) (v := 0) hP (zm_bi hE l ht g b) (b.2.2.1.trans (v2.trans hE.2.2.1)) (by decide) (Or.inr (Or.inr ⟨by decide, by decide⟩)) (C := fun s3 => q_W G (d + 1) jm_M_both B 4 [some (.ref 146)] [] s3) (fun s3 hE3 b3 => zm_bothL hD hO hd hP hm hB n s3 (far s3 hE3 b3) hE3)
        exact t_M_both_29 (d := d) w1 w2 w3
    exact t_M_both_4 (d := d) (fun _ _ => hB s hE) (fun l ht => go l (by rw [ht]; decide)) (fun _ => hB s hE)
theorem zm_both {G : jv_X} {t D m : Nat} (hD : 5 ≤ D) (hO : zm_C G t 145 D m) : zm_C G t 144 (D + 1) m := by
  intro d hd s B hP hm hB
  obtain ⟨d, rfl⟩ : ∃ e, d = e + 2 := ⟨d - 2, by omega⟩
  refine t_M_both (d := d) (hO (d + 1) (by omega) s _ hP hm (fun s1 h => ?_))
  have hP1 := zm_PE hP h ⟨hP.2.2.1, hP.2.2.2.1⟩
  obtain ⟨q1, q2, q3, q4, q5, -⟩ := hP1.2.2.2.2.1
  exact zm_bothL hD hO (by omega) hP hm hB 202 s1 (fun _ => by omega) h
theorem zm_eitherL {G : jv_X} {t D m : Nat} (hD : 5 ≤ D) (hO : zm_C G t 144 D m) {d : Nat} (hd : D ≤ d + 1) {s0 : jg_H} {B : Option Value → jg_H → Prop} (hP : zm_P t s0) (hm : s0 146 44 = -1 → 5 ≤ (s0 146 45).toInt + m ∧ (s0 146 45).toInt ≤ 5) (hB : ∀ s', zm_E t (s0 146 45) s0 s' → B none s') :
    ∀ (n : Nat) (s : jg_H), (s 146 44 = -1 → (s 146 38).toInt + 1 ≤ (s 146 41).toInt + n) → zm_E t (s0 146 45) s0 s → q_W G (d + 1) jm_M_either B 4 [some (.ref 146)] [] s
  | n, s, hn, hE => by
    have hP1 := zm_PE hP hE ⟨hP.2.2.1, hP.2.2.2.1⟩
    have go : s 146 44 = -1 → ¬ s 146 42 = 0 → q_P G (d + 1) 134 [.ref 146] s (fun v t' => q_W G (d + 1) jm_M_either B 25 [some (.ref 146)] (v.toList ++ []) t') := fun l ht => by
      have hn := hn l
      obtain ⟨q1, q2, q3, q4, q5, -⟩ := hP1.2.2.2.2.1
      have hlt : (s 146 41).toInt < (s 146 40).toInt := by
        rcases q5 with q5 | q5
        · exact absurd q5 ht
        · exact q5
      match n, hn with
      | 0, hn => omega
      | n + 1, hn =>
        refine zm_next (by omega) hP1 (fun s1 g => ?_)
        refine t_M_either_25 (d := d) ?_
        have hP2 := zm_PG hP1 g
        obtain ⟨v1, v2, v3, v4, v5⟩ := zvl g.1
        have lv : 5 ≤ (s1 146 45).toInt + m ∧ (s1 146 45).toInt ≤ 5 := by
          obtain ⟨-, -, e, n', m', -, -, -, k⟩ := hE
          rw [v2, e]
          exact hm (k l).1
        refine hO (d + 1) hd s1 _ hP2 (fun _ => lv) (fun s2 b => ?_)
        have far : ∀ s3, zm_E t (s0 146 45) s0 s3 → (∀ j, ¬ j = 46 → s3 146 j = s2 146 j) → s3 146 44 = -1 → (s3 146 38).toInt + 1 ≤ (s3 146 41).toInt + n := fun s3 hE3 b3 l3 => by
          have f1 := zm_fl (v1.trans l)
          have f2 := zm_fl ((b3 44 (by decide)).symm.trans l3)
          have gk := g.2.2
          have e38 : s3 146 38 = s 146 38 := (zmf_38 hE3.1).trans (zmf_38 hE.1).symm
          obtain ⟨-, -, -, n', m', -, -, k, -⟩ := b
          rw [e38, b3 41 (by decide)]
          omega
        obtain ⟨w1, w2, w3⟩ := zm_add (x := 2) (v := 0) hP (zm_bi hE l ht g b) (b.2.2.1.trans (v2.trans hE.2.2.1)) (by decide) (Or.inr (Or.inr ⟨by decide, by decide⟩)) (C := fun s3 => q_W G (d + 1) jm_M_either B 4 [some (.ref 146)] [] s3) (fun s3 hE3 b3 => zm_eitherL hD hO hd hP hm hB n s3 (far s3 hE3 b3) hE3)
        exact t_M_either_29 (d := d) w1 w2 w3
    exact t_M_either_4 (d := d) (fun _ _ => hB s hE) (fun l ht => go l (by rw [ht]; decide)) (fun _ => hB s hE)
theorem zm_either {G : jv_X} {t D m : Nat} (hD : 5 ≤ D) (hO : zm_C G t 144 D m) : zm_C G t 143 (D + 1) m := by
  intro d hd s B hP hm hB
  obtain ⟨d, rfl⟩ : ∃ e, d = e + 2 := ⟨d - 2, by omega⟩
  refine t_M_either (d := d) (hO (d + 1) (by omega) s _ hP hm (fun s1 h => ?_))
  have hP1 := zm_PE hP h ⟨hP.2.2.1, hP.2.2.2.1⟩
  obtain ⟨q1, q2, q3, q4, q5, -⟩ := hP1.2.2.2.2.1
  exact zm_eitherL hD hO (by omega) hP hm hB 202 s1 (fun _ => by omega) h
/-- all of them, m openers deep -/
theorem zm_lv {G : jv_X} {t : Nat} : ∀ m : Nat, zm_C G t 143 (12 + 7 * m) m ∧ zm_C G t 145 (12 + 7 * m) m ∧ zm_C G t 150 (12 + 7 * m) m := by
  have up : ∀ {k D D' m : Nat}, D ≤ D' → zm_C G t k D m → zm_C G t k D' m := fun h c d hd => c d (by omega)
  have all : ∀ (D m : Nat), 5 ≤ D → (∀ m', m = m' + 1 → zm_C G t 143 D m' ∧ zm_C G t 145 D m' ∧ zm_C G t 150 D m') → zm_C G t 143 (D + 6) m ∧ zm_C G t 145 (D + 6) m ∧ zm_C G t 150 (D + 6) m := fun D m hD h => by
    have c1 := zm_one hD (fun m' e => ⟨(h m' e).1, (h m' e).2.2⟩)
    have c2 := zm_term (by omega) c1
    have c3 := zm_added (by omega) c2
    have c4 := zm_not (by omega) c3 (fun m' e => up (by omega) (h m' e).2.1)
    have c5 := zm_both (by omega) c4
    have c6 := zm_either (by omega) c5
    exact ⟨up (by omega) c6, up (by omega) c4, up (by omega) c1⟩
  intro m
  induction m with
  | zero =>
    obtain ⟨a, b, c⟩ := all 5 0 (by omega) (fun m' e => absurd e (by omega))
    exact ⟨up (by omega) a, up (by omega) b, up (by omega) c⟩
  | succ m ih =>
    obtain ⟨a, b, c⟩ := all (12 + 7 * m) (m + 1) (by omega) (fun m' e => by have e' : m' = m := (by omega); subst e'; exact ih)
    exact ⟨up (by omega) a, up (by omega) b, up (by omega) c⟩
