/-! the reference's reader: a whole text -/
abbrev zV_T (t c j : Nat) : Prop := (c = 146 ∧ 39 ≤ j ∧ j ≤ 46) ∨ ((c = 163 ∨ c = 164) ∧ 200 * t ≤ j) ∨ (c = 165 ∧ 5 * t ≤ j ∧ j < 5 * t + 5)
/-- where p parts begin, and what they are -/
def zq_D (t p : Nat) (s : jg_H) (b : Nat → Nat) : Prop := (s 146 46).toInt = (b p : Int) ∧ (∀ q, q < p → (s 165 (5 * t + q)).toInt = (b q : Int)) ∧ (∀ q, q < p → b q ≤ b (q + 1) ∧ y_E (fun i => y_m (s 163 (200 * t + i))) (b q) (b (q + 1) - b q)) ∧ ∀ i, i < b p → y_mok (s 163 (200 * t + i)) (s 164 (200 * t + i))
def zq_I (t p : Nat) (u s : jg_H) : Prop := zfr (zV_T t) u s ∧ zm_P t s ∧ (s 146 45).toInt = 0 ∧ (s 146 44 = -1 → ∃ b, zq_D t p s b)
def zq_F (t : Nat) (u s : jg_H) : Prop := zfr (zV_T t) u s ∧ (s 146 44 = -1 → ∃ b : Nat → Nat, b 4 ≤ 200 ∧ (∀ q, q < 5 → (s 165 (5 * t + q)).toInt = (b q : Int)) ∧ (∀ q, q < 4 → b q ≤ b (q + 1) ∧ y_E (fun i => y_m (s 163 (200 * t + i))) (b q) (b (q + 1) - b q)) ∧ ∀ i, i < b 4 → y_mok (s 163 (200 * t + i)) (s 164 (200 * t + i)))
theorem zq_sub {t : Nat} {s s' : jg_H} (f : zfr (zW_M t) s s') : zfr (zV_T t) s s' := zfr_sub (fun c j w => by rcases w with w | w; exact Or.inl ⟨w.1, by omega, w.2.2⟩; exact Or.inr (Or.inl w)) f
theorem zq_cells {t p : Nat} {s s' : jg_H} {b : Nat → Nat} (h : zq_D t p s b) (e1 : s' 146 46 = s 146 46) (e3 : s' 163 = s 163) (e4 : s' 164 = s 164) (e5 : s' 165 = s 165) : zq_D t p s' b := by
  unfold zq_D at *
  rw [e1, e3, e4, e5]
  exact h
theorem zq_need {G : jv_X} {t p d : Nat} {u s : jg_H} {a : Int32} {B : Option Value → jg_H → Prop} (hd : 5 ≤ d) (h : zq_I t p u s) (hB : ∀ s', zq_I t p u s' → (s' 146 44 = -1 → s 146 44 = -1 ∧ s' 165 = s 165 ∧ s' 146 46 = s 146 46) → B none s') : q_P G d 140 [.ref 146, .int a] s B := by
  obtain ⟨f, hP, h6, hD⟩ := h
  refine zm_need hd hP.2.2.2.2.1 (fun l s' g => ?_) (fun l s' e => hB _ ?_ ?_) (fun _ => hB _ ⟨f, hP, h6, hD⟩ (fun l => ⟨l, rfl, rfl⟩))
  · obtain ⟨v1, v2, v3, v4, v5⟩ := zvl g.1
    have e5 : s' 165 = s 165 := funext fun i => g.1 165 i (by rintro ⟨q, -⟩; omega)
    refine hB _ ⟨zfr_trans f (zq_sub (zVM g.1)), zm_PG hP g, by rw [v2]; exact h6, fun l' => ?_⟩ (fun _ => ⟨l, e5, v3⟩)
    obtain ⟨b, hb⟩ := hD (v1.symm.trans l')
    exact ⟨b, zq_cells hb v3 v4 v5 e5⟩
  · have hc := zm_cannot hP l
    rw [← e] at hc
    refine ⟨zfr_trans f (zq_sub hc.1), zm_PE hP hc ⟨hP.2.2.1, hP.2.2.2.1⟩, by rw [hc.2.2.1]; exact h6, fun l' => ?_⟩
    rw [e, u_hit] at l'
    exact absurd l' (z_nm1 hP.2.2.2.2.1.1)
  · intro l'
    rw [e, u_hit] at l'
    exact absurd l' (z_nm1 hP.2.2.2.2.1.1)
theorem zq_ix {x1 x2 : Int32} {t p : Nat} (h1 : x1.toInt = t) (ht : t ≤ 7) (h2 : x2.toInt = p) (hp : p ≤ 4) : ((5 * x1) + x2).toNatClampNeg = 5 * t + p ∧ jv_in ((5 * x1) + x2) 45 = true := by
  have e : ((5 * x1) + x2).toInt = 5 * x1.toInt + x2.toInt := by ((try simp only [i_lt, i_le, i_eq, i_in, i_cn, Int32.toInt_add, Int32.toInt_sub, Int32.toInt_mul, Int32.toInt_neg, Int32.reduceToInt, Int.bmod_add_bmod, Int.add_bmod_bmod, Int.bmod_sub_bmod, Int.sub_bmod_bmod, Int.bmod_mul_bmod, Int.mul_bmod_bmod, Int.bmod_neg_bmod, Nat.reducePow, Int.reduceBmod, Int.reduceNeg, Int.reduceMul, Int.reduceAdd, Int.reduceSub, not_true_eq_false, not_false_eq_true] at *) <;> (try simp (disch := omega) only [i_bm'] at *) <;> omega)
  refine ⟨by rw [i_cn, e]; omega, ?_⟩
  rw [i_in, e]
  omega
/-- a part's beginning is kept -/
theorem zq_put {t p : Nat} {u s s1 : jg_H} (h : zq_I t p u s) (hp : p ≤ 4) (e1 : s1 = jg_up s 165 (5 * t + p) (s 146 46)) : zq_I t p u s1 ∧ s1 165 (5 * t + p) = s 146 46 := by
  obtain ⟨f, hP, h6, hD⟩ := h
  have c0 : ∀ c j, ¬ c = 165 → s1 c j = s c j := fun c j hc => by rw [e1, u_c hc]
  refine ⟨⟨?_, ?_, by rw [c0 _ _ (by decide)]; exact h6, fun l => ?_⟩, by rw [e1, u_hit]⟩
  · rw [e1]; exact zfr_up f (Or.inr (Or.inr ⟨rfl, by omega, by omega⟩))
  · obtain ⟨p1, p2, p3, p4, p5, p6, p7⟩ := hP
    have : zm_f s1 = zm_f s := by unfold zm_f; rw [c0 _ _ (by decide), c0 _ _ (by decide)]
    exact ⟨p1, by rw [c0 _ _ (by decide)]; exact p2, by rw [c0 _ _ (by decide)]; exact p3, by rw [c0 _ _ (by decide)]; exact p4, zm_ok_of (fun j _ _ => c0 _ _ (by decide)) p5, by rw [c0 _ _ (by decide)]; exact p6, by rw [c0 _ _ (by decide), this]; exact p7⟩
  · rw [c0 _ _ (by decide)] at l
    obtain ⟨b, a1, a2, a3, a4⟩ := hD l
    have c3 : s1 163 = s 163 := funext fun i => c0 _ _ (by decide)
    have c4 : s1 164 = s 164 := funext fun i => c0 _ _ (by decide)
    refine ⟨b, ?_, fun q hq => ?_, ?_, ?_⟩
    · rw [c0 _ _ (by decide)]; exact a1
    · rw [e1, u_j (by omega)]; exact a2 q hq
    · rw [c3]; exact a3
    · rw [c3, c4]; exact a4
/-- and its expression read -/
theorem zq_part {t p : Nat} {u s s2 : jg_H} {o : Int32} (h : zq_I t p u s) (hk : (s 146 44 = -1 → s 165 (5 * t + p) = s 146 46)) (ho : o = s 146 45) (b : zm_E t o s s2) : zq_I t (p + 1) u s2 := by
  obtain ⟨f, hP, h6, hD⟩ := h
  subst ho
  have hP2 := zm_PE hP b ⟨hP.2.2.1, hP.2.2.2.1⟩
  obtain ⟨bf, bg, bo, n, m, k2, k3, k4, k5⟩ := b
  refine ⟨zfr_trans f (zq_sub bf), hP2, by rw [bo]; exact h6, fun l => ?_⟩
  obtain ⟨k1, ⟨k6, k7⟩, k8⟩ := k5 l
  obtain ⟨w, a1, a2, a3, a4⟩ := hD k1
  have hk := hk k1
  have en : w p = n := by omega
  have g2 : ∀ i, s2 165 i = s 165 i := fun i => bf _ _ (by rintro (h | h) <;> omega)
  refine ⟨fun q => if q ≤ p then w q else n + m, ?_, fun q hq => ?_, fun q hq => ?_, fun i hi => ?_⟩
  · show (s2 146 46).toInt = ((if p + 1 ≤ p then w (p + 1) else n + m : Nat) : Int)
    rw [if_neg (by omega)]
    exact k3
  · show (s2 165 (5 * t + q)).toInt = ((if q ≤ p then w q else n + m : Nat) : Int)
    rw [if_pos (by omega), g2]
    by_cases e : q = p
    · rw [e, hk, k2, en]
    · exact a2 q (by omega)
  · show (if q ≤ p then w q else n + m) ≤ (if q + 1 ≤ p then w (q + 1) else n + m) ∧ y_E (fun i => y_m (s2 163 (200 * t + i))) (if q ≤ p then w q else n + m) ((if q + 1 ≤ p then w (q + 1) else n + m) - (if q ≤ p then w q else n + m))
    rw [if_pos (by omega)]
    by_cases e : q = p
    · rw [if_neg (by omega), e, en, show n + m - n = m by omega]
      exact ⟨by omega, k8⟩
    · rw [if_pos (by omega)]
      obtain ⟨v1, v2⟩ := a3 q (by omega)
      refine ⟨v1, y_Eq (fun i h1 h2 => congrArg y_m (k6 i ?_).1) v2⟩
      have mono : ∀ k, q + 1 + k ≤ p → w (q + 1) ≤ w (q + 1 + k) := fun k => by
        induction k with
        | zero => intro _; exact Nat.le_refl _
        | succ k ih => intro hk; exact Nat.le_trans (ih (by omega)) (a3 (q + 1 + k) (by omega)).1
      have := mono (p - (q + 1)) (by omega)
      rw [show q + 1 + (p - (q + 1)) = p by omega, en] at this
      omega
  · have hi : i < (if p + 1 ≤ p then w (p + 1) else n + m) := hi
    rw [if_neg (by omega)] at hi
    by_cases h : i < n
    · rw [(k6 i h).1, (k6 i h).2]; exact a4 i (by omega)
    · exact k7 i (by omega) hi
theorem zq_loop {G : jv_X} {t d : Nat} (hd : 47 ≤ d) {x1 : Int32} (hx1 : x1.toInt = t) (ht : t ≤ 7) {u : jg_H} {B : Option Value → jg_H → Prop} (hB : ∀ s', zq_F t u s' → B none s') :
    ∀ (n p : Nat) (x : Int32) (s : jg_H), x.toInt = p → p + n = 4 → zq_I t p u s → q_W G d jm_M_reads B 31 [some (.ref 146), some (.int x1), some (.int x)] [] s
  | n, p, x, s, hx, hn, h => by
    have e4 : (4 : Int32).toInt = 4 := rfl
    have hp : p ≤ 4 := by omega
    obtain ⟨i4, j4⟩ := zq_ix (p := 4) hx1 ht (x2 := 4) rfl (by omega)
    obtain ⟨ip, jp⟩ := zq_ix (p := p) hx1 ht hx hp
    refine t_M_reads_31 (d := d) x1 x (fun _ => j4) (fun hlt s1 e1 => ?_) (fun _ => jp) (fun hlt s1 e1 => ?_)
    · obtain rfl : p = 4 := by have := z_nlt hlt; omega
      rw [i4] at e1
      obtain ⟨h1, k1⟩ := zq_put h (by omega) e1
      have k46 : s1 146 46 = s 146 46 := by rw [e1, u_c (by decide)]
      refine zq_need (by omega) h1 (fun s2 h2 k2 => t_M_reads_94 (d := d) x1 x (hB s2 ⟨h2.1, fun l => ?_⟩))
      obtain ⟨f2, hP2, -, hD2⟩ := h2
      obtain ⟨l1, w5, w46⟩ := k2 l
      obtain ⟨b, a1, a2, a3, a4⟩ := hD2 l
      have fb := zm_fl l
      obtain ⟨q1, q2, q3, q4, -⟩ := hP2.2.2.2.2.1
      have q7 := hP2.2.2.2.2.2.2
      refine ⟨b, by omega, fun q hq => ?_, a3, a4⟩
      by_cases e : q = 4
      · rw [e, w5, k1, ← k46, ← w46]; exact a1
      · exact a2 q (by omega)
    · have hlt := z_lt hlt
      rw [ip] at e1
      match n, hn with
      | 0, hn => omega
      | n + 1, hn =>
        have ep := z_p1 (a := x) (by omega)
        obtain ⟨h1, k1⟩ := zq_put h hp e1
        have k46 : s1 146 46 = s 146 46 := by rw [e1, u_c (by decide)]
        refine zq_need (by omega) h1 (fun s2 h2 k2 => t_M_reads_59 (d := d) x1 x ?_)
        refine (zm_lv 5).1 d (by omega) s2 _ h2.2.1 (fun _ => by rw [h2.2.2.1]; omega) (fun s3 b => t_M_reads_63 (d := d) x1 x ?_)
        have h3 := zq_part h2 (fun l => by obtain ⟨l1, w5, w46⟩ := k2 l; rw [w5, k1, w46, k46]) rfl b
        refine zq_need (by omega) h3 (fun s4 h4 _ => t_M_reads_69 (d := d) x1 x ?_)
        exact zq_loop hd hx1 ht hB n (p + 1) (x + 1) s4 (by omega) (by omega) h4
theorem zq_reads {G : jv_X} {t d : Nat} (hd : 48 ≤ d) {x1 : Int32} (hx1 : x1.toInt = t) (ht : t ≤ 7) {u : jg_H} (h0 : 0 ≤ (u 146 38).toInt) (h2 : (u 146 38).toInt ≤ 200) {B : Option Value → jg_H → Prop} (hB : ∀ s', zq_F t u s' → B none s') : q_P G d 133 [.ref 146, .int x1] u B := by
  obtain ⟨d, rfl⟩ : ∃ e, d = e + 1 := ⟨d - 1, by omega⟩
  refine t_M_reads (d := d) x1 (fun s1 e1 s2 e2 s3 e3 s4 e4 s5 e5 => ?_)
  have f38 : s5 146 38 = u 146 38 := by rw [e5, e4, e3, e2, e1, u_j (by decide), u_j (by decide), u_j (by decide), u_j (by decide), u_j (by decide)]
  have f39 : s5 146 39 = x1 := by rw [e5, e4, e3, e2, e1, u_j (by decide), u_j (by decide), u_j (by decide), u_j (by decide), u_hit]
  have f40 : s5 146 40 = 0 := by rw [e5, e4, e3, e2, u_j (by decide), u_j (by decide), u_j (by decide), u_hit]
  have f44 : s5 146 44 = -1 := by rw [e5, e4, e3, u_j (by decide), u_j (by decide), u_hit]
  have f45 : s5 146 45 = 0 := by rw [e5, e4, u_j (by decide), u_hit]
  have f46 : s5 146 46 = 0 := by rw [e5, u_hit]
  have ff : zfr (zV_T t) u s5 := by
    rw [e5, e4, e3, e2, e1]
    exact zfr_up (zfr_up (zfr_up (zfr_up (zfr_up zfr_refl (Or.inl ⟨rfl, by omega, by omega⟩)) (Or.inl ⟨rfl, by omega, by omega⟩)) (Or.inl ⟨rfl, by omega, by omega⟩)) (Or.inl ⟨rfl, by omega, by omega⟩)) (Or.inl ⟨rfl, by omega, by omega⟩)
  have z0 : (0 : Int32).toInt = 0 := rfl
  refine zh_next (by omega) (by rw [f40]; exact Int.le_refl _) (by rw [f40, f38]; exact h0) (by rw [f38]; exact h2) (fun s g => ?_)
  obtain ⟨v1, v2, v3, v4, v5⟩ := zvl g.1
  refine t_M_reads_29 (d := d) x1 (zq_loop (by omega) hx1 ht hB 4 0 0 s rfl rfl ⟨zfr_trans ff (zq_sub (zVM g.1)), ⟨ht, by rw [g.1 146 39 (by decide), f39]; exact hx1, by rw [v2, f45]; decide, by rw [v2, f45]; decide, g.2.1, by rw [v3, f46]; decide, ?_⟩, by rw [v2, f45]; rfl, fun l => ⟨fun _ => 0, by rw [v3, f46]; rfl, fun q hq => absurd hq (by omega), fun q hq => absurd hq (by omega), fun i hi => absurd hi (Nat.not_lt_zero i)⟩⟩)
  rw [v3, f46]
  exact (zm_f_b g.2.1).1
/-! the reference's side of text -/
def y_x (o v : Int32) : Int32 := if o = 0 then v else if o = 1 then -1 - v else -7 - o
theorem y_xenc {o v : Int32} (h : y_mok o v) : t_enc (y_x o v) o v := by
  unfold y_x
  rcases h with ⟨rfl, h1, h2⟩ | ⟨rfl, h1, h2⟩ | ⟨h1, h2⟩
  · rw [if_pos rfl]
    exact Or.inl ⟨rfl, rfl, h1, h2⟩
  · rw [if_neg (by decide), if_pos rfl]
    have ev : ((-1 : Int32) - v).toInt = -1 - v.toInt := by ((try simp only [i_lt, i_le, i_eq, i_in, i_cn, Int32.toInt_add, Int32.toInt_sub, Int32.toInt_mul, Int32.toInt_neg, Int32.reduceToInt, Int.bmod_add_bmod, Int.add_bmod_bmod, Int.bmod_sub_bmod, Int.sub_bmod_bmod, Int.bmod_mul_bmod, Int.mul_bmod_bmod, Int.bmod_neg_bmod, Nat.reducePow, Int.reduceBmod, Int.reduceNeg, Int.reduceMul, Int.reduceAdd, Int.reduceSub, not_true_eq_false, not_false_eq_true] at *) <;> (try simp (disch := omega) only [i_bm'] at *) <;> omega)
    exact Or.inr (Or.inl ⟨rfl, h1, h2, ev⟩)
  · have e0 : (0 : Int32).toInt = 0 := rfl
    have e1 : (1 : Int32).toInt = 1 := rfl
    have c0 : ¬ o = 0 := fun e => by rw [e] at h1; omega
    have c1 : ¬ o = 1 := fun e => by rw [e] at h1; omega
    rw [if_neg c0, if_neg c1]
    have eo : ((-7 : Int32) - o).toInt = -7 - o.toInt := by clear c0 c1; ((try simp only [i_lt, i_le, i_eq, i_in, i_cn, Int32.toInt_add, Int32.toInt_sub, Int32.toInt_mul, Int32.toInt_neg, Int32.reduceToInt, Int.bmod_add_bmod, Int.add_bmod_bmod, Int.bmod_sub_bmod, Int.sub_bmod_bmod, Int.bmod_mul_bmod, Int.mul_bmod_bmod, Int.bmod_neg_bmod, Nat.reducePow, Int.reduceBmod, Int.reduceNeg, Int.reduceMul, Int.reduceAdd, Int.reduceSub, not_true_eq_false, not_false_eq_true] at *) <;> (try simp (disch := omega) only [i_bm'] at *) <;> omega)
    exact Or.inr (Or.inr ⟨h1, h2, eo⟩)
theorem y_mbal {o : Nat → Int32} {B : Nat} : ∀ (n c h : Nat), y_run (fun i => y_m (o (B + i))) n c h 1 → t_bal o n (B + c) h
  | 0, _, _, a => Eq.symm a
  | n + 1, c, h, a => by
    have k0 : y_m (o (B + c)) = 0 → (o (B + c) = 0 ∨ o (B + c) = 1) := fun q => by
      unfold y_m at q
      by_cases e : o (B + c) = 0 ∨ o (B + c) = 1
      · exact e
      · rw [if_neg e] at q
        by_cases e2 : o (B + c) = 4 ∨ o (B + c) = 10
        · rw [if_pos e2] at q; exact absurd q (by decide)
        · rw [if_neg e2] at q; exact absurd q (by decide)
    have k1 : y_m (o (B + c)) = 1 → (o (B + c) = 4 ∨ o (B + c) = 10) := fun q => by
      unfold y_m at q
      by_cases e : o (B + c) = 0 ∨ o (B + c) = 1
      · rw [if_pos e] at q; exact absurd q (by decide)
      · rw [if_neg e] at q
        by_cases e2 : o (B + c) = 4 ∨ o (B + c) = 10
        · exact e2
        · rw [if_neg e2] at q; exact absurd q (by decide)
    have k2 : y_m (o (B + c)) = 2 → ¬ (o (B + c) = 0 ∨ o (B + c) = 1) ∧ ¬ (o (B + c) = 4 ∨ o (B + c) = 10) := fun q => by
      unfold y_m at q
      by_cases e : o (B + c) = 0 ∨ o (B + c) = 1
      · rw [if_pos e] at q; exact absurd q (by decide)
      · rw [if_neg e] at q
        by_cases e2 : o (B + c) = 4 ∨ o (B + c) = 10
        · rw [if_pos e2] at q; exact absurd q (by decide)
        · exact ⟨e, e2⟩
    rcases a with ⟨q, a⟩ | ⟨q, w, a⟩ | ⟨q, w, a⟩
    · exact Or.inl ⟨k0 q, y_mbal (B := B) n (c + 1) _ a⟩
    · exact Or.inr (Or.inl ⟨k1 q, w, y_mbal (B := B) n (c + 1) _ a⟩)
    · obtain ⟨z1, z2⟩ := k2 q
      exact Or.inr (Or.inr ⟨fun e => z1 (Or.inl e), fun e => z1 (Or.inr e), fun e => z2 (Or.inl e), fun e => z2 (Or.inr e), w, y_mbal (B := B) n (c + 1) _ a⟩)
theorem zl_146 {j : Nat} (h0 : ¬ g_146 j = 0) (h1 : 38 ≤ j) (h2 : j ≤ 46) : False := by
  have : j = 38 ∨ j = 39 ∨ j = 40 ∨ j = 41 ∨ j = 42 ∨ j = 43 ∨ j = 44 ∨ j = 45 ∨ j = 46 := by omega
  rcases this with rfl | rfl | rfl | rfl | rfl | rfl | rfl | rfl | rfl <;> exact h0 rfl
/-- the cells of the class that would say what the reference now says; s: the reference's cells, t: the text that is new (8: none) -/
def zl_w (t : Nat) (u s : jg_H) : jg_H := fun c j => if 146 ≤ c then s c j else if c = 117 ∧ j = 1 then 0 else if c = 0 ∧ j = 11 then s 146 14 else if c = 93 + 3 * t + 1 ∧ t < 8 then y_x (s 163 (200 * t + j)) (s 164 (200 * t + j)) else if c = 93 + 3 * t + 2 ∧ t < 8 then s 165 (5 * t + j) else u c j
theorem zl_keep {u s s' : jg_H} (hI : Inv u) (hu : ∀ c j, 146 ≤ c → u c j = s c j) {t r : Nat} (ht : t ≤ 7) (h14 : (u 146 14).toInt = t) (hf : zfr (fun c j => (c = 146 ∧ (j = 30 ∨ (38 ≤ j ∧ j ≤ 46))) ∨ ((c = 163 ∨ c = 164) ∧ 200 * t ≤ j) ∨ (c = 165 ∧ 5 * t ≤ j ∧ j < 5 * t + 5) ∨ (c = 146 ∧ j = 14)) s s') (h30 : s' 146 30 = 0)
    (hr : (r = 8 ∧ s' 146 14 = s 146 14) ∨ (r = t ∧ s' 146 14 = s 146 14 + 1 ∧ ∃ b : Nat → Nat, b 4 ≤ 200 ∧ (∀ q, q < 5 → (s' 165 (5 * t + q)).toInt = (b q : Int)) ∧ (∀ q, q < 4 → b q ≤ b (q + 1) ∧ y_E (fun i => y_m (s' 163 (200 * t + i))) (b q) (b (q + 1) - b q)) ∧ ∀ i, i < b 4 → y_mok (s' 163 (200 * t + i)) (s' 164 (200 * t + i)))) : lz_KM s' := by
  obtain ⟨x1, x2, x3, x4, x5, x6, x7⟩ := hI.2.2.2.2.2.1
  have e14 : s 146 14 = u 146 14 := (hu 146 14 (by decide)).symm
  have ep := z_p1 (a := s 146 14) (by rw [e14]; omega)
  have hm : ∀ c j, 146 ≤ c → zl_w r u s' c j = s' c j := fun c j hc => if_pos hc
  have hc : ∀ c j, ¬ 146 ≤ c → ¬ (c = 117 ∧ j = 1) → ¬ (c = 0 ∧ j = 11) → ¬ (c = 93 + 3 * r + 1 ∧ r < 8) → ¬ (c = 93 + 3 * r + 2 ∧ r < 8) → zl_w r u s' c j = u c j := fun c j h1 h2 h3 h4 h5 => by
    unfold zl_w
    rw [if_neg h1, if_neg h2, if_neg h3, if_neg h4, if_neg h5]
  have h1171 : zl_w r u s' 117 1 = 0 := rfl
  have h011 : zl_w r u s' 0 11 = s' 146 14 := rfl
  have hr8 : r = 8 ∨ r ≤ 7 := by rcases hr with ⟨hr, _⟩ | ⟨hr, _⟩ <;> omega
  have hn : (s' 146 14).toInt = t ∨ (r = t ∧ (s' 146 14).toInt = t + 1) := by
    rcases hr with ⟨_, e⟩ | ⟨er, e, _⟩
    · rw [e, e14]; exact Or.inl h14
    · rw [e]; exact Or.inr ⟨er, by rw [ep, e14]; omega⟩
  have e15 : s' 146 15 = u 146 15 := (hf 146 15 (by rintro (w | w | w | w) <;> omega)).trans (hu 146 15 (by decide)).symm
  refine ⟨zl_w r u s', Inv_swap hI (fun c j h0 h6 h7 => ?_) ?_ ?_ ?_, lz_HM (fun c j h => hm c j h)⟩
  · by_cases h : 146 ≤ c
    · rw [hm c j h, hu c j h]
      refine hf c j ?_
      rintro (w | w | w | w)
      · obtain ⟨rfl, w⟩ := w
        rcases w with rfl | w
        · exact h7 rfl
        · exact zl_146 h0 w.1 w.2
      · rcases w.1 with rfl | rfl <;> exact h6 rfl
      · obtain ⟨rfl, -⟩ := w; exact h6 rfl
      · obtain ⟨rfl, rfl⟩ := w; exact h6 rfl
    · refine hc c j h ?_ ?_ ?_ ?_
      · rintro ⟨rfl, rfl⟩; exact h7 rfl
      · rintro ⟨rfl, rfl⟩; exact h6 rfl
      · rintro ⟨rfl, h⟩; exact h6 (g_6 (by omega) (by omega))
      · rintro ⟨rfl, h⟩; exact h6 (g_6 (by omega) (by omega))
  · rw [hm 146 14 (by decide)]
    rcases hn with e | ⟨_, e⟩ <;> omega
  · refine ⟨?_, ?_, ?_, ?_, ?_, ?_, fun q hq => ?_⟩
    · rw [h011, hm 146 14 (by decide)]
    · rw [hm 146 14 (by decide)]; rcases hn with e | ⟨_, e⟩ <;> omega
    · rw [hm 146 14 (by decide)]; rcases hn with e | ⟨_, e⟩ <;> omega
    · rw [hc 0 12 (by decide) (by decide) (by decide) (by omega) (by omega), hm 146 15 (by decide), e15]; exact x4
    · rw [hm 146 15 (by decide), e15]; exact x5
    · rw [hm 146 15 (by decide), hm 146 14 (by decide), e15]; rcases hn with e | ⟨_, e⟩ <;> omega
    · rw [hm 146 14 (by decide)] at hq
      by_cases e : q < t
      · have cell : ∀ c j, c = 93 + 3 * q + 1 ∨ c = 93 + 3 * q + 2 → zl_w r u s' c j = u c j := fun c j h => hc c j (by omega) (by omega) (by omega) (by rcases hr with ⟨hr, _⟩ | ⟨hr, _⟩ <;> omega) (by rcases hr with ⟨hr, _⟩ | ⟨hr, _⟩ <;> omega)
        refine t_ok_eq (x7 q (by omega)) (fun p hp => ⟨cell _ _ (Or.inr rfl), ?_⟩) (fun c hc' => ⟨cell _ _ (Or.inl rfl), ?_, ?_⟩)
        · rw [hm 165 _ (by decide), hu 165 _ (by decide)]; exact hf 165 _ (by rintro (w | w | w | w) <;> omega)
        · rw [hm 163 _ (by decide), hu 163 _ (by decide)]; exact hf 163 _ (by rintro (w | w | w | w) <;> omega)
        · rw [hm 164 _ (by decide), hu 164 _ (by decide)]; exact hf 164 _ (by rintro (w | w | w | w) <;> omega)
      · have hqt : q = t := by rcases hn with e | ⟨_, e⟩ <;> omega
        subst hqt
        rcases hr with ⟨_, e'⟩ | ⟨er, _, b, b1, b2, b3, b4⟩
        · rw [e', e14] at hq; omega
        · subst er
          have v2 : ∀ p, p < 5 → (zl_w r u s' 165 (5 * r + p)).toInt = (b p : Int) := fun p hp => by rw [hm 165 _ (by decide)]; exact b2 p hp
          have mono : ∀ p, p < 4 → b p ≤ b (p + 1) := fun p hp => (b3 p hp).1
          have m0 : b 0 ≤ b 1 := mono 0 (by omega)
          have m1 : b 1 ≤ b 2 := mono 1 (by omega)
          have m2 : b 2 ≤ b 3 := mono 2 (by omega)
          have m3 : b 3 ≤ b 4 := mono 3 (by omega)
          have mm : ∀ p, p < 5 → b p ≤ b 4 := fun p hp => by
            have : p = 0 ∨ p = 1 ∨ p = 2 ∨ p = 3 ∨ p = 4 := by omega
            rcases this with rfl | rfl | rfl | rfl | rfl <;> omega
          have w2 : ∀ p, zl_w r u s' (93 + 3 * r + 2) p = s' 165 (5 * r + p) := fun p => by
            unfold zl_w
            rw [if_neg (by omega), if_neg (by omega), if_neg (by omega), if_neg (by omega), if_pos ⟨rfl, by omega⟩]
          have w1 : ∀ p, zl_w r u s' (93 + 3 * r + 1) p = y_x (s' 163 (200 * r + p)) (s' 164 (200 * r + p)) := fun p => by
            unfold zl_w
            rw [if_neg (by omega), if_neg (by omega), if_neg (by omega), if_pos ⟨rfl, by omega⟩]
          refine ⟨fun p hp => ?_, fun p hp => ?_, fun c hc' => ?_⟩
          · have := v2 p hp
            have := mm p hp
            exact ⟨by rw [w2, hm 165 _ (by decide)], by omega, by omega⟩
          · have q1 := v2 p (by omega)
            have q2 : (zl_w r u s' 165 (5 * r + p + 1)).toInt = (b (p + 1) : Int) := v2 (p + 1) (by omega)
            have q3 := mono p hp
            refine ⟨by omega, ?_⟩
            rw [q1, q2, Int.toNat_natCast, Int.toNat_natCast]
            refine y_mbal _ _ _ ?_
            have z : zl_w r u s' 163 = s' 163 := funext fun i => hm 163 i (by decide)
            rw [z]
            exact (b3 p hp).2 0
          · have q1 := v2 4 (by omega)
            have hc' : (c : Int) < (zl_w r u s' 165 (5 * r + 4)).toInt := hc'
            rw [w1, hm 163 _ (by decide), hm 164 _ (by decide)]
            exact y_xenc (b4 c (by omega))
  · refine ⟨?_, ?_, ?_, fun i hi => ?_⟩
    · rw [h1171, hm 146 30 (by decide), h30]
    · rw [hm 146 30 (by decide), h30]; decide
    · rw [hm 146 30 (by decide), h30]; decide
    · rw [hm 146 30 (by decide), h30] at hi
      have : (0 : Int32).toInt = 0 := rfl
      omega
/-- text on the reference's side alone -/
theorem lz_textM {G : jv_X} {d : Nat} (hd : 50 ≤ d) {s : jg_H} (hK : lz_KM s) : q_P G d 176 [.ref 146] s (fun _ s' => lz_KM s' ∧ ∀ c j, c < 146 → s' c j = s c j) := by
  obtain ⟨d, rfl⟩ : ∃ e, d = e + 2 := ⟨d - 2, by omega⟩
  have hK0 := hK
  obtain ⟨u, hI, hu, -⟩ := hK
  have hu : ∀ c j, 146 ≤ c → u c j = s c j := hu
  obtain ⟨x1, x2, x3, -⟩ := hI.2.2.2.2.2.1
  obtain ⟨r1, r2, r3, -⟩ := hI.2.2.2.2.2.2.1
  have e14 : s 146 14 = u 146 14 := (hu 146 14 (by decide)).symm
  have e30 : s 146 30 = u 146 30 := (hu 146 30 (by decide)).symm
  have e8 : (8 : Int32).toInt = 8 := rfl
  refine t_M_text (d := d) (fun n s1 e1 s2 e2 => ?_) (fun _ => ⟨hK0, fun _ _ _ => rfl⟩)
  have n8 : ¬ (u 146 14).toInt = 8 := fun e => n (Int32.toInt_inj.mp (by rw [e14]; exact e.trans e8.symm))
  obtain ⟨t, ht⟩ : ∃ t : Nat, (u 146 14).toInt = t := ⟨(u 146 14).toInt.toNat, by omega⟩
  have f14 : s2 146 14 = s 146 14 := by rw [e2, e1, u_j (by decide), u_j (by decide)]
  have f38 : s2 146 38 = u 146 30 := by rw [e2, u_j (by decide), e1, u_hit, e30]
  have f30 : s2 146 30 = 0 := by rw [e2, u_hit]
  refine zq_reads (t := t) (by omega) (by rw [f14, e14]; exact ht) (by omega) (by rw [f38]; exact r2) (by rw [f38]; exact r3) (fun s3 hF => ?_)
  obtain ⟨ff, hD⟩ := hF
  have f2 : zfr (fun c j => (c = 146 ∧ (j = 30 ∨ (38 ≤ j ∧ j ≤ 46))) ∨ ((c = 163 ∨ c = 164) ∧ 200 * t ≤ j) ∨ (c = 165 ∧ 5 * t ≤ j ∧ j < 5 * t + 5) ∨ (c = 146 ∧ j = 14)) s s3 := by
    refine zfr_trans (s' := s2) ?_ (zfr_sub (fun c j w => by rcases w with w | w | w; exact Or.inl ⟨w.1, Or.inr ⟨by omega, w.2.2⟩⟩; exact Or.inr (Or.inl w); exact Or.inr (Or.inr (Or.inl w))) ff)
    rw [e2, e1]
    exact zfr_up (zfr_up zfr_refl (Or.inl ⟨rfl, Or.inr ⟨by omega, by omega⟩⟩)) (Or.inl ⟨rfl, Or.inl rfl⟩)
  have g30 : s3 146 30 = 0 := (ff 146 30 (by rintro (w | w | w) <;> omega)).trans f30
  have g14 : s3 146 14 = s 146 14 := (ff 146 14 (by rintro (w | w | w) <;> omega)).trans f14
  have far : ∀ c j, c < 146 → s3 c j = s c j := fun c j hc => f2 c j (by rintro (w | w | w | w) <;> omega)
  refine t_M_text_33 (d := d) (fun l s4 e4 => ?_) (fun _ => ⟨zl_keep hI hu (r := 8) (by omega) ht f2 g30 (Or.inl ⟨rfl, g14⟩), far⟩)
  have c0 : ∀ c j, ¬ (c = 146 ∧ j = 14) → s4 c j = s3 c j := fun c j h => by rw [e4, u_r (fun a b => h ⟨a, b⟩)]
  refine ⟨zl_keep hI hu (r := t) (by omega) ht (by rw [e4]; exact zfr_up f2 (Or.inr (Or.inr (Or.inr ⟨rfl, rfl⟩)))) (by rw [c0 _ _ (by decide)]; exact g30) (Or.inr ⟨rfl, by rw [e4, u_hit, g14], ?_⟩), fun c j hc => by rw [c0 _ _ (by omega)]; exact far c j hc⟩
  have c3 : s4 163 = s3 163 := funext fun i => c0 163 i (by omega)
  have c4 : s4 164 = s3 164 := funext fun i => c0 164 i (by omega)
  have c5 : s4 165 = s3 165 := funext fun i => c0 165 i (by omega)
  rw [c3, c4, c5]
  exact hD l
