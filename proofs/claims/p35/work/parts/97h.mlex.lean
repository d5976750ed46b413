/-! the reference's reader: what one token leaves behind -/
abbrev zV_L (c j : Nat) : Prop := c = 146 ∧ 40 ≤ j ∧ j ≤ 43
def zm_ok (s : jg_H) : Prop := 0 ≤ (s 146 41).toInt ∧ (s 146 41).toInt ≤ (s 146 40).toInt ∧ (s 146 40).toInt ≤ (s 146 38).toInt ∧ (s 146 38).toInt ≤ 200 ∧ (s 146 42 = 0 ∨ (s 146 41).toInt < (s 146 40).toInt) ∧ (s 146 42 = 1 → 0 ≤ (s 146 43).toInt ∧ (s 146 43).toInt ≤ 9999) ∧ (s 146 42 = 3 → 0 ≤ (s 146 43).toInt ∧ (s 146 43).toInt ≤ 7)
def zm_G (s s' : jg_H) : Prop := zfr zV_L s s' ∧ zm_ok s' ∧ (s 146 40).toInt ≤ (s' 146 41).toInt
/-- a word is read from s on -/
def zv_R (s s' : jg_H) : Prop := zfr (fun c j => c = 146 ∧ (j = 40 ∨ j = 42 ∨ j = 43)) s s' ∧ (s 146 41).toInt < (s' 146 40).toInt ∧ (s' 146 40).toInt ≤ (s 146 38).toInt ∧ ¬ s' 146 42 = 0 ∧ (s' 146 42 = 1 → 0 ≤ (s' 146 43).toInt ∧ (s' 146 43).toInt ≤ 9999) ∧ (s' 146 42 = 3 → 0 ≤ (s' 146 43).toInt ∧ (s' 146 43).toInt ≤ 7)
theorem zv_trans {s s1 s' : jg_H} (f : zfr (fun c j => c = 146 ∧ (j = 40 ∨ j = 42 ∨ j = 43)) s s1) (h : zv_R s1 s') : zv_R s s' := by
  have e1 := f 146 38 (by decide)
  have e2 := f 146 41 (by decide)
  refine ⟨zfr_trans f h.1, ?_⟩
  rw [← e1, ← e2]
  exact h.2
theorem z_300 {x : Int32} (h0 : 8 ≤ x.toInt) (h1 : x.toInt ≤ 100) : ((300 + x) - 8).toInt = x.toInt + 292 := by ((try simp only [i_lt, i_le, i_eq, i_in, i_cn, Int32.toInt_add, Int32.toInt_sub, Int32.toInt_mul, Int32.toInt_neg, Int32.reduceToInt, Int.bmod_add_bmod, Int.add_bmod_bmod, Int.bmod_sub_bmod, Int.sub_bmod_bmod, Int.bmod_mul_bmod, Int.mul_bmod_bmod, Int.bmod_neg_bmod, Nat.reducePow, Int.reduceBmod, Int.reduceNeg, Int.reduceMul, Int.reduceAdd, Int.reduceSub, not_true_eq_false, not_false_eq_true] at *) <;> (try simp (disch := omega) only [i_bm'] at *) <;> omega)
theorem z_tok {x : Int32} (h0 : 8 ≤ x.toInt) (h1 : x.toInt ≤ 100) : ¬ (300 + x) - 8 = 0 ∧ ¬ (300 + x) - 8 = 1 ∧ ¬ (300 + x) - 8 = 3 := by
  have e := z_300 h0 h1
  have e0 : (0 : Int32).toInt = 0 := rfl
  have e1 : (1 : Int32).toInt = 1 := rfl
  have e3 : (3 : Int32).toInt = 3 := rfl
  exact ⟨fun q => by rw [q] at e; omega, fun q => by rw [q] at e; omega, fun q => by rw [q] at e; omega⟩
theorem z_add {a b : Int32} (h0 : 0 ≤ a.toInt) (h1 : a.toInt ≤ 1000) (h2 : 0 ≤ b.toInt) (h3 : b.toInt ≤ 1000) : (a + b).toInt = a.toInt + b.toInt := by ((try simp only [i_lt, i_le, i_eq, i_in, i_cn, Int32.toInt_add, Int32.toInt_sub, Int32.toInt_mul, Int32.toInt_neg, Int32.reduceToInt, Int.bmod_add_bmod, Int.add_bmod_bmod, Int.bmod_sub_bmod, Int.sub_bmod_bmod, Int.bmod_mul_bmod, Int.mul_bmod_bmod, Int.bmod_neg_bmod, Nat.reducePow, Int.reduceBmod, Int.reduceNeg, Int.reduceMul, Int.reduceAdd, Int.reduceSub, not_true_eq_false, not_false_eq_true] at *) <;> (try simp (disch := omega) only [i_bm'] at *) <;> omega)
/-- a word's letters are told of (x1 the word that is looked at, x2 the letter, x4 the place) -/
def zv_K (s : jg_H) : Prop := ¬ s 146 42 = 0 ∧ ¬ s 146 42 = 1 ∧ (s 146 42 = 3 → 0 ≤ (s 146 43).toInt ∧ (s 146 43).toInt ≤ 7)
theorem zv_41 {G : jv_X} {d : Nat} {B : Option Value → jg_H → Prop} {N : Int} (hN : N ≤ 200) :
    ∀ (m : Nat) (x1 x2 x3 x4 : Int32) (s : jg_H), 0 ≤ x1.toInt → x1.toInt ≤ x4.toInt → 0 ≤ x2.toInt → x2.toInt ≤ x4.toInt → 0 ≤ x4.toInt → x4.toInt + m = 77 → 0 ≤ (s 146 41).toInt → (s 146 41).toInt < (s 146 40).toInt → (s 146 40).toInt ≤ (s 146 38).toInt → (s 146 38).toInt = N → zv_K s
      → (∀ s', zv_R s s' → B none s') → q_W G (d + 1) jm_M_spelled B 41 [some (.ref 146), some (.int x1), some (.int x2), some (.int x3), some (.int x4)] [] s
  | m, x1, x2, x3, x4, s, h1, h1', h2, h2', h4, hm, b0, b1, b2, b3, hk, hB => by
    have e0 : (0 : Int32).toInt = 0 := rfl
    have e1 : (1 : Int32).toInt = 1 := rfl
    have e8 : (8 : Int32).toInt = 8 := rfl
    have e77 : (77 : Int32).toInt = 77 := rfl
    have p1 := z_p1 (a := x1) (by omega)
    have p2 := z_p1 (a := x2) (by omega)
    have p4 := z_p1 (a := x4) (by omega)
    have pb := z_add (a := s 146 41) (b := x2) b0 (by omega) h2 (by omega)
    have i4 : x4 < 77 → jv_in x4 77 = true := fun q => by have := z_lt q; rw [i_in]; omega
    have iw : ((s 146 41) + x2) < (s 146 38) → jv_in ((s 146 41) + x2) 200 = true := fun q => by have := z_lt q; rw [i_in]; omega
    -- the same heap, the next place
    have ga : ∀ y : Int32, x4 < 77 → q_W G (d + 1) jm_M_spelled B 41 [some (.ref 146), some (.int x1), some (.int (x2 + 1)), some (.int y), some (.int (x4 + 1))] [] s := fun y q => by
      have q := z_lt q
      match m, hm with
      | 0, hm => omega
      | m + 1, hm => exact zv_41 hN m x1 (x2 + 1) y (x4 + 1) s h1 (by omega) (by omega) (by omega) (by omega) (by omega) b0 b1 b2 b3 hk hB
    have gb : ∀ t, zfr (fun c j => c = 146 ∧ (j = 40 ∨ j = 42 ∨ j = 43)) s t → t 146 40 = s 146 40 → zv_K t → x4 < 77 → q_W G (d + 1) jm_M_spelled B 41 [some (.ref 146), some (.int (x1 + 1)), some (.int 0), some (.int 1), some (.int (x4 + 1))] [] t := fun t f f40 kt q => by
      have q := z_lt q
      have f38 := f 146 38 (by decide)
      have f41 := f 146 41 (by decide)
      match m, hm with
      | 0, hm => omega
      | m + 1, hm => exact zv_41 hN m (x1 + 1) 0 1 (x4 + 1) t (by omega) (by omega) (Int.le_refl _) (by omega) (by omega) (by omega) (by rw [f41]; exact b0) (by rw [f41, f40]; exact b1) (by rw [f40, f38]; exact b2) (by rw [f38]; exact b3) kt (fun s' h => hB s' (zv_trans f h))
    refine t_M_spelled_41 (d := d) x1 x2 x3 x4 (fun _ => hB s ⟨zfr_refl, b1, b2, hk.1, fun q => absurd q hk.2.1, hk.2.2⟩) i4 (fun q _ _ => ga 0 q) (fun q _ _ _ => i4 q) (fun q _ _ _ _ => ga 0 q) (fun q _ _ _ _ _ => ga 0 q) (fun q _ _ _ _ _ => ga 1 q) (fun _ _ _ q => iw q) (fun q _ _ _ => i4 q) (fun q _ _ _ _ => ga 0 q) (fun q _ _ _ _ _ => ga 0 q) (fun q _ _ _ _ _ => ga 1 q) (fun q _ _ => gb s zfr_refl rfl hk q) (fun q _ _ _ => gb s zfr_refl rfl hk q) (fun q _ _ _ q8 s1 u1 s2 u2 => ?_) (fun q _ _ _ q8 s1 u1 s2 u2 => ?_)
    · have q8 := z_nlt q8
      have q' := z_lt q
      obtain ⟨t0, t1, t3⟩ := z_tok (x := x1) (by omega) (by omega)
      refine gb s2 (by rw [u2, u1]; exact zfr_up (zfr_up zfr_refl (by decide)) (by decide)) (by rw [u2, u1]; (simp (disch := omega) only [u_hit, u_c, u_j])) ?_ q
      have f42 : s2 146 42 = (300 + x1) - 8 := by rw [u2, u_j (by decide), u1, u_hit]
      unfold zv_K
      rw [f42]
      exact ⟨t0, t1, fun q => absurd q t3⟩
    · have q8 := z_lt q8
      refine gb s2 (by rw [u2, u1]; exact zfr_up (zfr_up zfr_refl (by decide)) (by decide)) (by rw [u2, u1]; (simp (disch := omega) only [u_hit, u_c, u_j])) ?_ q
      have f42 : s2 146 42 = 3 := by rw [u2, u_j (by decide), u1, u_hit]
      have f43 : s2 146 43 = x1 := by rw [u2, u_hit]
      unfold zv_K
      rw [f42, f43]
      exact ⟨by decide, by decide, fun _ => ⟨by omega, by omega⟩⟩
theorem zv_0 {G : jv_X} {d : Nat} {B : Option Value → jg_H → Prop} :
    ∀ (m : Nat) (s : jg_H), 0 ≤ (s 146 41).toInt → (s 146 41).toInt ≤ (s 146 40).toInt → (s 146 40).toInt ≤ (s 146 38).toInt → (s 146 38).toInt ≤ 200 → (s 146 38).toInt ≤ (s 146 40).toInt + m
      → ((s 146 41).toInt < (s 146 40).toInt ∨ (s 146 40 = s 146 41 ∧ (s 146 40).toInt < (s 146 38).toInt ∧ ¬ (s 162 (s 146 41).toNatClampNeg) < 97 ∧ (s 162 (s 146 41).toNatClampNeg) ≤ 122))
      → (∀ s', zv_R s s' → B none s') → q_W G (d + 1) jm_M_spelled B 0 [some (.ref 146), none, none, none, none] [] s
  | m, s, h0, h1, h2, h3, hm, hl, hB => by
    have go : (s 146 41).toInt < (s 146 40).toInt → ∀ s1, s1 = jg_up s 146 42 2 → q_W G (d + 1) jm_M_spelled B 41 [some (.ref 146), some (.int 0), some (.int 0), some (.int 1), some (.int 0)] [] s1 := fun h s1 e1 => by
      have f38 : s1 146 38 = s 146 38 := by rw [e1, u_j (by decide)]
      have f40 : s1 146 40 = s 146 40 := by rw [e1, u_j (by decide)]
      have f41 : s1 146 41 = s 146 41 := by rw [e1, u_j (by decide)]
      have f42 : s1 146 42 = 2 := by rw [e1, u_hit]
      refine zv_41 (N := (s 146 38).toInt) h3 77 0 0 1 0 s1 (Int.le_refl _) (Int.le_refl _) (Int.le_refl _) (Int.le_refl _) (Int.le_refl _) rfl (by rw [f41]; exact h0) (by rw [f40, f41]; exact h) (by rw [f38, f40]; exact h2) (by rw [f38]) ?_ (fun s' r => hB s' (zv_trans ?_ r))
      · unfold zv_K
        rw [f42]
        exact ⟨by decide, by decide, fun q => absurd q (by decide)⟩
      · rw [e1]
        exact zfr_up zfr_refl (by decide)
    refine t_M_spelled_0 (d := d) (fun q => ?_) (fun q => ?_) (fun q q1 => ?_) (fun q q1 q2 => ?_) (fun q q1 q2 s1 e1 => ?_)
    · have q := z_nlt q
      exact go (by rcases hl with hl | ⟨_, hl, _⟩ <;> omega)
    · have q := z_lt q
      rw [i_in]
      omega
    · refine go ?_
      rcases hl with hl | ⟨he, _, ha, _⟩
      · exact hl
      · rw [he] at q1; exact absurd q1 ha
    · refine go ?_
      rcases hl with hl | ⟨he, _, _, ha⟩
      · exact hl
      · rw [he] at q2; exact absurd ha q2
    · have q := z_lt q
      match m, hm with
      | 0, hm => omega
      | m + 1, hm =>
        have e3 : s1 146 40 = s 146 40 + 1 := by rw [e1, u_hit]
        have ep := z_p1 (a := s 146 40) (by omega)
        have f1 : s1 146 38 = s 146 38 := by rw [e1, u_j (by decide)]
        have f2 : s1 146 41 = s 146 41 := by rw [e1, u_j (by decide)]
        refine zv_0 m s1 (by rw [f2]; exact h0) (by rw [f2, e3]; omega) (by rw [f1, e3]; omega) (by rw [f1]; exact h3) (by rw [f1, e3]; omega) (Or.inl (by rw [f2, e3]; omega)) (fun s' h => hB s' (zv_trans ?_ h))
        rw [e1]
        exact zfr_up zfr_refl (by decide)
theorem zv_word {G : jv_X} {d : Nat} {B : Option Value → jg_H → Prop} {s : jg_H} (h0 : 0 ≤ (s 146 41).toInt) (h1 : s 146 40 = s 146 41) (h2 : (s 146 41).toInt < (s 146 38).toInt) (h3 : (s 146 38).toInt ≤ 200) (ha : ¬ (s 162 (s 146 41).toNatClampNeg) < 97) (hb : (s 162 (s 146 41).toNatClampNeg) ≤ 122) (hB : ∀ s', zv_R s s' → B none s') : q_P G (d + 2) 137 [.ref 146] s B :=
  t_M_spelled (d := d) (zv_0 200 s h0 (by rw [h1]; exact Int.le_refl _) (by rw [h1]; omega) h3 (by rw [h1]; omega) (Or.inr ⟨h1, by rw [h1]; exact h2, ha, hb⟩) hB)
def zo_I (s : jg_H) : Prop := ((s 146 40).toInt = (s 146 41).toInt ∧ (s 146 40).toInt < (s 146 38).toInt ∧ ¬ (s 162 (s 146 40).toNatClampNeg) < 48 ∧ (s 162 (s 146 40).toNatClampNeg) ≤ 57 ∧ (s 146 43).toInt = 0)
  ∨ ((s 146 40).toInt = (s 146 41).toInt + 1 ∧ 0 ≤ (s 146 43).toInt ∧ (s 146 43).toInt ≤ 9) ∨ ((s 146 40).toInt = (s 146 41).toInt + 2 ∧ 0 ≤ (s 146 43).toInt ∧ (s 146 43).toInt ≤ 99) ∨ ((s 146 40).toInt = (s 146 41).toInt + 3 ∧ 0 ≤ (s 146 43).toInt ∧ (s 146 43).toInt ≤ 999)
  ∨ ((s 146 40).toInt = (s 146 41).toInt + 4 ∧ 0 ≤ (s 146 43).toInt ∧ (s 146 43).toInt ≤ 9999) ∨ (s 146 41).toInt + 5 ≤ (s 146 40).toInt
theorem zo_step {a b : Int32} (h0 : 0 ≤ a.toInt) (h1 : a.toInt ≤ 999) (h2 : 48 ≤ b.toInt) (h3 : b.toInt ≤ 57) : (((10 * a) + b) - 48).toInt = a.toInt * 10 + b.toInt - 48 := by ((try simp only [i_lt, i_le, i_eq, i_in, i_cn, Int32.toInt_add, Int32.toInt_sub, Int32.toInt_mul, Int32.toInt_neg, Int32.reduceToInt, Int.bmod_add_bmod, Int.add_bmod_bmod, Int.bmod_sub_bmod, Int.sub_bmod_bmod, Int.bmod_mul_bmod, Int.mul_bmod_bmod, Int.bmod_neg_bmod, Nat.reducePow, Int.reduceBmod, Int.reduceNeg, Int.reduceMul, Int.reduceAdd, Int.reduceSub, not_true_eq_false, not_false_eq_true] at *) <;> (try simp (disch := omega) only [i_bm'] at *) <;> omega)
theorem zo_5 {G : jv_X} {d : Nat} {B : Option Value → jg_H → Prop} :
    ∀ (m : Nat) (s : jg_H), 0 ≤ (s 146 41).toInt → (s 146 41).toInt ≤ (s 146 40).toInt → (s 146 40).toInt ≤ (s 146 38).toInt → (s 146 38).toInt ≤ 200 → (s 146 38).toInt ≤ (s 146 40).toInt + m → zo_I s
      → (∀ s', zv_R s s' → B none s') → q_W G (d + 1) jm_M_number B 5 [some (.ref 146)] [] s
  | m, s, h0, h1, h2, h3, hm, hl, hB => by
    have e4 : (4 : Int32).toInt = 4 := rfl
    have e48 : (48 : Int32).toInt = 48 := rfl
    have e57 : (57 : Int32).toInt = 57 := rfl
    have es := z_sub (a := s 146 40) (b := s 146 41) (by omega) h0
    have good : (s 146 41).toInt < (s 146 40).toInt → ((s 146 40) - (s 146 41)) ≤ 4 → ∀ s1, s1 = jg_up s 146 42 1 → B none s1 := fun h q s1 e1 => by
      have q := z_le q
      have hn : 0 ≤ (s 146 43).toInt ∧ (s 146 43).toInt ≤ 9999 := by
        rcases hl with hl | hl | hl | hl | hl | hl <;> omega
      subst e1
      refine hB _ ⟨zfr_up zfr_refl (by decide), by rw [u_j (by decide)]; exact h, by rw [u_j (by decide)]; exact h2, by rw [u_hit]; decide, fun _ => by rw [u_j (by decide)]; exact hn, fun q => ?_⟩
      rw [u_hit] at q
      exact absurd q (by decide)
    have bad : (s 146 41).toInt < (s 146 40).toInt → ∀ s1, s1 = jg_up s 146 42 2 → B none s1 := fun h s1 e1 => by
      subst e1
      refine hB _ ⟨zfr_up zfr_refl (by decide), by rw [u_j (by decide)]; exact h, by rw [u_j (by decide)]; exact h2, by rw [u_hit]; decide, fun q => ?_, fun q => ?_⟩ <;> (rw [u_hit] at q; exact absurd q (by decide))
    have far : ¬ (s 146 40) < (s 146 38) → (s 146 41).toInt < (s 146 40).toInt := fun q => by
      have q := z_nlt q
      rcases hl with ⟨_, hl, _⟩ | hl | hl | hl | hl | hl <;> omega
    have far1 : (s 162 (s 146 40).toNatClampNeg) < 48 → (s 146 41).toInt < (s 146 40).toInt := fun q => by
      rcases hl with ⟨_, _, hl, _⟩ | hl | hl | hl | hl | hl
      · exact absurd q hl
      all_goals omega
    have far2 : ¬ (s 162 (s 146 40).toNatClampNeg) ≤ 57 → (s 146 41).toInt < (s 146 40).toInt := fun q => by
      rcases hl with ⟨_, _, _, hl, _⟩ | hl | hl | hl | hl | hl
      · exact absurd hl q
      all_goals omega
    have inn : (s 146 40) < (s 146 38) → jv_in (s 146 40) 200 = true := fun q => by have := z_lt q; rw [i_in]; omega
    -- one digit more
    have on : ∀ w : Int32, ∀ s1, s1 = jg_up s 146 43 w → ∀ s2, s2 = jg_up s1 146 40 ((s1 146 40) + 1) → (s 146 40) < (s 146 38) → (∀ t, t 146 38 = s 146 38 → t 146 41 = s 146 41 → (t 146 40).toInt = (s 146 40).toInt + 1 → t 146 43 = w → zo_I t) → q_W G (d + 1) jm_M_number B 5 [some (.ref 146)] [] s2 := fun w s1 e1 s2 e2 q hz => by
      have q := z_lt q
      match m, hm with
      | 0, hm => omega
      | m + 1, hm =>
        have f3 : s2 146 40 = s 146 40 + 1 := by rw [e2, u_hit, e1, u_j (by decide)]
        have f5 : s2 146 43 = w := by rw [e2, u_j (by decide), e1, u_hit]
        have ep := z_p1 (a := s 146 40) (by omega)
        have f1 : s2 146 38 = s 146 38 := by rw [e2, u_j (by decide), e1, u_j (by decide)]
        have f2 : s2 146 41 = s 146 41 := by rw [e2, u_j (by decide), e1, u_j (by decide)]
        refine zo_5 m s2 (by rw [f2]; exact h0) (by rw [f2, f3]; omega) (by rw [f1, f3]; omega) (by rw [f1]; exact h3) (by rw [f1, f3]; omega) (hz s2 f1 f2 (by rw [f3]; exact ep) f5) (fun s' h => hB s' (zv_trans ?_ h))
        rw [e2, e1]
        exact zfr_up (zfr_up zfr_refl (by decide)) (by decide)
    refine t_M_number_5 (d := d) (fun q q1 => good (far q) q1) (fun q _ => bad (far q)) inn (fun _ q => good (far1 q)) (fun _ q _ => bad (far1 q)) (fun _ _ q => good (far2 q)) (fun _ _ q _ => bad (far2 q)) (fun q q1 q2 q3 s1 e1 s2 e2 => on _ s1 e1 s2 e2 q (fun t f1 f2 f3 f4 => ?_)) (fun q _ _ _ => inn q) (fun q q1 q2 q3 s1 e1 s2 e2 => on _ s1 e1 s2 e2 q (fun t f1 f2 f3 f4 => ?_))
    · have q3 := z_nlt q3
      unfold zo_I
      rw [f2]
      exact Or.inr (Or.inr (Or.inr (Or.inr (Or.inr (by omega)))))
    · have q1 := z_nlt q1
      have q2 := z_le q2
      have q3 := z_lt q3
      unfold zo_I
      rw [f1, f2, f4]
      rcases hl with ⟨h, _, _, _, h5⟩ | ⟨h, h5, h6⟩ | ⟨h, h5, h6⟩ | ⟨h, h5, h6⟩ | ⟨h, h5, h6⟩ | h
      · have := zo_step (a := s 146 43) (b := s 162 (s 146 40).toNatClampNeg) (by omega) (by omega) (by omega) (by omega)
        exact Or.inr (Or.inl ⟨by omega, by omega, by omega⟩)
      · have := zo_step (a := s 146 43) (b := s 162 (s 146 40).toNatClampNeg) (by omega) (by omega) (by omega) (by omega)
        exact Or.inr (Or.inr (Or.inl ⟨by omega, by omega, by omega⟩))
      · have := zo_step (a := s 146 43) (b := s 162 (s 146 40).toNatClampNeg) (by omega) (by omega) (by omega) (by omega)
        exact Or.inr (Or.inr (Or.inr (Or.inl ⟨by omega, by omega, by omega⟩)))
      · have := zo_step (a := s 146 43) (b := s 162 (s 146 40).toNatClampNeg) (by omega) (by omega) (by omega) (by omega)
        exact Or.inr (Or.inr (Or.inr (Or.inr (Or.inl ⟨by omega, by omega, by omega⟩))))
      · exact Or.inr (Or.inr (Or.inr (Or.inr (Or.inr (by omega)))))
      · exact Or.inr (Or.inr (Or.inr (Or.inr (Or.inr (by omega)))))
theorem zo_number {G : jv_X} {d : Nat} {B : Option Value → jg_H → Prop} {s : jg_H} (h0 : 0 ≤ (s 146 41).toInt) (h1 : s 146 40 = s 146 41) (h2 : (s 146 41).toInt < (s 146 38).toInt) (h3 : (s 146 38).toInt ≤ 200) (ha : ¬ (s 162 (s 146 41).toNatClampNeg) < 48) (hb : (s 162 (s 146 41).toNatClampNeg) ≤ 57) (hB : ∀ s', zv_R s s' → B none s') : q_P G (d + 2) 139 [.ref 146] s B := by
  refine t_M_number (d := d) (fun s1 e1 => ?_)
  have f1 : s1 146 38 = s 146 38 := by rw [e1, u_j (by decide)]
  have f2 : s1 146 41 = s 146 41 := by rw [e1, u_j (by decide)]
  have f3 : s1 146 40 = s 146 41 := by rw [e1, u_j (by decide)]; exact h1
  have f5 : s1 146 43 = 0 := by rw [e1, u_hit]
  have f8 : s1 162 = s 162 := by rw [e1]; exact funext fun _ => u_c (by decide)
  refine zo_5 200 s1 (by rw [f2]; exact h0) (by rw [f2, f3]; exact Int.le_refl _) (by rw [f1, f3]; omega) (by rw [f1]; exact h3) (by rw [f1, f3]; omega) (Or.inl ?_) (fun s' h => hB s' (zv_trans ?_ h))
  · rw [f1, f2, f3, f5, f8]
    exact ⟨rfl, h2, ha, hb, rfl⟩
  · rw [e1]
    exact zfr_up zfr_refl (by decide)
/-! the next token -/
theorem zh_sub {s s' : jg_H} (h : zfr (fun c j => c = 146 ∧ (j = 40 ∨ j = 42 ∨ j = 43)) s s') : zfr zV_L s s' := zfr_sub (fun c j w => by obtain ⟨rfl, w⟩ := w; exact ⟨rfl, by omega, by omega⟩) h
theorem zh_end {s : jg_H} (h0 : 0 ≤ (s 146 40).toInt) (h1 : (s 146 40).toInt ≤ (s 146 38).toInt) (h2 : (s 146 38).toInt ≤ 200) : zm_G s (jg_up (jg_up s 146 41 (s 146 40)) 146 42 0) := by
  refine ⟨zfr_up (zfr_up zfr_refl (by decide)) (by decide), ?_, ?_⟩
  · unfold zm_ok
    (simp (disch := omega) only [u_hit, u_c, u_j])
    exact ⟨h0, Int.le_refl _, h1, h2, Or.inl (by trivial), fun e => absurd e (by decide), fun e => absurd e (by decide)⟩
  · (simp (disch := omega) only [u_hit, u_c, u_j]); exact Int.le_refl _
theorem zh_sign {s : jg_H} (h0 : 0 ≤ (s 146 40).toInt) (h1 : (s 146 40).toInt < (s 146 38).toInt) (h2 : (s 146 38).toInt ≤ 200) {v : Int32} (v1 : ¬ v = 1) (v3 : ¬ v = 3) : zm_G s (jg_up (jg_up (jg_up s 146 41 (s 146 40)) 146 42 v) 146 40 (s 146 40 + 1)) := by
  have ep := z_p1 (a := s 146 40) (by omega)
  refine ⟨zfr_up (zfr_up (zfr_up zfr_refl (by decide)) (by decide)) (by decide), ?_, ?_⟩
  · unfold zm_ok
    (simp (disch := omega) only [u_hit, u_c, u_j])
    exact ⟨h0, by omega, by omega, h2, Or.inr (by omega), fun e => absurd e v1, fun e => absurd e v3⟩
  · (simp (disch := omega) only [u_hit, u_c, u_j]); exact Int.le_refl _
theorem zh_w {s s' : jg_H} (h0 : 0 ≤ (s 146 40).toInt) (h2 : (s 146 38).toInt ≤ 200) (h : zv_R (jg_up s 146 41 (s 146 40)) s') : zm_G s s' := by
  obtain ⟨f, t3, t4, t0, t1, t2⟩ := h
  have f' : zfr zV_L s s' := zfr_trans (zfr_up zfr_refl (by decide)) (zh_sub f)
  have e1 := (f 146 38 (by decide)).trans (u_j (by decide))
  have e2 := (f 146 41 (by decide)).trans u_hit
  rw [u_hit] at t3
  rw [u_j (by decide)] at t4
  exact ⟨f', ⟨by rw [e2]; exact h0, by rw [e2]; omega, by rw [e1]; exact t4, by rw [e1]; exact h2, Or.inr (by rw [e2]; exact t3), t1, t2⟩, by rw [e2]; exact Int.le_refl _⟩
theorem zh_skip {s s' : jg_H} (h1 : (s 146 40).toInt < (s 146 38).toInt) (h2 : (s 146 38).toInt ≤ 200) (h : zm_G (jg_up s 146 40 (s 146 40 + 1)) s') : zm_G s s' := by
  have ep := z_p1 (a := s 146 40) (by omega)
  obtain ⟨f, g, k⟩ := h
  refine ⟨zfr_trans (zfr_up zfr_refl (by decide)) f, g, ?_⟩
  rw [u_hit] at k
  omega
theorem zh_0 {G : jv_X} {d : Nat} {B : Option Value → jg_H → Prop} :
    ∀ (m : Nat) (s : jg_H), 0 ≤ (s 146 40).toInt → (s 146 40).toInt ≤ (s 146 38).toInt → (s 146 38).toInt ≤ 200 → (s 146 38).toInt ≤ (s 146 40).toInt + m → (∀ s', zm_G s s' → B none s') → q_W G (d + 2) jm_M_next B 0 [some (.ref 146), none, none] [] s
  | m, s, h0, h1, h2, hm, hB => by
    have y_in0 : (s 146 40) < (s 146 38) → jv_in (s 146 40) 200 = true := fun q => by have := z_lt q; rw [i_in]; omega
    have t1 : ∀ t, t = jg_up s 146 41 (s 146 40) → t 146 38 = s 146 38 := fun t e => by rw [e, u_j (by decide)]
    have t2 : ∀ t, t = jg_up s 146 41 (s 146 40) → t 146 41 = s 146 40 := fun t e => by rw [e, u_hit]
    have t3 : ∀ t, t = jg_up s 146 41 (s 146 40) → t 146 40 = s 146 40 := fun t e => by rw [e, u_j (by decide)]
    have lt : ∀ t, t = jg_up s 146 41 (s 146 40) → (t 146 40) < (t 146 38) → (s 146 40).toInt < (s 146 38).toInt := fun t e l => by rw [t1 t e, t3 t e] at l; exact z_lt l
    have y_in : ∀ t, t = jg_up s 146 41 (s 146 40) → (t 146 40) < (t 146 38) → jv_in (t 146 40) 200 = true := fun t e l => by
      have := lt t e l
      rw [t3 t e, i_in]
      omega
    have y_end : ∀ t, t = jg_up s 146 41 (s 146 40) → ∀ t', t' = jg_up t 146 42 0 → B none t' := fun t e t' e' => by
      rw [e', e]
      exact hB _ (zh_end h0 h1 h2)
    have y_tok : ∀ t, t = jg_up s 146 41 (s 146 40) → (t 146 40) < (t 146 38) → ∀ v : Int32, ¬ v = 1 → ¬ v = 3 → ∀ t', t' = jg_up t 146 42 v → ∀ t'', t'' = jg_up t' 146 40 ((t' 146 40) + 1) → B none t'' := fun t e l v v1 v3 t' e' t'' e'' => by
      rw [e'', show t' 146 40 = s 146 40 by rw [e', u_j (by decide)]; exact t3 t e, e', e]
      exact hB _ (zh_sign h0 (lt t e l) h2 v1 v3)
    have y_word : ∀ t, t = jg_up s 146 41 (s 146 40) → (t 146 40) < (t 146 38) → ¬ (t 162 (t 146 40).toNatClampNeg) < 97 → (t 162 (t 146 40).toNatClampNeg) ≤ 122 → q_P G (d + 2) 137 [.ref 146] t (fun v t' => q_W G (d + 2) jm_M_next B 80 [some (.ref 146), some (.int (t 162 (t 146 40).toNatClampNeg)), none] (v.toList ++ []) t') := fun t e l a b => by
      have e43 : t 146 40 = t 146 41 := by rw [t2 t e, t3 t e]
      refine zv_word (d := d) (by rw [t2 t e]; exact h0) e43 (by rw [t1 t e, t2 t e]; exact lt t e l) (by rw [t1 t e]; exact h2) (by rw [← e43]; exact a) (by rw [← e43]; exact b) (fun s' h => ?_)
      rw [e] at h
      exact t_M_next_80 (d := d + 1) _ (hB _ (zh_w h0 h2 h))
    have y_num : ∀ t, t = jg_up s 146 41 (s 146 40) → (t 146 40) < (t 146 38) → ¬ (t 162 (t 146 40).toNatClampNeg) < 48 → (t 162 (t 146 40).toNatClampNeg) ≤ 57 → q_P G (d + 2) 139 [.ref 146] t (fun v t' => q_W G (d + 2) jm_M_next B 94 [some (.ref 146), some (.int (t 162 (t 146 40).toNatClampNeg)), none] (v.toList ++ []) t') := fun t e l a b => by
      have e43 : t 146 40 = t 146 41 := by rw [t2 t e, t3 t e]
      refine zo_number (d := d) (by rw [t2 t e]; exact h0) e43 (by rw [t1 t e, t2 t e]; exact lt t e l) (by rw [t1 t e]; exact h2) (by rw [← e43]; exact a) (by rw [← e43]; exact b) (fun s' h => ?_)
      rw [e] at h
      exact t_M_next_94 (d := d + 1) _ (hB _ (zh_w h0 h2 h))
    have y_skip : (s 146 40) < (s 146 38) → ∀ t, t = jg_up s 146 40 ((s 146 40) + 1) → q_W G (d + 2) jm_M_next B 0 [some (.ref 146), none, none] [] t := fun l t e => by
      have l := z_lt l
      match m, hm with
      | 0, hm => omega
      | m + 1, hm =>
        have ep := z_p1 (a := s 146 40) (by omega)
        have f1 : t 146 38 = s 146 38 := by rw [e, u_j (by decide)]
        have f3 : t 146 40 = s 146 40 + 1 := by rw [e, u_hit]
        refine zh_0 m t (by rw [f3]; omega) (by rw [f1, f3]; omega) (by rw [f1]; exact h2) (by rw [f1, f3]; omega) (fun s' h => hB s' (zh_skip l h2 ?_))
        rw [← e]
        exact h
    exact t_M_next_0 (d := d + 1)
      (fun h1 s1 h3 h4 s2 h6 => y_end s1 h3 s2 h6)
      (fun h1 s1 h3 h4 => y_in s1 h3 h4)
      (fun h1 s1 h3 h4 h5 h6 h7 h8 s3 h10 s4 h12 => y_tok s1 h3 h4 _ (by rw [h8]; decide) (by rw [h8]; decide) s3 h10 s4 h12)
      (fun h1 s1 h3 h4 h5 h6 h7 h8 h9 s5 h11 s6 h13 => y_tok s1 h3 h4 _ (by rw [h9]; decide) (by rw [h9]; decide) s5 h11 s6 h13)
      (fun h1 s1 h3 h4 h5 h6 h7 h8 h9 h10 s7 h12 s8 h14 => y_tok s1 h3 h4 _ (by rw [h10]; decide) (by rw [h10]; decide) s7 h12 s8 h14)
      (fun h1 s1 h3 h4 h5 h6 h7 h8 h9 h10 h11 s9 h13 s10 h15 => y_tok s1 h3 h4 _ (by rw [h11]; decide) (by rw [h11]; decide) s9 h13 s10 h15)
      (fun h1 s1 h3 h4 h5 h6 h7 h8 h9 h10 h11 h12 s11 h14 s12 h16 => y_tok s1 h3 h4 _ (by rw [h12]; decide) (by rw [h12]; decide) s11 h14 s12 h16)
      (fun h1 s1 h3 h4 h5 h6 h7 h8 h9 h10 h11 h12 h13 s13 h15 s14 h17 => y_tok s1 h3 h4 _ (by rw [h13]; decide) (by rw [h13]; decide) s13 h15 s14 h17)
      (fun h1 s1 h3 h4 h5 h6 h7 h8 h9 h10 h11 h12 h13 h14 s15 h16 s16 h18 => y_tok s1 h3 h4 _ (by rw [h14]; decide) (by rw [h14]; decide) s15 h16 s16 h18)
      (fun h1 s1 h3 h4 h5 h6 h7 h8 h9 h10 h11 h12 h13 h14 h15 s17 h17 s18 h19 => y_tok s1 h3 h4 2 (by decide) (by decide) s17 h17 s18 h19)
      (fun h1 s1 h3 h4 h5 h6 h7 h8 h9 h10 h11 h12 h13 h14 h15 s19 h17 s20 h19 => y_tok s1 h3 h4 _ (by rw [h15]; decide) (by rw [h15]; decide) s19 h17 s20 h19)
      (fun h1 s1 h3 h4 h5 h6 h7 h8 h9 s21 h11 s22 h13 => y_tok s1 h3 h4 _ (by rw [h9]; decide) (by rw [h9]; decide) s21 h11 s22 h13)
      (fun h1 s1 h3 h4 h5 h6 h7 h8 h9 h10 s23 h12 s24 h14 => y_tok s1 h3 h4 _ (by rw [h10]; decide) (by rw [h10]; decide) s23 h12 s24 h14)
      (fun h1 s1 h3 h4 h5 h6 h7 h8 h9 h10 h11 s25 h13 s26 h15 => y_tok s1 h3 h4 _ (by rw [h11]; decide) (by rw [h11]; decide) s25 h13 s26 h15)
      (fun h1 s1 h3 h4 h5 h6 h7 h8 h9 h10 h11 h12 s27 h14 s28 h16 => y_tok s1 h3 h4 _ (by rw [h12]; decide) (by rw [h12]; decide) s27 h14 s28 h16)
      (fun h1 s1 h3 h4 h5 h6 h7 h8 h9 h10 h11 h12 h13 s29 h15 s30 h17 => y_tok s1 h3 h4 _ (by rw [h13]; decide) (by rw [h13]; decide) s29 h15 s30 h17)
      (fun h1 s1 h3 h4 h5 h6 h7 h8 h9 h10 h11 h12 h13 h14 s31 h16 s32 h18 => y_tok s1 h3 h4 _ (by rw [h14]; decide) (by rw [h14]; decide) s31 h16 s32 h18)
      (fun h1 s1 h3 h4 h5 h6 h7 h8 h9 h10 h11 h12 h13 h14 h15 s33 h17 s34 h19 => y_tok s1 h3 h4 _ (by rw [h15]; decide) (by rw [h15]; decide) s33 h17 s34 h19)
      (fun h1 s1 h3 h4 h5 h6 h7 h8 h9 h10 h11 h12 h13 h14 h15 h16 s35 h18 s36 h20 => y_tok s1 h3 h4 2 (by decide) (by decide) s35 h18 s36 h20)
      (fun h1 s1 h3 h4 h5 h6 h7 h8 h9 h10 h11 h12 h13 h14 h15 h16 s37 h18 s38 h20 => y_tok s1 h3 h4 _ (by rw [h16]; decide) (by rw [h16]; decide) s37 h18 s38 h20)
      (fun h1 s1 h3 h4 h5 h6 h7 h8 => y_num s1 h3 h4 h7 h8)
      (fun h1 s1 h3 h4 h5 h6 h7 h8 h9 s39 h11 s40 h13 => y_tok s1 h3 h4 _ (by rw [h9]; decide) (by rw [h9]; decide) s39 h11 s40 h13)
      (fun h1 s1 h3 h4 h5 h6 h7 h8 h9 h10 s41 h12 s42 h14 => y_tok s1 h3 h4 _ (by rw [h10]; decide) (by rw [h10]; decide) s41 h12 s42 h14)
      (fun h1 s1 h3 h4 h5 h6 h7 h8 h9 h10 h11 s43 h13 s44 h15 => y_tok s1 h3 h4 _ (by rw [h11]; decide) (by rw [h11]; decide) s43 h13 s44 h15)
      (fun h1 s1 h3 h4 h5 h6 h7 h8 h9 h10 h11 h12 s45 h14 s46 h16 => y_tok s1 h3 h4 _ (by rw [h12]; decide) (by rw [h12]; decide) s45 h14 s46 h16)
      (fun h1 s1 h3 h4 h5 h6 h7 h8 h9 h10 h11 h12 h13 s47 h15 s48 h17 => y_tok s1 h3 h4 _ (by rw [h13]; decide) (by rw [h13]; decide) s47 h15 s48 h17)
      (fun h1 s1 h3 h4 h5 h6 h7 h8 h9 h10 h11 h12 h13 h14 s49 h16 s50 h18 => y_tok s1 h3 h4 _ (by rw [h14]; decide) (by rw [h14]; decide) s49 h16 s50 h18)
      (fun h1 s1 h3 h4 h5 h6 h7 h8 h9 h10 h11 h12 h13 h14 h15 s51 h17 s52 h19 => y_tok s1 h3 h4 _ (by rw [h15]; decide) (by rw [h15]; decide) s51 h17 s52 h19)
      (fun h1 s1 h3 h4 h5 h6 h7 h8 h9 h10 h11 h12 h13 h14 h15 h16 s53 h18 s54 h20 => y_tok s1 h3 h4 2 (by decide) (by decide) s53 h18 s54 h20)
      (fun h1 s1 h3 h4 h5 h6 h7 h8 h9 h10 h11 h12 h13 h14 h15 h16 s55 h18 s56 h20 => y_tok s1 h3 h4 _ (by rw [h16]; decide) (by rw [h16]; decide) s55 h18 s56 h20)
      (fun h1 s1 h3 h4 h5 h6 h7 h8 h9 h10 s57 h12 s58 h14 => y_tok s1 h3 h4 _ (by rw [h10]; decide) (by rw [h10]; decide) s57 h12 s58 h14)
      (fun h1 s1 h3 h4 h5 h6 h7 h8 h9 h10 h11 s59 h13 s60 h15 => y_tok s1 h3 h4 _ (by rw [h11]; decide) (by rw [h11]; decide) s59 h13 s60 h15)
      (fun h1 s1 h3 h4 h5 h6 h7 h8 h9 h10 h11 h12 s61 h14 s62 h16 => y_tok s1 h3 h4 _ (by rw [h12]; decide) (by rw [h12]; decide) s61 h14 s62 h16)
      (fun h1 s1 h3 h4 h5 h6 h7 h8 h9 h10 h11 h12 h13 s63 h15 s64 h17 => y_tok s1 h3 h4 _ (by rw [h13]; decide) (by rw [h13]; decide) s63 h15 s64 h17)
      (fun h1 s1 h3 h4 h5 h6 h7 h8 h9 h10 h11 h12 h13 h14 s65 h16 s66 h18 => y_tok s1 h3 h4 _ (by rw [h14]; decide) (by rw [h14]; decide) s65 h16 s66 h18)
      (fun h1 s1 h3 h4 h5 h6 h7 h8 h9 h10 h11 h12 h13 h14 h15 s67 h17 s68 h19 => y_tok s1 h3 h4 _ (by rw [h15]; decide) (by rw [h15]; decide) s67 h17 s68 h19)
      (fun h1 s1 h3 h4 h5 h6 h7 h8 h9 h10 h11 h12 h13 h14 h15 h16 s69 h18 s70 h20 => y_tok s1 h3 h4 _ (by rw [h16]; decide) (by rw [h16]; decide) s69 h18 s70 h20)
      (fun h1 s1 h3 h4 h5 h6 h7 h8 h9 h10 h11 h12 h13 h14 h15 h16 h17 s71 h19 s72 h21 => y_tok s1 h3 h4 2 (by decide) (by decide) s71 h19 s72 h21)
      (fun h1 s1 h3 h4 h5 h6 h7 h8 h9 h10 h11 h12 h13 h14 h15 h16 h17 s73 h19 s74 h21 => y_tok s1 h3 h4 _ (by rw [h17]; decide) (by rw [h17]; decide) s73 h19 s74 h21)
      (fun h1 s1 h3 h4 h5 h6 h7 h8 h9 => y_num s1 h3 h4 h8 h9)
      (fun h1 s1 h3 h4 h5 h6 h7 => y_word s1 h3 h4 h6 h7)
      (fun h1 s1 h3 h4 h5 s75 h7 => y_end s1 h3 s75 h7)
      (fun h1 => y_in0 h1)
      (fun h1 h2 s76 h4 => y_skip h1 s76 h4)
      (fun h1 h2 => y_in0 h1)
      (fun h1 h2 h3 s77 h5 h6 s78 h8 => y_end s77 h5 s78 h8)
      (fun h1 h2 h3 s77 h5 h6 => y_in s77 h5 h6)
      (fun h1 h2 h3 s77 h5 h6 h7 h8 h9 h10 s79 h12 s80 h14 => y_tok s77 h5 h6 _ (by rw [h10]; decide) (by rw [h10]; decide) s79 h12 s80 h14)
      (fun h1 h2 h3 s77 h5 h6 h7 h8 h9 h10 h11 s81 h13 s82 h15 => y_tok s77 h5 h6 _ (by rw [h11]; decide) (by rw [h11]; decide) s81 h13 s82 h15)
      (fun h1 h2 h3 s77 h5 h6 h7 h8 h9 h10 h11 h12 s83 h14 s84 h16 => y_tok s77 h5 h6 _ (by rw [h12]; decide) (by rw [h12]; decide) s83 h14 s84 h16)
      (fun h1 h2 h3 s77 h5 h6 h7 h8 h9 h10 h11 h12 h13 s85 h15 s86 h17 => y_tok s77 h5 h6 _ (by rw [h13]; decide) (by rw [h13]; decide) s85 h15 s86 h17)
      (fun h1 h2 h3 s77 h5 h6 h7 h8 h9 h10 h11 h12 h13 h14 s87 h16 s88 h18 => y_tok s77 h5 h6 _ (by rw [h14]; decide) (by rw [h14]; decide) s87 h16 s88 h18)
      (fun h1 h2 h3 s77 h5 h6 h7 h8 h9 h10 h11 h12 h13 h14 h15 s89 h17 s90 h19 => y_tok s77 h5 h6 _ (by rw [h15]; decide) (by rw [h15]; decide) s89 h17 s90 h19)
      (fun h1 h2 h3 s77 h5 h6 h7 h8 h9 h10 h11 h12 h13 h14 h15 h16 s91 h18 s92 h20 => y_tok s77 h5 h6 _ (by rw [h16]; decide) (by rw [h16]; decide) s91 h18 s92 h20)
      (fun h1 h2 h3 s77 h5 h6 h7 h8 h9 h10 h11 h12 h13 h14 h15 h16 h17 s93 h19 s94 h21 => y_tok s77 h5 h6 2 (by decide) (by decide) s93 h19 s94 h21)
      (fun h1 h2 h3 s77 h5 h6 h7 h8 h9 h10 h11 h12 h13 h14 h15 h16 h17 s95 h19 s96 h21 => y_tok s77 h5 h6 _ (by rw [h17]; decide) (by rw [h17]; decide) s95 h19 s96 h21)
      (fun h1 h2 h3 s77 h5 h6 h7 h8 h9 h10 h11 s97 h13 s98 h15 => y_tok s77 h5 h6 _ (by rw [h11]; decide) (by rw [h11]; decide) s97 h13 s98 h15)
      (fun h1 h2 h3 s77 h5 h6 h7 h8 h9 h10 h11 h12 s99 h14 s100 h16 => y_tok s77 h5 h6 _ (by rw [h12]; decide) (by rw [h12]; decide) s99 h14 s100 h16)
      (fun h1 h2 h3 s77 h5 h6 h7 h8 h9 h10 h11 h12 h13 s101 h15 s102 h17 => y_tok s77 h5 h6 _ (by rw [h13]; decide) (by rw [h13]; decide) s101 h15 s102 h17)
      (fun h1 h2 h3 s77 h5 h6 h7 h8 h9 h10 h11 h12 h13 h14 s103 h16 s104 h18 => y_tok s77 h5 h6 _ (by rw [h14]; decide) (by rw [h14]; decide) s103 h16 s104 h18)
      (fun h1 h2 h3 s77 h5 h6 h7 h8 h9 h10 h11 h12 h13 h14 h15 s105 h17 s106 h19 => y_tok s77 h5 h6 _ (by rw [h15]; decide) (by rw [h15]; decide) s105 h17 s106 h19)
      (fun h1 h2 h3 s77 h5 h6 h7 h8 h9 h10 h11 h12 h13 h14 h15 h16 s107 h18 s108 h20 => y_tok s77 h5 h6 _ (by rw [h16]; decide) (by rw [h16]; decide) s107 h18 s108 h20)
      (fun h1 h2 h3 s77 h5 h6 h7 h8 h9 h10 h11 h12 h13 h14 h15 h16 h17 s109 h19 s110 h21 => y_tok s77 h5 h6 _ (by rw [h17]; decide) (by rw [h17]; decide) s109 h19 s110 h21)
      (fun h1 h2 h3 s77 h5 h6 h7 h8 h9 h10 h11 h12 h13 h14 h15 h16 h17 h18 s111 h20 s112 h22 => y_tok s77 h5 h6 2 (by decide) (by decide) s111 h20 s112 h22)
      (fun h1 h2 h3 s77 h5 h6 h7 h8 h9 h10 h11 h12 h13 h14 h15 h16 h17 h18 s113 h20 s114 h22 => y_tok s77 h5 h6 _ (by rw [h18]; decide) (by rw [h18]; decide) s113 h20 s114 h22)
      (fun h1 h2 h3 s77 h5 h6 h7 h8 h9 h10 => y_num s77 h5 h6 h9 h10)
      (fun h1 h2 h3 s77 h5 h6 h7 h8 h9 h10 h11 s115 h13 s116 h15 => y_tok s77 h5 h6 _ (by rw [h11]; decide) (by rw [h11]; decide) s115 h13 s116 h15)
      (fun h1 h2 h3 s77 h5 h6 h7 h8 h9 h10 h11 h12 s117 h14 s118 h16 => y_tok s77 h5 h6 _ (by rw [h12]; decide) (by rw [h12]; decide) s117 h14 s118 h16)
      (fun h1 h2 h3 s77 h5 h6 h7 h8 h9 h10 h11 h12 h13 s119 h15 s120 h17 => y_tok s77 h5 h6 _ (by rw [h13]; decide) (by rw [h13]; decide) s119 h15 s120 h17)
      (fun h1 h2 h3 s77 h5 h6 h7 h8 h9 h10 h11 h12 h13 h14 s121 h16 s122 h18 => y_tok s77 h5 h6 _ (by rw [h14]; decide) (by rw [h14]; decide) s121 h16 s122 h18)
      (fun h1 h2 h3 s77 h5 h6 h7 h8 h9 h10 h11 h12 h13 h14 h15 s123 h17 s124 h19 => y_tok s77 h5 h6 _ (by rw [h15]; decide) (by rw [h15]; decide) s123 h17 s124 h19)
      (fun h1 h2 h3 s77 h5 h6 h7 h8 h9 h10 h11 h12 h13 h14 h15 h16 s125 h18 s126 h20 => y_tok s77 h5 h6 _ (by rw [h16]; decide) (by rw [h16]; decide) s125 h18 s126 h20)
      (fun h1 h2 h3 s77 h5 h6 h7 h8 h9 h10 h11 h12 h13 h14 h15 h16 h17 s127 h19 s128 h21 => y_tok s77 h5 h6 _ (by rw [h17]; decide) (by rw [h17]; decide) s127 h19 s128 h21)
      (fun h1 h2 h3 s77 h5 h6 h7 h8 h9 h10 h11 h12 h13 h14 h15 h16 h17 h18 s129 h20 s130 h22 => y_tok s77 h5 h6 2 (by decide) (by decide) s129 h20 s130 h22)
      (fun h1 h2 h3 s77 h5 h6 h7 h8 h9 h10 h11 h12 h13 h14 h15 h16 h17 h18 s131 h20 s132 h22 => y_tok s77 h5 h6 _ (by rw [h18]; decide) (by rw [h18]; decide) s131 h20 s132 h22)
      (fun h1 h2 h3 s77 h5 h6 h7 h8 h9 h10 h11 h12 s133 h14 s134 h16 => y_tok s77 h5 h6 _ (by rw [h12]; decide) (by rw [h12]; decide) s133 h14 s134 h16)
      (fun h1 h2 h3 s77 h5 h6 h7 h8 h9 h10 h11 h12 h13 s135 h15 s136 h17 => y_tok s77 h5 h6 _ (by rw [h13]; decide) (by rw [h13]; decide) s135 h15 s136 h17)
      (fun h1 h2 h3 s77 h5 h6 h7 h8 h9 h10 h11 h12 h13 h14 s137 h16 s138 h18 => y_tok s77 h5 h6 _ (by rw [h14]; decide) (by rw [h14]; decide) s137 h16 s138 h18)
      (fun h1 h2 h3 s77 h5 h6 h7 h8 h9 h10 h11 h12 h13 h14 h15 s139 h17 s140 h19 => y_tok s77 h5 h6 _ (by rw [h15]; decide) (by rw [h15]; decide) s139 h17 s140 h19)
      (fun h1 h2 h3 s77 h5 h6 h7 h8 h9 h10 h11 h12 h13 h14 h15 h16 s141 h18 s142 h20 => y_tok s77 h5 h6 _ (by rw [h16]; decide) (by rw [h16]; decide) s141 h18 s142 h20)
      (fun h1 h2 h3 s77 h5 h6 h7 h8 h9 h10 h11 h12 h13 h14 h15 h16 h17 s143 h19 s144 h21 => y_tok s77 h5 h6 _ (by rw [h17]; decide) (by rw [h17]; decide) s143 h19 s144 h21)
      (fun h1 h2 h3 s77 h5 h6 h7 h8 h9 h10 h11 h12 h13 h14 h15 h16 h17 h18 s145 h20 s146 h22 => y_tok s77 h5 h6 _ (by rw [h18]; decide) (by rw [h18]; decide) s145 h20 s146 h22)
      (fun h1 h2 h3 s77 h5 h6 h7 h8 h9 h10 h11 h12 h13 h14 h15 h16 h17 h18 h19 s147 h21 s148 h23 => y_tok s77 h5 h6 2 (by decide) (by decide) s147 h21 s148 h23)
      (fun h1 h2 h3 s77 h5 h6 h7 h8 h9 h10 h11 h12 h13 h14 h15 h16 h17 h18 h19 s149 h21 s150 h23 => y_tok s77 h5 h6 _ (by rw [h19]; decide) (by rw [h19]; decide) s149 h21 s150 h23)
      (fun h1 h2 h3 s77 h5 h6 h7 h8 h9 h10 h11 => y_num s77 h5 h6 h10 h11)
      (fun h1 h2 h3 s77 h5 h6 h7 h8 h9 => y_word s77 h5 h6 h8 h9)
      (fun h1 h2 h3 s77 h5 h6 h7 s151 h9 => y_end s77 h5 s151 h9)
      (fun h1 h2 h3 s152 h5 => y_skip h1 s152 h5)
theorem zh_next {G : jv_X} {d : Nat} (hd : 3 ≤ d) {B : Option Value → jg_H → Prop} {s : jg_H} (h0 : 0 ≤ (s 146 40).toInt) (h1 : (s 146 40).toInt ≤ (s 146 38).toInt) (h2 : (s 146 38).toInt ≤ 200) (hB : ∀ s', zm_G s s' → B none s') : q_P G d 134 [.ref 146] s B := by
  obtain ⟨d, rfl⟩ : ∃ e, d = e + 3 := ⟨d - 3, by omega⟩
  exact t_M_next (d := d + 1) (zh_0 200 s h0 h1 h2 (by omega) hB)
