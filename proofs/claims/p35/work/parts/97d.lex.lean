/-! the class's reader: what one token leaves behind -/
abbrev zW_L (c j : Nat) : Prop := c = 117 ∧ 2 ≤ j ∧ j ≤ 7 ∧ ¬ j = 6
def zc_ok (s : jg_H) : Prop := 0 ≤ (s 117 2).toInt ∧ (s 117 2).toInt ≤ (s 117 3).toInt ∧ (s 117 3).toInt ≤ (s 117 1).toInt ∧ (s 117 1).toInt ≤ 200 ∧ (s 117 4 = 16 ∨ (s 117 2).toInt < (s 117 3).toInt) ∧ (s 117 4 = 15 → 0 ≤ (s 117 5).toInt ∧ (s 117 5).toInt ≤ 9999) ∧ ¬ s 117 4 = 17
def zc_S (s : jg_H) : Prop := (s 117 7 = -1 → zc_ok s) ∧ (¬ s 117 7 = -1 → s 117 4 = 17)
def zc_G (s s' : jg_H) : Prop := zfr zW_L s s' ∧ zc_S s' ∧ (s' 117 7 = -1 → s 117 7 = -1 ∧ (s 117 3).toInt ≤ (s' 117 2).toInt)
theorem z_m1i : (-1 : Int32).toInt = -1 := rfl
theorem z_nm1 {a : Int32} (h : 0 ≤ a.toInt) : ¬ a = -1 := fun e => by rw [e, z_m1i] at h; omega
/-- dead: a FAULT stands, and no token can come -/
theorem zc_dead {s s' : jg_H} (f : zfr zW_L s s') (h : ¬ s' 117 7 = -1) (t : s' 117 4 = 17) : zc_G s s' := ⟨f, ⟨fun e => absurd e h, fun _ => t⟩, fun e => absurd e h⟩
/-- a word is read from s on -/
def zw_R (s s' : jg_H) : Prop := zfr (fun c j => c = 117 ∧ (j = 3 ∨ j = 4 ∨ j = 5 ∨ j = 7)) s s' ∧ ((¬ s' 117 7 = -1 ∧ s' 117 4 = 17) ∨ (s' 117 7 = -1 ∧ 0 ≤ (s' 117 4).toInt ∧ (s' 117 4).toInt < 16 ∧ (s' 117 4 = 15 → 0 ≤ (s' 117 5).toInt ∧ (s' 117 5).toInt ≤ 9999) ∧ (s 117 2).toInt < (s' 117 3).toInt ∧ (s' 117 3).toInt ≤ (s 117 1).toInt))
theorem zw_trans {s s1 s' : jg_H} (f : zfr (fun c j => c = 117 ∧ (j = 3 ∨ j = 4 ∨ j = 5 ∨ j = 7)) s s1) (h : zw_R s1 s') : zw_R s s' := by
  have e1 := f 117 1 (by decide)
  have e2 := f 117 2 (by decide)
  refine ⟨zfr_trans f h.1, ?_⟩
  rw [← e1, ← e2]
  exact h.2
theorem zw_bad {s : jg_H} (h0 : 0 ≤ (s 117 2).toInt) : zw_R s (jg_up (jg_up s 117 7 (s 117 2)) 117 4 17) := by
  refine ⟨zfr_up (zfr_up zfr_refl (by decide)) (by decide), Or.inl ⟨?_, u_hit⟩⟩
  rw [u_j (by decide), u_hit]
  exact z_nm1 h0
theorem zw_51 {G : jv_X} (hG : G.2 = .null ∨ G.2 = .ref 1000005) {d : Nat} {B : Option Value → jg_H → Prop} {s : jg_H} (hf : s 117 7 = -1) (h0 : 0 ≤ (s 117 2).toInt) (h1 : (s 117 2).toInt < (s 117 3).toInt) (h2 : (s 117 3).toInt ≤ (s 117 1).toInt) (hB : ∀ s', zw_R s s' → B none s') :
    ∀ (m : Nat) (x : Int32), 0 ≤ x.toInt → x.toInt + m = 15 → q_W G (d + 5) jm_Reader_readWord B 51 [some (.ref 117), some (.int x)] [] s
  | 0, x, hx, hm => by
    have e15 : (15 : Int32).toInt = 15 := rfl
    refine t_Reader_readWord_51 (d := d + 3) x (fun _ q => absurd hf q) (fun _ _ s2 e2 s3 e3 => ?_) (fun q => absurd (z_lt q) (by omega))
    subst e2 e3
    exact hB _ (zw_bad h0)
  | m + 1, x, hx, hm => by
    have e15 : (15 : Int32).toInt = 15 := rfl
    have e1 := z_p1 (a := x) (by omega)
    refine t_Reader_readWord_51 (d := d + 3) x (fun q => absurd (z_lt' (by omega)) q) (fun q => absurd (z_lt' (by omega)) q) (fun _ => ?_)
    refine zs_known hG x hx (by omega) (fun y => ?_)
    show q_W G (d + 5) jm_Reader_readWord B 62 [some (.ref 117), some (.int x)] [.int y] s
    refine t_Reader_readWord_62 (d := d + 3) x y (fun _ => zw_51 hG hf h0 h1 h2 hB m (x + 1) (by omega) (by omega)) (fun _ s1 e1 => ?_)
    subst e1
    refine hB _ ⟨zfr_up zfr_refl (by decide), Or.inr ⟨by rw [u_j (by decide)]; exact hf, by rw [u_hit]; exact hx, by rw [u_hit]; omega, fun q => ?_, by rw [u_j (by decide)]; exact h1, by rw [u_j (by decide)]; exact h2⟩⟩
    rw [u_hit] at q
    rw [q] at hm
    omega
theorem zw_0 {G : jv_X} (hG : G.2 = .null ∨ G.2 = .ref 1000005) {d : Nat} {B : Option Value → jg_H → Prop} :
    ∀ (m : Nat) (s : jg_H), s 117 7 = -1 → 0 ≤ (s 117 2).toInt → (s 117 2).toInt ≤ (s 117 3).toInt → (s 117 3).toInt ≤ (s 117 1).toInt → (s 117 1).toInt ≤ 200 → (s 117 1).toInt ≤ (s 117 3).toInt + m
      → ((s 117 2).toInt < (s 117 3).toInt ∨ (s 117 3 = s 117 2 ∧ (s 117 3).toInt < (s 117 1).toInt ∧ ¬ (s 118 (s 117 2).toNatClampNeg) < 97 ∧ (s 118 (s 117 2).toNatClampNeg) ≤ 122))
      → (∀ s', zw_R s s' → B none s') → q_W G (d + 5) jm_Reader_readWord B 0 [some (.ref 117), none] [] s
  | m, s, hf, h0, h1, h2, h3, hm, hl, hB => by
    have e7 : (7 : Int32).toInt = 7 := rfl
    have e0 : (0 : Int32).toInt = 0 := rfl
    have e200 : (200 : Int32).toInt = 200 := rfl
    have es := z_sub (a := s 117 3) (b := s 117 2) (by omega) h0
    have go : (s 117 2).toInt < (s 117 3).toInt → q_W G (d + 5) jm_Reader_readWord B 51 [some (.ref 117), some (.int 0)] [] s := fun h => zw_51 hG hf h0 h h2 hB 15 0 (Int.le_refl _) rfl
    refine t_Reader_readWord_0 (d := d + 3) (fun q => ?_) (fun q q1 => ?_) (fun q q1 q2 => ?_) (fun q q1 q2 q3 => ?_) (fun q q1 q2 q3 q4 => ?_) (fun q q1 q2 q3 q4 q5 => ?_) (fun q q1 q2 q3 q4 q5 s1 e1 => ?_)
    · have q := z_nlt q
      exact go (by rcases hl with hl | ⟨_, hl, _⟩ <;> omega)
    · have q1 := z_nlt q1
      exact go (by omega)
    · exact absurd (z_lt q2) (by omega)
    · exact absurd (z_nlt q3) (by have := z_lt q; omega)
    · refine go ?_
      rcases hl with hl | ⟨he, _, ha, _⟩
      · exact hl
      · rw [he] at q4; exact absurd q4 ha
    · refine go ?_
      rcases hl with hl | ⟨he, _, _, ha⟩
      · exact hl
      · rw [he] at q5; exact absurd ha q5
    · have q := z_lt q
      match m, hm with
      | 0, hm => omega
      | m + 1, hm =>
        have e3 : s1 117 3 = s 117 3 + 1 := by rw [e1, u_hit]
        have ep := z_p1 (a := s 117 3) (by omega)
        have f1 : s1 117 1 = s 117 1 := by rw [e1, u_j (by decide)]
        have f2 : s1 117 2 = s 117 2 := by rw [e1, u_j (by decide)]
        have f7 : s1 117 7 = s 117 7 := by rw [e1, u_j (by decide)]
        refine zw_0 hG m s1 (f7.trans hf) (by rw [f2]; exact h0) (by rw [f2, e3]; omega) (by rw [f1, e3]; omega) (by rw [f1]; exact h3) (by rw [f1, e3]; omega) (Or.inl (by rw [f2, e3]; omega)) (fun s' h => hB s' (zw_trans ?_ h))
        rw [e1]
        exact zfr_up zfr_refl (by decide)
theorem zw_word {G : jv_X} (hG : G.2 = .null ∨ G.2 = .ref 1000005) {d : Nat} {B : Option Value → jg_H → Prop} {s : jg_H} (hf : s 117 7 = -1) (h0 : 0 ≤ (s 117 2).toInt) (h1 : s 117 3 = s 117 2) (h2 : (s 117 2).toInt < (s 117 1).toInt) (h3 : (s 117 1).toInt ≤ 200) (ha : ¬ (s 118 (s 117 2).toNatClampNeg) < 97) (hb : (s 118 (s 117 2).toNatClampNeg) ≤ 122) (hB : ∀ s', zw_R s s' → B none s') : q_P G (d + 6) 24 [.ref 117] s B :=
  t_Reader_readWord (d := d + 3) (zw_0 hG 200 s hf h0 (by rw [h1]; exact Int.le_refl _) (by rw [h1]; omega) h3 (by rw [h1]; omega) (Or.inr ⟨h1, by rw [h1]; exact h2, ha, hb⟩) hB)
/-- how far a number has come -/
def zn_I (s : jg_H) : Prop := ((s 117 3).toInt = (s 117 2).toInt ∧ (s 117 3).toInt < (s 117 1).toInt ∧ ¬ (s 118 (s 117 3).toNatClampNeg) < 48 ∧ (s 118 (s 117 3).toNatClampNeg) ≤ 57 ∧ (s 117 5).toInt = 0)
  ∨ ((s 117 3).toInt = (s 117 2).toInt + 1 ∧ 0 ≤ (s 117 5).toInt ∧ (s 117 5).toInt ≤ 9) ∨ ((s 117 3).toInt = (s 117 2).toInt + 2 ∧ 0 ≤ (s 117 5).toInt ∧ (s 117 5).toInt ≤ 99) ∨ ((s 117 3).toInt = (s 117 2).toInt + 3 ∧ 0 ≤ (s 117 5).toInt ∧ (s 117 5).toInt ≤ 999)
  ∨ ((s 117 3).toInt = (s 117 2).toInt + 4 ∧ 0 ≤ (s 117 5).toInt ∧ (s 117 5).toInt ≤ 9999) ∨ (s 117 2).toInt + 5 ≤ (s 117 3).toInt
theorem zn_step {a b : Int32} (h0 : 0 ≤ a.toInt) (h1 : a.toInt ≤ 999) (h2 : 48 ≤ b.toInt) (h3 : b.toInt ≤ 57) : (((a * 10) + b) - 48).toInt = a.toInt * 10 + b.toInt - 48 := by ((try simp only [i_lt, i_le, i_eq, i_in, i_cn, Int32.toInt_add, Int32.toInt_sub, Int32.toInt_mul, Int32.toInt_neg, Int32.reduceToInt, Int.bmod_add_bmod, Int.add_bmod_bmod, Int.bmod_sub_bmod, Int.sub_bmod_bmod, Int.bmod_mul_bmod, Int.mul_bmod_bmod, Int.bmod_neg_bmod, Nat.reducePow, Int.reduceBmod, Int.reduceNeg, Int.reduceMul, Int.reduceAdd, Int.reduceSub, not_true_eq_false, not_false_eq_true] at *) <;> (try simp (disch := omega) only [i_bm'] at *) <;> omega)
theorem zn_5 {G : jv_X} {d : Nat} {B : Option Value → jg_H → Prop} :
    ∀ (m : Nat) (s : jg_H), s 117 7 = -1 → 0 ≤ (s 117 2).toInt → (s 117 2).toInt ≤ (s 117 3).toInt → (s 117 3).toInt ≤ (s 117 1).toInt → (s 117 1).toInt ≤ 200 → (s 117 1).toInt ≤ (s 117 3).toInt + m → zn_I s
      → (∀ s', zw_R s s' → B none s') → q_W G (d + 2) jm_Reader_readNumber B 5 [some (.ref 117)] [] s
  | m, s, hf, h0, h1, h2, h3, hm, hl, hB => by
    have e4 : (4 : Int32).toInt = 4 := rfl
    have e0 : (0 : Int32).toInt = 0 := rfl
    have e15 : (15 : Int32).toInt = 15 := rfl
    have e48 : (48 : Int32).toInt = 48 := rfl
    have e57 : (57 : Int32).toInt = 57 := rfl
    have e200 : (200 : Int32).toInt = 200 := rfl
    have es := z_sub (a := s 117 3) (b := s 117 2) (by omega) h0
    have good : (s 117 2).toInt < (s 117 3).toInt → ((s 117 3) - (s 117 2)) ≤ 4 → ∀ s1, s1 = jg_up s 117 4 15 → B none s1 := fun h q s1 e1 => by
      have q := z_le q
      have hn : 0 ≤ (s 117 5).toInt ∧ (s 117 5).toInt ≤ 9999 := by
        rcases hl with hl | hl | hl | hl | hl | hl <;> omega
      subst e1
      refine hB _ ⟨zfr_up zfr_refl (by decide), Or.inr ⟨by rw [u_j (by decide)]; exact hf, by rw [u_hit]; decide, by rw [u_hit]; decide, fun _ => by rw [u_j (by decide)]; exact hn, by rw [u_j (by decide)]; exact h, by rw [u_j (by decide)]; exact h2⟩⟩
    have bad : ∀ s2, s2 = jg_up s 117 7 (s 117 2) → ∀ s3, s3 = jg_up s2 117 4 17 → B none s3 := fun s2 e2 s3 e3 => by
      subst e2 e3
      exact hB _ (zw_bad h0)
    have far : ¬ (s 117 3) < (s 117 1) → (s 117 2).toInt < (s 117 3).toInt := fun q => by
      have q := z_nlt q
      rcases hl with ⟨_, hl, _⟩ | hl | hl | hl | hl | hl <;> omega
    have far1 : (s 118 (s 117 3).toNatClampNeg) < 48 → (s 117 2).toInt < (s 117 3).toInt := fun q => by
      rcases hl with ⟨_, _, hl, _⟩ | hl | hl | hl | hl | hl
      · exact absurd q hl
      all_goals omega
    have far2 : ¬ (s 118 (s 117 3).toNatClampNeg) ≤ 57 → (s 117 2).toInt < (s 117 3).toInt := fun q => by
      rcases hl with ⟨_, _, _, hl, _⟩ | hl | hl | hl | hl | hl
      · exact absurd hl q
      all_goals omega
    have no0 : ¬ (s 117 3) < 0 := fun q => absurd (z_lt q) (by omega)
    have no2 : (s 117 3) < (s 117 1) → ¬ (s 117 3) < 200 → False := fun q q2 => absurd (z_nlt q2) (by have := z_lt q; omega)
    refine t_Reader_readNumber_5 (fun q q1 => good (far q) q1) (fun _ _ q => absurd hf q) (fun _ _ _ => bad) (fun _ q => absurd q no0) (fun _ q => absurd q no0) (fun _ q => absurd q no0) (fun q _ q2 => (no2 q q2).elim) (fun q _ q2 => (no2 q q2).elim) (fun q _ q2 => (no2 q q2).elim)
      (fun _ _ _ q => good (far1 q)) (fun _ _ _ _ _ q => absurd hf q) (fun _ _ _ _ _ _ => bad) (fun _ _ _ _ q => good (far2 q)) (fun _ _ _ _ _ _ q => absurd hf q) (fun _ _ _ _ _ _ _ => bad) (fun q q1 q2 q3 q4 s1 e1 s2 e2 => ?_)
    have q := z_lt q
    match m, hm with
    | 0, hm => omega
    | m + 1, hm =>
      have q3 := z_nlt q3
      have q4 := z_le q4
      have f3 : s2 117 3 = s 117 3 + 1 := by rw [e2, u_hit, e1, u_j (by decide)]
      have f5 : s2 117 5 = (((s 117 5) * 10) + (s 118 (s 117 3).toNatClampNeg)) - 48 := by rw [e2, u_j (by decide), e1, u_hit]
      have ep := z_p1 (a := s 117 3) (by omega)
      have f1 : s2 117 1 = s 117 1 := by rw [e2, u_j (by decide), e1, u_j (by decide)]
      have f2 : s2 117 2 = s 117 2 := by rw [e2, u_j (by decide), e1, u_j (by decide)]
      have f7 : s2 117 7 = s 117 7 := by rw [e2, u_j (by decide), e1, u_j (by decide)]
      refine zn_5 m s2 (f7.trans hf) (by rw [f2]; exact h0) (by rw [f2, f3]; omega) (by rw [f1, f3]; omega) (by rw [f1]; exact h3) (by rw [f1, f3]; omega) ?_ (fun s' h => hB s' (zw_trans ?_ h))
      · unfold zn_I
        rw [f2, f3, f5, ep]
        rcases hl with ⟨h, _, _, _, h5⟩ | ⟨h, h5, h6⟩ | ⟨h, h5, h6⟩ | ⟨h, h5, h6⟩ | ⟨h, h5, h6⟩ | h
        · have := zn_step (a := s 117 5) (b := s 118 (s 117 3).toNatClampNeg) (by omega) (by omega) (by omega) (by omega)
          exact Or.inr (Or.inl ⟨by omega, by omega, by omega⟩)
        · have := zn_step (a := s 117 5) (b := s 118 (s 117 3).toNatClampNeg) (by omega) (by omega) (by omega) (by omega)
          exact Or.inr (Or.inr (Or.inl ⟨by omega, by omega, by omega⟩))
        · have := zn_step (a := s 117 5) (b := s 118 (s 117 3).toNatClampNeg) (by omega) (by omega) (by omega) (by omega)
          exact Or.inr (Or.inr (Or.inr (Or.inl ⟨by omega, by omega, by omega⟩)))
        · have := zn_step (a := s 117 5) (b := s 118 (s 117 3).toNatClampNeg) (by omega) (by omega) (by omega) (by omega)
          exact Or.inr (Or.inr (Or.inr (Or.inr (Or.inl ⟨by omega, by omega, by omega⟩))))
        · exact Or.inr (Or.inr (Or.inr (Or.inr (Or.inr (by omega)))))
        · exact Or.inr (Or.inr (Or.inr (Or.inr (Or.inr (by omega)))))
      · rw [e2, e1]
        exact zfr_up (zfr_up zfr_refl (by decide)) (by decide)
theorem zn_number {G : jv_X} {d : Nat} {B : Option Value → jg_H → Prop} {s : jg_H} (hf : s 117 7 = -1) (h0 : 0 ≤ (s 117 2).toInt) (h1 : s 117 3 = s 117 2) (h2 : (s 117 2).toInt < (s 117 1).toInt) (h3 : (s 117 1).toInt ≤ 200) (ha : ¬ (s 118 (s 117 2).toNatClampNeg) < 48) (hb : (s 118 (s 117 2).toNatClampNeg) ≤ 57) (hB : ∀ s', zw_R s s' → B none s') : q_P G (d + 3) 28 [.ref 117] s B := by
  refine t_Reader_readNumber (d := d) (fun s1 e1 => ?_)
  have f1 : s1 117 1 = s 117 1 := by rw [e1, u_j (by decide)]
  have f2 : s1 117 2 = s 117 2 := by rw [e1, u_j (by decide)]
  have f3 : s1 117 3 = s 117 2 := by rw [e1, u_j (by decide)]; exact h1
  have f7 : s1 117 7 = s 117 7 := by rw [e1, u_j (by decide)]
  have f5 : s1 117 5 = 0 := by rw [e1, u_hit]
  have f8 : s1 118 = s 118 := by rw [e1]; exact funext fun _ => u_c (by decide)
  refine zn_5 200 s1 (f7.trans hf) (by rw [f2]; exact h0) (by rw [f2, f3]; exact Int.le_refl _) (by rw [f1, f3]; omega) (by rw [f1]; exact h3) (by rw [f1, f3]; omega) (Or.inl ?_) (fun s' h => hB s' (zw_trans ?_ h))
  · rw [f1, f2, f3, f5, f8]
    exact ⟨rfl, h2, ha, hb, rfl⟩
  · rw [e1]
    exact zfr_up zfr_refl (by decide)
/-! the next token -/
theorem zg_sub {s s' : jg_H} (h : zfr (fun c j => c = 117 ∧ (j = 3 ∨ j = 4 ∨ j = 5 ∨ j = 7)) s s') : zfr zW_L s s' := zfr_sub (fun c j w => by obtain ⟨rfl, w⟩ := w; exact ⟨rfl, by omega, by omega, by omega⟩) h
theorem zg_end {s : jg_H} (hf : s 117 7 = -1) (h0 : 0 ≤ (s 117 3).toInt) (h1 : (s 117 3).toInt ≤ (s 117 1).toInt) (h2 : (s 117 1).toInt ≤ 200) : zc_G s (jg_up (jg_up s 117 2 (s 117 3)) 117 4 16) := by
  refine ⟨zfr_up (zfr_up zfr_refl (by decide)) (by decide), ⟨fun _ => ?_, fun q => ?_⟩, fun _ => ?_⟩
  · unfold zc_ok
    (simp (disch := omega) only [u_hit, u_c, u_j])
    exact ⟨h0, Int.le_refl _, h1, h2, Or.inl (by trivial), fun e => absurd e (by decide), by decide⟩
  · revert q; (simp (disch := omega) only [u_hit, u_c, u_j]); exact fun q => absurd hf q
  · (simp (disch := omega) only [u_hit, u_c, u_j]); exact ⟨hf, Int.le_refl _⟩
theorem zg_sgn {v : Int32} (h : v = 40 ∨ v = 41 ∨ v = 42 ∨ v = 43 ∨ v = 45 ∨ v = 59 ∨ v = 60 ∨ v = 61) : ¬ v = 15 ∧ ¬ v = 17 := by
  rcases h with h | h | h | h | h | h | h | h <;> subst h <;> decide
theorem zg_sign {s : jg_H} (hf : s 117 7 = -1) (h0 : 0 ≤ (s 117 3).toInt) (h1 : (s 117 3).toInt < (s 117 1).toInt) (h2 : (s 117 1).toInt ≤ 200) {v : Int32} (hv : v = 40 ∨ v = 41 ∨ v = 42 ∨ v = 43 ∨ v = 45 ∨ v = 59 ∨ v = 60 ∨ v = 61) : zc_G s (jg_up (jg_up (jg_up s 117 2 (s 117 3)) 117 3 (s 117 3 + 1)) 117 4 v) := by
  have ep := z_p1 (a := s 117 3) (by omega)
  obtain ⟨v1, v2⟩ := zg_sgn hv
  refine ⟨zfr_up (zfr_up (zfr_up zfr_refl (by decide)) (by decide)) (by decide), ⟨fun _ => ?_, fun q => ?_⟩, fun _ => ?_⟩
  · unfold zc_ok
    (simp (disch := omega) only [u_hit, u_c, u_j])
    exact ⟨h0, by omega, by omega, h2, Or.inr (by omega), fun e => absurd e v1, v2⟩
  · revert q; (simp (disch := omega) only [u_hit, u_c, u_j]); exact fun q => absurd hf q
  · (simp (disch := omega) only [u_hit, u_c, u_j]); exact ⟨hf, Int.le_refl _⟩
theorem zg_bad {s : jg_H} (h0 : 0 ≤ (s 117 3).toInt) : zc_G s (jg_up (jg_up (jg_up (jg_up s 117 2 (s 117 3)) 117 3 (s 117 3 + 1)) 117 7 (s 117 3)) 117 4 17) := by
  refine zc_dead (zfr_up (zfr_up (zfr_up (zfr_up zfr_refl (by decide)) (by decide)) (by decide)) (by decide)) ?_ u_hit
  (simp (disch := omega) only [u_hit, u_c, u_j])
  exact z_nm1 h0
theorem zg_w {s s' : jg_H} (hf : s 117 7 = -1) (h0 : 0 ≤ (s 117 3).toInt) (h2 : (s 117 1).toInt ≤ 200) (h : zw_R (jg_up s 117 2 (s 117 3)) s') : zc_G s s' := by
  obtain ⟨f, h⟩ := h
  have f' : zfr zW_L s s' := zfr_trans (zfr_up zfr_refl (by decide)) (zg_sub f)
  have e1 := (f 117 1 (by decide)).trans (u_j (by decide))
  have e2 := (f 117 2 (by decide)).trans u_hit
  rcases h with ⟨h, t⟩ | ⟨h, t0, t1, t2, t3, t4⟩
  · exact zc_dead f' h t
  · rw [u_hit] at t3
    rw [u_j (by decide)] at t4
    have e16 : (16 : Int32).toInt = 16 := rfl
    have e17 : (17 : Int32).toInt = 17 := rfl
    refine ⟨f', ⟨fun _ => ⟨by rw [e2]; exact h0, by rw [e2]; omega, by rw [e1]; exact t4, by rw [e1]; exact h2, Or.inr (by rw [e2]; exact t3), t2, fun e => ?_⟩, fun q => absurd h q⟩, fun _ => ⟨hf, by rw [e2]; exact Int.le_refl _⟩⟩
    rw [e, e17] at t1
    omega
theorem zg_skip {s s' : jg_H} (h1 : (s 117 3).toInt < (s 117 1).toInt) (h2 : (s 117 1).toInt ≤ 200) (h : zc_G (jg_up s 117 3 (s 117 3 + 1)) s') : zc_G s s' := by
  have ep := z_p1 (a := s 117 3) (by omega)
  obtain ⟨f, g, k⟩ := h
  refine ⟨zfr_trans (zfr_up zfr_refl (by decide)) f, g, fun e => ?_⟩
  obtain ⟨k1, k2⟩ := k e
  rw [u_j (by decide)] at k1
  rw [u_hit] at k2
  exact ⟨k1, by omega⟩
theorem zg_9 {G : jv_X} (hG : G.2 = .null ∨ G.2 = .ref 1000005) {d : Nat} {B : Option Value → jg_H → Prop} :
    ∀ (m : Nat) (s : jg_H), s 117 7 = -1 → 0 ≤ (s 117 3).toInt → (s 117 3).toInt ≤ (s 117 1).toInt → (s 117 1).toInt ≤ 200 → (s 117 1).toInt ≤ (s 117 3).toInt + m → (∀ s', zc_G s s' → B none s') → q_W G (d + 6) jm_Reader_goOn B 9 [some (.ref 117)] [] s
  | m, s, hf, h0, h1, h2, hm, hB => by
    have e0 : (0 : Int32).toInt = 0 := rfl
    have e200 : (200 : Int32).toInt = 200 := rfl
    have x5 : (s 117 3) < 0 → False := fun q => absurd (z_lt q) (by omega)
    have x6 : (s 117 3) < (s 117 1) → ¬ (s 117 3) < 200 → False := fun q q2 => absurd (z_nlt q2) (by have := z_lt q; omega)
    have t1 : ∀ t, t = jg_up s 117 2 (s 117 3) → t 117 1 = s 117 1 := fun t e => by rw [e, u_j (by decide)]
    have t2 : ∀ t, t = jg_up s 117 2 (s 117 3) → t 117 2 = s 117 3 := fun t e => by rw [e, u_hit]
    have t3 : ∀ t, t = jg_up s 117 2 (s 117 3) → t 117 3 = s 117 3 := fun t e => by rw [e, u_j (by decide)]
    have t7 : ∀ t, t = jg_up s 117 2 (s 117 3) → t 117 7 = s 117 7 := fun t e => by rw [e, u_j (by decide)]
    have x1 : ∀ t, t = jg_up s 117 2 (s 117 3) → ¬ (s 117 3) < (s 117 1) → (t 117 2) < (t 117 1) → False := fun t e n l => by rw [t1 t e, t2 t e] at l; exact n l
    have x2 : ∀ t, t = jg_up s 117 2 (s 117 3) → (t 117 2) < 0 → False := fun t e l => by rw [t2 t e] at l; exact x5 l
    have x3 : ∀ t, t = jg_up s 117 2 (s 117 3) → (t 117 2) < (t 117 1) → ¬ (t 117 2) < 200 → False := fun t e l n => by rw [t1 t e, t2 t e] at l; rw [t2 t e] at n; exact x6 l n
    have x4 : (s 117 3) < (s 117 1) → ∀ t, t = jg_up s 117 2 (s 117 3) → ¬ (t 117 2) < (t 117 1) → False := fun l t e n => by rw [t1 t e, t2 t e] at n; exact n l
    have x7 : ∀ t, t = jg_up s 117 2 (s 117 3) → ∀ t', t' = jg_up t 117 3 ((t 117 3) + 1) → ¬ (t' 117 7) = (-1) → False := fun t e t' e' n => by rw [e', u_j (by decide), t7 t e] at n; exact n hf
    have y_end : ∀ t, t = jg_up s 117 2 (s 117 3) → ∀ t', t' = jg_up t 117 4 16 → B none t' := fun t e t' e' => by
      rw [e', e]
      exact hB _ (zg_end hf h0 h1 h2)
    have y_sgn : (s 117 3) < (s 117 1) → ∀ t, t = jg_up s 117 2 (s 117 3) → ∀ t', t' = jg_up t 117 3 ((t 117 3) + 1) → ((t 118 (t 117 2).toNatClampNeg) = 40 ∨ (t 118 (t 117 2).toNatClampNeg) = 41 ∨ (t 118 (t 117 2).toNatClampNeg) = 42 ∨ (t 118 (t 117 2).toNatClampNeg) = 43 ∨ (t 118 (t 117 2).toNatClampNeg) = 45 ∨ (t 118 (t 117 2).toNatClampNeg) = 59 ∨ (t 118 (t 117 2).toNatClampNeg) = 60 ∨ (t 118 (t 117 2).toNatClampNeg) = 61) → ∀ t'', t'' = jg_up t' 117 4 (t 118 (t 117 2).toNatClampNeg) → B none t'' := fun l t e t' e' g t'' e'' => by
      rw [e'', e', t3 t e]
      generalize t 118 (t 117 2).toNatClampNeg = v at g ⊢
      rw [e]
      exact hB _ (zg_sign hf h0 (z_lt l) h2 g)
    have y_bad : ∀ t, t = jg_up s 117 2 (s 117 3) → ∀ t', t' = jg_up t 117 3 ((t 117 3) + 1) → ∀ t'', t'' = jg_up t' 117 7 (t' 117 2) → ∀ t4, t4 = jg_up t'' 117 4 17 → B none t4 := fun t e t' e' t'' e'' t4 e4 => by
      rw [e4, e'', show t' 117 2 = s 117 3 by rw [e', u_j (by decide)]; exact t2 t e, e', t3 t e, e]
      exact hB _ (zg_bad h0)
    have y_word : (s 117 3) < (s 117 1) → ∀ t, t = jg_up s 117 2 (s 117 3) → ¬ (t 118 (t 117 2).toNatClampNeg) < 97 → (t 118 (t 117 2).toNatClampNeg) ≤ 122 → q_P G (d + 6) 24 [.ref 117] t (fun v t => q_W G (d + 6) jm_Reader_goOn B 102 [some (.ref 117)] (v.toList ++ []) t) := fun l t e a b => by
      refine zw_word hG (d := d) ((t7 t e).trans hf) (by rw [t2 t e]; exact h0) (by rw [t2 t e, t3 t e]) (by rw [t1 t e, t2 t e]; exact z_lt l) (by rw [t1 t e]; exact h2) a b (fun s' h => ?_)
      rw [e] at h
      exact t_Reader_goOn_102 (d := d + 4) (hB _ (zg_w hf h0 h2 h))
    have y_num : (s 117 3) < (s 117 1) → ∀ t, t = jg_up s 117 2 (s 117 3) → ¬ (t 118 (t 117 2).toNatClampNeg) < 48 → (t 118 (t 117 2).toNatClampNeg) ≤ 57 → q_P G (d + 6) 28 [.ref 117] t (fun v t => q_W G (d + 6) jm_Reader_goOn B 120 [some (.ref 117)] (v.toList ++ []) t) := fun l t e a b => by
      refine zn_number (d := d + 3) ((t7 t e).trans hf) (by rw [t2 t e]; exact h0) (by rw [t2 t e, t3 t e]) (by rw [t1 t e, t2 t e]; exact z_lt l) (by rw [t1 t e]; exact h2) a b (fun s' h => ?_)
      rw [e] at h
      exact t_Reader_goOn_120 (d := d + 4) (hB _ (zg_w hf h0 h2 h))
    have y_skip : (s 117 3) < (s 117 1) → ∀ t, t = jg_up s 117 3 ((s 117 3) + 1) → q_W G (d + 6) jm_Reader_goOn B 9 [some (.ref 117)] [] t := fun l t e => by
      have l := z_lt l
      match m, hm with
      | 0, hm => omega
      | m + 1, hm =>
        have ep := z_p1 (a := s 117 3) (by omega)
        have f1 : t 117 1 = s 117 1 := by rw [e, u_j (by decide)]
        have f3 : t 117 3 = s 117 3 + 1 := by rw [e, u_hit]
        refine zg_9 hG m t (by rw [e, u_j (by decide)]; exact hf) (by rw [f3]; omega) (by rw [f1, f3]; omega) (by rw [f1]; exact h2) (by rw [f1, f3]; omega) (fun s' h => hB s' (zg_skip l h2 ?_))
        rw [← e]
        exact h
    exact t_Reader_goOn_9 (d := d + 4)
      (fun h1 s1 h3 h4 => (x1 s1 h3 h1 h4).elim)
      (fun h1 s1 h3 h4 => (x1 s1 h3 h1 h4).elim)
      (fun h1 s1 h3 h4 => (x1 s1 h3 h1 h4).elim)
      (fun h1 s1 h3 h4 => (x1 s1 h3 h1 h4).elim)
      (fun h1 s1 h3 h4 => (x1 s1 h3 h1 h4).elim)
      (fun h1 s1 h3 h4 => (x1 s1 h3 h1 h4).elim)
      (fun h1 s1 h3 h4 => (x1 s1 h3 h1 h4).elim)
      (fun h1 s1 h3 h4 => (x1 s1 h3 h1 h4).elim)
      (fun h1 s1 h3 h4 => (x1 s1 h3 h1 h4).elim)
      (fun h1 s1 h3 h4 => (x1 s1 h3 h1 h4).elim)
      (fun h1 s1 h3 h4 => (x1 s1 h3 h1 h4).elim)
      (fun h1 s1 h3 h4 => (x1 s1 h3 h1 h4).elim)
      (fun h1 s1 h3 h4 => (x1 s1 h3 h1 h4).elim)
      (fun h1 s1 h3 h4 => (x1 s1 h3 h1 h4).elim)
      (fun h1 s1 h3 h4 => (x1 s1 h3 h1 h4).elim)
      (fun h1 s1 h3 h4 => (x1 s1 h3 h1 h4).elim)
      (fun h1 s1 h3 h4 => (x1 s1 h3 h1 h4).elim)
      (fun h1 s1 h3 h4 => (x1 s1 h3 h1 h4).elim)
      (fun h1 s1 h3 h4 => (x1 s1 h3 h1 h4).elim)
      (fun h1 s1 h3 h4 s30 h6 => y_end s1 h3 s30 h6)
      (fun h1 h2 => (x5 h2).elim)
      (fun h1 h2 => (x5 h2).elim)
      (fun h1 h2 => (x5 h2).elim)
      (fun h1 h2 => (x5 h2).elim)
      (fun h1 h2 => (x5 h2).elim)
      (fun h1 h2 => (x5 h2).elim)
      (fun h1 h2 => (x5 h2).elim)
      (fun h1 h2 => (x5 h2).elim)
      (fun h1 h2 => (x5 h2).elim)
      (fun h1 h2 => (x5 h2).elim)
      (fun h1 h2 => (x5 h2).elim)
      (fun h1 h2 => (x5 h2).elim)
      (fun h1 h2 => (x5 h2).elim)
      (fun h1 h2 => (x5 h2).elim)
      (fun h1 h2 => (x5 h2).elim)
      (fun h1 h2 => (x5 h2).elim)
      (fun h1 h2 => (x5 h2).elim)
      (fun h1 h2 => (x5 h2).elim)
      (fun h1 h2 => (x5 h2).elim)
      (fun h1 h2 => (x5 h2).elim)
      (fun h1 h2 h3 => (x6 h1 h3).elim)
      (fun h1 h2 h3 => (x6 h1 h3).elim)
      (fun h1 h2 h3 => (x6 h1 h3).elim)
      (fun h1 h2 h3 => (x6 h1 h3).elim)
      (fun h1 h2 h3 => (x6 h1 h3).elim)
      (fun h1 h2 h3 => (x6 h1 h3).elim)
      (fun h1 h2 h3 => (x6 h1 h3).elim)
      (fun h1 h2 h3 => (x6 h1 h3).elim)
      (fun h1 h2 h3 => (x6 h1 h3).elim)
      (fun h1 h2 h3 => (x6 h1 h3).elim)
      (fun h1 h2 h3 => (x6 h1 h3).elim)
      (fun h1 h2 h3 => (x6 h1 h3).elim)
      (fun h1 h2 h3 => (x6 h1 h3).elim)
      (fun h1 h2 h3 => (x6 h1 h3).elim)
      (fun h1 h2 h3 => (x6 h1 h3).elim)
      (fun h1 h2 h3 => (x6 h1 h3).elim)
      (fun h1 h2 h3 => (x6 h1 h3).elim)
      (fun h1 h2 h3 => (x6 h1 h3).elim)
      (fun h1 h2 h3 => (x6 h1 h3).elim)
      (fun h1 h2 h3 => (x6 h1 h3).elim)
      (fun h1 h2 h3 h4 s91 h6 => y_skip h1 s91 h6)
      (fun h1 h2 h3 h4 h5 s92 h7 h8 h9 => (x2 s92 h7 h9).elim)
      (fun h1 h2 h3 h4 h5 s92 h7 h8 h9 => (x2 s92 h7 h9).elim)
      (fun h1 h2 h3 h4 h5 s92 h7 h8 h9 h10 => (x3 s92 h7 h8 h10).elim)
      (fun h1 h2 h3 h4 h5 s92 h7 h8 h9 h10 => (x3 s92 h7 h8 h10).elim)
      (fun h1 h2 h3 h4 h5 s92 h7 h8 h9 h10 h11 h12 s101 h14 h15 s102 h17 => y_sgn h1 s92 h7 s101 h14 h15 s102 h17)
      (fun h1 h2 h3 h4 h5 s92 h7 h8 h9 h10 h11 h12 s101 h14 h15 h16 => (x7 s92 h7 s101 h14 h16).elim)
      (fun h1 h2 h3 h4 h5 s92 h7 h8 h9 h10 h11 h12 s101 h14 h15 h16 s104 h18 s105 h20 => y_bad s92 h7 s101 h14 s104 h18 s105 h20)
      (fun h1 h2 h3 h4 h5 s92 h7 h8 h9 h10 h11 h12 h13 s106 h15 h16 s107 h18 => y_sgn h1 s92 h7 s106 h15 h16 s107 h18)
      (fun h1 h2 h3 h4 h5 s92 h7 h8 h9 h10 h11 h12 h13 s106 h15 h16 h17 => (x7 s92 h7 s106 h15 h17).elim)
      (fun h1 h2 h3 h4 h5 s92 h7 h8 h9 h10 h11 h12 h13 s106 h15 h16 h17 s109 h19 s110 h21 => y_bad s92 h7 s106 h15 s109 h19 s110 h21)
      (fun h1 h2 h3 h4 h5 s92 h7 h8 h9 h10 h11 h12 h13 => y_num h1 s92 h7 h12 h13)
      (fun h1 h2 h3 h4 h5 s92 h7 h8 h9 h10 h11 h12 h13 s111 h15 h16 s112 h18 => y_sgn h1 s92 h7 s111 h15 h16 s112 h18)
      (fun h1 h2 h3 h4 h5 s92 h7 h8 h9 h10 h11 h12 h13 s111 h15 h16 h17 => (x7 s92 h7 s111 h15 h17).elim)
      (fun h1 h2 h3 h4 h5 s92 h7 h8 h9 h10 h11 h12 h13 s111 h15 h16 h17 s114 h19 s115 h21 => y_bad s92 h7 s111 h15 s114 h19 s115 h21)
      (fun h1 h2 h3 h4 h5 s92 h7 h8 h9 h10 h11 h12 h13 h14 s116 h16 h17 s117 h19 => y_sgn h1 s92 h7 s116 h16 h17 s117 h19)
      (fun h1 h2 h3 h4 h5 s92 h7 h8 h9 h10 h11 h12 h13 h14 s116 h16 h17 h18 => (x7 s92 h7 s116 h16 h18).elim)
      (fun h1 h2 h3 h4 h5 s92 h7 h8 h9 h10 h11 h12 h13 h14 s116 h16 h17 h18 s119 h20 s120 h22 => y_bad s92 h7 s116 h16 s119 h20 s120 h22)
      (fun h1 h2 h3 h4 h5 s92 h7 h8 h9 h10 h11 h12 h13 h14 => y_num h1 s92 h7 h13 h14)
      (fun h1 h2 h3 h4 h5 s92 h7 h8 h9 h10 h11 h12 => y_word h1 s92 h7 h11 h12)
      (fun h1 h2 h3 h4 h5 s92 h7 h8 => (x4 h1 s92 h7 h8).elim)
      (fun h1 h2 h3 h4 h5 s122 h7 => y_skip h1 s122 h7)
theorem zg_goOn {G : jv_X} (hG : G.2 = .null ∨ G.2 = .ref 1000005) {d : Nat} (hd : 7 ≤ d) {B : Option Value → jg_H → Prop} {s : jg_H} (h1 : s 117 7 = -1 → 0 ≤ (s 117 3).toInt ∧ (s 117 3).toInt ≤ (s 117 1).toInt ∧ (s 117 1).toInt ≤ 200) (h2 : ¬ s 117 7 = -1 → s 117 4 = 17) (hB : ∀ s', zc_G s s' → B none s') : q_P G d 21 [.ref 117] s B := by
  obtain ⟨d, rfl⟩ : ∃ e, d = e + 7 := ⟨d - 7, by omega⟩
  refine t_Reader_goOn (d := d + 4) (fun hf => ?_) (fun hf => hB _ (zc_dead zfr_refl hf (h2 hf)))
  obtain ⟨a, b, c⟩ := h1 hf
  exact zg_9 hG 200 s hf a b c (by omega) hB
