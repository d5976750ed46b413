/-! the class's reader: a whole text -/
abbrev zW_R (T c j : Nat) : Prop := (c = 117 ∧ 2 ≤ j ∧ j ≤ 8) ∨ (c = T ∧ j = 1) ∨ c = T + 1 ∨ c = T + 2
/-- p parts are read, and where they begin is kept -/
def zr_D (T p : Nat) (s : jg_H) (b : Nat → Nat) : Prop := (s T 1).toInt = (b p : Int) ∧ (∀ q, q < p → (s (T + 2) q).toInt = (b q : Int)) ∧ (∀ q, q < p → b q ≤ b (q + 1) ∧ y_E (fun i => y_c (s (T + 1) i)) (b q) (b (q + 1) - b q)) ∧ ∀ i, i < b p → y_cok (s (T + 1) i)
def zr_I (T p : Nat) (u s : jg_H) : Prop := zfr (zW_R T) u s ∧ zc_P T s ∧ (s 117 6).toInt = 0 ∧ (s 117 7 = -1 → ∃ b, zr_D T p s b)
/-- what reading leaves behind: v what it answers -/
def zr_F (T : Nat) (u s : jg_H) (v : Option Value) : Prop := zfr (fun c j => (c = 117 ∧ 1 ≤ j ∧ j ≤ 8) ∨ (c = T ∧ j = 1) ∨ c = T + 1 ∨ c = T + 2) u s ∧ s 117 1 = 0 ∧ s 117 8 = Int32.ofNat T ∧ ∃ x, v = some (.int x) ∧ (x = -1 → ∃ b : Nat → Nat, b 4 ≤ 200 ∧ (∀ q, q < 5 → (s (T + 2) q).toInt = (b q : Int)) ∧ (∀ q, q < 4 → b q ≤ b (q + 1) ∧ y_E (fun i => y_c (s (T + 1) i)) (b q) (b (q + 1) - b q)) ∧ ∀ i, i < b 4 → y_cok (s (T + 1) i))
theorem zr_cells {T p : Nat} {s s' : jg_H} {b : Nat → Nat} (h : zr_D T p s b) (e1 : s' T 1 = s T 1) (e2 : ∀ i, s' (T + 1) i = s (T + 1) i) (e3 : ∀ i, s' (T + 2) i = s (T + 2) i) : zr_D T p s' b := by
  obtain ⟨a1, a2, a3, a4⟩ := h
  exact ⟨by rw [e1]; exact a1, fun q hq => by rw [e3]; exact a2 q hq, fun q hq => ⟨(a3 q hq).1, y_Eq (fun i _ _ => congrArg y_c (e2 i)) (a3 q hq).2⟩, fun i hi => by rw [e2]; exact a4 i hi⟩
/-- one step of the reader that leaves the text alone -/
theorem zr_G {T p : Nat} {u s s' : jg_H} (h : zr_I T p u s) (g : zc_G s s') : zr_I T p u s' := by
  obtain ⟨f, hP, h6, hD⟩ := h
  obtain ⟨gf, gg, gk⟩ := g
  refine ⟨zfr_trans f (zfr_sub (fun c j w => Or.inl ⟨w.1, w.2.1, by omega⟩) gf), zc_PG hP ⟨gf, gg, gk⟩, by rw [zfl_6 gf]; exact h6, fun l => ?_⟩
  obtain ⟨b, hb⟩ := hD (gk l).1
  exact ⟨b, zr_cells hb (zfl_T hP.2.1 gf 1).1 (fun i => (zfl_T hP.2.1 gf i).2) (fun i => gf _ _ (fun w => by have := w.1; have := hP.2.1; omega))⟩
theorem zr_expect {G : jv_X} (hG : G.2 = .null ∨ G.2 = .ref 1000005) {T p d : Nat} {u s : jg_H} {a : Int32} {B : Option Value → jg_H → Prop} (hd : 8 ≤ d) (h : zr_I T p u s) (hB : ∀ s', zr_I T p u s' → B none s') : q_P G d 30 [.ref 117, .int a] s B := by
  obtain ⟨d, rfl⟩ : ∃ e, d = e + 2 := ⟨d - 2, by omega⟩
  refine t_Reader_expect (d := d) a (fun _ hf s4 e4 => ?_) (fun _ hf s4 e4 s5 e5 => ?_) (fun _ => ?_)
  · refine hB _ (zr_G h ?_)
    rw [e4]
    exact zc_dead (zfr_up zfr_refl (by decide)) (by (simp (disch := omega) only [u_hit, u_c, u_j]); exact hf) u_hit
  · refine hB _ (zr_G h ?_)
    rw [e5, e4]
    refine zc_dead (zfr_up (zfr_up zfr_refl (by decide)) (by decide)) ?_ u_hit
    (simp (disch := omega) only [u_hit, u_c, u_j])
    exact z_nm1 (h.2.1.2.2.2.2.2.2.1.1 hf).1
  · exact zc_next hG (by omega) h.2.1 (fun s4 g4 => t_Reader_expect_12 (d := d) a (hB _ (zr_G h g4)))
/-- a part's beginning is kept, its expression read -/
theorem zr_part {T p : Nat} {u s s1 s2 : jg_H} (h : zr_I T p u s) {x : Int32} (hx : x.toInt = p) (e1 : s1 = jg_up s (T + 2) x.toNatClampNeg (s T 1)) (b : zc_E T (s1 117 6) s1 s2) : zr_I T (p + 1) u s2 := by
  obtain ⟨f, hP, h6, hD⟩ := h
  have p1 := hP.1
  have p2 := hP.2.1
  have hxn : x.toNatClampNeg = p := by rw [i_cn]; omega
  rw [hxn] at e1
  have c0 : ∀ c j, ¬ c = T + 2 → s1 c j = s c j := fun c j hc => by rw [e1, u_c hc]
  have hP1 : zc_P T s1 := by
    obtain ⟨p1, p2, p3, p4, p5, p6, p7, p8⟩ := hP
    exact ⟨p1, p2, p3, by rw [c0 _ _ (by omega)]; exact p4, by rw [c0 _ _ (by omega)]; exact p5, by rw [c0 _ _ (by omega)]; exact p6, zc_S_of (fun j => c0 _ _ (by omega)) p7, fun l => by rw [c0 117 7 (by omega)] at l; rw [c0 T 1 (by omega), c0 117 2 (by omega)]; exact p8 l⟩
  have f1 : zfr (zW_R T) s s1 := by rw [e1]; exact zfr_up zfr_refl (Or.inr (Or.inr (Or.inr rfl)))
  have hP2 := zc_PE hP1 b ⟨hP1.2.2.2.2.1, hP1.2.2.2.2.2.1⟩
  obtain ⟨bf, bg, bo, bk⟩ := b
  refine ⟨zfr_trans f (zfr_trans f1 (zfr_sub (fun c j w => by rcases w with w | w | w; exact Or.inl ⟨w.1, w.2.1, by omega⟩; exact Or.inr (Or.inl w); exact Or.inr (Or.inr (Or.inl w))) bf)), hP2, by rw [bo, c0 _ _ (by omega)]; exact h6, fun l => ?_⟩
  obtain ⟨k1, n, m, k2, k3, k4, k5, k6, k7⟩ := bk l
  rw [c0 117 7 (by omega)] at k1
  obtain ⟨w, a1, a2, a3, a4⟩ := hD k1
  rw [c0 T 1 (by omega)] at k2
  have en : w p = n := by omega
  have g2 : ∀ i, s2 (T + 2) i = s1 (T + 2) i := fun i => bf _ _ (by rintro (h | h | h) <;> omega)
  have g3 : ∀ i, i < n → s2 (T + 1) i = s (T + 1) i := fun i hi => (k5 i hi).trans (c0 _ _ (by omega))
  refine ⟨fun q => if q ≤ p then w q else n + m, ?_, fun q hq => ?_, fun q hq => ?_, fun i hi => ?_⟩
  · show (s2 T 1).toInt = ((if p + 1 ≤ p then w (p + 1) else n + m : Nat) : Int)
    rw [if_neg (by omega)]
    exact k3
  · show (s2 (T + 2) q).toInt = ((if q ≤ p then w q else n + m : Nat) : Int)
    rw [if_pos (by omega), g2]
    by_cases e : q = p
    · rw [e, e1, u_hit, k2, en]
    · rw [e1, u_j e]; exact a2 q (by omega)
  · show (if q ≤ p then w q else n + m) ≤ (if q + 1 ≤ p then w (q + 1) else n + m) ∧ y_E (fun i => y_c (s2 (T + 1) i)) (if q ≤ p then w q else n + m) ((if q + 1 ≤ p then w (q + 1) else n + m) - (if q ≤ p then w q else n + m))
    rw [if_pos (by omega)]
    by_cases e : q = p
    · rw [if_neg (by omega), e, en, show n + m - n = m by omega]
      exact ⟨by omega, k7⟩
    · rw [if_pos (by omega)]
      obtain ⟨v1, v2⟩ := a3 q (by omega)
      refine ⟨v1, y_Eq (fun i h1 h2 => congrArg y_c (g3 i ?_)) v2⟩
      have mono : ∀ k, q + 1 + k ≤ p → w (q + 1) ≤ w (q + 1 + k) := fun k => by
        induction k with
        | zero => intro _; exact Nat.le_refl _
        | succ k ih => intro hk; exact Nat.le_trans (ih (by omega)) (a3 (q + 1 + k) (by omega)).1
      have := mono (p - (q + 1)) (by omega)
      rw [show q + 1 + (p - (q + 1)) = p by omega, en] at this
      omega
  · have hi : i < (if p + 1 ≤ p then w (p + 1) else n + m) := hi
    rw [if_neg (by omega)] at hi
    by_cases h : i < n
    · rw [g3 i h]; exact a4 i (by omega)
    · exact k6 i (by omega) hi
theorem zr_end {T : Nat} {u s s1 s2 : jg_H} (h : zr_I T 4 u s) (e1 : s1 = jg_up s (T + 2) 4 (s T 1)) (e2 : s2 = jg_up s1 117 1 0) : zr_F T u s2 (some (.int (s2 117 7))) := by
  obtain ⟨f, hP, h6, hD⟩ := h
  have p1 := hP.1
  have p2 := hP.2.1
  refine ⟨?_, by rw [e2, u_hit], by rw [e2, u_j (by decide), e1, u_c (by omega)]; exact hP.2.2.2.1, _, rfl, fun l => ?_⟩
  · rw [e2, e1]
    exact zfr_up (zfr_up (zfr_sub (fun c j w => by rcases w with w | w | w | w; exact Or.inl ⟨w.1, by omega, by omega⟩; exact Or.inr (Or.inl w); exact Or.inr (Or.inr (Or.inl w)); exact Or.inr (Or.inr (Or.inr w))) f) (Or.inr (Or.inr (Or.inr rfl)))) (Or.inl ⟨rfl, by omega, by omega⟩)
  · have e7 : s2 117 7 = s 117 7 := by rw [e2, u_j (by decide), e1, u_c (by omega)]
    rw [e7] at l
    obtain ⟨b, a1, a2, a3, a4⟩ := hD l
    have g1 : ∀ i, s2 (T + 1) i = s (T + 1) i := fun i => by rw [e2, u_c (by omega), e1, u_c (by omega)]
    have g2 : ∀ i, ¬ i = 4 → s2 (T + 2) i = s (T + 2) i := fun i hi => by rw [e2, u_c (by omega), e1, u_j hi]
    have g4 : s2 (T + 2) 4 = s T 1 := by rw [e2, u_c (by omega), e1, u_hit]
    obtain ⟨w1, w2⟩ := hP.2.2.2.2.2.2.2 l
    obtain ⟨q1, q2, q3, q4, -⟩ := hP.2.2.2.2.2.2.1.1 l
    refine ⟨b, by omega, fun q hq => ?_, fun q hq => ⟨(a3 q hq).1, y_Eq (fun i _ _ => congrArg y_c (g1 i)) (a3 q hq).2⟩, fun i hi => by rw [g1]; exact a4 i hi⟩
    by_cases e : q = 4
    · rw [e, g4]; exact a1
    · rw [g2 q e]; exact a2 q (by omega)
theorem zr_loop {G : jv_X} (hG : G.2 = .null ∨ G.2 = .ref 1000005) {T d : Nat} (hd : 49 ≤ d + 1) {u : jg_H} {B : Option Value → jg_H → Prop} (hB : ∀ v s', zr_F T u s' v → B v s') :
    ∀ (n p : Nat) (x : Int32) (s : jg_H), x.toInt = p → p + n = 4 → zr_I T p u s → q_W G (d + 1) jm_Reader_read B 34 [some (.ref 117), some (.ref T), some (.int x)] [] s
  | n, p, x, s, hx, hn, h => by
    have e4 : (4 : Int32).toInt = 4 := rfl
    have hT := h.2.1.2.2.1
    have p1 := h.2.1.1
    have p2 := h.2.1.2.1
    have hI := h.2.1.2.2.2.1
    refine t_Reader_read_34 (d := d) (T := T) hT hT x (fun _ => hI) (fun _ => hI) (fun hlt s1 e1 _ s2 e2 => ?_) (fun hlt s1 e1 _ hf s2 e2 s3 e3 => ?_) (fun hlt s1 e1 _ hf s2 e2 s3 e3 s4 e4 => ?_) (fun hlt => ?_)
    · obtain rfl : p = 4 := by have := z_nlt hlt; omega
      exact hB _ _ (zr_end h e1 e2)
    · obtain rfl : p = 4 := by have := z_nlt hlt; omega
      have f7 : s1 117 7 = s 117 7 := by rw [e1, u_c (by omega)]
      have g : zc_G s (jg_up s 117 4 17) := zc_dead (zfr_up zfr_refl (by decide)) (by (simp (disch := omega) only [u_hit, u_c, u_j]); rw [← f7]; exact hf) u_hit
      refine hB _ _ (zr_end (s1 := s2) (zr_G h g) ?_ e3)
      rw [e2, e1, u_c (by omega)]
      exact up_comm (fun q => absurd q (by omega))
    · obtain rfl : p = 4 := by have := z_nlt hlt; omega
      have f7 : s1 117 7 = s 117 7 := by rw [e1, u_c (by omega)]
      have f2 : s1 117 2 = s 117 2 := by rw [e1, u_c (by omega)]
      have g : zc_G s (jg_up (jg_up s 117 7 (s 117 2)) 117 4 17) := by
        refine zc_dead (zfr_up (zfr_up zfr_refl (by decide)) (by decide)) ?_ u_hit
        (simp (disch := omega) only [u_hit, u_c, u_j])
        exact z_nm1 (h.2.1.2.2.2.2.2.2.1.1 (f7.symm.trans hf)).1
      refine hB _ _ (zr_end (s1 := s3) (zr_G h g) ?_ e4)
      rw [e3, e2, f2, e1, u_c (by omega), u_c (by omega)]
      rw [up_comm (c := T + 2) (c' := 117) (fun q => absurd q (by omega)), up_comm (c := T + 2) (c' := 117) (fun q => absurd q (by omega))]
    · have hlt := z_lt hlt
      match n, hn with
      | 0, hn => omega
      | n + 1, hn =>
        have ep := z_p1 (a := x) (by omega)
        refine zr_expect hG (by omega) h (fun s0 h0 => ?_)
        have hI0 := h0.2.1.2.2.2.1
        refine t_Reader_read_47 (d := d) (T := T) hT hT x hI0 hI0 (by rw [i_in]; omega) (fun s1 e1 => ?_)
        have c0 : ∀ c j, ¬ c = T + 2 → s1 c j = s0 c j := fun c j hc => by rw [e1, u_c hc]
        have hP1 : zc_P T s1 := by
          obtain ⟨p1, p2, p3, p4, p5, p6, p7, p8⟩ := h0.2.1
          exact ⟨p1, p2, p3, by rw [c0 _ _ (by omega)]; exact p4, by rw [c0 _ _ (by omega)]; exact p5, by rw [c0 _ _ (by omega)]; exact p6, zc_S_of (fun j => c0 _ _ (by omega)) p7, fun l => by rw [c0 117 7 (by omega)] at l; rw [c0 T 1 (by omega), c0 117 2 (by omega)]; exact p8 l⟩
        refine (zc_lv hG 5).1 (d + 1) (by omega) s1 _ hP1 (by rw [c0 _ _ (by omega), h0.2.2.1]; omega) (fun s2 b => ?_)
        have h2 := zr_part h0 hx e1 b
        refine t_Reader_read_67 (d := d) hT x (zr_expect hG (by omega) h2 (fun s3 h3 => ?_))
        exact t_Reader_read_73 (d := d) hT x (zr_loop hG hd hB n (p + 1) (x + 1) s3 (by omega) (by omega) h3)
theorem zr_read {G : jv_X} (hG : G.2 = .null ∨ G.2 = .ref 1000005) {T d : Nat} (hd : 50 ≤ d) (p1 : 93 ≤ T) (p2 : T ≤ 114) (hT : f_9 T) {u : jg_H} (h0 : 0 ≤ (u 117 1).toInt) (h2 : (u 117 1).toInt ≤ 200) {B : Option Value → jg_H → Prop} (hB : ∀ v s', zr_F T u s' v → B v s') : q_P G d 20 [.ref 117, .ref T] u B := by
  obtain ⟨d, rfl⟩ : ∃ e, d = e + 2 := ⟨d - 2, by omega⟩
  refine t_Reader_read (d := d) (T := T) hT hT (fun s1 e1 => by rw [e1, u_hit]) (fun s1 e1 s2 e2 s3 e3 s4 e4 s5 e5 => ?_)
  have f1 : s5 117 1 = u 117 1 := by rw [e5, e4, e3, e2, e1, u_j (by decide), u_j (by decide), u_j (by decide), u_c (by omega), u_j (by decide)]
  have f3 : s5 117 3 = 0 := by rw [e5, e4, e3, u_j (by decide), u_j (by decide), u_hit]
  have f6 : s5 117 6 = 0 := by rw [e5, e4, u_j (by decide), u_hit]
  have f7 : s5 117 7 = -1 := by rw [e5, u_hit]
  have f8 : s5 117 8 = Int32.ofNat T := by rw [e5, e4, e3, e2, e1, u_j (by decide), u_j (by decide), u_j (by decide), u_c (by omega), u_hit]
  have fT : s5 T 1 = 0 := by rw [e5, e4, e3, e2, u_c (by omega), u_c (by omega), u_c (by omega), u_hit]
  have ff : zfr (zW_R T) u s5 := by
    rw [e5, e4, e3, e2, e1]
    exact zfr_up (zfr_up (zfr_up (zfr_up (zfr_up zfr_refl (Or.inl ⟨rfl, by omega, by omega⟩)) (Or.inr (Or.inl ⟨rfl, rfl⟩))) (Or.inl ⟨rfl, by omega, by omega⟩)) (Or.inl ⟨rfl, by omega, by omega⟩)) (Or.inl ⟨rfl, by omega, by omega⟩)
  have z0 : (0 : Int32).toInt = 0 := rfl
  refine zg_goOn hG (by omega) (fun _ => by rw [f1, f3]; exact ⟨Int.le_refl _, h0, h2⟩) (fun q => absurd f7 q) (fun s g => ?_)
  obtain ⟨gf, gg, gk⟩ := g
  refine t_Reader_read_32 (d := d) hT (zr_loop hG (by omega) hB 4 0 0 s rfl rfl ⟨zfr_trans ff (zfr_sub (fun c j w => Or.inl ⟨w.1, w.2.1, by omega⟩) gf), ⟨p1, p2, hT, (zfr_8 p1 p2 (zW_LT (T := T) gf)).trans f8, by rw [zfl_6 gf, f6]; exact Int.le_refl _, by rw [zfl_6 gf, f6]; decide, gg, fun l => ?_⟩, by rw [zfl_6 gf, f6]; rfl, fun l => ⟨fun _ => 0, ?_, fun q hq => absurd hq (by omega), fun q hq => absurd hq (by omega), fun i hi => absurd hi (Nat.not_lt_zero i)⟩⟩)
  · rw [(zfl_T p2 gf 1).1, fT]
    exact ⟨Int.le_refl _, (gg.1 l).1⟩
  · rw [(zfl_T p2 gf 1).1, fT]
    rfl
/-! the class's side of text -/
def y_o (x : Int32) : Int32 := if 0 ≤ x.toInt then 0 else if -8 ≤ x.toInt then 1 else -7 - x
def y_v (x : Int32) : Int32 := if 0 ≤ x.toInt then x else -1 - x
theorem y_enc {x : Int32} (h : y_cok x) : t_enc x (y_o x) (y_v x) := by
  obtain ⟨h1, h2⟩ := h
  unfold y_o y_v
  by_cases c1 : 0 ≤ x.toInt
  · rw [if_pos c1, if_pos c1]
    exact Or.inl ⟨rfl, rfl, c1, h2⟩
  · rw [if_neg c1, if_neg c1]
    have ev : ((-1 : Int32) - x).toInt = -1 - x.toInt := by clear c1; ((try simp only [i_lt, i_le, i_eq, i_in, i_cn, Int32.toInt_add, Int32.toInt_sub, Int32.toInt_mul, Int32.toInt_neg, Int32.reduceToInt, Int.bmod_add_bmod, Int.add_bmod_bmod, Int.bmod_sub_bmod, Int.sub_bmod_bmod, Int.bmod_mul_bmod, Int.mul_bmod_bmod, Int.bmod_neg_bmod, Nat.reducePow, Int.reduceBmod, Int.reduceNeg, Int.reduceMul, Int.reduceAdd, Int.reduceSub, not_true_eq_false, not_false_eq_true] at *) <;> (try simp (disch := omega) only [i_bm'] at *) <;> omega)
    by_cases c2 : -8 ≤ x.toInt
    · rw [if_pos c2]
      exact Or.inr (Or.inl ⟨rfl, by omega, by omega, by omega⟩)
    · rw [if_neg c2]
      have eo : ((-7 : Int32) - x).toInt = -7 - x.toInt := by clear c1 c2; ((try simp only [i_lt, i_le, i_eq, i_in, i_cn, Int32.toInt_add, Int32.toInt_sub, Int32.toInt_mul, Int32.toInt_neg, Int32.reduceToInt, Int.bmod_add_bmod, Int.add_bmod_bmod, Int.bmod_sub_bmod, Int.sub_bmod_bmod, Int.bmod_mul_bmod, Int.mul_bmod_bmod, Int.bmod_neg_bmod, Nat.reducePow, Int.reduceBmod, Int.reduceNeg, Int.reduceMul, Int.reduceAdd, Int.reduceSub, not_true_eq_false, not_false_eq_true] at *) <;> (try simp (disch := omega) only [i_bm'] at *) <;> omega)
      exact Or.inr (Or.inr ⟨by omega, by omega, by omega⟩)
theorem y_kind {x : Int32} (h : y_cok x) : (y_c x = 0 ∧ (y_o x = 0 ∨ y_o x = 1)) ∨ (y_c x = 1 ∧ (y_o x = 4 ∨ y_o x = 10)) ∨ (y_c x = 2 ∧ ¬ y_o x = 0 ∧ ¬ y_o x = 1 ∧ ¬ y_o x = 4 ∧ ¬ y_o x = 10) := by
  obtain ⟨h1, h2⟩ := h
  unfold y_c y_o
  by_cases c2 : -8 ≤ x.toInt
  · rw [if_pos c2]
    refine Or.inl ⟨rfl, ?_⟩
    by_cases c1 : 0 ≤ x.toInt
    · rw [if_pos c1]; exact Or.inl rfl
    · rw [if_neg c1, if_pos c2]; exact Or.inr rfl
  · have eo : ((-7 : Int32) - x).toInt = -7 - x.toInt := by clear c2; ((try simp only [i_lt, i_le, i_eq, i_in, i_cn, Int32.toInt_add, Int32.toInt_sub, Int32.toInt_mul, Int32.toInt_neg, Int32.reduceToInt, Int.bmod_add_bmod, Int.add_bmod_bmod, Int.bmod_sub_bmod, Int.sub_bmod_bmod, Int.bmod_mul_bmod, Int.mul_bmod_bmod, Int.bmod_neg_bmod, Nat.reducePow, Int.reduceBmod, Int.reduceNeg, Int.reduceMul, Int.reduceAdd, Int.reduceSub, not_true_eq_false, not_false_eq_true] at *) <;> (try simp (disch := omega) only [i_bm'] at *) <;> omega)
    rw [if_neg c2, if_neg (show ¬ 0 ≤ x.toInt by omega), if_neg c2]
    refine Or.inr ?_
    by_cases c3 : x = -11 ∨ x = -17
    · rw [if_pos c3]
      refine Or.inl ⟨rfl, ?_⟩
      rcases c3 with rfl | rfl
      · exact Or.inl (by decide)
      · exact Or.inr (by decide)
    · rw [if_neg c3]
      refine Or.inr ⟨rfl, ?_, ?_, ?_, ?_⟩
      · intro e; rw [e] at eo; have : (0 : Int32).toInt = 0 := rfl; omega
      · intro e; rw [e] at eo; have : (1 : Int32).toInt = 1 := rfl; omega
      · intro e; rw [e] at eo; have : (4 : Int32).toInt = 4 := rfl; exact c3 (Or.inl (Int32.toInt_inj.mp (by have : (-11 : Int32).toInt = -11 := rfl; omega)))
      · intro e; rw [e] at eo; have : (10 : Int32).toInt = 10 := rfl; exact c3 (Or.inr (Int32.toInt_inj.mp (by have : (-17 : Int32).toInt = -17 := rfl; omega)))
/-- a run of the class's code is one of the reference's -/
theorem y_bal {f o : Nat → Int32} : ∀ (n c h c' : Nat), (∀ i, i < n → y_cok (f (c + i)) ∧ o (c' + i) = y_o (f (c + i))) → y_run (fun i => y_c (f i)) n c h 1 → t_bal o n c' h
  | 0, _, _, _, _, a => Eq.symm a
  | n + 1, c, h, c', e, a => by
    obtain ⟨e0, e1⟩ := e 0 (by omega)
    rw [Nat.add_zero] at e0 e1
    rw [Nat.add_zero] at e1
    have er : ∀ i, i < n → y_cok (f (c + 1 + i)) ∧ o (c' + 1 + i) = y_o (f (c + 1 + i)) := fun i hi => by
      have := e (1 + i) (by omega)
      rw [← Nat.add_assoc, ← Nat.add_assoc] at this
      exact this
    have k := y_kind e0
    rw [← e1] at k
    rcases a with ⟨q, a⟩ | ⟨q, w, a⟩ | ⟨q, w, a⟩
    · have q : y_c (f c) = 0 := q
      rw [q] at k
      refine Or.inl ⟨?_, y_bal n _ _ _ er a⟩
      rcases k with ⟨_, k⟩ | ⟨k, _⟩ | ⟨k, _⟩
      · exact k
      · exact absurd k (by decide)
      · exact absurd k (by decide)
    · have q : y_c (f c) = 1 := q
      rw [q] at k
      refine Or.inr (Or.inl ⟨?_, w, y_bal n _ _ _ er a⟩)
      rcases k with ⟨k, _⟩ | ⟨_, k⟩ | ⟨k, _⟩
      · exact absurd k (by decide)
      · exact k
      · exact absurd k (by decide)
    · have q : y_c (f c) = 2 := q
      rw [q] at k
      rcases k with ⟨k, _⟩ | ⟨k, _⟩ | ⟨_, k1, k2, k3, k4⟩
      · exact absurd k (by decide)
      · exact absurd k (by decide)
      · exact Or.inr (Or.inr ⟨k1, k2, k3, k4, w, y_bal n _ _ _ er a⟩)
