/-! the class's text keeps what its cells alone can say -/
theorem tb_eq {o o' : Nat → Int32} : ∀ (n c h : Nat), (∀ i, c ≤ i → i < c + n → o' i = o i) → t_bal o n c h → t_bal o' n c h
  | 0, _, _, _, a => a
  | n + 1, c, h, e, a => by
    have e0 := e c (Nat.le_refl _) (by omega)
    have e' : ∀ i, c + 1 ≤ i → i < c + 1 + n → o' i = o i := fun i h1 h2 => e i (by omega) (by omega)
    unfold t_bal at a ⊢
    rw [e0]
    rcases a with ⟨q, a⟩ | ⟨q, f, a⟩ | ⟨q, r, k, l, f, a⟩
    · exact Or.inl ⟨q, tb_eq n _ _ e' a⟩
    · exact Or.inr (Or.inl ⟨q, f, tb_eq n _ _ e' a⟩)
    · exact Or.inr (Or.inr ⟨q, r, k, l, f, tb_eq n _ _ e' a⟩)
theorem t_ok_eq {u w : jg_H} {t : Nat} (h : t_ok u t) (h5 : ∀ p, p < 5 → w (93 + 3 * t + 2) p = u (93 + 3 * t + 2) p ∧ w 165 (5 * t + p) = u 165 (5 * t + p)) (hc : ∀ c, c < 200 → w (93 + 3 * t + 1) c = u (93 + 3 * t + 1) c ∧ w 163 (200 * t + c) = u 163 (200 * t + c) ∧ w 164 (200 * t + c) = u 164 (200 * t + c)) : t_ok w t := by
  obtain ⟨a1, a2, a3⟩ := h
  have b0 : ∀ p, p < 5 → 0 ≤ (u 165 (5 * t + p)).toInt ∧ (u 165 (5 * t + p)).toInt ≤ 200 := fun p hp => (a1 p hp).2
  refine ⟨fun p hp => ?_, fun p hp => ?_, fun c h => ?_⟩
  · rw [(h5 p hp).1, (h5 p hp).2]; exact a1 p hp
  · have e1 := (h5 p (by omega)).2
    have e2 : w 165 (5 * t + p + 1) = u 165 (5 * t + p + 1) := (h5 (p + 1) (by omega)).2
    rw [e1, e2]
    obtain ⟨v1, v2⟩ := a2 p hp
    have w1 := b0 p (by omega)
    have w2 : 0 ≤ (u 165 (5 * t + p + 1)).toInt ∧ (u 165 (5 * t + p + 1)).toInt ≤ 200 := b0 (p + 1) (by omega)
    refine ⟨v1, tb_eq _ _ _ (fun i h1 h2 => ?_) v2⟩
    have := (hc (i - 200 * t) (by omega)).2.1
    rw [show 200 * t + (i - 200 * t) = i by omega] at this
    exact this
  · rw [(h5 4 (by omega)).2] at h
    have w4 := b0 4 (by omega)
    obtain ⟨q1, q2, q3⟩ := hc c (by omega)
    rw [q1, q2, q3]
    exact a3 c h
theorem Inv_swap {u w : jg_H} (hI : Inv u) (hf : ∀ c j, ¬ g_of c j = 0 → ¬ g_of c j = 6 → ¬ g_of c j = 7 → w c j = u c j) (h14 : (u 146 14).toInt ≤ (w 146 14).toInt) (hx : I_txt w) (ht : I_tap w) : Inv w := by
  obtain ⟨a1, a2, a3, a4, a5, a6, a7, a8, a9, a10⟩ := hI
  have f : ∀ k, ¬ k = 0 → ¬ k = 6 → ¬ k = 7 → f_same k u w := fun k k0 k6 k7 c j e => hf c j (by rw [e]; exact k0) (by rw [e]; exact k6) (by rw [e]; exact k7)
  have f1 := f 1 (by decide) (by decide) (by decide)
  have f2 := f 2 (by decide) (by decide) (by decide)
  have f3 := f 3 (by decide) (by decide) (by decide)
  have e3 : w 153 = u 153 := funext fun i => f2 153 i rfl
  exact ⟨fr_mem f1 a1, fr_bil f2 a2, fr_cal f3 (funext fun i => f2 152 i rfl) (Int.le_of_eq (congrArg _ (f2 146 6 rfl).symm)) a3, fr_pil (f 4 (by decide) (by decide) (by decide)) (Int.le_of_eq (congrArg _ (f1 146 0 rfl).symm)) h14 (f3 146 13 rfl) e3 a4, fr_tol (f 5 (by decide) (by decide) (by decide)) (f3 146 13 rfl) e3 a5, hx, ht, fr_mis (f 8 (by decide) (by decide) (by decide)) a8, fr_try (f 10 (by decide) (by decide) (by decide)) a9, fr_cst (f 9 (by decide) (by decide) (by decide)) a10⟩
theorem zk_117 {j : Nat} (h0 : ¬ g_of 117 j = 0) (h7 : ¬ g_of 117 j = 7) : False := by
  have e : g_of 117 j = if j = 1 then 7 else 0 := rfl
  rw [e] at h0 h7
  by_cases q : j = 1
  · rw [if_pos q] at h7; exact h7 rfl
  · rw [if_neg q] at h0; exact h0 rfl
/-- what reading leaves alone, told of the groups -/
theorem zk_fr {u s s' : jg_H} {t : Nat} (ht : t < 8) {v : Option Value} (hu : ∀ c j, c < 146 → u c j = s c j) (hF : zr_F (93 + 3 * t) s s' v) : ∀ c j, c < 146 → ¬ g_of c j = 0 → ¬ g_of c j = 6 → ¬ g_of c j = 7 → s' c j = u c j := by
  intro c j hc h0 h6 h7
  rw [hu c j hc]
  refine hF.1 c j ?_
  rintro (w | w | w | w)
  · rw [w.1] at h0 h7; exact zk_117 h0 h7
  · rw [w.1] at h6; exact h6 (g_6 (by omega) (by omega))
  · rw [w] at h6; exact h6 (g_6 (by omega) (by omega))
  · rw [w] at h6; exact h6 (g_6 (by omega) (by omega))
theorem zk_no {u s s' : jg_H} (hI : Inv u) (hu : ∀ c j, c < 146 → u c j = s c j) {t : Nat} (ht : t < 8) (h14 : (u 146 14).toInt ≤ t) {v : Option Value} (hF : zr_F (93 + 3 * t) s s' v) : lz_KC s' := by
  have hfr := zk_fr ht hu hF
  obtain ⟨hf, e1, e8, -⟩ := hF
  have hl : ∀ c j, c < 146 → (if c < 146 then s' c j else jg_up u 146 30 0 c j) = s' c j := fun c j hc => if_pos hc
  have hh : ∀ c j, ¬ c < 146 → ¬ (c = 146 ∧ j = 30) → (if c < 146 then s' c j else jg_up u 146 30 0 c j) = u c j := fun c j hc hn => by rw [if_neg hc]; unfold jg_up; rw [if_neg hn]
  refine ⟨fun c j => if c < 146 then s' c j else jg_up u 146 30 0 c j, Inv_swap hI (fun c j h0 h6 h7 => ?_) ?_ ?_ ?_, fun c j hc => hl c j hc, fun _ _ => ?_⟩
  · show (if c < 146 then s' c j else jg_up u 146 30 0 c j) = u c j
    by_cases hc : c < 146
    · rw [hl c j hc]; exact hfr c j hc h0 h6 h7
    · refine hh c j hc ?_
      rintro ⟨rfl, rfl⟩
      exact h7 rfl
  · show (u 146 14).toInt ≤ (if 146 < 146 then s' 146 14 else jg_up u 146 30 0 146 14).toInt
    rw [hh 146 14 (by decide) (by decide)]
    exact Int.le_refl _
  · obtain ⟨x1, x2, x3, x4, x5, x6, x7⟩ := hI.2.2.2.2.2.1
    have hz : ∀ j, s' 0 j = u 0 j := fun j => (hf 0 j (by rintro (w | w | w | w) <;> omega)).trans (hu 0 j (by decide)).symm
    refine ⟨?_, ?_, ?_, ?_, ?_, ?_, ?_⟩
    · show (if 0 < 146 then s' 0 11 else jg_up u 146 30 0 0 11) = (if 146 < 146 then s' 146 14 else jg_up u 146 30 0 146 14)
      rw [hl 0 11 (by decide), hh 146 14 (by decide) (by decide), hz]; exact x1
    · show 1 ≤ (if 146 < 146 then s' 146 14 else jg_up u 146 30 0 146 14).toInt
      rw [hh 146 14 (by decide) (by decide)]; exact x2
    · show (if 146 < 146 then s' 146 14 else jg_up u 146 30 0 146 14).toInt ≤ 8
      rw [hh 146 14 (by decide) (by decide)]; exact x3
    · show (if 0 < 146 then s' 0 12 else jg_up u 146 30 0 0 12) = (if 146 < 146 then s' 146 15 else jg_up u 146 30 0 146 15)
      rw [hl 0 12 (by decide), hh 146 15 (by decide) (by decide), hz]; exact x4
    · show 0 ≤ (if 146 < 146 then s' 146 15 else jg_up u 146 30 0 146 15).toInt
      rw [hh 146 15 (by decide) (by decide)]; exact x5
    · show (if 146 < 146 then s' 146 15 else jg_up u 146 30 0 146 15).toInt < (if 146 < 146 then s' 146 14 else jg_up u 146 30 0 146 14).toInt
      rw [hh 146 15 (by decide) (by decide), hh 146 14 (by decide) (by decide)]; exact x6
    · intro q hq
      have hq : (q : Int) < (if 146 < 146 then s' 146 14 else jg_up u 146 30 0 146 14).toInt := hq
      rw [hh 146 14 (by decide) (by decide)] at hq
      have hc : ∀ c j, c < 146 → c = 93 + 3 * q + 1 ∨ c = 93 + 3 * q + 2 → s' c j = u c j := fun c j h h' => (hf c j (by rintro (w | w | w | w) <;> omega)).trans (hu c j h).symm
      refine t_ok_eq (x7 q hq) (fun p hp => ⟨?_, ?_⟩) (fun c hc' => ⟨?_, ?_, ?_⟩)
      · exact (hl _ _ (by omega)).trans (hc _ _ (by omega) (Or.inr rfl))
      · exact hh 165 _ (by decide) (by omega)
      · exact (hl _ _ (by omega)).trans (hc _ _ (by omega) (Or.inl rfl))
      · exact hh 163 _ (by decide) (by omega)
      · exact hh 164 _ (by decide) (by omega)
  · have z : (if 146 < 146 then s' 146 30 else jg_up u 146 30 0 146 30) = 0 := by rw [if_neg (by decide), u_hit]
    refine ⟨?_, ?_, ?_, fun i hi => ?_⟩
    · show (if 117 < 146 then s' 117 1 else jg_up u 146 30 0 117 1) = (if 146 < 146 then s' 146 30 else jg_up u 146 30 0 146 30)
      rw [z, hl 117 1 (by decide)]; exact e1
    · show 0 ≤ (if 146 < 146 then s' 146 30 else jg_up u 146 30 0 146 30).toInt
      rw [z]; decide
    · show (if 146 < 146 then s' 146 30 else jg_up u 146 30 0 146 30).toInt ≤ 200
      rw [z]; decide
    · have hi : (i : Int) < (if 146 < 146 then s' 146 30 else jg_up u 146 30 0 146 30).toInt := hi
      rw [z] at hi
      have : (0 : Int32).toInt = 0 := rfl
      omega
  · show (if 117 < 146 then s' 117 8 else jg_up u 146 30 0 117 8).toNatClampNeg < 146
    rw [hl 117 8 (by decide), e8, show (Int32.ofNat (93 + 3 * t)).toNatClampNeg = 93 + 3 * t from nI_clamp (n := 93 + 3 * t) (by omega)]
    omega
/-- the reference's cells that would say the same text -/
def zk_w (t : Nat) (u s : jg_H) : jg_H := fun c j => if c < 146 then s c j else if c = 146 ∧ j = 30 then 0 else if c = 146 ∧ j = 14 then u 146 14 + 1 else if c = 163 ∧ 200 * t ≤ j ∧ j < 200 * t + 200 then y_o (s (93 + 3 * t + 1) (j - 200 * t)) else if c = 164 ∧ 200 * t ≤ j ∧ j < 200 * t + 200 then y_v (s (93 + 3 * t + 1) (j - 200 * t)) else if c = 165 ∧ 5 * t ≤ j ∧ j < 5 * t + 5 then s (93 + 3 * t + 2) (j - 5 * t) else u c j
theorem zk_yes {u s s' s1 : jg_H} (hI : Inv u) (hu : ∀ c j, c < 146 → u c j = s c j) {t : Nat} (ht : t < 8) (h14 : (u 146 14).toInt = t) {x : Int32} (hF : zr_F (93 + 3 * t) s s' (some (.int x))) (hx : x = -1) (e1 : s1 = jg_up s' 0 11 ((s' 0 11) + 1)) : lz_KC s1 := by
  have hfr := zk_fr ht hu hF
  obtain ⟨hf, e7, e8, y, ey, hD⟩ := hF
  obtain rfl : x = y := by cases ey; rfl
  obtain ⟨b, b1, b2, b3, b4⟩ := hD hx
  have c0 : ∀ c j, ¬ c = 0 → s1 c j = s' c j := fun c j hc => by rw [e1, u_c hc]
  have hz : ∀ j, s' 0 j = u 0 j := fun j => (hf 0 j (by rintro (w | w | w | w) <;> omega)).trans (hu 0 j (by decide)).symm
  obtain ⟨x1, x2, x3, x4, x5, x6, x7⟩ := hI.2.2.2.2.2.1
  have hl : ∀ c j, c < 146 → zk_w t u s1 c j = s1 c j := fun c j hc => if_pos hc
  have h30 : zk_w t u s1 146 30 = 0 := rfl
  have hm14 : zk_w t u s1 146 14 = u 146 14 + 1 := rfl
  have hh : ∀ c j, ¬ c < 146 → ¬ (c = 146 ∧ j = 30) → ¬ (c = 146 ∧ j = 14) → ¬ (c = 163 ∧ 200 * t ≤ j ∧ j < 200 * t + 200) → ¬ (c = 164 ∧ 200 * t ≤ j ∧ j < 200 * t + 200) → ¬ (c = 165 ∧ 5 * t ≤ j ∧ j < 5 * t + 5) → zk_w t u s1 c j = u c j := fun c j h1 h2 h3 h4 h5 h6 => by
    unfold zk_w
    rw [if_neg h1, if_neg h2, if_neg h3, if_neg h4, if_neg h5, if_neg h6]
  have ep := z_p1 (a := u 146 14) (by omega)
  have w163 : ∀ i, i < 200 → zk_w t u s1 163 (200 * t + i) = y_o (s' (93 + 3 * t + 1) i) := fun i hi => by
    unfold zk_w
    rw [if_neg (by decide), if_neg (by omega), if_neg (by omega), if_pos ⟨rfl, by omega, by omega⟩, c0 _ _ (by omega), show 200 * t + i - 200 * t = i by omega]
  have w164 : ∀ i, i < 200 → zk_w t u s1 164 (200 * t + i) = y_v (s' (93 + 3 * t + 1) i) := fun i hi => by
    unfold zk_w
    rw [if_neg (by decide), if_neg (by omega), if_neg (by omega), if_neg (by omega), if_pos ⟨rfl, by omega, by omega⟩, c0 _ _ (by omega), show 200 * t + i - 200 * t = i by omega]
  have w165 : ∀ p, p < 5 → zk_w t u s1 165 (5 * t + p) = s' (93 + 3 * t + 2) p := fun p hp => by
    unfold zk_w
    rw [if_neg (by decide), if_neg (by omega), if_neg (by omega), if_neg (by omega), if_neg (by omega), if_pos ⟨rfl, by omega, by omega⟩, c0 _ _ (by omega), show 5 * t + p - 5 * t = p by omega]
  refine ⟨zk_w t u s1, Inv_swap hI (fun c j h0 h6 h7 => ?_) (by rw [hm14]; omega) ?_ ?_, fun c j hc => hl c j hc, fun _ _ => ?_⟩
  · by_cases hc : c < 146
    · rw [hl c j hc]
      by_cases z : c = 0
      · subst z
        rw [e1, u_j (by rintro rfl; exact h6 rfl)]
        exact hfr 0 j hc h0 h6 h7
      · rw [c0 c j z]; exact hfr c j hc h0 h6 h7
    · refine hh c j hc ?_ ?_ ?_ ?_ ?_
      · rintro ⟨rfl, rfl⟩; exact h7 rfl
      · rintro ⟨rfl, rfl⟩; exact h6 rfl
      · rintro ⟨rfl, -⟩; exact h6 rfl
      · rintro ⟨rfl, -⟩; exact h6 rfl
      · rintro ⟨rfl, -⟩; exact h6 rfl
  · refine ⟨?_, by rw [hm14]; omega, by rw [hm14]; omega, ?_, ?_, ?_, fun q hq => ?_⟩
    · rw [hl 0 11 (by decide), hm14, e1, u_hit, hz, x1]
    · rw [hl 0 12 (by decide), hh 146 15 (by decide) (by omega) (by omega) (by omega) (by omega) (by omega), e1, u_j (by decide), hz]; exact x4
    · rw [hh 146 15 (by decide) (by omega) (by omega) (by omega) (by omega) (by omega)]; exact x5
    · rw [hh 146 15 (by decide) (by omega) (by omega) (by omega) (by omega) (by omega), hm14]; omega
    · rw [hm14] at hq
      by_cases e : q = t
      · subst e
        have v2 : ∀ p, p < 5 → (zk_w q u s1 165 (5 * q + p)).toInt = (b p : Int) := fun p hp => by rw [w165 p hp]; exact b2 p hp
        have mono : ∀ p, p < 4 → b p ≤ b (p + 1) := fun p hp => (b3 p hp).1
        have m0 : b 0 ≤ b 1 := mono 0 (by omega)
        have m1 : b 1 ≤ b 2 := mono 1 (by omega)
        have m2 : b 2 ≤ b 3 := mono 2 (by omega)
        have m3 : b 3 ≤ b 4 := mono 3 (by omega)
        have mm : ∀ p, p < 5 → b p ≤ b 4 := fun p hp => by
          have : p = 0 ∨ p = 1 ∨ p = 2 ∨ p = 3 ∨ p = 4 := by omega
          rcases this with rfl | rfl | rfl | rfl | rfl <;> omega
        refine ⟨fun p hp => ?_, fun p hp => ?_, fun c hc => ?_⟩
        · have := v2 p hp
          have := mm p hp
          refine ⟨?_, by omega, by omega⟩
          rw [w165 p hp, hl _ _ (by omega), c0 _ _ (by omega)]
        · have q1 := v2 p (by omega)
          have q2 : (zk_w q u s1 165 (5 * q + p + 1)).toInt = (b (p + 1) : Int) := v2 (p + 1) (by omega)
          have q3 := mono p hp
          have q4 := mm (p + 1) (by omega)
          refine ⟨by omega, ?_⟩
          rw [q1, q2, Int.toNat_natCast, Int.toNat_natCast]
          refine y_bal _ (b p) 0 _ (fun i hi => ⟨b4 _ (by omega), ?_⟩) ((b3 p hp).2 0)
          rw [Nat.add_assoc]
          exact w163 (b p + i) (by omega)
        · have q1 := v2 4 (by omega)
          have hc : (c : Int) < (zk_w q u s1 165 (5 * q + 4)).toInt := hc
          have h2 : c < 200 := by omega
          rw [w163 c h2, w164 c h2, hl _ _ (by omega), c0 _ _ (by omega)]
          exact y_enc (b4 c (by omega))
      · have hq' : q < t := by omega
        have hc : ∀ c j, c < 146 → c = 93 + 3 * q + 1 ∨ c = 93 + 3 * q + 2 → s1 c j = u c j := fun c j h h' => (c0 c j (by omega)).trans ((hf c j (by rintro (w | w | w | w) <;> omega)).trans (hu c j h).symm)
        refine t_ok_eq (x7 q (by omega)) (fun p hp => ⟨?_, ?_⟩) (fun c hc' => ⟨?_, ?_, ?_⟩)
        · exact (hl _ _ (by omega)).trans (hc _ _ (by omega) (Or.inr rfl))
        · exact hh 165 _ (by decide) (by omega) (by omega) (by omega) (by omega) (by omega)
        · exact (hl _ _ (by omega)).trans (hc _ _ (by omega) (Or.inl rfl))
        · exact hh 163 _ (by decide) (by omega) (by omega) (by omega) (by omega) (by omega)
        · exact hh 164 _ (by decide) (by omega) (by omega) (by omega) (by omega) (by omega)
  · refine ⟨?_, by rw [h30]; decide, by rw [h30]; decide, fun i hi => ?_⟩
    · rw [h30, hl 117 1 (by decide), c0 _ _ (by decide)]; exact e7
    · rw [h30] at hi
      have : (0 : Int32).toInt = 0 := rfl
      omega
  · show (zk_w t u s1 117 8).toNatClampNeg < 146
    rw [hl 117 8 (by decide), c0 _ _ (by decide), e8, show (Int32.ofNat (93 + 3 * t)).toNatClampNeg = 93 + 3 * t from nI_clamp (n := 93 + 3 * t) (by omega)]
    omega
/-- text on the class's side alone -/
theorem lz_textC {G : jv_X} (hG : G.2 = .null ∨ G.2 = .ref 1000005) {d : Nat} (hd : 51 ≤ d) {s : jg_H} (hK : lz_KC s) : q_P G d 70 [.ref 0] s (fun _ s' => lz_KC s' ∧ ∀ c j, 146 ≤ c → s' c j = s c j) := by
  obtain ⟨d, rfl⟩ : ∃ e, d = e + 1 := ⟨d - 1, by omega⟩
  have hK0 := hK
  obtain ⟨u, hI, hu, hu8⟩ := hK
  have hu : ∀ c j, c < 146 → u c j = s c j := hu
  obtain ⟨x1, x2, x3, -⟩ := hI.2.2.2.2.2.1
  obtain ⟨r1, r2, r3, -⟩ := hI.2.2.2.2.2.2.1
  have e11 : s 0 11 = u 146 14 := (hu 0 11 (by decide)).symm.trans x1
  have e1 : s 117 1 = u 146 30 := (hu 117 1 (by decide)).symm.trans r1
  have e8 : (8 : Int32).toInt = 8 := rfl
  refine t_C_text (d := d) (fun h => ?_) (fun h => ?_) (fun _ => ⟨hK0, fun _ _ _ => rfl⟩)
  · have h := z_lt h
    rw [i_in, e11]
    rw [e11] at h
    omega
  · have h := z_lt h
    rw [e11] at h
    rw [e11]
    have et : (u 146 14).toNatClampNeg = (u 146 14).toInt.toNat := i_cn _
    rw [et]
    have ht : (u 146 14).toInt.toNat < 8 := by omega
    refine zr_read hG (by omega) (by omega) (by omega) (f_m92 ht) (by rw [e1]; exact r2) (by rw [e1]; exact r3) (fun v s' hF => ?_)
    have hfar : ∀ c j, 146 ≤ c → s' c j = s c j := fun c j hc => hF.1 c j (by rintro (w | w | w | w) <;> omega)
    obtain ⟨y, rfl⟩ : ∃ y, v = some (.int y) := by obtain ⟨-, -, -, y, e, -⟩ := hF; exact ⟨y, e⟩
    refine t_C_text_31 (d := d) y (fun hy s1 e => ?_) (fun _ => ?_)
    · exact ⟨zk_yes hI hu ht (by omega) hF hy e, fun c j hc => by rw [e, u_c (by omega)]; exact hfar c j hc⟩
    · exact ⟨zk_no hI hu ht (by omega) hF, hfar⟩
