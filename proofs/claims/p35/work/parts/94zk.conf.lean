/-! a conference: the words that are taken -/
set_option maxRecDepth 20000 in
theorem sp_C_placeFrom {G : jv_X} {d : Nat} {B : Option Value → jg_H → Prop} {s : jg_H} {c : Nat} (hc : f_8 c) (n : Nat) (hn : (s c 0).toInt = n) (h10 : n ≤ 10) (w : Nat → Int32) (hw : ∀ j, j < n → s (c + 1) j = w j) (k : Nat) (hk : k ≤ n) (a v : Int32) (ha : a.toInt = k) (hB : ∀ r : Int32, r.toInt = ff w v (n - k) k → B (some (.int r)) s) : q_P G (d + 2) 121 [.ref c, .int a, .int v] s B := by
  have lp : ∀ (m q : Nat) (x3 : Int32), q + m = n → x3.toInt = q → ff w v m q = ff w v (n - k) k → q_W G (d + 1) jm_Conference_placeFrom B 2 [some (.ref c), some (.int a), some (.int v), some (.int x3)] [] s := by
    intro m
    induction m with
    | zero =>
      intro q x3 e1 e3 he
      have eq : q = n := by omega
      have nl : ¬ x3 < s c 0 := fun g => by have := (lt_of e3 hn).mp g; omega
      refine t_Conference_placeFrom_2 (d := d) hc a v x3 ?_ (fun g => absurd g nl) (fun g => absurd g nl) (fun g => absurd g nl) (fun g => absurd g nl) (fun g => absurd g nl) (fun g => absurd g nl)
      intro _
      exact hB x3 (by rw [e3, ← he]; rfl)
    | succ m ih =>
      intro q x3 e1 e3 he
      have ql : q < n := by omega
      have yl : x3 < s c 0 := (lt_of e3 hn).mpr ql
      have q10 : x3 < 10 := (lt_of (n := 10) e3 rfl).mpr (Nat.lt_of_lt_of_le ql h10)
      have nq := cn_of e3
      have he : (if w q = v then q else ff w v m (q + 1)) = ff w v (n - k) k := he
      refine t_Conference_placeFrom_2 (d := d) hc a v x3 (fun g => absurd yl g) (fun _ g => absurd g (ng_of e3)) (fun _ g => absurd g (ng_of e3)) (fun _ _ g => absurd q10 g) (fun _ _ g => absurd q10 g) ?_ ?_
      · intro _ _ _ g
        rw [nq, hw q ql] at g
        rw [if_pos g] at he
        exact hB x3 (by rw [e3, he])
      · intro _ _ _ g
        rw [nq, hw q ql] at g
        rw [if_neg g] at he
        exact ih (q + 1) _ (by omega) (in1_of e3 (by omega)) he
  refine t_Conference_placeFrom (d := d) hc a v ?_
  exact lp (n - k) k a (by omega) ha rfl
set_option maxRecDepth 20000 in
theorem sp_M_nextOf {G : jv_X} {d : Nat} {B : Option Value → jg_H → Prop} {s : jg_H} (b : Int32) (A : Nat) (hA : b.toInt = A) (hA8 : A < 8) (n : Nat) (hn : (s 153 A).toInt = n) (h10 : n ≤ 10) (w : Nat → Int32) (hw : ∀ j, j < n → s 154 (10 * A + j) = w j) (k : Nat) (hk : k ≤ n) (a v : Int32) (ha : a.toInt = k) (hB : ∀ r : Int32, r.toInt = ff w v (n - k) k → B (some (.int r)) s) : q_P G (d + 1) 213 [.ref 146, .int b, .int a, .int v] s B := by
  have nA := cn_of hA
  have jA : jv_in b 8 = true := ji_of hA hA8
  have sA : s 153 b.toNatClampNeg = s 153 A := by rw [nA]
  have lp : ∀ (m q : Nat) (x4 : Int32), q + m = n → x4.toInt = q → ff w v m q = ff w v (n - k) k → q_W G d jm_M_nextOf B 3 [some (.ref 146), some (.int b), some (.int a), some (.int v), some (.int x4)] [] s := by
    intro m
    induction m with
    | zero =>
      intro q x4 e1 e3 he
      have nl : ¬ x4 < s 153 b.toNatClampNeg := fun g => by rw [sA] at g; have := (lt_of e3 hn).mp g; omega
      refine t_M_nextOf_3 (d := d) b a v x4 jA ?_ (fun g => absurd g nl) (fun g => absurd g nl) (fun g => absurd g nl)
      intro _
      exact hB x4 (by rw [e3, ← he]; rfl)
    | succ m ih =>
      intro q x4 e1 e3 he
      have ql : q < n := by omega
      have q10 : q < 10 := Nat.lt_of_lt_of_le ql h10
      have yl : x4 < s 153 b.toNatClampNeg := by rw [sA]; exact (lt_of e3 hn).mpr ql
      have y := x10_of hA e3 hA8 q10
      have he : (if w q = v then q else ff w v m (q + 1)) = ff w v (n - k) k := he
      refine t_M_nextOf_3 (d := d) b a v x4 jA (fun g => absurd yl g) (fun _ => ji_of y (by clear hB ih he hw y; omega)) ?_ ?_
      · intro _ g
        rw [cn_of y, hw q ql] at g
        rw [if_pos g] at he
        exact hB x4 (by rw [e3, he])
      · intro _ g
        rw [cn_of y, hw q ql] at g
        rw [if_neg g] at he
        exact ih (q + 1) _ (by omega) (in1_of e3 (by omega)) he
  refine t_M_nextOf (d := d) b a v ?_
  exact lp (n - k) k a (by omega) ha rfl
set_option maxRecDepth 20000 in
theorem sp_C_least {G : jv_X} {d : Nat} {B : Option Value → jg_H → Prop} {s : jg_H} {c1 c2 : Nat} (hc1 : f_8 c1) (hc2 : f_8 c2) (na nb : Nat) (hna : (s c1 0).toInt = na) (hnb : (s c2 0).toInt = nb) (ha : na ≤ 10) (hb : nb ≤ 10) (wa wb : Nat → Int32) (hwa : ∀ j, j < na → s (c1 + 1) j = wa j) (hwb : ∀ j, j < nb → s (c2 + 1) j = wb j) (hba : ∀ j, j < na → 1 ≤ (wa j).toInt ∧ (wa j).toInt ≤ 60) (T : ∀ i j, i ≤ na → j ≤ nb → (s (126 + i) j).toInt = f_L wa wb na nb i j) (x y : Nat) (hx : x ≤ na) (hy : y ≤ nb) (hL : 0 < f_L wa wb na nb x y) (a3 a4 a5 : Int32) (e3 : a3.toInt = x) (e4 : a4.toInt = y) (e5 : a5.toInt = (f_L wa wb na nb x y : Int) - 1) (hB : ∀ v : Int32, f_min wa wb na nb x y v → B (some (.int v)) s) : q_P G (d + 3) 120 [.ref 123, .ref c1, .ref c2, .int a3, .int a4, .int a5] s B := by
  have lp : ∀ (m q : Nat) (x6 x7 : Int32) (o8 o9 : Option Value), q + m = na → x ≤ q → x7.toInt = q → f_n o8 = true → f_n o9 = true → (x6 = 61 ∨ f_C wa wb na nb x y x6) → (∀ k, x ≤ k → k < q → f_C wa wb na nb x y (wa k) → x6.toInt ≤ (wa k).toInt) → q_W G (d + 2) jm_Conference_leastNext B 7 [some (.ref 123), some (.ref c1), some (.ref c2), some (.int a3), some (.int a4), some (.int a5), some (.int x6), some (.int x7), o8, o9] [] s := by
    intro m
    induction m with
    | zero =>
      intro q x6 x7 o8 o9 e1 hq e7 h8 h9 i1 i2
      have eq : q = na := by omega
      subst eq
      have nl : ¬ x7 < s c1 0 := fun g => by have := (lt_of e7 hna).mp g; omega
      refine t2_Conference_leastNext_7 (d := d + 2) hc1 hc2 a3 a4 a5 x6 x7 h8 h9 ?_ (fun g => absurd g nl)
      intro _
      obtain ⟨p, p1, p2, p3⟩ := C_ex hL
      have b1 := i2 p p1 p2 p3
      have b2 := hba p p2
      refine hB x6 ⟨?_, ?_⟩
      · rcases i1 with h | h
        · rw [h] at b1
          have : (61 : Int32).toInt = 61 := rfl
          omega
        · exact h
      · intro u hu
        obtain ⟨f1, f2, f3, f4⟩ := ff_s wa u (q - x) x
        have hlt := hu.1
        have e := f3 (by omega)
        have := i2 _ f1 hlt (by rw [e]; exact hu)
        rw [e] at this
        exact this
    | succ m ih =>
      intro q x6 x7 o8 o9 e1 hq e7 h8 h9 i1 i2
      have ql : q < na := by omega
      have q10 : q < 10 := Nat.lt_of_lt_of_le ql ha
      have yl : x7 < s c1 0 := (lt_of e7 hna).mpr ql
      have nq := cn_of e7
      have n71 := cn1_of e7 (Nat.lt_trans q10 (by decide))
      have i71 := in1_of e7 (Nat.lt_trans q10 (by decide))
      refine t2_Conference_leastNext_7 (d := d + 2) hc1 hc2 a3 a4 a5 x6 x7 h8 h9 (fun g => absurd yl g) ?_
      intro _
      refine t_Sections_wordAt (d := d + 1) hc1 x7 (fun g => absurd g (ng_of e7)) (fun _ g => absurd yl g) (fun _ _ g => absurd ((lt_of (n := 10) e7 rfl).mpr q10) g) ?_
      intro _ _ _
      rw [nq, hwa q ql]
      refine t2_Conference_leastNext_22 (d := d + 2) hc1 hc2 a3 a4 a5 x6 x7 h8 h9 _ ?_
      refine sp_C_placeFrom (d := d) hc2 nb hnb hb wb hwb y hy a4 (wa q) e4 ?_
      intro r hr
      have KEEP : ¬ ((wa q).toInt < x6.toInt ∧ f_C wa wb na nb x y (wa q)) → ∀ o8 o9 : Option Value, f_n o8 = true → f_n o9 = true → q_W G (d + 2) jm_Conference_leastNext B 7 [some (.ref 123), some (.ref c1), some (.ref c2), some (.int a3), some (.int a4), some (.int a5), some (.int x6), some (.int (x7 + 1)), o8, o9] [] s := by
        intro h o8 o9 g8 g9
        refine ih (q + 1) x6 _ _ _ (by omega) (by omega) i71 g8 g9 i1 (fun k k1 k2 hC => ?_)
        by_cases e : k = q
        · subst e
          by_cases hlt : (wa k).toInt < x6.toInt
          · exact absurd ⟨hlt, hC⟩ h
          · omega
        · exact i2 k k1 (by omega) hC
      obtain ⟨r1, r2, r3, r4⟩ := ff_s wb (wa q) (nb - y) y
      obtain ⟨J, hJ⟩ : ∃ J, ff wb (wa q) (nb - y) y = J := ⟨_, rfl⟩
      rw [hJ] at hr r1 r2 r3 r4
      refine t2_Conference_leastNext_32 (d := d + 2) hc1 hc2 a3 a4 a5 x6 x7 (wa q) h9 r ?_ ?_ ?_ ?_ ?_ ?_
      · intro g
        rw [i_lt] at g
        exact KEEP (fun h => g h.1) _ _ rfl rfl
      · intro _ g
        have hj : ¬ J < nb := fun h => g ((lt_of hr hnb).mpr h)
        exact KEEP (fun h => hj (by have := h.2.2.1; rw [hJ] at this; exact this)) _ _ rfl rfl
      · intro _ _; exact ji_of i71 (by omega)
      · intro _ g
        have hj : J < nb := (lt_of hr hnb).mp g
        exact ji_of (in1_of hr (by omega)) (by omega)
      · intro g1 g2 g3
        have hj : J < nb := (lt_of hr hnb).mp g2
        rw [n71, cn1_of hr (by omega)] at g3
        have tt := T (q + 1) (J + 1) ql hj
        rw [i_lt, tt, e5] at g3
        refine KEEP (fun h => ?_) _ _ rfl rfl
        obtain ⟨f1, f2, f3, f4⟩ := ff_s wa (wa q) (na - x) x
        obtain ⟨c1', c2', c3'⟩ := h.2
        rw [hJ] at c3'
        have fe := f3 (by omega)
        by_cases hp : ff wa (wa q) (na - x) x < q
        · have := i2 _ f1 hp (by rw [fe]; exact h.2)
          rw [fe] at this
          omega
        · have hpq : ff wa (wa q) (na - x) x = q := by
            by_cases h' : q < ff wa (wa q) (na - x) x
            · exact absurd rfl (f4 q hq h')
            · omega
          rw [hpq] at c3'
          omega
      · intro g1 g2 g3
        have hj : J < nb := (lt_of hr hnb).mp g2
        rw [n71, cn1_of hr (by omega)] at g3
        have tt := T (q + 1) (J + 1) ql hj
        rw [i_lt, tt, e5] at g3
        rw [i_lt] at g1
        have hC : f_C wa wb na nb x y (wa q) := C_of hq ql r1 hj (r3 (by omega)).symm (by omega)
        refine ih (q + 1) _ _ _ _ (by omega) (by omega) i71 rfl rfl (Or.inr hC) (fun k k1 k2 hCk => ?_)
        by_cases e : k = q
        · subst e; exact Int.le_refl _
        · have := i2 k k1 (by omega) hCk
          omega
  refine t2_Conference_leastNext (d := d + 2) hc1 hc2 a3 a4 a5 ?_
  exact lp (na - x) x 61 a3 none none (by omega) (Nat.le_refl _) e3 rfl rfl (Or.inl rfl) (fun k h h' => absurd h' (Nat.not_lt_of_ge h))
set_option maxRecDepth 20000 in
theorem sp_C_bring {G : jv_X} {d : Nat} {B : Option Value → jg_H → Prop} {s : jg_H} {c1 c2 : Nat} (hc1 : f_8 c1) (hc2 : f_8 c2) (h1 : c1 < 120) (h2 : c2 < 120) (na nb : Nat) (hna : (s c1 0).toInt = na) (hnb : (s c2 0).toInt = nb) (ha : na ≤ 10) (hb : nb ≤ 10) (wa wb : Nat → Int32) (hwa : ∀ j, j < na → s (c1 + 1) j = wa j) (hwb : ∀ j, j < nb → s (c2 + 1) j = wb j) (hba : ∀ j, j < na → 1 ≤ (wa j).toInt ∧ (wa j).toInt ≤ 60) (hB : ∀ (t : jg_H) (r : Int32), r.toInt = f_L wa wb na nb 0 0 → (∀ k, k < f_L wa wb na nb 0 0 → ∃ x y, f_go wa wb na nb k x y ∧ f_min wa wb na nb x y (t 124 k)) → (∀ c j, ¬ c = 124 → ¬ (126 ≤ c ∧ c < 137) → t c j = s c j) → B (some (.int r)) t) : q_P G (d + 4) 118 [.ref 123, .ref c1, .ref c2] s B := by
  have L10 : f_L wa wb na nb 0 0 ≤ 10 := Nat.le_trans (L_na (na - 0) 0 0 rfl) (by omega)
  have n10 : ∀ {c : Nat} {n : Nat}, (s c 0).toInt = n → n ≤ 10 → s c 0 ≤ 10 := fun h h' => by rw [i_le, h]; have : (10 : Int32).toInt = 10 := rfl; omega
  refine t_Conference_bring (d := d + 3) hc1 hc2 (fun g => absurd (n10 hna ha) g) ?_ (fun _ g => absurd (n10 hnb hb) g)
  intro _ _
  refine sp_C_measure (d := d + 2) hc1 hc2 h1 h2 na nb hna hnb ha hb wa wb hwa hwb ?_
  intro t1 T F
  refine t_Conference_bring_26 (d := d + 3) hc1 hc2 ?_
  have T00 := T 0 0 (Nat.zero_le _) (Nat.zero_le _)
  have lp : ∀ (m k x y : Nat) (x4 x5 x6 : Int32) (o7 : Option Value) (t : jg_H), k + m = f_L wa wb na nb 0 0 → x4.toInt = x → x5.toInt = y → x6.toInt = k → f_n o7 = true → f_go wa wb na nb k x y → (∀ r, r < k → ∃ x y, f_go wa wb na nb r x y ∧ f_min wa wb na nb x y (t 124 r)) → (∀ c j, ¬ c = 124 → t c j = t1 c j) → q_W G (d + 3) jm_Conference_bring B 44 [some (.ref 123), some (.ref c1), some (.ref c2), some (.int (t1 126 0)), some (.int x4), some (.int x5), some (.int x6), o7] [] t := by
    intro m
    induction m with
    | zero =>
      intro k x y x4 x5 x6 o7 t e1 e4 e5 e6 h7 hg hr hf
      have nl : ¬ x6 < t1 126 0 := fun g => by have := (lt_of e6 T00).mp g; omega
      refine t_Conference_bring_44 (d := d + 3) hc1 hc2 (t1 126 0) x4 x5 x6 h7 ?_ (fun g => absurd g nl) (fun g => absurd g nl)
      intro _
      refine hB t _ T00 (fun r h => hr r (by omega)) (fun c j g1 g2 => by rw [hf c j g1]; exact F c j g2)
    | succ m ih =>
      intro k x y x4 x5 x6 o7 t e1 e4 e5 e6 h7 hg hr hf
      have kl : k < f_L wa wb na nb 0 0 := by omega
      have k10 : k < 10 := Nat.lt_of_lt_of_le kl L10
      have yl : x6 < t1 126 0 := (lt_of e6 T00).mpr kl
      obtain ⟨g1, g2, g3⟩ := go_L k x y hg
      have nk := cn_of e6
      refine t_Conference_bring_44 (d := d + 3) hc1 hc2 (t1 126 0) x4 x5 x6 h7 (fun g => absurd yl g) (fun _ g => absurd ((lt_of (n := 10) e6 rfl).mpr k10) g) ?_
      intro _ _
      have q12 : ∀ c, c < 122 → ∀ j, t c j = s c j := fun c hc j => by rw [hf c j (by omega)]; exact F c j (by omega)
      have E5 : ((t1 126 0 - x6) - 1).toInt = (f_L wa wb na nb x y : Int) - 1 := by
        generalize t1 126 0 = Z at *
        clear hB ih hr hf T F hwa hwb hba q12 yl hg nk
        ((try simp only [i_lt, i_le, i_eq, i_in, i_cn, Int32.toInt_add, Int32.toInt_sub, Int32.toInt_mul, Int32.toInt_neg, Int32.reduceToInt, Int.bmod_add_bmod, Int.add_bmod_bmod, Int.bmod_sub_bmod, Int.sub_bmod_bmod, Int.bmod_mul_bmod, Int.mul_bmod_bmod, Int.bmod_neg_bmod, Nat.reducePow, Int.reduceBmod, Int.reduceNeg, Int.reduceMul, Int.reduceAdd, Int.reduceSub, not_true_eq_false, not_false_eq_true] at *) <;> (try simp (disch := omega) only [i_bm'] at *) <;> omega)
      refine sp_C_least (d := d) hc1 hc2 na nb (by rw [q12 c1 (by omega)]; exact hna) (by rw [q12 c2 (by omega)]; exact hnb) ha hb wa wb (fun j hj => by rw [q12 _ (by omega)]; exact hwa j hj) (fun j hj => by rw [q12 _ (by omega)]; exact hwb j hj) hba (fun i j hi hj => by rw [hf _ _ (by omega)]; exact T i j hi hj) x y g2 g3 (by omega) x4 x5 _ e4 e5 E5 ?_
      intro v hv
      refine t_Conference_bring_73 (d := d + 3) hc1 hc2 (t1 126 0) x4 x5 x6 h7 v (ji_of e6 k10) ?_
      intro s1 w1
      rw [nk] at w1
      have f1 : ∀ c, ¬ c = 124 → ∀ j, s1 c j = t c j := fun c h j => by rw [w1]; exact u_c h
      refine sp_C_placeFrom (d := d + 1) hc1 na (by rw [f1 c1 (by omega), q12 c1 (by omega)]; exact hna) ha wa (fun j hj => by rw [f1 _ (by omega), q12 _ (by omega)]; exact hwa j hj) x g2 x4 v e4 ?_
      intro r hr'
      refine t_Conference_bring_92 (d := d + 3) hc1 hc2 (t1 126 0) x4 x5 x6 v r ?_
      refine sp_C_placeFrom (d := d + 1) hc2 nb (by rw [f1 c2 (by omega), q12 c2 (by omega)]; exact hnb) hb wb (fun j hj => by rw [f1 _ (by omega), q12 _ (by omega)]; exact hwb j hj) y g3 x5 v e5 ?_
      intro r2 hr2
      obtain ⟨c1', c2', c3'⟩ := hv.1
      refine t_Conference_bring_104 (d := d + 3) hc1 hc2 (t1 126 0) (r + 1) x5 x6 v r2 ?_
      refine ih (k + 1) (ff wa v (na - x) x + 1) (ff wb v (nb - y) y + 1) _ _ _ _ s1 (by omega) (in1_of hr' (by omega)) (in1_of hr2 (by omega)) (in1_of e6 (by omega)) rfl ⟨x, y, v, hg, hv, rfl, rfl⟩ (fun r hrk => ?_) (fun c j h => by rw [f1 c h]; exact hf c j h)
      by_cases e : r = k
      · subst e
        exact ⟨x, y, hg, by rw [w1, u_hit]; exact hv⟩
      · rw [w1, u_j e]
        exact hr r (by omega)
  exact lp (f_L wa wb na nb 0 0) 0 0 0 0 0 0 none t1 (by omega) (by decide) (by decide) (by decide) rfl ⟨rfl, rfl⟩ (fun r h => absurd h (Nat.not_lt_zero r)) (fun _ _ _ => rfl)
set_option maxRecDepth 20000 in
theorem sp_M_conferred {G : jv_X} {d : Nat} {B : Option Value → jg_H → Prop} {s : jg_H} (a b : Int32) (A C : Nat) (hA : a.toInt = A) (hC : b.toInt = C) (hA8 : A < 8) (hC8 : C < 8) (na nb : Nat) (hna : (s 153 A).toInt = na) (hnb : (s 153 C).toInt = nb) (ha : na ≤ 10) (hb : nb ≤ 10) (wa wb : Nat → Int32) (hwa : ∀ j, j < na → s 154 (10 * A + j) = wa j) (hwb : ∀ j, j < nb → s 154 (10 * C + j) = wb j) (hba : ∀ j, j < na → 1 ≤ (wa j).toInt ∧ (wa j).toInt ≤ 60) (T : ∀ i j, i ≤ na → j ≤ nb → (s 175 (11 * i + j)).toInt = f_L wa wb na nb i j) (i : Int32) (I : Nat) (hi : i.toInt = I) (hI : I < f_L wa wb na nb 0 0) (hB : ∀ v : Int32, (∃ x y, f_go wa wb na nb I x y ∧ f_min wa wb na nb x y v) → B (some (.int v)) s) : q_W G (d + 3) jm_M_conferred B 60 [some (.ref 146), some (.int a), some (.int b), some (.int i), some (.int 0), some (.int 0), some (.int 0), some (.int 0), none, none, none, none, none] [] s := by
  have L10 : f_L wa wb na nb 0 0 ≤ 10 := Nat.le_trans (L_na (na - 0) 0 0 rfl) (by omega)
  have nA := cn_of hA
  have nC := cn_of hC
  have sA : s 153 a.toNatClampNeg = s 153 A := by rw [nA]
  have sC : s 153 b.toNatClampNeg = s 153 C := by rw [nC]
  have lp : ∀ (m k x y : Nat) (x4 x5 x6 x7 : Int32) (o8 o9 o10 o11 o12 : Option Value), k + m = I + 1 → x4.toInt = x → x5.toInt = y → x7.toInt = k → f_n o8 = true → f_n o9 = true → f_n o10 = true → f_n o11 = true → f_n o12 = true → f_go wa wb na nb k x y → (0 < k → ∃ x y, f_go wa wb na nb (k - 1) x y ∧ f_min wa wb na nb x y x6) → q_W G (d + 3) jm_M_conferred B 60 [some (.ref 146), some (.int a), some (.int b), some (.int i), some (.int x4), some (.int x5), some (.int x6), some (.int x7), o8, o9, o10, o11, o12] [] s := by
    intro m
    induction m with
    | zero =>
      intro k x y x4 x5 x6 x7 o8 o9 o10 o11 o12 e1 e4 e5 e7 h8 h9 h10 h11 h12 hg hr
      have nl : ¬ x7 ≤ i := fun g => by rw [i_le, e7, hi] at g; omega
      refine t_M_conferred_60 (d := d + 1) a b i x4 x5 x6 x7 h8 h9 h10 h11 h12 ?_ (fun g => absurd g nl) (fun g => absurd g nl)
      intro _
      refine hB x6 ?_
      have := hr (by omega)
      rw [show k - 1 = I by omega] at this
      exact this
    | succ m ih =>
      intro k x y x4 x5 x6 x7 o8 o9 o10 o11 o12 e1 e4 e5 e7 h8 h9 h10 h11 h12 hg hr
      have kI : k ≤ I := by omega
      have yl : x7 ≤ i := by rw [i_le, e7, hi]; omega
      obtain ⟨g1, g2, g3⟩ := go_L k x y hg
      obtain ⟨y1, y2, y3, y4⟩ := x11_of e4 e5 (Nat.le_trans g2 ha) (Nat.le_trans g3 hb)
      have hL : 0 < f_L wa wb na nb x y := by omega
      have Txy := T x y g2 g3
      refine t_M_conferred_60 (d := d + 1) a b i x4 x5 x6 x7 h8 h9 h10 h11 h12 (fun g => absurd yl g) (fun _ => ji_of y1 (by clear y1 y2 y3 y4; omega)) ?_
      intro _
      rw [cn_of y1]
      -- the words are tried one by one
      have INNER : ∀ (mm v : Nat) (x6 x10 : Int32) (o11 o12 : Option Value), v + mm = 61 → 1 ≤ v → x10.toInt = v → f_n o11 = true → f_n o12 = true → (∀ u : Int32, f_C wa wb na nb x y u → (v : Int) ≤ u.toInt) → q_W G (d + 3) jm_M_conferred B 87 [some (.ref 146), some (.int a), some (.int b), some (.int i), some (.int x4), some (.int x5), some (.int x6), some (.int x7), some (.int (s 175 (11 * x + y))), some (.int 0), some (.int x10), o11, o12] [] s := by
        intro mm
        induction mm with
        | zero =>
          intro v x6 x10 o11 o12 f1 f2 f10 h11 h12 hu
          exfalso
          obtain ⟨p, p1, p2, p3⟩ := C_ex hL
          have := hu _ p3
          have := hba p p2
          omega
        | succ mm ihh =>
          intro v x6 x10 o11 o12 f1 f2 f10 h11 h12 hu
          have yv : x10 ≤ 60 := by rw [i_le, f10]; have : (60 : Int32).toInt = 60 := rfl; omega
          have v10 := in1_of f10 (by omega)
          refine t_M_conferred_87 (d := d + 1) a b i x4 x5 x6 x7 _ 0 x10 h11 h12 (fun g => absurd yv g) (fun _ g => absurd rfl g) ?_
          intro _ _
          refine sp_M_nextOf (d := d + 2) a A hA hA8 na hna ha wa hwa x g2 x4 x10 e4 ?_
          intro r hr1
          refine t_M_conferred_108 (d := d + 1) a b i x4 x5 x6 x7 _ 0 x10 h11 h12 r ?_
          refine sp_M_nextOf (d := d + 2) b C hC hC8 nb hnb hb wb hwb y g3 x5 x10 e5 ?_
          intro r2 hr2
          have NEXT : ¬ f_C wa wb na nb x y x10 → ∀ o11 o12 : Option Value, f_n o11 = true → f_n o12 = true → q_W G (d + 3) jm_M_conferred B 87 [some (.ref 146), some (.int a), some (.int b), some (.int i), some (.int x4), some (.int x5), some (.int x10), some (.int x7), some (.int (s 175 (11 * x + y))), some (.int 0), some (.int (x10 + 1)), o11, o12] [] s := by
            intro hn o11 o12 q11 q12
            refine ihh (v + 1) _ _ _ _ (by omega) (by omega) v10 q11 q12 (fun u hC' => ?_)
            have h1 := hu u hC'
            by_cases e : u.toInt = v
            · have : u = x10 := Int32.toInt_inj.mp (by rw [e, f10])
              rw [this] at hC'
              exact absurd hC' hn
            · omega
          obtain ⟨P, hP⟩ : ∃ P, ff wa x10 (na - x) x = P := ⟨_, rfl⟩
          obtain ⟨Q, hQ⟩ : ∃ Q, ff wb x10 (nb - y) y = Q := ⟨_, rfl⟩
          rw [hP] at hr1
          rw [hQ] at hr2
          have EA : r < s 153 a.toNatClampNeg ↔ P < na := by rw [sA]; exact lt_of hr1 hna
          have EC : r2 < s 153 b.toNatClampNeg ↔ Q < nb := by rw [sC]; exact lt_of hr2 hnb
          have TT : P < na → Q < nb → jv_in (((11 * (r + 1)) + r2) + 1) 121 = true ∧ (1 + (s 175 (((11 * (r + 1)) + r2) + 1).toNatClampNeg)).toInt = ((f_L wa wb na nb (P + 1) (Q + 1) + 1 : Nat) : Int) := by
            intro hp hq
            obtain ⟨z1, z2, z3, z4⟩ := x11_of hr1 hr2 (by omega) (by omega)
            have b1 := L_na (wa := wa) (wb := wb) (na := na) (nb := nb) _ (P + 1) (Q + 1) rfl
            refine ⟨ji_of z4 (by clear z1 z2 z3 z4; omega), ?_⟩
            rw [cn_of z4]
            exact one_of (T (P + 1) (Q + 1) hp hq) (by omega)
          refine t_M_conferred_119 (d := d + 1) a b i x4 x5 x6 x7 _ 0 x10 r h12 r2 (ji_of hA hA8) ?_ (fun _ => ji_of hC hC8) ?_ (fun g g' => (TT (EA.mp g) (EC.mp g')).1) ?_ ?_
          · intro g
            exact NEXT (fun h => g (EA.mpr (by have := h.1; rw [hP] at this; exact this))) _ _ rfl rfl
          · intro _ g
            exact NEXT (fun h => g (EC.mpr (by have := h.2.1; rw [hQ] at this; exact this))) _ _ rfl rfl
          · intro g g' ge
            refine NEXT (fun h => ge (Int32.toInt_inj.mp ?_)) _ _ rfl rfl
            have := h.2.2
            rw [hP, hQ] at this
            rw [(TT (EA.mp g) (EC.mp g')).2, Txy, this]
          · intro g g' ge
            have hp := EA.mp g
            have hq := EC.mp g'
            have e := congrArg Int32.toInt ge
            rw [(TT hp hq).2, Txy] at e
            have hCv : f_C wa wb na nb x y x10 := ⟨by rw [hP]; exact hp, by rw [hQ]; exact hq, by rw [hP, hQ]; omega⟩
            have hmin : f_min wa wb na nb x y x10 := ⟨hCv, fun u hu' => by rw [f10]; exact hu u hu'⟩
            -- found: the loop ends
            have DONE : ∀ (o11 o12 : Option Value), f_n o11 = true → f_n o12 = true → q_P G (d + 3) 213 [.ref 146, .int a, .int x4, .int x10] s (fun v t => q_W G (d + 3) jm_M_conferred B 193 [some (.ref 146), some (.int a), some (.int b), some (.int i), some (.int x4), some (.int x5), some (.int x10), some (.int x7), some (.int (s 175 (11 * x + y))), some (.int 1), some (.int (x10 + 1)), o11, o12] (v.toList ++ []) t) := by
              intro o11 o12 q11 q12
              refine sp_M_nextOf (d := d + 2) a A hA hA8 na hna ha wa hwa x g2 x4 x10 e4 ?_
              intro r3 hr3
              refine t_M_conferred_193 (d := d + 1) a b i x4 x5 x10 x7 _ 1 _ q11 q12 r3 ?_
              refine sp_M_nextOf (d := d + 2) b C hC hC8 nb hnb hb wb hwb y g3 x5 x10 e5 ?_
              intro r4 hr4
              refine t_M_conferred_206 (d := d + 1) a b i (r3 + 1) x5 x10 x7 _ 1 _ q11 q12 r4 ?_
              rw [hP] at hr3
              rw [hQ] at hr4
              refine ih (k + 1) (P + 1) (Q + 1) _ _ _ _ _ _ _ _ _ (by omega) (in1_of hr3 (by omega)) (in1_of hr4 (by omega)) (in1_of e7 (by omega)) rfl rfl rfl q11 q12 ⟨x, y, x10, hg, hmin, by rw [hP], by rw [hQ]⟩ (fun _ => ⟨x, y, hg, hmin⟩)
            exact t_M_conferred_87 (d := d + 1) a b i x4 x5 x10 x7 _ 1 _ rfl rfl (fun _ => DONE _ _ rfl rfl) (fun _ _ => DONE _ _ rfl rfl) (fun _ g => absurd g (by decide))
      refine INNER 60 1 x6 1 _ _ (by decide) (Nat.le_refl _) (by decide) h11 h12 (fun u hC' => ?_)
      obtain ⟨f1, f2, f3, f4⟩ := ff_s wa u (na - x) x
      have e := f3 (by have := hC'.1; omega)
      have := hba _ hC'.1
      rw [e] at this
      exact this.1
  exact lp (I + 1) 0 0 0 0 0 0 0 none none none none none (by omega) (by decide) (by decide) (by decide) rfl rfl rfl rfl rfl ⟨rfl, rfl⟩ (fun h => absurd h (Nat.lt_irrefl 0))
