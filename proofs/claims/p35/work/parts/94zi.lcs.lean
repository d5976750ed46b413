/-! two rows brought to one: the longest that both have -/
def lc (wa wb : Nat → Int32) (na nb : Nat) : Nat → Nat → Nat
  | 0 => fun _ => 0
  | p + 1 => fun q => Nat.rec 0 (fun q' r => if wa (na - (p + 1)) = wb (nb - (q' + 1)) then lc wa wb na nb p q' + 1 else max (lc wa wb na nb p (q' + 1)) r) q
def f_L (wa wb : Nat → Int32) (na nb i j : Nat) : Nat := lc wa wb na nb (na - i) (nb - j)
theorem L_e {wa wb : Nat → Int32} {na nb i j : Nat} (h : na ≤ i ∨ nb ≤ j) : f_L wa wb na nb i j = 0 := by
  unfold f_L
  rcases h with h | h
  · rw [show na - i = 0 by omega]; rfl
  · rw [show nb - j = 0 by omega]
    cases na - i <;> rfl
theorem L_s {wa wb : Nat → Int32} {na nb i j : Nat} (hi : i < na) (hj : j < nb) : f_L wa wb na nb i j = if wa i = wb j then f_L wa wb na nb (i + 1) (j + 1) + 1 else max (f_L wa wb na nb (i + 1) j) (f_L wa wb na nb i (j + 1)) := by
  unfold f_L
  obtain ⟨p, hp⟩ : ∃ p, na - i = p + 1 := ⟨na - i - 1, by omega⟩
  obtain ⟨q, hq⟩ : ∃ q, nb - j = q + 1 := ⟨nb - j - 1, by omega⟩
  have e1 : na - (i + 1) = p := by omega
  have e2 : nb - (j + 1) = q := by omega
  have e3 : na - (p + 1) = i := by omega
  have e4 : nb - (q + 1) = j := by omega
  rw [hp, hq, e1, e2]
  show (if wa (na - (p + 1)) = wb (nb - (q + 1)) then lc wa wb na nb p q + 1 else max (lc wa wb na nb p (q + 1)) (lc wa wb na nb (p + 1) q)) = _
  rw [e3, e4]
theorem L_m (wa wb : Nat → Int32) (na nb : Nat) : ∀ (k i j : Nat), (na - i) + (nb - j) ≤ k → f_L wa wb na nb (i + 1) j ≤ f_L wa wb na nb i j ∧ f_L wa wb na nb i (j + 1) ≤ f_L wa wb na nb i j ∧ f_L wa wb na nb i j ≤ f_L wa wb na nb (i + 1) j + 1 ∧ f_L wa wb na nb i j ≤ f_L wa wb na nb i (j + 1) + 1 := by
  intro k
  induction k with
  | zero =>
    intro i j h
    rw [L_e (i := i) (j := j) (by omega), L_e (i := i + 1) (j := j) (by omega), L_e (i := i) (j := j + 1) (by omega)]
    omega
  | succ k ih =>
    intro i j h
    by_cases hi : i < na
    · by_cases hj : j < nb
      · obtain ⟨a1, a2, a3, a4⟩ := ih (i + 1) j (by omega)
        obtain ⟨b1, b2, b3, b4⟩ := ih i (j + 1) (by omega)
        rw [L_s hi hj]
        split
        · omega
        · omega
      · rw [L_e (i := i) (j := j) (by omega), L_e (i := i + 1) (j := j) (by omega), L_e (i := i) (j := j + 1) (by omega)]
        omega
    · rw [L_e (i := i) (j := j) (by omega), L_e (i := i + 1) (j := j) (by omega), L_e (i := i) (j := j + 1) (by omega)]
      omega
theorem L_mono {wa wb : Nat → Int32} {na nb : Nat} : ∀ (a b i j : Nat), f_L wa wb na nb (i + a) (j + b) ≤ f_L wa wb na nb i j
  | 0, 0, i, j => Nat.le_refl _
  | 0, b + 1, i, j => by
    have h1 := L_mono (wa := wa) (wb := wb) (na := na) (nb := nb) 0 b i (j + 1)
    have h2 := (L_m wa wb na nb _ i j (Nat.le_refl _)).2.1
    rw [show j + 1 + b = j + (b + 1) by omega] at h1
    omega
  | a + 1, b, i, j => by
    have h1 := L_mono (wa := wa) (wb := wb) (na := na) (nb := nb) a b (i + 1) j
    have h2 := (L_m wa wb na nb _ i j (Nat.le_refl _)).1
    rw [show i + 1 + a = i + (a + 1) by omega] at h1
    omega
theorem L_le {wa wb : Nat → Int32} {na nb i j p q : Nat} (h : i ≤ p) (h' : j ≤ q) : f_L wa wb na nb p q ≤ f_L wa wb na nb i j := by
  have := L_mono (wa := wa) (wb := wb) (na := na) (nb := nb) (p - i) (q - j) i j
  rw [show i + (p - i) = p by omega, show j + (q - j) = q by omega] at this
  exact this
theorem L_na {wa wb : Nat → Int32} {na nb : Nat} : ∀ (k i j : Nat), na - i = k → f_L wa wb na nb i j ≤ k
  | 0, i, j, h => by rw [L_e (by omega)]; omega
  | k + 1, i, j, h => by
    have h1 := L_na (wa := wa) (wb := wb) (na := na) (nb := nb) k (i + 1) j (by omega)
    have h2 := (L_m wa wb na nb _ i j (Nat.le_refl _)).2.2.1
    omega
theorem L_d {wa wb : Nat → Int32} {na nb i j p q : Nat} (h : i ≤ p) (h' : j ≤ q) (hp : p < na) (hq : q < nb) (he : wa p = wb q) : f_L wa wb na nb (p + 1) (q + 1) + 1 ≤ f_L wa wb na nb i j := by
  have h1 := L_le (wa := wa) (wb := wb) (na := na) (nb := nb) h h'
  rw [L_s hp hq, if_pos he] at h1
  exact h1
theorem L_x {wa wb : Nat → Int32} {na nb : Nat} : ∀ (k i j : Nat), (na - i) + (nb - j) ≤ k → 0 < f_L wa wb na nb i j → ∃ p q, i ≤ p ∧ p < na ∧ j ≤ q ∧ q < nb ∧ wa p = wb q ∧ f_L wa wb na nb (p + 1) (q + 1) + 1 = f_L wa wb na nb i j := by
  intro k
  induction k with
  | zero => intro i j h h0; rw [L_e (by omega)] at h0; exact absurd h0 (Nat.lt_irrefl 0)
  | succ k ih =>
    intro i j h h0
    by_cases hi : i < na
    · by_cases hj : j < nb
      · by_cases he : wa i = wb j
        · exact ⟨i, j, Nat.le_refl _, hi, Nat.le_refl _, hj, he, by rw [L_s hi hj, if_pos he]⟩
        · have e := L_s (wa := wa) (wb := wb) hi hj
          rw [if_neg he] at e
          by_cases hm : f_L wa wb na nb i (j + 1) ≤ f_L wa wb na nb (i + 1) j
          · have e' : f_L wa wb na nb i j = f_L wa wb na nb (i + 1) j := by omega
            obtain ⟨p, q, h1, h2, h3, h4, h5, h6⟩ := ih (i + 1) j (by omega) (by omega)
            exact ⟨p, q, by omega, h2, h3, h4, h5, by omega⟩
          · have e' : f_L wa wb na nb i j = f_L wa wb na nb i (j + 1) := by omega
            obtain ⟨p, q, h1, h2, h3, h4, h5, h6⟩ := ih i (j + 1) (by omega) (by omega)
            exact ⟨p, q, h1, h2, by omega, h4, h5, by omega⟩
      · rw [L_e (by omega)] at h0; exact absurd h0 (Nat.lt_irrefl 0)
    · rw [L_e (by omega)] at h0; exact absurd h0 (Nat.lt_irrefl 0)
/-- the first place of a word, from one on -/
def ff (w : Nat → Int32) (v : Int32) : Nat → Nat → Nat
  | 0, k => k
  | m + 1, k => if w k = v then k else ff w v m (k + 1)
theorem ff_s (w : Nat → Int32) (v : Int32) : ∀ (m k : Nat), k ≤ ff w v m k ∧ ff w v m k ≤ k + m ∧ (ff w v m k < k + m → w (ff w v m k) = v) ∧ ∀ x, k ≤ x → x < ff w v m k → ¬ w x = v
  | 0, k => ⟨Nat.le_refl _, Nat.le_refl _, fun h => absurd h (Nat.lt_irrefl k), fun x h h' => absurd h' (by show ¬ x < k; omega)⟩
  | m + 1, k => by
    unfold ff
    by_cases h : w k = v
    · rw [if_pos h]
      exact ⟨Nat.le_refl _, by omega, fun _ => h, fun x h1 h2 => by omega⟩
    · rw [if_neg h]
      obtain ⟨a, b, c, d⟩ := ff_s w v m (k + 1)
      refine ⟨by omega, by omega, fun h' => c (by omega), fun x h1 h2 => ?_⟩
      by_cases e : x = k
      · rw [e]; exact h
      · exact d x (by omega) h2
/-- a word with which the longest row can go on -/
def f_C (wa wb : Nat → Int32) (na nb x y : Nat) (v : Int32) : Prop := ff wa v (na - x) x < na ∧ ff wb v (nb - y) y < nb ∧ f_L wa wb na nb (ff wa v (na - x) x + 1) (ff wb v (nb - y) y + 1) + 1 = f_L wa wb na nb x y
theorem C_of {wa wb : Nat → Int32} {na nb x y p q : Nat} (hx : x ≤ p) (hp : p < na) (hy : y ≤ q) (hq : q < nb) (he : wa p = wb q) (hl : f_L wa wb na nb x y ≤ f_L wa wb na nb (p + 1) (q + 1) + 1) : f_C wa wb na nb x y (wa p) := by
  obtain ⟨a1, a2, a3, a4⟩ := ff_s wa (wa p) (na - x) x
  obtain ⟨b1, b2, b3, b4⟩ := ff_s wb (wa p) (nb - y) y
  have h1 : ff wa (wa p) (na - x) x ≤ p := by
    by_cases h : ff wa (wa p) (na - x) x ≤ p
    · exact h
    · exact absurd rfl (a4 p hx (by omega))
  have h2 : ff wb (wa p) (nb - y) y ≤ q := by
    by_cases h : ff wb (wa p) (nb - y) y ≤ q
    · exact h
    · exact absurd he.symm (b4 q hy (by omega))
  have e1 := a3 (by omega)
  have e2 := b3 (by omega)
  refine ⟨by omega, by omega, ?_⟩
  have u1 := L_d (wa := wa) (wb := wb) (na := na) (nb := nb) a1 b1 (by omega) (by omega) (e1.trans e2.symm)
  have u2 := L_le (wa := wa) (wb := wb) (na := na) (nb := nb) (i := ff wa (wa p) (na - x) x + 1) (j := ff wb (wa p) (nb - y) y + 1) (p := p + 1) (q := q + 1) (by omega) (by omega)
  omega
theorem C_ex {wa wb : Nat → Int32} {na nb x y : Nat} (h : 0 < f_L wa wb na nb x y) : ∃ p, x ≤ p ∧ p < na ∧ f_C wa wb na nb x y (wa p) := by
  obtain ⟨p, q, h1, h2, h3, h4, h5, h6⟩ := L_x _ x y (Nat.le_refl _) h
  exact ⟨p, h1, h2, C_of h1 h2 h3 h4 h5 (by omega)⟩
/-- the least such word -/
def f_min (wa wb : Nat → Int32) (na nb x y : Nat) (v : Int32) : Prop := f_C wa wb na nb x y v ∧ ∀ u, f_C wa wb na nb x y u → v.toInt ≤ u.toInt
theorem min_u {wa wb : Nat → Int32} {na nb x y : Nat} {v u : Int32} (h : f_min wa wb na nb x y v) (h' : f_min wa wb na nb x y u) : v = u := Int32.toInt_inj.mp (by have := h.2 u h'.1; have := h'.2 v h.1; omega)
/-- how the two rows are gone through: k words are taken, and the rests begin at x and y -/
def f_go (wa wb : Nat → Int32) (na nb : Nat) : Nat → Nat → Nat → Prop
  | 0, x, y => x = 0 ∧ y = 0
  | k + 1, x, y => ∃ x' y' v, f_go wa wb na nb k x' y' ∧ f_min wa wb na nb x' y' v ∧ x = ff wa v (na - x') x' + 1 ∧ y = ff wb v (nb - y') y' + 1
theorem go_u {wa wb : Nat → Int32} {na nb : Nat} : ∀ (k x y x' y' : Nat), f_go wa wb na nb k x y → f_go wa wb na nb k x' y' → x = x' ∧ y = y'
  | 0, x, y, x', y', h, h' => ⟨h.1.trans h'.1.symm, h.2.trans h'.2.symm⟩
  | k + 1, x, y, x', y', h, h' => by
    obtain ⟨a, b, v, h1, h2, h3, h4⟩ := h
    obtain ⟨a', b', v', h1', h2', h3', h4'⟩ := h'
    obtain ⟨e1, e2⟩ := go_u k _ _ _ _ h1 h1'
    subst e1
    subst e2
    have e3 := min_u h2 h2'
    subst e3
    exact ⟨h3.trans h3'.symm, h4.trans h4'.symm⟩
theorem go_L {wa wb : Nat → Int32} {na nb : Nat} : ∀ (k x y : Nat), f_go wa wb na nb k x y → f_L wa wb na nb x y + k = f_L wa wb na nb 0 0 ∧ x ≤ na ∧ y ≤ nb
  | 0, x, y, h => by rw [h.1, h.2]; exact ⟨rfl, Nat.zero_le _, Nat.zero_le _⟩
  | k + 1, x, y, h => by
    obtain ⟨a, b, v, h1, h2, h3, h4⟩ := h
    obtain ⟨e1, e2, e3⟩ := go_L k _ _ h1
    obtain ⟨c1, c2, c3⟩ := h2.1
    rw [← h3, ← h4] at c3
    refine ⟨by omega, by omega, by omega⟩
/-! the class measures -/
theorem ji_of {x : Int32} {m l : Nat} (h : x.toInt = m) (hl : m < l) : jv_in x l = true := by rw [i_in]; omega
theorem cn_of {x : Int32} {m : Nat} (h : x.toInt = m) : x.toNatClampNeg = m := by rw [i_cn]; omega
theorem cn1_of {x : Int32} {m : Nat} (h : x.toInt = m) (hm : m < 1000) : (x + 1).toNatClampNeg = m + 1 := by (try simp only [i_lt, i_le, i_eq, i_in, i_cn, Int32.toInt_add, Int32.toInt_sub, Int32.toInt_mul, Int32.toInt_neg, Int32.reduceToInt, Int.bmod_add_bmod, Int.add_bmod_bmod, Int.bmod_sub_bmod, Int.sub_bmod_bmod, Int.bmod_mul_bmod, Int.mul_bmod_bmod, Int.bmod_neg_bmod, Nat.reducePow, Int.reduceBmod, Int.reduceNeg, Int.reduceMul, Int.reduceAdd, Int.reduceSub, not_true_eq_false, not_false_eq_true] at *) <;> (try simp (disch := omega) only [i_bm'] at *); omega
theorem in1_of {x : Int32} {m : Nat} (h : x.toInt = m) (hm : m < 1000) : (x + 1).toInt = ((m + 1 : Nat) : Int) := by ((try simp only [i_lt, i_le, i_eq, i_in, i_cn, Int32.toInt_add, Int32.toInt_sub, Int32.toInt_mul, Int32.toInt_neg, Int32.reduceToInt, Int.bmod_add_bmod, Int.add_bmod_bmod, Int.bmod_sub_bmod, Int.sub_bmod_bmod, Int.bmod_mul_bmod, Int.mul_bmod_bmod, Int.bmod_neg_bmod, Nat.reducePow, Int.reduceBmod, Int.reduceNeg, Int.reduceMul, Int.reduceAdd, Int.reduceSub, not_true_eq_false, not_false_eq_true] at *) <;> (try simp (disch := omega) only [i_bm'] at *) <;> omega)
theorem de_of {x : Int32} {m : Nat} (h : x.toInt = m) (hm : m < 1000) : (x + (-1)).toInt = (m : Int) - 1 := by ((try simp only [i_lt, i_le, i_eq, i_in, i_cn, Int32.toInt_add, Int32.toInt_sub, Int32.toInt_mul, Int32.toInt_neg, Int32.reduceToInt, Int.bmod_add_bmod, Int.add_bmod_bmod, Int.bmod_sub_bmod, Int.sub_bmod_bmod, Int.bmod_mul_bmod, Int.mul_bmod_bmod, Int.bmod_neg_bmod, Nat.reducePow, Int.reduceBmod, Int.reduceNeg, Int.reduceMul, Int.reduceAdd, Int.reduceSub, not_true_eq_false, not_false_eq_true] at *) <;> (try simp (disch := omega) only [i_bm'] at *) <;> omega)
theorem ng_of {x : Int32} {m : Nat} (h : x.toInt = m) : ¬ x < 0 := by rw [i_lt, h]; have : (0 : Int32).toInt = 0 := rfl; omega
theorem eq_of {x y : Int32} {m n : Nat} (h : x.toInt = m) (h' : y.toInt = n) : x = y ↔ m = n := by rw [i_eq, h, h']; omega
theorem mx_of {x y : Int32} {m n : Nat} (h : x.toInt = m) (h' : y.toInt = n) : (if x < y then y else x).toInt = ((max m n : Nat) : Int) := by
  by_cases g : x < y
  · rw [if_pos g]; rw [i_lt] at g; omega
  · rw [if_neg g]; rw [i_lt] at g; omega
theorem lt_of {x y : Int32} {m n : Nat} (h : x.toInt = m) (h' : y.toInt = n) : x < y ↔ m < n := by rw [i_lt, h, h']; omega
set_option maxRecDepth 20000 in
theorem sp_C_measure_i {G : jv_X} {d : Nat} {B : Option Value → jg_H → Prop} {s : jg_H} {c1 c2 : Nat} (hc1 : f_8 c1) (hc2 : f_8 c2) (h1 : c1 < 120) (h2 : c2 < 120) (na nb : Nat) (hna : (s c1 0).toInt = na) (hnb : (s c2 0).toInt = nb) (ha : na ≤ 10) (hb : nb ≤ 10) (wa wb : Nat → Int32) (hwa : ∀ j, j < na → s (c1 + 1) j = wa j) (hwb : ∀ j, j < nb → s (c2 + 1) j = wb j) (i0 : Nat) (hi0 : i0 ≤ na) (x3 : Int32) (e3 : x3.toInt = i0) (NX : ∀ (t : jg_H) (x4 : Int32), (∀ i j, i0 ≤ i → i ≤ na → j ≤ nb → (t (126 + i) j).toInt = f_L wa wb na nb i j) → (∀ c j, ¬ (126 ≤ c ∧ c < 137) → t c j = s c j) → q_W G d jm_Conference_measure B 5 [some (.ref 123), some (.ref c1), some (.ref c2), some (.int (x3 + (-1))), some (.int x4)] [] t) : ∀ (m : Nat) (x4 : Int32) (t : jg_H), x4.toInt = (m : Int) - 1 → m ≤ nb + 1 → (∀ i j, i0 < i → i ≤ na → j ≤ nb → (t (126 + i) j).toInt = f_L wa wb na nb i j) → (∀ j, m ≤ j → j ≤ nb → (t (126 + i0) j).toInt = f_L wa wb na nb i0 j) → (∀ c j, ¬ (126 ≤ c ∧ c < 137) → t c j = s c j) → q_W G d jm_Conference_measure B 15 [some (.ref 123), some (.ref c1), some (.ref c2), some (.int x3), some (.int x4)] [] t := by
  intro m
  have i11 : i0 < 11 := by omega
  have j3 : jv_in x3 11 = true := ji_of e3 i11
  have n3 : x3.toNatClampNeg = i0 := cn_of e3
  have n31 : (x3 + 1).toNatClampNeg = i0 + 1 := cn1_of e3 (by omega)
  have ix3 : (x3 + 1).toInt = ((i0 + 1 : Nat) : Int) := in1_of e3 (by omega)
  have p1 : ∀ i, i < 11 → 126 ≤ 126 + i ∧ 126 + i < 137 := fun i hi => by omega
  have q1 : ∀ c, c < 121 → ¬ (126 ≤ c ∧ c < 137) := fun c hc h => by omega
  have ai : ¬ i0 = na → i0 < na := fun h => by omega
  induction m with
  | zero =>
    intro x4 t e4 hm hd hr hf
    have neg : x4 < 0 := by rw [i_lt, e4]; have : (0 : Int32).toInt = 0 := rfl; omega
    refine t_Conference_measure_15 (d := d) hc1 hc2 x3 x4 ?_ (fun g => absurd neg g) (fun g => absurd neg g) (fun g => absurd neg g) (fun g => absurd neg g) (fun g => absurd neg g) (fun g => absurd neg g) (fun g => absurd neg g) (fun g => absurd neg g) (fun g => absurd neg g) (fun g => absurd neg g) (fun g => absurd neg g) (fun g => absurd neg g) (fun g => absurd neg g) (fun g => absurd neg g) (fun g => absurd neg g) (fun g => absurd neg g) (fun g => absurd neg g) (fun g => absurd neg g) (fun g => absurd neg g) (fun g => absurd neg g)
    intro _
    refine NX t x4 (fun i j h h' h'' => ?_) hf
    by_cases e : i = i0
    · rw [e]; exact hr j (Nat.zero_le _) h''
    · exact hd i j (Nat.lt_of_le_of_ne h (Ne.symm e)) h' h''
  | succ m ih =>
    intro x4 t e4 hm hd hr hf
    have hmb : m ≤ nb := Nat.le_of_succ_le_succ hm
    have m11 : m < 11 := Nat.lt_of_le_of_lt hmb (Nat.lt_succ_of_le hb)
    have hx4 : x4.toInt = m := by rw [e4]; clear ih hd hr hf NX p1 q1 ai; omega
    have n4 : x4.toNatClampNeg = m := cn_of hx4
    have n41 : (x4 + 1).toNatClampNeg = m + 1 := cn1_of hx4 (Nat.lt_trans m11 (by decide))
    have ix4 : (x4 + 1).toInt = ((m + 1 : Nat) : Int) := in1_of hx4 (Nat.lt_trans m11 (by decide))
    have e4' : (x4 + (-1)).toInt = (m : Int) - 1 := de_of hx4 (Nat.lt_trans m11 (by decide))
    have t1 : t c1 0 = s c1 0 := hf c1 0 (q1 c1 (Nat.lt_trans h1 (by decide)))
    have t2 : t c2 0 = s c2 0 := hf c2 0 (q1 c2 (Nat.lt_trans h2 (by decide)))
    have j4 : jv_in x4 11 = true := ji_of hx4 m11
    have E3 : x3 = t c1 0 ↔ i0 = na := by rw [t1]; exact eq_of e3 hna
    have E4 : x4 = t c2 0 ↔ m = nb := by rw [t2]; exact eq_of hx4 hnb
    have am : ¬ m = nb → m < nb := fun h => Nat.lt_of_le_of_ne hmb h
    have SET : ∀ v : Int32, v.toInt = f_L wa wb na nb i0 m → ∀ s1 : jg_H, s1 = jg_up t (126 + i0) m v → q_W G d jm_Conference_measure B 15 [some (.ref 123), some (.ref c1), some (.ref c2), some (.int x3), some (.int (x4 + (-1)))] [] s1 := by
      intro v hv s1 e1
      subst e1
      refine ih _ _ e4' (Nat.le_of_succ_le hm) (fun i j h h' h'' => ?_) (fun j h h' => ?_) (fun c j h => ?_)
      · rw [u_c (fun e => by have := Nat.add_left_cancel e; omega)]; exact hd i j h h' h''
      · by_cases e : j = m
        · rw [e, u_hit]; exact hv
        · rw [u_j e]; exact hr j (Nat.lt_of_le_of_ne h (Ne.symm e)) h'
      · rw [u_c (fun e => h (by rw [e]; exact p1 i0 i11))]; exact hf c j h
    have W1 : ¬ i0 = na → t (c1 + 1) i0 = wa i0 := fun h => by rw [hf _ _ (q1 _ (Nat.succ_lt_succ h1))]; exact hwa _ (ai h)
    have W2 : ¬ m = nb → t (c2 + 1) m = wb m := fun h => by rw [hf _ _ (q1 _ (Nat.succ_lt_succ h2))]; exact hwb _ (am h)
    have J3 : ¬ i0 = na → jv_in x3 10 = true ∧ jv_in (x3 + 1) 11 = true := fun h => ⟨ji_of e3 (Nat.lt_of_lt_of_le (ai h) ha), ji_of ix3 (Nat.succ_lt_succ (Nat.lt_of_lt_of_le (ai h) ha))⟩
    have J4 : ¬ m = nb → jv_in x4 10 = true ∧ jv_in (x4 + 1) 11 = true := fun h => ⟨ji_of hx4 (Nat.lt_of_lt_of_le (am h) hb), ji_of ix4 (Nat.succ_lt_succ (Nat.lt_of_lt_of_le (am h) hb))⟩
    have V1 : ¬ i0 = na → ∀ j, j ≤ nb → (t (126 + (i0 + 1)) j).toInt = f_L wa wb na nb (i0 + 1) j := fun h j hj => hd (i0 + 1) j (Nat.lt_succ_self _) (ai h) hj
    have V2 : ¬ m = nb → (t (126 + i0) (m + 1)).toInt = f_L wa wb na nb i0 (m + 1) := fun h => hr (m + 1) (Nat.le_refl _) (am h)
    have S : ¬ i0 = na → ¬ m = nb → f_L wa wb na nb i0 m = if wa i0 = wb m then f_L wa wb na nb (i0 + 1) (m + 1) + 1 else max (f_L wa wb na nb (i0 + 1) m) (f_L wa wb na nb i0 (m + 1)) := fun h h' => L_s (ai h) (am h')
    have Z : i0 = na ∨ m = nb → (0 : Int32).toInt = f_L wa wb na nb i0 m := fun h => by rw [L_e (by rcases h with h | h; exact Or.inl (Nat.le_of_eq h.symm); exact Or.inr (Nat.le_of_eq h.symm))]; rfl
    have b1 := L_na (wa := wa) (wb := wb) (na := na) (nb := nb) _ (i0 + 1) (m + 1) rfl
    have b2 : na - (i0 + 1) ≤ 10 := Nat.le_trans (Nat.sub_le _ _) ha
    clear ih hd hr hf NX p1 q1
    refine t_Conference_measure_15 (d := d) hc1 hc2 x3 x4 (fun g => absurd g (ng_of hx4)) (fun _ _ => j3) (fun _ _ => j4) ?_ (fun _ g _ => (J3 (fun e => g (E3.mpr e))).1) (fun _ _ g => (J4 (fun e => g (E4.mpr e))).1) (fun _ _ _ _ => j3) (fun _ g _ _ => (J3 (fun e => g (E3.mpr e))).2) (fun _ _ _ _ => j4) (fun _ _ _ _ => j3) (fun _ _ g _ => (J4 (fun e => g (E4.mpr e))).2) (fun _ _ _ _ => j4) ?_ (fun _ _ _ _ => j3) (fun _ g _ _ => (J3 (fun e => g (E3.mpr e))).2) (fun _ _ g _ => (J4 (fun e => g (E4.mpr e))).2) (fun _ _ _ _ => j4) ?_ (fun _ _ _ => j3) (fun _ _ _ => j4) ?_
    · intro _ g s1 e1
      rw [n3, n4] at e1
      exact SET 0 (Z (Or.inl (E3.mp g))) s1 e1
    · intro _ g3 g4 gw s1 e1
      have hk0 : ¬ i0 = na := fun e => g3 (E3.mpr e)
      have hm0 : ¬ m = nb := fun e => g4 (E4.mpr e)
      rw [n3, n4, W1 hk0, W2 hm0] at gw
      rw [n3, n4, n31, n41] at e1
      refine SET _ ?_ s1 e1
      rw [S hk0 hm0, if_neg gw]
      have v1 := V1 hk0 m hmb
      have v2 := V2 hm0
      exact mx_of v1 v2
    · intro _ g3 g4 gw s1 e1
      have hk0 : ¬ i0 = na := fun e => g3 (E3.mpr e)
      have hm0 : ¬ m = nb := fun e => g4 (E4.mpr e)
      rw [n3, n4, W1 hk0, W2 hm0] at gw
      rw [n3, n4, n31, n41] at e1
      refine SET _ ?_ s1 e1
      rw [S hk0 hm0, if_pos gw]
      have v1 := V1 hk0 (m + 1) (am hm0)
      exact in1_of v1 (Nat.lt_of_le_of_lt (Nat.le_trans b1 b2) (by decide))
    · intro _ _ g s1 e1
      rw [n3, n4] at e1
      exact SET 0 (Z (Or.inr (E4.mp g))) s1 e1
theorem sp_C_measure {G : jv_X} {d : Nat} {B : Option Value → jg_H → Prop} {s : jg_H} {c1 c2 : Nat} (hc1 : f_8 c1) (hc2 : f_8 c2) (h1 : c1 < 120) (h2 : c2 < 120) (na nb : Nat) (hna : (s c1 0).toInt = na) (hnb : (s c2 0).toInt = nb) (ha : na ≤ 10) (hb : nb ≤ 10) (wa wb : Nat → Int32) (hwa : ∀ j, j < na → s (c1 + 1) j = wa j) (hwb : ∀ j, j < nb → s (c2 + 1) j = wb j) (hB : ∀ t : jg_H, (∀ i j, i ≤ na → j ≤ nb → (t (126 + i) j).toInt = f_L wa wb na nb i j) → (∀ c j, ¬ (126 ≤ c ∧ c < 137) → t c j = s c j) → B none t) : q_P G (d + 1) 119 [.ref 123, .ref c1, .ref c2] s B := by
  have OUTER : ∀ (r : Nat) (x3 : Int32) (o4 : Option Value) (t : jg_H), r ≤ na + 1 → x3.toInt = (r : Int) - 1 → f_n o4 = true → (∀ i j, r ≤ i → i ≤ na → j ≤ nb → (t (126 + i) j).toInt = f_L wa wb na nb i j) → (∀ c j, ¬ (126 ≤ c ∧ c < 137) → t c j = s c j) → q_W G d jm_Conference_measure B 5 [some (.ref 123), some (.ref c1), some (.ref c2), some (.int x3), o4] [] t := by
    intro r
    induction r with
    | zero =>
      intro x3 o4 t hk e3 h4 hd hf
      have neg : x3 < 0 := by rw [i_lt, e3]; have : (0 : Int32).toInt = 0 := rfl; clear hd hf hB hwa hwb; omega
      refine t_Conference_measure_5 (d := d) hc1 hc2 x3 h4 ?_ (fun g => absurd neg g)
      intro _
      exact hB t (fun i j h h' => hd i j (Nat.zero_le _) h h') hf
    | succ r ih =>
      intro x3 o4 t hk e3 h4 hd hf
      have t2 : t c2 0 = s c2 0 := hf c2 0 (fun h => by clear hd hf hB hwa hwb ih; omega)
      have e3' : x3.toInt = (r : Nat) := by rw [e3]; clear hd hf hB hwa hwb ih; omega
      have hr : r ≤ na := Nat.le_of_succ_le_succ hk
      refine t_Conference_measure_5 (d := d) hc1 hc2 x3 h4 (fun g => absurd g (ng_of e3')) ?_
      intro _
      refine sp_C_measure_i hc1 hc2 h1 h2 na nb hna hnb ha hb wa wb hwa hwb r hr x3 e3' ?_ (nb + 1) _ t (by rw [t2, hnb]; clear hd hf hB hwa hwb ih; omega) (Nat.le_refl _) (fun i j h h' h'' => hd i j h h' h'') (fun j h h' => absurd h' (Nat.not_le_of_gt h)) hf
      intro t' y4 hd' hf'
      exact ih _ _ t' (Nat.le_of_succ_le hk) (de_of e3' (Nat.lt_of_le_of_lt (Nat.le_trans hr ha) (by decide))) rfl hd' hf'
  refine t_Conference_measure (d := d) hc1 hc2 ?_
  exact OUTER (na + 1) _ none s (Nat.le_refl _) (by rw [hna]; clear OUTER hB hwa hwb; omega) rfl (fun i j h h' => absurd h' (Nat.not_le_of_gt h)) (fun _ _ _ => rfl)
/-! the reference measures -/
theorem x11_of {x y : Int32} {i j : Nat} (hx : x.toInt = i) (hy : y.toInt = j) (hi : i ≤ 10) (hj : j ≤ 10) : ((11 * x) + y).toInt = ((11 * i + j : Nat) : Int) ∧ ((11 * (x + 1)) + y).toInt = ((11 * (i + 1) + j : Nat) : Int) ∧ (((11 * x) + y) + 1).toInt = ((11 * i + (j + 1) : Nat) : Int) ∧ (((11 * (x + 1)) + y) + 1).toInt = ((11 * (i + 1) + (j + 1) : Nat) : Int) := by
  refine ⟨?_, ?_, ?_, ?_⟩ <;> ((try simp only [i_lt, i_le, i_eq, i_in, i_cn, Int32.toInt_add, Int32.toInt_sub, Int32.toInt_mul, Int32.toInt_neg, Int32.reduceToInt, Int.bmod_add_bmod, Int.add_bmod_bmod, Int.bmod_sub_bmod, Int.sub_bmod_bmod, Int.bmod_mul_bmod, Int.mul_bmod_bmod, Int.bmod_neg_bmod, Nat.reducePow, Int.reduceBmod, Int.reduceNeg, Int.reduceMul, Int.reduceAdd, Int.reduceSub, not_true_eq_false, not_false_eq_true] at *) <;> (try simp (disch := omega) only [i_bm'] at *) <;> omega)
theorem x10_of {x y : Int32} {i j : Nat} (hx : x.toInt = i) (hy : y.toInt = j) (hi : i < 8) (hj : j < 10) : ((10 * x) + y).toInt = ((10 * i + j : Nat) : Int) := by ((try simp only [i_lt, i_le, i_eq, i_in, i_cn, Int32.toInt_add, Int32.toInt_sub, Int32.toInt_mul, Int32.toInt_neg, Int32.reduceToInt, Int.bmod_add_bmod, Int.add_bmod_bmod, Int.bmod_sub_bmod, Int.sub_bmod_bmod, Int.bmod_mul_bmod, Int.mul_bmod_bmod, Int.bmod_neg_bmod, Nat.reducePow, Int.reduceBmod, Int.reduceNeg, Int.reduceMul, Int.reduceAdd, Int.reduceSub, not_true_eq_false, not_false_eq_true] at *) <;> (try simp (disch := omega) only [i_bm'] at *) <;> omega)
theorem one_of {x : Int32} {m : Nat} (h : x.toInt = m) (hm : m < 1000) : (1 + x).toInt = ((m + 1 : Nat) : Int) := by ((try simp only [i_lt, i_le, i_eq, i_in, i_cn, Int32.toInt_add, Int32.toInt_sub, Int32.toInt_mul, Int32.toInt_neg, Int32.reduceToInt, Int.bmod_add_bmod, Int.add_bmod_bmod, Int.bmod_sub_bmod, Int.sub_bmod_bmod, Int.bmod_mul_bmod, Int.mul_bmod_bmod, Int.bmod_neg_bmod, Nat.reducePow, Int.reduceBmod, Int.reduceNeg, Int.reduceMul, Int.reduceAdd, Int.reduceSub, not_true_eq_false, not_false_eq_true] at *) <;> (try simp (disch := omega) only [i_bm'] at *) <;> omega)
set_option maxRecDepth 20000 in
theorem sp_M_brings_i {G : jv_X} {d : Nat} {B : Option Value → jg_H → Prop} {s : jg_H} (a b : Int32) (A C : Nat) (hA : a.toInt = A) (hC : b.toInt = C) (hA8 : A < 8) (hC8 : C < 8) (na nb : Nat) (hna : (s 153 A).toInt = na) (hnb : (s 153 C).toInt = nb) (ha : na ≤ 10) (hb : nb ≤ 10) (wa wb : Nat → Int32) (hwa : ∀ j, j < na → s 154 (10 * A + j) = wa j) (hwb : ∀ j, j < nb → s 154 (10 * C + j) = wb j) (i0 : Nat) (hi0 : i0 ≤ na) (x3 : Int32) (e3 : x3.toInt = i0) (NX : ∀ (t : jg_H) (x4 : Int32) (o5 o6 o7 : Option Value), f_n o5 = true → f_n o6 = true → f_n o7 = true → (∀ i j, i0 ≤ i → i ≤ na → j ≤ nb → (t 175 (11 * i + j)).toInt = f_L wa wb na nb i j) → (∀ c j, ¬ c = 175 → t c j = s c j) → q_W G d jm_M_brings B 7 [some (.ref 146), some (.int a), some (.int b), some (.int (x3 + (-1))), some (.int x4), o5, o6, o7] [] t) : ∀ (m : Nat) (x4 : Int32) (t : jg_H) (o5 o6 o7 : Option Value), f_n o5 = true → f_n o6 = true → f_n o7 = true → x4.toInt = (m : Int) - 1 → m ≤ nb + 1 → (∀ i j, i0 < i → i ≤ na → j ≤ nb → (t 175 (11 * i + j)).toInt = f_L wa wb na nb i j) → (∀ j, m ≤ j → j ≤ nb → (t 175 (11 * i0 + j)).toInt = f_L wa wb na nb i0 j) → (∀ c j, ¬ c = 175 → t c j = s c j) → q_W G d jm_M_brings B 19 [some (.ref 146), some (.int a), some (.int b), some (.int x3), some (.int x4), o5, o6, o7] [] t := by
  intro m
  have i11 : i0 < 11 := by omega
  have i10 : i0 ≤ 10 := Nat.le_of_lt_succ i11
  have nA : a.toNatClampNeg = A := cn_of hA
  have nC : b.toNatClampNeg = C := cn_of hC
  have jA : jv_in a 8 = true := ji_of hA hA8
  have jC : jv_in b 8 = true := ji_of hC hC8
  have ai : ¬ i0 = na → i0 < na := fun h => by omega
  induction m with
  | zero =>
    intro x4 t o5 o6 o7 h5 h6 h7 e4 hm hd hr hf
    have neg : x4 < 0 := by rw [i_lt, e4]; have : (0 : Int32).toInt = 0 := rfl; clear hd hr hf NX; omega
    refine t_M_brings_19 (d := d) a b x3 x4 h5 h6 h7 ?_ (fun g => absurd neg g) (fun g => absurd neg g) (fun g => absurd neg g) (fun g => absurd neg g) (fun g => absurd neg g) (fun g => absurd neg g) (fun g => absurd neg g) (fun g => absurd neg g) (fun g => absurd neg g) (fun g => absurd neg g) (fun g => absurd neg g) (fun g => absurd neg g) (fun g => absurd neg g) (fun g => absurd neg g) (fun g => absurd neg g) (fun g => absurd neg g) (fun g => absurd neg g) (fun g => absurd neg g) (fun g => absurd neg g) (fun g => absurd neg g) (fun g => absurd neg g) (fun g => absurd neg g)
    intro _
    refine NX t x4 _ _ _ h5 h6 h7 (fun i j h h' h'' => ?_) hf
    by_cases e : i = i0
    · rw [e]; exact hr j (Nat.zero_le _) h''
    · exact hd i j (Nat.lt_of_le_of_ne h (Ne.symm e)) h' h''
  | succ m ih =>
    intro x4 t o5 o6 o7 h5 h6 h7 e4 hm hd hr hf
    have hmb : m ≤ nb := Nat.le_of_succ_le_succ hm
    have m11 : m < 11 := Nat.lt_of_le_of_lt hmb (Nat.lt_succ_of_le hb)
    have m10 : m ≤ 10 := Nat.le_of_lt_succ m11
    have hx4 : x4.toInt = m := by rw [e4]; clear ih hd hr hf NX ai; omega
    have e4' : (x4 + (-1)).toInt = (m : Int) - 1 := de_of hx4 (Nat.lt_trans m11 (by decide))
    have tA : t 153 a.toNatClampNeg = s 153 A := by rw [nA]; exact hf _ _ (by decide)
    have tC : t 153 b.toNatClampNeg = s 153 C := by rw [nC]; exact hf _ _ (by decide)
    obtain ⟨y1, y2, y3, y4⟩ := x11_of e3 hx4 i10 m10
    have k1 := cn_of y1
    have k2 := cn_of y2
    have k3 := cn_of y3
    have k4 := cn_of y4
    have l1 : jv_in ((11 * x3) + x4) 121 = true := ji_of y1 (by clear ih hd hr hf NX ai y1 y2 y3 y4 k1 k2 k3 k4 e3 e4 e4' hx4; omega)
    have E3 : x3 < t 153 a.toNatClampNeg ↔ i0 < na := by rw [tA]; exact lt_of e3 hna
    have E4 : x4 < t 153 b.toNatClampNeg ↔ m < nb := by rw [tC]; exact lt_of hx4 hnb
    have SET : ∀ v : Int32, v.toInt = f_L wa wb na nb i0 m → ∀ s1 : jg_H, s1 = jg_up t 175 ((11 * x3) + x4).toNatClampNeg v → ∀ p5 p6 p7 : Option Value, f_n p5 = true → f_n p6 = true → f_n p7 = true → q_W G d jm_M_brings B 19 [some (.ref 146), some (.int a), some (.int b), some (.int x3), some (.int (x4 + (-1))), p5, p6, p7] [] s1 := by
      intro v hv s1 e1 p5 p6 p7 g5 g6 g7
      rw [k1] at e1
      subst e1
      refine ih _ _ _ _ _ g5 g6 g7 e4' (Nat.le_of_succ_le hm) (fun i j h h' h'' => ?_) (fun j h h' => ?_) (fun c j h => ?_)
      · rw [u_j (by clear ih hd hr hf NX ai y1 y2 y3 y4 k1 k2 k3 k4 e3 e4 e4' hx4 l1 E3 E4; omega)]; exact hd i j h h' h''
      · by_cases e : j = m
        · rw [e, u_hit]; exact hv
        · rw [u_j (fun e' => e (Nat.add_left_cancel e'))]; exact hr j (Nat.lt_of_le_of_ne h (Ne.symm e)) h'
      · rw [u_c h]; exact hf c j h
    have J : i0 < na → m < nb → jv_in ((11 * (x3 + 1)) + x4) 121 = true ∧ jv_in (((11 * x3) + x4) + 1) 121 = true ∧ jv_in (((11 * (x3 + 1)) + x4) + 1) 121 = true := fun h h' => ⟨ji_of y2 (by clear ih hd hr hf NX ai y1 y2 y3 y4 k1 k2 k3 k4 e3 e4 e4' hx4 l1 E3 E4 SET; omega), ji_of y3 (by clear ih hd hr hf NX ai y1 y2 y3 y4 k1 k2 k3 k4 e3 e4 e4' hx4 l1 E3 E4 SET; omega), ji_of y4 (by clear ih hd hr hf NX ai y1 y2 y3 y4 k1 k2 k3 k4 e3 e4 e4' hx4 l1 E3 E4 SET; omega)⟩
    have W1 : i0 < na → t 154 ((10 * a) + x3).toNatClampNeg = wa i0 ∧ jv_in ((10 * a) + x3) 80 = true := fun h => by
      have y := x10_of hA e3 hA8 (Nat.lt_of_lt_of_le h ha)
      refine ⟨by rw [cn_of y, hf _ _ (by decide)]; exact hwa _ h, ji_of y ?_⟩
      clear ih hd hr hf NX ai y1 y2 y3 y4 k1 k2 k3 k4 e3 e4 e4' hx4 l1 E3 E4 SET y J
      omega
    have W2 : m < nb → t 154 ((10 * b) + x4).toNatClampNeg = wb m ∧ jv_in ((10 * b) + x4) 80 = true := fun h => by
      have y := x10_of hC hx4 hC8 (Nat.lt_of_lt_of_le h hb)
      refine ⟨by rw [cn_of y, hf _ _ (by decide)]; exact hwb _ h, ji_of y ?_⟩
      clear ih hd hr hf NX ai y1 y2 y3 y4 k1 k2 k3 k4 e3 e4 e4' hx4 l1 E3 E4 SET y J
      omega
    have V1 : i0 < na → ∀ j, j ≤ nb → (t 175 (11 * (i0 + 1) + j)).toInt = f_L wa wb na nb (i0 + 1) j := fun h j hj => hd (i0 + 1) j (Nat.lt_succ_self _) h hj
    have V2 : m < nb → (t 175 (11 * i0 + (m + 1))).toInt = f_L wa wb na nb i0 (m + 1) := fun h => hr (m + 1) (Nat.le_refl _) h
    have S : i0 < na → m < nb → f_L wa wb na nb i0 m = if wa i0 = wb m then f_L wa wb na nb (i0 + 1) (m + 1) + 1 else max (f_L wa wb na nb (i0 + 1) m) (f_L wa wb na nb i0 (m + 1)) := fun h h' => L_s h h'
    have Z : ¬ i0 < na ∨ ¬ m < nb → (0 : Int32).toInt = f_L wa wb na nb i0 m := fun h => by rw [L_e (by rcases h with h | h; exact Or.inl (Nat.le_of_not_lt h); exact Or.inr (Nat.le_of_not_lt h))]; rfl
    have b1 := L_na (wa := wa) (wb := wb) (na := na) (nb := nb) _ (i0 + 1) (m + 1) rfl
    have b2 : na - (i0 + 1) ≤ 10 := Nat.le_trans (Nat.sub_le _ _) ha
    have DG : i0 < na → m < nb → wa i0 = wb m → (1 + (t 175 (11 * (i0 + 1) + (m + 1)))).toInt = f_L wa wb na nb i0 m := fun h h' hw => by
      rw [S h h', if_pos hw]
      exact one_of (V1 h (m + 1) h') (Nat.lt_of_le_of_lt (Nat.le_trans b1 b2) (by decide))
    clear ih hd hr hf NX
    refine t_M_brings_19 (d := d) a b x3 x4 h5 h6 h7 (fun g => absurd g (ng_of hx4)) (fun _ => jA) (fun _ _ => l1) ?_ (fun _ _ => jC) (fun _ _ _ => l1) ?_ (fun _ g g' => (J (E3.mp g) (E4.mp g')).1) (fun _ g g' => (J (E3.mp g) (E4.mp g')).2.1) (fun _ g _ _ => (W1 (E3.mp g)).2) (fun _ _ g _ => (W2 (E4.mp g)).2) (fun _ _ _ _ _ => l1) ?_ (fun _ g g' _ _ => (J (E3.mp g) (E4.mp g')).2.2) (fun _ _ _ _ _ => l1) ?_ (fun _ g _ _ => (W1 (E3.mp g)).2) (fun _ _ g _ => (W2 (E4.mp g)).2) (fun _ _ _ _ _ => l1) ?_ (fun _ g g' _ _ => (J (E3.mp g) (E4.mp g')).2.2) (fun _ _ _ _ _ => l1) ?_
    · intro _ g s1 e1
      exact SET 0 (Z (Or.inl (fun h => g (E3.mpr h)))) s1 e1 _ _ _ rfl h6 h7
    · intro _ _ g s1 e1
      exact SET 0 (Z (Or.inr (fun h => g (E4.mpr h)))) s1 e1 _ _ _ rfl h6 h7
    · intro _ g3 g4 gl gw s1 e1
      have p3 := E3.mp g3
      have p4 := E4.mp g4
      rw [(W1 p3).1, (W2 p4).1] at gw
      refine SET _ ?_ s1 e1 _ _ _ rfl rfl rfl
      rw [k2, k3] at gl
      rw [k3, S p3 p4, if_neg gw]
      have v1 := V1 p3 m hmb
      have v2 := V2 p4
      rw [i_le, v1, v2] at gl
      rw [v2]
      clear SET V1 V2 S Z W1 W2 J DG e1 y1 y2 y3 y4 k1 k2 k3 k4 E3 E4
      omega
    · intro _ g3 g4 gl gw s1 e1
      have p3 := E3.mp g3
      have p4 := E4.mp g4
      rw [(W1 p3).1, (W2 p4).1] at gw
      exact SET _ (by rw [k4]; exact DG p3 p4 gw) s1 e1 _ _ _ rfl rfl rfl
    · intro _ g3 g4 gl gw s1 e1
      have p3 := E3.mp g3
      have p4 := E4.mp g4
      rw [(W1 p3).1, (W2 p4).1] at gw
      refine SET _ ?_ s1 e1 _ _ _ rfl rfl rfl
      rw [k2, k3] at gl
      rw [k2, S p3 p4, if_neg gw]
      have v1 := V1 p3 m hmb
      have v2 := V2 p4
      rw [i_le, v1, v2] at gl
      rw [v1]
      clear SET V1 V2 S Z W1 W2 J DG e1 y1 y2 y3 y4 k1 k2 k3 k4 E3 E4
      omega
    · intro _ g3 g4 gl gw s1 e1
      have p3 := E3.mp g3
      have p4 := E4.mp g4
      rw [(W1 p3).1, (W2 p4).1] at gw
      exact SET _ (by rw [k4]; exact DG p3 p4 gw) s1 e1 _ _ _ rfl rfl rfl
theorem sp_M_brings {G : jv_X} {d : Nat} {B : Option Value → jg_H → Prop} {s : jg_H} (a b : Int32) (A C : Nat) (hA : a.toInt = A) (hC : b.toInt = C) (hA8 : A < 8) (hC8 : C < 8) (na nb : Nat) (hna : (s 153 A).toInt = na) (hnb : (s 153 C).toInt = nb) (ha : na ≤ 10) (hb : nb ≤ 10) (wa wb : Nat → Int32) (hwa : ∀ j, j < na → s 154 (10 * A + j) = wa j) (hwb : ∀ j, j < nb → s 154 (10 * C + j) = wb j) (hB : ∀ t : jg_H, (∀ i j, i ≤ na → j ≤ nb → (t 175 (11 * i + j)).toInt = f_L wa wb na nb i j) → (∀ c j, ¬ c = 175 → t c j = s c j) → B none t) : q_P G (d + 1) 211 [.ref 146, .int a, .int b] s B := by
  have nA : a.toNatClampNeg = A := cn_of hA
  have nC : b.toNatClampNeg = C := cn_of hC
  have OUTER : ∀ (r : Nat) (x3 : Int32) (o4 o5 o6 o7 : Option Value) (t : jg_H), f_n o4 = true → f_n o5 = true → f_n o6 = true → f_n o7 = true → r ≤ na + 1 → x3.toInt = (r : Int) - 1 → (∀ i j, r ≤ i → i ≤ na → j ≤ nb → (t 175 (11 * i + j)).toInt = f_L wa wb na nb i j) → (∀ c j, ¬ c = 175 → t c j = s c j) → q_W G d jm_M_brings B 7 [some (.ref 146), some (.int a), some (.int b), some (.int x3), o4, o5, o6, o7] [] t := by
    intro r
    induction r with
    | zero =>
      intro x3 o4 o5 o6 o7 t h4 h5 h6 h7 hk e3 hd hf
      have neg : x3 < 0 := by rw [i_lt, e3]; have : (0 : Int32).toInt = 0 := rfl; clear hd hf hB hwa hwb; omega
      refine t_M_brings_7 (d := d) a b x3 h4 h5 h6 h7 ?_ (fun g => absurd neg g) (fun g => absurd neg g)
      intro _
      exact hB t (fun i j h h' => hd i j (Nat.zero_le _) h h') hf
    | succ r ih =>
      intro x3 o4 o5 o6 o7 t h4 h5 h6 h7 hk e3 hd hf
      have tC : t 153 b.toNatClampNeg = s 153 C := by rw [nC]; exact hf _ _ (by decide)
      have e3' : x3.toInt = (r : Nat) := by rw [e3]; clear hd hf hB hwa hwb ih; omega
      have hr : r ≤ na := Nat.le_of_succ_le_succ hk
      refine t_M_brings_7 (d := d) a b x3 h4 h5 h6 h7 (fun g => absurd g (ng_of e3')) (fun _ => ji_of hC hC8) ?_
      intro _
      refine sp_M_brings_i a b A C hA hC hA8 hC8 na nb hna hnb ha hb wa wb hwa hwb r hr x3 e3' ?_ (nb + 1) _ t _ _ _ h5 h6 h7 (by rw [tC, hnb]; clear hd hf hB hwa hwb ih; omega) (Nat.le_refl _) (fun i j h h' h'' => hd i j h h' h'') (fun j h h' => absurd h' (Nat.not_le_of_gt h)) hf
      intro t' y4 q5 q6 q7 g5 g6 g7 hd' hf'
      exact ih _ _ _ _ _ t' rfl g5 g6 g7 (Nat.le_of_succ_le hk) (de_of e3' (Nat.lt_of_le_of_lt (Nat.le_trans hr ha) (by decide))) hd' hf'
  refine t_M_brings (d := d) a b (ji_of hA hA8) ?_
  exact OUTER (na + 1) _ none none none none s rfl rfl rfl rfl (Nat.le_refl _) (by rw [nA, hna]; clear OUTER hB hwa hwb; omega) (fun i j h h' => absurd h' (Nat.not_le_of_gt h)) (fun _ _ _ => rfl)
