/-! orders: their places in the six-system -/
theorem d6 (x : Int32) (h : 0 ≤ x.toInt) : (x / 6).toInt = x.toInt / 6 ∧ (x - x / 6 * 6).toInt = x.toInt % 6 := by
  have e : (x / 6).toInt = x.toInt / 6 := by
    rw [Int32.toInt_div, show (6 : Int32).toInt = 6 from rfl, Int.tdiv_eq_ediv_of_nonneg h]
    have := i_b x
    exact i_bm' _ (by omega) (by omega)
  refine ⟨e, ?_⟩
  have b := i_b x
  rw [Int32.toInt_sub, Int32.toInt_mul, e, show (6 : Int32).toInt = 6 from rfl]
  rw [i_bm' (x.toInt / 6 * 6) (by omega) (by omega)]
  rw [i_bm' _ (by omega) (by omega)]
  omega
theorem d6n (x : Int32) (h : x.toInt < 0) : (x - x / 6 * 6).toInt ≤ 0 ∧ ((x - x / 6 * 6).toInt = 0 → (x / 6).toInt < 0) := by
  have b := i_b x
  have e : (x / 6).toInt = -((-x.toInt) / 6) := by
    rw [Int32.toInt_div, show (6 : Int32).toInt = 6 from rfl]
    have e1 : x.toInt.tdiv 6 = -((-x.toInt) / 6) := by
      rw [← Int.tdiv_eq_ediv_of_nonneg (by omega : 0 ≤ -x.toInt), Int.neg_tdiv, Int.neg_neg]
    rw [e1]
    exact i_bm' _ (by omega) (by omega)
  have e2 : (x - x / 6 * 6).toInt = x.toInt - (-((-x.toInt) / 6)) * 6 := by
    rw [Int32.toInt_sub, Int32.toInt_mul, e, show (6 : Int32).toInt = 6 from rfl]
    rw [i_bm' (-((-x.toInt) / 6) * 6) (by omega) (by omega)]
    exact i_bm' _ (by omega) (by omega)
  rw [e2, e]
  omega
/-- an order of n: each below n named once -/
def o_C (n : Nat) : Nat → Nat → Nat → Bool
  | 0, r, _ => r == 0
  | m + 1, r, S => if n ≤ r % 6 then false else if S.testBit (r % 6) then false else o_C n m (r / 6) (S ||| 2 ^ (r % 6))
def o_M (n : Nat) : Nat → Nat → Nat → Bool
  | 0, r, S => r == 0 && S == 2 ^ n - 1
  | m + 1, r, S => o_M n m (r / 6) (if r % 6 < n then S ||| 2 ^ (r % 6) else S)
def o_ck (n : Nat) : Nat → Nat → Bool
  | 0, o => o_C n n o 0 == o_M n n o 0
  | b + 1, o => o_ck n b (6 * o) && o_ck n b (6 * o + 1) && o_ck n b (6 * o + 2) && o_ck n b (6 * o + 3) && o_ck n b (6 * o + 4) && o_ck n b (6 * o + 5)
theorem o_ck_all : o_ck 0 0 0 = true ∧ o_ck 1 1 0 = true ∧ o_ck 2 2 0 = true ∧ o_ck 3 3 0 = true ∧ o_ck 4 4 0 = true ∧ o_ck 5 5 0 = true := by decide +kernel
theorem o_ck_get (n : Nat) : ∀ (b o : Nat), o_ck n b o = true → ∀ k, k < 6 ^ b → o_C n n (6 ^ b * o + k) 0 = o_M n n (6 ^ b * o + k) 0
  | 0, o, h, k, hk => by
    have hk : k = 0 := by omega
    subst hk
    unfold o_ck at h
    simpa using h
  | b + 1, o, h, k, hk => by
    unfold o_ck at h
    simp only [Bool.and_eq_true] at h
    obtain ⟨⟨⟨⟨⟨h0, h1⟩, h2⟩, h3⟩, h4⟩, h5⟩ := h
    have hp : 6 ^ (b + 1) = 6 * 6 ^ b := by rw [Nat.pow_succ, Nat.mul_comm]
    rw [hp] at hk ⊢
    generalize hQ : 6 ^ b = Q at *
    have hq : k / Q < 6 := Nat.div_lt_of_lt_mul (by rw [Nat.mul_comm]; exact hk)
    have hQ0 : 0 < Q := by rw [← hQ]; exact Nat.pow_pos (by decide)
    have hm : k % Q < Q := Nat.mod_lt _ hQ0
    have he : k = Q * (k / Q) + k % Q := (Nat.div_add_mod k Q).symm
    obtain ⟨z, hz⟩ : ∃ z, k / Q = z := ⟨_, rfl⟩
    rw [hz] at hq he
    have G : ∀ i, i < 6 → o_ck n b (6 * o + i) = true → z = i → o_C n n (6 * Q * o + k) 0 = o_M n n (6 * Q * o + k) 0 := by
      intro i _ hi hk'
      have := o_ck_get n b (6 * o + i) hi (k % Q) (by rw [hQ]; exact hm)
      rw [hQ] at this
      have e : Q * (6 * o + i) + k % Q = 6 * Q * o + k := by
        rw [Nat.mul_add]
        have e1 : Q * (6 * o) = 6 * Q * o := by rw [Nat.mul_left_comm, Nat.mul_assoc]
        rw [e1, ← hk']
        omega
      rw [e] at this
      exact this
    rcases (by omega : z = 0 ∨ z = 1 ∨ z = 2 ∨ z = 3 ∨ z = 4 ∨ z = 5) with e | e | e | e | e | e
    · exact G 0 (by decide) h0 e
    · exact G 1 (by decide) h1 e
    · exact G 2 (by decide) h2 e
    · exact G 3 (by decide) h3 e
    · exact G 4 (by decide) h4 e
    · exact G 5 (by decide) h5 e
theorem o_C_lt (n : Nat) : ∀ (m r S : Nat), o_C n m r S = true → r < 6 ^ m
  | 0, r, S, h => by
    unfold o_C at h
    have : r = 0 := by simpa using h
    subst this
    decide
  | m + 1, r, S, h => by
    unfold o_C at h
    split at h
    · exact absurd h (by decide)
    · split at h
      · exact absurd h (by decide)
      · have := o_C_lt n m _ _ h
        rw [Nat.pow_succ]
        omega
theorem o_M_lt (n : Nat) : ∀ (m r S : Nat), o_M n m r S = true → r < 6 ^ m
  | 0, r, S, h => by
    unfold o_M at h
    have : r = 0 := by
      rw [Bool.and_eq_true] at h
      simpa using h.1
    subst this
    decide
  | m + 1, r, S, h => by
    unfold o_M at h
    have := o_M_lt n m _ _ h
    rw [Nat.pow_succ]
    omega
theorem o_eq (n o : Nat) (hn : n ≤ 5) : o_C n n o 0 = o_M n n o 0 := by
  by_cases h : o < 6 ^ n
  · have K : o_ck n n 0 = true := by
      obtain ⟨k0, k1, k2, k3, k4, k5⟩ := o_ck_all
      rcases (by omega : n = 0 ∨ n = 1 ∨ n = 2 ∨ n = 3 ∨ n = 4 ∨ n = 5) with e | e | e | e | e | e <;> subst e <;> assumption
    have := o_ck_get n n 0 K o h
    rw [Nat.mul_zero, Nat.zero_add] at this
    exact this
  · have a : o_C n n o 0 = false := by
      by_cases e : o_C n n o 0 = true
      · exact absurd (o_C_lt n n o 0 e) h
      · exact Bool.eq_false_iff.mpr e
    have b : o_M n n o 0 = false := by
      by_cases e : o_M n n o 0 = true
      · exact absurd (o_M_lt n n o 0 e) h
      · exact Bool.eq_false_iff.mpr e
    rw [a, b]
/-! the bits that tell what was named -/
theorem bt_1 : ∀ S, S < 32 → ∀ i, i < 5 → ((((Int32.ofNat S) >>> ((Int32.ofNat i) &&& 31)) &&& 1) = 0 ↔ S.testBit i = false) := by decide +kernel
theorem bt_2 : ∀ S, S < 32 → ∀ i, i < 5 → ((Int32.ofNat S) ||| (1 <<< ((Int32.ofNat i) &&& 31))) = Int32.ofNat (S ||| 2 ^ i) ∧ (S ||| 2 ^ i) < 32 := by decide +kernel
theorem bt_3 : ∀ S, S < 32 → ∀ n, n < 6 → (Int32.ofNat S = (1 <<< ((Int32.ofNat n) &&& 31)) - 1 ↔ S = 2 ^ n - 1) := by decide +kernel
theorem bt_4 (S : Int32) : S ||| 0 = S := Int32.or_zero
theorem of_n {x : Int32} {n : Nat} (h : x.toInt = n) : x = Int32.ofNat n := by
  refine Int32.toInt_inj.mp ?_
  rw [h, Int32.toInt_ofNat']
  have := i_b x
  exact (i_bm' _ (by omega) (by omega)).symm
set_option maxRecDepth 20000 in
theorem sp_C_names {G : jv_X} {d : Nat} {B : Option Value → jg_H → Prop} {s : jg_H} (n : Nat) (hn : (s 66 0).toInt = n) (h5 : n ≤ 5) (h66 : s 66 1 = 5) (a : Int32) (h1 : 0 ≤ a.toInt → o_C n n a.toInt.toNat 0 = true → B (some (.int 1)) s) (h0 : ¬ (0 ≤ a.toInt ∧ o_C n n a.toInt.toNat 0 = true) → B (some (.int 0)) s) : q_P G (d + 2) 108 [.ref 65, .int a] s B := by
  refine t_Foresight_namesEachOnce (d := d) a ?_
  by_cases ha : 0 ≤ a.toInt
  · have lp : ∀ (m q r S : Nat) (x2 x4 : Int32) (o5 : Option Value), q + m = n → x4.toInt = q → x2.toInt = r → S < 32 → f_n o5 = true → (o_C n m r S = true → B (some (.int 1)) s) → (o_C n m r S = false → B (some (.int 0)) s) → q_W G (d + 1) jm_Foresight_namesEachOnce B 7 [some (.ref 65), some (.int a), some (.int x2), some (.int (Int32.ofNat S)), some (.int x4), o5] [] s := by
      intro m
      induction m with
      | zero =>
        intro q r S x2 x4 o5 e1 e4 e2 hS h5' b1 b0
        unfold o_C at b1 b0
        refine t_Foresight_namesEachOnce_7 (d := d) a x2 _ x4 h5' ?_ ?_ ?_ ?_ ?_ ?_ ?_
        · intro _ g
          refine b0 ?_
          have : ¬ r = 0 := fun e => g (Int32.toInt_inj.mp (by rw [e2, e]; rfl))
          simpa using this
        · intro _ g
          refine b1 ?_
          have : r = 0 := by have := congrArg Int32.toInt g; rw [e2] at this; have z : (0 : Int32).toInt = 0 := rfl; omega
          simpa using this
        all_goals (intro g; exfalso; rw [i_lt, hn, e4] at g; omega)
      | succ m ih =>
        intro q r S x2 x4 o5 e1 e4 e2 hS h5' b1 b0
        obtain ⟨f1, f2⟩ := d6 x2 (by omega)
        have g1 : (x2 / 6).toInt = ((r / 6 : Nat) : Int) := by rw [f1, e2]; omega
        have g2 : (x2 - x2 / 6 * 6).toInt = ((r % 6 : Nat) : Int) := by rw [f2, e2]; omega
        have g3 : (x4 + 1).toInt = ((q + 1 : Nat) : Int) := by clear b1 b0 ih f1 f2 g1 g2; ((try simp only [i_lt, i_le, i_eq, i_in, i_cn, Int32.toInt_add, Int32.toInt_sub, Int32.toInt_mul, Int32.toInt_neg, Int32.reduceToInt, Int.bmod_add_bmod, Int.add_bmod_bmod, Int.bmod_sub_bmod, Int.sub_bmod_bmod, Int.bmod_mul_bmod, Int.mul_bmod_bmod, Int.bmod_neg_bmod, Nat.reducePow, Int.reduceBmod, Int.reduceNeg, Int.reduceMul, Int.reduceAdd, Int.reduceSub, not_true_eq_false, not_false_eq_true] at *) <;> (try simp (disch := omega) only [i_bm'] at *) <;> omega)
        have g4 := of_n g2
        generalize hD : x2 - x2 / 6 * 6 = D at *
        unfold o_C at b1 b0
        refine t_Foresight_namesEachOnce_7 (d := d) a x2 _ x4 h5' ?_ ?_ ?_ ?_ ?_ ?_ ?_
        · intro g; exfalso; rw [i_lt, hn, e4] at g; omega
        · intro g; exfalso; rw [i_lt, hn, e4] at g; omega
        · intro _ g; exfalso; rw [hD, i_lt] at g; have : (0 : Int32).toInt = 0 := rfl; omega
        · intro _ _ g
          rw [hD, i_lt, hn] at g
          rw [if_pos (by omega)] at b0
          exact b0 rfl
        · intro _ _ g g'
          rw [hD, i_lt, hn] at g
          rw [hD, h66, i_lt] at g'
          have : (5 : Int32).toInt = 5 := rfl
          omega
        · intro _ _ g _ gb
          rw [hD, i_lt, hn] at g
          rw [hD] at gb ⊢
          have hr : r % 6 < n := by omega
          rw [g4] at gb ⊢
          have tb := (bt_1 S hS (r % 6) (by omega)).mp gb
          obtain ⟨c1, c2⟩ := bt_2 S hS (r % 6) (by omega)
          rw [if_neg (by omega), tb, if_neg (by decide)] at b1 b0
          rw [c1]
          exact ih (q + 1) (r / 6) _ (x2 / 6) _ _ (by omega) g3 g1 c2 rfl b1 b0
        · intro _ _ g _ gb
          rw [hD, i_lt, hn] at g
          rw [hD] at gb
          have hr : r % 6 < n := by omega
          rw [g4] at gb
          have tb : S.testBit (r % 6) = true := by
            by_cases e : S.testBit (r % 6) = true
            · exact e
            · exact absurd ((bt_1 S hS (r % 6) (by omega)).mpr (Bool.eq_false_iff.mpr e)) gb
          rw [if_neg (by omega), tb, if_pos rfl] at b0
          exact b0 rfl
    refine lp n 0 a.toInt.toNat 0 a 0 none (by omega) (by decide) (by omega) (by decide) rfl (fun h => h1 ha h) (fun h => h0 (fun e => by rw [h] at e; exact absurd e.2 (by decide)))
  · have hB := h0 (fun e => ha e.1)
    have lp : ∀ (m q : Nat) (x2 x3 x4 : Int32) (o5 : Option Value), q + m = n → x4.toInt = q → x2.toInt < 0 → f_n o5 = true → q_W G (d + 1) jm_Foresight_namesEachOnce B 7 [some (.ref 65), some (.int a), some (.int x2), some (.int x3), some (.int x4), o5] [] s := by
      intro m
      induction m with
      | zero =>
        intro q x2 x3 x4 o5 e1 e4 e2 h5'
        refine t_Foresight_namesEachOnce_7 (d := d) a x2 x3 x4 h5' (fun _ _ => hB) ?_ ?_ ?_ ?_ ?_ ?_
        · intro _ g; rw [g] at e2; exact absurd e2 (by decide)
        all_goals (intro g; exfalso; rw [i_lt, hn, e4] at g; omega)
      | succ m ih =>
        intro q x2 x3 x4 o5 e1 e4 e2 h5'
        obtain ⟨f1, f2⟩ := d6n x2 e2
        have g3 : (x4 + 1).toInt = ((q + 1 : Nat) : Int) := by clear hB ih f1 f2 h1 h0; ((try simp only [i_lt, i_le, i_eq, i_in, i_cn, Int32.toInt_add, Int32.toInt_sub, Int32.toInt_mul, Int32.toInt_neg, Int32.reduceToInt, Int.bmod_add_bmod, Int.add_bmod_bmod, Int.bmod_sub_bmod, Int.sub_bmod_bmod, Int.bmod_mul_bmod, Int.mul_bmod_bmod, Int.bmod_neg_bmod, Nat.reducePow, Int.reduceBmod, Int.reduceNeg, Int.reduceMul, Int.reduceAdd, Int.reduceSub, not_true_eq_false, not_false_eq_true] at *) <;> (try simp (disch := omega) only [i_bm'] at *) <;> omega)
        refine t_Foresight_namesEachOnce_7 (d := d) a x2 x3 x4 h5' (fun _ _ => hB) ?_ (fun _ _ => hB) (fun _ _ _ => hB) (fun _ _ _ _ => hB) ?_ (fun _ _ _ _ _ => hB)
        · intro _ g; rw [g] at e2; exact absurd e2 (by decide)
        · intro _ g _ _ _
          refine ih (q + 1) _ _ _ _ (by omega) g3 (f2 ?_) rfl
          rw [i_lt] at g
          have : (0 : Int32).toInt = 0 := rfl
          omega
    exact lp n 0 a 0 0 none (by omega) (by decide) (by omega) rfl
set_option maxRecDepth 20000 in
theorem sp_M_isOrder {G : jv_X} {d : Nat} {B : Option Value → jg_H → Prop} {s : jg_H} (n : Nat) (hn : (s 146 19).toInt = n) (h5 : n ≤ 5) (a : Int32) (h1 : 0 ≤ a.toInt → o_C n n a.toInt.toNat 0 = true → B (some (.int 1)) s) (h0 : ¬ (0 ≤ a.toInt ∧ o_C n n a.toInt.toNat 0 = true) → B (some (.int 0)) s) : q_P G (d + 1) 207 [.ref 146, .int a] s B := by
  rw [o_eq n _ h5] at h1 h0
  have en := of_n hn
  refine t_M_isOrder (d := d) a ?_
  by_cases ha : 0 ≤ a.toInt
  · have na : ¬ a < 0 := by rw [i_lt]; have : (0 : Int32).toInt = 0 := rfl; omega
    have lp : ∀ (m q r S : Nat) (x2 x4 : Int32), q + m = n → x4.toInt = q → x2.toInt = r → S < 32 → (o_M n m r S = true → B (some (.int 1)) s) → (o_M n m r S = false → B (some (.int 0)) s) → q_W G d jm_M_isOrder B 7 [some (.ref 146), some (.int a), some (.int x2), some (.int (Int32.ofNat S)), some (.int x4)] [] s := by
      intro m
      induction m with
      | zero =>
        intro q r S x2 x4 e1 e4 e2 hS b1 b0
        unfold o_M at b1 b0
        refine t_M_isOrder_7 (d := d) a x2 _ x4 (fun _ g => absurd g na) ?_ ?_ ?_ ?_ ?_ ?_
        · intro _ _ g
          refine b0 ?_
          have : ¬ r = 0 := fun e => g (Int32.toInt_inj.mp (by rw [e2, e]; rfl))
          rw [show (r == 0) = false by simpa using this]; rfl
        · intro _ _ g gs
          refine b0 ?_
          rw [en] at gs
          have hs : ¬ S = 2 ^ n - 1 := fun e => gs ((bt_3 S hS n (by omega)).mpr e)
          rw [show (S == 2 ^ n - 1) = false by simpa using hs, Bool.and_false]
        · intro _ _ g gs
          refine b1 ?_
          rw [en] at gs
          have hs := (bt_3 S hS n (by omega)).mp gs
          have : r = 0 := by have := congrArg Int32.toInt g; rw [e2] at this; have z : (0 : Int32).toInt = 0 := rfl; omega
          rw [this, hs]
          simp
        all_goals (intro g; exfalso; rw [i_lt, hn, e4] at g; omega)
      | succ m ih =>
        intro q r S x2 x4 e1 e4 e2 hS b1 b0
        obtain ⟨f1, f2⟩ := d6 x2 (by omega)
        have g1 : (x2 / 6).toInt = ((r / 6 : Nat) : Int) := by rw [f1, e2]; omega
        have g2 : (x2 - x2 / 6 * 6).toInt = ((r % 6 : Nat) : Int) := by rw [f2, e2]; omega
        have g3 : (x4 + 1).toInt = ((q + 1 : Nat) : Int) := by clear b1 b0 ih f1 f2 g1 g2; ((try simp only [i_lt, i_le, i_eq, i_in, i_cn, Int32.toInt_add, Int32.toInt_sub, Int32.toInt_mul, Int32.toInt_neg, Int32.reduceToInt, Int.bmod_add_bmod, Int.add_bmod_bmod, Int.bmod_sub_bmod, Int.sub_bmod_bmod, Int.bmod_mul_bmod, Int.mul_bmod_bmod, Int.bmod_neg_bmod, Nat.reducePow, Int.reduceBmod, Int.reduceNeg, Int.reduceMul, Int.reduceAdd, Int.reduceSub, not_true_eq_false, not_false_eq_true] at *) <;> (try simp (disch := omega) only [i_bm'] at *) <;> omega)
        have g4 := of_n g2
        generalize hD : x2 - x2 / 6 * 6 = D at *
        unfold o_M at b1 b0
        refine t_M_isOrder_7 (d := d) a x2 _ x4 ?_ ?_ ?_ ?_ (fun _ g => absurd g na) ?_ ?_
        · intro g; exfalso; rw [i_lt, hn, e4] at g; omega
        · intro g; exfalso; rw [i_lt, hn, e4] at g; omega
        · intro g; exfalso; rw [i_lt, hn, e4] at g; omega
        · intro g; exfalso; rw [i_lt, hn, e4] at g; omega
        · intro _ _ g
          rw [hD, i_lt, hn] at g
          rw [bt_4]
          rw [if_neg (by omega)] at b1 b0
          exact ih (q + 1) (r / 6) S (x2 / 6) _ (by omega) g3 g1 hS b1 b0
        · intro _ _ g
          rw [hD, i_lt, hn] at g
          rw [hD, g4]
          obtain ⟨c1, c2⟩ := bt_2 S hS (r % 6) (by omega)
          rw [if_pos (by omega)] at b1 b0
          rw [c1]
          exact ih (q + 1) (r / 6) _ (x2 / 6) _ (by omega) g3 g1 c2 b1 b0
    refine lp n 0 a.toInt.toNat 0 a 0 (by omega) (by decide) (by omega) (by decide) (fun h => h1 ha h) (fun h => h0 (fun e => by rw [h] at e; exact absurd e.2 (by decide)))
  · have hB := h0 (fun e => ha e.1)
    have ya : a < 0 := by rw [i_lt]; have : (0 : Int32).toInt = 0 := rfl; omega
    exact t_M_isOrder_7 (d := d) a a 0 0 (fun _ _ => hB) (fun _ g => absurd ya g) (fun _ g => absurd ya g) (fun _ g => absurd ya g) (fun _ _ => hB) (fun _ g => absurd ya g) (fun _ g => absurd ya g)
