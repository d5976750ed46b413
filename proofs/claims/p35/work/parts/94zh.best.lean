/-! the best order: the class's search and the reference's scan -/
def bs (P : Nat → Prop) (V : Nat → Int32) (bo bw : Int32) : Prop := (bo = -1 ∧ ∀ o, ¬ P o) ∨ ∃ o : Nat, P o ∧ bo.toInt = o ∧ bw = V o ∧ ∀ o', P o' → (V o').toInt < (V o).toInt ∨ ((V o').toInt = (V o).toInt ∧ o ≤ o')
theorem bs_congr {P Q : Nat → Prop} {V : Nat → Int32} {bo bw : Int32} (h : ∀ o, P o ↔ Q o) (hb : bs P V bo bw) : bs Q V bo bw := by
  have e : P = Q := funext fun o => propext (h o)
  rw [← e]
  exact hb
theorem bs_uniq {P : Nat → Prop} {V : Nat → Int32} {b w b' w' : Int32} (h : bs P V b w) (h' : bs P V b' w') : b = b' := by
  rcases h with ⟨e, n⟩ | ⟨o, p, e, ew, m⟩
  · rcases h' with ⟨e', _⟩ | ⟨o', p', _⟩
    · rw [e, e']
    · exact absurd p' (n o')
  · rcases h' with ⟨_, n'⟩ | ⟨o', p', e', ew', m'⟩
    · exact absurd p (n' o)
    · have h1 := m o' p'
      have h2 := m' o p
      have : o = o' := by omega
      refine Int32.toInt_inj.mp ?_
      rw [e, e', this]
theorem bs_new {P : Nat → Prop} {V : Nat → Int32} {bo bw : Int32} (hb : bs P V bo bw) (o : Nat) (oi w : Int32) (hi : oi.toInt = o) (hw : w = V o) (hn : bo = -1 ∨ bw.toInt < w.toInt ∨ (w.toInt = bw.toInt ∧ oi.toInt < bo.toInt)) : bs (fun x => P x ∨ x = o) V oi w := by
  refine Or.inr ⟨o, Or.inr rfl, hi, hw, ?_⟩
  intro o' h'
  rcases h' with h' | h'
  · rcases hb with ⟨e, n⟩ | ⟨q, p, e, ew, m⟩
    · exact absurd h' (n o')
    · have hm := m o' h'
      rw [← hw]
      rcases hn with hn | hn | hn
      · rw [hn] at e
        have : (-1 : Int32).toInt = -1 := rfl
        omega
      · rw [ew] at hn; omega
      · rw [ew] at hn; omega
  · rw [h', ← hw]; exact Or.inr ⟨rfl, Nat.le_refl _⟩
theorem bs_old {P : Nat → Prop} {V : Nat → Int32} {bo bw : Int32} (hb : bs P V bo bw) (o : Nat) (w : Int32) (hw : w = V o) (hn : ¬ bo = -1 ∧ (w.toInt < bw.toInt ∨ (w.toInt = bw.toInt ∧ bo.toInt ≤ o))) : bs (fun x => P x ∨ x = o) V bo bw := by
  rcases hb with ⟨e, _⟩ | ⟨q, p, e, ew, m⟩
  · exact absurd e hn.1
  · refine Or.inr ⟨q, Or.inl p, e, ew, ?_⟩
    intro o' h'
    rcases h' with h' | h'
    · exact m o' h'
    · rw [h', ← hw, ← ew]
      have := hn.2
      omega
theorem sp_C_weigh {G : jv_X} {d : Nat} {B : Option Value → jg_H → Prop} {s : jg_H} {P : Nat → Prop} {V : Nat → Int32} (hb : bs P V (s 65 4) (s 65 5)) (o : Nat) (oi w : Int32) (hi : oi.toInt = o) (hw : w = V o) (hB : ∀ t : jg_H, bs (fun x => P x ∨ x = o) V (t 65 4) (t 65 5) → (∀ c j, ¬ (c = 65 ∧ (j = 4 ∨ j = 5)) → t c j = s c j) → B none t) : q_P G (d + 1) 116 [.ref 65, .int oi, .int w] s B := by
  have NEW : (s 65 4 = -1 ∨ (s 65 5).toInt < w.toInt ∨ (w.toInt = (s 65 5).toInt ∧ oi.toInt < (s 65 4).toInt)) → ∀ t : jg_H, t = jg_up (jg_up s 65 4 oi) 65 5 w → B none t := by
    intro h t e
    subst e
    refine hB _ ?_ ?_
    · rw [u_hit, u_j (by decide), u_hit]
      exact bs_new hb o oi w hi hw h
    · intro c j h
      rw [u_r (fun e e' => h ⟨e, Or.inr e'⟩), u_r (fun e e' => h ⟨e, Or.inl e'⟩)]
  have OLD : (¬ s 65 4 = -1 ∧ (w.toInt < (s 65 5).toInt ∨ (w.toInt = (s 65 5).toInt ∧ (s 65 4).toInt ≤ o))) → B none s := fun h => hB s (bs_old hb o w hw h) (fun _ _ _ => rfl)
  clear hB hb
  refine t_Foresight_weigh (d := d) oi w ?_ ?_ ?_ ?_ ?_
  · intro g s1 e1 s2 e2
    subst e1
    exact NEW (Or.inl g) s2 e2
  · intro g g' s1 e1 s2 e2
    subst e1
    exact NEW (Or.inr (Or.inl (by rw [i_le] at g'; omega))) s2 e2
  · intro g g1 g2
    refine OLD ⟨g, Or.inl ?_⟩
    rw [i_le] at g1
    have : ¬ w.toInt = (s 65 5).toInt := fun e => g2 (Int32.toInt_inj.mp e)
    omega
  · intro g _ g2 g3
    refine OLD ⟨g, Or.inr ⟨by rw [g2], ?_⟩⟩
    rw [i_lt] at g3
    omega
  · intro g _ g2 g3 s1 e1 s2 e2
    subst e1
    rw [i_lt] at g3
    exact NEW (Or.inr (Or.inr ⟨by rw [g2], g3⟩)) s2 e2
def fzz (D : Nat) (t t' : jg_H) : Prop := ∀ c j, ¬ (c = 65 ∧ (j = 4 ∨ j = 5)) → (∀ e, D < e → e < 6 → ¬ c = 80 + 2 * e ∧ ¬ c = 80 + 2 * e + 1 ∧ ¬ c = 73 + e) → ¬ c = 79 → ¬ c = 120 → ¬ c = 121 → t' c j = t c j
theorem fzz_0 {D : Nat} {s t : jg_H} (h : fzz D s t) : f_only 0 s t := by
  have gz : ∀ x, 71 ≤ x → x < 92 → ∀ j, g_of x j = 0 := by
    intro x h1 h2 j
    unfold g_of
    rw [if_neg (by omega), if_neg (by omega), if_neg (by omega), if_neg (by omega), if_neg (by omega), if_neg (by omega), if_neg (by omega), if_neg (by omega), if_pos h2]
  intro c j hg
  refine h c j (by rintro ⟨rfl, _⟩; exact hg rfl) (fun e h1 h2 => ⟨?_, ?_, ?_⟩) ?_ (by rintro rfl; exact hg rfl) (by rintro rfl; exact hg rfl)
  · intro e'; exact hg (gz c (by omega) (by omega) j)
  · intro e'; exact hg (gz c (by omega) (by omega) j)
  · intro e'; exact hg (gz c (by omega) (by omega) j)
  · intro e'; exact hg (gz c (by omega) (by omega) j)
set_option maxRecDepth 20000 in
theorem sp_C_search {G : jv_X} {d : Nat} {s : jg_H} (hI : Inv s) (n : Nat) (hn : (s 146 19).toInt = n) {A : Nat} (hA : A < 15) (V : Nat → Int32) : ∀ (m D S o pw : Nat) (g : Nat × (Nat → Int32) × (Nat → Int32)) (a3 a5 a6 : Int32) (t : jg_H) (P : Nat → Prop) (B : Option Value → jg_H → Prop), D + m = n → a3.toInt = D → S < 32 → a5.toInt = o → a6.toInt = pw → pw = 6 ^ D → o < pw → fs_ok g → f_only 0 s t → cl_at t n D g → (∀ r, o_C n m r S = true → V (o + pw * r) = x_sum s A (fs_run s m r g).1 (fs_run s m r g).2.1) → bs P V (t 65 4) (t 65 5) → (∀ t' : jg_H, bs (fun x => P x ∨ ∃ r, o_C n m r S = true ∧ x = o + pw * r) V (t' 65 4) (t' 65 5) → fzz D t t' → B none t') → q_P G (d + m + 7) 115 [.ref 0, .ref (2 + 2 * A), .int a3, .int (Int32.ofNat S), .int a5, .int a6] t B := by
  have n5 : n ≤ 5 := by have := hI.2.2.2.2.1.2.2.1; omega
  have h5' := f_m1 (i := A) hA
  intro m
  induction m with
  | zero =>
    intro D S o pw g a3 a5 a6 t P B e1 e3 hS e5 e6 hpw ho hg hf hat hV hb hB
    have eD : D = n := by omega
    subst eD
    have t66 : t 66 0 = s 146 19 := by rw [hf 66 0 (by decide : ¬ (5 : Nat) = 0)]; exact hI.2.2.2.2.1.1
    have nl : ¬ a3 < t 66 0 := by rw [t66, i_lt, hn, e3]; omega
    refine t2_C_search (d := d + 6) h5' a3 _ a5 a6 ?_ (fun g => absurd g nl) (fun g => absurd g nl)
    intro _
    have hm := (Inv_0 hI hf).1
    refine sp_C_behind (d := d + 3) hm D (by rw [t66]; exact hn) n5 hA g hg hat ?_
    refine t2_C_search_33 (d := d + 6) h5' a3 _ a5 a6 a5 _ ?_
    have hv := hV 0 rfl
    rw [Nat.mul_zero, Nat.add_zero] at hv
    refine sp_C_weigh (d := d + 5) hb o a5 _ e5 (by rw [hv, x_sum_mo (mo_0 hf)]; rfl) ?_
    intro t' hb' hf'
    refine t2_C_search_36 (d := d + 6) h5' a3 _ a5 a6 ?_
    refine hB t' (bs_congr (fun x => ?_) hb') (fun c j h1 _ _ _ _ => hf' c j h1)
    constructor
    · rintro (h | h)
      · exact Or.inl h
      · exact Or.inr ⟨0, rfl, by rw [Nat.mul_zero, Nat.add_zero]; exact h⟩
    · rintro (h | ⟨r, h, h'⟩)
      · exact Or.inl h
      · unfold o_C at h
        have : r = 0 := by simpa using h
        subst this
        rw [Nat.mul_zero, Nat.add_zero] at h'
        exact Or.inr h'
  | succ m ih =>
    intro D S o pw g a3 a5 a6 t P B e1 e3 hS e5 e6 hpw ho hg hf hat hV hb hB
    have D5 : D < 5 := by omega
    have pw5 : pw ≤ 1296 := by
      rw [hpw]
      rcases (by omega : D = 0 ∨ D = 1 ∨ D = 2 ∨ D = 3 ∨ D = 4) with e | e | e | e | e <;> subst e <;> decide
    have pw6 : pw * 6 = 6 ^ (D + 1) := by rw [hpw, Nat.pow_succ]
    have lt5 : a3 < 5 := by rw [i_lt, e3]; have : (5 : Int32).toInt = 5 := rfl; omega
    have A6 : (a6 * 6).toInt = ((pw * 6 : Nat) : Int) := by clear hV hb hB hat hf hI ih hg lt5 pw6 hpw; ((try simp only [i_lt, i_le, i_eq, i_in, i_cn, Int32.toInt_add, Int32.toInt_sub, Int32.toInt_mul, Int32.toInt_neg, Int32.reduceToInt, Int.bmod_add_bmod, Int.add_bmod_bmod, Int.bmod_sub_bmod, Int.sub_bmod_bmod, Int.bmod_mul_bmod, Int.mul_bmod_bmod, Int.bmod_neg_bmod, Nat.reducePow, Int.reduceBmod, Int.reduceNeg, Int.reduceMul, Int.reduceAdd, Int.reduceSub, not_true_eq_false, not_false_eq_true] at *) <;> (try simp (disch := omega) only [i_bm'] at *) <;> omega)
    have A3 : (a3 + 1).toInt = ((D + 1 : Nat) : Int) := by clear hV hb hB hat hf hI ih hg lt5 pw6 hpw A6; ((try simp only [i_lt, i_le, i_eq, i_in, i_cn, Int32.toInt_add, Int32.toInt_sub, Int32.toInt_mul, Int32.toInt_neg, Int32.reduceToInt, Int.bmod_add_bmod, Int.add_bmod_bmod, Int.bmod_sub_bmod, Int.sub_bmod_bmod, Int.bmod_mul_bmod, Int.mul_bmod_bmod, Int.bmod_neg_bmod, Nat.reducePow, Int.reduceBmod, Int.reduceNeg, Int.reduceMul, Int.reduceAdd, Int.reduceSub, not_true_eq_false, not_false_eq_true] at *) <;> (try simp (disch := omega) only [i_bm'] at *) <;> omega)
    have t66 : t 66 0 = s 146 19 := by rw [hf 66 0 (by decide : ¬ (5 : Nat) = 0)]; exact hI.2.2.2.2.1.1
    have lt : a3 < t 66 0 := by rw [t66, i_lt, hn, e3]; omega
    refine t2_C_search (d := d + m + 7) h5' a3 _ a5 a6 (fun g => absurd lt g) ?_ (fun _ g => absurd lt5 g)
    intro _ _
    have LOOP : ∀ (mm q : Nat) (x7 : Int32) (u : jg_H), q + mm = n → x7.toInt = q → fzz D t u → bs (fun x => P x ∨ ∃ r, o_C n (m + 1) r S = true ∧ r % 6 < q ∧ x = o + pw * r) V (u 65 4) (u 65 5) → q_W G (d + m + 7) jm_C_search B 40 [some (.ref 0), some (.ref (2 + 2 * A)), some (.int a3), some (.int (Int32.ofNat S)), some (.int a5), some (.int a6), some (.ref 65), some (.int x7)] [] u := by
      intro mm
      induction mm with
      | zero =>
        intro q x7 u f1 f7 hfu hbu
        have eq : q = n := by omega
        subst eq
        have u66 : u 66 0 = s 146 19 := by rw [hfu 66 0 (by omega) (by omega) (by omega) (by omega) (by omega)]; exact t66
        have nl : ¬ x7 < u 66 0 := by rw [u66, i_lt, hn, f7]; omega
        refine t2_C_search_40 (d := d + m + 7) h5' a3 _ a5 a6 x7 ?_ (fun g => absurd g nl) (fun g => absurd g nl)
        intro _
        refine hB u (bs_congr (fun x => ?_) hbu) hfu
        constructor
        · rintro (h | ⟨r, h1, _, h3⟩)
          · exact Or.inl h
          · exact Or.inr ⟨r, h1, h3⟩
        · rintro (h | ⟨r, h1, h3⟩)
          · exact Or.inl h
          · refine Or.inr ⟨r, h1, ?_, h3⟩
            unfold o_C at h1
            by_cases hr : q ≤ r % 6
            · rw [if_pos hr] at h1; exact absurd h1 (by decide)
            · omega
      | succ mm ihh =>
        intro q x7 u f1 f7 hfu hbu
        have u66 : u 66 0 = s 146 19 := by rw [hfu 66 0 (by omega) (by omega) (by omega) (by omega) (by omega)]; exact t66
        have ul : x7 < u 66 0 := by rw [u66, i_lt, hn, f7]; omega
        have X7 : (x7 + 1).toInt = ((q + 1 : Nat) : Int) := by clear hV hb hB hat hf hI ih ihh hg lt5 pw6 hpw A6 A3 hbu hfu u66 ul t66 lt; ((try simp only [i_lt, i_le, i_eq, i_in, i_cn, Int32.toInt_add, Int32.toInt_sub, Int32.toInt_mul, Int32.toInt_neg, Int32.reduceToInt, Int.bmod_add_bmod, Int.add_bmod_bmod, Int.bmod_sub_bmod, Int.sub_bmod_bmod, Int.bmod_mul_bmod, Int.mul_bmod_bmod, Int.bmod_neg_bmod, Nat.reducePow, Int.reduceBmod, Int.reduceNeg, Int.reduceMul, Int.reduceAdd, Int.reduceSub, not_true_eq_false, not_false_eq_true] at *) <;> (try simp (disch := omega) only [i_bm'] at *) <;> omega)
        have ex := of_n f7
        refine t2_C_search_40 (d := d + m + 7) h5' a3 _ a5 a6 x7 (fun g => absurd ul g) ?_ ?_
        · intro _ gb
          rw [ex] at gb
          have tb := (bt_1 S hS q (by omega)).mp gb
          have fu : f_only 0 s u := fun c j hg' => (fzz_0 hfu c j hg').trans (hf c j hg')
          have hIu := Inv_0 hI fu
          have u19 : u 146 19 = s 146 19 := fu 146 19 (by decide : ¬ (5 : Nat) = 0)
          have hatu : cl_at u n D g := by
            obtain ⟨c1, c2, c3⟩ := hat
            refine ⟨?_, fun j hj => ?_, fun j hj => ?_⟩
            · rw [hfu _ _ (by omega) (by omega) (by omega) (by omega) (by omega)]; exact c1
            · rw [hfu _ _ (by omega) (by omega) (by omega) (by omega) (by omega)]; exact c2 j hj
            · rw [hfu _ _ (by omega) (by omega) (by omega) (by omega) (by omega)]; exact c3 j hj
          refine sp_C_fone (d := d + m + 1) hIu n (by rw [u19]; exact hn) g hg D D5 q (by omega) a3 x7 e3 f7 hatu ?_
          intro v hatv hz
          rw [fs_mo (mo_0 fu)] at hatv
          have fv : f_only 0 s v := fun c j hg' => (fz_0 (by omega) hz c j hg').trans (fu c j hg')
          have v654 : v 65 4 = u 65 4 := hz 65 4 (by omega) (by omega) (by omega) (by omega) (by omega) (by omega)
          have v655 : v 65 5 = u 65 5 := hz 65 5 (by omega) (by omega) (by omega) (by omega) (by omega) (by omega)
          refine t2_C_search_72 (d := d + m + 7) h5' a3 _ a5 a6 x7 ?_
          obtain ⟨c1, c2⟩ := bt_2 S hS q (by omega)
          rw [← ex] at c1
          rw [c1]
          have hqp : q * pw ≤ 4 * pw := Nat.mul_le_mul_right pw (by omega)
          have A5 : (a5 + (x7 * a6)).toInt = ((o + q * pw : Nat) : Int) := by
            have e7 : (x7 * a6).toInt = ((q * pw : Nat) : Int) := by
              rw [Int32.toInt_mul, f7, e6, ← Int.natCast_mul]
              exact i_bm' _ (by omega) (by omega)
            rw [Int32.toInt_add, e5, e7]
            rw [i_bm' _ (by omega) (by omega)]
            omega
          have nxt : ∀ r', o_C n m r' (S ||| 2 ^ q) = true → o_C n (m + 1) (q + 6 * r') S = true ∧ (q + 6 * r') % 6 = q ∧ (q + 6 * r') / 6 = r' := by
            intro r' hr'
            have h1 : (q + 6 * r') % 6 = q := by omega
            have h2 : (q + 6 * r') / 6 = r' := by omega
            refine ⟨?_, h1, h2⟩
            unfold o_C
            rw [h1, h2, if_neg (by omega), tb, if_neg (by decide)]
            exact hr'
          refine ih (D + 1) (S ||| 2 ^ q) (o + q * pw) (pw * 6) (fs_step s g q) _ _ _ v (fun x => P x ∨ ∃ r, o_C n (m + 1) r S = true ∧ r % 6 < q ∧ x = o + pw * r) _ (by omega) A3 c2 A5 A6 pw6 (by omega) (fs_ok_step (tl_I hI) hg (by omega)) fv hatv ?_ (by rw [v654, v655]; exact hbu) ?_
          · intro r' hr'
            obtain ⟨n1, n2, n3⟩ := nxt r' hr'
            have hv := hV (q + 6 * r') n1
            have ee : o + pw * (q + 6 * r') = o + q * pw + pw * 6 * r' := by
              rw [Nat.mul_add, ← Nat.mul_assoc, Nat.mul_comm pw q]; omega
            rw [ee] at hv
            have er : fs_run s (m + 1) (q + 6 * r') g = fs_run s m r' (fs_step s g q) := by
              show fs_run s m ((q + 6 * r') / 6) (fs_step s g ((q + 6 * r') % 6)) = _
              rw [n2, n3]
            rw [hv, er]
          · intro w hbw hfw
            refine t2_C_search_99 (d := d + m + 7) h5' a3 _ a5 a6 x7 ?_
            refine ihh (q + 1) _ w (by omega) X7 ?_ (bs_congr (fun x => ?_) hbw)
            · intro c j h1 h2 h3 h4 h5
              rw [hfw c j h1 (fun e p1 p2 => h2 e (by omega) p2) h3 h4 h5]
              rw [hz c j (h2 (D + 1) (by omega) (by omega)).1 (h2 (D + 1) (by omega) (by omega)).2.1 (h2 (D + 1) (by omega) (by omega)).2.2 h3 h4 h5]
              exact hfu c j h1 h2 h3 h4 h5
            · constructor
              · rintro ((h | ⟨r, h1, h2, h3⟩) | ⟨r', h1, h3⟩)
                · exact Or.inl h
                · exact Or.inr ⟨r, h1, by omega, h3⟩
                · obtain ⟨n1, n2, n3⟩ := nxt r' h1
                  refine Or.inr ⟨q + 6 * r', n1, by omega, ?_⟩
                  rw [h3, Nat.mul_add, ← Nat.mul_assoc, Nat.mul_comm pw q]; omega
              · rintro (h | ⟨r, h1, h2, h3⟩)
                · exact Or.inl (Or.inl h)
                · by_cases hr : r % 6 < q
                  · exact Or.inl (Or.inr ⟨r, h1, hr, h3⟩)
                  · have hq' : r % 6 = q := by omega
                    refine Or.inr ⟨r / 6, ?_, ?_⟩
                    · unfold o_C at h1
                      rw [hq', if_neg (by omega), tb, if_neg (by decide)] at h1
                      exact h1
                    · have er : r = q + 6 * (r / 6) := by omega
                      rw [h3]
                      generalize r / 6 = z at *
                      rw [er, Nat.mul_add, ← Nat.mul_assoc, Nat.mul_comm pw q]
                      omega
        · intro _ gb
          rw [ex] at gb
          have tb : S.testBit q = true := by
            by_cases e : S.testBit q = true
            · exact e
            · exact absurd ((bt_1 S hS q (by omega)).mpr (Bool.eq_false_iff.mpr e)) gb
          refine ihh (q + 1) _ u (by omega) X7 hfu (bs_congr (fun x => ?_) hbu)
          constructor
          · rintro (h | ⟨r, h1, h2, h3⟩)
            · exact Or.inl h
            · exact Or.inr ⟨r, h1, by omega, h3⟩
          · rintro (h | ⟨r, h1, h2, h3⟩)
            · exact Or.inl h
            · refine Or.inr ⟨r, h1, ?_, h3⟩
              by_cases hr : r % 6 < q
              · exact hr
              · have hq' : r % 6 = q := by omega
                unfold o_C at h1
                rw [hq', if_neg (by omega), if_pos tb] at h1
                exact absurd h1 (by decide)
    refine LOOP n 0 0 t (by omega) (by decide) (fun _ _ _ _ _ _ _ => rfl) (bs_congr (fun x => ?_) hb)
    constructor
    · exact Or.inl
    · rintro (h | ⟨r, _, h2, _⟩)
      · exact h
      · omega
set_option maxRecDepth 20000 in
theorem sp_M_scan {G : jv_X} {d : Nat} {B : Option Value → jg_H → Prop} {s u : jg_H} (hI : Inv s) (hm : f_mo s u) (n : Nat) (hn : (s 146 19).toInt = n) (hu : 0 ≤ (s 146 13).toInt) (a : Int32) (ha : 0 ≤ a.toInt) (ha' : a.toInt < 15) (V : Nat → Int32) (hV : ∀ r, o_C n n r 0 = true → V r = x_sum s a.toNatClampNeg (fs_run s n r (fs_0 s)).1 (fs_run s n r (fs_0 s)).2.1) (hB : ∀ (t : jg_H) (bo bw : Int32), f_only 0 u t → bs (fun x => x < 7776 ∧ o_C n n x 0 = true) V bo bw → B (some (.int bo)) t) : q_W G (d + 6) jm_M_best B 29 [some (.ref 146), some (.int a), some (.int (-1)), some (.int 0), some (.int 0), none] [] u := by
  have n5 : n ≤ 5 := by have := hI.2.2.2.2.1.2.2.1; omega
  have lp : ∀ (m k : Nat) (x2 x3 x4 : Int32) (o5 : Option Value) (t : jg_H), k + m = 7776 → x4.toInt = k → f_n o5 = true → f_only 0 u t → bs (fun x => x < k ∧ o_C n n x 0 = true) V x2 x3 → q_W G (d + 6) jm_M_best B 29 [some (.ref 146), some (.int a), some (.int x2), some (.int x3), some (.int x4), o5] [] t := by
    intro m
    induction m with
    | zero =>
      intro k x2 x3 x4 o5 t e1 e4 h5 hf hb
      have ek : k = 7776 := by omega
      subst ek
      have nl : ¬ x4 < 7776 := by rw [i_lt, e4]; have : (7776 : Int32).toInt = 7776 := rfl; omega
      refine t_M_best_29 (d := d + 4) a x2 x3 x4 h5 ?_ (fun g => absurd g nl)
      intro _
      exact hB t x2 x3 hf hb
    | succ m ih =>
      intro k x2 x3 x4 o5 t e1 e4 h5 hf hb
      have yl : x4 < 7776 := by rw [i_lt, e4]; have : (7776 : Int32).toInt = 7776 := rfl; omega
      have X4 : (x4 + 1).toInt = ((k + 1 : Nat) : Int) := by clear hV hb hB hf hI ih yl hm; ((try simp only [i_lt, i_le, i_eq, i_in, i_cn, Int32.toInt_add, Int32.toInt_sub, Int32.toInt_mul, Int32.toInt_neg, Int32.reduceToInt, Int.bmod_add_bmod, Int.add_bmod_bmod, Int.bmod_sub_bmod, Int.sub_bmod_bmod, Int.bmod_mul_bmod, Int.mul_bmod_bmod, Int.bmod_neg_bmod, Nat.reducePow, Int.reduceBmod, Int.reduceNeg, Int.reduceMul, Int.reduceAdd, Int.reduceSub, not_true_eq_false, not_false_eq_true] at *) <;> (try simp (disch := omega) only [i_bm'] at *) <;> omega)
      have mt := mo_trans hm (mo_0 hf)
      have t19 : t 146 19 = s 146 19 := mt 146 19 (by decide) (by decide : ¬ (5 : Nat) = 0)
      have k4 : x4.toInt.toNat = k := by omega
      refine t_M_best_29 (d := d + 4) a x2 x3 x4 h5 (fun g => absurd yl g) ?_
      intro _
      refine sp_M_isOrder (d := d + 5) n (by rw [t19]; exact hn) n5 x4 ?_ ?_
      · intro h0 ho
        refine t_M_best_43 (d := d + 4) a x2 x3 x4 h5 1 (fun g => absurd g (by decide)) ?_
        intro _
        refine sp_M_foresees (d := d) hI mt n hn hu x4 h0 ho ?_
        intro t2 hat hf2
        rw [k4] at hat ho
        refine t_M_best_52 (d := d + 4) a x2 x3 x4 h5 ?_
        have hg := fs_run_ok (tl_I hI) n hn n k 0 (fs_0 s) ho (fs_0_ok hI)
        refine sp_M_worth (d := d + 5) _ hg hat a ha ha' ?_
        have f2 : f_only 0 u t2 := fun c j hg' => (mfz_0 hf2 c j hg').trans (hf c j hg')
        rw [x_sum_mo (mo_trans hm (mo_0 f2)), ← hV k ho]
        have ADD : bs (fun x => (x < k ∧ o_C n n x 0 = true) ∨ x = k) V = bs (fun x => x < k + 1 ∧ o_C n n x 0 = true) V := by
          have e : (fun x => (x < k ∧ o_C n n x 0 = true) ∨ x = k) = (fun x => x < k + 1 ∧ o_C n n x 0 = true) := by
            funext x
            refine propext ⟨?_, ?_⟩
            · rintro (⟨h1, h2⟩ | h)
              · exact ⟨by omega, h2⟩
              · subst h; exact ⟨by omega, ho⟩
            · rintro ⟨h1, h2⟩
              by_cases h : x = k
              · exact Or.inr h
              · exact Or.inl ⟨by omega, h2⟩
          rw [e]
        refine t_M_best_57 (d := d + 4) a x2 x3 x4 h5 (V k) ?_ ?_ ?_
        · intro g
          refine ih (k + 1) _ _ _ _ t2 (by omega) X4 rfl f2 ?_
          rw [← ADD]
          exact bs_new hb k x4 (V k) e4 rfl (Or.inl g)
        · intro g g'
          refine ih (k + 1) _ _ _ _ t2 (by omega) X4 rfl f2 ?_
          rw [← ADD]
          refine bs_old hb k (V k) rfl ⟨g, ?_⟩
          rw [i_le] at g'
          rcases hb with ⟨e, _⟩ | ⟨q, p, e, _, _⟩
          · exact absurd e g
          · by_cases h : (V k).toInt = x3.toInt
            · exact Or.inr ⟨h, by have := p.1; omega⟩
            · exact Or.inl (by omega)
        · intro g g'
          refine ih (k + 1) _ _ _ _ t2 (by omega) X4 rfl f2 ?_
          rw [← ADD]
          rw [i_le] at g'
          exact bs_new hb k x4 (V k) e4 rfl (Or.inr (Or.inl (by omega)))
      · intro ho
        rw [k4] at ho
        refine t_M_best_43 (d := d + 4) a x2 x3 x4 h5 0 ?_ (fun g => absurd rfl g)
        intro _
        refine ih (k + 1) _ _ _ _ t (by omega) X4 h5 hf (bs_congr (fun x => ?_) hb)
        constructor
        · rintro ⟨h1, h2⟩; exact ⟨by omega, h2⟩
        · rintro ⟨h1, h2⟩
          refine ⟨?_, h2⟩
          by_cases h : x = k
          · subst h; exact absurd ⟨by omega, h2⟩ ho
          · omega
  refine lp 7776 0 (-1) 0 0 none u (by omega) (by decide) rfl (fun _ _ _ => rfl) (Or.inl ⟨rfl, fun o h => absurd h.1 (Nat.not_lt_zero o)⟩)
