/-! what stands in an act's way -/
def f_act (s : jg_H) (k m a w : Int32) : Prop := (0 ≤ k.toInt ∧ k.toInt ≤ 6 ∧ 0 ≤ m.toInt ∧ m.toInt < (s 146 0).toInt) ∧ (k.toInt = 2 ∨ k.toInt = 3 → 1 ≤ w.toInt ∧ w.toInt ≤ 60) ∧ (k.toInt = 6 → 0 ≤ w.toInt ∧ w.toInt < (s 146 14).toInt) ∧ (1 ≤ k.toInt ∧ k.toInt ≤ 3 ∧ ¬ (s 146 13).toInt = -1 → 0 ≤ a.toInt ∧ a.toInt ≤ (s 153 (s 146 13).toNatClampNeg).toInt ∧ (¬ k.toInt = 2 → a.toInt < (s 153 (s 146 13).toNatClampNeg).toInt))
def f_hin (s : jg_H) (k m : Int32) : Int32 :=
  if (s 146 13).toInt = -1 ∧ ¬ k.toInt = 6 then 1 else if 100 ≤ (s 146 17).toInt then 2 else if (s 151 m.toNatClampNeg).toInt = 0 then 3
  else if ((k.toInt = 0 ∨ k.toInt = 6) ∧ ¬ (s 146 18).toInt = 0) ∨ (¬ (k.toInt = 0 ∨ k.toInt = 6) ∧ (s 146 18).toInt = 0) then 4
  else if 0 < (s 146 18).toInt ∧ (x_r s 0 k m).toInt ≤ (x_r s 0 (s 157 ((s 146 18) - 1).toNatClampNeg) (s 158 ((s 146 18) - 1).toNatClampNeg)).toInt then 5
  else if (x_r s 1 k m).toInt = 0 then 6 else if (s 146 18).toInt = 8 then 7 else 0
theorem f_hin_b (s : jg_H) (k m : Int32) : 0 ≤ (f_hin s k m).toInt ∧ (f_hin s k m).toInt ≤ 7 := by
  unfold f_hin
  repeat' split
  all_goals decide
theorem f_act_mo {s t : jg_H} (h : f_mo s t) : f_act t = f_act s := by
  have e0 : t 146 0 = s 146 0 := h 146 0 (by decide) (by decide : ¬ (1 : Nat) = 0)
  have e1 : t 146 14 = s 146 14 := h 146 14 (by decide) (by decide : ¬ (6 : Nat) = 0)
  have e2 : t 146 13 = s 146 13 := h 146 13 (by decide) (by decide : ¬ (3 : Nat) = 0)
  have e3 : t 153 = s 153 := funext fun j => h 153 j (by decide) (by decide : ¬ (2 : Nat) = 0)
  unfold f_act
  rw [e0, e1, e2, e3]
/-- which motion lies on top -/
theorem top_mo {s t : jg_H} (h : f_mo s t) (hn : 0 ≤ (s 146 18).toInt ∧ (s 146 18).toInt ≤ 8) (hp : 0 < (s 146 18).toInt) : t 157 ((s 146 18) - 1).toNatClampNeg = s 157 ((s 146 18) - 1).toNatClampNeg ∧ t 158 ((s 146 18) - 1).toNatClampNeg = s 158 ((s 146 18) - 1).toNatClampNeg := by
  have hN : ((s 146 18) - 1).toNatClampNeg < 8 := by clear h; (try simp only [i_lt, i_le, i_eq, i_in, i_cn, Int32.toInt_add, Int32.toInt_sub, Int32.toInt_mul, Int32.toInt_neg, Int32.reduceToInt, Int.bmod_add_bmod, Int.add_bmod_bmod, Int.bmod_sub_bmod, Int.sub_bmod_bmod, Int.bmod_mul_bmod, Int.mul_bmod_bmod, Int.bmod_neg_bmod, Nat.reducePow, Int.reduceBmod, Int.reduceNeg, Int.reduceMul, Int.reduceAdd, Int.reduceSub, not_true_eq_false, not_false_eq_true] at *) <;> (try simp (disch := omega) only [i_bm'] at *); omega
  exact ⟨h _ _ (by decide) (by rw [g_4 (by decide) (by decide) hN]; decide), h _ _ (by decide) (by rw [g_4 (by decide) (by decide) hN]; decide)⟩
theorem f_hin_mo {s t : jg_H} (h : f_mo s t) (hn : 0 ≤ (s 146 18).toInt ∧ (s 146 18).toInt ≤ 8) : f_hin t = f_hin s := by
  have e1 : t 146 17 = s 146 17 := h 146 17 (by decide) (by decide : ¬ (8 : Nat) = 0)
  have e2 : t 146 13 = s 146 13 := h 146 13 (by decide) (by decide : ¬ (3 : Nat) = 0)
  have e3 : t 151 = s 151 := funext fun j => h 151 j (by decide) (by decide : ¬ (1 : Nat) = 0)
  have e4 : t 146 18 = s 146 18 := h 146 18 (by decide) (by decide : ¬ (4 : Nat) = 0)
  funext k m
  unfold f_hin
  rw [e1, e2, e3, e4, x_r_mo h]
  by_cases hp : 0 < (s 146 18).toInt
  · rw [(top_mo h hn hp).1, (top_mo h hn hp).2]
  · have hq : ∀ P : Prop, (0 < (s 146 18).toInt ∧ P) = False := fun P => eq_false (fun e => hp e.1)
    simp only [hq]
/-- where nothing stands in the way -/
theorem f_hin_0 {s : jg_H} {k m : Int32} (h : f_hin s k m = 0) : (¬ (s 146 13).toInt = -1 ∨ k.toInt = 6) ∧ (s 146 17).toInt < 100 ∧ ¬ (s 146 18).toInt = 8 := by
  unfold f_hin at h
  by_cases e1 : (s 146 13).toInt = -1 ∧ ¬ k.toInt = 6
  · rw [if_pos e1] at h; exact absurd h (by decide)
  · rw [if_neg e1] at h
    by_cases e2 : 100 ≤ (s 146 17).toInt
    · rw [if_pos e2] at h; exact absurd h (by decide)
    · rw [if_neg e2] at h
      split at h
      · exact absurd h (by decide)
      · split at h
        · exact absurd h (by decide)
        · split at h
          · exact absurd h (by decide)
          · split at h
            · exact absurd h (by decide)
            · split at h
              · exact absurd h (by decide)
              · exact ⟨by omega, by omega, by assumption⟩
set_option maxRecDepth 20000 in
theorem sp_M_isAct {G : jv_X} {d : Nat} {B : Option Value → jg_H → Prop} {s : jg_H} (hJ : J s) (k m a w : Int32) (h1 : f_act s k m a w → B (some (.int 1)) s) (h0 : ¬ f_act s k m a w → B (some (.int 0)) s) : q_P G (d + 3) 183 [.ref 146, .int k, .int m, .int a, .int w] s B := by
  obtain ⟨b2, b3⟩ := J_n hJ
  obtain ⟨x3, x5, x6⟩ := J_x hJ
  obtain ⟨c2, c3, d7, d8⟩ := J_u hJ
  have c4 := J_b hJ (s 146 13)
  clear hJ
  unfold f_act at h1 h0
  refine t_M_isAct (d := d) k m a w ?_ ?_ ?_ ?_ ?_ ?_ ?_ ?_ ?_ ?_ ?_ ?_ ?_ ?_ ?_ ?_ ?_ ?_ ?_ ?_ ?_ ?_ ?_ ?_ ?_ ?_ ?_ ?_ ?_ ?_ ?_ ?_ ?_ ?_ ?_ ?_ ?_ ?_ ?_ ?_ ?_ ?_ ?_ ?_ ?_ ?_ ?_ ?_ ?_ ?_ ?_ ?_ ?_ ?_
  all_goals (intros; first
    | (exfalso; clear h1 h0 c4; ((try simp only [i_lt, i_le, i_eq, i_in, i_cn, Int32.toInt_add, Int32.toInt_sub, Int32.toInt_mul, Int32.toInt_neg, Int32.reduceToInt, Int.bmod_add_bmod, Int.add_bmod_bmod, Int.bmod_sub_bmod, Int.sub_bmod_bmod, Int.bmod_mul_bmod, Int.mul_bmod_bmod, Int.bmod_neg_bmod, Nat.reducePow, Int.reduceBmod, Int.reduceNeg, Int.reduceMul, Int.reduceAdd, Int.reduceSub, not_true_eq_false, not_false_eq_true] at *) <;> (try simp (disch := omega) only [i_bm'] at *) <;> omega))
    | (clear h1 h0 c4; ((try simp only [i_lt, i_le, i_eq, i_in, i_cn, Int32.toInt_add, Int32.toInt_sub, Int32.toInt_mul, Int32.toInt_neg, Int32.reduceToInt, Int.bmod_add_bmod, Int.add_bmod_bmod, Int.bmod_sub_bmod, Int.sub_bmod_bmod, Int.bmod_mul_bmod, Int.mul_bmod_bmod, Int.bmod_neg_bmod, Nat.reducePow, Int.reduceBmod, Int.reduceNeg, Int.reduceMul, Int.reduceAdd, Int.reduceSub, not_true_eq_false, not_false_eq_true] at *) <;> (try simp (disch := omega) only [i_bm'] at *) <;> omega))
    | (exfalso; clear h1 h0; ((try simp only [i_lt, i_le, i_eq, i_in, i_cn, Int32.toInt_add, Int32.toInt_sub, Int32.toInt_mul, Int32.toInt_neg, Int32.reduceToInt, Int.bmod_add_bmod, Int.add_bmod_bmod, Int.bmod_sub_bmod, Int.sub_bmod_bmod, Int.bmod_mul_bmod, Int.mul_bmod_bmod, Int.bmod_neg_bmod, Nat.reducePow, Int.reduceBmod, Int.reduceNeg, Int.reduceMul, Int.reduceAdd, Int.reduceSub, not_true_eq_false, not_false_eq_true] at *) <;> (try simp (disch := omega) only [i_bm'] at *) <;> omega))
    | (refine h1 ?_; clear h1 h0; ((try simp only [i_lt, i_le, i_eq, i_in, i_cn, Int32.toInt_add, Int32.toInt_sub, Int32.toInt_mul, Int32.toInt_neg, Int32.reduceToInt, Int.bmod_add_bmod, Int.add_bmod_bmod, Int.bmod_sub_bmod, Int.sub_bmod_bmod, Int.bmod_mul_bmod, Int.mul_bmod_bmod, Int.bmod_neg_bmod, Nat.reducePow, Int.reduceBmod, Int.reduceNeg, Int.reduceMul, Int.reduceAdd, Int.reduceSub, not_true_eq_false, not_false_eq_true] at *) <;> (try simp (disch := omega) only [i_bm'] at *) <;> omega))
    | (refine h0 ?_; clear h1 h0; ((try simp only [i_lt, i_le, i_eq, i_in, i_cn, Int32.toInt_add, Int32.toInt_sub, Int32.toInt_mul, Int32.toInt_neg, Int32.reduceToInt, Int.bmod_add_bmod, Int.add_bmod_bmod, Int.bmod_sub_bmod, Int.sub_bmod_bmod, Int.bmod_mul_bmod, Int.mul_bmod_bmod, Int.bmod_neg_bmod, Nat.reducePow, Int.reduceBmod, Int.reduceNeg, Int.reduceMul, Int.reduceAdd, Int.reduceSub, not_true_eq_false, not_false_eq_true] at *) <;> (try simp (disch := omega) only [i_bm'] at *) <;> omega)))
