/-! heaps with both sides' changes: the class's run keeps to their lower cells, the reference's to their upper ones -/
def f_lo (V t : jg_H) : Prop := ∀ c j, c < 146 → ¬ g_of c j = 0 → t c j = V c j
def f_hs (s t : jg_H) : Prop := ∀ c, 146 ≤ c → t c = s c
def f_ls (s t : jg_H) : Prop := ∀ c, c < 146 → t c = s c
theorem lo_up {V t : jg_H} {c j : Nat} {v : Int32} (h : f_lo V t) : f_lo (jg_up V c j v) (jg_up t c j v) := fun a i ha hg => by
  unfold jg_up
  split
  · rfl
  · exact h a i ha hg
theorem lo_hi {V t : jg_H} {c j : Nat} {v : Int32} (hc : 146 ≤ c) (h : f_lo V t) : f_lo (jg_up V c j v) t := fun a i ha hg => by
  rw [u_c (by omega)]
  exact h a i ha hg
theorem mo_up {V t : jg_H} {c j : Nat} {v : Int32} (h : f_mo V t) : f_mo (jg_up V c j v) (jg_up t c j v) := fun a i ha hg => by
  unfold jg_up
  split
  · rfl
  · exact h a i ha hg
theorem mo_lo {V t : jg_H} {c j : Nat} {v : Int32} (hc : c < 146) (h : f_mo V t) : f_mo (jg_up V c j v) t := fun a i ha hg => by
  rw [u_c (by omega)]
  exact h a i ha hg
theorem lo_mo {V T : jg_H} (h : f_lo V T) (h' : f_mo V T) : f_only 0 V T := fun c j hg => by
  by_cases hc : c < 146
  · exact h c j hc hg
  · exact h' c j (by omega) hg
theorem lo_0 {V t u : jg_H} (h : f_lo V t) (h' : f_only 0 t u) : f_lo V u := fun c j hc hg => (h' c j hg).trans (h c j hc hg)
theorem lo_ls {V t u : jg_H} (h : f_lo V t) (h' : f_ls t u) : f_lo V u := fun c j hc hg => (congrFun (h' c hc) j).trans (h c j hc hg)
theorem hs_up {s t : jg_H} {c j : Nat} {v : Int32} (hc : c < 146) (h : f_hs s t) : f_hs s (jg_up t c j v) := fun a ha => by
  funext i
  rw [u_c (by omega)]
  exact congrFun (h a ha) i
theorem ls_up {s t : jg_H} {c j : Nat} {v : Int32} (hc : 146 ≤ c) (h : f_ls s t) : f_ls s (jg_up t c j v) := fun a ha => by
  funext i
  rw [u_c (by omega)]
  exact congrFun (h a ha) i
theorem hs_trans {s t u : jg_H} (h : f_hs s t) (h' : f_hs t u) : f_hs s u := fun a ha => (h' a ha).trans (h a ha)
theorem ls_trans {s t u : jg_H} (h : f_ls s t) (h' : f_ls t u) : f_ls s u := fun a ha => (h' a ha).trans (h a ha)
/-- the ballot's last vote, and one motion fewer -/
def V1 (s : jg_H) (y n k c v : Int32) : jg_H := jg_up (jg_up (jg_up (jg_up (jg_up (jg_up (jg_up (jg_up (jg_up (jg_up s 122 0 y) 122 1 n) 122 2 k) 122 3 c) 146 25 y) 146 26 n) 146 27 k) 146 28 c) 60 0 v) 146 18 v
theorem Inv_V1 {s : jg_H} (hI : Inv s) (y n k c v : Int32) (hc : c = 0 ∨ c = 1) (h0 : 0 ≤ v.toInt) (hv : v.toInt ≤ (s 146 18).toInt) : Inv (V1 s y n k c v) := by
  unfold V1
  have h : Inv (jg_up (jg_up (jg_up (jg_up (jg_up (jg_up (jg_up (jg_up s 122 0 y) 122 1 n) 122 2 k) 122 3 c) 146 25 y) 146 26 n) 146 27 k) 146 28 c) := by
    obtain ⟨hm, hb, hk, hp, ht, hx, hr, hz, hy, hk'⟩ := hI
    refine ⟨fr_mem (by repeat' (first | exact fs_refl | (refine fs_up ?_ (by first | exact Nat.ne_of_beq_eq_false rfl | (rw [g_1 (by omega) (by omega)]; decide) | (rw [g_2 (by omega) (by omega)]; decide) | (rw [g_6 (by omega) (by omega)]; decide) | (rw [g_10 (by omega) (by omega)]; decide) | (rw [g_4 (by omega) (by omega) (by omega)]; decide) | (rw [g_4' (by omega) (by omega) (by omega)]; decide))))) hm, fr_bil (by repeat' (first | exact fs_refl | (refine fs_up ?_ (by first | exact Nat.ne_of_beq_eq_false rfl | (rw [g_1 (by omega) (by omega)]; decide) | (rw [g_2 (by omega) (by omega)]; decide) | (rw [g_6 (by omega) (by omega)]; decide) | (rw [g_10 (by omega) (by omega)]; decide) | (rw [g_4 (by omega) (by omega) (by omega)]; decide) | (rw [g_4' (by omega) (by omega) (by omega)]; decide))))) hb, fr_cal (by repeat' (first | exact fs_refl | (refine fs_up ?_ (by first | exact Nat.ne_of_beq_eq_false rfl | (rw [g_1 (by omega) (by omega)]; decide) | (rw [g_2 (by omega) (by omega)]; decide) | (rw [g_6 (by omega) (by omega)]; decide) | (rw [g_10 (by omega) (by omega)]; decide) | (rw [g_4 (by omega) (by omega) (by omega)]; decide) | (rw [g_4' (by omega) (by omega) (by omega)]; decide))))) (funext fun _ => by (simp (disch := omega) only [u_hit, u_c, u_j])) (by (simp (disch := omega) only [u_hit, u_c, u_j]); exact Int.le_refl _) hk, fr_pil (by repeat' (first | exact fs_refl | (refine fs_up ?_ (by first | exact Nat.ne_of_beq_eq_false rfl | (rw [g_1 (by omega) (by omega)]; decide) | (rw [g_2 (by omega) (by omega)]; decide) | (rw [g_6 (by omega) (by omega)]; decide) | (rw [g_10 (by omega) (by omega)]; decide) | (rw [g_4 (by omega) (by omega) (by omega)]; decide) | (rw [g_4' (by omega) (by omega) (by omega)]; decide))))) (by (simp (disch := omega) only [u_hit, u_c, u_j]); exact Int.le_refl _) (by (simp (disch := omega) only [u_hit, u_c, u_j]); exact Int.le_refl _) (by (simp (disch := omega) only [u_hit, u_c, u_j])) (funext fun _ => by (simp (disch := omega) only [u_hit, u_c, u_j])) hp, fr_tol (by repeat' (first | exact fs_refl | (refine fs_up ?_ (by first | exact Nat.ne_of_beq_eq_false rfl | (rw [g_1 (by omega) (by omega)]; decide) | (rw [g_2 (by omega) (by omega)]; decide) | (rw [g_6 (by omega) (by omega)]; decide) | (rw [g_10 (by omega) (by omega)]; decide) | (rw [g_4 (by omega) (by omega) (by omega)]; decide) | (rw [g_4' (by omega) (by omega) (by omega)]; decide))))) (by (simp (disch := omega) only [u_hit, u_c, u_j])) (funext fun _ => by (simp (disch := omega) only [u_hit, u_c, u_j])) ht, fr_txt (by repeat' (first | exact fs_refl | (refine fs_up ?_ (by first | exact Nat.ne_of_beq_eq_false rfl | (rw [g_1 (by omega) (by omega)]; decide) | (rw [g_2 (by omega) (by omega)]; decide) | (rw [g_6 (by omega) (by omega)]; decide) | (rw [g_10 (by omega) (by omega)]; decide) | (rw [g_4 (by omega) (by omega) (by omega)]; decide) | (rw [g_4' (by omega) (by omega) (by omega)]; decide))))) hx, fr_tap (by repeat' (first | exact fs_refl | (refine fs_up ?_ (by first | exact Nat.ne_of_beq_eq_false rfl | (rw [g_1 (by omega) (by omega)]; decide) | (rw [g_2 (by omega) (by omega)]; decide) | (rw [g_6 (by omega) (by omega)]; decide) | (rw [g_10 (by omega) (by omega)]; decide) | (rw [g_4 (by omega) (by omega) (by omega)]; decide) | (rw [g_4' (by omega) (by omega) (by omega)]; decide))))) hr, ?_, fr_try (by repeat' (first | exact fs_refl | (refine fs_up ?_ (by first | exact Nat.ne_of_beq_eq_false rfl | (rw [g_1 (by omega) (by omega)]; decide) | (rw [g_2 (by omega) (by omega)]; decide) | (rw [g_6 (by omega) (by omega)]; decide) | (rw [g_10 (by omega) (by omega)]; decide) | (rw [g_4 (by omega) (by omega) (by omega)]; decide) | (rw [g_4' (by omega) (by omega) (by omega)]; decide))))) hy, fr_cst (by repeat' (first | exact fs_refl | (refine fs_up ?_ (by first | exact Nat.ne_of_beq_eq_false rfl | (rw [g_1 (by omega) (by omega)]; decide) | (rw [g_2 (by omega) (by omega)]; decide) | (rw [g_6 (by omega) (by omega)]; decide) | (rw [g_10 (by omega) (by omega)]; decide) | (rw [g_4 (by omega) (by omega) (by omega)]; decide) | (rw [g_4' (by omega) (by omega) (by omega)]; decide))))) hk'⟩
    obtain ⟨a1, a2, a3, a4, a5, a6, a7, a8, a9, a10, a11⟩ := hz
    exact ⟨by (simp (disch := omega) only [u_hit, u_c, u_j]); exact a1, by (simp (disch := omega) only [u_hit, u_c, u_j]); exact a2, by (simp (disch := omega) only [u_hit, u_c, u_j]); exact a3, by (simp (disch := omega) only [u_hit, u_c, u_j]); exact a4, by (simp (disch := omega) only [u_hit, u_c, u_j]); exact a5, by (simp (disch := omega) only [u_hit, u_c, u_j]); exact a6, by (simp (disch := omega) only [u_hit, u_c, u_j]), by (simp (disch := omega) only [u_hit, u_c, u_j]), by (simp (disch := omega) only [u_hit, u_c, u_j]), by (simp (disch := omega) only [u_hit, u_c, u_j]), by (simp (disch := omega) only [u_hit, u_c, u_j]); exact hc⟩
  exact Inv_yield h v h0 (by (simp (disch := omega) only [u_hit, u_c, u_j]); exact hv)
/-- the bill leaves the floor -/
def VL (s : jg_H) (U : Nat) (st nm : Int32) : jg_H := jg_up (jg_up (jg_up (jg_up (jg_up (jg_up (jg_up (jg_up (jg_up (jg_up s (33 + 3 * U) 0 st) (33 + 3 * U) 1 nm) 0 6 (-1)) 60 0 0) 66 0 0) 152 U st) 155 U nm) 146 13 (-1)) 146 18 0) 146 19 0
theorem Inv_VL {s : jg_H} (hI : Inv s) (hu : 0 ≤ (s 146 13).toInt) (st nm : Int32) (h0 : 0 ≤ st.toInt) (h4 : st.toInt ≤ 4) (h1 : ¬ st = 1) (hn : nm = 0 ∨ nm = s 155 (s 146 13).toNatClampNeg) : Inv (VL s (s 146 13).toNatClampNeg st nm) := by
  obtain ⟨hm, hb, hk, hp, ht, hx, hr, hz, hy, hk'⟩ := hI
  have u8 := hk.2.2.2.2.2.2.2.1
  have hU : (s 146 13).toNatClampNeg < 8 := by have := hb.2.2.1; rw [i_cn]; omega
  have hUb : ((s 146 13).toNatClampNeg : Int) < (s 146 6).toInt := by rw [i_cn]; omega
  have h2 : s 152 (s 146 13).toNatClampNeg = 2 := hk.2.2.2.2.2.2.2.2 hu
  have hnb : 0 ≤ nm.toInt ∧ nm.toInt < 32768 := by
    rcases hn with e | e
    · rw [e]; decide
    · obtain ⟨b1, b2, b3, b4, b5, b6, b7⟩ := hb.2.2.2.1 _ hU
      rw [e]; exact ⟨b5, b6⟩
  clear hn
  generalize hUU : (s 146 13).toNatClampNeg = U at *
  unfold VL
  refine ⟨fr_mem (by repeat' (first | exact fs_refl | (refine fs_up ?_ (by first | exact Nat.ne_of_beq_eq_false rfl | (rw [g_1 (by omega) (by omega)]; decide) | (rw [g_2 (by omega) (by omega)]; decide) | (rw [g_6 (by omega) (by omega)]; decide) | (rw [g_10 (by omega) (by omega)]; decide) | (rw [g_4 (by omega) (by omega) (by omega)]; decide) | (rw [g_4' (by omega) (by omega) (by omega)]; decide))))) hm, ?_, ?_, ?_, ?_, fr_txt (by repeat' (first | exact fs_refl | (refine fs_up ?_ (by first | exact Nat.ne_of_beq_eq_false rfl | (rw [g_1 (by omega) (by omega)]; decide) | (rw [g_2 (by omega) (by omega)]; decide) | (rw [g_6 (by omega) (by omega)]; decide) | (rw [g_10 (by omega) (by omega)]; decide) | (rw [g_4 (by omega) (by omega) (by omega)]; decide) | (rw [g_4' (by omega) (by omega) (by omega)]; decide))))) hx, fr_tap (by repeat' (first | exact fs_refl | (refine fs_up ?_ (by first | exact Nat.ne_of_beq_eq_false rfl | (rw [g_1 (by omega) (by omega)]; decide) | (rw [g_2 (by omega) (by omega)]; decide) | (rw [g_6 (by omega) (by omega)]; decide) | (rw [g_10 (by omega) (by omega)]; decide) | (rw [g_4 (by omega) (by omega) (by omega)]; decide) | (rw [g_4' (by omega) (by omega) (by omega)]; decide))))) hr, fr_mis (by repeat' (first | exact fs_refl | (refine fs_up ?_ (by first | exact Nat.ne_of_beq_eq_false rfl | (rw [g_1 (by omega) (by omega)]; decide) | (rw [g_2 (by omega) (by omega)]; decide) | (rw [g_6 (by omega) (by omega)]; decide) | (rw [g_10 (by omega) (by omega)]; decide) | (rw [g_4 (by omega) (by omega) (by omega)]; decide) | (rw [g_4' (by omega) (by omega) (by omega)]; decide))))) hz, fr_try (by repeat' (first | exact fs_refl | (refine fs_up ?_ (by first | exact Nat.ne_of_beq_eq_false rfl | (rw [g_1 (by omega) (by omega)]; decide) | (rw [g_2 (by omega) (by omega)]; decide) | (rw [g_6 (by omega) (by omega)]; decide) | (rw [g_10 (by omega) (by omega)]; decide) | (rw [g_4 (by omega) (by omega) (by omega)]; decide) | (rw [g_4' (by omega) (by omega) (by omega)]; decide))))) hy, fr_cst (by repeat' (first | exact fs_refl | (refine fs_up ?_ (by first | exact Nat.ne_of_beq_eq_false rfl | (rw [g_1 (by omega) (by omega)]; decide) | (rw [g_2 (by omega) (by omega)]; decide) | (rw [g_6 (by omega) (by omega)]; decide) | (rw [g_10 (by omega) (by omega)]; decide) | (rw [g_4 (by omega) (by omega) (by omega)]; decide) | (rw [g_4' (by omega) (by omega) (by omega)]; decide))))) hk'⟩
  · obtain ⟨a1, a2, a3, a4, a5⟩ := hb
    refine ⟨by (simp (disch := omega) only [u_hit, u_c, u_j]); exact a1, by (simp (disch := omega) only [u_hit, u_c, u_j]); exact a2, by (simp (disch := omega) only [u_hit, u_c, u_j]); exact a3, ?_, ?_⟩
    · intro i hi
      obtain ⟨b1, b2, b3, b4, b5, b6, b7, b8, b9, b10⟩ := a4 i hi
      by_cases e : i = U
      · subst e
        (simp (disch := omega) only [u_hit, u_c, u_j])
        exact ⟨by trivial, h0, h4, by trivial, hnb.1, hnb.2, b7, b8, b9, fun h => absurd h (by omega)⟩
      · (simp (disch := omega) only [u_hit, u_c, u_j]); exact ⟨b1, b2, b3, b4, b5, b6, b7, b8, b9, b10⟩
    · intro i k hi hk
      have hk : (k : Int) < (s 153 i).toInt := by revert hk; (simp (disch := omega) only [u_hit, u_c, u_j]); exact id
      (simp (disch := omega) only [u_hit, u_c, u_j]); exact a5 i k hi hk
  · have hs : c_sum (jg_up (jg_up (jg_up (jg_up (jg_up (jg_up (jg_up (jg_up (jg_up (jg_up s (33 + 3 * U) 0 st) (33 + 3 * U) 1 nm) 0 6 (-1)) 60 0 0) 66 0 0) 152 U st) 155 U nm) 146 13 (-1)) 146 18 0) 146 19 0) = c_sum s := by
      have e1 : c_sum (jg_up (jg_up (jg_up (jg_up (jg_up (jg_up (jg_up (jg_up (jg_up (jg_up s (33 + 3 * U) 0 st) (33 + 3 * U) 1 nm) 0 6 (-1)) 60 0 0) 66 0 0) 152 U st) 155 U nm) 146 13 (-1)) 146 18 0) 146 19 0) = c_sum (jg_up s 152 U st) := by
        unfold c_sum c_l
        have : ∀ k, (jg_up (jg_up (jg_up (jg_up (jg_up (jg_up (jg_up (jg_up (jg_up (jg_up s (33 + 3 * U) 0 st) (33 + 3 * U) 1 nm) 0 6 (-1)) 60 0 0) 66 0 0) 152 U st) 155 U nm) 146 13 (-1)) 146 18 0) 146 19 0) 152 k = jg_up s 152 U st 152 k := by
          intro k
          by_cases e : k = U
          · subst e; (simp (disch := omega) only [u_hit, u_c, u_j])
          · (simp (disch := omega) only [u_hit, u_c, u_j])
        simp only [this]
      have e2 := c_sum_up (s := s) hU (v := st)
      have e3 : c_l s U = 0 := by unfold c_l; rw [h2]; rfl
      rw [if_neg h1] at e2
      omega
    have hsum := cal_sum hk
    obtain ⟨a1, a2, a3, a4, a5, a6, a7, a8, a9⟩ := hk
    refine ⟨by (simp (disch := omega) only [u_hit, u_c, u_j]); exact a1, by (simp (disch := omega) only [u_hit, u_c, u_j]); exact a2, ?_, ?_, ?_, by (simp (disch := omega) only [u_hit, u_c, u_j]), by (simp (disch := omega) only [u_hit, u_c, u_j]); decide, by (simp (disch := omega) only [u_hit, u_c, u_j]); have : (-1 : Int32).toInt = -1 := rfl; omega, ?_⟩
    · rw [show (jg_up (jg_up (jg_up (jg_up (jg_up (jg_up (jg_up (jg_up (jg_up (jg_up s (33 + 3 * U) 0 st) (33 + 3 * U) 1 nm) 0 6 (-1)) 60 0 0) 66 0 0) 152 U st) 155 U nm) 146 13 (-1)) 146 18 0) 146 19 0 146 11).toInt = (c_sum s : Int) by (simp (disch := omega) only [u_hit, u_c, u_j]); exact hsum]
      unfold c_sum at hs ⊢
      omega
    · intro i hi
      have hi : (i : Int) < (s 146 11).toInt := by revert hi; (simp (disch := omega) only [u_hit, u_c, u_j]); exact id
      obtain ⟨b1, b2, b3, b4⟩ := a4 i hi
      have e : ¬ (s 156 i).toInt.toNat = U := fun e => by rw [e, h2] at b4; exact absurd b4 (by decide)
      (simp (disch := omega) only [u_hit, u_c, u_j])
      exact ⟨b1, b2, b3, b4⟩
    · intro i k hi hk' he
      have hi : (i : Int) < (s 146 11).toInt := by revert hi; (simp (disch := omega) only [u_hit, u_c, u_j]); exact id
      have hk' : (k : Int) < (s 146 11).toInt := by revert hk'; (simp (disch := omega) only [u_hit, u_c, u_j]); exact id
      exact a5 i k hi hk' (by revert he; (simp (disch := omega) only [u_hit, u_c, u_j]); exact id)
    · intro h
      exfalso
      revert h
      (simp (disch := omega) only [u_hit, u_c, u_j])
      decide
  · obtain ⟨a1, a2, a3, a4, a5⟩ := hp
    refine ⟨by (simp (disch := omega) only [u_hit, u_c, u_j]), by (simp (disch := omega) only [u_hit, u_c, u_j]); decide, by (simp (disch := omega) only [u_hit, u_c, u_j]); decide, by (simp (disch := omega) only [u_hit, u_c, u_j]); exact a4, ?_⟩
    intro i hi
    exfalso
    revert hi
    (simp (disch := omega) only [u_hit, u_c, u_j])
    have : (0 : Int32).toInt = 0 := rfl
    omega
  · obtain ⟨a1, a2, a3, a4, a5, a6⟩ := ht
    refine ⟨by (simp (disch := omega) only [u_hit, u_c, u_j]), by (simp (disch := omega) only [u_hit, u_c, u_j]); decide, by (simp (disch := omega) only [u_hit, u_c, u_j]); decide, by (simp (disch := omega) only [u_hit, u_c, u_j]); exact a4, ?_, ?_⟩
    · intro h
      exfalso
      revert h
      (simp (disch := omega) only [u_hit, u_c, u_j])
      decide
    · intro i hi
      exfalso
      revert hi
      (simp (disch := omega) only [u_hit, u_c, u_j])
      have : (0 : Int32).toInt = 0 := rfl
      omega
/-- another rule stands -/
def VR (s : jg_H) (w : Int32) : jg_H := jg_up (jg_up s 0 12 w) 146 15 w
theorem Inv_VR {s : jg_H} (hI : Inv s) (w : Int32) (h0 : 0 ≤ w.toInt) (h1 : w.toInt < (s 146 14).toInt) : Inv (VR s w) := by
  unfold VR
  obtain ⟨hm, hb, hk, hp, ht, hx, hr, hz, hy, hk'⟩ := hI
  refine ⟨fr_mem (by repeat' (first | exact fs_refl | (refine fs_up ?_ (by first | exact Nat.ne_of_beq_eq_false rfl | (rw [g_1 (by omega) (by omega)]; decide) | (rw [g_2 (by omega) (by omega)]; decide) | (rw [g_6 (by omega) (by omega)]; decide) | (rw [g_10 (by omega) (by omega)]; decide) | (rw [g_4 (by omega) (by omega) (by omega)]; decide) | (rw [g_4' (by omega) (by omega) (by omega)]; decide))))) hm, fr_bil (by repeat' (first | exact fs_refl | (refine fs_up ?_ (by first | exact Nat.ne_of_beq_eq_false rfl | (rw [g_1 (by omega) (by omega)]; decide) | (rw [g_2 (by omega) (by omega)]; decide) | (rw [g_6 (by omega) (by omega)]; decide) | (rw [g_10 (by omega) (by omega)]; decide) | (rw [g_4 (by omega) (by omega) (by omega)]; decide) | (rw [g_4' (by omega) (by omega) (by omega)]; decide))))) hb, fr_cal (by repeat' (first | exact fs_refl | (refine fs_up ?_ (by first | exact Nat.ne_of_beq_eq_false rfl | (rw [g_1 (by omega) (by omega)]; decide) | (rw [g_2 (by omega) (by omega)]; decide) | (rw [g_6 (by omega) (by omega)]; decide) | (rw [g_10 (by omega) (by omega)]; decide) | (rw [g_4 (by omega) (by omega) (by omega)]; decide) | (rw [g_4' (by omega) (by omega) (by omega)]; decide))))) (funext fun _ => by (simp (disch := omega) only [u_hit, u_c, u_j])) (by (simp (disch := omega) only [u_hit, u_c, u_j]); exact Int.le_refl _) hk, fr_pil (by repeat' (first | exact fs_refl | (refine fs_up ?_ (by first | exact Nat.ne_of_beq_eq_false rfl | (rw [g_1 (by omega) (by omega)]; decide) | (rw [g_2 (by omega) (by omega)]; decide) | (rw [g_6 (by omega) (by omega)]; decide) | (rw [g_10 (by omega) (by omega)]; decide) | (rw [g_4 (by omega) (by omega) (by omega)]; decide) | (rw [g_4' (by omega) (by omega) (by omega)]; decide))))) (by (simp (disch := omega) only [u_hit, u_c, u_j]); exact Int.le_refl _) (by (simp (disch := omega) only [u_hit, u_c, u_j]); exact Int.le_refl _) (by (simp (disch := omega) only [u_hit, u_c, u_j])) (funext fun _ => by (simp (disch := omega) only [u_hit, u_c, u_j])) hp, fr_tol (by repeat' (first | exact fs_refl | (refine fs_up ?_ (by first | exact Nat.ne_of_beq_eq_false rfl | (rw [g_1 (by omega) (by omega)]; decide) | (rw [g_2 (by omega) (by omega)]; decide) | (rw [g_6 (by omega) (by omega)]; decide) | (rw [g_10 (by omega) (by omega)]; decide) | (rw [g_4 (by omega) (by omega) (by omega)]; decide) | (rw [g_4' (by omega) (by omega) (by omega)]; decide))))) (by (simp (disch := omega) only [u_hit, u_c, u_j])) (funext fun _ => by (simp (disch := omega) only [u_hit, u_c, u_j])) ht, ?_, fr_tap (by repeat' (first | exact fs_refl | (refine fs_up ?_ (by first | exact Nat.ne_of_beq_eq_false rfl | (rw [g_1 (by omega) (by omega)]; decide) | (rw [g_2 (by omega) (by omega)]; decide) | (rw [g_6 (by omega) (by omega)]; decide) | (rw [g_10 (by omega) (by omega)]; decide) | (rw [g_4 (by omega) (by omega) (by omega)]; decide) | (rw [g_4' (by omega) (by omega) (by omega)]; decide))))) hr, fr_mis (by repeat' (first | exact fs_refl | (refine fs_up ?_ (by first | exact Nat.ne_of_beq_eq_false rfl | (rw [g_1 (by omega) (by omega)]; decide) | (rw [g_2 (by omega) (by omega)]; decide) | (rw [g_6 (by omega) (by omega)]; decide) | (rw [g_10 (by omega) (by omega)]; decide) | (rw [g_4 (by omega) (by omega) (by omega)]; decide) | (rw [g_4' (by omega) (by omega) (by omega)]; decide))))) hz, fr_try (by repeat' (first | exact fs_refl | (refine fs_up ?_ (by first | exact Nat.ne_of_beq_eq_false rfl | (rw [g_1 (by omega) (by omega)]; decide) | (rw [g_2 (by omega) (by omega)]; decide) | (rw [g_6 (by omega) (by omega)]; decide) | (rw [g_10 (by omega) (by omega)]; decide) | (rw [g_4 (by omega) (by omega) (by omega)]; decide) | (rw [g_4' (by omega) (by omega) (by omega)]; decide))))) hy, fr_cst (by repeat' (first | exact fs_refl | (refine fs_up ?_ (by first | exact Nat.ne_of_beq_eq_false rfl | (rw [g_1 (by omega) (by omega)]; decide) | (rw [g_2 (by omega) (by omega)]; decide) | (rw [g_6 (by omega) (by omega)]; decide) | (rw [g_10 (by omega) (by omega)]; decide) | (rw [g_4 (by omega) (by omega) (by omega)]; decide) | (rw [g_4' (by omega) (by omega) (by omega)]; decide))))) hk'⟩
  obtain ⟨a1, a2, a3, a4, a5, a6, a7⟩ := hx
  refine ⟨by (simp (disch := omega) only [u_hit, u_c, u_j]); exact a1, by (simp (disch := omega) only [u_hit, u_c, u_j]); exact a2, by (simp (disch := omega) only [u_hit, u_c, u_j]); exact a3, by (simp (disch := omega) only [u_hit, u_c, u_j]), by (simp (disch := omega) only [u_hit, u_c, u_j]); exact h0, by (simp (disch := omega) only [u_hit, u_c, u_j]); exact h1, ?_⟩
  intro t ht
  have ht : (t : Int) < (s 146 14).toInt := by revert ht; (simp (disch := omega) only [u_hit, u_c, u_j]); exact id
  have ok := a7 t ht
  have e1 : (jg_up (jg_up s 0 12 w) 146 15 w) 163 = s 163 := funext fun j => by (simp (disch := omega) only [u_hit, u_c, u_j])
  have e2 : (jg_up (jg_up s 0 12 w) 146 15 w) 164 = s 164 := funext fun j => by (simp (disch := omega) only [u_hit, u_c, u_j])
  have e3 : (jg_up (jg_up s 0 12 w) 146 15 w) 165 = s 165 := funext fun j => by (simp (disch := omega) only [u_hit, u_c, u_j])
  have e4 : (jg_up (jg_up s 0 12 w) 146 15 w) (93 + 3 * t + 1) = s (93 + 3 * t + 1) := funext fun j => by rw [u_c (by omega), u_c (by omega)]
  have e5 : (jg_up (jg_up s 0 12 w) 146 15 w) (93 + 3 * t + 2) = s (93 + 3 * t + 2) := funext fun j => by rw [u_c (by omega), u_c (by omega)]
  unfold t_ok
  rw [e1, e2, e3, e4, e5]
  exact ok
/-- one minute more -/
def V3 (s : jg_H) (v : Int32) : jg_H := jg_up (jg_up s 0 19 v) 146 17 v
