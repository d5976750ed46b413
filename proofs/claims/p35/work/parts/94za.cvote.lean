/-! the class votes -/
set_option maxRecDepth 20000 in
theorem sp_C_carry {G : jv_X} {d : Nat} {B : Option Value → jg_H → Prop} {V t : jg_H} (hI : Inv V) (hl : f_lo V t) (K pl wd : Int32) (hk0 : 0 ≤ K.toInt) (hk6 : K.toInt ≤ 6) (hu : ¬ K = 6 → 0 ≤ (V 146 13).toInt) (cnt : Nat) (hcnt : (V 146 18).toInt = cnt)
    (hL : ∀ st nm : Int32, (K = 0 ∧ st = 3 ∧ nm = V 155 (V 146 13).toNatClampNeg) ∨ (K = 4 ∧ st = 4 ∧ nm = V 155 (V 146 13).toNatClampNeg) ∨ (K = 5 ∧ st = 0 ∧ nm = 0) → ∀ t' : jg_H, f_hs t t' → f_lo (VL V (V 146 13).toNatClampNeg st nm) t' → B none t')
    (hR : K = 6 → ∀ t' : jg_H, f_hs t t' → f_lo (VR V wd) t' → B none t')
    (hN : 1 ≤ K.toInt ∧ K.toInt ≤ 3 → ¬ x_can (fl_n V) K pl → B none t)
    (hA : 1 ≤ K.toInt ∧ K.toInt ≤ 3 → x_can (fl_n V) K pl → ∀ t' : jg_H, f_hs t t' → A_C V t' (V 146 13).toNatClampNeg (fl_n V) (fl_R V) K pl wd cnt → B none t') : q_P G (d + 4) 97 [.ref 0, .int K, .int pl, .int wd] t B := by
  refine t2_C_carry (d := d + 3) K pl wd ?_ ?_ ?_ ?_ ?_
  · intro g
    refine sp_C_leave (d := d + 1) hI hl (hu (by rw [g]; decide)) 3 _ (fun e => absurd e (by decide)) (fun _ => rfl) ?_
    intro t' h1 h2
    exact t2_C_carry_49 (d := d + 3) K pl wd (hL _ _ (Or.inl ⟨g, rfl, rfl⟩) t' h1 h2)
  · intro _ g
    refine sp_C_leave (d := d + 1) hI hl (hu (by rw [g]; decide)) 4 _ (fun e => absurd e (by decide)) (fun _ => rfl) ?_
    intro t' h1 h2
    exact t2_C_carry_57 (d := d + 3) K pl wd (hL _ _ (Or.inr (Or.inl ⟨g, rfl, rfl⟩)) t' h1 h2)
  · intro _ _ g
    refine sp_C_leave (d := d + 1) hI hl (hu (by rw [g]; decide)) 0 0 (fun _ => rfl) (fun e => absurd rfl e) ?_
    intro t' h1 h2
    exact t2_C_carry_65 (d := d + 3) K pl wd (hL _ _ (Or.inr (Or.inr ⟨g, rfl, rfl⟩)) t' h1 h2)
  · intro _ _ _ g s1 e
    subst e
    refine hR g _ (hs_up (by decide) (fun _ _ => rfl)) ?_
    unfold VR
    exact lo_hi (by decide) (lo_up hl)
  · intro g0 g4 g5 g6
    have hk : 1 ≤ K.toInt ∧ K.toInt ≤ 3 := by
      clear hL hR hN hA hI hl hu hcnt
      (try simp only [i_lt, i_le, i_eq, i_in, i_cn, Int32.toInt_add, Int32.toInt_sub, Int32.toInt_mul, Int32.toInt_neg, Int32.reduceToInt, Int.bmod_add_bmod, Int.add_bmod_bmod, Int.bmod_sub_bmod, Int.sub_bmod_bmod, Int.bmod_mul_bmod, Int.mul_bmod_bmod, Int.bmod_neg_bmod, Nat.reducePow, Int.reduceBmod, Int.reduceNeg, Int.reduceMul, Int.reduceAdd, Int.reduceSub, not_true_eq_false, not_false_eq_true] at *) <;> (try simp (disch := omega) only [i_bm'] at *); omega
    refine sp_C_amend (d := d) hI hl (hu g6) K pl wd hk cnt hcnt ?_ ?_
    · intro h; exact t2_C_carry_83 (d := d + 3) K pl wd (hN hk h)
    · intro h t' h1 h2; exact t2_C_carry_83 (d := d + 3) K pl wd (hA hk h t' h1 h2)
theorem mo_tlo {s t : jg_H} {c j : Nat} {v : Int32} (hc : c < 146) (h : f_mo s t) : f_mo s (jg_up t c j v) := fun a i ha hg => by
  rw [u_c (by omega)]
  exact h a i ha hg
theorem mo_hs {s t u : jg_H} (h : f_mo s t) (h' : f_hs t u) : f_mo s u := fun a i ha hg => (congrFun (h' a ha) i).trans (h a i ha hg)
/-- what a vote comes to: the values -/
def vt_ok (s : jg_H) (I K M pl wd Y N P : Int32) (mb : Nat) : Prop := (s 146 0).toInt = mb ∧ (s 146 18) - 1 = I ∧ s 157 I.toNatClampNeg = K ∧ s 158 I.toNatClampNeg = M ∧ s 63 I.toNatClampNeg = pl ∧ s 160 I.toNatClampNeg = wd ∧ f_ct (fun A => x_vt s A (fl_n s) (fl_R s) K pl wd M) 1 mb = Y ∧ f_ct (fun A => x_vt s A (fl_n s) (fl_R s) K pl wd M) 2 mb = N ∧ x_v s (s 146 15).toNatClampNeg 2 K (s 146 18) (s 147 M.toNatClampNeg) Y N = P
set_option maxRecDepth 20000 in
theorem sp_C_vote {G : jv_X} {d : Nat} {B : Option Value → jg_H → Prop} {s : jg_H} (hI : Inv s) (I K M pl wd Y N P : Int32) (mb : Nat) (hv : vt_ok s I K M pl wd Y N P mb)
    (h21 : (s 146 18).toInt = 0 → B (some (.int (-21))) s)
    (h22 : 0 < (s 146 18).toInt → 100 ≤ (s 146 17).toInt → B (some (.int (-22))) s)
    (h23 : 0 < (s 146 18).toInt → (s 146 17).toInt < 100 → x_r s 3 K M = 0 → ∀ t : jg_H, f_only 0 s t → B (some (.int (-23))) t)
    (h0 : 0 < (s 146 18).toInt → (s 146 17).toInt < 100 → ¬ x_r s 3 K M = 0 → P = 0 → ¬ K = 0 → ∀ t : jg_H, f_mo s t → f_lo (V1 s Y N K 0 I) t → B (some (.int 0)) (jg_up t 0 19 ((s 146 17) + 1)))
    (hL : 0 < (s 146 18).toInt → (s 146 17).toInt < 100 → ¬ x_r s 3 K M = 0 → ∀ c st nm : Int32, (P = 0 ∧ c = 0 ∧ K = 0 ∧ st = 4 ∧ nm = s 155 (s 146 13).toNatClampNeg) ∨ (¬ P = 0 ∧ c = 1 ∧ ((K = 0 ∧ st = 3 ∧ nm = s 155 (s 146 13).toNatClampNeg) ∨ (K = 4 ∧ st = 4 ∧ nm = s 155 (s 146 13).toNatClampNeg) ∨ (K = 5 ∧ st = 0 ∧ nm = 0))) → ∀ t : jg_H, f_mo s t → f_lo (VL (V1 s Y N K c I) (s 146 13).toNatClampNeg st nm) t → B (some (.int c)) (jg_up t 0 19 ((s 146 17) + 1)))
    (hR : 0 < (s 146 18).toInt → (s 146 17).toInt < 100 → ¬ x_r s 3 K M = 0 → ¬ P = 0 → K = 6 → ∀ t : jg_H, f_mo s t → f_lo (VR (V1 s Y N K 1 I) wd) t → B (some (.int 1)) (jg_up t 0 19 ((s 146 17) + 1)))
    (hN : 0 < (s 146 18).toInt → (s 146 17).toInt < 100 → ¬ x_r s 3 K M = 0 → ¬ P = 0 → 1 ≤ K.toInt ∧ K.toInt ≤ 3 → ¬ x_can (fl_n s) K pl → ∀ t : jg_H, f_mo s t → f_lo (V1 s Y N K 1 I) t → B (some (.int 1)) (jg_up t 0 19 ((s 146 17) + 1)))
    (hA : 0 < (s 146 18).toInt → (s 146 17).toInt < 100 → ¬ x_r s 3 K M = 0 → ¬ P = 0 → 1 ≤ K.toInt ∧ K.toInt ≤ 3 → x_can (fl_n s) K pl → ∀ t : jg_H, f_mo s t → A_C (V1 s Y N K 1 I) t (s 146 13).toNatClampNeg (fl_n s) (fl_R s) K pl wd I.toNatClampNeg → B (some (.int 1)) (jg_up t 0 19 ((s 146 17) + 1))) : q_P G (d + 6) 92 [.ref 0] s B := by
  obtain ⟨eb, eI, eK, eM, ep, ew, eY, eN, eP⟩ := hv
  have b1 := hI.1.1
  have b2 := hI.1.2.1
  have b3 := hI.1.2.2.1
  have p1 := hI.2.2.2.1.1
  have p2 := hI.2.2.2.1.2.1
  have p3 := hI.2.2.2.1.2.2.1
  have p4 := hI.2.2.2.1.2.2.2.1
  have x1 := hI.2.2.2.2.2.1.1
  have x2 := hI.2.2.2.2.2.1.2.1
  have x3 := hI.2.2.2.2.2.1.2.2.1
  have x4 := hI.2.2.2.2.2.1.2.2.2.1
  have x5 := hI.2.2.2.2.2.1.2.2.2.2.1
  have x6 := hI.2.2.2.2.2.1.2.2.2.2.2.1
  obtain ⟨_, _, _, z4, z5, z6, _⟩ := hI.2.2.2.2.2.2.2.1
  have kp := key_pil hI.2.2.2.1 I
  refine t2_C_vote (d := d + 4) ?_ ?_ ?_ ?_ ?_ ?main ?_
  case main =>
    intro g1 g2 g3 g4
    have hn : 0 < (s 146 18).toInt := by clear h21 h22 h23 h0 hL hR hN hA hI kp eY eN eP; ((try simp only [i_lt, i_le, i_eq, i_in, i_cn, Int32.toInt_add, Int32.toInt_sub, Int32.toInt_mul, Int32.toInt_neg, Int32.reduceToInt, Int.bmod_add_bmod, Int.add_bmod_bmod, Int.bmod_sub_bmod, Int.sub_bmod_bmod, Int.bmod_mul_bmod, Int.mul_bmod_bmod, Int.bmod_neg_bmod, Nat.reducePow, Int.reduceBmod, Int.reduceNeg, Int.reduceMul, Int.reduceAdd, Int.reduceSub, not_true_eq_false, not_false_eq_true] at *) <;> (try simp (disch := omega) only [i_bm'] at *) <;> omega)
    have hm : (s 146 17).toInt < 100 := by clear h21 h22 h23 h0 hL hR hN hA hI kp eY eN eP; ((try simp only [i_lt, i_le, i_eq, i_in, i_cn, Int32.toInt_add, Int32.toInt_sub, Int32.toInt_mul, Int32.toInt_neg, Int32.reduceToInt, Int.bmod_add_bmod, Int.add_bmod_bmod, Int.bmod_sub_bmod, Int.sub_bmod_bmod, Int.bmod_mul_bmod, Int.mul_bmod_bmod, Int.bmod_neg_bmod, Nat.reducePow, Int.reduceBmod, Int.reduceNeg, Int.reduceMul, Int.reduceAdd, Int.reduceSub, not_true_eq_false, not_false_eq_true] at *) <;> (try simp (disch := omega) only [i_bm'] at *) <;> omega)
    have hi : 0 ≤ I.toInt := by rw [← eI]; clear h21 h22 h23 h0 hL hR hN hA hI kp eY eN eP eK eM ep ew eI; ((try simp only [i_lt, i_le, i_eq, i_in, i_cn, Int32.toInt_add, Int32.toInt_sub, Int32.toInt_mul, Int32.toInt_neg, Int32.reduceToInt, Int.bmod_add_bmod, Int.add_bmod_bmod, Int.bmod_sub_bmod, Int.sub_bmod_bmod, Int.bmod_mul_bmod, Int.mul_bmod_bmod, Int.bmod_neg_bmod, Nat.reducePow, Int.reduceBmod, Int.reduceNeg, Int.reduceMul, Int.reduceAdd, Int.reduceSub, not_true_eq_false, not_false_eq_true] at *) <;> (try simp (disch := omega) only [i_bm'] at *) <;> omega)
    have hi1 : I.toInt < (s 146 18).toInt := by rw [← eI]; clear h21 h22 h23 h0 hL hR hN hA hI kp eY eN eP eK eM ep ew eI; ((try simp only [i_lt, i_le, i_eq, i_in, i_cn, Int32.toInt_add, Int32.toInt_sub, Int32.toInt_mul, Int32.toInt_neg, Int32.reduceToInt, Int.bmod_add_bmod, Int.add_bmod_bmod, Int.bmod_sub_bmod, Int.sub_bmod_bmod, Int.bmod_mul_bmod, Int.mul_bmod_bmod, Int.bmod_neg_bmod, Nat.reducePow, Int.reduceBmod, Int.reduceNeg, Int.reduceMul, Int.reduceAdd, Int.reduceSub, not_true_eq_false, not_false_eq_true] at *) <;> (try simp (disch := omega) only [i_bm'] at *) <;> omega)
    replace h23 := h23 hn hm
    replace h0 := h0 hn hm
    replace hL := hL hn hm
    replace hR := hR hn hm
    replace hN := hN hn hm
    replace hA := hA hn hm
    clear h21 h22
    obtain ⟨k1, k2, k3, k4, k5, k6, k7, k8, k9, k10, k11⟩ := kp hi hi1
    clear kp g1 g2 g3 g4
    rw [p1, eI, k1, k4, eK, eM]
    rw [eK] at k1 k2 k3 k8 k9 k10 k11
    rw [eM] at k4 k5 k6
    rw [ew] at k7 k8 k9
    have hk2 : K.toInt = 2 ∨ K.toInt = 3 → 1 ≤ wd.toInt ∧ wd.toInt ≤ 60 := fun h => k8 (by rcases h with h | h; exact Or.inl (Int32.toInt_inj.mp h); exact Or.inr (Int32.toInt_inj.mp h))
    have hI8 : I.toNatClampNeg < 8 := by rw [i_cn]; omega
    obtain ⟨q1, q2⟩ := fl_b hI
    refine sp_C_ruled (d := d + 1) hI 3 K M (by decide) (by decide) k5 k6 ?_
    intro t ht
    have hIt := Inv_0 hI ht
    have hx : x_r s (3 : Int32).toNatClampNeg K M = x_r s 3 K M := rfl
    rw [hx]
    refine t2_C_vote_63 (d := d + 4) I K M _ ?_ ?_
    · intro hq
      replace h0 := h0 hq
      replace hL := hL hq
      replace hR := hR hq
      replace hN := hN hq
      replace hA := hA hq
      clear h23 hq hx
      have f13 : fl_n t = fl_n s ∧ fl_R t = fl_R s := fl_mo (mo_0 ht)
      refine sp_C_floor (d := d + 3) hIt ?_
      intro c2 hc2
      obtain ⟨f1, f2, f3, f4, f5, f6⟩ := hc2
      rw [f13.1] at f2 f3
      rw [f13.2] at f3
      refine t2_C_vote_78 (d := d + 4) I K M f1 (by rw [i_in]; exact ⟨hi, by omega⟩) ?_
      have t4 : ∀ c, 60 ≤ c → c < 65 → ∀ j, t c j = s c j := by
        intro c h h' j
        have e : c = 60 ∨ c = 61 ∨ c = 62 ∨ c = 63 ∨ c = 64 := by omega
        rcases e with e | e | e | e | e <;> subst e <;> exact ht _ j (by decide : ¬ (4 : Nat) = 0)
      have t0 : t 146 0 = s 146 0 := ht 146 0 (by decide : ¬ (1 : Nat) = 0)
      rw [t4 63 (by decide) (by decide), ep]
      refine sp_C_tally (d := d) hIt.1 f_122 (fun j => (by decide : ¬ (8 : Nat) = 1)) (by decide) f1 (by omega) (by omega) f_60 (fun x hx => by omega) I pl hi (by rw [t4 60 (by decide) (by decide), p1]; exact hi1) (by rw [t4 60 (by decide) (by decide), p4]; show I.toInt < 8; omega) (by omega) (fl_n s) f2 q1 (fl_R s) f3 q2 K wd M (by rw [t4 61 (by decide) (by decide)]; exact k1) (by rw [t4 64 (by decide) (by decide)]; exact k7) (by rw [t4 62 (by decide) (by decide)]; exact k4) k2 k3 hk2 (fun _ => by rw [t0]; exact ⟨k5, k6⟩) mb (by rw [t0]; exact eb) ?_
      intro t1 w1 w2 w3 w4
      rw [x_vt_mo (mo_0 ht)] at w2 w3
      rw [eY] at w2
      rw [eN] at w3
      have F1 : ∀ q, ¬ q = 0 → ¬ q = 8 → f_same q s t1 := fun q a0 a8 c j hg => by
        rw [w1 c j (by rintro ⟨rfl, _⟩; exact a8 (hg.symm.trans rfl))]
        exact ht c j (by rw [hg]; exact a0)
      have m1 := fr_mem (F1 1 (by decide) (by decide)) hI.1
      have u0 : t1 146 0 = s 146 0 := F1 1 (by decide) (by decide) 146 0 rfl
      have u147 : t1 147 = s 147 := funext fun j => F1 1 (by decide) (by decide) 147 j rfl
      have mo1 : f_mo s t1 := fun c j hc hg => by
        rw [w1 c j (by omega)]
        exact ht c j hg
      have km := (key_mem m1 M k5 (by rw [u0]; exact k6)).2.2.2.1
      refine t2_C_vote_95 (d := d + 4) I K M ?_
      have b0 := m1.1
      have b15 := m1.2.2.1
      refine t_C_partyOf (d := d + 3) M ?_ ?_ ?_ ?_
      · intro g; exfalso; clear h0 hL hR hN hA hI hIt eY eN eP eK eM ep ew m1 mo1 F1 k8 k9 k10 k11 km w1 w2 w3 w4 q2 f3 u147 ht t4 hk2; ((try simp only [i_lt, i_le, i_eq, i_in, i_cn, Int32.toInt_add, Int32.toInt_sub, Int32.toInt_mul, Int32.toInt_neg, Int32.reduceToInt, Int.bmod_add_bmod, Int.add_bmod_bmod, Int.bmod_sub_bmod, Int.sub_bmod_bmod, Int.bmod_mul_bmod, Int.mul_bmod_bmod, Int.bmod_neg_bmod, Nat.reducePow, Int.reduceBmod, Int.reduceNeg, Int.reduceMul, Int.reduceAdd, Int.reduceSub, not_true_eq_false, not_false_eq_true] at *) <;> (try simp (disch := omega) only [i_bm'] at *) <;> omega)
      · intro _ g; exfalso; rw [b0, u0] at g; clear h0 hL hR hN hA hI hIt eY eN eP eK eM ep ew m1 mo1 F1 k8 k9 k10 k11 km w1 w2 w3 w4 q2 f3 u147 ht t4 hk2; ((try simp only [i_lt, i_le, i_eq, i_in, i_cn, Int32.toInt_add, Int32.toInt_sub, Int32.toInt_mul, Int32.toInt_neg, Int32.reduceToInt, Int.bmod_add_bmod, Int.add_bmod_bmod, Int.bmod_sub_bmod, Int.sub_bmod_bmod, Int.bmod_mul_bmod, Int.mul_bmod_bmod, Int.bmod_neg_bmod, Nat.reducePow, Int.reduceBmod, Int.reduceNeg, Int.reduceMul, Int.reduceAdd, Int.reduceSub, not_true_eq_false, not_false_eq_true] at *) <;> (try simp (disch := omega) only [i_bm'] at *) <;> omega)
      · intro _ _ g; exfalso; clear h0 hL hR hN hA hI hIt eY eN eP eK eM ep ew m1 mo1 F1 k8 k9 k10 k11 km w1 w2 w3 w4 q2 f3 u147 ht t4 hk2; ((try simp only [i_lt, i_le, i_eq, i_in, i_cn, Int32.toInt_add, Int32.toInt_sub, Int32.toInt_mul, Int32.toInt_neg, Int32.reduceToInt, Int.bmod_add_bmod, Int.add_bmod_bmod, Int.bmod_sub_bmod, Int.sub_bmod_bmod, Int.bmod_mul_bmod, Int.mul_bmod_bmod, Int.bmod_neg_bmod, Nat.reducePow, Int.reduceBmod, Int.reduceNeg, Int.reduceMul, Int.reduceAdd, Int.reduceSub, not_true_eq_false, not_false_eq_true] at *) <;> (try simp (disch := omega) only [i_bm'] at *) <;> omega)
      · intro _ _ _
        rw [km, u147]
        refine t2_C_vote_105 (d := d + 4) I K M _ _ ?_
        intro s1 e1 s2 e2 s3 e3 s4 e4 s5 e5
        have g5 : ∀ c j, ¬ c = 120 → s5 c j = t1 c j := fun c j h => by rw [e5, u_c h, e4, u_c h, e3, u_c h, e2, u_c h, e1, u_c h]
        have F5 : ∀ q, ¬ q = 0 → ¬ q = 8 → f_same q s s5 := fun q a0 a8 c j hg => by
          rw [g5 c j (by rintro rfl; exact a0 (hg.symm.trans rfl))]
          exact F1 q a0 a8 c j hg
        have mo5 : f_mo s s5 := fun c j hc hg => by
          rw [g5 c j (by omega)]
          exact mo1 c j hc hg
        have m5 := fr_mem (F5 1 (by decide) (by decide)) hI.1
        have x5' := fr_txt (F5 6 (by decide) (by decide)) hI.2.2.2.2.2.1
        have e012 : s5 0 12 = s 146 15 := by rw [F5 6 (by decide) (by decide) 0 12 rfl]; exact x4
        have e019 : s5 0 19 = s5 146 17 := by
          rw [g5 0 19 (by decide), w1 0 19 (by omega), ht 0 19 (by decide : ¬ (8 : Nat) = 0), mo5 146 17 (by decide) (by decide : ¬ (8 : Nat) = 0)]
          exact z4
        have e14 : s5 146 14 = s 146 14 := F5 6 (by decide) (by decide) 146 14 rfl
        have t160 : t1 60 0 = s 146 18 := by rw [F1 4 (by decide) (by decide) 60 0 rfl]; exact p1
        rw [e012]
        refine sp_C_comesTo' (d := d + 2) m5 x5' e019 (s 146 15) 2 x5 (by rw [e14]; exact x6) (by decide) (by decide) K (s 146 18) (s 147 M.toNatClampNeg) Y N ?_ ?_ ?_ ?_ ?_ ?_
        · rw [e5, u_j (by decide), e4, u_j (by decide), e3, u_j (by decide), e2, u_j (by decide), e1, u_hit]
        · rw [e5, u_j (by decide), e4, u_j (by decide), e3, u_j (by decide), e2, u_hit, t160]
        · rw [e5, u_j (by decide), e4, u_j (by decide), e3, u_hit]
        · rw [e5, u_j (by decide), e4, u_hit, w2]
        · rw [e5, u_hit, w3]
        · intro t6 ht6
          rw [x_v_mo mo5]
          have hP : x_v s (s 146 15).toNatClampNeg (2 : Int32).toNatClampNeg K (s 146 18) (s 147 M.toNatClampNeg) Y N = P := eP
          rw [hP]
          have mo6 : f_mo s t6 := fun c j hc hg => by
            rw [ht6 c j (by omega) (by omega)]
            exact mo5 c j hc hg
          have lo6 : f_lo (jg_up (jg_up (jg_up s 122 0 Y) 122 1 N) 122 2 K) t6 := by
            intro c j hc hg
            have n120 : ¬ c = 120 := by rintro rfl; exact hg rfl
            have n121 : ¬ c = 121 := by rintro rfl; exact hg rfl
            rw [ht6 c j n120 n121, g5 c j n120]
            by_cases e : c = 122 ∧ (j = 0 ∨ j = 1 ∨ j = 2)
            · obtain ⟨rfl, e⟩ := e
              rcases e with rfl | rfl | rfl
              · rw [w2, u_j (by decide), u_j (by decide), u_hit]
              · rw [w3, u_j (by decide), u_hit]
              · rw [w4, u_hit]
            · rw [w1 c j e, u_r (fun a b => e ⟨a, Or.inr (Or.inr b)⟩), u_r (fun a b => e ⟨a, Or.inr (Or.inl b)⟩), u_r (fun a b => e ⟨a, Or.inl b⟩)]
              exact ht c j hg
          have t660 : t6 60 0 = s 146 18 := by
            rw [lo6 60 0 (by decide) (by decide : ¬ (4 : Nat) = 0), u_c (by decide), u_c (by decide), u_c (by decide)]
            exact p1
          have t663 : t6 63 I.toNatClampNeg = pl := by
            rw [lo6 63 _ (by decide) (by decide : ¬ (4 : Nat) = 0), u_c (by decide), u_c (by decide), u_c (by decide)]
            exact ep
          have t664 : t6 64 I.toNatClampNeg = wd := by
            rw [lo6 64 _ (by decide) (by decide : ¬ (4 : Nat) = 0), u_c (by decide), u_c (by decide), u_c (by decide)]
            exact k7
          have t619 : t6 0 19 = s 146 17 := by
            rw [lo6 0 19 (by decide) (by decide : ¬ (8 : Nat) = 0), u_c (by decide), u_c (by decide), u_c (by decide)]
            exact z4
          have V1lo : ∀ c : Int32, f_lo (V1 s Y N K c I) (jg_up (jg_up t6 122 3 c) 60 0 I) := by
            intro c
            unfold V1
            exact lo_hi (by decide) (lo_up (lo_hi (by decide) (lo_hi (by decide) (lo_hi (by decide) (lo_hi (by decide) (lo_up lo6))))))
          have V1mo : ∀ c : Int32, f_mo s (jg_up (jg_up t6 122 3 c) 60 0 I) := fun c => mo_tlo (by decide) (mo_tlo (by decide) mo6)
          have V1I : ∀ c : Int32, c = 0 ∨ c = 1 → Inv (V1 s Y N K c I) := fun c hc => Inv_V1 hI Y N K c I hc hi (by omega)
          have W13 : ∀ c : Int32, V1 s Y N K c I 146 13 = s 146 13 := fun c => by unfold V1; (simp (disch := omega) only [u_hit, u_c, u_j])
          have W155 : ∀ c : Int32, V1 s Y N K c I 155 = s 155 := fun c => by unfold V1; funext j; (simp (disch := omega) only [u_hit, u_c, u_j])
          have W153 : ∀ c : Int32, V1 s Y N K c I 153 = s 153 := fun c => by unfold V1; funext j; (simp (disch := omega) only [u_hit, u_c, u_j])
          have W154 : ∀ c : Int32, V1 s Y N K c I 154 = s 154 := fun c => by unfold V1; funext j; (simp (disch := omega) only [u_hit, u_c, u_j])
          have W18 : ∀ c : Int32, V1 s Y N K c I 146 18 = I := fun c => by unfold V1; (simp (disch := omega) only [u_hit, u_c, u_j])
          have Wfl : ∀ c : Int32, fl_n (V1 s Y N K c I) = fl_n s ∧ fl_R (V1 s Y N K c I) = fl_R s := by
            intro c
            constructor
            · unfold fl_n; rw [W13, W153]
            · funext j; unfold fl_R; rw [W13, W154]
          have E60 : ∀ c : Int32, (jg_up t6 122 3 c 60 0) - 1 = I := fun c => by rw [u_c (by decide), t660]; exact eI
          have X3 : ∀ c : Int32, (jg_up (jg_up t6 122 3 c) 60 0 I) 122 3 = c := fun c => by (simp (disch := omega) only [u_hit, u_c, u_j])
          have X63 : ∀ c : Int32, (jg_up (jg_up t6 122 3 c) 60 0 I) 63 I.toNatClampNeg = pl := fun c => by rw [u_c (by decide), u_c (by decide)]; exact t663
          have X64 : ∀ c : Int32, (jg_up (jg_up t6 122 3 c) 60 0 I) 64 I.toNatClampNeg = wd := fun c => by rw [u_c (by decide), u_c (by decide)]; exact t664
          have X19 : ∀ c : Int32, (jg_up (jg_up t6 122 3 c) 60 0 I) 0 19 = s 146 17 := fun c => by rw [u_c (by decide), u_c (by decide)]; exact t619
          have ji : jv_in I 8 = true := by rw [i_in]; exact ⟨hi, by omega⟩
          have hcnt : ∀ c : Int32, (V1 s Y N K c I 146 18).toInt = I.toNatClampNeg := fun c => by rw [W18, i_cn]; omega
          have hup : ¬ K = 6 → 0 ≤ (s 146 13).toInt := k10
          clear e1 e2 e3 e4 e5 F1 F5 m1 m5 x5' lo6 w1 w2 w3 w4 ht6 g5 mo1 mo5 km t4 f1 f2 f3 f4 f5 f6 ht hIt q2 k1 k4 k7 k8 k9 k10 k11 hP eY eN eP eK eM ep ew eb
          refine t2_C_vote_142 (d := d + 4) I K M P ?a1 ?a2 ?a3 (fun _ _ _ _ _ _ => ji) (fun _ _ _ _ _ _ => ji) ?a6 ?a7 ?a8 ?a9 (fun _ _ _ _ _ _ => ji) (fun _ _ _ _ _ _ => ji) ?a12
          case a1 =>
            intro g s1 e1 s2 e2 _ gk s3 e3 _
            subst e1
            rw [E60] at e2
            subst e2
            rw [X19] at e3
            subst e3
            exact h0 g gk _ (V1mo 0) (V1lo 0)
          case a2 =>
            intro g s1 e1 s2 e2 _ gk s3 e3 gg
            subst e1
            rw [E60] at e2
            subst e2
            subst e3
            rw [u_c (by decide), X3] at gg
            exact absurd rfl gg
          case a3 =>
            intro g s1 e1 s2 e2 _ gk
            subst e1
            rw [E60] at e2
            subst e2
            have hu := hup (by rw [gk]; decide)
            refine sp_C_leave (d := d + 3) (V1I 0 (Or.inl rfl)) (V1lo 0) (by rw [W13]; exact hu) 4 _ (fun e => absurd e (by decide)) (fun _ => rfl) ?_
            intro t7 h7 l7
            rw [W13, W155] at l7
            have l19 : t7 0 19 = s 146 17 := by
              rw [l7 0 19 (by decide) (by decide : ¬ (8 : Nat) = 0)]
              unfold VL V1
              rw [← z4]
              (simp (disch := omega) only [u_hit, u_c, u_j])
            have l3 : t7 122 3 = 0 := by
              rw [l7 122 3 (by decide) (by decide : ¬ (8 : Nat) = 0)]
              unfold VL V1
              (simp (disch := omega) only [u_hit, u_c, u_j])
            have hf := hL 0 4 _ (Or.inl ⟨g, rfl, gk, rfl, rfl⟩) t7 (mo_hs (V1mo 0) h7) l7
            refine t2_C_vote_211 (d := d + 4) I K M ?_ ?_
            · intro s8 e8 _; rw [l19] at e8; subst e8; exact hf
            · intro s8 e8 gg; subst e8; rw [u_c (by decide), l3] at gg; exact absurd rfl gg
          case a6 =>
            intro g s1 e1 s2 e2 gg
            subst e1
            rw [E60] at e2
            subst e2
            rw [X3] at gg
            exact absurd rfl gg
          case a7 =>
            intro g s1 e1 s2 e2 gg
            subst e1
            rw [E60] at e2
            subst e2
            rw [X3] at gg
            exact absurd gg (by decide)
          case a8 =>
            intro g s1 e1 s2 e2 gg
            subst e1
            rw [E60] at e2
            subst e2
            rw [X3] at gg
            exact absurd gg (by decide)
          case a9 =>
            intro g s1 e1 s2 e2 gg
            subst e1
            rw [E60] at e2
            subst e2
            rw [X3] at gg
            exact absurd gg (by decide)
          case a12 =>
            intro g s1 e1 s2 e2 _
            subst e1
            rw [E60] at e2
            subst e2
            rw [X63, X64]
            have fin : ∀ t7 : jg_H, t7 0 19 = s 146 17 → t7 122 3 = 1 → B (some (.int 1)) (jg_up t7 0 19 ((s 146 17) + 1)) → q_W G (d + 5) jm_C_vote B 199 [some (.ref 0), some (.int I), some (.int K), some (.int M)] [] t7 := by
              intro t7 l19 l3 hf
              refine t2_C_vote_199 (d := d + 4) I K M ?_ ?_
              · intro s8 e8 gg; subst e8; rw [u_c (by decide), l3] at gg; exact absurd gg (by decide)
              · intro s8 e8 _; rw [l19] at e8; subst e8; exact hf
            refine sp_C_carry (d := d + 1) (V1I 1 (Or.inr rfl)) (V1lo 1) K pl wd k2 k3 (fun h => by rw [W13]; exact hup h) I.toNatClampNeg (hcnt 1) ?_ ?_ ?_ ?_
            · intro st nm hs t7 h7 l7
              rw [W13] at l7
              rw [W13, W155] at hs
              refine fin t7 ?_ ?_ (hL 1 st nm (Or.inr ⟨g, rfl, hs⟩) t7 (mo_hs (V1mo 1) h7) l7)
              · rw [l7 0 19 (by decide) (by decide : ¬ (8 : Nat) = 0)]
                unfold VL V1
                rw [← z4]
                (simp (disch := omega) only [u_hit, u_c, u_j])
              · rw [l7 122 3 (by decide) (by decide : ¬ (8 : Nat) = 0)]
                unfold VL V1
                (simp (disch := omega) only [u_hit, u_c, u_j])
            · intro gk t7 h7 l7
              refine fin t7 ?_ ?_ (hR g gk t7 (mo_hs (V1mo 1) h7) l7)
              · rw [l7 0 19 (by decide) (by decide : ¬ (8 : Nat) = 0)]
                unfold VR V1
                rw [← z4]
                (simp (disch := omega) only [u_hit, u_c, u_j])
              · rw [l7 122 3 (by decide) (by decide : ¬ (8 : Nat) = 0)]
                unfold VR V1
                (simp (disch := omega) only [u_hit, u_c, u_j])
            · intro gk hc
              rw [(Wfl 1).1] at hc
              exact fin _ (X19 1) (X3 1) (hN g gk hc _ (V1mo 1) (V1lo 1))
            · intro gk hc t7 h7 l7
              rw [(Wfl 1).1] at hc
              rw [W13, (Wfl 1).1, (Wfl 1).2] at l7
              refine fin t7 ?_ ?_ (hA g gk hc t7 (mo_hs (V1mo 1) h7) l7)
              · rw [l7.2.2.2.2 0 19 (by decide) (by decide : ¬ (8 : Nat) = 0) (by omega) (by omega) (by omega) (by omega)]
                unfold V1
                rw [← z4]
                (simp (disch := omega) only [u_hit, u_c, u_j])
              · rw [l7.2.2.2.2 122 3 (by decide) (by decide : ¬ (8 : Nat) = 0) (by have hu := hup (by rintro rfl; exact absurd gk.2 (by decide)); have := hI.2.2.1.2.2.2.2.2.2.2.1; have := hI.2.1.2.2.1; rw [i_cn]; omega) (by have hu := hup (by rintro rfl; exact absurd gk.2 (by decide)); have := hI.2.2.1.2.2.2.2.2.2.2.1; have := hI.2.1.2.2.1; rw [i_cn]; omega) (by omega) (by omega)]
                unfold V1
                (simp (disch := omega) only [u_hit, u_c, u_j])
    · intro hq
      exact h23 hq t ht
  all_goals (clear kp eY eN eP eK eM ep ew; intros)
  · refine h21 ?_; clear h21 h22 h23 h0 hL hR hN hA hI; ((try simp only [i_lt, i_le, i_eq, i_in, i_cn, Int32.toInt_add, Int32.toInt_sub, Int32.toInt_mul, Int32.toInt_neg, Int32.reduceToInt, Int.bmod_add_bmod, Int.add_bmod_bmod, Int.bmod_sub_bmod, Int.sub_bmod_bmod, Int.bmod_mul_bmod, Int.mul_bmod_bmod, Int.bmod_neg_bmod, Nat.reducePow, Int.reduceBmod, Int.reduceNeg, Int.reduceMul, Int.reduceAdd, Int.reduceSub, not_true_eq_false, not_false_eq_true] at *) <;> (try simp (disch := omega) only [i_bm'] at *) <;> omega)
  · exfalso; clear h21 h22 h23 h0 hL hR hN hA hI; ((try simp only [i_lt, i_le, i_eq, i_in, i_cn, Int32.toInt_add, Int32.toInt_sub, Int32.toInt_mul, Int32.toInt_neg, Int32.reduceToInt, Int.bmod_add_bmod, Int.add_bmod_bmod, Int.bmod_sub_bmod, Int.sub_bmod_bmod, Int.bmod_mul_bmod, Int.mul_bmod_bmod, Int.bmod_neg_bmod, Nat.reducePow, Int.reduceBmod, Int.reduceNeg, Int.reduceMul, Int.reduceAdd, Int.reduceSub, not_true_eq_false, not_false_eq_true] at *) <;> (try simp (disch := omega) only [i_bm'] at *) <;> omega)
  · exfalso; clear h21 h22 h23 h0 hL hR hN hA hI; ((try simp only [i_lt, i_le, i_eq, i_in, i_cn, Int32.toInt_add, Int32.toInt_sub, Int32.toInt_mul, Int32.toInt_neg, Int32.reduceToInt, Int.bmod_add_bmod, Int.add_bmod_bmod, Int.bmod_sub_bmod, Int.sub_bmod_bmod, Int.bmod_mul_bmod, Int.mul_bmod_bmod, Int.bmod_neg_bmod, Nat.reducePow, Int.reduceBmod, Int.reduceNeg, Int.reduceMul, Int.reduceAdd, Int.reduceSub, not_true_eq_false, not_false_eq_true] at *) <;> (try simp (disch := omega) only [i_bm'] at *) <;> omega)
  · clear h21 h22 h23 h0 hL hR hN hA hI; ((try simp only [i_lt, i_le, i_eq, i_in, i_cn, Int32.toInt_add, Int32.toInt_sub, Int32.toInt_mul, Int32.toInt_neg, Int32.reduceToInt, Int.bmod_add_bmod, Int.add_bmod_bmod, Int.bmod_sub_bmod, Int.sub_bmod_bmod, Int.bmod_mul_bmod, Int.mul_bmod_bmod, Int.bmod_neg_bmod, Nat.reducePow, Int.reduceBmod, Int.reduceNeg, Int.reduceMul, Int.reduceAdd, Int.reduceSub, not_true_eq_false, not_false_eq_true] at *) <;> (try simp (disch := omega) only [i_bm'] at *) <;> omega)
  · clear h21 h22 h23 h0 hL hR hN hA hI; ((try simp only [i_lt, i_le, i_eq, i_in, i_cn, Int32.toInt_add, Int32.toInt_sub, Int32.toInt_mul, Int32.toInt_neg, Int32.reduceToInt, Int.bmod_add_bmod, Int.add_bmod_bmod, Int.bmod_sub_bmod, Int.sub_bmod_bmod, Int.bmod_mul_bmod, Int.mul_bmod_bmod, Int.bmod_neg_bmod, Nat.reducePow, Int.reduceBmod, Int.reduceNeg, Int.reduceMul, Int.reduceAdd, Int.reduceSub, not_true_eq_false, not_false_eq_true] at *) <;> (try simp (disch := omega) only [i_bm'] at *) <;> omega)
  · refine h22 ?_ ?_ <;> (clear h21 h22 h23 h0 hL hR hN hA hI; ((try simp only [i_lt, i_le, i_eq, i_in, i_cn, Int32.toInt_add, Int32.toInt_sub, Int32.toInt_mul, Int32.toInt_neg, Int32.reduceToInt, Int.bmod_add_bmod, Int.add_bmod_bmod, Int.bmod_sub_bmod, Int.sub_bmod_bmod, Int.bmod_mul_bmod, Int.mul_bmod_bmod, Int.bmod_neg_bmod, Nat.reducePow, Int.reduceBmod, Int.reduceNeg, Int.reduceMul, Int.reduceAdd, Int.reduceSub, not_true_eq_false, not_false_eq_true] at *) <;> (try simp (disch := omega) only [i_bm'] at *) <;> omega))
