/-! vote -/
theorem fin_min {W t t' : jg_H} {v : Int32} (hI : Inv W) (hl : f_lo W t) (hs : f_ls (jg_up t 0 19 v) t') (hm : f_mo W t') (h0 : 0 ≤ v.toInt) (h1 : v.toInt ≤ 100) : Inv (jg_up t' 146 17 v) := by
  refine Inv_0 (Inv_min hI v h0 h1) (lo_mo ?_ (mo_up (mo_lo (by decide) hm)))
  intro c j hc hg
  have a1 : jg_up t' 146 17 v c j = t' c j := u_c (by omega)
  have a2 : jg_up (jg_up W 0 19 v) 146 17 v c j = jg_up W 0 19 v c j := u_c (by omega)
  rw [a1, a2, hs c hc]
  unfold jg_up
  split
  · rfl
  · exact hl c j hc hg
theorem fin_amend {W t t' : jg_H} {v : Int32} (hI : Inv W) (hu : 0 ≤ (W 146 13).toInt) (K pl wd yd bd : Int32) (hK : 1 ≤ K.toInt ∧ K.toInt ≤ 3) (hw : K.toInt = 2 ∨ K.toInt = 3 → 1 ≤ wd.toInt ∧ wd.toInt ≤ 60) (hcan : x_can (fl_n W) K pl) (hd : f_pl K pl yd bd (W 153 (W 146 13).toInt.toNat)) (cnt : Nat) (hcnt : (W 146 18).toInt = cnt) (hC : A_C W t (W 146 13).toNatClampNeg (fl_n W) (fl_R W) K pl wd cnt) (hs : f_ls (jg_up t 0 19 v) t') (hM : A_M W t' (W 146 13).toNatClampNeg (fl_n W) (fl_R W) K pl wd bd cnt) (h0 : 0 ≤ v.toInt) (h1 : v.toInt ≤ 100) : Inv (jg_up t' 146 17 v) := by
  obtain ⟨m1, m2, m3, m4, m5⟩ := hC
  obtain ⟨k1, k2, k3, k4, k5⟩ := hM
  have lw : ∀ c j, c < 146 → ¬ (c = 0 ∧ j = 19) → t' c j = t c j := fun c j hc h => by rw [hs c hc]; exact u_r (fun e e' => h ⟨e, e'⟩)
  have t019 : t 0 19 = W 0 19 := m5 0 19 (by decide) (by decide : ¬ (8 : Nat) = 0) (by omega) (by omega) (by omega) (by omega)
  have t'019 : t' 0 19 = v := by rw [hs 0 (by decide), u_hit]
  have G : Inv (jg_up t' 0 19 (W 0 19)) := by
    refine Inv_amend hI hu K pl wd yd bd hK hw hcan hd cnt hcnt ⟨?_, ?_, ?_, ?_, ?_⟩ ⟨?_, ?_, ?_, ?_, ?_⟩
    · rw [u_c (by omega), lw _ _ (by have := hI.2.2.1.2.2.2.2.2.2.2.1; have := hI.2.1.2.2.1; rw [i_cn]; omega) (by omega)]; exact m1
    · intro j hj
      rw [u_c (by omega), lw _ _ (by have := hI.2.2.1.2.2.2.2.2.2.2.1; have := hI.2.1.2.2.1; rw [i_cn]; omega) (by omega)]; exact m2 j hj
    · intro j hj
      rw [u_c (by omega), lw _ _ (by omega) (by omega)]; exact m3 j hj
    · rw [u_c (by omega), lw _ _ (by omega) (by omega)]; exact m4
    · intro c j hc hg h1 h2 h3 h4
      by_cases e : c = 0 ∧ j = 19
      · rw [e.1, e.2, u_hit]
      · rw [u_r (fun a b => e ⟨a, b⟩), lw c j hc e]
        exact m5 c j hc hg h1 h2 h3 h4
    · rw [u_c (by omega)]; exact k1
    · intro j hj; rw [u_c (by omega)]; exact k2 j hj
    · intro j hj; rw [u_c (by omega)]; exact k3 j hj
    · rw [u_c (by omega)]; exact k4
    · intro c j hc hg h1 h2 h3 h4
      rw [u_c (by omega)]
      exact k5 c j hc hg h1 h2 h3 h4
  refine Inv_0 (Inv_min G v h0 h1) ?_
  intro c j _
  by_cases e : c = 0 ∧ j = 19
  · obtain ⟨rfl, rfl⟩ := e
    rw [u_c (by decide), u_c (by decide), u_hit]
    exact t'019
  · by_cases e' : c = 146 ∧ j = 17
    · obtain ⟨rfl, rfl⟩ := e'
      rw [u_hit, u_hit]
    · rw [u_r (fun a b => e' ⟨a, b⟩), u_r (fun a b => e' ⟨a, b⟩), u_r (fun a b => e ⟨a, b⟩), u_r (fun a b => e ⟨a, b⟩)]
set_option maxRecDepth 20000 in
theorem st_vote {G : jv_X} {d : Nat} {s : jg_H} (hI : Inv s) : q_P G (d + 6) 92 [.ref 0] s (fun r s' => q_P G (d + 6) 189 [.ref 146] s' (fun r' s'' => r = r' ∧ Inv s'')) := by
  have b2 := hI.1.2.1
  obtain ⟨I, K, M, pl, wd, Y, N, P, mb, hv⟩ : ∃ I K M pl wd Y N P mb, vt_ok s I K M pl wd Y N P mb := ⟨_, _, _, _, _, _, _, _, (s 146 0).toInt.toNat, by omega, rfl, rfl, rfl, rfl, rfl, rfl, rfl, rfl⟩
  have hv' := hv
  obtain ⟨eb, eI, eK, eM, ep, ew, eY, eN, eP⟩ := hv'
  have p2 := hI.2.2.2.1.2.1
  have p3 := hI.2.2.2.1.2.2.1
  have kp := key_pil hI.2.2.2.1 I
  obtain ⟨_, _, _, _, z5, z6, _⟩ := hI.2.2.2.2.2.2.2.1
  have hI0 : 0 < (s 146 18).toInt → 0 ≤ I.toInt ∧ I.toInt < (s 146 18).toInt ∧ I.toInt ≤ (s 146 18).toInt := by
    intro hn
    rw [← eI]
    clear hI hv eb eI eK eM ep ew eY eN eP kp
    refine ⟨?_, ?_, ?_⟩ <;> ((try simp only [i_lt, i_le, i_eq, i_in, i_cn, Int32.toInt_add, Int32.toInt_sub, Int32.toInt_mul, Int32.toInt_neg, Int32.reduceToInt, Int.bmod_add_bmod, Int.add_bmod_bmod, Int.bmod_sub_bmod, Int.sub_bmod_bmod, Int.bmod_mul_bmod, Int.mul_bmod_bmod, Int.bmod_neg_bmod, Nat.reducePow, Int.reduceBmod, Int.reduceNeg, Int.reduceMul, Int.reduceAdd, Int.reduceSub, not_true_eq_false, not_false_eq_true] at *) <;> (try simp (disch := omega) only [i_bm'] at *) <;> omega)
  have W13 : ∀ c : Int32, V1 s Y N K c I 146 13 = s 146 13 := fun c => by unfold V1; (simp (disch := omega) only [u_hit, u_c, u_j])
  have W14 : ∀ c : Int32, V1 s Y N K c I 146 14 = s 146 14 := fun c => by unfold V1; (simp (disch := omega) only [u_hit, u_c, u_j])
  have W155 : ∀ c : Int32, V1 s Y N K c I 155 = s 155 := fun c => by unfold V1; funext j; (simp (disch := omega) only [u_hit, u_c, u_j])
  have W153 : ∀ c : Int32, V1 s Y N K c I 153 = s 153 := fun c => by unfold V1; funext j; (simp (disch := omega) only [u_hit, u_c, u_j])
  have W154 : ∀ c : Int32, V1 s Y N K c I 154 = s 154 := fun c => by unfold V1; funext j; (simp (disch := omega) only [u_hit, u_c, u_j])
  have W18 : ∀ c : Int32, V1 s Y N K c I 146 18 = I := fun c => by unfold V1; (simp (disch := omega) only [u_hit, u_c, u_j])
  have Wfl : ∀ c : Int32, fl_n (V1 s Y N K c I) = fl_n s ∧ fl_R (V1 s Y N K c I) = fl_R s := by
    intro c
    constructor
    · unfold fl_n; rw [W13, W153]
    · funext j; unfold fl_R; rw [W13, W154]
  have hmin : (s 146 17).toInt < 100 → 0 ≤ ((s 146 17) + 1).toInt ∧ ((s 146 17) + 1).toInt ≤ 100 := by
    intro h
    clear hI hv eb eI eK eM ep ew eY eN eP kp hI0 W13 W14 W155 W153 W154 W18 Wfl
    constructor <;> ((try simp only [i_lt, i_le, i_eq, i_in, i_cn, Int32.toInt_add, Int32.toInt_sub, Int32.toInt_mul, Int32.toInt_neg, Int32.reduceToInt, Int.bmod_add_bmod, Int.add_bmod_bmod, Int.bmod_sub_bmod, Int.sub_bmod_bmod, Int.bmod_mul_bmod, Int.mul_bmod_bmod, Int.bmod_neg_bmod, Nat.reducePow, Int.reduceBmod, Int.reduceNeg, Int.reduceMul, Int.reduceAdd, Int.reduceSub, not_true_eq_false, not_false_eq_true] at *) <;> (try simp (disch := omega) only [i_bm'] at *) <;> omega)
  have z0 : ∀ {n : Int}, 0 < n → ¬ n = 0 := fun h e => by omega
  refine sp_C_vote (d := d) hI I K M pl wd Y N P mb hv ?_ ?_ ?_ ?_ ?_ ?_ ?_ ?_
  · intro h
    refine sp_M_vote (d := d) hI (fun _ _ _ _ => rfl) I K M pl wd Y N P mb hv (fun _ => ⟨rfl, hI⟩) ?_ ?_ ?_ ?_ ?_ ?_ ?_ <;> (intro g; exact absurd h (z0 g))
  · intro h h'
    refine sp_M_vote (d := d) hI (fun _ _ _ _ => rfl) I K M pl wd Y N P mb hv (fun g => absurd g (z0 h)) (fun _ _ => ⟨rfl, hI⟩) ?_ ?_ ?_ ?_ ?_ ?_ <;> (intro _ g; exact absurd h' (by omega))
  · intro h h' hq t ht
    refine sp_M_vote (d := d) hI (mo_0 ht) I K M pl wd Y N P mb hv (fun g => absurd g (z0 h)) (fun _ g => absurd g (by omega)) (fun _ _ _ t' l m => ⟨rfl, Inv_0 (Inv_0 hI ht) (lo_mo (fun c j hc _ => congrFun (l c hc) j) (fun c j hc hg => (m c j hc hg).trans (ht c j hg).symm))⟩) ?_ ?_ ?_ ?_ ?_ <;> (intro _ _ g; exact absurd hq g)
  · intro h h' hq hP hK t m l
    obtain ⟨i0, i1, i2⟩ := hI0 h
    obtain ⟨v0, v1⟩ := hmin h'
    refine sp_M_vote (d := d) hI (mo_tlo (by decide) m) I K M pl wd Y N P mb hv (fun g => absurd g (z0 h)) (fun _ g => absurd g (by omega)) (fun _ _ g => absurd g hq) ?_ ?_ (fun _ _ _ g => absurd hP g) (fun _ _ _ g => absurd hP g) (fun _ _ _ g => absurd hP g)
    · intro _ _ _ _ _ t' l' m'
      exact ⟨rfl, fin_min (Inv_V1 hI Y N K 0 I (Or.inl rfl) i0 i2) l l' m' v0 v1⟩
    · rintro _ _ _ c st nm (⟨_, _, g, _⟩ | ⟨g, _⟩)
      · exact absurd g hK
      · exact absurd hP g
  · intro h h' hq c st nm hs t m l
    obtain ⟨i0, i1, i2⟩ := hI0 h
    obtain ⟨v0, v1⟩ := hmin h'
    have hKn : K = 0 ∨ K = 4 ∨ K = 5 := by
      rcases hs with ⟨_, _, g, _⟩ | ⟨_, _, ⟨g, _⟩ | ⟨g, _⟩ | ⟨g, _⟩⟩
      · exact Or.inl g
      · exact Or.inl g
      · exact Or.inr (Or.inl g)
      · exact Or.inr (Or.inr g)
    have hu := (kp i0 i1).2.2.2.2.2.2.2.2.2.1 (by rw [eK]; intro e; rcases hKn with g | g | g <;> (rw [g] at e; exact absurd e (by decide)))
    have hc : c = 0 ∨ c = 1 := by rcases hs with ⟨_, g, _⟩ | ⟨_, g, _⟩; exact Or.inl g; exact Or.inr g
    have hst : (0 ≤ st.toInt ∧ st.toInt ≤ 4 ∧ ¬ st = 1) ∧ (nm = 0 ∨ nm = s 155 (s 146 13).toNatClampNeg) := by
      rcases hs with ⟨_, _, _, g, g'⟩ | ⟨_, _, ⟨_, g, g'⟩ | ⟨_, g, g'⟩ | ⟨_, g, g'⟩⟩ <;> subst g
      · exact ⟨by decide, Or.inr g'⟩
      · exact ⟨by decide, Or.inr g'⟩
      · exact ⟨by decide, Or.inr g'⟩
      · exact ⟨by decide, Or.inl g'⟩
    have hVL : Inv (VL (V1 s Y N K c I) (s 146 13).toNatClampNeg st nm) := by
      have := Inv_VL (Inv_V1 hI Y N K c I hc i0 i2) (by rw [W13]; exact hu) st nm hst.1.1 hst.1.2.1 hst.1.2.2 (by rw [W13, W155]; exact hst.2)
      rw [W13] at this
      exact this
    have k123 : ¬ (1 ≤ K.toInt ∧ K.toInt ≤ 3) := by rintro ⟨g, g'⟩; rcases hKn with e | e | e <;> (rw [e] at g g'; revert g g'; decide)
    have k6 : ¬ K = 6 := by intro e; rcases hKn with g | g | g <;> (rw [g] at e; exact absurd e (by decide))
    refine sp_M_vote (d := d) hI (mo_tlo (by decide) m) I K M pl wd Y N P mb hv (fun g => absurd g (z0 h)) (fun _ g => absurd g (by omega)) (fun _ _ g => absurd g hq) ?_ ?_ (fun _ _ _ _ g => absurd g k6) (fun _ _ _ _ g => absurd g k123) (fun _ _ _ _ g => absurd g k123)
    · intro _ _ _ g g'
      rcases hs with ⟨_, _, e, _⟩ | ⟨e, _⟩
      · exact absurd e g'
      · exact absurd g e
    · intro _ _ _ c' st' nm' hs' t' l' m'
      have he : c' = c ∧ st' = st ∧ nm' = nm := by
        rcases hs with ⟨e1, e2, e3, e4, e5⟩ | ⟨e1, e2, ⟨e3, e4, e5⟩ | ⟨e3, e4, e5⟩ | ⟨e3, e4, e5⟩⟩ <;> rcases hs' with ⟨f1, f2, f3, f4, f5⟩ | ⟨f1, f2, ⟨f3, f4, f5⟩ | ⟨f3, f4, f5⟩ | ⟨f3, f4, f5⟩⟩ <;> first
          | exact ⟨f2.trans e2.symm, f4.trans e4.symm, f5.trans e5.symm⟩
          | exact absurd e1 f1
          | exact absurd f1 e1
          | (rw [e3] at f3; exact absurd f3 (by decide))
      obtain ⟨rfl, rfl, rfl⟩ := he
      exact ⟨rfl, fin_min hVL l l' m' v0 v1⟩
  · intro h h' hq hP hK t m l
    obtain ⟨i0, i1, i2⟩ := hI0 h
    obtain ⟨v0, v1⟩ := hmin h'
    have hw := (kp i0 i1).2.2.2.2.2.2.2.2.1 (by rw [eK]; exact hK)
    rw [ew] at hw
    refine sp_M_vote (d := d) hI (mo_tlo (by decide) m) I K M pl wd Y N P mb hv (fun g => absurd g (z0 h)) (fun _ g => absurd g (by omega)) (fun _ _ g => absurd g hq) (fun _ _ _ g => absurd g hP) ?_ ?_ ?_ ?_
    · rintro _ _ _ c st nm (⟨g, _⟩ | ⟨_, _, ⟨g, _⟩ | ⟨g, _⟩ | ⟨g, _⟩⟩)
      · exact absurd g hP
      all_goals (rw [hK] at g; exact absurd g (by decide))
    · intro _ _ _ _ _ t' l' m'
      exact ⟨rfl, fin_min (Inv_VR (Inv_V1 hI Y N K 1 I (Or.inr rfl) i0 i2) wd hw.1 (by rw [W14]; exact hw.2)) l l' m' v0 v1⟩
    · rintro _ _ _ _ ⟨_, g⟩; rw [hK] at g; exact absurd g (by decide)
    · rintro _ _ _ _ ⟨_, g⟩; rw [hK] at g; exact absurd g (by decide)
  · intro h h' hq hP hK hc t m l
    obtain ⟨i0, i1, i2⟩ := hI0 h
    obtain ⟨v0, v1⟩ := hmin h'
    refine sp_M_vote (d := d) hI (mo_tlo (by decide) m) I K M pl wd Y N P mb hv (fun g => absurd g (z0 h)) (fun _ g => absurd g (by omega)) (fun _ _ g => absurd g hq) (fun _ _ _ g => absurd g hP) ?_ ?_ ?_ ?_
    · rintro _ _ _ c st nm (⟨g, _⟩ | ⟨_, _, ⟨g, _⟩ | ⟨g, _⟩ | ⟨g, _⟩⟩)
      · exact absurd g hP
      all_goals (rw [g] at hK; exact absurd hK (by decide))
    · intro _ _ _ _ g; rw [g] at hK; exact absurd hK (by decide)
    · intro _ _ _ _ _ _ t' l' m'
      exact ⟨rfl, fin_min (Inv_V1 hI Y N K 1 I (Or.inr rfl) i0 i2) l l' m' v0 v1⟩
    · intro _ _ _ _ _ g; exact absurd g hc
  · intro h h' hq hP hK hc t m l
    obtain ⟨i0, i1, i2⟩ := hI0 h
    obtain ⟨v0, v1⟩ := hmin h'
    obtain ⟨k1, k2, k3, k4, k5, k6, k7, k8, k9, k10, k11⟩ := kp i0 i1
    rw [eK] at k8 k10 k11
    rw [ew] at k8
    rw [ep] at k11
    have k6' : ¬ K = 6 := by rintro rfl; exact absurd hK (by decide)
    have hu := k10 k6'
    refine sp_M_vote (d := d) hI (mo_tlo (by decide) m) I K M pl wd Y N P mb hv (fun g => absurd g (z0 h)) (fun _ g => absurd g (by omega)) (fun _ _ g => absurd g hq) (fun _ _ _ g => absurd g hP) ?_ ?_ ?_ ?_
    · rintro _ _ _ c st nm (⟨g, _⟩ | ⟨_, _, ⟨g, _⟩ | ⟨g, _⟩ | ⟨g, _⟩⟩)
      · exact absurd g hP
      all_goals (rw [g] at hK; exact absurd hK (by decide))
    · intro _ _ _ _ g; exact absurd g k6'
    · intro _ _ _ _ _ g; exact absurd hc g
    · intro _ _ _ _ _ _ t' l' m'
      refine ⟨rfl, fin_amend (Inv_V1 hI Y N K 1 I (Or.inr rfl) i0 i2) (by rw [W13]; exact hu) K pl wd (s 159 I.toNatClampNeg) (s 161 I.toNatClampNeg) hK (fun g => k8 (by rcases g with g | g; exact Or.inl (Int32.toInt_inj.mp g); exact Or.inr (Int32.toInt_inj.mp g))) (by rw [(Wfl 1).1]; exact hc) (by rw [W13, W153]; exact k11) I.toNatClampNeg (by rw [W18, i_cn]; omega) (by rw [W13, (Wfl 1).1, (Wfl 1).2]; exact l) l' (by rw [W13, (Wfl 1).1, (Wfl 1).2]; exact m') v0 v1⟩
