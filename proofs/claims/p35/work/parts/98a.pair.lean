/-! a law that compares the answers of some methods alone: what holds at the head of its loop -/
def wt_R (s : jg_H) : Prop := lz_KC s ∧ lz_KM s ∧ s 0 1 = s 146 0 ∧ s 0 3 = s 146 6 ∧ s 0 18 = s 146 16
/-- one method of the class, then the reference's: they come to an end, and alike where cmp says so -/
def wt_H (G : jv_X) (R : jg_H → Prop) (cmp : Prop) (kC kM : Nat) (as : List Value) : Prop := ∀ s, R s → q_P G 91 kC (.ref 0 :: as) s (fun v s' => q_P G 91 kM (.ref 146 :: as) s' (fun v' s'' => (cmp → v = v') ∧ R s''))
theorem zz_n {A : Nat → Prop} : lz_s A [] := fun _ h => absurd h List.not_mem_nil
theorem zz_C {r : List Value} (h : lz_s lz_C r) : lz_s lz_C (.ref 0 :: r) := lz_cv (fun _ => (by decide : 0 < 146)) h
theorem zz_M {r : List Value} (h : lz_s lz_M r) : lz_s lz_M (.ref 146 :: r) := lz_cv (fun _ => (by decide : 146 ≤ 146)) h
theorem zz_G {v : Value} (h : v = .null ∨ v = .ref 1000005) (A : Nat → Prop) : lz_v A v := by
  rcases h with rfl | rfl
  · trivial
  · exact lz_big (by omega)
theorem zz_k0 : (jg_knd 0).1 = 11 := by decide +kernel
theorem zz_k146 : (jg_knd 146).1 = 12 := by decide +kernel
/-- what one side does, and which of its numbers it leaves as they are -/
def wt_C (G : jv_X) (k : Nat) (as : List Value) (n : Nat → Prop) : Prop := ∀ s, lz_KC s → q_P G 91 k (.ref 0 :: as) s (fun _ s' => lz_KC s' ∧ (∀ c j, 146 ≤ c → s' c j = s c j) ∧ ∀ f, n f → s' 0 f = s 0 f)
def wt_M (G : jv_X) (k : Nat) (as : List Value) (n : Nat → Prop) : Prop := ∀ s, lz_KM s → q_P G 91 k (.ref 146 :: as) s (fun _ s' => lz_KM s' ∧ (∀ c j, c < 146 → s' c j = s c j) ∧ ∀ f, n f → s' 146 f = s 146 f)
abbrev wt_nC (f : Nat) : Prop := f = 1 ∨ f = 3 ∨ f = 18
abbrev wt_nM (f : Nat) : Prop := f = 0 ∨ f = 6 ∨ f = 16
theorem wt_two {G : jv_X} {kC kM : Nat} {as : List Value} (hC : wt_C G kC as wt_nC) (hM : wt_M G kM as wt_nM) : wt_H G wt_R False kC kM as := by
  intro s hR
  obtain ⟨h1, h2, h3, h4, h5⟩ := hR
  refine q_mono (fun v s' h => ?_) (hC s h1)
  obtain ⟨a1, a2, a3⟩ := h
  refine q_mono (fun v' s'' g => ?_) (hM s' (lz_KM_of h2 a2))
  obtain ⟨b1, b2, b3⟩ := g
  refine ⟨fun q => q.elim, lz_KC_of a1 b2, b1, ?_, ?_, ?_⟩
  · rw [b2 0 1 (by decide), b3 0 (Or.inl rfl), a3 1 (Or.inl rfl), a2 146 0 (by decide)]; exact h3
  · rw [b2 0 3 (by decide), b3 6 (Or.inr (Or.inl rfl)), a3 3 (Or.inr (Or.inl rfl)), a2 146 6 (by decide)]; exact h4
  · rw [b2 0 18 (by decide), b3 16 (Or.inr (Or.inr rfl)), a3 18 (Or.inr (Or.inr rfl)), a2 146 16 (by decide)]; exact h5
/-- a side's numbers stay where no method that is reached writes them -/
theorem wt_Cw {G : jv_X} {k : Nat} {as : List Value} (h : ∀ s, lz_KC s → q_P G 91 k (.ref 0 :: as) s (fun _ s' => lz_KC s' ∧ ∀ c j, 146 ≤ c → s' c j = s c j)) (h1 : wr_K [0, 39, 132, 151] k = true) (h3 : wr_K [0, 50, 132, 161] k = true) (h8 : wr_K [0, 105, 132, 204] k = true) : wt_C G k as wt_nC := by
  intro s hK
  have p := wr_P (G := G) (by decide) (by decide) wr_dayC _ _ _ _ _ h8 (wr_P (by decide) (by decide) wr_bilC _ _ _ _ _ h3 (wr_P (by decide) (by decide) wr_memC _ _ _ _ _ h1 (h s hK)))
  refine q_mono (fun v s' q => ?_) p
  obtain ⟨⟨⟨⟨q1, q2⟩, q3⟩, q4⟩, q5⟩ := q
  refine ⟨q1, q2, fun f hf => ?_⟩
  rcases hf with rfl | rfl | rfl
  · exact q3 0 zz_k0
  · exact q4 0 zz_k0
  · exact q5 0 zz_k0
theorem wt_Mw {G : jv_X} {k : Nat} {as : List Value} (h : ∀ s, lz_KM s → q_P G 91 k (.ref 146 :: as) s (fun _ s' => lz_KM s' ∧ ∀ c j, c < 146 → s' c j = s c j)) (h1 : wr_K [0, 39, 132, 151] k = true) (h3 : wr_K [0, 50, 132, 161] k = true) (h8 : wr_K [0, 105, 132, 204] k = true) : wt_M G k as wt_nM := by
  intro s hK
  have p := wr_P (G := G) (by decide) (by decide) wr_dayM _ _ _ _ _ h8 (wr_P (by decide) (by decide) wr_bilM _ _ _ _ _ h3 (wr_P (by decide) (by decide) wr_memM _ _ _ _ _ h1 (h s hK)))
  refine q_mono (fun v s' q => ?_) p
  obtain ⟨⟨⟨⟨q1, q2⟩, q3⟩, q4⟩, q5⟩ := q
  refine ⟨q1, q2, fun f hf => ?_⟩
  rcases hf with rfl | rfl | rfl
  · exact q3 146 zz_k146
  · exact q4 146 zz_k146
  · exact q5 146 zz_k146
/-- a method whose step stands -/
theorem wt_st {G : jv_X} (hG : G.2 = .null ∨ G.2 = .ref 1000005) {kC kM : Nat} {as : List Value} (ha : ∀ A, lz_s A as) (hst : ∀ u, Inv u → q_P G 91 kC (.ref 0 :: as) u (fun r s' => q_P G 91 kM (.ref 146 :: as) s' (fun r' s'' => r = r' ∧ Inv s''))) (c1 : wr_K [0, 39, 132, 151] kC = true) (c3 : wr_K [0, 50, 132, 161] kC = true) (c8 : wr_K [0, 105, 132, 204] kC = true) (m1 : wr_K [0, 39, 132, 151] kM = true) (m3 : wr_K [0, 50, 132, 161] kM = true) (m8 : wr_K [0, 105, 132, 204] kM = true) : wt_H G wt_R False kC kM as :=
  wt_two (wt_Cw (fun s hK => lz_kc (zz_G hG) (zz_C (ha _)) (zz_M (ha _)) hst hK) c1 c3 c8) (wt_Mw (fun s hK => lz_km' (zz_G hG) (zz_C (ha _)) (zz_M (ha _)) hst hK) m1 m3 m8)
theorem wt_text {G : jv_X} (hG : G.2 = .null ∨ G.2 = .ref 1000005) : wt_H G wt_R False 70 176 [] :=
  wt_two (wt_Cw (fun s hK => lz_textC hG (by omega) hK) (by decide) (by decide) (by decide)) (wt_Mw (fun s hK => lz_textM (by omega) hK) (by decide) (by decide) (by decide))
/-- an answer that both sides give, told beside what the step leaves -/
theorem wt_cmp {G : jv_X} (hG : G.2 = .null ∨ G.2 = .ref 1000005) {kC kM : Nat} {as : List Value} (ha : ∀ A, lz_s A as) (hst : ∀ u, Inv u → q_P G 91 kC (.ref 0 :: as) u (fun r s' => q_P G 91 kM (.ref 146 :: as) s' (fun r' s'' => r = r' ∧ Inv s'')))
    (hx : ∀ s, wt_R s → q_P G 91 kC (.ref 0 :: as) s (fun v s' => ∀ s1, (∀ c j, 146 ≤ c → s1 c j = s c j) → (∀ c j, c < 146 → s1 c j = s' c j) → q_P G 91 kM (.ref 146 :: as) s1 (fun v' s'' => v = v' ∧ s'' 0 1 = s'' 146 0 ∧ s'' 0 3 = s'' 146 6 ∧ s'' 0 18 = s'' 146 16))) : wt_H G wt_R True kC kM as := by
  intro s hR
  have h := lz_and _ _ _ _ _ _ (lz_kc (zz_G hG) (zz_C (ha _)) (zz_M (ha _)) hst hR.1) (hx s hR)
  refine q_mono (fun v s' q => ?_) h
  obtain ⟨⟨a1, a2⟩, b⟩ := q
  have g := lz_and _ _ _ _ _ _ (lz_km' (zz_G hG) (zz_C (ha _)) (zz_M (ha _)) hst (lz_KM_of hR.2.1 a2)) (b s' a2 (fun _ _ _ => rfl))
  refine q_mono (fun v' s'' q => ?_) g
  obtain ⟨⟨e1, e2⟩, f1, f2, f3, f4⟩ := q
  exact ⟨fun _ => f1, lz_KC_of a1 e2, e1, f2, f3, f4⟩
theorem wt_ans {G : jv_X} {R : jg_H → Prop} {kC kM : Nat} {as : List Value} (h : wt_H G R False kC kM as) (hx : ∀ s, R s → q_P G 91 kC (.ref 0 :: as) s (fun v s' => q_P G 91 kM (.ref 146 :: as) s' (fun v' _ => v = v'))) : wt_H G R True kC kM as := by
  intro s hR
  refine q_mono (fun v s' q => ?_) (lz_and _ _ _ _ _ _ (h s hR) (hx s hR))
  exact q_mono (fun v' s'' q => ⟨fun _ => q.2, q.1.2⟩) (lz_and _ _ _ _ _ _ q.1 q.2)
theorem wt_b {s : jg_H} (h : wt_R s) : (0 ≤ (s 146 0).toInt ∧ (s 146 0).toInt ≤ 15) ∧ (0 ≤ (s 146 6).toInt ∧ (s 146 6).toInt ≤ 8) ∧ (0 ≤ (s 146 16).toInt ∧ (s 146 16).toInt ≤ 999) := by
  obtain ⟨-, ⟨u, hI, hu, -⟩, -⟩ := h
  have hu : ∀ c j, 146 ≤ c → u c j = s c j := hu
  rw [← hu 146 0 (by decide), ← hu 146 6 (by decide), ← hu 146 16 (by decide)]
  exact ⟨⟨hI.1.2.1, hI.1.2.2.1⟩, ⟨hI.2.1.2.1, hI.2.1.2.2.1⟩, ⟨hI.2.2.2.2.2.2.2.1.2.1, hI.2.2.2.2.2.2.2.1.2.2.1⟩⟩
theorem wt_member {G : jv_X} (hG : G.2 = .null ∨ G.2 = .ref 1000005) (a1 : Int32) : wt_H G wt_R True 39 151 [.int a1] := by
  refine wt_cmp hG (fun A => lz_ci zz_n) (fun u hI => st_member (d := 89) hI a1) (fun s hR => ?_)
  obtain ⟨⟨b1, b2⟩, -, -⟩ := wt_b hR
  obtain ⟨-, -, r1, r2, r3⟩ := hR
  have e15 : (15 : Int32).toInt = 15 := rfl
  -- the heap between the two: t has the reference's cells of s, the class's of s'
  have z : ∀ {s' t : jg_H}, s' 0 1 = s 0 1 → s' 0 3 = s 0 3 → s' 0 18 = s 0 18 → (∀ c j, 146 ≤ c → t c j = s c j) → (∀ c j, c < 146 → t c j = s' c j) → t 0 1 = t 146 0 ∧ t 0 3 = t 146 6 ∧ t 0 18 = t 146 16 := fun q1 q2 q3 f g => by
    rw [g 0 1 (by decide), g 0 3 (by decide), g 0 18 (by decide), f 146 0 (by decide), f 146 6 (by decide), f 146 16 (by decide), q1, q2, q3]
    exact ⟨r1, r2, r3⟩
  refine t_C_member (d := 90) a1 (fun h t f g => ?_) (fun _ _ h => ?_) (fun h h2 h3 s1 e1 s2 e2 t f g => ?_) (fun h h2 h3 t f g => ?_) (fun h h2 t f g => ?_)
  · exact t_M_member (d := 89) a1 (fun _ => ⟨rfl, z rfl rfl rfl f g⟩) (fun q => absurd h q) (fun q => absurd h q) (fun q => absurd h q) (fun q => absurd h q) (fun q => absurd h q) (fun q => absurd h q)
  · have h := z_lt h
    rw [i_in, r1]
    rw [r1] at h
    omega
  · have h3 := z_lt h3
    rw [r1] at h3
    have n15 : ¬ t 146 0 = 15 := fun e => by rw [f 146 0 (by decide)] at e; rw [e] at h3; omega
    have i15 : jv_in (t 146 0) 15 = true := by rw [f 146 0 (by decide), i_in]; omega
    refine t_M_member (d := 89) a1 (fun q => absurd q h) (fun _ q => absurd h2 q) (fun _ _ _ => i15) (fun _ _ _ t1 u1 => ?_) (fun _ _ _ t1 u1 t2 u2 => ?_) (fun _ _ _ t1 u1 t2 u2 t3 u3 t4 u4 => ?_) (fun _ _ q => absurd q n15)
    · rw [u1, u_c (by decide)]; exact i15
    · rw [u2, u_c (by decide), u1, u_c (by decide)]; exact i15
    · have k : ∀ c j, ¬ c = 147 → ¬ c = 149 → ¬ c = 151 → t3 c j = t c j := fun c j h1 h2 h3 => by rw [u3, u_c h3, u2, u_c h2, u1, u_c h1]
      have v0 : t4 146 0 = s 146 0 + 1 := by rw [u4, u_hit, k _ _ (by decide) (by decide) (by decide), f 146 0 (by decide)]
      have w0 : s2 0 1 = s 0 1 + 1 := by rw [e2, u_hit, e1, u_c (by omega)]
      have w3 : s2 0 3 = s 0 3 := by rw [e2, u_j (by decide), e1, u_c (by omega)]
      have w18 : s2 0 18 = s 0 18 := by rw [e2, u_j (by decide), e1, u_c (by omega)]
      have k0 : ∀ j, t4 0 j = s2 0 j := fun j => by rw [u4, u_c (by decide), k _ _ (by decide) (by decide) (by decide), g 0 j (by decide)]
      have k6 : ∀ j, ¬ j = 0 → t4 146 j = s 146 j := fun j hj => by rw [u4, u_j hj, k _ _ (by decide) (by decide) (by decide), f 146 j (by decide)]
      rw [v0, w0, k0, k0, k0, k6 6 (by decide), k6 16 (by decide), w0, w3, w18, r1]
      exact ⟨rfl, rfl, r2, r3⟩
  · have h3 := z_nlt h3
    rw [r1] at h3
    have e : t 146 0 = 15 := by rw [f 146 0 (by decide)]; exact Int32.toInt_inj.mp (by omega)
    exact t_M_member (d := 89) a1 (fun q => absurd q h) (fun _ q => absurd h2 q) (fun _ _ q => absurd e q) (fun _ _ q => absurd e q) (fun _ _ q => absurd e q) (fun _ _ q => absurd e q) (fun _ _ _ => ⟨rfl, z rfl rfl rfl f g⟩)
  · exact t_M_member (d := 89) a1 (fun q => absurd q h) (fun _ _ => ⟨rfl, z rfl rfl rfl f g⟩) (fun _ q => absurd q h2) (fun _ q => absurd q h2) (fun _ q => absurd q h2) (fun _ q => absurd q h2) (fun _ q => absurd q h2)
theorem wt_bill {G : jv_X} (hG : G.2 = .null ∨ G.2 = .ref 1000005) : wt_H G wt_R True 50 161 [] := by
  refine wt_cmp hG (fun A => zz_n) (fun u hI => st_bill (d := 90) hI) (fun s hR => ?_)
  obtain ⟨-, ⟨b1, b2⟩, -⟩ := wt_b hR
  obtain ⟨-, -, r1, r2, r3⟩ := hR
  have e8 : (8 : Int32).toInt = 8 := rfl
  refine t_C_bill (d := 90) (fun h s1 e1 t f g => ?_) (fun h t f g => ?_)
  · have h := z_lt h
    rw [r2] at h
    have n8 : ¬ t 146 6 = 8 := fun e => by rw [f 146 6 (by decide)] at e; rw [e] at h; omega
    refine t_M_bill (d := 90) (fun _ t1 u1 => ?_) (fun q => absurd q n8)
    have v0 : t1 146 6 = s 146 6 + 1 := by rw [u1, u_hit, f 146 6 (by decide)]
    have w3 : s1 0 3 = s 0 3 + 1 := by rw [e1, u_hit]
    have w0 : ∀ j, ¬ j = 3 → s1 0 j = s 0 j := fun j hj => by rw [e1, u_j hj]
    have k0 : ∀ j, t1 0 j = s1 0 j := fun j => by rw [u1, u_c (by decide), g 0 j (by decide)]
    have k6 : ∀ j, ¬ j = 6 → t1 146 j = s 146 j := fun j hj => by rw [u1, u_j hj, f 146 j (by decide)]
    rw [v0, k0, k0, k0, k6 0 (by decide), k6 16 (by decide), w3, w0 1 (by decide), w0 18 (by decide), r2]
    exact ⟨rfl, r1, rfl, r3⟩
  · have h := z_nlt h
    rw [r2] at h
    have e : t 146 6 = 8 := by rw [f 146 6 (by decide)]; exact Int32.toInt_inj.mp (by omega)
    refine t_M_bill (d := 90) (fun q => absurd e q) (fun _ => ⟨rfl, ?_⟩)
    rw [g 0 1 (by decide), g 0 3 (by decide), g 0 18 (by decide), f 146 0 (by decide), f 146 6 (by decide), f 146 16 (by decide)]
    exact ⟨r1, r2, r3⟩
theorem wt_day {G : jv_X} (hG : G.2 = .null ∨ G.2 = .ref 1000005) : wt_H G wt_R True 105 204 [] := by
  refine wt_cmp hG (fun A => zz_n) (fun u hI => st_day (d := 90) hI) (fun s hR => ?_)
  obtain ⟨-, -, b1, b2⟩ := wt_b hR
  obtain ⟨-, -, r1, r2, r3⟩ := hR
  have e9 : (999 : Int32).toInt = 999 := rfl
  refine t_C_day (d := 90) (fun h s1 e1 s2 e2 t f g => ?_) (fun h t f g => ?_)
  · have h := z_lt h
    rw [r3] at h
    have n9 : ¬ t 146 16 = 999 := fun e => by rw [f 146 16 (by decide)] at e; rw [e] at h; omega
    refine t_M_day (d := 90) (fun _ t1 u1 t2 u2 => ?_) (fun q => absurd q n9)
    have v0 : t2 146 16 = s 146 16 + 1 := by rw [u2, u_j (by decide), u1, u_hit, f 146 16 (by decide)]
    have w3 : s2 0 18 = s 0 18 + 1 := by rw [e2, u_j (by decide), e1, u_hit]
    have w0 : ∀ j, ¬ j = 18 → ¬ j = 19 → s2 0 j = s 0 j := fun j hj hk => by rw [e2, u_j hk, e1, u_j hj]
    have k0 : ∀ j, t2 0 j = s2 0 j := fun j => by rw [u2, u_c (by decide), u1, u_c (by decide), g 0 j (by decide)]
    have k6 : ∀ j, ¬ j = 16 → ¬ j = 17 → t2 146 j = s 146 j := fun j hj hk => by rw [u2, u_j hk, u1, u_j hj, f 146 j (by decide)]
    rw [v0, k0, k0, k0, k6 0 (by decide) (by decide), k6 6 (by decide) (by decide), w3, w0 1 (by decide) (by decide), w0 3 (by decide) (by decide), r3]
    exact ⟨rfl, r1, r2, rfl⟩
  · have h := z_nlt h
    rw [r3] at h
    have e : t 146 16 = 999 := by rw [f 146 16 (by decide)]; exact Int32.toInt_inj.mp (by omega)
    refine t_M_day (d := 90) (fun q => absurd e q) (fun _ => ⟨rfl, ?_⟩)
    rw [g 0 1 (by decide), g 0 3 (by decide), g 0 18 (by decide), f 146 0 (by decide), f 146 6 (by decide), f 146 16 (by decide)]
    exact ⟨r1, r2, r3⟩
theorem wt_tray {G : jv_X} (hG : G.2 = .null ∨ G.2 = .ref 1000005) (a1 a2 : Int32) : wt_H G wt_R True 124 215 [.int a1, .int a2] := by
  refine wt_ans (wt_st hG (fun A => lz_ci (lz_ci zz_n)) (fun u hI => st_tray (d := 88) hI a1 a2) (by decide) (by decide) (by decide) (by decide) (by decide) (by decide)) (fun s hR => ?_)
  have e0 : (0 : Int32).toInt = 0 := rfl
  have e3 : (3 : Int32).toInt = 3 := rfl
  have e4 : (4 : Int32).toInt = 4 := rfl
  refine t_C_tray (d := 89) a1 a2 (fun h => ?_) (fun h h2 => ?_) (fun h h2 h3 h4 => ?_) (fun h h2 h3 h4 => ?_) (fun h h2 h3 => ?_)
  · exact t_M_tray (d := 88) a1 a2 (fun _ => rfl) (fun q => absurd h q) (fun q => absurd h q) (fun q => absurd h q) (fun q => absurd h q) (fun q => absurd h q)
  · have n3 : ¬ a1 ≤ 3 := fun q => by have := z_le q; have := z_nlt h2; omega
    exact t_M_tray (d := 88) a1 a2 (fun q => absurd q h) (fun _ _ => rfl) (fun _ q => absurd q n3) (fun _ q => absurd q n3) (fun _ q => absurd q n3) (fun _ q => absurd q n3)
  · have h := z_nlt h
    have h2 := z_lt h2
    have hA : a1.toNatClampNeg < 4 := by rw [i_cn]; omega
    have i4 : jv_in a1 4 = true := by rw [i_in]; omega
    have l3 : a1 ≤ 3 := Int32.le_iff_toInt_le.mpr (by omega)
    refine sp_C_reset (f_m137 hA) a2 (fun t q1 q2 => ?_)
    refine t_C_tray_34 (d := 89) _ _ ?_
    refine t_M_tray (d := 88) a1 a2 (fun q => absurd (z_lt q) (by omega)) (fun _ q => absurd l3 q) (fun _ _ _ _ => i4) (fun _ _ _ _ s1 e => ?_) (fun _ _ _ q => absurd q h4) (fun _ _ q => absurd h3 q)
    have ex : ((40 : Int32) * a1).toInt = 40 * a1.toInt := by clear q1 q2 hR; ((try simp only [i_lt, i_le, i_eq, i_in, i_cn, Int32.toInt_add, Int32.toInt_sub, Int32.toInt_mul, Int32.toInt_neg, Int32.reduceToInt, Int.bmod_add_bmod, Int.add_bmod_bmod, Int.bmod_sub_bmod, Int.sub_bmod_bmod, Int.bmod_mul_bmod, Int.mul_bmod_bmod, Int.bmod_neg_bmod, Nat.reducePow, Int.reduceBmod, Int.reduceNeg, Int.reduceMul, Int.reduceAdd, Int.reduceSub, not_true_eq_false, not_false_eq_true] at *) <;> (try simp (disch := omega) only [i_bm'] at *) <;> omega)
    exact lp_M_tray (d := 88) (s := s1) a1 a2 (by omega) (by omega) (fun t' _ _ => rfl) 40 0 _ s1 (by omega) (by rw [ex, i_cn]; omega) (fun i hi => absurd hi (by omega)) (fun _ _ _ => rfl)
  · have l3 : a1 ≤ 3 := Int32.le_iff_toInt_le.mpr (by have := z_lt h2; omega)
    exact t_M_tray (d := 88) a1 a2 (fun q => absurd q h) (fun _ q => absurd l3 q) (fun _ _ _ q => absurd h4 q) (fun _ _ _ q => absurd h4 q) (fun _ _ _ _ => rfl) (fun _ _ q => absurd h3 q)
  · have l3 : a1 ≤ 3 := Int32.le_iff_toInt_le.mpr (by have := z_lt h2; omega)
    exact t_M_tray (d := 88) a1 a2 (fun q => absurd q h) (fun _ q => absurd l3 q) (fun _ _ q => absurd q h3) (fun _ _ q => absurd q h3) (fun _ _ q => absurd q h3) (fun _ _ _ => rfl)
