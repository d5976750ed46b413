/-! a law that compares the answers of members' or trays' methods: what holds at the head of its loop -/
def wu_R (s : jg_H) : Prop := lz_KC s ∧ lz_KM s ∧ I_mem s ∧ I_try s
theorem wu_as {F : Nat → Bool} (hF : ∀ c, F c = true → c < 176) {as : List Value} (ha : ∀ A, lz_s A as) {b : Bool} {c : Nat} (hc : F c = false) : wq_a F b (.ref c :: as) := by
  refine ⟨fun q => ?_, fun w hw => ?_⟩
  · rw [hc] at q; cases q
  · have h := ha (fun c => F c = false) w hw
    cases w with
    | ref k =>
      intro q
      have h : k < 176 → F k = false := h
      rw [h (hF k q)] at q
      exact q
    | _ => trivial
theorem wu_two {G : jv_X} (hG : G.2 = .null ∨ G.2 = .ref 1000005) {kC kM : Nat} {as : List Value} (ha : ∀ A, lz_s A as) (hC : ∀ s, lz_KC s → q_P G 91 kC (.ref 0 :: as) s (fun _ s' => lz_KC s' ∧ ∀ c j, 146 ≤ c → s' c j = s c j)) (hM : ∀ s, lz_KM s → q_P G 91 kM (.ref 146 :: as) s (fun _ s' => lz_KM s' ∧ ∀ c j, c < 146 → s' c j = s c j)) (c1 : wq_K wm_x kC = true) (c2 : wq_K wy_x kC = true) (m1 : wq_K wm_x kM = true) (m2 : wq_K wy_x kM = true) : wt_H G wu_R False kC kM as := by
  intro s hR
  obtain ⟨h1, h2, h3, h4⟩ := hR
  refine q_mono (fun v s' q => ?_) (wy_P hG c2 (wu_as wy_f1 ha rfl) (wm_P hG c1 (wu_as wm_f1 ha rfl) (hC s h1)))
  obtain ⟨⟨⟨a1, a2⟩, a3⟩, a4⟩ := q
  refine q_mono (fun v' s'' q => ?_) (wy_P hG m2 (wu_as wy_f1 ha rfl) (wm_P hG m1 (wu_as wm_f1 ha rfl) (hM s' (lz_KM_of h2 a2))))
  obtain ⟨⟨⟨b1, b2⟩, b3⟩, b4⟩ := q
  exact ⟨fun q => q.elim, lz_KC_of a1 b2, b1, fr_mem (fs_trans a3 b3) h3, fr_try (fs_trans a4 b4) h4⟩
theorem wu_st {G : jv_X} (hG : G.2 = .null ∨ G.2 = .ref 1000005) {kC kM : Nat} {as : List Value} (ha : ∀ A, lz_s A as) (hst : ∀ u, Inv u → q_P G 91 kC (.ref 0 :: as) u (fun r s' => q_P G 91 kM (.ref 146 :: as) s' (fun r' s'' => r = r' ∧ Inv s''))) (c1 : wq_K wm_x kC = true) (c2 : wq_K wy_x kC = true) (m1 : wq_K wm_x kM = true) (m2 : wq_K wy_x kM = true) : wt_H G wu_R False kC kM as :=
  wu_two hG ha (fun s hK => lz_kc (zz_G hG) (zz_C (ha _)) (zz_M (ha _)) hst hK) (fun s hK => lz_km' (zz_G hG) (zz_C (ha _)) (zz_M (ha _)) hst hK) c1 c2 m1 m2
theorem wu_text {G : jv_X} (hG : G.2 = .null ∨ G.2 = .ref 1000005) : wt_H G wu_R False 70 176 [] :=
  wu_two hG (fun A => zz_n) (fun s hK => lz_textC hG (by omega) hK) (fun s hK => lz_textM (by omega) hK) (by decide) (by decide) (by decide) (by decide)
/-- a method of the members -/
theorem wu_mem {G : jv_X} (hG : G.2 = .null ∨ G.2 = .ref 1000005) {kC kM : Nat} {as : List Value} (ha : ∀ A, lz_s A as) (hst : ∀ u, Inv u → q_P G 91 kC (.ref 0 :: as) u (fun r s' => q_P G 91 kM (.ref 146 :: as) s' (fun r' s'' => r = r' ∧ Inv s''))) (hm : ∀ u, I_mem u → q_P G 91 kC (.ref 0 :: as) u (fun r s' => q_P G 91 kM (.ref 146 :: as) s' (fun r' s'' => r = r' ∧ I_mem s''))) (c2 : wq_K wy_x kC = true) (m2 : wq_K wy_x kM = true) : wt_H G wu_R True kC kM as := by
  intro s hR
  obtain ⟨h1, h2, h3, h4⟩ := hR
  refine q_mono (fun v s' q => ?_) (lz_and _ _ _ _ _ _ (wy_P hG c2 (wu_as wy_f1 ha rfl) (lz_kc (zz_G hG) (zz_C (ha _)) (zz_M (ha _)) hst h1)) (hm s h3))
  obtain ⟨⟨⟨a1, a2⟩, a3⟩, a4⟩ := q
  refine q_mono (fun v' s'' q => ?_) (lz_and _ _ _ _ _ _ (wy_P hG m2 (wu_as wy_f1 ha rfl) (lz_km' (zz_G hG) (zz_C (ha _)) (zz_M (ha _)) hst (lz_KM_of h2 a2))) a4)
  obtain ⟨⟨⟨b1, b2⟩, b3⟩, b4, b5⟩ := q
  exact ⟨fun _ => b4, lz_KC_of a1 b2, b1, b5, fr_try (fs_trans a3 b3) h4⟩
/-- a method of the trays -/
theorem wu_try {G : jv_X} (hG : G.2 = .null ∨ G.2 = .ref 1000005) {kC kM : Nat} {as : List Value} (ha : ∀ A, lz_s A as) (hst : ∀ u, Inv u → q_P G 91 kC (.ref 0 :: as) u (fun r s' => q_P G 91 kM (.ref 146 :: as) s' (fun r' s'' => r = r' ∧ Inv s''))) (hm : ∀ u, I_try u → q_P G 91 kC (.ref 0 :: as) u (fun r s' => q_P G 91 kM (.ref 146 :: as) s' (fun r' s'' => r = r' ∧ I_try s''))) (c1 : wq_K wm_x kC = true) (m1 : wq_K wm_x kM = true) : wt_H G wu_R True kC kM as := by
  intro s hR
  obtain ⟨h1, h2, h3, h4⟩ := hR
  refine q_mono (fun v s' q => ?_) (lz_and _ _ _ _ _ _ (wm_P hG c1 (wu_as wm_f1 ha rfl) (lz_kc (zz_G hG) (zz_C (ha _)) (zz_M (ha _)) hst h1)) (hm s h4))
  obtain ⟨⟨⟨a1, a2⟩, a3⟩, a4⟩ := q
  refine q_mono (fun v' s'' q => ?_) (lz_and _ _ _ _ _ _ (wm_P hG m1 (wu_as wm_f1 ha rfl) (lz_km' (zz_G hG) (zz_C (ha _)) (zz_M (ha _)) hst (lz_KM_of h2 a2))) a4)
  obtain ⟨⟨⟨b1, b2⟩, b3⟩, b4, b5⟩ := q
  exact ⟨fun _ => b4, lz_KC_of a1 b2, b1, fr_mem (fs_trans a3 b3) h3, b5⟩
