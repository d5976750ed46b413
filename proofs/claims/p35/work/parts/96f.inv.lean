/-! the objects as they are made stand in the relation -/
def ws_s : jg_H := jg_of jc_M13.2
def ws_balB (o : Nat → Int32) : Nat → Nat → Nat → Bool
  | 0, _, h => decide (h = 1)
  | n + 1, c, h => if o c = 0 ∨ o c = 1 then ws_balB o n (c + 1) (h + 1) else if o c = 4 ∨ o c = 10 then decide (1 ≤ h) && ws_balB o n (c + 1) h else decide (2 ≤ h) && ws_balB o n (c + 1) (h - 1)
theorem ws_bal {o : Nat → Int32} : ∀ {n c h : Nat}, ws_balB o n c h = true → t_bal o n c h
  | 0, _, h, q => (of_decide_eq_true (p := h = 1) q : h = 1)
  | n + 1, c, h, q => by
    unfold ws_balB at q
    unfold t_bal
    by_cases h1 : o c = 0 ∨ o c = 1
    · rw [if_pos h1] at q
      exact Or.inl ⟨h1, ws_bal q⟩
    · rw [if_neg h1] at q
      by_cases h2 : o c = 4 ∨ o c = 10
      · rw [if_pos h2] at q
        obtain ⟨q1, q2⟩ := (Bool.and_eq_true _ _).mp q
        exact Or.inr (Or.inl ⟨h2, of_decide_eq_true q1, ws_bal q2⟩)
      · rw [if_neg h2] at q
        obtain ⟨q1, q2⟩ := (Bool.and_eq_true _ _).mp q
        exact Or.inr (Or.inr ⟨fun z => h1 (Or.inl z), fun z => h1 (Or.inr z), fun z => h2 (Or.inl z), fun z => h2 (Or.inr z), of_decide_eq_true q1, ws_bal q2⟩)
theorem ws_mem : I_mem ws_s := by
  refine ⟨by decide +kernel, by decide +kernel, by decide +kernel, by decide +kernel, ?_, by decide +kernel, ?_⟩
  · have h : (ws_s 146 0).toInt = 0 := by decide +kernel
    intro i hi h2
    rw [h] at h2
    exact absurd h2 (by omega)
  · have h : ∀ i : Nat, i < 15 → ∀ w : Nat, w < 61 → ws_s (2 + 2 * i + 1) w = ws_s 148 (61 * i + w) ∧ -9 ≤ (ws_s 148 (61 * i + w)).toInt ∧ (ws_s 148 (61 * i + w)).toInt ≤ 9 := by decide +kernel
    exact fun i w hi hw => h i hi w hw
theorem ws_bil : I_bil ws_s := by
  refine ⟨by decide +kernel, by decide +kernel, by decide +kernel, by decide +kernel, ?_⟩
  have h : ∀ i : Nat, i < 8 → (ws_s 153 i).toInt = 0 := by decide +kernel
  intro i k hi hk
  rw [h i hi] at hk
  exact absurd hk (by omega)
theorem ws_cal : I_cal ws_s := by
  have h : (ws_s 146 11).toInt = 0 := by decide +kernel
  have h2 : (ws_s 146 13).toInt = -1 := by decide +kernel
  refine ⟨by decide +kernel, by decide +kernel, by unfold c_l; decide +kernel, fun i hi => ?_, fun i k hi => ?_, by decide +kernel, by decide +kernel, by decide +kernel, fun h0 => ?_⟩
  · rw [h] at hi
    exact absurd hi (by omega)
  · rw [h] at hi
    exact absurd hi (by omega)
  · rw [h2] at h0
    exact absurd h0 (by decide)
theorem ws_pil : I_pil ws_s := by
  have h : (ws_s 146 18).toInt = 0 := by decide +kernel
  refine ⟨by decide +kernel, by decide +kernel, by decide +kernel, by decide +kernel, fun i hi => ?_⟩
  rw [h] at hi
  exact absurd hi (by omega)
theorem ws_tol : I_tol ws_s := by
  have h : (ws_s 146 19).toInt = 0 := by decide +kernel
  refine ⟨by decide +kernel, by decide +kernel, by decide +kernel, by decide +kernel, fun hi => ?_, fun i hi => ?_⟩
  · rw [h] at hi
    exact absurd hi (by decide)
  · rw [h] at hi
    exact absurd hi (by omega)
theorem ws_tap : I_tap ws_s := by
  have h : (ws_s 146 30).toInt = 0 := by decide +kernel
  refine ⟨by decide +kernel, by decide +kernel, by decide +kernel, fun i hi => ?_⟩
  rw [h] at hi
  exact absurd hi (by omega)
theorem ws_mis : I_mis ws_s := by unfold I_mis; decide +kernel
theorem ws_try : I_try ws_s := by unfold I_try; decide +kernel
theorem ws_cst : I_cst ws_s := by unfold I_cst; decide +kernel
theorem ws_txt : I_txt ws_s := by
  have h : (ws_s 146 14).toInt = 1 := by decide +kernel
  refine ⟨by decide +kernel, by decide +kernel, by decide +kernel, by decide +kernel, by decide +kernel, by decide +kernel, fun t ht => ?_⟩
  rw [h] at ht
  obtain rfl : t = 0 := by omega
  refine ⟨by decide +kernel, ?_, ?_⟩
  · have h1 : ∀ p : Nat, p < 4 → (ws_s 165 (5 * 0 + p)).toInt ≤ (ws_s 165 (5 * 0 + p + 1)).toInt ∧ ws_balB (ws_s 163) ((ws_s 165 (5 * 0 + p + 1)).toInt.toNat - (ws_s 165 (5 * 0 + p)).toInt.toNat) (200 * 0 + (ws_s 165 (5 * 0 + p)).toInt.toNat) 0 = true := by decide +kernel
    exact fun p hp => ⟨(h1 p hp).1, ws_bal (h1 p hp).2⟩
  · have h1 : (ws_s 165 (5 * 0 + 4)).toInt ≤ 200 := by decide +kernel
    have h2 : ∀ c : Nat, c < 200 → (c : Int) < (ws_s 165 (5 * 0 + 4)).toInt → t_enc (ws_s (93 + 3 * 0 + 1) c) (ws_s 163 (200 * 0 + c)) (ws_s 164 (200 * 0 + c)) := by
      simp only [t_enc]
      decide +kernel
    exact fun c hc => h2 c (by omega) hc
theorem ws_inv : Inv (jg_of jc_M13.2) := ⟨ws_mem, ws_bil, ws_cal, ws_pil, ws_tol, ws_txt, ws_tap, ws_mis, ws_try, ws_cst⟩
