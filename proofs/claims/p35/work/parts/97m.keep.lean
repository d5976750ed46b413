/-! what no method but a few writes: the members' rows (m) and the trays' (t) -/
def wq_T (l : List (Nat × List (Nat × List Bool))) (k pc : Nat) : List Bool := match l.find? (fun e => e.1 == k) with
  | some e => (match e.2.find? (fun e => e.1 == pc) with
    | some e => e.2
    | none => [])
  | none => []
def wq_tg (k : Nat) : Bool := k == 35
def wq_K (l : List Nat) (k : Nat) : Bool := !l.contains k
theorem wq_chk {src pf : Nat → Nat → Bool} {K tg : Nat → Bool} {T : Nat → Nat → List Bool} (h : ∀ k, k < 220 → K k = true → (jc_M k).2.2.2.2.2.2.all (wq_c src pf K tg (T k) (tg k)) = true) : ∀ k M, K k = true → jv_P[k]? = some M → M.2.2.2.2.2.2.all (wq_c src pf K tg (T k) (tg k)) = true := by
  intro k M hk hM
  by_cases hl : k < 220
  · have e := jc_M_ok k hl
    cases hM.symm.trans e
    exact h k hl hk
  · have hlen : jv_P.length = 220 := by decide +kernel
    rw [List.getElem?_eq_none (by omega)] at hM
    cases hM
theorem wq_Hok {F : Nat → Bool} {src pf : Nat → Nat → Bool} (f0 : F 0 = false) (f1 : ∀ c, F c = true → c < 176) (h1 : ∀ c, c < 176 → F c = true → 13 ≤ (jg_knd c).1) (h2 : ∀ c, c < 176 → ∀ j, j < 60 → F (jg_rt c j) = true → src (jg_knd c).1 j = true) (h3 : src 7 8 = true) (h4 : ∀ a b, src a b = true → a < 13) (h5 : ∀ a b, pf a b = true → a < 13) : wq_H F src pf := by
  have hl : ∀ c, c < 176 → (jg_refs.getD c []).length ≤ 60 := by decide +kernel
  refine ⟨fun c q => ⟨f1 c q, h1 c (f1 c q) q⟩, fun c j hc q => ?_, h3, h4, h5⟩
  by_cases hj : j < 60
  · exact h2 c hc j hj q
  · have e : jg_rt c j = 0 := by
      unfold jg_rt
      rw [List.getD_eq_getElem?_getD, List.getElem?_eq_none (by have := hl c hc; omega)]
      rfl
    rw [e, f0] at q
    cases q
def wm_F (c : Nat) : Bool := (Nat.blt 2 c && Nat.blt c 32 && c % 2 == 1) || (Nat.ble 147 c && Nat.blt c 152)
def wm_s (a b : Nat) : Bool := (a == 5 && b == 4) || (a == 12 && Nat.ble 1 b && Nat.ble b 5) || (a == 7 && b == 8)
def wm_p (a b : Nat) : Bool := a == 5 || (a == 11 && b == 1) || (a == 12 && b == 0)
def wm_x : List Nat := [39, 40, 43, 45, 46, 47, 48, 151, 153, 156, 157, 158, 159, 0, 1, 2, 3, 4, 5, 6, 7, 8, 9, 10, 11, 132]
def wm_T : List (Nat × List (Nat × List Bool)) := [(20, [(9, [true]), (10, [false, true]), (51, [true]), (59, [true]), (83, [true]), (91, [true])]), (31, [(34, [true]), (36, [false, true])]), (32, [(34, [true]), (36, [false, true])]), (33, [(65, [true]), (66, [false, true])]), (34, [(65, [true]), (67, [false, true]), (81, [true]), (83, [false, true])]), (35, [(1, [true]), (8, [true]), (12, [true]), (21, [true]), (25, [true]), (31, [true]), (32, [true, true]), (35, [false, true]), (36, [false, false, true]), (37, [false, true])]), (36, [(38, [true]), (39, [false, true]), (42, [false, true]), (72, [true]), (73, [false, true]), (74, [false, false, true]), (77, [false, false, true]), (78, [false, true])]), (37, [(60, [true]), (61, [false, true])]), (38, [(34, [true]), (36, [false, true])]), (44, [(9, [true]), (17, [true]), (18, [false, true])]), (160, [(28, [true]), (29, [false, true]), (42, [true]), (43, [false, true]), (64, [true]), (65, [false, true]), (73, [true]), (74, [false, true])]), (170, [(17, [true]), (19, [false, true]), (20, [false, false, true]), (21, [false, true]), (22, [false, false, true]), (25, [false, false, true]), (26, [false, false, false, true]), (27, [false, false, true]), (28, [false, true])]), (180, [(17, [true]), (18, [false, true])]), (184, [(31, [true]), (32, [false, true]), (127, [true]), (128, [false, true])]), (185, [(11, [true]), (12, [false, true])]), (189, [(45, [true]), (46, [false, true]), (49, [false, true]), (50, [false, false, true]), (51, [false, true]), (129, [true]), (130, [false, true]), (133, [false, true]), (134, [false, false, true]), (135, [false, true])]), (191, [(4, [true]), (5, [false, true]), (13, [true]), (14, [false, true]), (25, [true]), (26, [false, true]), (34, [true]), (35, [false, true])]), (192, [(79, [true]), (80, [false, true]), (85, [true]), (86, [false, true]), (89, [false, true]), (90, [false, false, true]), (91, [false, true])]), (193, [(28, [true]), (30, [false, true]), (31, [false, false, true]), (32, [false, true]), (33, [false, false, true]), (36, [false, false, true]), (37, [false, false, false, true]), (38, [false, false, false, false, true]), (41, [false, false, true, true]), (42, [false, true, true]), (43, [false, true]), (63, [true]), (65, [false, true]), (66, [false, false, true]), (67, [false, true]), (68, [false, false, true]), (71, [false, false, true]), (72, [false, false, false, true]), (73, [false, false, true]), (74, [false, true])])]
def wy_F (c : Nat) : Bool := (Nat.blt 138 c && Nat.blt c 146 && c % 2 == 1) || c == 166 || c == 167
def wy_s (a b : Nat) : Bool := (a == 10 && b == 1) || (a == 12 && Nat.ble 34 b && Nat.ble b 35) || (a == 7 && b == 8)
def wy_p (a _b : Nat) : Bool := a == 10
def wy_x : List Nat := [124, 126, 127, 215, 217, 0, 1, 2, 3, 4, 5, 6, 7, 8, 9, 10, 11, 132]
def wy_T : List (Nat × List (Nat × List Bool)) := [(20, [(9, [true]), (10, [false, true]), (51, [true]), (59, [true]), (83, [true]), (91, [true])]), (31, [(34, [true]), (36, [false, true])]), (32, [(34, [true]), (36, [false, true])]), (33, [(65, [true]), (66, [false, true])]), (34, [(65, [true]), (67, [false, true]), (81, [true]), (83, [false, true])]), (35, [(1, [true]), (8, [true]), (12, [true]), (21, [true]), (25, [true]), (31, [true]), (32, [true, true]), (35, [false, true]), (36, [false, false, true]), (37, [false, true])]), (36, [(38, [true]), (39, [false, true]), (42, [false, true]), (72, [true]), (73, [false, true]), (74, [false, false, true]), (77, [false, false, true]), (78, [false, true])]), (37, [(60, [true]), (61, [false, true])]), (38, [(34, [true]), (36, [false, true])]), (128, [(17, [true])]), (129, [(60, [true]), (61, [false, true]), (66, [true]), (67, [false, true]), (68, [false, false, true]), (69, [false, true]), (74, [true]), (75, [false, true]), (76, [false, false, true]), (77, [false, true]), (82, [true]), (83, [false, true]), (84, [false, false, true]), (85, [false, true])]), (218, [(14, [true]), (15, [false, true]), (29, [true]), (30, [false, true]), (54, [true]), (55, [false, true]), (60, [true]), (61, [false, true]), (62, [false, false, true]), (63, [false, true]), (68, [true]), (69, [false, true]), (70, [false, false, true]), (71, [false, true]), (76, [true]), (77, [false, true]), (78, [false, false, true]), (79, [false, true])])]
theorem wm_f1 (c : Nat) (q : wm_F c = true) : c < 176 := by
  simp only [wm_F, Bool.or_eq_true, Bool.and_eq_true, Nat.blt_eq, Nat.ble_eq] at q
  omega
theorem wy_f1 (c : Nat) (q : wy_F c = true) : c < 176 := by
  simp only [wy_F, Bool.or_eq_true, Bool.and_eq_true, Nat.blt_eq, beq_iff_eq] at q
  omega
theorem wm_H : wq_H wm_F wm_s wm_p := by
  refine wq_Hok rfl wm_f1 (by decide +kernel) (by decide +kernel) rfl (fun a b q => ?_) (fun a b q => ?_)
  · simp only [wm_s, Bool.or_eq_true, Bool.and_eq_true, beq_iff_eq] at q
    omega
  · simp only [wm_p, Bool.or_eq_true, Bool.and_eq_true, beq_iff_eq] at q
    omega
theorem wy_H : wq_H wy_F wy_s wy_p := by
  refine wq_Hok rfl wy_f1 (by decide +kernel) (by decide +kernel) rfl (fun a b q => ?_) (fun a b q => ?_)
  · simp only [wy_s, Bool.or_eq_true, Bool.and_eq_true, beq_iff_eq] at q
    omega
  · simp only [wy_p, beq_iff_eq] at q
    omega
set_option maxRecDepth 100000 in
theorem wm_K : ∀ k M, wq_K wm_x k = true → jv_P[k]? = some M → M.2.2.2.2.2.2.all (wq_c wm_s wm_p (wq_K wm_x) wq_tg (wq_T wm_T k) (wq_tg k)) = true := wq_chk (by decide +kernel)
set_option maxRecDepth 100000 in
theorem wy_K : ∀ k M, wq_K wy_x k = true → jv_P[k]? = some M → M.2.2.2.2.2.2.all (wq_c wy_s wy_p (wq_K wy_x) wq_tg (wq_T wy_T k) (wq_tg k)) = true := wq_chk (by decide +kernel)
theorem zk_k0 : (jg_knd 0).1 = 11 := by decide +kernel
theorem zk_k146 : (jg_knd 146).1 = 12 := by decide +kernel
theorem wq_G0 {F : Nat → Bool} {src pf : Nat → Nat → Bool} (H : wq_H F src pf) {v : Value} (h : v = .null ∨ v = .ref 1000005) : wq_v F false v := by
  rcases h with rfl | rfl
  · trivial
  · exact fun q => absurd (H.1 _ q).1 (by omega)
theorem g_is1 {c j : Nat} (h : g_of c j = 1) : (c = 0 ∧ j = 1) ∨ (1 ≤ c ∧ c < 32) ∨ (c = 146 ∧ j = 0) ∨ (147 ≤ c ∧ c < 152) := by
  have g0 : ∀ j, g_0 j = 1 → j = 1 := fun j h => by
    unfold g_0 at h
    split at h <;> first | rfl | (exact absurd h (by decide))
  have g146 : ∀ j, g_146 j = 1 → j = 0 := fun j h => by
    unfold g_146 at h
    split at h <;> first | rfl | (exact absurd h (by decide))
  unfold g_of at h
  by_cases q0 : c = 0
  · rw [if_pos q0] at h; exact Or.inl ⟨q0, g0 j h⟩
  rw [if_neg q0] at h
  by_cases q1 : c < 32
  · exact Or.inr (Or.inl ⟨by omega, by omega⟩)
  rw [if_neg q1] at h
  by_cases q2 : c < 57
  · rw [if_pos q2] at h; exact absurd h (by decide)
  rw [if_neg q2] at h
  by_cases q3 : c = 57
  · rw [if_pos q3] at h; exact absurd h (by decide)
  rw [if_neg q3] at h
  by_cases q4 : c < 60
  · rw [if_pos q4] at h; exact absurd h (by decide)
  rw [if_neg q4] at h
  by_cases q5 : c < 65
  · rw [if_pos q5] at h; exact absurd h (by decide)
  rw [if_neg q5] at h
  by_cases q6 : c = 65
  · rw [if_pos q6] at h; exact absurd h (by decide)
  rw [if_neg q6] at h
  by_cases q7 : c < 71
  · rw [if_pos q7] at h; exact absurd h (by decide)
  rw [if_neg q7] at h
  by_cases q8 : c < 92
  · rw [if_pos q8] at h; exact absurd h (by decide)
  rw [if_neg q8] at h
  by_cases q9 : c < 117
  · rw [if_pos q9] at h; exact absurd h (by decide)
  rw [if_neg q9] at h
  by_cases q10 : c = 117
  · rw [if_pos q10] at h
    split at h <;> exact absurd h (by decide)
  rw [if_neg q10] at h
  by_cases q11 : c = 118
  · rw [if_pos q11] at h; exact absurd h (by decide)
  rw [if_neg q11] at h
  by_cases q12 : c < 122
  · rw [if_pos q12] at h; exact absurd h (by decide)
  rw [if_neg q12] at h
  by_cases q13 : c = 122
  · rw [if_pos q13] at h; exact absurd h (by decide)
  rw [if_neg q13] at h
  by_cases q14 : c < 137
  · rw [if_pos q14] at h; exact absurd h (by decide)
  rw [if_neg q14] at h
  by_cases q15 : c < 146
  · rw [if_pos q15] at h; exact absurd h (by decide)
  rw [if_neg q15] at h
  by_cases q16 : c = 146
  · rw [if_pos q16] at h; exact Or.inr (Or.inr (Or.inl ⟨q16, g146 j h⟩))
  rw [if_neg q16] at h
  by_cases q17 : c < 152
  · exact Or.inr (Or.inr (Or.inr ⟨by omega, by omega⟩))
  rw [if_neg q17] at h
  by_cases q18 : c < 156
  · rw [if_pos q18] at h; exact absurd h (by decide)
  rw [if_neg q18] at h
  by_cases q19 : c = 156
  · rw [if_pos q19] at h; exact absurd h (by decide)
  rw [if_neg q19] at h
  by_cases q20 : c < 162
  · rw [if_pos q20] at h
    split at h <;> exact absurd h (by decide)
  rw [if_neg q20] at h
  by_cases q21 : c = 162
  · rw [if_pos q21] at h; exact absurd h (by decide)
  rw [if_neg q21] at h
  by_cases q22 : c < 166
  · rw [if_pos q22] at h; exact absurd h (by decide)
  rw [if_neg q22] at h
  by_cases q23 : c < 168
  · rw [if_pos q23] at h; exact absurd h (by decide)
  rw [if_neg q23] at h
  by_cases q24 : c = 169
  · rw [if_pos q24] at h; exact absurd h (by decide)
  rw [if_neg q24] at h
  by_cases q25 : c < 172
  · rw [if_pos q25] at h; exact absurd h (by decide)
  rw [if_neg q25] at h
  by_cases q26 : c < 175
  · rw [if_pos q26] at h; exact absurd h (by decide)
  rw [if_neg q26] at h
  exact absurd h (by decide)
theorem g_is10 {c j : Nat} (h : g_of c j = 10) : (137 ≤ c ∧ c < 146) ∨ c = 166 ∨ c = 167 := by
  have g0 : ∀ j, ¬ g_0 j = 10 := fun j h => by
    unfold g_0 at h
    split at h <;> exact absurd h (by decide)
  have g146 : ∀ j, ¬ g_146 j = 10 := fun j h => by
    unfold g_146 at h
    split at h <;> exact absurd h (by decide)
  unfold g_of at h
  by_cases q0 : c = 0
  · rw [if_pos q0] at h; exact absurd h (g0 j)
  rw [if_neg q0] at h
  by_cases q1 : c < 32
  · rw [if_pos q1] at h; exact absurd h (by decide)
  rw [if_neg q1] at h
  by_cases q2 : c < 57
  · rw [if_pos q2] at h; exact absurd h (by decide)
  rw [if_neg q2] at h
  by_cases q3 : c = 57
  · rw [if_pos q3] at h; exact absurd h (by decide)
  rw [if_neg q3] at h
  by_cases q4 : c < 60
  · rw [if_pos q4] at h; exact absurd h (by decide)
  rw [if_neg q4] at h
  by_cases q5 : c < 65
  · rw [if_pos q5] at h; exact absurd h (by decide)
  rw [if_neg q5] at h
  by_cases q6 : c = 65
  · rw [if_pos q6] at h; exact absurd h (by decide)
  rw [if_neg q6] at h
  by_cases q7 : c < 71
  · rw [if_pos q7] at h; exact absurd h (by decide)
  rw [if_neg q7] at h
  by_cases q8 : c < 92
  · rw [if_pos q8] at h; exact absurd h (by decide)
  rw [if_neg q8] at h
  by_cases q9 : c < 117
  · rw [if_pos q9] at h; exact absurd h (by decide)
  rw [if_neg q9] at h
  by_cases q10 : c = 117
  · rw [if_pos q10] at h
    split at h <;> exact absurd h (by decide)
  rw [if_neg q10] at h
  by_cases q11 : c = 118
  · rw [if_pos q11] at h; exact absurd h (by decide)
  rw [if_neg q11] at h
  by_cases q12 : c < 122
  · rw [if_pos q12] at h; exact absurd h (by decide)
  rw [if_neg q12] at h
  by_cases q13 : c = 122
  · rw [if_pos q13] at h; exact absurd h (by decide)
  rw [if_neg q13] at h
  by_cases q14 : c < 137
  · rw [if_pos q14] at h; exact absurd h (by decide)
  rw [if_neg q14] at h
  by_cases q15 : c < 146
  · exact Or.inl ⟨by omega, by omega⟩
  rw [if_neg q15] at h
  by_cases q16 : c = 146
  · rw [if_pos q16] at h; exact absurd h (g146 j)
  rw [if_neg q16] at h
  by_cases q17 : c < 152
  · rw [if_pos q17] at h; exact absurd h (by decide)
  rw [if_neg q17] at h
  by_cases q18 : c < 156
  · rw [if_pos q18] at h; exact absurd h (by decide)
  rw [if_neg q18] at h
  by_cases q19 : c = 156
  · rw [if_pos q19] at h; exact absurd h (by decide)
  rw [if_neg q19] at h
  by_cases q20 : c < 162
  · rw [if_pos q20] at h
    split at h <;> exact absurd h (by decide)
  rw [if_neg q20] at h
  by_cases q21 : c = 162
  · rw [if_pos q21] at h; exact absurd h (by decide)
  rw [if_neg q21] at h
  by_cases q22 : c < 166
  · rw [if_pos q22] at h; exact absurd h (by decide)
  rw [if_neg q22] at h
  by_cases q23 : c < 168
  · exact Or.inr (by omega)
  rw [if_neg q23] at h
  by_cases q24 : c = 169
  · rw [if_pos q24] at h; exact absurd h (by decide)
  rw [if_neg q24] at h
  by_cases q25 : c < 172
  · rw [if_pos q25] at h; exact absurd h (by decide)
  rw [if_neg q25] at h
  by_cases q26 : c < 175
  · rw [if_pos q26] at h; exact absurd h (by decide)
  rw [if_neg q26] at h
  exact absurd h (by decide)
theorem wm_k1 : ∀ c, c < 32 → 1 ≤ c → (15 ≤ (jg_knd c).1 ∨ wm_F c = true ∨ (jg_knd c).1 = 5) := by decide +kernel
theorem wm_same {s s' : jg_H} (h : wq_S wm_F wm_p s s') : f_same 1 s s' := by
  intro c j g
  rcases g_is1 g with ⟨rfl, rfl⟩ | ⟨h1, h2⟩ | ⟨rfl, rfl⟩ | ⟨h1, h2⟩
  · exact h.2.1 0 1 (by rw [zk_k0]; rfl)
  · rcases wm_k1 c h2 h1 with q | q | q
    · exact h.2.2 c j q
    · exact h.1 c j q
    · exact h.2.1 c j (by rw [q]; rfl)
  · exact h.2.1 146 0 (by rw [zk_k146]; rfl)
  · refine h.1 c j ?_
    have : c = 147 ∨ c = 148 ∨ c = 149 ∨ c = 150 ∨ c = 151 := by omega
    rcases this with rfl | rfl | rfl | rfl | rfl <;> rfl
theorem wy_k1 : ∀ c, c < 146 → 137 ≤ c → (15 ≤ (jg_knd c).1 ∨ wy_F c = true ∨ (jg_knd c).1 = 10) := by decide +kernel
theorem wy_same {s s' : jg_H} (h : wq_S wy_F wy_p s s') : f_same 10 s s' := by
  intro c j g
  rcases g_is10 g with ⟨h1, h2⟩ | rfl | rfl
  · rcases wy_k1 c h2 h1 with q | q | q
    · exact h.2.2 c j q
    · exact h.1 c j q
    · exact h.2.1 c j (by rw [q]; rfl)
  · exact h.1 166 j rfl
  · exact h.1 167 j rfl
theorem wm_P {G : jv_X} (hG : G.2 = .null ∨ G.2 = .ref 1000005) {d k : Nat} {as : List Value} {s : jg_H} {B : Option Value → jg_H → Prop} (hk : wq_K wm_x k = true) (ha : wq_a wm_F (wq_tg k) as) (h : q_P G d k as s B) : q_P G d k as s (fun v s' => B v s' ∧ f_same 1 s s') :=
  q_mono (fun _ _ q => ⟨q.1, wm_same q.2.1⟩) (wq_P wm_H wm_K (wq_G0 wm_H hG) d k as s B hk ha h)
theorem wy_P {G : jv_X} (hG : G.2 = .null ∨ G.2 = .ref 1000005) {d k : Nat} {as : List Value} {s : jg_H} {B : Option Value → jg_H → Prop} (hk : wq_K wy_x k = true) (ha : wq_a wy_F (wq_tg k) as) (h : q_P G d k as s B) : q_P G d k as s (fun v s' => B v s' ∧ f_same 10 s s') :=
  q_mono (fun _ _ q => ⟨q.1, wy_same q.2.1⟩) (wq_P wy_H wy_K (wq_G0 wy_H hG) d k as s B hk ha h)
