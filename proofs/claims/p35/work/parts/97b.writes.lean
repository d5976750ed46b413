/-! a field that no method of a set writes, and that set shut under calls: it stays as it is -/
def wr_e (K : Nat → Bool) (a b : Nat) (e : jv_E) : Bool := match e.2.1 with
  | .putfield _ => !(e.2.2.2.1 == a && e.2.2.2.2.1 == b)
  | .invokevirtual _ => K e.2.2.2.1
  | .invokestatic _ => e.2.2.2.2.1 == 7 || K e.2.2.2.1
  | .invokespecial _ => e.2.2.2.2.1 == 4 || K e.2.2.2.1
  | _ => true
def wr_o (K : Nat → Bool) (a b : Nat) (s : jg_H) (o : jv_O jg_H) : Prop := match o with
  | some (.inl (_, _, _, s')) => ∀ c, (jg_knd c).1 = a → s' c b = s c b
  | some (.inr (.inr (k, _, _, _))) => K k = true
  | _ => True
theorem wr_go {K : Nat → Bool} {a b pc : Nat} {s : jg_H} {ls : jv_L} {st : List Value} : wr_o K a b s (jv_go pc ls st s) := fun _ _ => rfl
theorem wr_no {K : Nat → Bool} {a b : Nat} {s : jg_H} : wr_o K a b s none := trivial
theorem wr_set {K : Nat → Bool} {a b c j pc : Nat} {s s' : jg_H} {v : Value} {ls : jv_L} {st : List Value} (h7 : a ≠ 7) (h : jg_O.2.2.2.2.1 s c j v = some s') (hc : ¬ ((jg_knd c).1 = a ∧ j = b)) : wr_o K a b s (jv_go pc ls st s') := by
  intro d hd
  cases v with
  | int x =>
    have h : (if jg_isr (jg_knd c).1 j = true then none else some (jg_up s c j x)) = some s' := h
    by_cases q : jg_isr (jg_knd c).1 j = true
    · rw [if_pos q] at h; cases h
    · rw [if_neg q] at h
      cases h
      unfold jg_up
      rw [if_neg (fun z => hc ⟨by rw [← z.1]; exact hd, z.2.symm⟩)]
  | ref k =>
    have h : (if c = 117 ∧ j = 8 ∧ k < 176 then some (jg_up s c j (Int32.ofNat k)) else none) = some s' := h
    by_cases q : c = 117 ∧ j = 8 ∧ k < 176
    · rw [if_pos q] at h
      cases h
      unfold jg_up
      have hk : (jg_knd 117).1 = 7 := by decide +kernel
      rw [if_neg (fun z => h7 (by rw [← hd, z.1, q.1]; exact hk))]
    · rw [if_neg q] at h; cases h
  | _ => cases h
set_option maxHeartbeats 4000000 in
set_option maxRecDepth 4000 in
theorem wr_nxt {K : Nat → Bool} {a0 b0 : Nat} (h7 : a0 ≠ 7) (h13 : a0 < 13) {G : jv_X} {M : jv_MI} {e : jv_E} {ls : jv_L} {st : List Value} {s : jg_H} (he : wr_e K a0 b0 e = true) : wr_o K a0 b0 s (jv_nxt jg_O G M e ls st s) := by
  obtain ⟨pc, i, n, a, b, t0, u, z⟩ := e
  cases i
  case putfield ix =>
    simp only [jv_nxt, jv_vr]
    repeat' split
    all_goals first
      | exact wr_no
      | (rename_i hc _ s' hq
         refine wr_set h7 hq (fun q => ?_)
         have he : (!(a == a0 && b == b0)) = true := he
         rw [show a = a0 from hc.2.1.symm.trans q.1, q.2] at he
         simp at he)
  case iastore =>
    simp only [jv_nxt, jv_rii]
    repeat' split
    all_goals first
      | exact wr_no
      | (rename_i hc _ s' hq
         refine wr_set h7 hq (fun q => ?_)
         have : (13 : Nat) = a0 := hc.2.1.symm.trans q.1
         omega)
  case bastore =>
    simp only [jv_nxt, jv_rii]
    repeat' split
    all_goals first
      | exact wr_no
      | (rename_i hc _ s' hq
         refine wr_set h7 hq (fun q => ?_)
         have : (14 : Nat) = a0 := hc.2.1.symm.trans q.1
         omega)
  case aastore =>
    simp only [jv_nxt, jv_rir]
    repeat' split
    all_goals first
      | exact wr_no
      | (rename_i hc _ s' hq
         refine wr_set h7 hq (fun q => ?_)
         have h1 : 16 ≤ (jg_knd _).1 := hc.2.2.1
         rw [q.1] at h1
         omega)
  case new ix => exact wr_no
  case newarray ix =>
    simp only [jv_nxt, jv_i1]
    repeat' split
    all_goals first | exact wr_no | (rename_i q; cases q)
  case anewarray ix =>
    simp only [jv_nxt, jv_i1]
    repeat' split
    all_goals first | exact wr_no | (rename_i q; cases q)
  case multianewarray ix d =>
    simp only [jv_nxt, jv_i2]
    repeat' split
    all_goals first | exact wr_no | (rename_i q; cases q)
  case invokestatic ix =>
    have he : (b == 7 || K a) = true := he
    simp only [jv_nxt, jv_i2]
    by_cases hb : b = 7
    · rw [if_pos hb]
      repeat' split
      all_goals first | exact wr_no | exact wr_go
    · rw [if_neg hb]
      have hK : K a = true := by simpa [hb] using he
      repeat' split
      all_goals first | exact wr_no | exact hK
  case invokespecial ix =>
    have he : (b == 4 || K a) = true := he
    simp only [jv_nxt, jv_r1]
    by_cases hb : b = 4
    · simp only [if_pos hb]
      repeat' split
      all_goals first | exact wr_no | exact wr_go
    · simp only [if_neg hb]
      have hK : K a = true := by simpa [hb] using he
      repeat' split
      all_goals first | exact wr_no | exact hK
  case if_icmp cond off =>
    cases cond <;> (simp only [jv_nxt, jv_i2]; split <;> first | exact wr_no | exact wr_go)
  case ifCond cond off =>
    cases cond <;> (simp only [jv_nxt, jv_i1]; split <;> first | exact wr_no | exact wr_go)
  all_goals first
    | exact wr_no
    | (simp only [jv_nxt, jv_i1, jv_i2, jv_l1, jv_l2, jv_li, jv_r1, jv_ri, jv_st, jv_ild, jv_lld, jv_ald]
       repeat' split
       all_goals first | exact wr_no | exact wr_go | exact he | trivial)
theorem wr_P {K : Nat → Bool} {a0 b0 : Nat} (h7 : a0 ≠ 7) (h13 : a0 < 13) (hK : ∀ k M, K k = true → jv_P[k]? = some M → M.2.2.2.2.2.2.all (wr_e K a0 b0) = true) {G : jv_X} : ∀ (d k : Nat) (as : List Value) (s : jg_H) (B : Option Value → jg_H → Prop), K k = true → q_P G d k as s B → q_P G d k as s (fun v s' => B v s' ∧ ∀ c, (jg_knd c).1 = a0 → s' c b0 = s c b0)
  | 0, _, _, _, _, _, h => h.elim
  | d + 1, k, as, s, B, hk, h => by
    obtain ⟨M, h1, h2, h3⟩ := h
    refine ⟨M, h1, h2, ?_⟩
    have h3 : q_W G d M B 0 (jv_ent M.2.2.2.1 as) [] s := h3
    have key := h3 (fun pc ls st s1 => (∀ c, (jg_knd c).1 = a0 → s1 c b0 = s c b0) → q_W G d M (fun v s' => B v s' ∧ ∀ c, (jg_knd c).1 = a0 → s' c b0 = s c b0) pc ls st s1) ?_
    · exact key (fun _ _ => rfl)
    · intro pc ls st s1 hs f1
      unfold jv_stp at hs
      refine jv_We_step ?_
      unfold jv_stp
      cases ha : jv_at M.2.2.2.2.2.2 pc with
      | none => simp only [ha] at hs
      | some e =>
        simp only [ha] at hs ⊢
        have hx := wr_nxt (K := K) (b0 := b0) h7 h13 (G := G) (M := M) (ls := ls) (st := st) (s := s1) (List.all_eq_true.mp (hK k M hk h1) _ (jv_at_in _ _ ha))
        cases hn : jv_nxt jg_O G M (pc, e) ls st s1 with
        | none => simp only [hn] at hs
        | some o =>
          simp only [hn] at hs ⊢
          rw [hn] at hx
          match o, hs, hx with
          | .inl (pc', ls', st', s2), hs, hx => exact ⟨hs.1, hs.2.1, hs.2.2 (fun c hc => (hx c hc).trans (f1 c hc))⟩
          | .inr (.inl v), hs, hx => exact ⟨hs.1, hs.2.1, hs.2.2, f1⟩
          | .inr (.inr (k', pc', as', r')), hs, hx =>
            obtain ⟨mc, ms, q1, q2, q3⟩ := hs
            have hm : mc = 0 := by have : 176 + mc ≤ 176 + 0 := q1; omega
            have hms : ms = 0 := by have : 9491 + ms ≤ 9491 + 0 := q2; omega
            subst hm hms
            refine ⟨0, 0, q1, q2, ?_⟩
            refine q_mono (fun v s' q => q.1 (fun c hc => (q.2 c hc).trans (f1 c hc))) (wr_P h7 h13 hK d k' as' s1 _ hx q3)
theorem wr_all {K : Nat → Bool} {a b : Nat} (h : ∀ k, k < 220 → K k = true → (jc_M k).2.2.2.2.2.2.all (wr_e K a b) = true) : ∀ k M, K k = true → jv_P[k]? = some M → M.2.2.2.2.2.2.all (wr_e K a b) = true := by
  intro k M hk hM
  by_cases hl : k < 220
  · have e := jc_M_ok k hl
    cases hM.symm.trans e
    exact h k hl hk
  · have hlen : jv_P.length = 220 := by decide +kernel
    rw [List.getElem?_eq_none (by omega)] at hM
    cases hM
/-- all methods but those of a list -/
def wr_K (l : List Nat) (k : Nat) : Bool := !(l.contains k)
/-- how many members there are: member alone writes it (0 and 132: the constructors) -/
theorem wr_memC : ∀ k M, wr_K [0, 39, 132, 151] k = true → jv_P[k]? = some M → M.2.2.2.2.2.2.all (wr_e (wr_K [0, 39, 132, 151]) 11 1) = true := wr_all (by decide +kernel)
theorem wr_memM : ∀ k M, wr_K [0, 39, 132, 151] k = true → jv_P[k]? = some M → M.2.2.2.2.2.2.all (wr_e (wr_K [0, 39, 132, 151]) 12 0) = true := wr_all (by decide +kernel)
/-- how many bills -/
theorem wr_bilC : ∀ k M, wr_K [0, 50, 132, 161] k = true → jv_P[k]? = some M → M.2.2.2.2.2.2.all (wr_e (wr_K [0, 50, 132, 161]) 11 3) = true := wr_all (by decide +kernel)
theorem wr_bilM : ∀ k M, wr_K [0, 50, 132, 161] k = true → jv_P[k]? = some M → M.2.2.2.2.2.2.all (wr_e (wr_K [0, 50, 132, 161]) 12 6) = true := wr_all (by decide +kernel)
/-- the day -/
theorem wr_dayC : ∀ k M, wr_K [0, 105, 132, 204] k = true → jv_P[k]? = some M → M.2.2.2.2.2.2.all (wr_e (wr_K [0, 105, 132, 204]) 11 18) = true := wr_all (by decide +kernel)
theorem wr_dayM : ∀ k M, wr_K [0, 105, 132, 204] k = true → jv_P[k]? = some M → M.2.2.2.2.2.2.all (wr_e (wr_K [0, 105, 132, 204]) 12 16) = true := wr_all (by decide +kernel)
