/-! the law's loop -/
def q_Ty (r : Option FieldType) (v : Option Value) : Prop := match r with
  | none => v = none
  | some .long => ∃ x, v = some (.long x)
  | some .int => ∃ x, v = some (.int x)
  | _ => True
set_option maxHeartbeats 4000000 in
theorem q_ty {η : Type} {O : jv_Ops η} {G : jv_X} {M : jv_MI} {e : jv_E} {ls : jv_L} {st : List Value} {h : η} {v : Option Value} (hn : jv_nxt O G M e ls st h = some (.inr (.inl v))) : q_Ty M.2.2.2.2.1 v := by
  obtain ⟨pc, i, n, a, b, t, u, z⟩ := e
  cases hi : jv_isr i with
  | false => exact absurd hn (jv_noret hi)
  | true =>
    cases i
    case ireturn =>
      simp only [jv_nxt] at hn
      split at hn
      · rename_i x ty hr
        obtain ⟨hq, hn⟩ := jv_if_e hn
        cases hn
        rw [hr]
        cases ty <;> first | exact ⟨x, rfl⟩ | trivial | cases hq
      · cases hn
    case lreturn =>
      simp only [jv_nxt] at hn
      split at hn
      · rename_i x hr
        cases hn
        rw [hr]
        exact ⟨x, rfl⟩
      · cases hn
    case areturn =>
      simp only [jv_nxt] at hn
      split at hn
      · rename_i x nm hr
        rw [hr]
        trivial
      · cases hn
    case return_ =>
      simp only [jv_nxt] at hn
      split at hn
      · rename_i hr
        cases hn
        rw [hr]
        rfl
      · cases hn
    all_goals cases hi
theorem q_typ {G : jv_X} {k : Nat} {M : jv_MI} (hM : jv_P[k]? = some M) : ∀ {d : Nat} {as : List Value} {s : jg_H} {B : Option Value → jg_H → Prop}, q_P G d k as s B → q_P G d k as s (fun v s' => B v s' ∧ q_Ty M.2.2.2.2.1 v)
  | 0, _, _, _, h => h.elim
  | d + 1, as, s, B, h => by
    obtain ⟨N, h1, h2, h3⟩ := h
    cases hM.symm.trans h1
    refine ⟨M, hM, h2, fun P hP => h3 P (fun pc ls st h hs => hP _ _ _ _ ?_)⟩
    unfold jv_stp at hs ⊢
    cases ha : jv_at M.2.2.2.2.2.2 pc with
    | none => simp only [ha] at hs
    | some e =>
      simp only [ha] at hs ⊢
      cases hn : jv_nxt jg_O G M (pc, e) ls st h with
      | none => simp only [hn] at hs
      | some o =>
        simp only [hn] at hs ⊢
        match o, hn, hs with
        | .inl _, hn, hs => exact hs
        | .inr (.inl v), hn, hs => exact ⟨hs.1, hs.2.1, hs.2.2, q_ty hn⟩
        | .inr (.inr _), hn, hs => exact hs
theorem q_typ_int {G : jv_X} {k : Nat} {M : jv_MI} (hM : jv_P[k]? = some M) (hr : M.2.2.2.2.1 = some .int) {d : Nat} {as : List Value} {s : jg_H} {B : Option Value → jg_H → Prop} (h : q_P G d k as s B) : q_P G d k as s (fun v s' => B v s' ∧ ∃ x, v = some (.int x)) :=
  q_mono (fun v s' q => ⟨q.1, by have := q.2; rw [hr] at this; exact this⟩) (q_typ hM h)
theorem q_typ_long {G : jv_X} {k : Nat} {M : jv_MI} (hM : jv_P[k]? = some M) (hr : M.2.2.2.2.1 = some .long) {d : Nat} {as : List Value} {s : jg_H} {B : Option Value → jg_H → Prop} (h : q_P G d k as s B) : q_P G d k as s (fun v s' => B v s' ∧ ∃ x, v = some (.long x)) :=
  q_mono (fun v s' q => ⟨q.1, by have := q.2; rw [hr] at this; exact this⟩) (q_typ hM h)
theorem ws_cmp (x : Int64) : lg_cmp x x = 0 := by
  unfold lg_cmp
  split
  · rename_i h; exact absurd h (by simp [Int64.lt_irrefl])
  · first | rfl | (split <;> first | rfl | (rename_i h; exact absurd h (by simp [Int64.lt_irrefl])) | simp_all)
theorem ws_We {G : jv_X} {d : Nat} {M : jv_MI} {B : Option Value → jg_H → Prop} {pc : Nat} {ls : jv_L} {st : List Value} {s : jg_H} (h : q_W G d M B pc ls st s) : jv_We jg_O G (jv_wp jg_O G d) M 0 0 176 9491 B pc ls st s := by
  intro P hP
  refine h P (fun pc ls st s hs => hP _ _ _ _ ?_)
  unfold jv_stp at hs ⊢
  cases ha : jv_at M.2.2.2.2.2.2 pc with
  | none => simp only [ha] at hs
  | some e =>
    simp only [ha] at hs ⊢
    cases hn : jv_nxt jg_O G M (pc, e) ls st s with
    | none => simp only [hn] at hs
    | some o =>
      simp only [hn] at hs ⊢
      match o, hn, hs with
      | .inl _, hn, hs => exact hs
      | .inr (.inl v), hn, hs => exact hs
      | .inr (.inr _), hn, hs => exact hs
