/-! what a method comes to: rules -/
theorem jv_stp_mono {η : Type} {O : jv_Ops η} {G : jv_X} {call : Nat → Nat → Nat → List Value → η → (Option Value → η → Prop) → Prop} (hc : ∀ k mc ms as h (B B' : Option Value → η → Prop), (∀ v h, B v h → B' v h) → call k mc ms as h B → call k mc ms as h B') {M : jv_MI} {z0 l0 mc ms : Nat} {B B' : Option Value → η → Prop} (hB : ∀ v h, B v h → B' v h) {P P' : Nat → jv_L → List Value → η → Prop} (hP : ∀ pc ls st h, P pc ls st h → P' pc ls st h) {pc : Nat} {ls : jv_L} {st : List Value} {h : η}
    (hs : jv_stp O G call M z0 l0 mc ms B P pc ls st h) : jv_stp O G call M z0 l0 mc ms B' P' pc ls st h := by
  unfold jv_stp at hs ⊢
  cases ha : jv_at M.2.2.2.2.2.2 pc with
  | none => simp only [ha] at hs
  | some e =>
    simp only [ha] at hs ⊢
    cases hn : jv_nxt O G M (pc, e) ls st h with
    | none => simp only [hn] at hs
    | some o =>
      simp only [hn] at hs ⊢
      match o, hs with
      | .inl (pc', ls', st', h'), hs => exact ⟨hs.1, hs.2.1, hP _ _ _ _ hs.2.2⟩
      | .inr (.inl v), hs => exact ⟨hs.1, hs.2.1, hB _ _ hs.2.2⟩
      | .inr (.inr (k, pc', as, r)), hs =>
        obtain ⟨a1, a2, a3, a4, a5⟩ := hs
        exact ⟨a1, a2, a3, a4, hc _ _ _ _ _ _ _ (fun v h => hP _ _ _ _) a5⟩
theorem jv_wp_mono {η : Type} {O : jv_Ops η} {G : jv_X} : ∀ (d k mc ms : Nat) (as : List Value) (h : η) (B B' : Option Value → η → Prop), (∀ v h, B v h → B' v h) → jv_wp O G d k mc ms as h B → jv_wp O G d k mc ms as h B'
  | 0, _, _, _, _, _, _, _, _, hw => hw.elim
  | d + 1, k, mc, ms, as, h, B, B', hB, hw => by
    obtain ⟨M, h1, h2, h3⟩ := hw
    exact ⟨M, h1, h2, fun P hP => h3 P (fun pc ls st h hs => hP pc ls st h (jv_stp_mono (jv_wp_mono d) hB (fun _ _ _ _ q => q) hs))⟩
theorem jv_We_step {η : Type} {O : jv_Ops η} {G : jv_X} {d : Nat} {M : jv_MI} {z0 l0 mc ms : Nat} {B : Option Value → η → Prop} {pc : Nat} {ls : jv_L} {st : List Value} {h : η} (hs : jv_stp O G (jv_wp O G d) M z0 l0 mc ms B (jv_We O G (jv_wp O G d) M z0 l0 mc ms B) pc ls st h) : jv_We O G (jv_wp O G d) M z0 l0 mc ms B pc ls st h :=
  fun P hP => hP _ _ _ _ (jv_stp_mono (jv_wp_mono d) (fun _ _ q => q) (fun _ _ _ _ q => q P hP) hs)
/-- more depth does no harm -/
theorem jv_wp_up {η : Type} {O : jv_Ops η} {G : jv_X} : ∀ (d k mc ms : Nat) (as : List Value) (h : η) (B : Option Value → η → Prop), jv_wp O G d k mc ms as h B → jv_wp O G (d + 1) k mc ms as h B
  | 0, _, _, _, _, _, _, hw => hw.elim
  | d + 1, k, mc, ms, as, h, B, hw => by
    obtain ⟨M, h1, h2, h3⟩ := hw
    refine ⟨M, h1, h2, fun P hP => h3 P (fun pc ls st h hs => hP pc ls st h ?_)⟩
    unfold jv_stp at hs ⊢
    cases ha : jv_at M.2.2.2.2.2.2 pc with
    | none => simp only [ha] at hs
    | some e =>
      simp only [ha] at hs ⊢
      cases hn : jv_nxt O G M (pc, e) ls st h with
      | none => simp only [hn] at hs
      | some o =>
        simp only [hn] at hs ⊢
        match o, hs with
        | .inl (pc', ls', st', h'), hs => exact hs
        | .inr (.inl v), hs => exact hs
        | .inr (.inr (k, pc', as, r)), hs =>
          obtain ⟨a1, a2, a3, a4, a5⟩ := hs
          exact ⟨a1, a2, a3, a4, jv_wp_up d _ _ _ _ _ _ a5⟩
/-! running it -/
noncomputable def jv_lp {η : Type} (nx : jv_MI → jv_E → jv_L → List Value → η → jv_O η) (call : Nat → List Value → η → Option (Option Value × η)) (M : jv_MI) (f : Nat) : Nat → jv_L → List Value → η → Option (Option Value × η) :=
  Nat.rec (fun _ _ _ _ => none) (fun _ ih pc ls st h => match jv_at M.2.2.2.2.2.2 pc with
    | none => none
    | some e => match nx M (pc, e) ls st h with
      | none => none
      | some (.inl (pc', ls', st', h')) => ih pc' ls' st' h'
      | some (.inr (.inl v)) => some (v, h)
      | some (.inr (.inr (k, pc', as, r))) => match call k as h with
        | none => none
        | some (v, h') => ih pc' ls (v.toList ++ r) h') f
noncomputable def jv_ev {η : Type} (nx : jv_MI → jv_E → jv_L → List Value → η → jv_O η) (f : Nat) (d : Nat) : Nat → List Value → η → Option (Option Value × η) :=
  Nat.rec (fun _ _ _ => none) (fun _ ih k as h => match jv_P[k]? with
    | none => none
    | some M => if (jv_sl as).length ≤ M.2.2.2.1 then jv_lp nx ih M f 0 (jv_ent M.2.2.2.1 as) [] h else none) d
theorem jv_mono {η : Type} {O : jv_Ops η} (hO : jv_Ok O) {G : jv_X} {M : jv_MI} {pc n a b t u : Nat} {z : Int} {i : Jvm.ClassFile.Instr} {ls : jv_L} {st : List Value} {h : η} {pc' : Nat} {ls' : jv_L} {st' : List Value} {h' : η} (hn : jv_nxt O G M (pc, i, n, a, b, t, u, z) ls st h = some (.inl (pc', ls', st', h'))) : O.1 h ≤ O.1 h' ∧ O.2.1 h ≤ O.2.1 h' := by
  have same : ∀ {p l s} {g : η}, jv_go p l s g = some (.inl (pc', ls', st', h')) → O.1 g = O.1 h' ∧ O.2.1 g = O.2.1 h' := by
    intro p l s g q
    obtain ⟨-, -, -, rfl⟩ := jv_go_e q
    exact ⟨rfl, rfl⟩
  have setx : ∀ {c j v} {g : η}, O.2.2.2.2.1 h c j v = some g → c < O.1 h → O.1 h = O.1 g ∧ O.2.1 h = O.2.1 g := by
    intro c j v g q qc
    obtain ⟨w1, w2, -⟩ := hO.2.1 _ _ _ _ _ q qc
    exact ⟨w1.symm, w2.symm⟩
  have newx : ∀ {k n f} {g : η}, O.2.2.2.2.2.1 h k n f = some g → O.1 h ≤ O.1 g ∧ O.2.1 h ≤ O.2.1 g := by
    intro k n f g q
    obtain ⟨w1, w2, -⟩ := hO.2.2.1 _ _ _ _ _ q
    exact ⟨by omega, by omega⟩
  have newm : ∀ {n k} {g : η}, O.2.2.2.2.2.2 h n k = some g → O.1 h ≤ O.1 g ∧ O.2.1 h ≤ O.2.1 g := by
    intro n k g q
    obtain ⟨w1, w2, -⟩ := hO.2.2.2 _ _ _ _ q
    exact ⟨by omega, by rw [w2]; omega⟩
  have fin : ∀ {p l s} {g : η}, jv_go p l s g = some (.inl (pc', ls', st', h')) → O.1 h ≤ O.1 g ∧ O.2.1 h ≤ O.2.1 g → O.1 h ≤ O.1 h' ∧ O.2.1 h ≤ O.2.1 h' := by
    intro p l s g q w
    have := same q
    exact ⟨by omega, by omega⟩
  have le0 : O.1 h ≤ O.1 h ∧ O.2.1 h ≤ O.2.1 h := ⟨Nat.le_refl _, Nat.le_refl _⟩
  cases i
  all_goals
    simp only [jv_nxt, jv_i1, jv_i2, jv_l1, jv_l2, jv_li, jv_r1, jv_vr, jv_ri, jv_rii, jv_rir, jv_st, jv_ild, jv_lld, jv_ald] at hn
  all_goals repeat' (split at hn)
  all_goals first
    | (cases hn; done)
    | contradiction
    | exact fin hn le0
    | (rename_i q1 _ _ q2; exact fin hn (newx q2))
    | skip
  all_goals first
    | exact fin hn (newx (by assumption))
    | exact fin hn (newm (by assumption))
    | exact fin hn (by have := setx (by assumption) (And.left (by assumption)); omega)
theorem jv_lp_we {η : Type} {O : jv_Ops η} (hO : jv_Ok O) {G : jv_X} {nx : jv_MI → jv_E → jv_L → List Value → η → jv_O η} (hnx : ∀ M e ls st h o, nx M e ls st h = some o → jv_nxt O G M e ls st h = some o) {d : Nat} {call : Nat → List Value → η → Option (Option Value × η)}
    (hc : ∀ k as h v h', call k as h = some (v, h') → O.1 h ≤ O.1 h' ∧ O.2.1 h ≤ O.2.1 h' ∧ ∀ B : Option Value → η → Prop, B v h' → jv_wp O G d k (O.1 h' - O.1 h) (O.2.1 h' - O.2.1 h) as h B) {M : jv_MI} :
    ∀ (f pc : Nat) (ls : jv_L) (st : List Value) (h : η) (v : Option Value) (h' : η), jv_lp nx call M f pc ls st h = some (v, h') → O.1 h ≤ O.1 h' ∧ O.2.1 h ≤ O.2.1 h' ∧ ∀ (z0 l0 mc ms : Nat) (B : Option Value → η → Prop), O.1 h' = z0 + mc → O.2.1 h' = l0 + ms → B v h' → jv_We O G (jv_wp O G d) M z0 l0 mc ms B pc ls st h
  | 0, _, _, _, _, _, _, q => by cases q
  | f + 1, pc, ls, st, h, v, h', q => by
    have q : (match jv_at M.2.2.2.2.2.2 pc with
      | none => none
      | some e => match nx M (pc, e) ls st h with
        | none => none
        | some (.inl (pc', ls', st', h')) => jv_lp nx call M f pc' ls' st' h'
        | some (.inr (.inl v)) => some (v, h)
        | some (.inr (.inr (k, pc', as, r))) => match call k as h with
          | none => none
          | some (v, h') => jv_lp nx call M f pc' ls (v.toList ++ r) h') = some (v, h') := q
    cases ha : jv_at M.2.2.2.2.2.2 pc with
    | none => simp only [ha] at q; cases q
    | some e =>
      simp only [ha] at q
      cases hn : nx M (pc, e) ls st h with
      | none => simp only [hn] at q; cases q
      | some o =>
        simp only [hn] at q
        match o, hn, q with
        | .inl (pc1, ls1, st1, h1), hn, q =>
          obtain ⟨a1, a2, a3⟩ := jv_lp_we hO hnx hc f _ _ _ _ _ _ q
          obtain ⟨i, n, a, b, t, u, z⟩ := e
          obtain ⟨b1, b2⟩ := jv_mono hO (hnx _ _ _ _ _ _ hn)
          refine ⟨by omega, by omega, fun z0 l0 mc ms B e1 e2 hB => jv_We_step ?_⟩
          unfold jv_stp
          simp only [ha, hnx _ _ _ _ _ _ hn]
          exact ⟨by omega, by omega, a3 z0 l0 mc ms B e1 e2 hB⟩
        | .inr (.inl w), hn, q =>
          cases q
          refine ⟨Nat.le_refl _, Nat.le_refl _, fun z0 l0 mc ms B e1 e2 hB => jv_We_step ?_⟩
          unfold jv_stp
          simp only [ha, hnx _ _ _ _ _ _ hn]
          exact ⟨e1, e2, hB⟩
        | .inr (.inr (k, pc1, as, r)), hn, q =>
          cases hk : call k as h with
          | none => simp only [hk] at q; cases q
          | some vh =>
            obtain ⟨w, h1⟩ := vh
            simp only [hk] at q
            obtain ⟨a1, a2, a3⟩ := jv_lp_we hO hnx hc f _ _ _ _ _ _ q
            obtain ⟨c1, c2, c3⟩ := hc _ _ _ _ _ hk
            refine ⟨by omega, by omega, fun z0 l0 mc ms B e1 e2 hB => jv_We_step ?_⟩
            unfold jv_stp
            simp only [ha, hnx _ _ _ _ _ _ hn]
            exact ⟨_, _, by omega, by omega, c3 _ (a3 z0 l0 mc ms B e1 e2 hB)⟩
theorem jv_ev_wp {η : Type} {O : jv_Ops η} (hO : jv_Ok O) {G : jv_X} {nx : jv_MI → jv_E → jv_L → List Value → η → jv_O η} (hnx : ∀ M e ls st h o, nx M e ls st h = some o → jv_nxt O G M e ls st h = some o) {f : Nat} : ∀ (d k : Nat) (as : List Value) (h : η) (v : Option Value) (h' : η), jv_ev nx f d k as h = some (v, h') → O.1 h ≤ O.1 h' ∧ O.2.1 h ≤ O.2.1 h' ∧ ∀ B : Option Value → η → Prop, B v h' → jv_wp O G d k (O.1 h' - O.1 h) (O.2.1 h' - O.2.1 h) as h B
  | 0, _, _, _, _, _, q => by cases q
  | d + 1, k, as, h, v, h', q => by
    have q : (match jv_P[k]? with
      | none => none
      | some M => if (jv_sl as).length ≤ M.2.2.2.1 then jv_lp nx (jv_ev nx f d) M f 0 (jv_ent M.2.2.2.1 as) [] h else none) = some (v, h') := q
    cases hM : jv_P[k]? with
    | none => simp only [hM] at q; cases q
    | some M =>
      simp only [hM] at q
      split at q
      · rename_i hl
        obtain ⟨a1, a2, a3⟩ := jv_lp_we hO hnx (jv_ev_wp hO hnx d) f _ _ _ _ _ _ q
        exact ⟨a1, a2, fun B hB => ⟨M, hM, hl, a3 _ _ _ _ B (by omega) (by omega) hB⟩⟩
      · cases q
