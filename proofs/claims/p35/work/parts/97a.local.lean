/-! a side of the heap that is shut in itself: what a call does there, it does whatever stands on the other side -/
def lz_v (A : Nat → Prop) (v : Value) : Prop := match v with
  | .ref c => c < 176 → A c
  | _ => True
def lz_s (A : Nat → Prop) (st : List Value) : Prop := ∀ v, v ∈ st → lz_v A v
def lz_l (A : Nat → Prop) (ls : jv_L) : Prop := ∀ (i : Nat) (v : Value), ls[i]? = some (some v) → lz_v A v
def lz_H (A : Nat → Prop) (s t : jg_H) : Prop := (∀ c j, A c → s c j = t c j) ∧ (A 117 → (s 117 8).toNatClampNeg < 176 → A (s 117 8).toNatClampNeg)
def lz_o (A : Nat → Prop) (s t : jg_H) (o o' : jv_O jg_H) : Prop := match o with
  | none => True
  | some (.inl (pc, ls, st, s')) => ∃ t', o' = some (.inl (pc, ls, st, t')) ∧ lz_H A s' t' ∧ (∀ c j, ¬ A c → s' c j = s c j ∧ t' c j = t c j) ∧ lz_l A ls ∧ lz_s A st
  | some (.inr (.inl v)) => o' = some (.inr (.inl v)) ∧ ∀ x, v = some x → lz_v A x
  | some (.inr (.inr (k, pc, as, r))) => o' = some (.inr (.inr (k, pc, as, r))) ∧ lz_s A as ∧ lz_s A r
/-- the side is shut: no reference leads out of it -/
def lz_A (A : Nat → Prop) : Prop := ∀ c j, c < 176 → A c → jg_isr (jg_knd c).1 j = true → ¬ (c = 117 ∧ j = 8) → A (jg_rt c j)
section
variable {A : Nat → Prop} {s t : jg_H} {r : List Value}
theorem lz_cv {v : Value} (hv : lz_v A v) (h : lz_s A r) : lz_s A (v :: r) := fun w hw => by
  rcases List.mem_cons.mp hw with rfl | hw
  · exact hv
  · exact h w hw
theorem lz_ci {x : Int32} (h : lz_s A r) : lz_s A (.int x :: r) := lz_cv trivial h
theorem lz_cl {x : Int64} (h : lz_s A r) : lz_s A (.long x :: r) := lz_cv trivial h
theorem lz_big {c : Nat} (h : 176 ≤ c) : lz_v A (.ref c) := by
  show c < 176 → A c
  exact fun q => absurd q (by omega)
theorem lz_hd {v : Value} (h : lz_s A (v :: r)) : lz_v A v := h v List.mem_cons_self
theorem lz_tl {v : Value} (h : lz_s A (v :: r)) : lz_s A r := fun w hw => h w (List.mem_cons_of_mem _ hw)
theorem lz_go {pc : Nat} {ls : jv_L} {st : List Value} (hH : lz_H A s t) (hl : lz_l A ls) (hs : lz_s A st) : lz_o A s t (jv_go pc ls st s) (jv_go pc ls st t) :=
  ⟨t, rfl, hH, fun _ _ _ => ⟨rfl, rfl⟩, hl, hs⟩
theorem lz_i1 {st : List Value} {f g : Int32 → List Value → jv_O jg_H} (hs : lz_s A st) (k : ∀ x r, lz_s A r → lz_o A s t (f x r) (g x r)) : lz_o A s t (jv_i1 st f) (jv_i1 st g) := by
  unfold jv_i1
  split
  · exact k _ _ (lz_tl hs)
  · trivial
theorem lz_i2 {st : List Value} {f g : Int32 → Int32 → List Value → jv_O jg_H} (hs : lz_s A st) (k : ∀ x y r, lz_s A r → lz_o A s t (f x y r) (g x y r)) : lz_o A s t (jv_i2 st f) (jv_i2 st g) := by
  unfold jv_i2
  split
  · exact k _ _ _ (lz_tl (lz_tl hs))
  · trivial
theorem lz_l1 {st : List Value} {f g : Int64 → List Value → jv_O jg_H} (hs : lz_s A st) (k : ∀ x r, lz_s A r → lz_o A s t (f x r) (g x r)) : lz_o A s t (jv_l1 st f) (jv_l1 st g) := by
  unfold jv_l1
  split
  · exact k _ _ (lz_tl hs)
  · trivial
theorem lz_l2 {st : List Value} {f g : Int64 → Int64 → List Value → jv_O jg_H} (hs : lz_s A st) (k : ∀ x y r, lz_s A r → lz_o A s t (f x y r) (g x y r)) : lz_o A s t (jv_l2 st f) (jv_l2 st g) := by
  unfold jv_l2
  split
  · exact k _ _ _ (lz_tl (lz_tl hs))
  · trivial
theorem lz_li {st : List Value} {f g : Int64 → Int32 → List Value → jv_O jg_H} (hs : lz_s A st) (k : ∀ x y r, lz_s A r → lz_o A s t (f x y r) (g x y r)) : lz_o A s t (jv_li st f) (jv_li st g) := by
  unfold jv_li
  split
  · exact k _ _ _ (lz_tl (lz_tl hs))
  · trivial
theorem lz_r1 {st : List Value} {f g : Nat → List Value → jv_O jg_H} (hs : lz_s A st) (k : ∀ (x : Nat) r, lz_v A (.ref x) → lz_s A r → lz_o A s t (f x r) (g x r)) : lz_o A s t (jv_r1 st f) (jv_r1 st g) := by
  unfold jv_r1
  split
  · exact k _ _ (lz_hd hs) (lz_tl hs)
  · trivial
theorem lz_vr {st : List Value} {f g : Value → Nat → List Value → jv_O jg_H} (hs : lz_s A st) (k : ∀ v (x : Nat) r, lz_v A v → lz_v A (.ref x) → lz_s A r → lz_o A s t (f v x r) (g v x r)) : lz_o A s t (jv_vr st f) (jv_vr st g) := by
  unfold jv_vr
  split
  · exact k _ _ _ (lz_hd hs) (lz_hd (lz_tl hs)) (lz_tl (lz_tl hs))
  · trivial
theorem lz_ri {st : List Value} {f g : Nat → Int32 → List Value → jv_O jg_H} (hs : lz_s A st) (k : ∀ (x : Nat) i r, lz_v A (.ref x) → lz_s A r → lz_o A s t (f x i r) (g x i r)) : lz_o A s t (jv_ri st f) (jv_ri st g) := by
  unfold jv_ri
  split
  · exact k _ _ _ (lz_hd (lz_tl hs)) (lz_tl (lz_tl hs))
  · trivial
theorem lz_rii {st : List Value} {f g : Nat → Int32 → Int32 → List Value → jv_O jg_H} (hs : lz_s A st) (k : ∀ (x : Nat) i y r, lz_v A (.ref x) → lz_s A r → lz_o A s t (f x i y r) (g x i y r)) : lz_o A s t (jv_rii st f) (jv_rii st g) := by
  unfold jv_rii
  split
  · exact k _ _ _ _ (lz_hd (lz_tl (lz_tl hs))) (lz_tl (lz_tl (lz_tl hs)))
  · trivial
theorem lz_st {ls : jv_L} {i : Nat} {v : Value} {f g : jv_L → jv_O jg_H} (hl : lz_l A ls) (hv : lz_v A v) (k : ∀ l, lz_l A l → lz_o A s t (f l) (g l)) : lz_o A s t (jv_st ls i v f) (jv_st ls i v g) := by
  unfold jv_st
  split
  · rename_i hc
    refine k _ (fun j w hw => ?_)
    by_cases e : j = i
    · subst e
      rw [List.getElem?_set_self hc.1] at hw
      cases hw
      exact hv
    · rw [List.getElem?_set_ne (Ne.symm e)] at hw
      exact hl j w hw
  · trivial
theorem lz_ild {ls : jv_L} {i : Nat} {f g : Int32 → jv_O jg_H} (k : ∀ x, lz_o A s t (f x) (g x)) : lz_o A s t (jv_ild ls i f) (jv_ild ls i g) := by
  unfold jv_ild
  split
  · exact k _
  · trivial
theorem lz_lld {ls : jv_L} {i : Nat} {f g : Int64 → jv_O jg_H} (k : ∀ x, lz_o A s t (f x) (g x)) : lz_o A s t (jv_lld ls i f) (jv_lld ls i g) := by
  unfold jv_lld
  split
  · exact k _
  · trivial
theorem lz_ald {ls : jv_L} {i : Nat} {f g : Nat → jv_O jg_H} (hl : lz_l A ls) (k : ∀ (x : Nat), lz_v A (.ref x) → lz_o A s t (f x) (g x)) : lz_o A s t (jv_ald ls i f) (jv_ald ls i g) := by
  unfold jv_ald
  split
  · rename_i x hx
    exact k _ (hl _ _ hx)
  · trivial
theorem lz_if {c : Prop} [Decidable c] {f g f' g' : jv_O jg_H} (k : c → lz_o A s t f g) (k' : ¬ c → lz_o A s t f' g') : lz_o A s t (if c then f else f') (if c then g else g') := by
  by_cases h : c
  · rw [if_pos h, if_pos h]; exact k h
  · rw [if_neg h, if_neg h]; exact k' h
theorem lz_no {o : jv_O jg_H} : lz_o A s t none o := trivial
theorem lz_get {c j : Nat} (hA : lz_A A) (hH : lz_H A s t) (hc : c < 176) (ha : A c) : jg_get t c j = jg_get s c j ∧ lz_v A (jg_get s c j) := by
  unfold jg_get
  rw [hH.1 c j ha]
  refine ⟨rfl, ?_⟩
  rw [← hH.1 c j ha]
  by_cases h1 : jg_isr (jg_knd c).1 j = true
  · rw [if_pos h1]
    by_cases h2 : c = 117 ∧ j = 8
    · rw [if_pos h2]
      obtain ⟨rfl, rfl⟩ := h2
      exact fun q => hH.2 ha q
    · rw [if_neg h2]
      exact fun _ => hA c j hc ha h1 h2
  · rw [if_neg h1]
    trivial
theorem lz_up {c j : Nat} {x : Int32} (hH : lz_H A s t) (ha : A c) (hq : c = 117 ∧ j = 8 → x.toNatClampNeg < 176 → A x.toNatClampNeg) : lz_H A (jg_up s c j x) (jg_up t c j x) ∧ ∀ d i, ¬ A d → jg_up s c j x d i = s d i ∧ jg_up t c j x d i = t d i := by
  refine ⟨⟨fun d i hd => ?_, fun h1 => ?_⟩, fun d i hd => ?_⟩
  · unfold jg_up
    by_cases e : d = c ∧ i = j
    · rw [if_pos e, if_pos e]
    · rw [if_neg e, if_neg e]; exact hH.1 d i hd
  · unfold jg_up
    by_cases e : 117 = c ∧ 8 = j
    · rw [if_pos e]; exact hq ⟨e.1.symm, e.2.symm⟩
    · rw [if_neg e]; exact hH.2 h1
  · unfold jg_up
    have e : ¬ (d = c ∧ i = j) := fun q => hd (by rw [q.1]; exact ha)
    rw [if_neg e, if_neg e]
    exact ⟨rfl, rfl⟩
theorem lz_set {c j : Nat} {v : Value} {s' : jg_H} (hH : lz_H A s t) (ha : A c) (hv : lz_v A v) (h : jg_O.2.2.2.2.1 s c j v = some s') : ∃ t', jg_O.2.2.2.2.1 t c j v = some t' ∧ lz_H A s' t' ∧ ∀ d i, ¬ A d → s' d i = s d i ∧ t' d i = t d i := by
  cases v with
  | int x =>
    have h : (if jg_isr (jg_knd c).1 j = true then none else some (jg_up s c j x)) = some s' := h
    show ∃ t', (if jg_isr (jg_knd c).1 j = true then none else some (jg_up t c j x)) = some t' ∧ _
    by_cases q : jg_isr (jg_knd c).1 j = true
    · rw [if_pos q] at h; cases h
    · rw [if_neg q] at h ⊢
      cases h
      obtain ⟨w1, w2⟩ := lz_up (x := x) (j := j) hH ha (fun z => absurd (by rw [z.1, z.2]; decide) q)
      exact ⟨_, rfl, w1, w2⟩
  | ref k =>
    have h : (if c = 117 ∧ j = 8 ∧ k < 176 then some (jg_up s c j (Int32.ofNat k)) else none) = some s' := h
    show ∃ t', (if c = 117 ∧ j = 8 ∧ k < 176 then some (jg_up t c j (Int32.ofNat k)) else none) = some t' ∧ _
    by_cases q : c = 117 ∧ j = 8 ∧ k < 176
    · rw [if_pos q] at h ⊢
      cases h
      obtain ⟨w1, w2⟩ := lz_up (x := Int32.ofNat k) (j := j) hH ha (fun _ _ => by
        rw [show (Int32.ofNat k).toNatClampNeg = k from nI_clamp (n := k) (Nat.lt_of_lt_of_le q.2.2 (by decide))]
        exact hv q.2.2)
      exact ⟨_, rfl, w1, w2⟩
    · rw [if_neg q] at h; cases h
  | _ => cases h
theorem lz_pop : ∀ (n : Nat) {st as r' : List Value}, lz_s A st → jv_pop n st = some (as, r') → lz_s A as ∧ lz_s A r'
  | n, st, as, r', hs, h => by
    obtain ⟨e1, -⟩ := jv_pop_e _ _ _ _ h
    exact ⟨fun v hv => hs v (by rw [e1]; exact List.mem_append_left _ (List.mem_reverse.mpr hv)), fun v hv => hs v (by rw [e1]; exact List.mem_append_right _ hv)⟩
end
set_option maxHeartbeats 4000000 in
set_option maxRecDepth 4000 in
theorem lz_nxt {A : Nat → Prop} (hA : lz_A A) {G : jv_X} (hG : lz_v A G.2) {M : jv_MI} {e : jv_E} {ls : jv_L} {st : List Value} {s t : jg_H} (hH : lz_H A s t) (hl : lz_l A ls) (hs : lz_s A st) : lz_o A s t (jv_nxt jg_O G M e ls st s) (jv_nxt jg_O G M e ls st t) := by
  obtain ⟨pc, i, n, a, b, t0, u, z⟩ := e
  cases i
  case getfield ix =>
    simp only [jv_nxt]
    refine lz_r1 hs (fun c r hc hr => lz_if (fun h => lz_if (fun h2 => ?_) (fun _ => lz_no)) (fun h => lz_if (fun h1 => lz_if (fun h2 => ?_) (fun h2 => ?_)) (fun _ => lz_no)))
    · have hc1 : c < 176 := h
      obtain ⟨e1, e2⟩ := lz_get (j := b) hA hH hc1 (hc hc1)
      show lz_o A s t (jv_go (pc + n) ls (jg_get s c b :: r) s) (jv_go (pc + n) ls (jg_get t c b :: r) t)
      rw [e1]
      exact lz_go hH hl (lz_cv e2 hr)
    · have hc1 : ¬ c < 176 := h
      exact lz_go hH hl (lz_cv (lz_big (by omega)) hr)
    · exact lz_go hH hl (lz_ci hr)
  case putfield ix =>
    simp only [jv_nxt]
    refine lz_vr hs (fun v c r hv hc hr => lz_if (fun h => ?_) (fun _ => lz_no))
    cases hq : jg_O.2.2.2.2.1 s c b v with
    | none => exact lz_no
    | some s' =>
      obtain ⟨t', e2, w1, w2⟩ := lz_set hH (hc h.1) hv hq
      rw [e2]
      exact ⟨t', rfl, w1, w2, hl, hr⟩
  case iaload =>
    simp only [jv_nxt]
    refine lz_ri hs (fun c x r hc hr => lz_if (fun h => lz_if (fun h2 => ?_) (fun _ => lz_no)) (fun h => lz_if (fun h1 => lz_go hH hl (lz_ci hr)) (fun _ => lz_no)))
    have hc1 : c < 176 := h
    obtain ⟨e1, e2⟩ := lz_get (j := x.toNatClampNeg) hA hH hc1 (hc hc1)
    show lz_o A s t (jv_go (pc + n) ls (jg_get s c x.toNatClampNeg :: r) s) (jv_go (pc + n) ls (jg_get t c x.toNatClampNeg :: r) t)
    rw [e1]
    exact lz_go hH hl (lz_cv e2 hr)
  case baload =>
    simp only [jv_nxt]
    refine lz_ri hs (fun c x r hc hr => lz_if (fun h => lz_if (fun h2 => ?_) (fun _ => lz_no)) (fun h => lz_if (fun h1 => lz_go hH hl (lz_ci hr)) (fun _ => lz_no)))
    have hc1 : c < 176 := h
    obtain ⟨e1, e2⟩ := lz_get (j := x.toNatClampNeg) hA hH hc1 (hc hc1)
    show lz_o A s t (jv_go (pc + n) ls (jg_get s c x.toNatClampNeg :: r) s) (jv_go (pc + n) ls (jg_get t c x.toNatClampNeg :: r) t)
    rw [e1]
    exact lz_go hH hl (lz_cv e2 hr)
  case aaload =>
    simp only [jv_nxt]
    refine lz_ri hs (fun c x r hc hr => lz_if (fun h => ?_) (fun _ => lz_no))
    have hc1 : c < 176 := h.1
    obtain ⟨e1, e2⟩ := lz_get (j := x.toNatClampNeg) hA hH hc1 (hc hc1)
    show lz_o A s t (jv_go (pc + n) ls (jg_get s c x.toNatClampNeg :: r) s) (jv_go (pc + n) ls (jg_get t c x.toNatClampNeg :: r) t)
    rw [e1]
    exact lz_go hH hl (lz_cv e2 hr)
  case iastore =>
    simp only [jv_nxt]
    refine lz_rii hs (fun c x y r hc hr => lz_if (fun h => ?_) (fun _ => lz_no))
    cases hq : jg_O.2.2.2.2.1 s c x.toNatClampNeg (.int y) with
    | none => exact lz_no
    | some s' =>
      obtain ⟨t', e2, w1, w2⟩ := lz_set (v := .int y) hH (hc h.1) trivial hq
      rw [e2]
      exact ⟨t', rfl, w1, w2, hl, hr⟩
  case bastore =>
    simp only [jv_nxt]
    refine lz_rii hs (fun c x y r hc hr => lz_if (fun h => ?_) (fun _ => lz_no))
    cases hq : jg_O.2.2.2.2.1 s c x.toNatClampNeg (.int y) with
    | none => exact lz_no
    | some s' =>
      obtain ⟨t', e2, w1, w2⟩ := lz_set (v := .int y) hH (hc h.1) trivial hq
      rw [e2]
      exact ⟨t', rfl, w1, w2, hl, hr⟩
  case aastore =>
    simp only [jv_nxt, jv_rir]
    split
    · rename_i y x c r
      refine lz_if (fun h => ?_) (fun _ => lz_no)
      cases hq : jg_O.2.2.2.2.1 s c x.toNatClampNeg (.ref y) with
      | none => exact lz_no
      | some s' =>
        obtain ⟨t', e2, w1, w2⟩ := lz_set hH ((lz_hd (lz_tl (lz_tl hs))) h.1) (lz_hd hs) hq
        rw [e2]
        exact ⟨t', rfl, w1, w2, hl, lz_tl (lz_tl (lz_tl hs))⟩
    · exact lz_no
  case new ix => exact lz_no
  case newarray ix =>
    simp only [jv_nxt]
    exact lz_i1 hs (fun x r hr => lz_if (fun _ => lz_no) (fun _ => lz_no))
  case anewarray ix =>
    simp only [jv_nxt]
    exact lz_i1 hs (fun x r hr => lz_if (fun _ => lz_no) (fun _ => lz_no))
  case multianewarray ix d =>
    simp only [jv_nxt]
    exact lz_i2 hs (fun x y r hr => lz_if (fun _ => lz_no) (fun _ => lz_no))
  case arraylength =>
    simp only [jv_nxt]
    exact lz_r1 hs (fun c r hc hr => lz_if (fun h => lz_if (fun h2 => lz_go hH hl (lz_ci hr)) (fun _ => lz_no)) (fun h => lz_if (fun _ => lz_go hH hl (lz_ci hr)) (fun _ => lz_if (fun _ => lz_go hH hl (lz_ci hr)) (fun _ => lz_no))))
  case getstatic ix =>
    simp only [jv_nxt]
    exact lz_if (fun _ => lz_go hH hl (lz_ci hs)) (fun _ => lz_if (fun _ => lz_go hH hl (lz_cv hG hs)) (fun _ => lz_no))
  case ldc ix =>
    simp only [jv_nxt]
    exact lz_if (fun _ => lz_go hH hl (lz_ci hs)) (fun _ => lz_go hH hl (lz_cv (lz_big (by omega)) hs))
  case tableswitch d lo hi offs =>
    simp only [jv_nxt]
    refine lz_i1 hs (fun x r hr => lz_if (fun _ => lz_go hH hl hr) (fun _ => ?_))
    split
    · exact lz_go hH hl hr
    · exact lz_no
  case dup =>
    simp only [jv_nxt]
    split
    · exact lz_if (fun _ => lz_go hH hl (lz_cv (lz_hd hs) hs)) (fun _ => lz_no)
    · exact lz_no
  case dup2 =>
    simp only [jv_nxt]
    split
    · exact lz_if (fun _ => lz_go hH hl (lz_cv (lz_hd hs) (lz_cv (lz_hd (lz_tl hs)) hs))) (fun _ => lz_no)
    · exact lz_no
  case pop =>
    simp only [jv_nxt]
    split
    · exact lz_if (fun _ => lz_go hH hl (lz_tl hs)) (fun _ => lz_no)
    · exact lz_no
  case invokevirtual ix =>
    simp only [jv_nxt]
    cases hp : jv_pop z.toNat st with
    | none => exact lz_no
    | some x =>
      obtain ⟨as, r⟩ := x
      obtain ⟨p1, p2⟩ := lz_pop _ hs hp
      exact lz_r1 p2 (fun c r' hc hr => lz_if (fun _ => ⟨rfl, lz_cv hc p1, hr⟩) (fun _ => lz_no))
  case invokestatic ix =>
    simp only [jv_nxt]
    refine lz_if (fun _ => lz_i2 hs (fun x y r hr => lz_if (fun _ => lz_go hH hl (lz_ci hr)) (fun _ => lz_no))) (fun _ => ?_)
    cases hp : jv_pop z.toNat st with
    | none => exact lz_no
    | some x =>
      obtain ⟨as, r⟩ := x
      obtain ⟨p1, p2⟩ := lz_pop _ hs hp
      exact lz_if (fun _ => ⟨rfl, p1, p2⟩) (fun _ => lz_no)
  case invokespecial ix =>
    simp only [jv_nxt]
    cases hp : jv_pop z.toNat st with
    | none => exact lz_no
    | some x =>
      obtain ⟨as, r⟩ := x
      obtain ⟨p1, p2⟩ := lz_pop _ hs hp
      exact lz_r1 p2 (fun c r' hc hr => lz_if (fun _ => lz_if (fun _ => lz_go hH hl hr) (fun _ => ⟨rfl, lz_cv hc p1, hr⟩)) (fun _ => lz_no))
  case ireturn =>
    simp only [jv_nxt]
    split
    · exact lz_if (fun _ => ⟨rfl, fun x hx => by cases hx; trivial⟩) (fun _ => lz_no)
    · exact lz_no
  case lreturn =>
    simp only [jv_nxt]
    split
    · exact ⟨rfl, fun x hx => by cases hx; trivial⟩
    · exact lz_no
  case areturn =>
    simp only [jv_nxt]
    split
    · exact ⟨rfl, fun x hx => by cases hx; exact lz_hd hs⟩
    · exact lz_no
  case return_ =>
    simp only [jv_nxt]
    split
    · exact ⟨rfl, fun x hx => by cases hx⟩
    · exact lz_no
  case if_icmp cond off =>
    cases cond <;> (simp only [jv_nxt]; exact lz_i2 hs (fun x y r hr => lz_go hH hl hr))
  case ifCond cond off =>
    cases cond <;> (simp only [jv_nxt]; exact lz_i1 hs (fun x r hr => lz_go hH hl hr))
  all_goals first
    | exact lz_no
    | (simp only [jv_nxt]
       first
       | exact lz_go hH hl hs
       | exact lz_go hH hl (lz_ci hs)
       | exact lz_go hH hl (lz_cl hs)
       | exact lz_i1 hs (fun x r hr => lz_go hH hl (lz_ci hr))
       | exact lz_i1 hs (fun x r hr => lz_go hH hl (lz_cl hr))
       | exact lz_l1 hs (fun x r hr => lz_go hH hl (lz_ci hr))
       | exact lz_l1 hs (fun x r hr => lz_go hH hl hr)
       | exact lz_i2 hs (fun x y r hr => lz_go hH hl (lz_ci hr))
       | exact lz_l2 hs (fun x y r hr => lz_go hH hl (lz_cl hr))
       | exact lz_l2 hs (fun x y r hr => lz_go hH hl (lz_ci hr))
       | exact lz_li hs (fun x y r hr => lz_go hH hl (lz_cl hr))
       | exact lz_i2 hs (fun x y r hr => lz_if (fun _ => lz_no) (fun _ => lz_go hH hl (lz_ci hr)))
       | exact lz_ild (fun x => lz_go hH hl (lz_ci hs))
       | exact lz_lld (fun x => lz_go hH hl (lz_cl hs))
       | exact lz_ald hl (fun x hx => lz_go hH hl (lz_cv hx hs))
       | exact lz_i1 hs (fun x r hr => lz_st hl trivial (fun l hl => lz_go hH hl hr))
       | exact lz_r1 hs (fun x r hx hr => lz_st hl hx (fun l hl => lz_go hH hl hr))
       | exact lz_ild (fun x => lz_st hl trivial (fun l hl => lz_go hH hl hs)))
theorem lz_ent {A : Nat → Prop} {as : List Value} (n : Nat) (h : lz_s A as) : lz_l A (jv_ent n as) := by
  have hs : ∀ (vs : List Value) (i : Nat) (v : Value), (jv_sl vs)[i]? = some (some v) → v ∈ vs := by
    intro vs i v q
    have q := List.mem_of_getElem? q
    unfold jv_sl at q
    obtain ⟨w, hw, q⟩ := List.mem_flatMap.mp q
    by_cases hc : w.category = 2
    · rw [if_pos hc] at q
      rcases List.mem_cons.mp q with q | q
      · cases q; exact hw
      · rcases List.mem_cons.mp q with q | q
        · cases q
        · cases q
    · rw [if_neg hc] at q
      rcases List.mem_cons.mp q with q | q
      · cases q; exact hw
      · cases q
  intro i v q
  unfold jv_ent at q
  by_cases hlt : i < (jv_sl as).length
  · rw [List.getElem?_append_left hlt] at q
    exact h v (hs as i v q)
  · rw [List.getElem?_append_right (by omega)] at q
    have := List.eq_of_mem_replicate (List.mem_of_getElem? q)
    cases this
theorem lz_to {A : Nat → Prop} {v : Option Value} {r : List Value} (hv : ∀ x, v = some x → lz_v A x) (hr : lz_s A r) : lz_s A (v.toList ++ r) := by
  cases v with
  | none => exact hr
  | some x => exact lz_cv (hv x rfl) hr
/-- WHAT A CALL DOES ON A SHUT SIDE: it does the same over another heap that agrees with the first there, and leaves the other side alone -/
theorem lz_wp {A : Nat → Prop} (hA : lz_A A) {G : jv_X} (hG : lz_v A G.2) : ∀ (d k : Nat) (as : List Value) (s t : jg_H) (B : Option Value → jg_H → Prop), q_P G d k as s B → lz_H A s t → lz_s A as →
    q_P G d k as t (fun v t' => ∃ s', B v s' ∧ lz_H A s' t' ∧ (∀ c j, ¬ A c → s' c j = s c j ∧ t' c j = t c j) ∧ ∀ x, v = some x → lz_v A x)
  | 0, _, _, _, _, _, h, _, _ => h.elim
  | d + 1, k, as, s, t, B, h, hH, has => by
    obtain ⟨M, h1, h2, h3⟩ := h
    refine ⟨M, h1, h2, ?_⟩
    have h3 : q_W G d M B 0 (jv_ent M.2.2.2.1 as) [] s := h3
    show q_W G d M (fun v t' => ∃ s', B v s' ∧ lz_H A s' t' ∧ (∀ c j, ¬ A c → s' c j = s c j ∧ t' c j = t c j) ∧ ∀ x, v = some x → lz_v A x) 0 (jv_ent M.2.2.2.1 as) [] t
    have key := h3 (fun pc ls st s1 => ∀ t1, lz_H A s1 t1 → (∀ c j, ¬ A c → s1 c j = s c j ∧ t1 c j = t c j) → lz_l A ls → lz_s A st → q_W G d M (fun v t' => ∃ s', B v s' ∧ lz_H A s' t' ∧ (∀ c j, ¬ A c → s' c j = s c j ∧ t' c j = t c j) ∧ ∀ x, v = some x → lz_v A x) pc ls st t1) ?_
    · exact key t hH (fun _ _ _ => ⟨rfl, rfl⟩) (lz_ent _ has) (fun v hv => absurd hv List.not_mem_nil)
    · intro pc ls st s1 hs t1 hH1 hf1 hl1 hs1
      unfold jv_stp at hs
      refine jv_We_step ?_
      unfold jv_stp
      cases ha : jv_at M.2.2.2.2.2.2 pc with
      | none => simp only [ha] at hs
      | some e =>
        simp only [ha] at hs ⊢
        have hx := lz_nxt hA hG (M := M) (e := (pc, e)) hH1 hl1 hs1
        cases hn : jv_nxt jg_O G M (pc, e) ls st s1 with
        | none => simp only [hn] at hs
        | some o =>
          simp only [hn] at hs
          rw [hn] at hx
          match o, hs, hx with
          | .inl (pc', ls', st', s2), hs, hx =>
            obtain ⟨t2, e2, w1, w2, w3, w4⟩ := hx
            simp only [e2]
            exact ⟨hs.1, hs.2.1, hs.2.2 t2 w1 (fun c j hc => ⟨(w2 c j hc).1.trans (hf1 c j hc).1, (w2 c j hc).2.trans (hf1 c j hc).2⟩) w3 w4⟩
          | .inr (.inl v), hs, hx =>
            obtain ⟨e2, w1⟩ := hx
            simp only [e2]
            exact ⟨hs.1, hs.2.1, s1, hs.2.2, hH1, hf1, w1⟩
          | .inr (.inr (k', pc', as', r')), hs, hx =>
            obtain ⟨e2, w1, w2⟩ := hx
            simp only [e2]
            obtain ⟨mc, ms, q1, q2, q3⟩ := hs
            have hm : mc = 0 := by have : 176 + mc ≤ 176 + 0 := q1; omega
            have hms : ms = 0 := by have : 9491 + ms ≤ 9491 + 0 := q2; omega
            subst hm
            subst hms
            refine ⟨0, 0, q1, q2, ?_⟩
            have := lz_wp hA hG d k' as' s1 t1 _ q3 hH1 w1
            refine q_mono (fun v t' hv => ?_) this
            obtain ⟨s', b1, b2, b3, b4⟩ := hv
            exact b1 t' b2 (fun c j hc => ⟨(b3 c j hc).1.trans (hf1 c j hc).1, (b3 c j hc).2.trans (hf1 c j hc).2⟩) hl1 (lz_to b4 w2)
/-- a call that comes to its end comes to an end -/
theorem lz_ex {G : jv_X} : ∀ (d k : Nat) (as : List Value) (s : jg_H) (B : Option Value → jg_H → Prop), q_P G d k as s B → ∃ v s', B v s'
  | 0, _, _, _, _, h => h.elim
  | d + 1, k, as, s, B, h => by
    obtain ⟨M, h1, h2, h3⟩ := h
    refine h3 (fun _ _ _ _ => ∃ v s', B v s') (fun pc ls st s1 hs => ?_)
    unfold jv_stp at hs
    cases ha : jv_at M.2.2.2.2.2.2 pc with
    | none => simp only [ha] at hs
    | some e =>
      simp only [ha] at hs
      cases hn : jv_nxt jg_O G M (pc, e) ls st s1 with
      | none => simp only [hn] at hs
      | some o =>
        simp only [hn] at hs
        match o, hs with
        | .inl _, hs => exact hs.2.2
        | .inr (.inl v), hs => exact ⟨v, s1, hs.2.2⟩
        | .inr (.inr (k', pc', as', r')), hs =>
          obtain ⟨mc, ms, q1, q2, q3⟩ := hs
          have hm : mc = 0 := by have : 176 + mc ≤ 176 + 0 := q1; omega
          have hms : ms = 0 := by have : 9491 + ms ≤ 9491 + 0 := q2; omega
          subst hm
          subst hms
          obtain ⟨v, s', q⟩ := lz_ex d k' as' s1 _ q3
          exact q
def lz_C (c : Nat) : Prop := c < 146
def lz_M (c : Nat) : Prop := 146 ≤ c
theorem lz_AC : lz_A lz_C := by
  have h : ∀ c : Nat, c < 146 → ∀ x ∈ jg_refs.getD c [], x < 146 := by decide +kernel
  intro c j hc ha _ _
  show jg_rt c j < 146
  unfold jg_rt
  rw [List.getD_eq_getElem?_getD]
  cases e : (jg_refs.getD c [])[j]? with
  | none => exact (by decide : 0 < 146)
  | some x => exact h c ha x (List.mem_of_getElem? e)
theorem lz_AM : lz_A lz_M := by
  have h1 : ∀ c : Nat, c < 176 → 147 ≤ c → (jg_knd c).1 = 13 ∨ (jg_knd c).1 = 14 := by decide +kernel
  have h2 : ∀ j : Nat, j < 59 → jg_isr 12 j = true → 146 ≤ jg_rt 146 j := by decide +kernel
  intro c j hc ha hi _
  have ha : 146 ≤ c := ha
  by_cases e : c = 146
  · subst e
    have hk : (jg_knd 146).1 = 12 := by decide +kernel
    rw [hk] at hi
    refine h2 j ?_ hi
    simp only [jg_isr, Bool.or_eq_true, beq_iff_eq] at hi
    omega
  · rcases h1 c hc (by omega) with q | q
    · rw [q] at hi; cases hi
    · rw [q] at hi; cases hi
/-- what the class's cells alone can say, and what the reference's cells alone can say -/
def lz_KC (s : jg_H) : Prop := ∃ u, Inv u ∧ lz_H lz_C u s
def lz_KM (s : jg_H) : Prop := ∃ u, Inv u ∧ lz_H lz_M u s
theorem lz_HM {s t : jg_H} (h : ∀ c j, 146 ≤ c → s c j = t c j) : lz_H lz_M s t := ⟨h, fun q => absurd (show 146 ≤ 117 from q) (by decide)⟩
theorem lz_kc {G : jv_X} (hG : ∀ A, lz_v A G.2) {d k km : Nat} {as am : List Value} (ha : lz_s lz_C as) (hm : lz_s lz_M am) (hst : ∀ u, Inv u → q_P G d k as u (fun r s' => q_P G d km am s' (fun r' s'' => r = r' ∧ Inv s''))) {s : jg_H} (hK : lz_KC s) : q_P G d k as s (fun _ s' => lz_KC s' ∧ ∀ c j, 146 ≤ c → s' c j = s c j) := by
  obtain ⟨u, hI, hH⟩ := hK
  refine q_mono (fun v s' h => ?_) (lz_wp lz_AC (hG _) d k as u s _ (hst u hI) hH ha)
  obtain ⟨u', h1, h2, h3, -⟩ := h
  obtain ⟨v', t', w, ⟨-, hw⟩, -, hf, -⟩ := lz_ex _ _ _ _ _ (lz_wp lz_AM (hG _) d km am u' u' _ h1 (lz_HM fun _ _ _ => rfl) hm)
  have e : ∀ c j, c < 146 → w c j = u' c j := fun c j hc => (hf c j (fun q => absurd (show 146 ≤ c from q) (by omega))).1
  refine ⟨⟨w, hw, fun c j hc => (e c j hc).trans (h2.1 c j hc), fun hc => ?_⟩, fun c j hc => (h3 c j (fun q => absurd (show c < 146 from q) (by omega))).2⟩
  rw [e 117 8 (by decide)]
  exact h2.2 hc
theorem lz_km {G : jv_X} (hG : ∀ A, lz_v A G.2) {d k km : Nat} {as am : List Value} (ha : lz_s lz_C as) (hm : lz_s lz_M am) (hst : ∀ u, Inv u → q_P G d k as u (fun r s' => q_P G d km am s' (fun r' s'' => r = r' ∧ Inv s''))) (hI8 : ∀ u, Inv u → ∃ u0, Inv u0 ∧ (∀ c j, 146 ≤ c → u0 c j = u c j) ∧ lz_H lz_C u0 u0) {s : jg_H} (hK : lz_KM s) : q_P G d km am s (fun _ s' => lz_KM s' ∧ ∀ c j, c < 146 → s' c j = s c j) := by
  obtain ⟨u, hI, hH⟩ := hK
  obtain ⟨u0, hI0, e0, hC⟩ := hI8 u hI
  obtain ⟨v, t', u', h1, -, hf, -⟩ := lz_ex _ _ _ _ _ (lz_wp lz_AC (hG _) d k as u0 u0 _ (hst u0 hI0) hC ha)
  have e : ∀ c j, 146 ≤ c → u' c j = s c j := fun c j hc => ((hf c j (fun q => absurd (show c < 146 from q) (by omega))).1.trans (e0 c j hc)).trans (hH.1 c j hc)
  refine q_mono (fun v' s' h => ?_) (lz_wp lz_AM (hG _) d km am u' s _ h1 (lz_HM e) hm)
  obtain ⟨w, ⟨-, hw⟩, h2, h3, -⟩ := h
  exact ⟨⟨w, hw, h2⟩, fun c j hc => (h3 c j (fun q => absurd (show 146 ≤ c from q) (by omega))).2⟩
/-- the rule turned round, and two ends of one call put together -/
theorem lz_un {G : jv_X} {d : Nat} {M : jv_MI} {B : Option Value → jg_H → Prop} {pc : Nat} {ls : jv_L} {st : List Value} {s : jg_H} (h : q_W G d M B pc ls st s) : jv_stp jg_O G (jv_wp jg_O G d) M 176 9491 0 0 B (q_W G d M B) pc ls st s :=
  h (jv_stp jg_O G (jv_wp jg_O G d) M 176 9491 0 0 B (q_W G d M B)) (fun pc ls st s hs => jv_stp_mono (jv_wp_mono d) (fun _ _ q => q) (fun _ _ _ _ q => jv_We_step q) hs)
theorem lz_and {G : jv_X} : ∀ (d k : Nat) (as : List Value) (s : jg_H) (B C : Option Value → jg_H → Prop), q_P G d k as s B → q_P G d k as s C → q_P G d k as s (fun v s' => B v s' ∧ C v s')
  | 0, _, _, _, _, _, h, _ => h.elim
  | d + 1, k, as, s, B, C, h, g => by
    obtain ⟨M, h1, h2, h3⟩ := h
    obtain ⟨N, g1, g2, g3⟩ := g
    cases h1.symm.trans g1
    refine ⟨M, h1, h2, ?_⟩
    have h3 : q_W G d M B 0 (jv_ent M.2.2.2.1 as) [] s := h3
    have key := h3 (fun pc ls st s => q_W G d M C pc ls st s → q_W G d M (fun v s' => B v s' ∧ C v s') pc ls st s) ?_
    · exact key g3
    · intro pc ls st s hs gs
      have gs := lz_un gs
      unfold jv_stp at hs gs
      refine jv_We_step ?_
      unfold jv_stp
      cases ha : jv_at M.2.2.2.2.2.2 pc with
      | none => simp only [ha] at hs
      | some e =>
        simp only [ha] at hs gs ⊢
        cases hn : jv_nxt jg_O G M (pc, e) ls st s with
        | none => simp only [hn] at hs
        | some o =>
          simp only [hn] at hs gs ⊢
          match o, hs, gs with
          | .inl (pc', ls', st', s2), hs, gs => exact ⟨hs.1, hs.2.1, hs.2.2 gs.2.2⟩
          | .inr (.inl v), hs, gs => exact ⟨hs.1, hs.2.1, hs.2.2, gs.2.2⟩
          | .inr (.inr (k', pc', as', r')), hs, gs =>
            obtain ⟨mc, ms, q1, q2, q3⟩ := hs
            obtain ⟨mc', ms', p1, p2, p3⟩ := gs
            have hm : mc = 0 := by have : 176 + mc ≤ 176 + 0 := q1; omega
            have hms : ms = 0 := by have : 9491 + ms ≤ 9491 + 0 := q2; omega
            have pm : mc' = 0 := by have : 176 + mc' ≤ 176 + 0 := p1; omega
            have pms : ms' = 0 := by have : 9491 + ms' ≤ 9491 + 0 := p2; omega
            subst hm hms pm pms
            refine ⟨0, 0, q1, q2, ?_⟩
            exact q_mono (fun v s' q => q.1 q.2) (lz_and d k' as' s _ _ q3 p3)
theorem lz_i8 (u : jg_H) (hI : Inv u) : ∃ u0, Inv u0 ∧ (∀ c j, 146 ≤ c → u0 c j = u c j) ∧ lz_H lz_C u0 u0 := by
  have f : ∀ k, ¬ g_of 117 8 = k → f_same k u (jg_up u 117 8 93) := fun k h => fs_up fs_refl h
  refine ⟨jg_up u 117 8 93, Inv_fr hI (f 1 (by decide)) (f 2 (by decide)) (f 3 (by decide)) (f 4 (by decide)) (f 5 (by decide)) (f 6 (by decide)) (f 7 (by decide)) (f 8 (by decide)) (f 9 (by decide)) (f 10 (by decide)), fun c j hc => ?_, fun _ _ _ => rfl, fun _ => ?_⟩
  · unfold jg_up
    rw [if_neg (by omega)]
  · unfold jg_up
    rw [if_pos ⟨rfl, rfl⟩]
    exact fun _ => (by decide : (93 : Int32).toNatClampNeg < 146)
/-- a step, turned into two one-sided ones -/
theorem lz_km' {G : jv_X} (hG : ∀ A, lz_v A G.2) {d k km : Nat} {as am : List Value} (ha : lz_s lz_C as) (hm : lz_s lz_M am) (hst : ∀ u, Inv u → q_P G d k as u (fun r s' => q_P G d km am s' (fun r' s'' => r = r' ∧ Inv s''))) {s : jg_H} (hK : lz_KM s) : q_P G d km am s (fun _ s' => lz_KM s' ∧ ∀ c j, c < 146 → s' c j = s c j) :=
  lz_km hG ha hm hst lz_i8 hK
theorem lz_KC_of {s t : jg_H} (h : lz_KC s) (e : ∀ c j, c < 146 → t c j = s c j) : lz_KC t := by
  obtain ⟨u, hI, h1, h2⟩ := h
  exact ⟨u, hI, fun c j hc => (h1 c j hc).trans (e c j hc).symm, h2⟩
theorem lz_KM_of {s t : jg_H} (h : lz_KM s) (e : ∀ c j, 146 ≤ c → t c j = s c j) : lz_KM t := by
  obtain ⟨u, hI, h1, h2⟩ := h
  exact ⟨u, hI, fun c j hc => (h1 c j hc).trans (e c j hc).symm, h2⟩
/-- a pair of calls where nothing is compared: both come to an end, and each side still stands -/
theorem lz_pair {G : jv_X} (hG : ∀ A, lz_v A G.2) {d k km : Nat} {as am : List Value} (ha : lz_s lz_C as) (hm : lz_s lz_M am) (hst : ∀ u, Inv u → q_P G d k as u (fun r s' => q_P G d km am s' (fun r' s'' => r = r' ∧ Inv s''))) {s : jg_H} (h1 : lz_KC s) (h2 : lz_KM s) :
    q_P G d k as s (fun _ s' => q_P G d km am s' (fun _ s'' => lz_KC s'' ∧ lz_KM s'')) := by
  refine q_mono (fun v s' h => ?_) (lz_kc hG ha hm hst h1)
  refine q_mono (fun v' s'' g => ?_) (lz_km' hG ha hm hst (lz_KM_of h2 h.2))
  exact ⟨lz_KC_of h.1 g.2, g.1⟩
