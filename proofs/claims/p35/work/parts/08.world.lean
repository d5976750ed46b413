/-! the small machine's world in the machine's heap -/
def jv_Ok {η : Type} (O : jv_Ops η) : Prop :=
  (∀ h, O.1 h ≤ 1000000) ∧
  (∀ h c j v h', O.2.2.2.2.1 h c j v = some h' → c < O.1 h → O.1 h' = O.1 h ∧ O.2.1 h' = O.2.1 h ∧ (∀ d, O.2.2.1 h' d = O.2.2.1 h d) ∧ ∀ d i, O.2.2.2.1 h' d i = if d = c ∧ i = j then v else O.2.2.2.1 h d i) ∧
  (∀ h k n f h', O.2.2.2.2.2.1 h k n f = some h' → O.1 h' = O.1 h + 1 ∧ O.2.1 h' = O.2.1 h + n ∧ O.2.2.1 h' (O.1 h) = (k, n) ∧ (∀ j, j < n → O.2.2.2.1 h' (O.1 h) j = f j) ∧ ∀ d, d < O.1 h → O.2.2.1 h' d = O.2.2.1 h d ∧ ∀ j, O.2.2.2.1 h' d j = O.2.2.2.1 h d j) ∧
  (∀ h n k h', O.2.2.2.2.2.2 h n k = some h' → O.1 h' = O.1 h + 1 + n ∧ O.2.1 h' = O.2.1 h + n + n * k ∧ O.2.2.1 h' (O.1 h) = (15, n) ∧ (∀ j, j < n → O.2.2.2.1 h' (O.1 h) j = .ref (O.1 h + 1 + j)) ∧ (∀ i, i < n → O.2.2.1 h' (O.1 h + 1 + i) = (13, k) ∧ ∀ j, j < k → O.2.2.2.1 h' (O.1 h + 1 + i) j = .int 0) ∧ ∀ d, d < O.1 h → O.2.2.1 h' d = O.2.2.1 h d ∧ ∀ j, O.2.2.2.1 h' d j = O.2.2.2.1 h d j)
def jv_cv (base : Nat) (cst : Nat → Nat) (v : Value) : Value := match v with
  | .ref k => .ref (if k < 1000000 then base + k else cst (k - 1000000))
  | v => v
def jv_cel (D : va_G) (tc : Nat → ClassId) (kd : Nat × Nat) (q : Nat) (f : Nat → Value) (H : Heap) : Prop := match vwCl[kd.1]? with
  | some r => t_OB q (D.1 kd.1) r.2.2 (D.2 kd.1) H f
  | none => H[q]? = some (arrV (tc kd.1) kd.2 f)
def jv_Rep {η : Type} (O : jv_Ops η) (D : va_G) (tc : Nat → ClassId) (base : Nat) (cst : Nat → Nat) (h : η) (H : Heap) : Prop :=
  H.size = base + O.1 h ∧ ∀ c, c < O.1 h → jv_cel D tc (O.2.2.1 h c) (base + c) (fun j => jv_cv base cst (O.2.2.2.1 h c j)) H
def jv_own : Nat → String := fun i => match i with
  | 0 => "HouseCalendar"
  | _ => "HouseCalendar$Reader"
def jv_ix : Nat → Nat := fun i => match i with
  | 0 => 96
  | _ => 104
def jv_tx : Nat → String := fun i => match i with
  | 0 => "rank kind ; may 1 ; pass no < yes ; quorum members < there + there ;"
  | _ => "kind    depth   minute  party   there   members yes     no      rank    may     pass    quorum  or      and     not     "
def jv_Cst (base : Nat) (cst : Nat → Nat) (G : jv_X) (H0 : Heap) (s : State) : Prop :=
  base = H0.size ∧ cst 0 < base ∧ va_X (cst 0) G.1.1 G.1.2 s H0 ∧ G.1.1 < 2 ^ 31 ∧
  (∀ i, i < 2 → vk_R (jv_own i) (jv_ix i) (jv_tx i) (cst (1 + i)) s ∧ va_O "java/lang/String" (cst (1 + i)) (fun q => base ≤ q) s H0 ∧ va_OF "java/lang/String" "coder" "B" (.int 0) (cst (1 + i)) (fun q => base ≤ q) s H0 ∧
    va_OF "java/lang/String" "value" "[B" (.ref (cst (3 + i))) (cst (1 + i)) (fun q => base ≤ q) s H0 ∧ va_T .byte (cst (3 + i)) (jv_sb (1000003 + i)).length (fun j => .int ((jv_sb (1000003 + i)).getD j 0)) (fun q => base ≤ q) s H0) ∧
  va_Z "java/lang/String" "COMPACT_STRINGS" "Z" (.int 1) (fun q => base ≤ q) s H0 ∧ va_Z "jdk/internal/util/Preconditions" "SIOOBE_FORMATTER" "Ljava/util/function/BiFunction;" (jv_cv base cst G.2) (fun q => base ≤ q) s H0
def jv_AOA (s : State) : Prop := (Cond.arrayOver (.array .int)).before #[] s = true
def jv_K (D : va_G) (tc : Nat → ClassId) (base : Nat) (cst : Nat → Nat) (G : jv_X) (H0 : Heap) (s : State) : Prop :=
  va_K D vwCl [] s ∧ (∀ k, 13 ≤ k → k < 21 → ArrOfT s (tc k) (jv_aty k) ∧ va_RA s (tc k) (jv_aty k)) ∧ (∀ a i x h, Cond.methodLinkNest a i x h ∈ jv_nest → va_Nw (.methodLinkNest a i x h) s) ∧
  (∀ k r, vwCl[jv_el k]? = some r → 16 ≤ k → k < 21 → va_AO r.1 s) ∧ jv_AOA s ∧ jv_Cst base cst G H0 s
theorem jv_K_warm {D : va_G} {tc : Nat → ClassId} {base : Nat} {cst : Nat → Nat} {G : jv_X} {H0 : Heap} {s U : State} (hW : s.WarmedH U.vm) (h : jv_K D tc base cst G H0 s) : jv_K D tc base cst G H0 U := by
  obtain ⟨h1, h2, h3, h4, h5, b1, b2, b3, b4, b5, b6, b7⟩ := h
  have hvm := hW.alike
  refine ⟨va_K.moved hvm h1, fun k a b => ⟨arrOfT_moved hvm (h2 k a b).1, (h2 k a b).2.moved hvm⟩, fun a i x h w => va_Nw.warmM hW (h3 a i x h w), fun k r a b c => va_AO.moved hvm (h4 k r a b c), ?_, b1, b2, b3.moved hvm, b4, fun i hi => ?_, b6.moved hvm, b7.moved hvm⟩
  · have e : (Cond.arrayOver (.array .int)).before #[] (s.setVm U.vm) = (Cond.arrayOver (.array .int)).before #[] s := Cond.arrayOver_setVmC hvm _
    exact e.trans h5
  · obtain ⟨q1, q2, q3, q4, q5⟩ := b5 i hi
    exact ⟨q1.warm hW, q2.moved hvm, q3.moved hvm, q4.moved hvm, q5.moved hvm⟩
theorem jv_K_same {D : va_G} {tc : Nat → ClassId} {base : Nat} {cst : Nat → Nat} {G : jv_X} {H0 : Heap} {s U : State} (hv : U.vm = s.vm) (h : jv_K D tc base cst G H0 s) : jv_K D tc base cst G H0 U := by
  obtain ⟨h1, h2, h3, h4, h5, b1, b2, b3, b4, b5, b6, b7⟩ := h
  have hvm : s.vm.Alike U.vm := by rw [hv]; exact Vm.Alike.refl _
  refine ⟨va_K.moved hvm h1, fun k a b => ⟨arrOfT_moved hvm (h2 k a b).1, (h2 k a b).2.moved hvm⟩, fun a i x h w => va_Nw.same rfl hv.symm (h3 a i x h w), fun k r a b c => va_AO.moved hvm (h4 k r a b c), ?_, b1, b2, b3.moved hvm, b4, fun i hi => ?_, b6.moved hvm, b7.moved hvm⟩
  · have e : (Cond.arrayOver (.array .int)).before #[] (s.setVm U.vm) = (Cond.arrayOver (.array .int)).before #[] s := Cond.arrayOver_setVmC hvm _
    exact e.trans h5
  · obtain ⟨q1, q2, q3, q4, q5⟩ := b5 i hi
    exact ⟨q1.same hv, q2.moved hvm, q3.moved hvm, q4.moved hvm, q5.moved hvm⟩
/-! locals -/
def jv_LR (base : Nat) (cst : Nat → Nat) (lm : Array Slot) (nL : Nat) (ls : jv_L) : Prop := lm.size = nL ∧ ls.length = nL ∧ lv_wf lm ∧ ∀ (i : Nat) (v : Value), ls[i]? = some (some v) → lm[i]? = some (Slot.val (jv_cv base cst v))
def jv_al (base : Nat) (cst : Nat → Nat) (ls : jv_L) : List (Nat × Value) := (List.range ls.length).filterMap (fun i => match ls[i]? with
  | some (some v) => some (i, jv_cv base cst v)
  | _ => none)
theorem jv_al_in {base : Nat} {cst : Nat → Nat} {ls : jv_L} {q : Nat × Value} : q ∈ jv_al base cst ls ↔ ∃ v, ls[q.1]? = some (some v) ∧ q.2 = jv_cv base cst v := by
  unfold jv_al
  rw [List.mem_filterMap]
  constructor
  · rintro ⟨i, -, h⟩
    split at h
    · rename_i v hv
      cases h
      exact ⟨v, hv, rfl⟩
    · cases h
  · rintro ⟨v, h1, h2⟩
    refine ⟨q.1, List.mem_range.mpr (List.getElem?_eq_some_iff.mp h1).1, ?_⟩
    rw [h1]
    show some (q.1, jv_cv base cst v) = some q
    rw [← h2]
theorem jv_LR_has {base : Nat} {cst : Nat → Nat} {lm : Array Slot} {nL : Nat} {ls : jv_L} (h : jv_LR base cst lm nL ls) : lv_has lm nL (jv_al base cst ls) := by
  refine ⟨h.1, h.2.2.1, fun q hq => ?_⟩
  obtain ⟨v, h1, h2⟩ := jv_al_in.mp hq
  rw [h2]
  exact h.2.2.2 q.1 v h1
theorem jv_cv_cat {base : Nat} {cst : Nat → Nat} (v : Value) : (jv_cv base cst v).category = v.category := by cases v <;> rfl
theorem jv_LR_set {base : Nat} {cst : Nat → Nat} {lm' : Array Slot} {nL i : Nat} {ls : jv_L} {v x : Value} (hl : ls.length = nL) (hi : i < ls.length) (hf : jv_fr ls i = true) (hx : x = jv_cv base cst v)
    (h : lv_has lm' nL ((i, x) :: (jv_al base cst ls).filter (fun q => !(q.1 == i) && !(q.1 + 1 == i && q.2.category == 2)))) : jv_LR base cst lm' nL (ls.set i (some v)) := by
  refine ⟨h.1, by rw [List.length_set]; exact hl, h.2.1, fun j w hj => ?_⟩
  by_cases e : j = i
  · subst e
    rw [List.getElem?_set_self hi] at hj
    cases hj
    rw [← hx]
    exact h.2.2 (j, x) List.mem_cons_self
  · rw [List.getElem?_set_ne (Ne.symm e)] at hj
    refine h.2.2 (j, jv_cv base cst w) (List.mem_cons_of_mem _ (List.mem_filter.mpr ⟨jv_al_in.mpr ⟨w, hj, rfl⟩, ?_⟩))
    have e1 : (j == i) = false := beq_eq_false_iff_ne.mpr e
    simp only [e1, Bool.not_false, Bool.true_and, Bool.not_eq_true', Bool.and_eq_false_iff]
    by_cases e2 : j + 1 = i
    · right
      rw [jv_cv_cat]
      subst e2
      simp only [jv_fr, hj] at hf
      cases w <;> first | rfl | simp at hf
    · left
      exact beq_eq_false_iff_ne.mpr e2
def jv_sl (vs : List Value) : jv_L := vs.flatMap fun v => if v.category = 2 then [some v, none] else [some v]
def jv_ent (nL : Nat) (vs : List Value) : jv_L := jv_sl vs ++ List.replicate (nL - (jv_sl vs).length) none
theorem jv_sl_len {base : Nat} {cst : Nat → Nat} (vs : List Value) : (lg_sl (vs.map (jv_cv base cst))).length = (jv_sl vs).length := by
  induction vs with
  | nil => rfl
  | cons v vs ih =>
    simp only [lg_sl, jv_sl, List.map_cons, List.flatMap_cons, List.length_append] at ih ⊢
    rw [ih, jv_cv_cat]
    by_cases h : v.category = 2 <;> simp [h]
theorem jv_sl_in {base : Nat} {cst : Nat → Nat} (vs : List Value) : ∀ (o i : Nat) (v : Value), (jv_sl vs)[i]? = some (some v) → (o + i, jv_cv base cst v) ∈ lv_args o (vs.map (jv_cv base cst)) := by
  induction vs with
  | nil => intro o i v h; simp [jv_sl] at h
  | cons w vs ih =>
    intro o i v h
    simp only [List.map_cons, lv_args, jv_cv_cat]
    by_cases hc : w.category = 2
    · simp only [jv_sl, List.flatMap_cons, hc, if_true] at h ⊢
      match i, h with
      | 0, h => simp at h; rw [h]; exact List.mem_cons_self
      | 1, h => simp at h
      | i + 2, h =>
        refine List.mem_cons_of_mem _ ?_
        have := ih (o + 2) i v (by simpa [jv_sl] using h)
        rw [show o + (i + 2) = o + 2 + i by omega]
        exact this
    · simp only [jv_sl, List.flatMap_cons, hc, if_false] at h ⊢
      match i, h with
      | 0, h => simp at h; rw [h]; exact List.mem_cons_self
      | i + 1, h =>
        refine List.mem_cons_of_mem _ ?_
        have := ih (o + 1) i v (by simpa [jv_sl] using h)
        rw [show o + (i + 1) = o + 1 + i by omega]
        exact this
theorem jv_LR_entry {base : Nat} {cst : Nat → Nat} (vs : List Value) {nL : Nat} (h : (jv_sl vs).length ≤ nL) :
    jv_LR base cst ((lg_sl (vs.map (jv_cv base cst)) ++ List.replicate (nL - (lg_sl (vs.map (jv_cv base cst))).length) Slot.unset).toArray) nL (jv_ent nL vs) := by
  have hl := lv_entry (vs.map (jv_cv base cst)) (n := nL) (by rw [jv_sl_len]; exact h)
  refine ⟨hl.1, by simp [jv_ent]; omega, hl.2.1, fun i v hi => ?_⟩
  unfold jv_ent at hi
  by_cases hlt : i < (jv_sl vs).length
  · rw [List.getElem?_append_left hlt] at hi
    have := jv_sl_in (base := base) (cst := cst) vs 0 i v hi
    rw [Nat.zero_add] at this
    exact hl.2.2 _ this
  · rw [List.getElem?_append_right (by omega)] at hi
    have := List.eq_of_mem_replicate (List.mem_of_getElem? hi)
    cases this
/-! the rows' helpers turned round -/
section
variable {η : Type} {st : List Value} {o : (Nat × jv_L × List Value × η) ⊕ (Option Value) ⊕ (Nat × Nat × List Value × List Value)}
theorem jv_i1_e {f : Int32 → List Value → jv_O η} (h : jv_i1 st f = some o) : ∃ x r, st = .int x :: r ∧ f x r = some o := by
  unfold jv_i1 at h; split at h
  · exact ⟨_, _, rfl, h⟩
  · cases h
theorem jv_i2_e {f : Int32 → Int32 → List Value → jv_O η} (h : jv_i2 st f = some o) : ∃ x y r, st = .int y :: .int x :: r ∧ f x y r = some o := by
  unfold jv_i2 at h; split at h
  · exact ⟨_, _, _, rfl, h⟩
  · cases h
theorem jv_l1_e {f : Int64 → List Value → jv_O η} (h : jv_l1 st f = some o) : ∃ x r, st = .long x :: r ∧ f x r = some o := by
  unfold jv_l1 at h; split at h
  · exact ⟨_, _, rfl, h⟩
  · cases h
theorem jv_l2_e {f : Int64 → Int64 → List Value → jv_O η} (h : jv_l2 st f = some o) : ∃ x y r, st = .long y :: .long x :: r ∧ f x y r = some o := by
  unfold jv_l2 at h; split at h
  · exact ⟨_, _, _, rfl, h⟩
  · cases h
theorem jv_li_e {f : Int64 → Int32 → List Value → jv_O η} (h : jv_li st f = some o) : ∃ x y r, st = .int y :: .long x :: r ∧ f x y r = some o := by
  unfold jv_li at h; split at h
  · exact ⟨_, _, _, rfl, h⟩
  · cases h
theorem jv_r1_e {f : Nat → List Value → jv_O η} (h : jv_r1 st f = some o) : ∃ (x : Nat) (r : List Value), st = .ref x :: r ∧ f x r = some o := by
  unfold jv_r1 at h; split at h
  · exact ⟨_, _, rfl, h⟩
  · cases h
theorem jv_vr_e {f : Value → Nat → List Value → jv_O η} (h : jv_vr st f = some o) : ∃ (v : Value) (x : Nat) (r : List Value), st = v :: .ref x :: r ∧ f v x r = some o := by
  unfold jv_vr at h; split at h
  · exact ⟨_, _, _, rfl, h⟩
  · cases h
theorem jv_ri_e {f : Nat → Int32 → List Value → jv_O η} (h : jv_ri st f = some o) : ∃ (x : Nat) (i : Int32) (r : List Value), st = .int i :: .ref x :: r ∧ f x i r = some o := by
  unfold jv_ri at h; split at h
  · exact ⟨_, _, _, rfl, h⟩
  · cases h
theorem jv_rii_e {f : Nat → Int32 → Int32 → List Value → jv_O η} (h : jv_rii st f = some o) : ∃ (c : Nat) (i : Int32) (x : Int32) (r : List Value), st = .int x :: .int i :: .ref c :: r ∧ f c i x r = some o := by
  unfold jv_rii at h; split at h
  · exact ⟨_, _, _, _, rfl, h⟩
  · cases h
theorem jv_rir_e {f : Nat → Int32 → Nat → List Value → jv_O η} (h : jv_rir st f = some o) : ∃ (c : Nat) (i : Int32) (x : Nat) (r : List Value), st = .ref x :: .int i :: .ref c :: r ∧ f c i x r = some o := by
  unfold jv_rir at h; split at h
  · exact ⟨_, _, _, _, rfl, h⟩
  · cases h
theorem jv_st_e {ls : jv_L} {i : Nat} {v : Value} {f : jv_L → jv_O η} (h : jv_st ls i v f = some o) : (i < ls.length ∧ jv_fr ls i = true) ∧ f (ls.set i (some v)) = some o := by
  unfold jv_st at h; split at h
  · rename_i hc; exact ⟨hc, h⟩
  · cases h
theorem jv_ild_e {ls : jv_L} {i : Nat} {f : Int32 → jv_O η} (h : jv_ild ls i f = some o) : ∃ x, ls[i]? = some (some (.int x)) ∧ f x = some o := by
  unfold jv_ild at h; split at h
  · rename_i x hx; exact ⟨x, hx, h⟩
  · cases h
theorem jv_lld_e {ls : jv_L} {i : Nat} {f : Int64 → jv_O η} (h : jv_lld ls i f = some o) : ∃ x, ls[i]? = some (some (.long x)) ∧ f x = some o := by
  unfold jv_lld at h; split at h
  · rename_i x hx; exact ⟨x, hx, h⟩
  · cases h
theorem jv_ald_e {ls : jv_L} {i : Nat} {f : Nat → jv_O η} (h : jv_ald ls i f = some o) : ∃ (x : Nat), ls[i]? = some (some (.ref x)) ∧ f x = some o := by
  unfold jv_ald at h; split at h
  · rename_i x hx; exact ⟨x, hx, h⟩
  · cases h
theorem jv_if_e {c : Prop} [Decidable c] {f : jv_O η} (h : (if c then f else none) = some o) : c ∧ f = some o := by
  split at h
  · rename_i hc; exact ⟨hc, h⟩
  · cases h
end
theorem jv_in_e {i : Int32} {n : Nat} (h : jv_in i n = true) : vp_in i n := by
  unfold jv_in at h
  simp only [Bool.not_eq_true', Bool.or_eq_false_iff, decide_eq_false_iff_not] at h
  exact fun q => q.elim h.1 h.2
theorem jv_c1_e {v : Value} (h : jv_c1 v = true) : v.category = 1 := by cases v <;> first | rfl | simp [jv_c1] at h
theorem jv_pop_e : ∀ (n : Nat) (st as r : List Value), jv_pop n st = some (as, r) → st = as.reverse ++ r ∧ as.length = n
  | 0, st, as, r, h => by
    simp only [jv_pop] at h
    cases h
    exact ⟨rfl, rfl⟩
  | n + 1, st, as, r, h => by
    unfold jv_pop at h
    split at h
    · rename_i v r1
      split at h
      · rename_i a r' he
        cases h
        obtain ⟨e1, e2⟩ := jv_pop_e n _ _ _ he
        refine ⟨?_, by simp [e2]⟩
        rw [List.reverse_append, e1]
        rfl
      · cases h
    · cases h
