/-! rows of numbers that no method of a set writes: which references may lead to them is told by tags, an instruction at a time -/
def wq_v (F : Nat → Bool) (b : Bool) (v : Value) : Prop := match v with
  | .ref c => F c = true → b = true
  | _ => True
def wq_st (F : Nat → Bool) : List Bool → List Value → Prop
  | [], st => ∀ v, v ∈ st → wq_v F false v
  | _ :: _, [] => True
  | b :: τ, v :: st => wq_v F b v ∧ wq_st F τ st
def wq_l (F : Nat → Bool) (b : Bool) (ls : jv_L) : Prop := ∀ (i : Nat) (v : Value), ls[i]? = some (some v) → wq_v F (i == 0 && b) v
def wq_le : List Bool → List Bool → Bool
  | τ, [] => τ.all (fun b => !b)
  | [], _ :: _ => true
  | b :: τ, c :: σ => (!b || c) && wq_le τ σ
theorem wq_w {F : Nat → Bool} {b c : Bool} {v : Value} (h : (!b || c) = true) (hv : wq_v F b v) : wq_v F c v := by
  cases v with
  | ref k =>
    intro q
    have := hv q
    subst this
    simpa using h
  | _ => trivial
theorem wq_w0 {F : Nat → Bool} {c : Bool} {v : Value} (hv : wq_v F false v) : wq_v F c v := wq_w rfl hv
theorem wq_cl0 {F : Nat → Bool} : ∀ {τ : List Bool} {st : List Value}, τ.all (fun b => !b) = true → wq_st F τ st → ∀ v, v ∈ st → wq_v F false v
  | [], _, _, h => h
  | _ :: _, [], _, _ => fun _ q => absurd q List.not_mem_nil
  | b :: τ, v :: st, ha, h => by
    rw [List.all_cons, Bool.and_eq_true] at ha
    intro w hw
    rcases List.mem_cons.mp hw with rfl | hw
    · exact wq_w (by rw [ha.1]; rfl) h.1
    · exact wq_cl0 ha.2 h.2 w hw
theorem wq_cov {F : Nat → Bool} : ∀ {τ σ : List Bool} {st : List Value}, wq_le τ σ = true → wq_st F τ st → wq_st F σ st
  | τ, [], st, h, hs => by
    have h : τ.all (fun b => !b) = true := by cases τ <;> exact h
    exact wq_cl0 h hs
  | [], c :: σ, [], _, _ => trivial
  | [], c :: σ, v :: st, _, hs => ⟨wq_w0 (hs v List.mem_cons_self), wq_cov (τ := []) (σ := σ) (by cases σ <;> rfl) (fun w hw => hs w (List.mem_cons_of_mem _ hw))⟩
  | b :: τ, c :: σ, [], _, _ => trivial
  | b :: τ, c :: σ, v :: st, h, hs => by
    have h : ((!b || c) && wq_le τ σ) = true := h
    rw [Bool.and_eq_true] at h
    exact ⟨wq_w h.1 hs.1, wq_cov h.2 hs.2⟩
theorem wq_tl {F : Nat → Bool} {τ : List Bool} {v : Value} {st : List Value} (h : wq_st F τ (v :: st)) : wq_st F τ.tail st := by
  cases τ with
  | nil => exact fun w hw => h w (List.mem_cons_of_mem _ hw)
  | cons b τ => exact h.2
theorem wq_hd {F : Nat → Bool} {τ : List Bool} {v : Value} {st : List Value} (h : wq_st F τ (v :: st)) : wq_v F (τ.headD false) v := by
  cases τ with
  | nil => exact h v List.mem_cons_self
  | cons b τ => exact h.1
theorem wq_pop {F : Nat → Bool} : ∀ (n : Nat) {τ : List Bool} {st as r : List Value}, wq_st F τ st → (τ.take n).all (fun b => !b) = true → jv_pop n st = some (as, r) → (∀ w, w ∈ as → wq_v F false w) ∧ wq_st F (τ.drop n) r
  | 0, τ, st, as, r, hs, _, h => by
    have h : some (([] : List Value), st) = some (as, r) := h
    cases h
    exact ⟨fun _ q => absurd q List.not_mem_nil, hs⟩
  | n + 1, τ, [], as, r, hs, _, h => by
    have h : (none : Option (List Value × List Value)) = some (as, r) := h
    cases h
  | n + 1, τ, v :: st, as, r, hs, ha, h => by
    have h : (match jv_pop n st with
      | some (a, r') => some (a ++ [v], r')
      | none => none) = some (as, r) := h
    cases hp : jv_pop n st with
    | none => rw [hp] at h; cases h
    | some x =>
      obtain ⟨a, r'⟩ := x
      rw [hp] at h
      have h : some (a ++ [v], r') = some (as, r) := h
      cases h
      have ht : (τ.tail.take n).all (fun b => !b) = true ∧ (!τ.headD false) = true := by
        cases τ with
        | nil => exact ⟨by cases n <;> rfl, rfl⟩
        | cons b τ =>
          rw [List.take_succ_cons, List.all_cons, Bool.and_eq_true] at ha
          exact ⟨ha.2, ha.1⟩
      obtain ⟨q1, q2⟩ := wq_pop n (wq_tl hs) ht.1 hp
      refine ⟨fun w hw => ?_, ?_⟩
      · rcases List.mem_append.mp hw with hw | hw
        · exact q1 w hw
        · rcases List.mem_cons.mp hw with rfl | hw
          · exact wq_w (by rw [ht.2]; rfl) (wq_hd hs)
          · exact absurd hw List.not_mem_nil
      · cases τ with
        | nil => cases n <;> exact q2
        | cons b τ => exact q2
/-- what is asked of the rows, of the places that lead to them, and of the numbers that are kept -/
def wq_H (F : Nat → Bool) (src pf : Nat → Nat → Bool) : Prop := (∀ c, F c = true → c < 176 ∧ 13 ≤ (jg_knd c).1) ∧ (∀ c j, c < 176 → F (jg_rt c j) = true → src (jg_knd c).1 j = true) ∧ src 7 8 = true ∧ (∀ a b, src a b = true → a < 13) ∧ (∀ a b, pf a b = true → a < 13)
def wq_S (F : Nat → Bool) (pf : Nat → Nat → Bool) (s s' : jg_H) : Prop := (∀ c j, F c = true → s' c j = s c j) ∧ (∀ c j, pf (jg_knd c).1 j = true → s' c j = s c j) ∧ ∀ c j, 15 ≤ (jg_knd c).1 → s' c j = s c j
def wq_a (F : Nat → Bool) (b : Bool) (as : List Value) : Prop := match as with
  | [] => True
  | v :: r => wq_v F b v ∧ ∀ w, w ∈ r → wq_v F false w
/-- the check of an instruction -/
def wq_c (src pf : Nat → Nat → Bool) (K tg : Nat → Bool) (T : Nat → List Bool) (b0 : Bool) (e : jv_E) : Bool := match e with
  | (pc, i, n, a, b, _, _, z) => match i with
  | .iconst _ => wq_le (false :: T pc) (T (pc + n))
  | .bipush _ => wq_le (false :: T pc) (T (pc + n))
  | .sipush _ => wq_le (false :: T pc) (T (pc + n))
  | .ldc _ => wq_le (false :: T pc) (T (pc + n))
  | .ldc_w _ => wq_le (false :: T pc) (T (pc + n))
  | .ldc2_w _ => wq_le (false :: T pc) (T (pc + n))
  | .iload _ => wq_le (false :: T pc) (T (pc + n))
  | .iload_n _ => wq_le (false :: T pc) (T (pc + n))
  | .lload_n _ => wq_le (false :: T pc) (T (pc + n))
  | .getstatic _ => wq_le (false :: T pc) (T (pc + n))
  | .aload k => wq_le ((k == 0 && b0) :: T pc) (T (pc + n))
  | .aload_n k => wq_le ((k.val == 0 && b0) :: T pc) (T (pc + n))
  | .istore _ => wq_le (T pc).tail (T (pc + n))
  | .istore_n _ => wq_le (T pc).tail (T (pc + n))
  | .pop => wq_le (T pc).tail (T (pc + n))
  | .pop2 => wq_le (T pc).tail (T (pc + n))
  | .astore _ => !(T pc).headD false && wq_le (T pc).tail (T (pc + n))
  | .astore_n _ => !(T pc).headD false && wq_le (T pc).tail (T (pc + n))
  | .iinc _ _ => wq_le (T pc) (T (pc + n))
  | .iadd => wq_le (false :: (T pc).tail.tail) (T (pc + n))
  | .isub => wq_le (false :: (T pc).tail.tail) (T (pc + n))
  | .imul => wq_le (false :: (T pc).tail.tail) (T (pc + n))
  | .idiv => wq_le (false :: (T pc).tail.tail) (T (pc + n))
  | .irem => wq_le (false :: (T pc).tail.tail) (T (pc + n))
  | .iand => wq_le (false :: (T pc).tail.tail) (T (pc + n))
  | .ior => wq_le (false :: (T pc).tail.tail) (T (pc + n))
  | .ishl => wq_le (false :: (T pc).tail.tail) (T (pc + n))
  | .ishr => wq_le (false :: (T pc).tail.tail) (T (pc + n))
  | .iushr => wq_le (false :: (T pc).tail.tail) (T (pc + n))
  | .land => wq_le (false :: (T pc).tail.tail) (T (pc + n))
  | .lor => wq_le (false :: (T pc).tail.tail) (T (pc + n))
  | .lshl => wq_le (false :: (T pc).tail.tail) (T (pc + n))
  | .lshr => wq_le (false :: (T pc).tail.tail) (T (pc + n))
  | .lcmp => wq_le (false :: (T pc).tail.tail) (T (pc + n))
  | .ineg => wq_le (false :: (T pc).tail) (T (pc + n))
  | .i2l => wq_le (false :: (T pc).tail) (T (pc + n))
  | .l2i => wq_le (false :: (T pc).tail) (T (pc + n))
  | .i2c => wq_le (false :: (T pc).tail) (T (pc + n))
  | .arraylength => wq_le (false :: (T pc).tail) (T (pc + n))
  | .dup => wq_le ((T pc).headD false :: T pc) (T (pc + n))
  | .dup2 => wq_le ((T pc).headD false :: (T pc).tail.headD false :: T pc) (T (pc + n))
  | .goto _ => wq_le (T pc) (T a)
  | .ifCond _ _ => wq_le (T pc).tail (T a) && wq_le (T pc).tail (T (pc + n))
  | .if_icmp _ _ => wq_le (T pc).tail.tail (T a) && wq_le (T pc).tail.tail (T (pc + n))
  | .tableswitch d _ _ offs => wq_le (T pc).tail (T (((pc : Int) + d).toNat)) && offs.all (fun o => wq_le (T pc).tail (T (((pc : Int) + o).toNat)))
  | .getfield _ => wq_le (src a b :: (T pc).tail) (T (pc + n))
  | .putfield _ => Nat.blt a 13 && !pf a b && wq_le (T pc).tail.tail (T (pc + n))
  | .iaload => wq_le (false :: (T pc).tail.tail) (T (pc + n))
  | .baload => wq_le (false :: (T pc).tail.tail) (T (pc + n))
  | .aaload => wq_le (false :: (T pc).tail.tail) (T (pc + n))
  | .iastore => !(T pc).tail.tail.headD false && wq_le (T pc).tail.tail.tail (T (pc + n))
  | .bastore => !(T pc).tail.tail.headD false && wq_le (T pc).tail.tail.tail (T (pc + n))
  | .invokevirtual _ => K a && ((T pc).take z.toNat).all (fun b => !b) && (!((T pc).drop z.toNat).headD false || tg a) && wq_le ((T pc).drop z.toNat).tail (T (pc + n)) && wq_le (false :: ((T pc).drop z.toNat).tail) (T (pc + n))
  | .invokestatic _ => if b = 7 then wq_le (false :: (T pc).tail.tail) (T (pc + n)) else K a && ((T pc).take z.toNat).all (fun b => !b) && wq_le ((T pc).drop z.toNat) (T (pc + n)) && wq_le (false :: ((T pc).drop z.toNat)) (T (pc + n))
  | .invokespecial _ => false
  | .areturn => !(T pc).headD false
  | _ => true
def wq_o (F : Nat → Bool) (pf : Nat → Nat → Bool) (K tg : Nat → Bool) (T : Nat → List Bool) (b0 : Bool) (s : jg_H) (o : jv_O jg_H) : Prop := match o with
  | none => True
  | some (.inl (pc, ls, st, s')) => wq_l F b0 ls ∧ wq_st F (T pc) st ∧ wq_S F pf s s'
  | some (.inr (.inl v)) => ∀ x, v = some x → wq_v F false x
  | some (.inr (.inr (k, pc, as, r))) => K k = true ∧ wq_a F (tg k) as ∧ ∀ v : Option Value, (∀ x, v = some x → wq_v F false x) → wq_st F (T pc) (v.toList ++ r)
theorem wq_S0 {F : Nat → Bool} {pf : Nat → Nat → Bool} {s : jg_H} : wq_S F pf s s := ⟨fun _ _ _ => rfl, fun _ _ _ => rfl, fun _ _ _ => rfl⟩
section
variable {F : Nat → Bool} {src pf : Nat → Nat → Bool} {K tg : Nat → Bool} {T : Nat → List Bool} {b0 : Bool} {s : jg_H} {τ : List Bool} {r : List Value}
theorem wq_go {σ : List Bool} {pc : Nat} {ls : jv_L} {st : List Value} (hl : wq_l F b0 ls) (hc : wq_le σ (T pc) = true) (hs : wq_st F σ st) : wq_o F pf K tg T b0 s (jv_go pc ls st s) := ⟨hl, wq_cov hc hs, wq_S0⟩
theorem wq_no : wq_o F pf K tg T b0 s none := trivial
theorem wq_ci {x : Int32} (h : wq_st F τ r) : wq_st F (false :: τ) (.int x :: r) := ⟨trivial, h⟩
theorem wq_cl {x : Int64} (h : wq_st F τ r) : wq_st F (false :: τ) (.long x :: r) := ⟨trivial, h⟩
theorem wq_cv {b : Bool} {v : Value} (hv : wq_v F b v) (h : wq_st F τ r) : wq_st F (b :: τ) (v :: r) := ⟨hv, h⟩
theorem wq_i1 {st : List Value} {f : Int32 → List Value → jv_O jg_H} (hs : wq_st F τ st) (k : ∀ x r, wq_st F τ.tail r → wq_o F pf K tg T b0 s (f x r)) : wq_o F pf K tg T b0 s (jv_i1 st f) := by
  unfold jv_i1
  split
  · exact k _ _ (wq_tl hs)
  · trivial
theorem wq_i2 {st : List Value} {f : Int32 → Int32 → List Value → jv_O jg_H} (hs : wq_st F τ st) (k : ∀ x y r, wq_st F τ.tail.tail r → wq_o F pf K tg T b0 s (f x y r)) : wq_o F pf K tg T b0 s (jv_i2 st f) := by
  unfold jv_i2
  split
  · exact k _ _ _ (wq_tl (wq_tl hs))
  · trivial
theorem wq_l1 {st : List Value} {f : Int64 → List Value → jv_O jg_H} (hs : wq_st F τ st) (k : ∀ x r, wq_st F τ.tail r → wq_o F pf K tg T b0 s (f x r)) : wq_o F pf K tg T b0 s (jv_l1 st f) := by
  unfold jv_l1
  split
  · exact k _ _ (wq_tl hs)
  · trivial
theorem wq_l2 {st : List Value} {f : Int64 → Int64 → List Value → jv_O jg_H} (hs : wq_st F τ st) (k : ∀ x y r, wq_st F τ.tail.tail r → wq_o F pf K tg T b0 s (f x y r)) : wq_o F pf K tg T b0 s (jv_l2 st f) := by
  unfold jv_l2
  split
  · exact k _ _ _ (wq_tl (wq_tl hs))
  · trivial
theorem wq_li {st : List Value} {f : Int64 → Int32 → List Value → jv_O jg_H} (hs : wq_st F τ st) (k : ∀ x y r, wq_st F τ.tail.tail r → wq_o F pf K tg T b0 s (f x y r)) : wq_o F pf K tg T b0 s (jv_li st f) := by
  unfold jv_li
  split
  · exact k _ _ _ (wq_tl (wq_tl hs))
  · trivial
theorem wq_r1 {st : List Value} {f : Nat → List Value → jv_O jg_H} (hs : wq_st F τ st) (k : ∀ (x : Nat) r, wq_v F (τ.headD false) (.ref x) → wq_st F τ.tail r → wq_o F pf K tg T b0 s (f x r)) : wq_o F pf K tg T b0 s (jv_r1 st f) := by
  unfold jv_r1
  split
  · exact k _ _ (wq_hd hs) (wq_tl hs)
  · trivial
theorem wq_vr {st : List Value} {f : Value → Nat → List Value → jv_O jg_H} (hs : wq_st F τ st) (k : ∀ v (x : Nat) r, wq_st F τ.tail.tail r → wq_o F pf K tg T b0 s (f v x r)) : wq_o F pf K tg T b0 s (jv_vr st f) := by
  unfold jv_vr
  split
  · exact k _ _ _ (wq_tl (wq_tl hs))
  · trivial
theorem wq_ri {st : List Value} {f : Nat → Int32 → List Value → jv_O jg_H} (hs : wq_st F τ st) (k : ∀ (x : Nat) i r, wq_st F τ.tail.tail r → wq_o F pf K tg T b0 s (f x i r)) : wq_o F pf K tg T b0 s (jv_ri st f) := by
  unfold jv_ri
  split
  · exact k _ _ _ (wq_tl (wq_tl hs))
  · trivial
theorem wq_rii {st : List Value} {f : Nat → Int32 → Int32 → List Value → jv_O jg_H} (hs : wq_st F τ st) (k : ∀ (x : Nat) i y r, wq_v F (τ.tail.tail.headD false) (.ref x) → wq_st F τ.tail.tail.tail r → wq_o F pf K tg T b0 s (f x i y r)) : wq_o F pf K tg T b0 s (jv_rii st f) := by
  unfold jv_rii
  split
  · exact k _ _ _ _ (wq_hd (wq_tl (wq_tl hs))) (wq_tl (wq_tl (wq_tl hs)))
  · trivial
theorem wq_sto {ls : jv_L} {i : Nat} {v : Value} {f : jv_L → jv_O jg_H} (hl : wq_l F b0 ls) (hv : wq_v F false v) (k : ∀ l, wq_l F b0 l → wq_o F pf K tg T b0 s (f l)) : wq_o F pf K tg T b0 s (jv_st ls i v f) := by
  unfold jv_st
  split
  · rename_i hc
    refine k _ (fun j w hw => ?_)
    by_cases e : j = i
    · subst e
      rw [List.getElem?_set_self hc.1] at hw
      cases hw
      exact wq_w0 hv
    · rw [List.getElem?_set_ne (Ne.symm e)] at hw
      exact hl j w hw
  · trivial
theorem wq_ild {ls : jv_L} {i : Nat} {f : Int32 → jv_O jg_H} (k : ∀ x, wq_o F pf K tg T b0 s (f x)) : wq_o F pf K tg T b0 s (jv_ild ls i f) := by
  unfold jv_ild
  split
  · exact k _
  · trivial
theorem wq_lld {ls : jv_L} {i : Nat} {f : Int64 → jv_O jg_H} (k : ∀ x, wq_o F pf K tg T b0 s (f x)) : wq_o F pf K tg T b0 s (jv_lld ls i f) := by
  unfold jv_lld
  split
  · exact k _
  · trivial
theorem wq_ald {ls : jv_L} {i : Nat} {f : Nat → jv_O jg_H} (hl : wq_l F b0 ls) (k : ∀ (x : Nat), wq_v F (i == 0 && b0) (.ref x) → wq_o F pf K tg T b0 s (f x)) : wq_o F pf K tg T b0 s (jv_ald ls i f) := by
  unfold jv_ald
  split
  · rename_i x hx
    exact k _ (hl _ _ hx)
  · trivial
theorem wq_if {c : Prop} [Decidable c] {f g : jv_O jg_H} (k : c → wq_o F pf K tg T b0 s f) (k' : ¬ c → wq_o F pf K tg T b0 s g) : wq_o F pf K tg T b0 s (if c then f else g) := by
  by_cases h : c
  · rw [if_pos h]; exact k h
  · rw [if_neg h]; exact k' h
theorem wq_get {c j : Nat} (H : wq_H F src pf) (hc : c < 176) : wq_v F (src (jg_knd c).1 j) (jg_get s c j) := by
  unfold jg_get
  by_cases h1 : jg_isr (jg_knd c).1 j = true
  · rw [if_pos h1]
    by_cases h2 : c = 117 ∧ j = 8
    · rw [if_pos h2]
      obtain ⟨rfl, rfl⟩ := h2
      intro _
      have hk : (jg_knd 117).1 = 7 := by decide +kernel
      rw [hk]
      exact H.2.2.1
    · rw [if_neg h2]
      exact fun q => H.2.1 c j hc q
  · rw [if_neg h1]
    trivial
theorem wq_get0 {c j : Nat} (H : wq_H F src pf) (hc : c < 176) (hk : 13 ≤ (jg_knd c).1) : wq_v F false (jg_get s c j) := by
  have h := wq_get (s := s) (j := j) H hc
  cases e : src (jg_knd c).1 j with
  | false => rw [e] at h; exact h
  | true => exact absurd (H.2.2.2.1 _ _ e) (by omega)
theorem wq_set {c j pc : Nat} {s' : jg_H} {v : Value} {σ : List Bool} {ls : jv_L} {st : List Value} (h : jg_O.2.2.2.2.1 s c j v = some s') (h1 : ¬ F c = true) (h2 : ¬ pf (jg_knd c).1 j = true) (h3 : (jg_knd c).1 < 15) (hl : wq_l F b0 ls) (hc : wq_le σ (T pc) = true) (hs : wq_st F σ st) : wq_o F pf K tg T b0 s (jv_go pc ls st s') := by
  have up : ∀ x, wq_S F pf s (jg_up s c j x) := fun x => ⟨fun d i hd => u_c (fun e => h1 (e ▸ hd)), fun d i hd => u_r (fun e1 e2 => h2 (by rw [← e1, ← e2]; exact hd)), fun d i hd => u_c (fun e => absurd (e ▸ hd) (Nat.not_le.mpr h3))⟩
  refine ⟨hl, wq_cov hc hs, ?_⟩
  cases v with
  | int x =>
    have h : (if jg_isr (jg_knd c).1 j = true then none else some (jg_up s c j x)) = some s' := h
    by_cases q : jg_isr (jg_knd c).1 j = true
    · rw [if_pos q] at h; cases h
    · rw [if_neg q] at h
      cases h
      exact up x
  | ref k =>
    have h : (if c = 117 ∧ j = 8 ∧ k < 176 then some (jg_up s c j (Int32.ofNat k)) else none) = some s' := h
    by_cases q : c = 117 ∧ j = 8 ∧ k < 176
    · rw [if_pos q] at h
      cases h
      exact up _
    · rw [if_neg q] at h; cases h
  | _ => cases h
theorem wq_jp {σ : List Bool} {a p : Nat} {q : Bool} {ls : jv_L} {st : List Value} (hl : wq_l F b0 ls) (h1 : wq_le σ (T a) = true) (h2 : wq_le σ (T p) = true) (hs : wq_st F σ st) : wq_o F pf K tg T b0 s (jv_go (jv_jmp q a p) ls st s) := by
  cases q
  · exact wq_go hl h2 hs
  · exact wq_go hl h1 hs
theorem wq_all {as : List Value} {b : Bool} (h : ∀ w, w ∈ as → wq_v F false w) : wq_a F b as := by
  cases as with
  | nil => trivial
  | cons v r => exact ⟨wq_w0 (h v List.mem_cons_self), fun w hw => h w (List.mem_cons_of_mem _ hw)⟩
theorem wq_nil : wq_st F τ [] := by
  cases τ with
  | nil => exact fun _ q => absurd q List.not_mem_nil
  | cons b τ => trivial
theorem wq_nf {b : Bool} {v : Value} (h : (!b) = true) (hv : wq_v F b v) : wq_v F false v := wq_w (by rw [h]; rfl) hv
end
set_option maxHeartbeats 4000000 in
set_option maxRecDepth 4000 in
theorem wq_nxt {F : Nat → Bool} {src pf : Nat → Nat → Bool} {K tg : Nat → Bool} {T : Nat → List Bool} {b0 : Bool} (H : wq_H F src pf) {G : jv_X} (hG : wq_v F false G.2) {M : jv_MI} {e : jv_E} {ls : jv_L} {st : List Value} {s : jg_H} (he : wq_c src pf K tg T b0 e = true) (hl : wq_l F b0 ls) (hs : wq_st F (T e.1) st) : wq_o F pf K tg T b0 s (jv_nxt jg_O G M e ls st s) := by
  obtain ⟨pc, i, n, a, b, t0, u, z⟩ := e
  have hs : wq_st F (T pc) st := hs
  cases i
  case getfield ix =>
    have hc : wq_le (src a b :: (T pc).tail) (T (pc + n)) = true := he
    simp only [jv_nxt]
    refine wq_r1 hs (fun c r hv hr => wq_if (fun h => wq_if (fun h2 => ?_) (fun _ => wq_no)) (fun h => wq_if (fun h1 => wq_if (fun h2 => ?_) (fun h2 => ?_)) (fun _ => wq_no)))
    · have hc1 : c < 176 := h
      have ek : (jg_knd c).1 = a := h2.1
      have g := wq_get (s := s) (j := b) H hc1
      rw [ek] at g
      exact wq_go hl hc (wq_cv g hr)
    · have hc1 : ¬ c < 176 := h
      exact wq_go hl hc (wq_cv (fun q => absurd (H.1 _ q).1 (by omega)) hr)
    · exact wq_go hl hc (wq_cv trivial hr)
  case putfield ix =>
    have he : (Nat.blt a 13 && !pf a b && wq_le (T pc).tail.tail (T (pc + n))) = true := he
    simp only [Bool.and_eq_true] at he
    obtain ⟨⟨k1, k2⟩, hc⟩ := he
    have k1 : a < 13 := Nat.le_of_ble_eq_true k1
    simp only [jv_nxt]
    refine wq_vr hs (fun v c r hr => wq_if (fun h => ?_) (fun _ => wq_no))
    have ek : (jg_knd c).1 = a := h.2.1
    cases hq : jg_O.2.2.2.2.1 s c b v with
    | none => exact wq_no
    | some s' => exact wq_set hq (fun q => absurd (H.1 _ q).2 (by omega)) (fun q => by rw [ek] at q; rw [q] at k2; cases k2) (by omega) hl hc hr
  case iaload =>
    have hc : wq_le (false :: (T pc).tail.tail) (T (pc + n)) = true := he
    simp only [jv_nxt]
    refine wq_ri hs (fun c x r hr => wq_if (fun h => wq_if (fun h2 => ?_) (fun _ => wq_no)) (fun h => wq_if (fun h1 => wq_go hl hc (wq_ci hr)) (fun _ => wq_no)))
    have ek : (jg_knd c).1 = 13 := h2.1
    exact wq_go hl hc (wq_cv (wq_get0 H h (by omega)) hr)
  case baload =>
    have hc : wq_le (false :: (T pc).tail.tail) (T (pc + n)) = true := he
    simp only [jv_nxt]
    refine wq_ri hs (fun c x r hr => wq_if (fun h => wq_if (fun h2 => ?_) (fun _ => wq_no)) (fun h => wq_if (fun h1 => wq_go hl hc (wq_ci hr)) (fun _ => wq_no)))
    have ek : (jg_knd c).1 = 14 := h2.1
    exact wq_go hl hc (wq_cv (wq_get0 H h (by omega)) hr)
  case aaload =>
    have hc : wq_le (false :: (T pc).tail.tail) (T (pc + n)) = true := he
    simp only [jv_nxt]
    refine wq_ri hs (fun c x r hr => wq_if (fun h => ?_) (fun _ => wq_no))
    have ek : 15 ≤ (jg_knd c).1 := h.2.1
    exact wq_go hl hc (wq_cv (wq_get0 H h.1 (by omega)) hr)
  case iastore =>
    have he : (!(T pc).tail.tail.headD false && wq_le (T pc).tail.tail.tail (T (pc + n))) = true := he
    simp only [Bool.and_eq_true] at he
    obtain ⟨k1, hc⟩ := he
    simp only [jv_nxt]
    refine wq_rii hs (fun c x y r hv hr => wq_if (fun h => ?_) (fun _ => wq_no))
    have ek : (jg_knd c).1 = 13 := h.2.1
    cases hq : jg_O.2.2.2.2.1 s c x.toNatClampNeg (.int y) with
    | none => exact wq_no
    | some s' => exact wq_set hq (fun q => absurd (wq_nf k1 hv q) (by decide)) (fun q => absurd (H.2.2.2.2 _ _ q) (by omega)) (by omega) hl hc hr
  case bastore =>
    have he : (!(T pc).tail.tail.headD false && wq_le (T pc).tail.tail.tail (T (pc + n))) = true := he
    simp only [Bool.and_eq_true] at he
    obtain ⟨k1, hc⟩ := he
    simp only [jv_nxt]
    refine wq_rii hs (fun c x y r hv hr => wq_if (fun h => ?_) (fun _ => wq_no))
    have ek : (jg_knd c).1 = 14 := h.2.1
    cases hq : jg_O.2.2.2.2.1 s c x.toNatClampNeg (.int y) with
    | none => exact wq_no
    | some s' => exact wq_set hq (fun q => absurd (wq_nf k1 hv q) (by decide)) (fun q => absurd (H.2.2.2.2 _ _ q) (by omega)) (by omega) hl hc hr
  case aastore =>
    simp only [jv_nxt, jv_rir]
    split
    · rename_i y x c r _hq
      refine wq_if (fun h => ?_) (fun _ => wq_no)
      cases hq : jg_O.2.2.2.2.1 s c x.toNatClampNeg (.ref y) with
      | none => exact wq_no
      | some s' =>
        exfalso
        have hq : (if c = 117 ∧ x.toNatClampNeg = 8 ∧ y < 176 then some (jg_up s c x.toNatClampNeg (Int32.ofNat y)) else none) = some s' := hq
        by_cases q : c = 117 ∧ x.toNatClampNeg = 8 ∧ y < 176
        · have hk : (jg_knd 117).1 = 7 := by decide +kernel
          have h16 : 16 ≤ (jg_knd c).1 := h.2.2.1
          rw [q.1] at h16
          omega
        · rw [if_neg q] at hq; cases hq
    · exact wq_no
  case new ix => exact wq_no
  case newarray ix =>
    simp only [jv_nxt]
    exact wq_i1 hs (fun x r hr => wq_if (fun _ => wq_no) (fun _ => wq_no))
  case anewarray ix =>
    simp only [jv_nxt]
    exact wq_i1 hs (fun x r hr => wq_if (fun _ => wq_no) (fun _ => wq_no))
  case multianewarray ix d =>
    simp only [jv_nxt]
    exact wq_i2 hs (fun x y r hr => wq_if (fun _ => wq_no) (fun _ => wq_no))
  case arraylength =>
    have hc : wq_le (false :: (T pc).tail) (T (pc + n)) = true := he
    simp only [jv_nxt]
    exact wq_r1 hs (fun c r _ hr => wq_if (fun h => wq_if (fun h2 => wq_go hl hc (wq_ci hr)) (fun _ => wq_no)) (fun h => wq_if (fun _ => wq_go hl hc (wq_ci hr)) (fun _ => wq_if (fun _ => wq_go hl hc (wq_ci hr)) (fun _ => wq_no))))
  case getstatic ix =>
    have hc : wq_le (false :: T pc) (T (pc + n)) = true := he
    simp only [jv_nxt]
    exact wq_if (fun _ => wq_go hl hc (wq_ci hs)) (fun _ => wq_if (fun _ => wq_go hl hc (wq_cv hG hs)) (fun _ => wq_no))
  case ldc ix =>
    have hc : wq_le (false :: T pc) (T (pc + n)) = true := he
    simp only [jv_nxt]
    exact wq_if (fun _ => wq_go hl hc (wq_ci hs)) (fun _ => wq_go hl hc (wq_cv (fun q => absurd (H.1 _ q).1 (by omega)) hs))
  case tableswitch d lo hi offs =>
    have he : (wq_le (T pc).tail (T (((pc : Int) + d).toNat)) && offs.all (fun o => wq_le (T pc).tail (T (((pc : Int) + o).toNat)))) = true := he
    simp only [Bool.and_eq_true] at he
    obtain ⟨k1, k2⟩ := he
    simp only [jv_nxt]
    refine wq_i1 hs (fun x r hr => wq_if (fun _ => wq_go hl k1 hr) (fun _ => ?_))
    split
    · rename_i o ho
      exact wq_go hl (Array.all_eq_true_iff_forall_mem.mp k2 _ (Array.mem_of_getElem? ho)) hr
    · exact wq_no
  case dup =>
    have hc : wq_le ((T pc).headD false :: T pc) (T (pc + n)) = true := he
    simp only [jv_nxt]
    split
    · exact wq_if (fun _ => wq_go hl hc (wq_cv (wq_hd hs) hs)) (fun _ => wq_no)
    · exact wq_no
  case dup2 =>
    have hc : wq_le ((T pc).headD false :: (T pc).tail.headD false :: T pc) (T (pc + n)) = true := he
    simp only [jv_nxt]
    split
    · exact wq_if (fun _ => wq_go hl hc (wq_cv (wq_hd hs) (wq_cv (wq_hd (wq_tl hs)) hs))) (fun _ => wq_no)
    · exact wq_no
  case pop =>
    have hc : wq_le (T pc).tail (T (pc + n)) = true := he
    simp only [jv_nxt]
    split
    · exact wq_if (fun _ => wq_go hl hc (wq_tl hs)) (fun _ => wq_no)
    · exact wq_no
  case invokevirtual ix =>
    have he : (K a && ((T pc).take z.toNat).all (fun b => !b) && (!((T pc).drop z.toNat).headD false || tg a) && wq_le ((T pc).drop z.toNat).tail (T (pc + n)) && wq_le (false :: ((T pc).drop z.toNat).tail) (T (pc + n))) = true := he
    simp only [Bool.and_eq_true] at he
    obtain ⟨⟨⟨⟨k1, k2⟩, k3⟩, k4⟩, k5⟩ := he
    simp only [jv_nxt]
    cases hp : jv_pop z.toNat st with
    | none => exact wq_no
    | some x =>
      obtain ⟨as, r⟩ := x
      obtain ⟨p1, p2⟩ := wq_pop _ hs k2 hp
      refine wq_r1 p2 (fun c r' hv hr => wq_if (fun _ => ⟨k1, ⟨wq_w k3 hv, p1⟩, fun v hv' => ?_⟩) (fun _ => wq_no))
      cases v with
      | none => exact wq_cov k4 hr
      | some x => exact wq_cov k5 (wq_cv (hv' x rfl) hr)
  case invokestatic ix =>
    simp only [jv_nxt]
    refine wq_if (fun hb => ?_) (fun hb => ?_)
    · have hc : wq_le (false :: (T pc).tail.tail) (T (pc + n)) = true := by
        simp only [wq_c, if_pos hb] at he
        exact he
      exact wq_i2 hs (fun x y r hr => wq_if (fun _ => wq_go hl hc (wq_ci hr)) (fun _ => wq_no))
    · simp only [wq_c, if_neg hb, Bool.and_eq_true] at he
      obtain ⟨⟨⟨k1, k2⟩, k4⟩, k5⟩ := he
      cases hp : jv_pop z.toNat st with
      | none => exact wq_no
      | some x =>
        obtain ⟨as, r⟩ := x
        obtain ⟨p1, p2⟩ := wq_pop _ hs k2 hp
        refine wq_if (fun _ => ⟨k1, wq_all p1, fun v hv' => ?_⟩) (fun _ => wq_no)
        cases v with
        | none => exact wq_cov k4 p2
        | some x => exact wq_cov k5 (wq_cv (hv' x rfl) p2)
  case invokespecial ix =>
    have he : false = true := he
    cases he
  case ireturn =>
    simp only [jv_nxt]
    split
    · exact wq_if (fun _ => fun x hx => by cases hx; trivial) (fun _ => wq_no)
    · exact wq_no
  case lreturn =>
    simp only [jv_nxt]
    split
    · exact fun x hx => by cases hx; trivial
    · exact wq_no
  case areturn =>
    have he : (!(T pc).headD false) = true := he
    simp only [jv_nxt]
    split
    · exact fun x hx => by cases hx; exact wq_nf he (wq_hd hs)
    · exact wq_no
  case return_ =>
    simp only [jv_nxt]
    split
    · exact fun x hx => by cases hx
    · exact wq_no
  case if_icmp cond off =>
    have hk : (wq_le (T pc).tail.tail (T a) && wq_le (T pc).tail.tail (T (pc + n))) = true := he
    simp only [Bool.and_eq_true] at hk
    cases cond <;> (simp only [jv_nxt]; exact wq_i2 hs (fun x y r hr => wq_jp hl hk.1 hk.2 hr))
  case ifCond cond off =>
    have hk : (wq_le (T pc).tail (T a) && wq_le (T pc).tail (T (pc + n))) = true := he
    simp only [Bool.and_eq_true] at hk
    cases cond <;> (simp only [jv_nxt]; exact wq_i1 hs (fun x r hr => wq_jp hl hk.1 hk.2 hr))
  case goto off =>
    have hc : wq_le (T pc) (T a) = true := he
    simp only [jv_nxt]
    exact wq_go hl hc hs
  case astore k =>
    have he : (!(T pc).headD false && wq_le (T pc).tail (T (pc + n))) = true := he
    simp only [Bool.and_eq_true] at he
    simp only [jv_nxt]
    exact wq_r1 hs (fun x r hx hr => wq_sto hl (wq_nf he.1 hx) (fun l hl => wq_go hl he.2 hr))
  case astore_n k =>
    have he : (!(T pc).headD false && wq_le (T pc).tail (T (pc + n))) = true := he
    simp only [Bool.and_eq_true] at he
    simp only [jv_nxt]
    exact wq_r1 hs (fun x r hx hr => wq_sto hl (wq_nf he.1 hx) (fun l hl => wq_go hl he.2 hr))
  case aload k =>
    have hc : wq_le ((k == 0 && b0) :: T pc) (T (pc + n)) = true := he
    simp only [jv_nxt]
    exact wq_ald hl (fun x hx => wq_go hl hc (wq_cv hx hs))
  case aload_n k =>
    have hc : wq_le ((k.val == 0 && b0) :: T pc) (T (pc + n)) = true := he
    simp only [jv_nxt]
    exact wq_ald hl (fun x hx => wq_go hl hc (wq_cv hx hs))
  case iinc k d =>
    have hc : wq_le (T pc) (T (pc + n)) = true := he
    simp only [jv_nxt]
    exact wq_ild (fun x => wq_sto hl trivial (fun l hl => wq_go hl hc hs))
  case istore k =>
    have hc : wq_le (T pc).tail (T (pc + n)) = true := he
    simp only [jv_nxt]
    exact wq_i1 hs (fun x r hr => wq_sto hl trivial (fun l hl => wq_go hl hc hr))
  case istore_n k =>
    have hc : wq_le (T pc).tail (T (pc + n)) = true := he
    simp only [jv_nxt]
    exact wq_i1 hs (fun x r hr => wq_sto hl trivial (fun l hl => wq_go hl hc hr))
  all_goals first
    | exact wq_no
    | (simp only [jv_nxt]
       first
       | exact wq_go hl (show wq_le (false :: T pc) (T (pc + n)) = true from he) (wq_ci hs)
       | exact wq_go hl (show wq_le (false :: T pc) (T (pc + n)) = true from he) (wq_cl hs)
       | exact wq_i1 hs (fun x r hr => wq_go hl (show wq_le (false :: (T pc).tail) (T (pc + n)) = true from he) (wq_ci hr))
       | exact wq_i1 hs (fun x r hr => wq_go hl (show wq_le (false :: (T pc).tail) (T (pc + n)) = true from he) (wq_cl hr))
       | exact wq_l1 hs (fun x r hr => wq_go hl (show wq_le (false :: (T pc).tail) (T (pc + n)) = true from he) (wq_ci hr))
       | exact wq_l1 hs (fun x r hr => wq_go hl (show wq_le (T pc).tail (T (pc + n)) = true from he) hr)
       | exact wq_i2 hs (fun x y r hr => wq_go hl (show wq_le (false :: (T pc).tail.tail) (T (pc + n)) = true from he) (wq_ci hr))
       | exact wq_l2 hs (fun x y r hr => wq_go hl (show wq_le (false :: (T pc).tail.tail) (T (pc + n)) = true from he) (wq_cl hr))
       | exact wq_l2 hs (fun x y r hr => wq_go hl (show wq_le (false :: (T pc).tail.tail) (T (pc + n)) = true from he) (wq_ci hr))
       | exact wq_li hs (fun x y r hr => wq_go hl (show wq_le (false :: (T pc).tail.tail) (T (pc + n)) = true from he) (wq_cl hr))
       | exact wq_i2 hs (fun x y r hr => wq_if (fun _ => wq_no) (fun _ => wq_go hl (show wq_le (false :: (T pc).tail.tail) (T (pc + n)) = true from he) (wq_ci hr)))
       | exact wq_ild (fun x => wq_go hl (show wq_le (false :: T pc) (T (pc + n)) = true from he) (wq_ci hs))
       | exact wq_lld (fun x => wq_go hl (show wq_le (false :: T pc) (T (pc + n)) = true from he) (wq_cl hs)))
theorem wq_ent {F : Nat → Bool} {b : Bool} {as : List Value} (n : Nat) (h : wq_a F b as) : wq_l F b (jv_ent n as) := by
  have hs : ∀ (vs : List Value) (i : Nat) (v : Value), (jv_sl vs)[i]? = some (some v) → v ∈ vs := by
    intro vs i v q
    have q := List.mem_of_getElem? q
    unfold jv_sl at q
    obtain ⟨w, hw, q⟩ := List.mem_flatMap.mp q
    by_cases hc : w.category = 2
    · rw [if_pos hc] at q
      rcases List.mem_cons.mp q with q | q
      · cases q; exact hw
      · rcases List.mem_cons.mp q with q | q
        · cases q
        · cases q
    · rw [if_neg hc] at q
      rcases List.mem_cons.mp q with q | q
      · cases q; exact hw
      · cases q
  intro i v q
  unfold jv_ent at q
  by_cases hlt : i < (jv_sl as).length
  · rw [List.getElem?_append_left hlt] at q
    cases as with
    | nil => cases hs [] i v q
    | cons w r =>
      obtain ⟨h1, h2⟩ := h
      have e : jv_sl (w :: r) = (if w.category = 2 then [some w, none] else [some w]) ++ jv_sl r := by
        unfold jv_sl
        rw [List.flatMap_cons]
      rw [e] at q
      match i, q with
      | 0, q =>
        have : v = w := by
          by_cases hc : w.category = 2
          · rw [if_pos hc] at q
            have q : some (some w) = some (some v) := q
            cases q; rfl
          · rw [if_neg hc] at q
            have q : some (some w) = some (some v) := q
            cases q; rfl
        subst this
        exact wq_w (by cases b <;> rfl) h1
      | i + 1, q =>
        refine wq_w0 (h2 v ?_)
        by_cases hc : w.category = 2
        · rw [if_pos hc] at q
          match i, q with
          | 0, q =>
            have q : some (none : Option Value) = some (some v) := q
            cases q
          | i + 1, q =>
            have q : (jv_sl r)[i]? = some (some v) := q
            exact hs r i v q
        · rw [if_neg hc] at q
          have q : (jv_sl r)[i]? = some (some v) := q
          exact hs r i v q
  · rw [List.getElem?_append_right (by omega)] at q
    have := List.eq_of_mem_replicate (List.mem_of_getElem? q)
    cases this
theorem wq_St {F : Nat → Bool} {pf : Nat → Nat → Bool} {s t u : jg_H} (h : wq_S F pf s t) (g : wq_S F pf t u) : wq_S F pf s u := ⟨fun c j q => (g.1 c j q).trans (h.1 c j q), fun c j q => (g.2.1 c j q).trans (h.2.1 c j q), fun c j q => (g.2.2 c j q).trans (h.2.2 c j q)⟩
theorem wq_P {F : Nat → Bool} {src pf : Nat → Nat → Bool} {K tg : Nat → Bool} {T : Nat → Nat → List Bool} (H : wq_H F src pf) (hK : ∀ k M, K k = true → jv_P[k]? = some M → M.2.2.2.2.2.2.all (wq_c src pf K tg (T k) (tg k)) = true) {G : jv_X} (hG : wq_v F false G.2) : ∀ (d k : Nat) (as : List Value) (s : jg_H) (B : Option Value → jg_H → Prop), K k = true → wq_a F (tg k) as → q_P G d k as s B → q_P G d k as s (fun v s' => B v s' ∧ wq_S F pf s s' ∧ ∀ x, v = some x → wq_v F false x)
  | 0, _, _, _, _, _, _, h => h.elim
  | d + 1, k, as, s, B, hk, ha, h => by
    obtain ⟨M, h1, h2, h3⟩ := h
    refine ⟨M, h1, h2, ?_⟩
    have h3 : q_W G d M B 0 (jv_ent M.2.2.2.1 as) [] s := h3
    have key := h3 (fun pc ls st s1 => wq_l F (tg k) ls → wq_st F (T k pc) st → wq_S F pf s s1 → q_W G d M (fun v s' => B v s' ∧ wq_S F pf s s' ∧ ∀ x, v = some x → wq_v F false x) pc ls st s1) ?_
    · exact key (wq_ent _ ha) wq_nil wq_S0
    · intro pc ls st s1 hs l1 t1 f1
      unfold jv_stp at hs
      refine jv_We_step ?_
      unfold jv_stp
      cases he : jv_at M.2.2.2.2.2.2 pc with
      | none => simp only [he] at hs
      | some e =>
        simp only [he] at hs ⊢
        have hx := wq_nxt H hG (M := M) (s := s1) (List.all_eq_true.mp (hK k M hk h1) _ (jv_at_in _ _ he)) l1 t1
        cases hn : jv_nxt jg_O G M (pc, e) ls st s1 with
        | none => simp only [hn] at hs
        | some o =>
          simp only [hn] at hs ⊢
          rw [hn] at hx
          match o, hs, hx with
          | .inl (pc', ls', st', s2), hs, hx => exact ⟨hs.1, hs.2.1, hs.2.2 hx.1 hx.2.1 (wq_St f1 hx.2.2)⟩
          | .inr (.inl v), hs, hx => exact ⟨hs.1, hs.2.1, hs.2.2, f1, hx⟩
          | .inr (.inr (k', pc', as', r')), hs, hx =>
            obtain ⟨mc, ms, q1, q2, q3⟩ := hs
            have hm : mc = 0 := by have : 176 + mc ≤ 176 + 0 := q1; omega
            have hms : ms = 0 := by have : 9491 + ms ≤ 9491 + 0 := q2; omega
            subst hm hms
            refine ⟨0, 0, q1, q2, ?_⟩
            obtain ⟨x1, x2, x3⟩ := hx
            exact q_mono (fun v s' q => q.1 l1 (x3 v q.2.2) (wq_St f1 q.2.1)) (wq_P H hK hG d k' as' s1 _ x1 x2 q3)
