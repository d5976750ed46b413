/-! an instruction of the small machine is one of the machine's -/
theorem jv_vw_none {k : Nat} (h : 13 ≤ k) : vwCl[k]? = none := List.getElem?_eq_none (by simpa [vwCl] using h)
theorem jv_vw_in : ∀ (a : Nat) (r : vw_C), vwCl[a]? = some r → a < 13 ∧ (∀ w ∈ u_ws r.1 r.2.1 r.2.2, w ∈ jv_G) ∧ (∀ k, k < r.2.2 → parseFieldDescriptor (r.2.1 k).2.2.1 = some (jv_fty a k)) ∧ (∀ x, x < r.2.2 → ∀ y, y < r.2.2 → x ≠ y → (r.2.1 x).2.1 ≠ (r.2.1 y).2.1) ∧ Cond.instantiable r.1 r.2.2 ∈ jv_G ∧ Cond.initialized r.1 ∈ jv_G := by
  intro a r h
  have ha : a < 13 := (List.getElem?_eq_some_iff.mp h).1
  refine ⟨ha, ?_⟩
  match a, ha, h with
  | 0, _, h => cases h; exact ⟨jv_inX0, tyX0_ok, nmX0, jv_mkX0, jv_iniX0⟩
  | 1, _, h => cases h; exact ⟨jv_inX1, tyX1_ok, nmX1, jv_mkX1, jv_iniX1⟩
  | 2, _, h => cases h; exact ⟨jv_inX2, tyX2_ok, nmX2, jv_mkX2, jv_iniX2⟩
  | 3, _, h => cases h; exact ⟨jv_inX3, tyX3_ok, nmX3, jv_mkX3, jv_iniX3⟩
  | 4, _, h => cases h; exact ⟨jv_inX4, tyX4_ok, nmX4, jv_mkX4, jv_iniX4⟩
  | 5, _, h => cases h; exact ⟨jv_inX5, tyX5_ok, nmX5, jv_mkX5, jv_iniX5⟩
  | 6, _, h => cases h; exact ⟨jv_inX6, tyX6_ok, nmX6, jv_mkX6, jv_iniX6⟩
  | 7, _, h => cases h; exact ⟨jv_inX7, tyX7_ok, nmX7, jv_mkX7, jv_iniX7⟩
  | 8, _, h => cases h; exact ⟨jv_inX8, tyX8_ok, nmX8, jv_mkX8, jv_iniX8⟩
  | 9, _, h => cases h; exact ⟨jv_inX9, tyX9_ok, nmX9, jv_mkX9, jv_iniX9⟩
  | 10, _, h => cases h; exact ⟨jv_inX10, tyX10_ok, nmX10, jv_mkX10, jv_iniX10⟩
  | 11, _, h => cases h; exact ⟨jv_inX11, tyX11_ok, nmX11, jv_mkX11, jv_iniX11⟩
  | 12, _, h => cases h; exact ⟨jv_inX12, tyX12_ok, nmX12, jv_mkX12, jv_iniX12⟩
  | a + 13, ha, h => exact absurd ha (by omega)
theorem jv_go_e {η : Type} {pc pc' : Nat} {ls ls' : jv_L} {st st' : List Value} {h h' : η} (q : jv_go pc ls st h = some (.inl (pc', ls', st', h'))) : pc = pc' ∧ ls = ls' ∧ st = st' ∧ h = h' := by
  unfold jv_go at q
  cases q
  exact ⟨rfl, rfl, rfl, rfl⟩
theorem jv_cel_arr {D : va_G} {tc : Nat → ClassId} {kd : Nat × Nat} {q : Nat} {f : Nat → Value} {H : Heap} (hk : 13 ≤ kd.1) (h : jv_cel D tc kd q f H) : H[q]? = some (arrV (tc kd.1) kd.2 f) := by
  unfold jv_cel at h
  rw [jv_vw_none hk] at h
  exact h
theorem jv_cel_obj {D : va_G} {tc : Nat → ClassId} {kd : Nat × Nat} {r : vw_C} {q : Nat} {f : Nat → Value} {H : Heap} (hr : vwCl[kd.1]? = some r) (h : jv_cel D tc kd q f H) : t_OB q (D.1 kd.1) r.2.2 (D.2 kd.1) H f := by
  unfold jv_cel at h
  rw [hr] at h
  exact h
theorem jv_cel_kept {D : va_G} {tc : Nat → ClassId} {kd : Nat × Nat} {q : Nat} {f : Nat → Value} {H H1 : Heap} (h : jv_cel D tc kd q f H) (e : H1[q]? = H[q]?) : jv_cel D tc kd q f H1 := by
  unfold jv_cel at h ⊢
  split at h
  · exact h.kept e
  · rw [e]; exact h
theorem jv_cel_cell {D : va_G} {tc : Nat → ClassId} {kd : Nat × Nat} {q : Nat} {f : Nat → Value} {H : Heap} (h : jv_cel D tc kd q f H) : ∃ cell : Cell, H[q]? = some cell ∧ cell.vm = .none ∧ cell.cls = (if kd.1 < 13 then D.1 kd.1 else tc kd.1) := by
  by_cases hk : kd.1 < 13
  · have hr : ∃ r, vwCl[kd.1]? = some r := ⟨_, List.getElem?_eq_getElem (l := vwCl) (i := kd.1) (by simpa [vwCl] using hk)⟩
    obtain ⟨r, hr⟩ := hr
    obtain ⟨cell, h1, h2, h3, -⟩ := jv_cel_obj hr h
    exact ⟨cell, h1, h3, by rw [if_pos hk]; exact h2⟩
  · exact ⟨_, jv_cel_arr (by omega) h, rfl, by rw [if_neg hk]; rfl⟩
theorem jv_cv_int {base : Nat} {cst : Nat → Nat} {x : Int32} : jv_cv base cst (.int x) = .int x := rfl
theorem jv_Rep_set {η : Type} {O : jv_Ops η} (hO : jv_Ok O) {D : va_G} {tc : Nat → ClassId} {base : Nat} {cst : Nat → Nat} {h h' : η} {H H1 : Heap} {c j : Nat} {v : Value} (hR : jv_Rep O D tc base cst h H) (hs : O.2.2.2.2.1 h c j v = some h') (hc : c < O.1 h) (z : H1.size = H.size) (oq : ∀ q : Nat, q ≠ base + c → H1[q]? = H[q]?)
    (hn : jv_cel D tc (O.2.2.1 h c) (base + c) (updV (fun i => jv_cv base cst (O.2.2.2.1 h c i)) j (jv_cv base cst v)) H1) : jv_Rep O D tc base cst h' H1 := by
  obtain ⟨e1, -, e2, e3⟩ := hO.2.1 h c j v h' hs hc
  refine ⟨by rw [z, hR.1, e1], fun d hd => ?_⟩
  rw [e1] at hd
  rw [e2 d]
  by_cases q : d = c
  · subst q
    have ef : (fun i => jv_cv base cst (O.2.2.2.1 h' d i)) = updV (fun i => jv_cv base cst (O.2.2.2.1 h d i)) j (jv_cv base cst v) := by
      funext i
      rw [e3 d i]
      unfold updV
      by_cases q2 : i = j
      · rw [if_pos ⟨rfl, q2⟩, if_pos q2]
      · rw [if_neg (fun z => q2 z.2), if_neg q2]
    rw [ef]
    exact hn
  · have ef : (fun i => jv_cv base cst (O.2.2.2.1 h' d i)) = fun i => jv_cv base cst (O.2.2.2.1 h d i) := by
      funext i
      rw [e3 d i, if_neg (fun z => q z.1)]
    rw [ef]
    exact jv_cel_kept (hR.2 d hd) (oq _ (by omega))
def jv_Fx (D : va_G) (tc : Nat → ClassId) (base : Nat) (cst : Nat → Nat) (G : jv_X) (H0 : Heap) (p : Program) (R : Room) (s : State) (m : MethodId) (args : Array Value) (meth : Method) (c : Code) (M : jv_MI) (d : Nat) : Prop :=
  p.tables.exec = Jvm.exec ∧ c.code = M.2.2.1 ∧ c.maxLocals = M.2.2.2.1 ∧ s.vm.findClass M.1 = some m.cls ∧ (∀ w ∈ jv_G, w.before args s = true) ∧ meth.name = M.2.1.name ∧ meth.sig.returnType = M.2.2.2.2.1 ∧ meth.locks = false ∧ jv_K D tc base cst G H0 s ∧ d + 1 ≤ R.frames ∧ 40 * d + 40 ≤ R.locals
def jv_At {η : Type} (O : jv_Ops η) (D : va_G) (tc : Nat → ClassId) (base : Nat) (cst : Nat → Nat) (H0 : Heap) (z0 l0 nL : Nat) (ls : jv_L) (h : η) (H : Heap) (locs : List Loc) (lm : Array Slot) : Prop :=
  jv_Rep O D tc base cst h H ∧ (∀ q : Nat, q < base → H[q]? = H0[q]?) ∧ jv_LR base cst lm nL ls ∧ (∀ q ∈ locs, base ≤ q.base) ∧ z0 ≤ O.1 h ∧ l0 ≤ O.2.1 h
def jv_PW {η : Type} (O : jv_Ops η) (D : va_G) (tc : Nat → ClassId) (base : Nat) (cst : Nat → Nat) (H0 : Heap) (p : Program) (l : Launch) (e : Env) (R : Room) (s : State) (m : MethodId) (args : Array Value) (below : List Frame) (meth : Method) (c : Code) (Q : State → Prop) (z0 l0 nL : Nat) (pc : Nat) (ls : jv_L) (st : List Value) (h : η) : Prop :=
  ∀ (H : Heap) (locs : List Loc) (lm : Array Slot), jv_At O D tc base cst H0 z0 l0 nL ls h H locs lm → W p l e R s m args below meth c H locs (O.1 h - z0) (O.2.1 h - l0) Q (F0 m pc lm (st.map (jv_cv base cst)))
theorem jv_cv_heap {η : Type} {O : jv_Ops η} (hO : jv_Ok O) {h : η} {base : Nat} {cst : Nat → Nat} {q : Nat} (hq : q < O.1 h) : jv_cv base cst (.ref q) = .ref (base + q) := by
  show Value.ref (if _ then _ else _) = _
  rw [if_pos (show q < 1000000 by have := hO.1 h; omega)]
theorem jv_cv_new {η : Type} {O : jv_Ops η} (hO : jv_Ok O) {base : Nat} {cst : Nat → Nat} (h : η) {h' : η} (hz : O.1 h < O.1 h') : jv_cv base cst (.ref (O.1 h)) = .ref (base + O.1 h) := by
  show Value.ref (if _ then _ else _) = _
  rw [if_pos (show O.1 h < 1000000 by have := hO.1 h'; omega)]
theorem jv_cv_def {base : Nat} {cst : Nat → Nat} (ty : FieldType) : jv_cv base cst (defaultValue ty) = defaultValue ty := by cases ty <;> rfl
theorem jv_aty_ref {k : Nat} (h : 15 ≤ k) : (jv_aty k).isReference = true := by
  unfold jv_aty
  split <;> first | omega | rfl
theorem jv_el_ty {k : Nat} (h1 : 16 ≤ k) (h2 : k < 21) : ∃ r, vwCl[jv_el k]? = some r ∧ jv_aty k = .object r.1 := by
  rcases (by omega : k = 16 ∨ k = 17 ∨ k = 18 ∨ k = 19 ∨ k = 20) with rfl | rfl | rfl | rfl | rfl <;> exact ⟨_, rfl, rfl⟩
theorem jv_locs {locs : List Loc} {base a i : Nat} (h : ∀ q ∈ locs, base ≤ q.base) (ha : base ≤ a) : ∀ q ∈ locs ++ [⟨a, i⟩], base ≤ q.base := by
  intro q hq
  rcases List.mem_append.mp hq with h1 | h1
  · exact h q h1
  · rw [List.mem_singleton] at h1
    subst h1
    exact ha
theorem jv_arrV_congr {c : ClassId} {N : Nat} {f g : Nat → Value} (h : ∀ j, j < N → f j = g j) : arrV c N f = arrV c N g := by
  unfold arrV
  have : (fun j : Fin N => f j.val) = fun j : Fin N => g j.val := funext fun j => h j.val j.isLt
  rw [this]
theorem jv_fit_e {base : Nat} {cst : Nat → Nat} {ty : FieldType} {v : Value} (h : jv_fit ty v = true) : narrow ty (jv_cv base cst v) = jv_cv base cst v ∧ fits ty (jv_cv base cst v) = true := by
  unfold jv_fit at h
  split at h
  · exact ⟨rfl, rfl⟩
  · rename_i x
    rcases (Bool.or_eq_true _ _).mp h with q | q
    · obtain rfl : x = 0 := eq_of_beq q
      exact ⟨rfl, rfl⟩
    · obtain rfl : x = 1 := eq_of_beq q
      exact ⟨rfl, rfl⟩
  · exact ⟨rfl, rfl⟩
  · exact ⟨rfl, rfl⟩
  · cases h
theorem jv_outer (c : ClassId) (N h0 : Nat) : ∀ i : Nat, Jvm.Free.Multi.outerC c N h0 i = arrV c N (fun j => if j < i then .ref (h0 + 1 + j) else .null)
  | 0 => by
    show ({ cls := c, slots := Array.replicate N .null, vm := .none } : Cell) = _
    rw [arrV_new]
    refine congrArg (arrV c N) (funext fun j => ?_)
    simp
  | i + 1 => by
    show (Jvm.Free.Multi.outerC c N h0 i).setSlot i (.ref (h0 + 1 + i)) = _
    rw [jv_outer c N h0 i, arrV_store]
    refine congrArg (arrV c N) (funext fun j => ?_)
    by_cases e : j = i
    · subst e
      simp [updV]
    · by_cases h : j < i
      · simp [updV, e, h, Nat.lt_succ_of_lt h]
      · simp [updV, e, h, show ¬ j < i + 1 by omega]
theorem jv_Rep_new {η : Type} {O : jv_Ops η} {D : va_G} {tc : Nat → ClassId} {base : Nat} {cst : Nat → Nat} {h h' : η} {H H1 : Heap} (hR : jv_Rep O D tc base cst h H) (z1 : O.1 h' = O.1 h + 1) (z5 : ∀ d, d < O.1 h → O.2.2.1 h' d = O.2.2.1 h d ∧ ∀ j, O.2.2.2.1 h' d j = O.2.2.2.1 h d j) (e2 : H1.size = base + O.1 h + 1) (e3 : ∀ q : Nat, q < base + O.1 h → H1[q]? = H[q]?)
    (hn : jv_cel D tc (O.2.2.1 h' (O.1 h)) (base + O.1 h) (fun j => jv_cv base cst (O.2.2.2.1 h' (O.1 h) j)) H1) : jv_Rep O D tc base cst h' H1 := by
  refine ⟨by rw [e2, z1]; omega, fun d hd => ?_⟩
  rcases Nat.lt_or_ge d (O.1 h) with q | q
  · obtain ⟨w1, w2⟩ := z5 d q
    rw [w1, show (fun j => jv_cv base cst (O.2.2.2.1 h' d j)) = fun j => jv_cv base cst (O.2.2.2.1 h d j) from funext fun j => by rw [w2 j]]
    exact jv_cel_kept (hR.2 d q) (e3 _ (by omega))
  · obtain rfl : d = O.1 h := by omega
    exact hn
theorem jv_ret_no {η : Type} {O : jv_Ops η} {G : jv_X} {M : jv_MI} {pc n a b t u : Nat} {z : Int} {i : Jvm.ClassFile.Instr} {ls : jv_L} {st : List Value} {h : η} {x : Nat × jv_L × List Value × η} (hi : (match i with | .ireturn => true | .lreturn => true | .areturn => true | .return_ => true | _ => false) = true) : ¬ jv_nxt O G M (pc, i, n, a, b, t, u, z) ls st h = some (.inl x) := by
  intro hn
  cases i
  case ireturn =>
    simp only [jv_nxt] at hn
    split at hn
    · split at hn <;> cases hn
    · cases hn
  case lreturn =>
    simp only [jv_nxt] at hn
    split at hn <;> cases hn
  case areturn =>
    simp only [jv_nxt] at hn
    split at hn <;> cases hn
  case return_ =>
    simp only [jv_nxt] at hn
    split at hn <;> cases hn
  all_goals cases hi
theorem jz_pop2 {p : Program} {l : Launch} {e : Env} {R : Room} {s : State} {m : MethodId} {args : Array Value} {below : List Frame} {meth : Method} {c : Code} {H : Heap} {locs : List Loc} {cells slots : Nat} {Q : State → Prop} {pc : Nat} {ls : Array Slot} {rest : List Value} {cc : ByteArray} (hexec : p.tables.exec = Jvm.exec) (hb : c.code = cc) {va : Value} (hdg : decode cc pc = .ok (.pop2, 1)) (hva : va.category = 2)
    (k : W p l e R s m args below meth c H locs cells slots Q (F0 m (pc + 1) ls (rest))) : W p l e R s m args below meth c H locs cells slots Q (F0 m pc ls (va :: rest)) := by
  intro T hT X
  obtain ⟨t, a, b⟩ := k T hT X
  refine ⟨t, ?_, b⟩
  jvm_step X.here [X.here.top, hexec, hb, hdg, hva]
  exact a
set_option maxHeartbeats 4000000 in
set_option maxRecDepth 100000 in
theorem jv_step {η : Type} {O : jv_Ops η} (hO : jv_Ok O) {D : va_G} {tc : Nat → ClassId} {base : Nat} {cst : Nat → Nat} {G : jv_X} {H0 : Heap} {p : Program} {l : Launch} {e : Env} {R : Room} {s : State} {m : MethodId} {args : Array Value} {below : List Frame} {meth : Method} {c : Code} {M : jv_MI} {d : Nat} {Q : State → Prop} {z0 l0 : Nat}
    (F : jv_Fx D tc base cst G H0 p R s m args meth c M d) {pc n a b t u : Nat} {z : Int} {i : Jvm.ClassFile.Instr} (hd : decode M.2.2.1 pc = .ok (i, n)) (hk : jv_lk M (pc, i, n, a, b, t, u, z) = true)
    {pc' : Nat} {ls ls' : jv_L} {st st' : List Value} {h h' : η} (hn : jv_nxt O G M (pc, i, n, a, b, t, u, z) ls st h = some (.inl (pc', ls', st', h'))) (hroom : O.1 h' - z0 ≤ R.cells ∧ O.2.1 h' - l0 ≤ R.slots)
    (kk : jv_PW O D tc base cst H0 p l e R s m args below meth c Q z0 l0 M.2.2.2.1 pc' ls' st' h') : jv_PW O D tc base cst H0 p l e R s m args below meth c Q z0 l0 M.2.2.2.1 pc ls st h := by
  obtain ⟨hx, hb, hml, hown, hts, hmn, hret, hlocks, hK, hfr, hlo⟩ := F
  cases i
  case iadd =>
    obtain ⟨x, y, r, rfl, hn⟩ := jv_i2_e (show jv_i2 st _ = some _ from hn)
    obtain ⟨rfl, rfl, rfl, rfl⟩ := jv_go_e hn
    obtain rfl : n = 1 := eq_of_beq hk
    exact fun H locs lm hA => lv_iadd hx hb hd (kk H locs lm hA)
  case isub =>
    obtain ⟨x, y, r, rfl, hn⟩ := jv_i2_e (show jv_i2 st _ = some _ from hn)
    obtain ⟨rfl, rfl, rfl, rfl⟩ := jv_go_e hn
    obtain rfl : n = 1 := eq_of_beq hk
    exact fun H locs lm hA => lv_isub hx hb hd (kk H locs lm hA)
  case imul =>
    obtain ⟨x, y, r, rfl, hn⟩ := jv_i2_e (show jv_i2 st _ = some _ from hn)
    obtain ⟨rfl, rfl, rfl, rfl⟩ := jv_go_e hn
    obtain rfl : n = 1 := eq_of_beq hk
    exact fun H locs lm hA => lv_imul hx hb hd (kk H locs lm hA)
  case iand =>
    obtain ⟨x, y, r, rfl, hn⟩ := jv_i2_e (show jv_i2 st _ = some _ from hn)
    obtain ⟨rfl, rfl, rfl, rfl⟩ := jv_go_e hn
    obtain rfl : n = 1 := eq_of_beq hk
    exact fun H locs lm hA => lv_iand hx hb hd (kk H locs lm hA)
  case ior =>
    obtain ⟨x, y, r, rfl, hn⟩ := jv_i2_e (show jv_i2 st _ = some _ from hn)
    obtain ⟨rfl, rfl, rfl, rfl⟩ := jv_go_e hn
    obtain rfl : n = 1 := eq_of_beq hk
    exact fun H locs lm hA => lv_ior hx hb hd (kk H locs lm hA)
  case ishl =>
    obtain ⟨x, y, r, rfl, hn⟩ := jv_i2_e (show jv_i2 st _ = some _ from hn)
    obtain ⟨rfl, rfl, rfl, rfl⟩ := jv_go_e hn
    obtain rfl : n = 1 := eq_of_beq hk
    exact fun H locs lm hA => lv_ishl hx hb hd (kk H locs lm hA)
  case ishr =>
    obtain ⟨x, y, r, rfl, hn⟩ := jv_i2_e (show jv_i2 st _ = some _ from hn)
    obtain ⟨rfl, rfl, rfl, rfl⟩ := jv_go_e hn
    obtain rfl : n = 1 := eq_of_beq hk
    exact fun H locs lm hA => lv_ishr hx hb hd (kk H locs lm hA)
  case iushr =>
    obtain ⟨x, y, r, rfl, hn⟩ := jv_i2_e (show jv_i2 st _ = some _ from hn)
    obtain ⟨rfl, rfl, rfl, rfl⟩ := jv_go_e hn
    obtain rfl : n = 1 := eq_of_beq hk
    exact fun H locs lm hA => lv_iushr hx hb hd rfl (kk H locs lm hA)
  case idiv =>
    obtain ⟨x, y, r, rfl, hn⟩ := jv_i2_e (show jv_i2 st _ = some _ from hn)
    have hm : (if y = 0 then none else jv_go _ _ _ _) = some _ := hn
    by_cases hy : y = 0
    · rw [if_pos hy] at hm; cases hm
    rw [if_neg hy] at hm
    obtain ⟨rfl, rfl, rfl, rfl⟩ := jv_go_e hm
    obtain rfl : n = 1 := eq_of_beq hk
    exact fun H locs lm hA => lv_idiv hx hb hd hy (kk H locs lm hA)
  case irem =>
    obtain ⟨x, y, r, rfl, hn⟩ := jv_i2_e (show jv_i2 st _ = some _ from hn)
    have hm : (if y = 0 then none else jv_go _ _ _ _) = some _ := hn
    by_cases hy : y = 0
    · rw [if_pos hy] at hm; cases hm
    rw [if_neg hy] at hm
    obtain ⟨rfl, rfl, rfl, rfl⟩ := jv_go_e hm
    obtain rfl : n = 1 := eq_of_beq hk
    exact fun H locs lm hA => lv_irem hx hb hd hy (kk H locs lm hA)
  case ineg =>
    obtain ⟨x, r, rfl, hn⟩ := jv_i1_e (show jv_i1 st _ = some _ from hn)
    obtain ⟨rfl, rfl, rfl, rfl⟩ := jv_go_e hn
    obtain rfl : n = 1 := eq_of_beq hk
    exact fun H locs lm hA => lv_ineg hx hb hd (kk H locs lm hA)
  case land =>
    obtain ⟨x, y, r, rfl, hn⟩ := jv_l2_e (show jv_l2 st _ = some _ from hn)
    obtain ⟨rfl, rfl, rfl, rfl⟩ := jv_go_e hn
    obtain rfl : n = 1 := eq_of_beq hk
    exact fun H locs lm hA => lv_land hx hb hd (kk H locs lm hA)
  case lor =>
    obtain ⟨x, y, r, rfl, hn⟩ := jv_l2_e (show jv_l2 st _ = some _ from hn)
    obtain ⟨rfl, rfl, rfl, rfl⟩ := jv_go_e hn
    obtain rfl : n = 1 := eq_of_beq hk
    exact fun H locs lm hA => lv_lor hx hb hd (kk H locs lm hA)
  case lcmp =>
    obtain ⟨x, y, r, rfl, hn⟩ := jv_l2_e (show jv_l2 st _ = some _ from hn)
    obtain ⟨rfl, rfl, rfl, rfl⟩ := jv_go_e hn
    obtain rfl : n = 1 := eq_of_beq hk
    exact fun H locs lm hA => W.lcmp hx hb hd (kk H locs lm hA)
  case lshl =>
    obtain ⟨x, y, r, rfl, hn⟩ := jv_li_e (show jv_li st _ = some _ from hn)
    obtain ⟨rfl, rfl, rfl, rfl⟩ := jv_go_e hn
    obtain rfl : n = 1 := eq_of_beq hk
    exact fun H locs lm hA => lv_lshl hx hb hd rfl (kk H locs lm hA)
  case lshr =>
    obtain ⟨x, y, r, rfl, hn⟩ := jv_li_e (show jv_li st _ = some _ from hn)
    obtain ⟨rfl, rfl, rfl, rfl⟩ := jv_go_e hn
    obtain rfl : n = 1 := eq_of_beq hk
    exact fun H locs lm hA => lv_lshr hx hb hd rfl (kk H locs lm hA)
  case i2l =>
    obtain ⟨x, r, rfl, hn⟩ := jv_i1_e (show jv_i1 st _ = some _ from hn)
    obtain ⟨rfl, rfl, rfl, rfl⟩ := jv_go_e hn
    obtain rfl : n = 1 := eq_of_beq hk
    exact fun H locs lm hA => lv_i2l hx hb hd rfl (kk H locs lm hA)
  case i2c =>
    obtain ⟨x, r, rfl, hn⟩ := jv_i1_e (show jv_i1 st _ = some _ from hn)
    obtain ⟨rfl, rfl, rfl, rfl⟩ := jv_go_e hn
    obtain rfl : n = 1 := eq_of_beq hk
    exact fun H locs lm hA => lv_i2c hx hb hd rfl (kk H locs lm hA)
  case l2i =>
    obtain ⟨x, r, rfl, hn⟩ := jv_l1_e (show jv_l1 st _ = some _ from hn)
    obtain ⟨rfl, rfl, rfl, rfl⟩ := jv_go_e hn
    obtain rfl : n = 1 := eq_of_beq hk
    exact fun H locs lm hA => lv_l2i hx hb hd rfl (kk H locs lm hA)
  case iconst q =>
    obtain ⟨rfl, rfl, rfl, rfl⟩ := jv_go_e (show jv_go _ _ _ _ = some _ from hn)
    obtain ⟨hk1, hk2⟩ := (Bool.and_eq_true _ _).mp (show (n == 1 && decide _) = true from hk)
    obtain rfl : n = 1 := eq_of_beq hk1
    exact fun H locs lm hA => lv_iconst hx hb hd (of_decide_eq_true hk2) (kk H locs lm hA)
  case bipush q =>
    obtain ⟨rfl, rfl, rfl, rfl⟩ := jv_go_e (show jv_go _ _ _ _ = some _ from hn)
    obtain ⟨hk1, hk2⟩ := (Bool.and_eq_true _ _).mp (show (n == 2 && decide _) = true from hk)
    obtain rfl : n = 2 := eq_of_beq hk1
    exact fun H locs lm hA => lv_bipush hx hb hd (of_decide_eq_true hk2) (kk H locs lm hA)
  case sipush q =>
    obtain ⟨rfl, rfl, rfl, rfl⟩ := jv_go_e (show jv_go _ _ _ _ = some _ from hn)
    obtain ⟨hk1, hk2⟩ := (Bool.and_eq_true _ _).mp (show (n == 3 && decide _) = true from hk)
    obtain rfl : n = 3 := eq_of_beq hk1
    exact fun H locs lm hA => lv_sipush hx hb hd (of_decide_eq_true hk2) (kk H locs lm hA)
  case ldc ix =>
    obtain ⟨hk1, hk2⟩ := (Bool.and_eq_true _ _).mp (show (n == 2 && (if a = 0 then _ else _)) = true from hk)
    obtain rfl : n = 2 := eq_of_beq hk1
    have hn : (if a = 0 then jv_go _ _ _ _ else jv_go _ _ _ _) = some _ := hn
    by_cases ha : a = 0
    · rw [if_pos ha] at hn hk2
      obtain ⟨rfl, rfl, rfl, rfl⟩ := jv_go_e hn
      exact fun H locs lm hA => lv_ldc hx hb hown (hts _ (jv_tw_in hk2)) hd (kk H locs lm hA)
    · rw [if_neg ha] at hn hk2
      obtain ⟨rfl, rfl, rfl, rfl⟩ := jv_go_e hn
      rw [Bool.or_eq_true, Bool.and_eq_true, Bool.and_eq_true, Bool.and_eq_true, Bool.and_eq_true] at hk2
      rcases hk2 with ⟨⟨h1, h2⟩, h3⟩ | ⟨⟨h1, h2⟩, h3⟩
      · obtain rfl := eq_of_beq h1
        obtain rfl := eq_of_beq h3
        have h2 := of_decide_eq_true h2
        rw [h2] at hown
        exact fun H locs lm hA => va_ldcS (q := cst 1) hx hb hown (hK.2.2.2.2.2.2.2.2.2.1 0 (by omega)).1 hd (kk H locs lm hA)
      · obtain rfl := eq_of_beq h1
        obtain rfl := eq_of_beq h3
        have h2 := of_decide_eq_true h2
        rw [h2] at hown
        exact fun H locs lm hA => va_ldcS (q := cst 2) hx hb hown (hK.2.2.2.2.2.2.2.2.2.1 1 (by omega)).1 hd (kk H locs lm hA)
  case ldc_w ix =>
    obtain ⟨hk1, hk2⟩ := (Bool.and_eq_true _ _).mp (show (n == 3 && jv_tw _ _) = true from hk)
    obtain rfl : n = 3 := eq_of_beq hk1
    obtain ⟨rfl, rfl, rfl, rfl⟩ := jv_go_e (show jv_go _ _ _ _ = some _ from hn)
    exact fun H locs lm hA => lv_ldcw hx hb hown (hts _ (jv_tw_in hk2)) hd (kk H locs lm hA)
  case ldc2_w ix =>
    obtain ⟨hk1, hk2⟩ := (Bool.and_eq_true _ _).mp (show (n == 3 && jv_tw _ _) = true from hk)
    obtain rfl : n = 3 := eq_of_beq hk1
    obtain ⟨rfl, rfl, rfl, rfl⟩ := jv_go_e (show jv_go _ _ _ _ = some _ from hn)
    exact fun H locs lm hA => lv_ldc2 hx hb hown (hts _ (jv_tw_in hk2)) hd (kk H locs lm hA)
  case iload q =>
    obtain ⟨x, hl, hn⟩ := jv_ild_e (show jv_ild ls _ _ = some _ from hn)
    obtain ⟨rfl, rfl, rfl, rfl⟩ := jv_go_e hn
    obtain rfl : n = 2 := eq_of_beq hk
    exact fun H locs lm hA => lv_iload hx hb hd (hA.2.2.1.2.2.2 _ _ hl) (kk H locs lm hA)
  case aload q =>
    obtain ⟨x, hl, hn⟩ := jv_ald_e (show jv_ald ls _ _ = some _ from hn)
    obtain ⟨rfl, rfl, rfl, rfl⟩ := jv_go_e hn
    obtain rfl : n = 2 := eq_of_beq hk
    exact fun H locs lm hA => lv_aload hx hb hd (hA.2.2.1.2.2.2 _ _ hl) (kk H locs lm hA)
  case iload_n q =>
    obtain ⟨x, hl, hn⟩ := jv_ild_e (show jv_ild ls _ _ = some _ from hn)
    obtain ⟨rfl, rfl, rfl, rfl⟩ := jv_go_e hn
    obtain rfl : n = 1 := eq_of_beq hk
    exact fun H locs lm hA => lv_iload_n hx hb hd rfl (hA.2.2.1.2.2.2 _ _ hl) (kk H locs lm hA)
  case aload_n q =>
    obtain ⟨x, hl, hn⟩ := jv_ald_e (show jv_ald ls _ _ = some _ from hn)
    obtain ⟨rfl, rfl, rfl, rfl⟩ := jv_go_e hn
    obtain rfl : n = 1 := eq_of_beq hk
    exact fun H locs lm hA => lv_aload_n hx hb hd rfl (hA.2.2.1.2.2.2 _ _ hl) (kk H locs lm hA)
  case lload_n q =>
    obtain ⟨x, hl, hn⟩ := jv_lld_e (show jv_lld ls _ _ = some _ from hn)
    obtain ⟨rfl, rfl, rfl, rfl⟩ := jv_go_e hn
    obtain rfl : n = 1 := eq_of_beq hk
    exact fun H locs lm hA => lv_lload_n hx hb hd rfl (hA.2.2.1.2.2.2 _ _ hl) (kk H locs lm hA)
  case istore q =>
    obtain ⟨x, r, rfl, hm⟩ := jv_i1_e (show jv_i1 st _ = some _ from hn)
    obtain ⟨⟨hi, hf⟩, hm⟩ := jv_st_e hm
    obtain ⟨rfl, rfl, rfl, rfl⟩ := jv_go_e hm
    obtain rfl : n = 2 := eq_of_beq hk
    exact fun H locs lm hA => lv_istore hx hb hd (jv_LR_has hA.2.2.1) (by rw [← hA.2.2.1.2.1]; exact hi) rfl (fun lm2 h2 => kk H locs lm2 ⟨hA.1, hA.2.1, jv_LR_set hA.2.2.1.2.1 hi hf rfl h2, hA.2.2.2⟩)
  case istore_n q =>
    obtain ⟨x, r, rfl, hm⟩ := jv_i1_e (show jv_i1 st _ = some _ from hn)
    obtain ⟨⟨hi, hf⟩, hm⟩ := jv_st_e hm
    obtain ⟨rfl, rfl, rfl, rfl⟩ := jv_go_e hm
    obtain rfl : n = 1 := eq_of_beq hk
    exact fun H locs lm hA => lv_istore_n hx hb hd rfl (jv_LR_has hA.2.2.1) (by rw [← hA.2.2.1.2.1]; exact hi) rfl (fun lm2 h2 => kk H locs lm2 ⟨hA.1, hA.2.1, jv_LR_set hA.2.2.1.2.1 hi hf rfl h2, hA.2.2.2⟩)
  case astore q =>
    obtain ⟨x, r, rfl, hm⟩ := jv_r1_e (show jv_r1 st _ = some _ from hn)
    obtain ⟨⟨hi, hf⟩, hm⟩ := jv_st_e hm
    obtain ⟨rfl, rfl, rfl, rfl⟩ := jv_go_e hm
    obtain rfl : n = 2 := eq_of_beq hk
    exact fun H locs lm hA => lv_astore hx hb hd (jv_LR_has hA.2.2.1) (by rw [← hA.2.2.1.2.1]; exact hi) rfl (fun lm2 h2 => kk H locs lm2 ⟨hA.1, hA.2.1, jv_LR_set hA.2.2.1.2.1 hi hf rfl h2, hA.2.2.2⟩)
  case astore_n q =>
    obtain ⟨x, r, rfl, hm⟩ := jv_r1_e (show jv_r1 st _ = some _ from hn)
    obtain ⟨⟨hi, hf⟩, hm⟩ := jv_st_e hm
    obtain ⟨rfl, rfl, rfl, rfl⟩ := jv_go_e hm
    obtain rfl : n = 1 := eq_of_beq hk
    exact fun H locs lm hA => lv_astore_n hx hb hd rfl (jv_LR_has hA.2.2.1) (by rw [← hA.2.2.1.2.1]; exact hi) rfl (fun lm2 h2 => kk H locs lm2 ⟨hA.1, hA.2.1, jv_LR_set hA.2.2.1.2.1 hi hf rfl h2, hA.2.2.2⟩)
  case iinc q k =>
    obtain ⟨x, hl, hn⟩ := jv_ild_e (show jv_ild ls _ _ = some _ from hn)
    obtain ⟨⟨hi, hf⟩, hn⟩ := jv_st_e hn
    obtain ⟨rfl, rfl, rfl, rfl⟩ := jv_go_e hn
    obtain rfl : n = 3 := eq_of_beq hk
    intro H locs lm hA
    obtain ⟨j, hj⟩ := List.getElem?_of_mem (jv_al_in.mpr ⟨_, hl, rfl⟩ : (q, jv_cv base cst (.int x)) ∈ jv_al base cst ls)
    exact lv_iinc hx hb hd (jv_LR_has hA.2.2.1) hj rfl (by rw [← hA.2.2.1.2.1]; exact hi) rfl (fun lm2 h2 => kk H locs lm2 ⟨hA.1, hA.2.1, jv_LR_set hA.2.2.1.2.1 hi hf rfl h2, hA.2.2.2⟩)
  case dup =>
    match st, hn with
    | v :: r, hn =>
      obtain ⟨h1, hn⟩ := jv_if_e (show (if jv_c1 v = true then jv_go _ _ _ _ else none) = some _ from hn)
      obtain ⟨rfl, rfl, rfl, rfl⟩ := jv_go_e hn
      obtain rfl : n = 1 := eq_of_beq hk
      exact fun H locs lm hA => lv_dup hx hb hd (by rw [jv_cv_cat]; exact jv_c1_e h1) (kk H locs lm hA)
    | [], hn => exact absurd hn (fun q => by cases q)
  case dup2 =>
    match st, hn with
    | v :: w :: r, hn =>
      obtain ⟨h1, hn⟩ := jv_if_e (show (if jv_c1 v = true ∧ jv_c1 w = true then jv_go _ _ _ _ else none) = some _ from hn)
      obtain ⟨rfl, rfl, rfl, rfl⟩ := jv_go_e hn
      obtain rfl : n = 1 := eq_of_beq hk
      exact fun H locs lm hA => lv_dup2_11 hx hb hd (by rw [jv_cv_cat]; exact jv_c1_e h1.1) (by rw [jv_cv_cat]; exact jv_c1_e h1.2) (kk H locs lm hA)
    | [v], hn => exact absurd hn (fun q => by cases q)
    | [], hn => exact absurd hn (fun q => by cases q)
  case pop2 =>
    obtain ⟨x, r, rfl, hn⟩ := jv_l1_e (show jv_l1 st _ = some _ from hn)
    obtain ⟨rfl, rfl, rfl, rfl⟩ := jv_go_e hn
    obtain rfl : n = 1 := eq_of_beq hk
    exact fun H locs lm hA => jz_pop2 hx hb hd rfl (kk H locs lm hA)
  case pop =>
    match st, hn with
    | v :: r, hn =>
      obtain ⟨h1, hn⟩ := jv_if_e (show (if jv_c1 v = true then jv_go _ _ _ _ else none) = some _ from hn)
      obtain ⟨rfl, rfl, rfl, rfl⟩ := jv_go_e hn
      obtain rfl : n = 1 := eq_of_beq hk
      exact fun H locs lm hA => lv_pop hx hb hd (by rw [jv_cv_cat]; exact jv_c1_e h1) (kk H locs lm hA)
    | [], hn => exact absurd hn (fun q => by cases q)
  case goto off =>
    obtain ⟨hk1, hk2⟩ := (Bool.and_eq_true _ _).mp (show (n == 3 && decide _) = true from hk)
    obtain rfl : n = 3 := eq_of_beq hk1
    obtain ⟨rfl, rfl, rfl, rfl⟩ := jv_go_e (show jv_go _ _ _ _ = some _ from hn)
    exact fun H locs lm hA => lv_goto hx hb hd (of_decide_eq_true hk2) (kk H locs lm hA)
  case ifCond cd off =>
    obtain ⟨hk1, hk2⟩ := (Bool.and_eq_true _ _).mp (show (n == 3 && decide _) = true from hk)
    obtain rfl : n = 3 := eq_of_beq hk1
    have ht := of_decide_eq_true hk2
    cases cd
    case eq =>
      obtain ⟨x, r, rfl, hn⟩ := jv_i1_e (show jv_i1 st _ = some _ from hn)
      obtain ⟨rfl, rfl, rfl, rfl⟩ := jv_go_e hn
      refine fun H locs lm hA => lv_if_eq hx hb hd ht (fun q => ?_) (fun q => ?_)
      · have := kk H locs lm hA
        rw [show decide (x = 0) = true from decide_eq_true q] at this
        exact this
      · have := kk H locs lm hA
        rw [show decide (x = 0) = false from decide_eq_false (q)] at this
        exact this
    case ne =>
      obtain ⟨x, r, rfl, hn⟩ := jv_i1_e (show jv_i1 st _ = some _ from hn)
      obtain ⟨rfl, rfl, rfl, rfl⟩ := jv_go_e hn
      refine fun H locs lm hA => lv_if_ne hx hb hd ht (fun q => ?_) (fun q => ?_)
      · have := kk H locs lm hA
        rw [show decide (x ≠ 0) = true from decide_eq_true q] at this
        exact this
      · have := kk H locs lm hA
        rw [show decide (x ≠ 0) = false from decide_eq_false (fun z => z q)] at this
        exact this
    case lt =>
      obtain ⟨x, r, rfl, hn⟩ := jv_i1_e (show jv_i1 st _ = some _ from hn)
      obtain ⟨rfl, rfl, rfl, rfl⟩ := jv_go_e hn
      refine fun H locs lm hA => lv_if_lt hx hb hd ht (fun q => ?_) (fun q => ?_)
      · have := kk H locs lm hA
        rw [show decide (x < 0) = true from decide_eq_true q] at this
        exact this
      · have := kk H locs lm hA
        rw [show decide (x < 0) = false from decide_eq_false (q)] at this
        exact this
    case ge =>
      obtain ⟨x, r, rfl, hn⟩ := jv_i1_e (show jv_i1 st _ = some _ from hn)
      obtain ⟨rfl, rfl, rfl, rfl⟩ := jv_go_e hn
      refine fun H locs lm hA => lv_if_ge hx hb hd ht (fun q => ?_) (fun q => ?_)
      · have := kk H locs lm hA
        rw [show decide (x ≥ 0) = true from decide_eq_true q] at this
        exact this
      · have := kk H locs lm hA
        rw [show decide (x ≥ 0) = false from decide_eq_false (q)] at this
        exact this
    case gt =>
      obtain ⟨x, r, rfl, hn⟩ := jv_i1_e (show jv_i1 st _ = some _ from hn)
      obtain ⟨rfl, rfl, rfl, rfl⟩ := jv_go_e hn
      refine fun H locs lm hA => lv_if_gt hx hb hd ht (fun q => ?_) (fun q => ?_)
      · have := kk H locs lm hA
        rw [show decide (x > 0) = true from decide_eq_true q] at this
        exact this
      · have := kk H locs lm hA
        rw [show decide (x > 0) = false from decide_eq_false (q)] at this
        exact this
    case le =>
      obtain ⟨x, r, rfl, hn⟩ := jv_i1_e (show jv_i1 st _ = some _ from hn)
      obtain ⟨rfl, rfl, rfl, rfl⟩ := jv_go_e hn
      refine fun H locs lm hA => lv_if_le hx hb hd ht (fun q => ?_) (fun q => ?_)
      · have := kk H locs lm hA
        rw [show decide (x ≤ 0) = true from decide_eq_true q] at this
        exact this
      · have := kk H locs lm hA
        rw [show decide (x ≤ 0) = false from decide_eq_false (q)] at this
        exact this
  case if_icmp cd off =>
    obtain ⟨hk1, hk2⟩ := (Bool.and_eq_true _ _).mp (show (n == 3 && decide _) = true from hk)
    obtain rfl : n = 3 := eq_of_beq hk1
    have ht := of_decide_eq_true hk2
    cases cd
    case eq =>
      obtain ⟨x, y, r, rfl, hn⟩ := jv_i2_e (show jv_i2 st _ = some _ from hn)
      obtain ⟨rfl, rfl, rfl, rfl⟩ := jv_go_e hn
      refine fun H locs lm hA => lv_icmp_eq hx hb hd ht (fun q => ?_) (fun q => ?_)
      · have := kk H locs lm hA
        rw [show decide (x = y) = true from decide_eq_true q] at this
        exact this
      · have := kk H locs lm hA
        rw [show decide (x = y) = false from decide_eq_false (q)] at this
        exact this
    case ne =>
      obtain ⟨x, y, r, rfl, hn⟩ := jv_i2_e (show jv_i2 st _ = some _ from hn)
      obtain ⟨rfl, rfl, rfl, rfl⟩ := jv_go_e hn
      refine fun H locs lm hA => lv_icmp_ne hx hb hd ht (fun q => ?_) (fun q => ?_)
      · have := kk H locs lm hA
        rw [show decide (x ≠ y) = true from decide_eq_true q] at this
        exact this
      · have := kk H locs lm hA
        rw [show decide (x ≠ y) = false from decide_eq_false (fun z => z q)] at this
        exact this
    case lt =>
      obtain ⟨x, y, r, rfl, hn⟩ := jv_i2_e (show jv_i2 st _ = some _ from hn)
      obtain ⟨rfl, rfl, rfl, rfl⟩ := jv_go_e hn
      refine fun H locs lm hA => lv_icmp_lt hx hb hd ht (fun q => ?_) (fun q => ?_)
      · have := kk H locs lm hA
        rw [show decide (x < y) = true from decide_eq_true q] at this
        exact this
      · have := kk H locs lm hA
        rw [show decide (x < y) = false from decide_eq_false (q)] at this
        exact this
    case ge =>
      obtain ⟨x, y, r, rfl, hn⟩ := jv_i2_e (show jv_i2 st _ = some _ from hn)
      obtain ⟨rfl, rfl, rfl, rfl⟩ := jv_go_e hn
      refine fun H locs lm hA => lv_icmp_ge hx hb hd ht (fun q => ?_) (fun q => ?_)
      · have := kk H locs lm hA
        rw [show decide (x ≥ y) = true from decide_eq_true q] at this
        exact this
      · have := kk H locs lm hA
        rw [show decide (x ≥ y) = false from decide_eq_false (q)] at this
        exact this
    case gt =>
      obtain ⟨x, y, r, rfl, hn⟩ := jv_i2_e (show jv_i2 st _ = some _ from hn)
      obtain ⟨rfl, rfl, rfl, rfl⟩ := jv_go_e hn
      refine fun H locs lm hA => lv_icmp_gt hx hb hd ht (fun q => ?_) (fun q => ?_)
      · have := kk H locs lm hA
        rw [show decide (x > y) = true from decide_eq_true q] at this
        exact this
      · have := kk H locs lm hA
        rw [show decide (x > y) = false from decide_eq_false (q)] at this
        exact this
    case le =>
      obtain ⟨x, y, r, rfl, hn⟩ := jv_i2_e (show jv_i2 st _ = some _ from hn)
      obtain ⟨rfl, rfl, rfl, rfl⟩ := jv_go_e hn
      refine fun H locs lm hA => lv_icmp_le hx hb hd ht (fun q => ?_) (fun q => ?_)
      · have := kk H locs lm hA
        rw [show decide (x ≤ y) = true from decide_eq_true q] at this
        exact this
      · have := kk H locs lm hA
        rw [show decide (x ≤ y) = false from decide_eq_false (q)] at this
        exact this
  case tableswitch dd lo hi offs =>
    obtain ⟨hk1, hk2⟩ := (Bool.and_eq_true _ _).mp (show (decide _ && Array.all _ _) = true from hk)
    obtain ⟨x, r, rfl, hn⟩ := jv_i1_e (show jv_i1 st _ = some _ from hn)
    by_cases hc : x.toInt < lo ∨ hi < x.toInt
    · have hn : (if x.toInt < lo ∨ hi < x.toInt then jv_go _ _ _ _ else _) = some _ := hn
      rw [if_pos hc] at hn
      obtain ⟨rfl, rfl, rfl, rfl⟩ := jv_go_e hn
      exact fun H locs lm hA => lv_tableOut hx hb hd hc (Int.toNat_of_nonneg (of_decide_eq_true hk1)).symm (kk H locs lm hA)
    · have hn : (if x.toInt < lo ∨ hi < x.toInt then jv_go _ _ _ _ else (match offs[(x.toInt - lo).toNat]? with
        | some o => jv_go (((pc : Int) + o).toNat) ls r h
        | none => none)) = some _ := hn
      rw [if_neg hc] at hn
      cases ho : offs[(x.toInt - lo).toNat]? with
      | none => rw [ho] at hn; cases hn
      | some o =>
        rw [ho] at hn
        obtain ⟨rfl, rfl, rfl, rfl⟩ := jv_go_e hn
        have h0 : 0 ≤ (pc : Int) + o := by
          obtain ⟨hlt, he⟩ := Array.getElem?_eq_some_iff.mp ho
          have := Array.all_eq_true.mp hk2 _ hlt
          rw [he] at this
          exact of_decide_eq_true this
        exact fun H locs lm hA => lv_tableIn hx hb hd (fun q => hc (Or.inl q)) (fun q => hc (Or.inr q)) ho (Int.toNat_of_nonneg h0).symm (kk H locs lm hA)
  case getstatic ix =>
    obtain ⟨hk1, hk2⟩ := (Bool.and_eq_true _ _).mp (show (n == 3 && (if a = 0 then _ else _)) = true from hk)
    obtain rfl : n = 3 := eq_of_beq hk1
    have hn : (if a = 0 then jv_go _ _ _ _ else if a = 1 then jv_go _ _ _ _ else none) = some _ := hn
    by_cases ha : a = 0
    · rw [if_pos ha] at hn hk2
      obtain ⟨rfl, rfl, rfl, rfl⟩ := jv_go_e hn
      intro H locs lm hA
      obtain ⟨cf, kf, fi, f, q, cell, h1, h2, h3, h4, h5, h6, h7, h8⟩ := hK.2.2.2.2.2.2.2.2.2.2.1
      exact W.gets hx hb hown (hts _ (jv_tw_in hk2)) h1 h2 h3 h4 (by rw [hA.2.1 q (Nat.not_le.mp h8)]; exact h5) (fun e => by rw [e] at h6; cases h6) h7 rfl hd (kk H locs lm hA)
    · rw [if_neg ha] at hn hk2
      by_cases ha2 : a = 1
      · rw [if_pos ha2] at hn hk2
        obtain ⟨rfl, rfl, rfl, rfl⟩ := jv_go_e hn
        intro H locs lm hA
        obtain ⟨cf, kf, fi, f, q, cell, h1, h2, h3, h4, h5, h6, h7, h8⟩ := hK.2.2.2.2.2.2.2.2.2.2.2
        exact W.gets hx hb hown (hts _ (jv_tw_in hk2)) h1 h2 h3 h4 (by rw [hA.2.1 q (Nat.not_le.mp h8)]; exact h5) (fun e => by rw [e] at h6; cases h6) h7 rfl hd (kk H locs lm hA)
      · rw [if_neg ha2] at hn; cases hn
  case getfield ix =>
    obtain ⟨hk1, hk2⟩ := (Bool.and_eq_true _ _).mp (show (n == 3 && (if a = 20 then _ else _)) = true from hk)
    obtain rfl : n = 3 := eq_of_beq hk1
    obtain ⟨q, r, rfl, hn⟩ := jv_r1_e (show jv_r1 st _ = some _ from hn)
    have hn : (if q < O.1 h then (if (O.2.2.1 h q).1 = a ∧ a < 13 then jv_go _ _ _ _ else none) else (if a = 20 ∧ (q = 1000001 ∨ q = 1000002) then (if b = 0 then jv_go _ _ _ _ else jv_go _ _ _ _) else none)) = some _ := hn
    by_cases hq : q < O.1 h
    · rw [if_pos hq] at hn
      obtain ⟨⟨hka, ha13⟩, hn⟩ := jv_if_e hn
      obtain ⟨rfl, rfl, rfl, rfl⟩ := jv_go_e hn
      intro H locs lm hA
      have hcel := hA.1.2 q hq
      rw [if_neg (show ¬ a = 20 by omega)] at hk2
      cases hr : vwCl[a]? with
      | none => rw [hr] at hk2; cases hk2
      | some rr =>
        rw [hr] at hk2
        obtain ⟨hbk, hw⟩ := (Bool.and_eq_true _ _).mp hk2
        have hbk := of_decide_eq_true hbk
        have hcel := jv_cel_obj (r := rr) (by rw [hka]; exact hr) hcel
        rw [hka] at hcel
        obtain ⟨cell, q1, q2, q3, q4⟩ := hcel
        obtain ⟨hS, hfc, kC, hkC, hkind⟩ := hK.1.1 a rr hr
        obtain ⟨cf, kf, fi, f, hi, hsl⟩ := hS b hbk
        have hlt : ¬ 1000000 ≤ q := by have := hO.1 h; omega
        show W p l e R s m args below meth c H locs _ _ Q (F0 m pc lm (.ref (if q < 1000000 then base + q else cst (q - 1000000)) :: _))
        rw [if_pos (show q < 1000000 by omega)]
        exact W.getf hx hb hown (hts _ (jv_tw_in hw)) hi (u_facts hfc hkC (u_lays hts (jv_vw_in a rr hr).2.1 hbk) hi).1 q1 (by rw [q3]; exact fun h => by cases h) (by rw [hsl]; exact q4 b hbk) rfl rfl hd (kk H locs lm hA)
    · rw [if_neg hq] at hn
      obtain ⟨⟨ha, hqq⟩, hn⟩ := jv_if_e hn
      rw [if_pos ha] at hk2
      have hq01 : ∃ i, i < 2 ∧ q = 1000001 + i := by
        rcases hqq with h | h
        · exact ⟨0, by omega, h⟩
        · exact ⟨1, by omega, h⟩
      obtain ⟨i, hi2, rfl⟩ := hq01
      obtain ⟨-, -, g3, g4, -⟩ := hK.2.2.2.2.2.2.2.2.2.1 i hi2
      by_cases hb0 : b = 0
      · rw [if_pos hb0] at hn hk2
        obtain ⟨rfl, rfl, rfl, rfl⟩ := jv_go_e hn
        intro H locs lm hA
        obtain ⟨cf, k, fi, f, cell, h1, h2, h3, h4, h5, h6⟩ := g4
        have := kk H locs lm hA
        have e1 : jv_cv base cst (.ref (1000001 + i)) = .ref (cst (1 + i)) := by
          show Value.ref (if _ then _ else _) = _
          rw [if_neg (show ¬ 1000001 + i < 1000000 by omega), show 1000001 + i - 1000000 = 1 + i by omega]
        have e2 : jv_cv base cst (.ref (1000001 + i + 2)) = .ref (cst (3 + i)) := by
          show Value.ref (if _ then _ else _) = _
          rw [if_neg (show ¬ 1000001 + i + 2 < 1000000 by omega), show 1000001 + i + 2 - 1000000 = 3 + i by omega]
        rw [List.map_cons, e1]
        rw [List.map_cons, e2] at this
        exact W.getf hx hb hown (hts _ (jv_tw_in hk2)) h1 h2 (by rw [hA.2.1 _ (Nat.not_le.mp h6)]; exact h3) h4 h5 rfl rfl hd this
      · rw [if_neg hb0] at hn hk2
        obtain ⟨rfl, rfl, rfl, rfl⟩ := jv_go_e hn
        intro H locs lm hA
        obtain ⟨cf, k, fi, f, cell, h1, h2, h3, h4, h5, h6⟩ := g3
        have := kk H locs lm hA
        have e1 : jv_cv base cst (.ref (1000001 + i)) = .ref (cst (1 + i)) := by
          show Value.ref (if _ then _ else _) = _
          rw [if_neg (show ¬ 1000001 + i < 1000000 by omega), show 1000001 + i - 1000000 = 1 + i by omega]
        rw [List.map_cons, e1]
        exact W.getf hx hb hown (hts _ (jv_tw_in hk2)) h1 h2 (by rw [hA.2.1 _ (Nat.not_le.mp h6)]; exact h3) h4 h5 rfl rfl hd this
  case iaload =>
    obtain rfl : n = 1 := eq_of_beq hk
    obtain ⟨q, i, r, rfl, hn⟩ := jv_ri_e (show jv_ri st _ = some _ from hn)
    have hn : (if q < O.1 h then (if (O.2.2.1 h q).1 = 13 ∧ jv_in i (O.2.2.1 h q).2 = true then jv_go _ _ _ _ else none) else (if q = 1000000 ∧ jv_in i G.1.1 = true then jv_go _ _ _ _ else none)) = some _ := hn
    by_cases hq : q < O.1 h
    · rw [if_pos hq] at hn
      obtain ⟨⟨hka, hin⟩, hn⟩ := jv_if_e hn
      obtain ⟨rfl, rfl, rfl, rfl⟩ := jv_go_e hn
      intro H locs lm hA
      have hin := jv_in_e hin
      have hcel := jv_cel_arr (by omega) (hA.1.2 q hq)
      have hlt : i.toNatClampNeg < (O.2.2.1 h q).2 := Nat.not_le.mp fun z => hin (Or.inr z)
      have hAr := (hK.2.1 13 (by omega) (by omega)).1
      rw [List.map_cons, List.map_cons, jv_cv_heap hO hq]
      refine W.iald hx hb hcel (by rw [hka]; exact hAr _ _) (fun z => by cases z) (by rw [arrV_size]; exact hin) (arrV_read _ _ hlt) rfl rfl hd (kk H locs lm hA)
    · rw [if_neg hq] at hn
      obtain ⟨⟨hq0, hin⟩, hm⟩ := jv_if_e hn
      obtain ⟨rfl, rfl, rfl, rfl⟩ := jv_go_e hm
      subst hq0
      intro H locs lm hA
      have hin := jv_in_e hin
      obtain ⟨g1, g2, ⟨scr, h1, h2, h3, h4, h5⟩, -⟩ := hK.2.2.2.2.2
      have hlt : i.toNatClampNeg < G.1.1 := Nat.not_le.mp fun z => hin (Or.inr z)
      exact W.iald (v := .int (G.1.2 i.toNatClampNeg)) (a := cst 0) hx hb (by rw [hA.2.1 _ g2]; exact h1) h2 h3 (by rw [h4]; exact hin) (h5 _ hlt) rfl rfl hd (kk H locs lm hA)
  case baload =>
    obtain rfl : n = 1 := eq_of_beq hk
    obtain ⟨q, i, r, rfl, hn⟩ := jv_ri_e (show jv_ri st _ = some _ from hn)
    have hn : (if q < O.1 h then (if (O.2.2.1 h q).1 = 14 ∧ jv_in i (O.2.2.1 h q).2 = true then jv_go _ _ _ _ else none) else (if (q = 1000003 ∨ q = 1000004) ∧ jv_in i (jv_sb q).length = true then jv_go _ _ _ _ else none)) = some _ := hn
    by_cases hq : q < O.1 h
    · rw [if_pos hq] at hn
      obtain ⟨⟨hka, hin⟩, hn⟩ := jv_if_e hn
      obtain ⟨rfl, rfl, rfl, rfl⟩ := jv_go_e hn
      intro H locs lm hA
      have hin := jv_in_e hin
      have hcel := jv_cel_arr (by omega) (hA.1.2 q hq)
      have hlt : i.toNatClampNeg < (O.2.2.1 h q).2 := Nat.not_le.mp fun z => hin (Or.inr z)
      have hAr := (hK.2.1 14 (by omega) (by omega)).1
      rw [List.map_cons, List.map_cons, jv_cv_heap hO hq]
      refine W.zald hx hb hcel (by rw [hka]; exact hAr _ _) (fun z => by cases z) (by rw [arrV_size]; exact hin) (arrV_read _ _ hlt) rfl rfl hd (kk H locs lm hA)
    · rw [if_neg hq] at hn
      obtain ⟨⟨hqq, hin⟩, hn⟩ := jv_if_e hn
      obtain ⟨rfl, rfl, rfl, rfl⟩ := jv_go_e hn
      intro H locs lm hA
      have hin := jv_in_e hin
      have hq01 : ∃ i, i < 2 ∧ q = 1000003 + i := by
        rcases hqq with h | h
        · exact ⟨0, by omega, h⟩
        · exact ⟨1, by omega, h⟩
      obtain ⟨k, hk2, rfl⟩ := hq01
      obtain ⟨-, -, -, -, cell, h1, h2, h3, h4, h5, h6, h7⟩ := hK.2.2.2.2.2.2.2.2.2.1 k hk2
      have hlt : i.toNatClampNeg < (jv_sb (1000003 + k)).length := Nat.not_le.mp fun z => hin (Or.inr z)
      have e1 : jv_cv base cst (.ref (1000003 + k)) = .ref (cst (3 + k)) := by
        show Value.ref (if _ then _ else _) = _
        rw [if_neg (show ¬ 1000003 + k < 1000000 by omega), show 1000003 + k - 1000000 = 3 + k by omega]
      rw [List.map_cons, List.map_cons, e1]
      refine W.bald hx hb (by rw [hA.2.1 _ (Nat.not_le.mp h7)]; exact h1) h2 h3 (fun z => hin (z.imp id fun z => by omega)) (h6 _ hlt) rfl rfl hd (kk H locs lm hA)
  case aaload =>
    obtain rfl : n = 1 := eq_of_beq hk
    obtain ⟨q, i, r, rfl, hn⟩ := jv_ri_e (show jv_ri st _ = some _ from hn)
    obtain ⟨⟨hq, hk1, hk2, hin⟩, hn⟩ := jv_if_e hn
    obtain ⟨rfl, rfl, rfl, rfl⟩ := jv_go_e hn
    intro H locs lm hA
    have hin := jv_in_e hin
    have hcel := jv_cel_arr (by omega) (hA.1.2 q hq)
    have hlt : i.toNatClampNeg < (O.2.2.1 h q).2 := Nat.not_le.mp fun z => hin (Or.inr z)
    have hAr := (hK.2.1 (O.2.2.1 h q).1 (by omega) hk2).1
    rw [List.map_cons, List.map_cons, jv_cv_heap hO hq]
    exact W.aald hx hb hcel (hAr _ _) (jv_aty_ref hk1) (fun z => by cases z) (by rw [arrV_size]; exact hin) (arrV_read _ _ hlt) rfl rfl hd (kk H locs lm hA)
  case arraylength =>
    obtain rfl : n = 1 := eq_of_beq hk
    obtain ⟨q, r, rfl, hn⟩ := jv_r1_e (show jv_r1 st _ = some _ from hn)
    have hn : (if q < O.1 h then (if 13 ≤ (O.2.2.1 h q).1 ∧ (O.2.2.1 h q).1 < 21 then jv_go _ _ _ _ else none) else (if q = 1000000 then jv_go _ _ _ _ else if q = 1000003 ∨ q = 1000004 then jv_go _ _ _ _ else none)) = some _ := hn
    by_cases hq : q < O.1 h
    · rw [if_pos hq] at hn
      obtain ⟨⟨hk1, hk2⟩, hn⟩ := jv_if_e hn
      obtain ⟨rfl, rfl, rfl, rfl⟩ := jv_go_e hn
      intro H locs lm hA
      have hcel := jv_cel_arr hk1 (hA.1.2 q hq)
      have hAr := (hK.2.1 (O.2.2.1 h q).1 hk1 hk2).1
      rw [List.map_cons, jv_cv_heap hO hq]
      exact W.alen hx hb hcel (hAr _ _) (by rw [arrV_size]) rfl rfl hd (kk H locs lm hA)
    · rw [if_neg hq] at hn
      by_cases hq0 : q = 1000000
      · rw [if_pos hq0] at hn
        obtain ⟨rfl, rfl, rfl, rfl⟩ := jv_go_e hn
        subst hq0
        intro H locs lm hA
        obtain ⟨g1, g2, ⟨scr, h1, h2, h3, h4, h5⟩, -⟩ := hK.2.2.2.2.2
        exact W.alen (n := Int32.ofNat G.1.1) (a := cst 0) hx hb (by rw [hA.2.1 _ g2]; exact h1) h2 (by rw [h4]) rfl rfl hd (kk H locs lm hA)
      · rw [if_neg hq0] at hn
        obtain ⟨hqq, hn⟩ := jv_if_e hn
        obtain ⟨rfl, rfl, rfl, rfl⟩ := jv_go_e hn
        intro H locs lm hA
        have hq01 : ∃ i, i < 2 ∧ q = 1000003 + i := by
          rcases hqq with h | h
          · exact ⟨0, by omega, h⟩
          · exact ⟨1, by omega, h⟩
        obtain ⟨k, hk2, rfl⟩ := hq01
        obtain ⟨-, -, -, -, cell, h1, h2, h3, h4, h5, h6, h7⟩ := hK.2.2.2.2.2.2.2.2.2.1 k hk2
        have e1 : jv_cv base cst (.ref (1000003 + k)) = .ref (cst (3 + k)) := by
          show Value.ref (if _ then _ else _) = _
          rw [if_neg (show ¬ 1000003 + k < 1000000 by omega), show 1000003 + k - 1000000 = 3 + k by omega]
        rw [List.map_cons, e1]
        exact W.alen hx hb (by rw [hA.2.1 _ (Nat.not_le.mp h7)]; exact h1) h2 h5 rfl rfl hd (kk H locs lm hA)
  case iastore =>
    obtain rfl : n = 1 := eq_of_beq hk
    obtain ⟨q, i, x, r, rfl, hn⟩ := jv_rii_e (show jv_rii st _ = some _ from hn)
    obtain ⟨⟨hq, hka, hin⟩, hn⟩ := jv_if_e hn
    cases hs : O.2.2.2.2.1 h q i.toNatClampNeg (.int x) with
    | none => rw [hs] at hn; cases hn
    | some h2 =>
      rw [hs] at hn
      obtain ⟨rfl, rfl, rfl, rfl⟩ := jv_go_e hn
      obtain ⟨z1, z2, z3, z4⟩ := hO.2.1 _ _ _ _ _ hs hq
      intro H locs lm hA
      have hin := jv_in_e hin
      have hcel := jv_cel_arr (by omega) (hA.1.2 q hq)
      have hAr := (hK.2.1 13 (by omega) (by omega)).1
      rw [List.map_cons, List.map_cons, List.map_cons, jv_cv_heap hO hq]
      refine W.iast hx hb hcel (by rw [hka]; exact hAr _ _) (fun z => by cases z) (by rw [arrV_size]; exact hin) rfl rfl hd (fun H1 e1 e2 e3 => ?_)
      rw [← z1, ← z2]
      refine kk H1 _ lm ⟨jv_Rep_set hO hA.1 hs hq e2 e3 ?_, fun y hy => (e3 y (Nat.ne_of_lt (Nat.lt_of_lt_of_le hy (Nat.le_add_right _ _)))).trans (hA.2.1 y hy), hA.2.2.1, jv_locs hA.2.2.2.1 (Nat.le_add_right _ _), by rw [z1]; exact hA.2.2.2.2.1, by rw [z2]; exact hA.2.2.2.2.2⟩
      unfold jv_cel
      rw [jv_vw_none (by omega)]
      rw [e1, arrV_store]
      rfl
  case bastore =>
    obtain rfl : n = 1 := eq_of_beq hk
    obtain ⟨q, i, x, r, rfl, hn⟩ := jv_rii_e (show jv_rii st _ = some _ from hn)
    obtain ⟨⟨hq, hka, hin, hx01⟩, hn⟩ := jv_if_e hn
    cases hs : O.2.2.2.2.1 h q i.toNatClampNeg (.int x) with
    | none => rw [hs] at hn; cases hn
    | some h2 =>
      rw [hs] at hn
      obtain ⟨rfl, rfl, rfl, rfl⟩ := jv_go_e hn
      obtain ⟨z1, z2, z3, z4⟩ := hO.2.1 _ _ _ _ _ hs hq
      intro H locs lm hA
      have hin := jv_in_e hin
      have hcel := jv_cel_arr (by omega) (hA.1.2 q hq)
      have hAr := (hK.2.1 14 (by omega) (by omega)).1
      have hnar : narrow .boolean (.int x) = .int x := by
        rcases hx01 with rfl | rfl <;> decide
      rw [List.map_cons, List.map_cons, List.map_cons, jv_cv_heap hO hq]
      refine W.zast hx hb hcel (by rw [hka]; exact hAr _ _) (fun z => by cases z) (by rw [arrV_size]; exact hin) rfl rfl hd (fun H1 e1 e2 e3 => ?_)
      rw [← z1, ← z2]
      refine kk H1 _ lm ⟨jv_Rep_set hO hA.1 hs hq e2 e3 ?_, fun y hy => (e3 y (Nat.ne_of_lt (Nat.lt_of_lt_of_le hy (Nat.le_add_right _ _)))).trans (hA.2.1 y hy), hA.2.2.1, jv_locs hA.2.2.2.1 (Nat.le_add_right _ _), by rw [z1]; exact hA.2.2.2.2.1, by rw [z2]; exact hA.2.2.2.2.2⟩
      unfold jv_cel
      rw [jv_vw_none (by omega)]
      rw [e1, hnar, arrV_store]
      rfl
  case aastore =>
    obtain rfl : n = 1 := eq_of_beq hk
    obtain ⟨q, i, x, r, rfl, hn⟩ := jv_rir_e (show jv_rir st _ = some _ from hn)
    obtain ⟨⟨hq, hxq, hk1, hk2, hel, hin⟩, hn⟩ := jv_if_e hn
    cases hs : O.2.2.2.2.1 h q i.toNatClampNeg (.ref x) with
    | none => rw [hs] at hn; cases hn
    | some h2 =>
      rw [hs] at hn
      obtain ⟨rfl, rfl, rfl, rfl⟩ := jv_go_e hn
      obtain ⟨z1, z2, z3, z4⟩ := hO.2.1 _ _ _ _ _ hs hq
      intro H locs lm hA
      have hin := jv_in_e hin
      have hcel := jv_cel_arr (by omega) (hA.1.2 q hq)
      obtain ⟨rr, hr, hty⟩ := jv_el_ty hk1 hk2
      obtain ⟨cellV, g1, g2, g3, -⟩ := jv_cel_obj (r := rr) (by rw [hel]; exact hr) (hA.1.2 x hxq)
      have hcls := (hK.1.1 _ rr hr).2
      have hra := (hK.2.1 (O.2.2.1 h q).1 (by omega) hk2).2
      rw [hty] at hra
      obtain ⟨kA, comp, k1, k2, k3, -⟩ := hra
      have hcomp : comp = D.1 (jv_el (O.2.2.1 h q).1) := Option.some.inj (k3.symm.trans hcls.1)
      subst hcomp
      obtain ⟨kC, hkC, -⟩ := hcls.2
      have hlt : i.toNatClampNeg < (O.2.2.1 h q).2 := Nat.not_le.mp fun z => hin (Or.inr z)
      rw [hel] at g2
      rw [List.map_cons, List.map_cons, List.map_cons, jv_cv_heap hO hq, jv_cv_heap hO hxq]
      refine W.aast hx hb hcel (fun q h => by cases h) (fun h => by cases h) k1 k2 rfl hkC ⟨fun z => hin (Or.inl z), by rw [arrV_size]; exact hlt⟩ g1 (fun q h => by rw [g3] at h; cases h) (by rw [g2]; exact hkC) (by rw [g2]; exact va_assign hcls) rfl rfl hd (fun H1 e1 e2 e3 => ?_)
      rw [← z1, ← z2]
      refine kk H1 _ lm ⟨jv_Rep_set hO hA.1 hs hq e2 e3 ?_, fun y hy => (e3 y (Nat.ne_of_lt (Nat.lt_of_lt_of_le hy (Nat.le_add_right _ _)))).trans (hA.2.1 y hy), hA.2.2.1, jv_locs hA.2.2.2.1 (Nat.le_add_right _ _), by rw [z1]; exact hA.2.2.2.2.1, by rw [z2]; exact hA.2.2.2.2.2⟩
      unfold jv_cel
      rw [jv_vw_none (by omega)]
      rw [e1, arrV_store, jv_cv_heap hO hxq]
  case putfield ix =>
    obtain ⟨hk1, hk2⟩ := (Bool.and_eq_true _ _).mp (show (n == 3 && (match vwCl[a]? with | some r => _ | none => false)) = true from hk)
    obtain rfl : n = 3 := eq_of_beq hk1
    obtain ⟨v, q, r, rfl, hn⟩ := jv_vr_e (show jv_vr st _ = some _ from hn)
    obtain ⟨⟨hq, hka, hfit⟩, hn⟩ := jv_if_e hn
    cases hs : O.2.2.2.2.1 h q b v with
    | none => rw [hs] at hn; cases hn
    | some h2 =>
      rw [hs] at hn
      obtain ⟨rfl, rfl, rfl, rfl⟩ := jv_go_e hn
      obtain ⟨z1, z2, z3, z4⟩ := hO.2.1 _ _ _ _ _ hs hq
      cases hr : vwCl[a]? with
      | none => rw [hr] at hk2; cases hk2
      | some rr =>
        rw [hr] at hk2
        obtain ⟨hk3, hfinal⟩ := (Bool.and_eq_true _ _).mp hk2
        obtain ⟨hbk, hw⟩ := (Bool.and_eq_true _ _).mp hk3
        have hbk := of_decide_eq_true hbk
        obtain ⟨-, hin, hty, hnm, -⟩ := jv_vw_in a rr hr
        obtain ⟨hnar, hfits⟩ := jv_fit_e (base := base) (cst := cst) hfit
        intro H locs lm hA
        have hcel := jv_cel_obj (r := rr) (by rw [hka]; exact hr) (hA.1.2 q hq)
        rw [hka] at hcel
        obtain ⟨cell, q1, q2, q3, q4⟩ := hcel
        have hap := va_apart (own := M.1) hts hin (jv_fty a) hty hnm hK.1 hr
        obtain ⟨hS, hfc, kC, hkC, hkind⟩ := hK.1.1 a rr hr
        obtain ⟨cf, kf, fi, f, hi, hsl⟩ := hS b hbk
        have hlay := hts _ (hin _ (u_in_lay hbk))
        have hst := (u_facts hfc hkC (u_lays hts hin hbk) hi).1
        rw [List.map_cons, List.map_cons, jv_cv_heap hO hq]
        have fin : ∀ H1 : Heap, H1[base + q]? = some (cell.setSlot f.slot (jv_cv base cst v)) → H1.size = H.size → (∀ y : Nat, y ≠ base + q → H1[y]? = H[y]?) → W p l e R s m args below meth c H1 (locs ++ [⟨base + q, f.slot⟩]) (O.1 h - z0) (O.2.1 h - l0) Q (F0 m (pc + 3) lm (r.map (jv_cv base cst))) := by
          intro H1 e1 e2 e3
          rw [← z1, ← z2]
          refine kk H1 _ lm ⟨jv_Rep_set hO hA.1 hs hq e2 e3 ?_, fun y hy => (e3 y (Nat.ne_of_lt (Nat.lt_of_lt_of_le hy (Nat.le_add_right _ _)))).trans (hA.2.1 y hy), hA.2.2.1, jv_locs hA.2.2.2.1 (Nat.le_add_right _ _), by rw [z1]; exact hA.2.2.2.2.1, by rw [z2]; exact hA.2.2.2.2.2⟩
          unfold jv_cel
          rw [hka, hr]
          rw [hsl] at e1
          exact ⟨_, e1, q2, q3, t_set q4 hap hbk _⟩
        cases hfinb : (rr.2.1 b).2.2.2 with
        | false =>
          unfold u_lay at hlay
          rw [if_neg (by rw [hfinb]; decide)] at hlay
          have h6 := u_store hfc hkC hkind hlay hi (hty b hbk) hnar hfits
          exact W.putK hx hb (f := f) ⟨hown, hts _ (jv_tw_in hw), ⟨_, _, _, hi⟩, hst⟩ (by rw [q2]; exact h6) q1 q3 (by rw [hsl]; exact k2_hasslot (q4 b hbk)) rfl rfl hd fin
        | true =>
          rw [hfinb] at hfinal
          obtain ⟨hf1, hf2⟩ := (Bool.and_eq_true _ _).mp (show (decide _ && decide _) = true from hfinal)
          have hf1 := of_decide_eq_true hf1
          have hf2 := of_decide_eq_true hf2
          unfold u_lay at hlay
          rw [if_pos hfinb] at hlay
          have hcf : m.cls = cf := by
            obtain ⟨_, _, c', _, _, _, -, -, hf', -, -, -, hown2, -⟩ := Cond.laysFinal_spec hlay
            have e1 : c' = cf := by have := hi.symm.trans hf'; simp at this; exact this.1.symm
            rw [hf2] at hown2
            rw [← e1]; exact Option.some.inj (hown.symm.trans hown2)
          have h6 := u_fits hfc hkC hkind (Or.inr hlay) hi (hty b hbk) hnar hfits
          exact W.putFinK hx hb hown (hts _ (jv_tw_in hw)) hi hst hcf (hmn.trans hf1) (by rw [q2]; exact h6) q1 q3 (by rw [hsl]; exact k2_hasslot (q4 b hbk)) rfl rfl hd fin
  case new ix =>
    obtain ⟨hk1, hk2⟩ := (Bool.and_eq_true _ _).mp (show (n == 3 && (match vwCl[a]? with | some r => _ | none => false)) = true from hk)
    obtain rfl : n = 3 := eq_of_beq hk1
    have hn : (match O.2.2.2.2.2.1 h a (jv_nf a) (fun j => defaultValue (jv_fty a j)) with
      | some h' => jv_go (pc + 3) ls (.ref (O.1 h) :: st) h'
      | none => none) = some _ := hn
    cases hs : O.2.2.2.2.2.1 h a (jv_nf a) (fun j => defaultValue (jv_fty a j)) with
    | none => rw [hs] at hn; cases hn
    | some h2 =>
      rw [hs] at hn
      obtain ⟨rfl, rfl, rfl, rfl⟩ := jv_go_e hn
      obtain ⟨z1, z2, z3, z4, z5⟩ := hO.2.2.1 _ _ _ _ _ hs
      cases hr : vwCl[a]? with
      | none => rw [hr] at hk2; cases hk2
      | some rr =>
        rw [hr] at hk2
        obtain ⟨-, hin, hty, -, hmk, hini⟩ := jv_vw_in a rr hr
        have hnf : jv_nf a = rr.2.2 := by unfold jv_nf; rw [hr]
        rw [hnf] at z2 z3 z4
        have hKn := hK.1.1 a rr hr
        intro H locs lm hA
        obtain ⟨hz, hl⟩ : z0 ≤ O.1 h ∧ l0 ≤ O.2.1 h := hA.2.2.2.2
        refine W.newcK hx hb hown (hts _ (jv_tw_in hk2)) (hts _ hmk) (hts _ hini) rfl hd (by omega) (by omega) hKn.2.1 hA.1.1 (fun H1 kC hkC e1 e2 e3 => ?_)
        rw [show O.1 h - z0 + 1 = O.1 h2 - z0 by omega, show O.2.1 h - l0 + rr.2.2 = O.2.1 h2 - l0 by omega]
        have := kk H1 locs lm ⟨jv_Rep_new hA.1 z1 z5 e2 e3 ?_, fun y hy => (e3 y (by omega)).trans (hA.2.1 y hy), hA.2.2.1, hA.2.2.2.1, by omega, by omega⟩
        · rw [List.map_cons, jv_cv_new hO h (show O.1 h < O.1 h2 by omega)] at this
          exact this
        · unfold jv_cel
          rw [z3]
          show (match vwCl[a]? with | some r => _ | none => _)
          rw [hr]
          refine (u_born (jv_fty a) hts hin hKn hkC e1 hty).to (fun k hk => ?_)
          rw [z4 k hk]
          exact (jv_cv_def _).symm
  case newarray ty =>
    obtain ⟨hk1, hk3⟩ := (Bool.and_eq_true _ _).mp (show (n == 2 && (a == 13 || a == 14) && decide _) = true from hk)
    obtain ⟨hk1, hk2⟩ := (Bool.and_eq_true _ _).mp hk1
    obtain rfl : n = 2 := eq_of_beq hk1
    have hk3 := of_decide_eq_true hk3
    obtain ⟨x, r, rfl, hn⟩ := jv_i1_e (show jv_i1 st _ = some _ from hn)
    obtain ⟨hx0, hn⟩ := jv_if_e hn
    have hx0 := jv_in_e hx0
    cases hs : O.2.2.2.2.2.1 h a x.toNatClampNeg (fun _ => .int 0) with
    | none => rw [hs] at hn; cases hn
    | some h2 =>
      rw [hs] at hn
      obtain ⟨rfl, rfl, rfl, rfl⟩ := jv_go_e hn
      obtain ⟨z1, z2, z3, z4, z5⟩ := hO.2.2.1 _ _ _ _ _ hs
      have hxn : x.toNatClampNeg < 100000 := Nat.not_le.mp fun z => hx0 (Or.inr z)
      have ha : a = 13 ∨ a = 14 := by
        rcases (Bool.or_eq_true _ _).mp hk2 with q | q
        · exact Or.inl (eq_of_beq q)
        · exact Or.inr (eq_of_beq q)
      have hw : (Cond.arrayClass (Jvm.Op.newarray.typeOf ty)).before args s = true := by
        rw [hk3]
        rcases ha with rfl | rfl
        · exact hts _ jv_arrw.1
        · exact hts _ jv_arrw.2
      have hdv : defaultValue (Jvm.Op.newarray.typeOf ty) = .int 0 := by
        rw [hk3]
        rcases ha with rfl | rfl <;> rfl
      have hcb : componentBytes (Jvm.Op.newarray.typeOf ty) ≤ 8 := by cases ty <;> decide
      have hra := (hK.2.1 a (by omega) (by omega)).2
      rw [← hk3] at hra
      have hra : s.vm.findClass ("[" ++ (Jvm.Op.newarray.typeOf ty).toString) = some (tc a) := by
        cases ty <;> exact hra
      intro H locs lm hA
      obtain ⟨hz, hl⟩ : z0 ≤ O.1 h ∧ l0 ≤ O.2.1 h := hA.2.2.2.2
      refine W.newa hx hb hw rfl hd rfl (fun z => hx0 (Or.inl z)) (Nat.le_trans (Nat.mul_le_mul (Nat.le_of_lt hxn) hcb) (by omega)) (by omega) (by omega) (fun cA kA comp w1 w2 w3 => ?_)
      cases hra.symm.trans w1
      rw [arrV_new]
      generalize hH1 : H.push (arrV (tc a) x.toNatClampNeg (fun _ => defaultValue (Jvm.Op.newarray.typeOf ty))) = H1
      have e2 : H1.size = H.size + 1 := by rw [← hH1, Array.size_push]
      have e3 : ∀ y : Nat, y < H.size → H1[y]? = H[y]? := fun y hy => by rw [← hH1, Array.getElem?_push, if_neg (Nat.ne_of_lt hy)]
      have e1 : H1[H.size]? = some (arrV (tc a) x.toNatClampNeg (fun _ => defaultValue (Jvm.Op.newarray.typeOf ty))) := by rw [← hH1, Array.getElem?_push_size]
      rw [hA.1.1] at e1 e2 e3
      rw [show O.1 h - z0 + 1 = O.1 h2 - z0 by omega, show O.2.1 h - l0 + x.toNatClampNeg = O.2.1 h2 - l0 by omega, hA.1.1]
      have := kk H1 locs lm ⟨jv_Rep_new hA.1 z1 z5 e2 e3 ?_, fun y hy => (e3 y (by omega)).trans (hA.2.1 y hy), hA.2.2.1, hA.2.2.2.1, by omega, by omega⟩
      · rw [List.map_cons, jv_cv_new hO h (show O.1 h < O.1 h2 by omega)] at this
        exact this
      · unfold jv_cel
        rw [z3]
        show (match vwCl[a]? with | some r => _ | none => _)
        rw [jv_vw_none (by omega)]
        rw [e1]
        exact congrArg some (jv_arrV_congr fun j hj => by rw [z4 j hj, hdv]; rfl)
  case anewarray ix =>
    obtain ⟨hk1, hk4⟩ := (Bool.and_eq_true _ _).mp (show (n == 3 && decide (16 ≤ a) && decide (a < 21) && (match vwCl[jv_el a]? with | some r => _ | none => false)) = true from hk)
    obtain ⟨hk1, hk3⟩ := (Bool.and_eq_true _ _).mp hk1
    obtain ⟨hk1, hk2⟩ := (Bool.and_eq_true _ _).mp hk1
    obtain rfl : n = 3 := eq_of_beq hk1
    have hk2 := of_decide_eq_true hk2
    have hk3 := of_decide_eq_true hk3
    obtain ⟨x, r, rfl, hn⟩ := jv_i1_e (show jv_i1 st _ = some _ from hn)
    obtain ⟨hx0, hn⟩ := jv_if_e hn
    have hx0 := jv_in_e hx0
    cases hs : O.2.2.2.2.2.1 h a x.toNatClampNeg (fun _ => .null) with
    | none => rw [hs] at hn; cases hn
    | some h2 =>
      rw [hs] at hn
      obtain ⟨rfl, rfl, rfl, rfl⟩ := jv_go_e hn
      obtain ⟨z1, z2, z3, z4, z5⟩ := hO.2.2.1 _ _ _ _ _ hs
      have hxn : x.toNatClampNeg < 100000 := Nat.not_le.mp fun z => hx0 (Or.inr z)
      cases hr : vwCl[jv_el a]? with
      | none => rw [hr] at hk4; cases hk4
      | some rr =>
        rw [hr] at hk4
        obtain ⟨hw, hty⟩ := (Bool.and_eq_true _ _).mp hk4
        have hty := of_decide_eq_true hty
        have hra := (hK.2.1 a (by omega) hk3).2
        rw [hty] at hra
        obtain ⟨kA0, comp0, g1, g2, g3, g4⟩ := hra
        intro H locs lm hA
        obtain ⟨hz, hl⟩ : z0 ≤ O.1 h ∧ l0 ≤ O.2.1 h := hA.2.2.2.2
        refine W.anew hx hb hown (hts _ (jv_tw_in hw)) (va_AO.use (hK.2.2.2.1 a rr hr hk2 hk3)) rfl hd rfl (fun z => hx0 (Or.inl z)) (by omega) (by omega) (by omega) (fun cA kA comp w1 w2 w3 w4 => ?_)
        cases g4.symm.trans w1
        rw [arrV_new]
        generalize hH1 : H.push (arrV (tc a) x.toNatClampNeg (fun _ => .null)) = H1
        have e2 : H1.size = H.size + 1 := by rw [← hH1, Array.size_push]
        have e3 : ∀ y : Nat, y < H.size → H1[y]? = H[y]? := fun y hy => by rw [← hH1, Array.getElem?_push, if_neg (Nat.ne_of_lt hy)]
        have e1 : H1[H.size]? = some (arrV (tc a) x.toNatClampNeg (fun _ => .null)) := by rw [← hH1, Array.getElem?_push_size]
        rw [hA.1.1] at e1 e2 e3
        rw [show O.1 h - z0 + 1 = O.1 h2 - z0 by omega, show O.2.1 h - l0 + x.toNatClampNeg = O.2.1 h2 - l0 by omega, hA.1.1]
        have := kk H1 locs lm ⟨jv_Rep_new hA.1 z1 z5 e2 e3 ?_, fun y hy => (e3 y (by omega)).trans (hA.2.1 y hy), hA.2.2.1, hA.2.2.2.1, by omega, by omega⟩
        · rw [List.map_cons, jv_cv_new hO h (show O.1 h < O.1 h2 by omega)] at this
          exact this
        · unfold jv_cel
          rw [z3]
          show (match vwCl[a]? with | some r => _ | none => _)
          rw [jv_vw_none (by omega)]
          rw [e1]
          exact congrArg some (jv_arrV_congr fun j hj => by rw [z4 j hj]; rfl)
  case multianewarray ix dm =>
    obtain ⟨hk1, hw⟩ := (Bool.and_eq_true _ _).mp (show (n == 4 && dm == 2 && jv_tw _ _) = true from hk)
    obtain ⟨hk1, hk2⟩ := (Bool.and_eq_true _ _).mp hk1
    obtain rfl : n = 4 := eq_of_beq hk1
    obtain rfl : dm = 2 := eq_of_beq hk2
    obtain ⟨x, y, r, rfl, hn⟩ := jv_i2_e (show jv_i2 st _ = some _ from hn)
    obtain ⟨⟨hx0, hy0⟩, hn⟩ := jv_if_e hn
    have hx0 := jv_in_e hx0
    have hy0 := jv_in_e hy0
    cases hs : O.2.2.2.2.2.2 h x.toNatClampNeg y.toNatClampNeg with
    | none => rw [hs] at hn; cases hn
    | some h2 =>
      rw [hs] at hn
      obtain ⟨rfl, rfl, rfl, rfl⟩ := jv_go_e hn
      obtain ⟨z1, z2, z3, z4, z5, z6⟩ := hO.2.2.2 _ _ _ _ hs
      have hxn : x.toNatClampNeg < 100000 := Nat.not_le.mp fun z => hx0 (Or.inr z)
      have hyn : y.toNatClampNeg < 100000 := Nat.not_le.mp fun z => hy0 (Or.inr z)
      have hra := (hK.2.1 15 (by omega) (by omega)).2
      have hra13 := (hK.2.1 13 (by omega) (by omega)).2
      intro H locs lm hA
      obtain ⟨hz, hl⟩ : z0 ≤ O.1 h ∧ l0 ≤ O.2.1 h := hA.2.2.2.2
      intro T hT Xs
      obtain ⟨vm₁, cA, comp, -, fA, fC, hOC, -, X', step⟩ := Xs.multianewarray2F hx hown (hts _ (jv_tw_in hw)) (show (Cond.arrayOver (.array .int)).before args s = true from hK.2.2.2.2.1) (hts _ jv_arrw.1) (g := F0 m pc lm (.int y :: .int x :: r.map (jv_cv base cst))) rfl (by rw [hb]; exact hd) rfl (fun z => hx0 (Or.inl z)) (fun z => hy0 (Or.inl z)) (by omega) (by show _ * 4 ≤ _; omega) (by omega) rfl rfl (by omega) (by rw [show O.2.1 h - l0 + (x.toNatClampNeg + x.toNatClampNeg * y.toNatClampNeg) = O.2.1 h2 - l0 by omega]; exact hroom.2)
      cases hra.symm.trans fA
      cases hra13.symm.trans fC
      generalize hF : Jvm.Free.Multi.fill (T.setVm vm₁) (tc 15) (tc 13) x.toNatClampNeg y.toNatClampNeg (defaultValue .int) x.toNatClampNeg = F at X' step
      have hTh : (T.setVm vm₁).heap = H := hT
      obtain ⟨f1, f2, -, -⟩ := Jvm.Free.Multi.fill_facts (T.setVm vm₁) (tc 15) (tc 13) x.toNatClampNeg y.toNatClampNeg (defaultValue .int) x.toNatClampNeg
      rw [hF, hTh] at f1 f2
      have hold : ∀ q : Nat, q < H.size → F.heap[q]? = H[q]? := fun q hq => by
        have := Jvm.Free.Multi.fill_old (T.setVm vm₁) (tc 15) (tc 13) x.toNatClampNeg y.toNatClampNeg (defaultValue .int) (a := q) (by rw [hTh]; exact hq) x.toNatClampNeg
        rw [hF, hTh] at this
        exact this
      have hrow : ∀ j : Nat, j < x.toNatClampNeg → F.heap[H.size + 1 + j]? = some (arrV (tc 13) y.toNatClampNeg (fun _ => .int 0)) := fun j hj => by
        have := Jvm.Free.Multi.fill_inner (T.setVm vm₁) (tc 15) (tc 13) x.toNatClampNeg y.toNatClampNeg (defaultValue .int) x.toNatClampNeg j hj
        rw [hF, hTh] at this
        rw [this, ← arrV_new]
        rfl
      rw [jv_outer] at f2
      rw [hA.1.1] at f1 f2 hold hrow
      rw [show T.heap.size = base + O.1 h by rw [hT]; exact hA.1.1] at step
      rw [show O.1 h - z0 + 1 + x.toNatClampNeg = O.1 h2 - z0 by omega, show O.2.1 h - l0 + x.toNatClampNeg + x.toNatClampNeg * y.toNatClampNeg = O.2.1 h2 - l0 by omega] at X'
      have := kk F.heap locs lm ⟨⟨by rw [f1, z1]; omega, fun d hd => ?_⟩, fun q hq => (hold q (by omega)).trans (hA.2.1 q hq), hA.2.2.1, hA.2.2.2.1, by omega, by omega⟩
      · rw [List.map_cons, jv_cv_new hO h (show O.1 h < O.1 h2 by omega)] at this
        obtain ⟨t2, a1, b1⟩ := this F rfl X'
        exact ⟨t2, step t2 a1, b1⟩
      · rcases Nat.lt_or_ge d (O.1 h) with q | q
        · obtain ⟨w1, w2⟩ := z6 d q
          rw [w1, show (fun j => jv_cv base cst (O.2.2.2.1 h2 d j)) = fun j => jv_cv base cst (O.2.2.2.1 h d j) from funext fun j => by rw [w2 j]]
          exact jv_cel_kept (hA.1.2 d q) (hold _ (by omega))
        · rcases Nat.eq_or_lt_of_le q with q2 | q2
          · subst q2
            unfold jv_cel
            rw [z3]
            show F.heap[base + O.1 h]? = some (arrV (tc 15) x.toNatClampNeg _)
            rw [f2]
            exact congrArg some (jv_arrV_congr fun j hj => by
              rw [z4 j hj, if_pos hj]
              show _ = Value.ref (if _ then _ else _)
              rw [if_pos (show O.1 h + 1 + j < 1000000 by have := hO.1 h2; omega)]
              exact congrArg Value.ref (show (base + O.1 h + 1 + j : Nat) = base + (O.1 h + 1 + j) by omega))
          · obtain ⟨j, rfl⟩ : ∃ j, d = O.1 h + 1 + j := ⟨d - O.1 h - 1, by omega⟩
            obtain ⟨w1, w2⟩ := z5 j (by omega)
            unfold jv_cel
            rw [w1]
            show F.heap[base + (O.1 h + 1 + j)]? = some (arrV (tc 13) y.toNatClampNeg _)
            rw [show base + (O.1 h + 1 + j) = base + O.1 h + 1 + j by omega, hrow j (by omega)]
            exact congrArg some (jv_arrV_congr fun i hi => by rw [w2 i hi]; rfl)
  case invokespecial ix =>
    obtain ⟨hk1, hk2⟩ := (Bool.and_eq_true _ _).mp (show (n == 3 && (if b = 4 then _ else _)) = true from hk)
    obtain rfl : n = 3 := eq_of_beq hk1
    have hn : (match jv_pop z.toNat st with
      | some (as, r) => jv_r1 r fun c r' => if jv_w8 r' = true then (if b = 4 then jv_go (pc + 3) ls r' h else some (.inr (.inr (a, pc + 3, .ref c :: as, r')))) else none
      | none => none) = some _ := hn
    cases hp : jv_pop z.toNat st with
    | none => rw [hp] at hn; cases hn
    | some ar =>
      obtain ⟨as, r⟩ := ar
      rw [hp] at hn
      obtain ⟨q, r', rfl, hn⟩ := jv_r1_e hn
      obtain ⟨hw8, hn⟩ := jv_if_e hn
      by_cases hb4 : b = 4
      · rw [if_pos hb4] at hn hk2
        obtain ⟨hw, hz⟩ := (Bool.and_eq_true _ _).mp hk2
        obtain ⟨rfl, rfl, rfl, rfl⟩ := jv_go_e hn
        obtain rfl : z = 0 := eq_of_beq hz
        obtain ⟨e1, e2⟩ := jv_pop_e _ _ _ _ hp
        obtain rfl : as = [] := List.eq_nil_of_length_eq_zero e2
        obtain rfl : st = .ref q :: r' := e1
        intro H locs lm hA
        have h8 := of_decide_eq_true hw8
        exact W.objInit (g := F0 m pc lm _) hx hb hown (hts _ (jv_tw_in hw)) (hts _ jv_objw.1) (hts _ jv_objw.2) rfl (by rw [hml]; exact hA.2.2.1.1) rfl hd (by omega) (by
          show 2 * 0 + _ + 12 ≤ _
          rw [List.map_map, show ((fun v => Value.category v) ∘ jv_cv base cst) = fun v => v.category from funext fun v => jv_cv_cat v]
          omega) (kk H locs lm hA)
      · rw [if_neg hb4] at hn; cases hn
  case invokestatic ix =>
    obtain ⟨hk1, hk2⟩ := (Bool.and_eq_true _ _).mp (show (n == 3 && (if b = 7 then _ else _)) = true from hk)
    obtain rfl : n = 3 := eq_of_beq hk1
    by_cases hb7 : b = 7
    · have hn : (if b = 7 then jv_i2 st fun x y r => if jv_w8 r = true then jv_go (pc + 3) ls (.int (if x < y then y else x) :: r) h else none else _) = some _ := hn
      rw [if_pos hb7] at hn hk2
      obtain ⟨x, y, r, rfl, hn⟩ := jv_i2_e hn
      obtain ⟨hw8, hn⟩ := jv_if_e hn
      obtain ⟨rfl, rfl, rfl, rfl⟩ := jv_go_e hn
      intro H locs lm hA
      have h8 := of_decide_eq_true hw8
      obtain ⟨hz, hl⟩ : z0 ≤ O.1 h ∧ l0 ≤ O.2.1 h := hA.2.2.2.2
      exact va_mmax hx hb (by rw [hml]; exact hA.2.2.1.1.symm) hown (hts _ (jv_tw_in hk2)) (hts _ jv_maxw.1.1) (hts _ jv_maxw.1.2) (hts _ jv_maxw.2) (by omega) (by
        rw [List.map_map, show ((fun v => Value.category v) ∘ jv_cv base cst) = fun v => v.category from funext fun v => jv_cv_cat v]
        omega) hroom.1 hroom.2 hd (kk H locs lm hA)
    · simp only [jv_nxt, if_neg hb7] at hn
      cases hp : jv_pop z.toNat st with
      | none => rw [hp] at hn; cases hn
      | some ar =>
        obtain ⟨as, r⟩ := ar
        rw [hp] at hn
        obtain ⟨-, hn⟩ := jv_if_e hn
        cases hn
  case invokevirtual ix =>
    have hn : (match jv_pop z.toNat st with
      | some (as, r) => jv_r1 r fun c r' => if jv_w8 r' = true ∧ ((c < O.1 h ∧ (O.2.2.1 h c).1 = u ∧ u < 13) ∨ (O.1 h ≤ c ∧ u = 20 ∧ (c = 1000001 ∨ c = 1000002))) then some (.inr (.inr (a, pc + n, .ref c :: as, r'))) else none
      | none => none) = some _ := hn
    cases hp : jv_pop z.toNat st with
    | none => rw [hp] at hn; cases hn
    | some ar =>
      obtain ⟨as, r⟩ := ar
      rw [hp] at hn
      obtain ⟨q, r', rfl, hn⟩ := jv_r1_e hn
      obtain ⟨-, hn⟩ := jv_if_e hn
      cases hn
  case ireturn => exact absurd hn (jv_ret_no rfl)
  case lreturn => exact absurd hn (jv_ret_no rfl)
  case areturn => exact absurd hn (jv_ret_no rfl)
  case return_ => exact absurd hn (jv_ret_no rfl)
  all_goals exact absurd hn (fun z => by cases z)
