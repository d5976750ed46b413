/-! what a method of the small machine comes to, and that the machine's method does so -/
def jv_All : Prop := ∀ M ∈ jv_P, jv_ok M = true ∧ ∃ t1 t2 t3 t4, jv_mk M t1 t2 t3 t4 = true
def jv_at : List jv_E → Nat → Option (Jvm.ClassFile.Instr × Nat × Nat × Nat × Nat × Nat × Int)
  | [], _ => none
  | e :: l, pc => bif Nat.beq e.1 pc then some e.2 else jv_at l pc
theorem jv_at_in : ∀ (l : List jv_E) (pc : Nat) {r}, jv_at l pc = some r → (pc, r) ∈ l
  | [], _, _, h => by cases h
  | e :: l, pc, r, h => by
    unfold jv_at at h
    cases hb : Nat.beq e.1 pc with
    | true =>
      rw [hb] at h
      have e1 : e.1 = pc := Nat.eq_of_beq_eq_true hb
      have e2 : e.2 = r := Option.some.inj h
      rw [← e1, ← e2]
      exact List.mem_cons_self
    | false =>
      rw [hb] at h
      exact List.mem_cons_of_mem _ (jv_at_in l pc h)
def jv_stp {η : Type} (O : jv_Ops η) (G : jv_X) (call : Nat → Nat → Nat → List Value → η → (Option Value → η → Prop) → Prop) (M : jv_MI) (z0 l0 mc ms : Nat) (B : Option Value → η → Prop) (P : Nat → jv_L → List Value → η → Prop) (pc : Nat) (ls : jv_L) (st : List Value) (h : η) : Prop :=
  match jv_at M.2.2.2.2.2.2 pc with
  | none => False
  | some e => match jv_nxt O G M (pc, e) ls st h with
    | none => False
    | some (.inl (pc', ls', st', h')) => O.1 h' ≤ z0 + mc ∧ O.2.1 h' ≤ l0 + ms ∧ P pc' ls' st' h'
    | some (.inr (.inl v)) => O.1 h = z0 + mc ∧ O.2.1 h = l0 + ms ∧ B v h
    | some (.inr (.inr (k, pc', as, r))) => ∃ mc' ms', O.1 h + mc' ≤ z0 + mc ∧ O.2.1 h + ms' ≤ l0 + ms ∧ call k mc' ms' as h (fun v h' => P pc' ls (v.toList ++ r) h')
def jv_We {η : Type} (O : jv_Ops η) (G : jv_X) (call : Nat → Nat → Nat → List Value → η → (Option Value → η → Prop) → Prop) (M : jv_MI) (z0 l0 mc ms : Nat) (B : Option Value → η → Prop) (pc : Nat) (ls : jv_L) (st : List Value) (h : η) : Prop :=
  ∀ P : Nat → jv_L → List Value → η → Prop, (∀ pc ls st h, jv_stp O G call M z0 l0 mc ms B P pc ls st h → P pc ls st h) → P pc ls st h
def jv_wp {η : Type} (O : jv_Ops η) (G : jv_X) : Nat → Nat → Nat → Nat → List Value → η → (Option Value → η → Prop) → Prop
  | 0, _, _, _, _, _, _ => False
  | d + 1, k, mc, ms, as, h, B => ∃ M, jv_P[k]? = some M ∧ (jv_sl as).length ≤ M.2.2.2.1 ∧ jv_We O G (jv_wp O G d) M (O.1 h) (O.2.1 h) mc ms B 0 (jv_ent M.2.2.2.1 as) [] h
def jv_ws (N : jv_MI) : List Cond := .code N.2.1 N.2.2.1 N.2.2.2.1 N.2.2.2.2.1 :: jv_G
def jv_rm (d mc ms : Nat) : Room := { frames := d, cells := mc, slots := ms, locals := 40 * d }
def jv_Pc {η : Type} (O : jv_Ops η) (D : va_G) (tc : Nat → ClassId) (base : Nat) (cst : Nat → Nat) (G : jv_X) (H0 : Heap) (as : List Value) (h : η) : Array Value → State → Prop := fun v U =>
  v = (as.map (jv_cv base cst)).toArray ∧ jv_K D tc base cst G H0 U ∧ jv_Rep O D tc base cst h U.heap ∧ ∀ q : Nat, q < base → U.heap[q]? = H0[q]?
def jv_Qc {η : Type} (O : jv_Ops η) (D : va_G) (tc : Nat → ClassId) (base : Nat) (cst : Nat → Nat) (H0 : Heap) (mc ms : Nat) (h : η) (B : Option Value → η → Prop) : Array Value → State → Outcome → State → Prop := fun _ _ o t =>
  ∃ v h', o = .returned (v.map (jv_cv base cst)) ∧ B v h' ∧ O.1 h' = O.1 h + mc ∧ O.2.1 h' = O.2.1 h + ms ∧ jv_Rep O D tc base cst h' t.heap ∧ ∀ q : Nat, q < base → t.heap[q]? = H0[q]?
theorem jv_blind {η : Type} {O : jv_Ops η} {D : va_G} {tc : Nat → ClassId} {base : Nat} {cst : Nat → Nat} {G : jv_X} {H0 : Heap} {as : List Value} {h : η} : FrameBlind (jv_Pc O D tc base cst G H0 as h) := by
  intro a U g mk q
  exact ⟨q.1, jv_K_same rfl q.2.1, q.2.2.1, q.2.2.2⟩
theorem jv_good {ws : List Cond} (h : ∀ w ∈ ws, w ∈ jv_G) : GoodIn jv_G ws := fun w hw => ⟨h w hw, good_of_word (jv_G_in (h w hw)).2⟩
theorem jv_mk_e {N : jv_MI} {t1 t2 t3 t4 : Nat} (h : jv_mk N t1 t2 t3 t4 = true) : (∀ w ∈ jv_ws N, w ∈ jv_G) ∧ (N.2.2.2.2.2.1 = true → Cond.static N.2.1 ∈ jv_G) ∧ (N.2.2.2.2.2.1 = false → Cond.instanceMethod N.2.1 ∈ jv_G) ∧ Cond.initialized N.2.1.cls ∈ jv_G ∧
    (N.2.2.2.2.2.1 = false → N.2.1.name ≠ "<init>" → Cond.selects N.2.1.cls N.2.1 N.2.1 ∈ jv_G) ∧ N.2.2.2.1 ≤ 20 ∧ plainName N.2.1.cls = true ∧ N.1 = N.2.1.cls ∧ N.2.1.cls ≠ "java/lang/invoke/MethodHandle" ∧ N.2.1.cls ≠ "java/lang/invoke/VarHandle" := by
  unfold jv_mk at h
  simp only [Bool.and_eq_true, decide_eq_true_eq] at h
  obtain ⟨⟨⟨⟨⟨⟨⟨⟨h1, h2⟩, h3⟩, h4⟩, h5⟩, h6⟩, h7⟩, h8⟩, h9⟩ := h
  refine ⟨fun w hw => ?_, fun q => ?_, fun q => ?_, jv_tw_in h3, fun q q2 => ?_, h5, h6, h7, h8, h9⟩
  · rcases List.mem_cons.mp hw with rfl | hw
    · exact jv_tw_in h1
    · exact hw
  · rw [if_pos q] at h2
    exact jv_tw_in h2
  · rw [if_neg (by rw [q]; decide)] at h2
    exact jv_tw_in h2
  · rw [q, Bool.false_or, Bool.or_eq_true] at h4
    rcases h4 with h4 | h4
    · exact absurd (of_decide_eq_true h4) q2
    · exact jv_tw_in h4
def jv_inv (i : Jvm.ClassFile.Instr) : Bool := match i with
  | .invokevirtual _ => true
  | .invokestatic _ => true
  | .invokespecial _ => true
  | _ => false
set_option maxHeartbeats 4000000 in
theorem jv_nocall {η : Type} {O : jv_Ops η} {G : jv_X} {M : jv_MI} {pc n a b t u : Nat} {z : Int} {i : Jvm.ClassFile.Instr} {ls : jv_L} {st : List Value} {h : η} {x : Nat × Nat × List Value × List Value} (hi : jv_inv i = false) : ¬ jv_nxt O G M (pc, i, n, a, b, t, u, z) ls st h = some (.inr (.inr x)) := by
  intro hn
  cases i
  case invokevirtual => cases hi
  case invokestatic => cases hi
  case invokespecial => cases hi
  all_goals
    simp only [jv_nxt, jv_i1, jv_i2, jv_l1, jv_l2, jv_li, jv_r1, jv_vr, jv_ri, jv_rii, jv_rir, jv_st, jv_ild, jv_lld, jv_ald, jv_go] at hn
  all_goals repeat' (split at hn)
  all_goals first | (cases hn; done) | contradiction
set_option maxHeartbeats 4000000 in
set_option maxRecDepth 100000 in
theorem jv_call (hall : jv_All) {η : Type} {O : jv_Ops η} (hO : jv_Ok O) {D : va_G} {tc : Nat → ClassId} {base : Nat} {cst : Nat → Nat} {G : jv_X} {H0 : Heap} {p : Program} {l : Launch} {e : Env} {R : Room} {s : State} {m : MethodId} {args : Array Value} {below : List Frame} {meth : Method} {c : Code} {M : jv_MI} {d : Nat} {Q : State → Prop} {z0 l0 : Nat}
    (F : jv_Fx D tc base cst G H0 p R s m args meth c M d) {pc n a b t u : Nat} {z : Int} {i : Jvm.ClassFile.Instr} (hd : decode M.2.2.1 pc = .ok (i, n)) (hk : jv_lk M (pc, i, n, a, b, t, u, z) = true)
    {k pc' : Nat} {ls : jv_L} {st as r : List Value} {h : η} (hn : jv_nxt O G M (pc, i, n, a, b, t, u, z) ls st h = some (.inr (.inr (k, pc', as, r)))) {N : jv_MI} (hN : jv_P[k]? = some N) {mc ms : Nat} {B : Option Value → η → Prop}
    (hM : Met l N.2.1 (jv_ws N) (jv_rm d mc ms) (jv_Pc O D tc base cst G H0 as h) (jv_Qc O D tc base cst H0 mc ms h B) mc ms (fun q => base ≤ q)) (hroom : O.1 h - z0 + mc ≤ R.cells ∧ O.2.1 h - l0 + ms ≤ R.slots)
    (kk : ∀ v h', B v h' → O.1 h' = O.1 h + mc → O.2.1 h' = O.2.1 h + ms → jv_PW O D tc base cst H0 p l e R s m args below meth c Q z0 l0 M.2.2.2.1 pc' ls (v.toList ++ r) h') : jv_PW O D tc base cst H0 p l e R s m args below meth c Q z0 l0 M.2.2.2.1 pc ls st h := by
  obtain ⟨hx, hb, hml, hown, hts, hmn, hret, hlocks, hK, hfr, hlo⟩ := F
  obtain ⟨-, t1, t2, t3, t4, hmk⟩ := hall N (List.mem_of_getElem? hN)
  obtain ⟨m1, m2, m3, m4, m5, m6, m7, m8, m9, m10⟩ := jv_mk_e hmk
  have fin : ∀ (H : Heap) (locs : List Loc) (lm : Array Slot) (g : JFrame), g = F0 m pc lm (st.map (jv_cv base cst)) → pc' = pc + 3 → jv_At O D tc base cst H0 z0 l0 M.2.2.2.1 ls h H locs lm →
      va_Run p l e R s m args below meth c H locs (O.1 h - z0) (O.2.1 h - l0) mc ms g (r.map (jv_cv base cst)) (jv_Qc O D tc base cst H0 mc ms h B (as.map (jv_cv base cst)).toArray) (fun q => base ≤ q) → W p l e R s m args below meth c H locs (O.1 h - z0) (O.2.1 h - l0) Q g := by
    intro H locs lm g hg hpc hA hr T hT X
    subst hg
    subst hpc
    obtain ⟨v, st₀, t, T', L, h0, X', hL, e1, e2, ⟨v', h', q1, q2, q3, q4, q5, q6⟩, go⟩ := hr T hT X
    cases q1
    have hz : z0 ≤ O.1 h ∧ l0 ≤ O.2.1 h := hA.2.2.2.2
    have := kk v' h' q2 q3 q4 T'.heap (locs ++ L) lm ⟨by rw [e1]; exact q5, fun q hq => by rw [e1]; exact q6 q hq, hA.2.2.1, fun q hq => by
      rcases List.mem_append.mp hq with w | w
      · exact hA.2.2.2.1 q w
      · exact hL q w, by omega, by omega⟩
    rw [show O.1 h' - z0 = O.1 h - z0 + mc by omega, show O.2.1 h' - l0 = O.2.1 h - l0 + ms by omega, List.map_append] at this
    rw [show v'.toList.map (jv_cv base cst) = (v'.map (jv_cv base cst)).toList by cases v' <;> rfl] at this
    obtain ⟨t2, a1, b1⟩ := this T' rfl X'
    exact ⟨t2, go t2 a1, b1⟩
  have hpre : ∀ H : Heap, jv_Rep O D tc base cst h H → (∀ q : Nat, q < base → H[q]? = H0[q]?) → ∀ U : State, U.heap = H → s.WarmedH U.vm → jv_Pc O D tc base cst G H0 as h (as.map (jv_cv base cst)).toArray U := by
    intro H w1 w2 U hU hW
    exact ⟨rfl, jv_K_warm hW hK, by rw [hU]; exact w1, by rw [hU]; exact w2⟩
  cases i
  case invokevirtual ix =>
    obtain ⟨hk1, hk2⟩ := (Bool.and_eq_true _ _).mp (show (n == 3 && (match jv_P[a]? with | some N => _ | none => _)) = true from hk)
    obtain rfl : n = 3 := eq_of_beq hk1
    simp only [jv_nxt] at hn
    cases hp : jv_pop z.toNat st with
    | none => rw [hp] at hn; cases hn
    | some ar =>
      obtain ⟨as1, r1⟩ := ar
      rw [hp] at hn
      obtain ⟨q, r', rfl, hm⟩ := jv_r1_e hn
      obtain ⟨⟨hw8, hrecv⟩, hm⟩ := jv_if_e hm
      cases hm
      rw [hN] at hk2
      simp only [Bool.and_eq_true, decide_eq_true_eq, Bool.not_eq_true'] at hk2
      obtain ⟨⟨⟨⟨j1, j2⟩, j3⟩, j4⟩, j5⟩ := hk2
      obtain ⟨e1, e2⟩ := jv_pop_e _ _ _ _ hp
      intro H locs lm hA
      refine fin H locs lm _ rfl rfl hA ?_
      refine va_runV (C := N.2.1.cls) (As := as1.map (jv_cv base cst)) (b := if q < 1000000 then base + q else cst (q - 1000000)) ⟨hx, hb, hml, hown, hts⟩ hM (cwV z.toNat hts (jv_good (fun w hw => ?_)) rfl rfl rfl ⟨rfl, m9, m10, j3⟩ ⟨by show d + 1 ≤ _; omega, by show 8 + (_ + 11) + 40 * d ≤ _; omega⟩) ⟨jv_blind, ?_, fun U hU hW => hpre H hA.1 hA.2.1 U hU hW⟩ rfl (by rw [List.length_map]; exact e2) hA.2.2.1.1 ?_ ?_ hd hroom
      · rcases List.mem_append.mp hw with w | w
        · rcases List.mem_cons.mp w with rfl | w
          · exact jv_tw_in j1
          · rcases List.mem_cons.mp w with rfl | w
            · exact m3 j2
            · rcases List.mem_cons.mp w with rfl | w
              · exact m5 j2 j4
              · rcases List.mem_cons.mp w with rfl | w
                · exact m4
                · cases w
        · exact m1 _ w
      · rcases hrecv with ⟨hq, hqu, hu13⟩ | ⟨hq, hu, hqq⟩
        · rw [if_pos (show q < 1000000 by have := hO.1 h; omega)]
          cases hr : vwCl[u]? with
          | none =>
            rw [hr] at j5
            simp only [Bool.and_eq_true, decide_eq_true_eq] at j5
            obtain rfl : u = 20 := eq_of_beq j5.1
            omega
          | some rr =>
            rw [hr] at j5
            have hcel := jv_cel_obj (r := rr) (by rw [hqu]; exact hr) (hA.1.2 q hq)
            obtain ⟨cell, g1, g2, g3, -⟩ := hcel
            have hfc := (hK.1.1 u rr hr).2.1
            have j5 : N.1 = rr.1 := of_decide_eq_true j5
            exact ⟨cell, g1, by rw [g3]; rfl, by rw [← m8, j5, g2, hqu]; exact hfc⟩
        · rw [if_neg (show ¬ q < 1000000 by omega)]
          subst hu
          have j5 : N.1 = "java/lang/String" := by
            have : (20 == 20 && decide (N.1 = "java/lang/String")) = true := j5
            simpa using this
          have hq01 : ∃ i, i < 2 ∧ q = 1000001 + i := by
            rcases hqq with h | h
            · exact ⟨0, by omega, h⟩
            · exact ⟨1, by omega, h⟩
          obtain ⟨i, hi2, rfl⟩ := hq01
          obtain ⟨-, ⟨cell, g1, g2, g3, g4⟩, -⟩ := hK.2.2.2.2.2.2.2.2.2.1 i hi2
          rw [show 1000001 + i - 1000000 = 1 + i by omega]
          exact ⟨cell, by rw [hA.2.1 _ (Nat.not_le.mp g4)]; exact g1, g2, by rw [← m8, j5]; exact g3⟩
      · show List.map _ st = _
        rw [e1, List.map_append, List.map_reverse]
        rfl
      · exact lv_room (by rw [List.map_map, show ((fun v => Value.category v) ∘ jv_cv base cst) = fun v => v.category from funext fun v => jv_cv_cat v]; exact of_decide_eq_true hw8)
  case invokestatic ix =>
    obtain ⟨hk1, hk2⟩ := (Bool.and_eq_true _ _).mp (show (n == 3 && (if b = 7 then _ else _)) = true from hk)
    obtain rfl : n = 3 := eq_of_beq hk1
    by_cases hb7 : b = 7
    · simp only [jv_nxt, if_pos hb7] at hn
      obtain ⟨x, y, r', e1, hm⟩ := jv_i2_e hn
      obtain ⟨-, hm⟩ := jv_if_e hm
      cases hm
    · rw [if_neg hb7] at hk2
      simp only [jv_nxt, if_neg hb7] at hn
      cases hp : jv_pop z.toNat st with
      | none => rw [hp] at hn; cases hn
      | some ar =>
        obtain ⟨as1, r1⟩ := ar
        rw [hp] at hn
        obtain ⟨hw8, hm⟩ := jv_if_e hn
        cases hm
        rw [hN] at hk2
        simp only [Bool.and_eq_true, decide_eq_true_eq] at hk2
        obtain ⟨⟨j1, j2⟩, j3⟩ := hk2
        obtain ⟨e1, e2⟩ := jv_pop_e _ _ _ _ hp
        intro H locs lm hA
        refine fin H locs lm _ rfl rfl hA ?_
        refine va_runS (As := as.map (jv_cv base cst)) ⟨hx, hb, hml, hown, hts⟩ hM (va_cwS z.toNat hts (jv_good (fun w hw => ?_)) rfl rfl rfl ⟨m9, m10, j3⟩ ⟨by show d + 1 ≤ _; omega, by show 8 + (_ + 11) + 40 * d ≤ _; omega⟩) ⟨jv_blind, fun U hU hW => hpre H hA.1 hA.2.1 U hU hW⟩ rfl (by rw [List.length_map]; exact e2) hA.2.2.1.1 ?_ ?_ hd hroom
        · rcases List.mem_append.mp hw with w | w
          · rcases List.mem_cons.mp w with rfl | w
            · exact jv_tw_in j1
            · rcases List.mem_cons.mp w with rfl | w
              · exact m2 j2
              · rcases List.mem_cons.mp w with rfl | w
                · exact m4
                · cases w
          · exact m1 _ w
        · show List.map _ st = _
          rw [e1, List.map_append, List.map_reverse]
        · exact lv_room (by rw [List.map_map, show ((fun v => Value.category v) ∘ jv_cv base cst) = fun v => v.category from funext fun v => jv_cv_cat v]; exact of_decide_eq_true hw8)
  case invokespecial ix =>
    obtain ⟨hk1, hk2⟩ := (Bool.and_eq_true _ _).mp (show (n == 3 && (if b = 4 then _ else _)) = true from hk)
    obtain rfl : n = 3 := eq_of_beq hk1
    simp only [jv_nxt] at hn
    cases hp : jv_pop z.toNat st with
    | none => rw [hp] at hn; cases hn
    | some ar =>
      obtain ⟨as1, r1⟩ := ar
      rw [hp] at hn
      obtain ⟨q, r', rfl, hm⟩ := jv_r1_e hn
      obtain ⟨hw8, hm⟩ := jv_if_e hm
      by_cases hb4 : b = 4
      · rw [if_pos hb4] at hm; cases hm
      rw [if_neg hb4] at hm hk2
      cases hm
      rw [hN] at hk2
      simp only [Bool.and_eq_true, decide_eq_true_eq, Bool.not_eq_true', Bool.or_eq_true] at hk2
      obtain ⟨⟨⟨⟨j1, j2⟩, j3⟩, j4⟩, j5⟩ := hk2
      obtain ⟨e1, e2⟩ := jv_pop_e _ _ _ _ hp
      intro H locs lm hA
      refine fin H locs lm _ rfl rfl hA ?_
      have hst : (F0 m pc lm (st.map (jv_cv base cst))).stack = (as1.map (jv_cv base cst)).reverse ++ .ref (if q < 1000000 then base + q else cst (q - 1000000)) :: r.map (jv_cv base cst) := by
        show List.map _ st = _
        rw [e1, List.map_append, List.map_reverse]
        rfl
      have hroomW : 2 * (F0 m pc lm (st.map (jv_cv base cst))).monitorRoom + ((r.map (jv_cv base cst)).map fun v => v.category).sum ≤ 8 := lv_room (by rw [List.map_map, show ((fun v => Value.category v) ∘ jv_cv base cst) = fun v => v.category from funext fun v => jv_cv_cat v]; exact of_decide_eq_true hw8)
      have hws : jv_ws N = Cond.code N.2.1 N.2.2.1 N.2.2.2.1 none :: jv_G := by unfold jv_ws; rw [j3]
      rcases j1 with ⟨b2, j1⟩ | ⟨b3, j1⟩
      · exact va_runI (As := as1.map (jv_cv base cst)) (bytes := N.2.2.1) (maxL := N.2.2.2.1) ⟨hx, hb, hml, hown, hts⟩ hM (cwI z.toNat hts (jv_good m1) hws rfl rfl (hts _ m4) (hts _ (jv_tw_in j1)) (hts _ (m3 j2)) j4 ⟨m9, m10, j5⟩ ⟨by show d + 1 ≤ _; omega, by show 8 + (_ + 11) + 40 * d ≤ _; omega⟩) ⟨jv_blind, fun U hU hW => hpre H hA.1 hA.2.1 U hU hW⟩ rfl (by rw [List.length_map]; exact e2) hA.2.2.1.1 hst hroomW hd hroom
      · exact va_runIN (As := as1.map (jv_cv base cst)) (bytes := N.2.2.1) (maxL := N.2.2.2.1) (Ts := jv_G) ⟨hx, hb, hml, hown, hts⟩ hM ⟨va_cnB z.toNat hts (jv_good m1) hws rfl rfl (hK.2.2.1 _ _ _ _ j1) (hts _ m4) ⟨m9, m10, j5⟩ ⟨by show d + 1 ≤ _; omega, by show 8 + (_ + 11) + 40 * d ≤ _; omega⟩, j4, hts _ (m3 j2)⟩ ⟨jv_blind, fun U hU hW => hpre H hA.1 hA.2.1 U hU hW⟩ rfl (by rw [List.length_map]; exact e2) hA.2.2.1.1 hst hroomW hd hroom
  all_goals exact absurd hn (jv_nocall rfl)

def jv_isr (i : Jvm.ClassFile.Instr) : Bool := match i with
  | .ireturn => true
  | .lreturn => true
  | .areturn => true
  | .return_ => true
  | _ => false
set_option maxHeartbeats 4000000 in
theorem jv_noret {η : Type} {O : jv_Ops η} {G : jv_X} {M : jv_MI} {pc n a b t u : Nat} {z : Int} {i : Jvm.ClassFile.Instr} {ls : jv_L} {st : List Value} {h : η} {v : Option Value} (hi : jv_isr i = false) : ¬ jv_nxt O G M (pc, i, n, a, b, t, u, z) ls st h = some (.inr (.inl v)) := by
  intro hn
  cases i
  case ireturn => cases hi
  case lreturn => cases hi
  case areturn => cases hi
  case return_ => cases hi
  all_goals
    simp only [jv_nxt, jv_i1, jv_i2, jv_l1, jv_l2, jv_li, jv_r1, jv_vr, jv_ri, jv_rii, jv_rir, jv_st, jv_ild, jv_lld, jv_ald, jv_go] at hn
  all_goals repeat' (split at hn)
  all_goals first | (cases hn; done) | contradiction
theorem jv_rn_e {ty : FieldType} {x : Int32} (h : jv_rn ty x = true) : narrow ty (.int x) = .int x := by
  unfold jv_rn at h
  split at h
  · rfl
  · rcases (Bool.or_eq_true _ _).mp h with q | q
    · obtain rfl : x = 0 := eq_of_beq q
      rfl
    · obtain rfl : x = 1 := eq_of_beq q
      rfl
  · exact congrArg Value.int (eq_of_beq h)
  · exact congrArg Value.int (eq_of_beq h)
  · cases h
/-- a return of the small machine is one of the machine's -/
theorem jv_ret {η : Type} {O : jv_Ops η} {D : va_G} {tc : Nat → ClassId} {base : Nat} {cst : Nat → Nat} {G : jv_X} {H0 : Heap} {p : Program} {l : Launch} {e : Env} {R : Room} {s : State} {m : MethodId} {args : Array Value} {below : List Frame} {meth : Method} {c : Code} {M : jv_MI} {d : Nat} {mc ms : Nat}
    (F : jv_Fx D tc base cst G H0 p R s m args meth c M d) {pc n a b t u : Nat} {z : Int} {i : Jvm.ClassFile.Instr} (hd : decode M.2.2.1 pc = .ok (i, n)) (hk : jv_lk M (pc, i, n, a, b, t, u, z) = true)
    {ls : jv_L} {st : List Value} {h h0 : η} {v : Option Value} (hn : jv_nxt O G M (pc, i, n, a, b, t, u, z) ls st h = some (.inr (.inl v))) {B : Option Value → η → Prop} (hB : B v h) (hz : O.1 h = O.1 h0 + mc) (hl : O.2.1 h = O.2.1 h0 + ms) :
    jv_PW O D tc base cst H0 p l e R s m args below meth c (MQ below (jv_Qc O D tc base cst H0 mc ms h0 B) args s mc ms (fun q => base ≤ q)) (O.1 h0) (O.2.1 h0) M.2.2.2.1 pc ls st h := by
  obtain ⟨hx, hb, hml, hown, hts, hmn, hret, hlocks, hK, hfr, hlo⟩ := F
  have e1 : O.1 h - O.1 h0 = mc := by omega
  have e2 : O.2.1 h - O.2.1 h0 = ms := by omega
  have post : ∀ (H : Heap) (locs : List Loc) (lm : Array Slot), jv_At O D tc base cst H0 (O.1 h0) (O.2.1 h0) M.2.2.2.1 ls h H locs lm → ∀ t : State, t.heap = H → s.WarmedH t.vm → jv_Qc O D tc base cst H0 mc ms h0 B args s (.returned (v.map (jv_cv base cst))) t := by
    intro H locs lm hA t ht hW
    exact ⟨v, h, rfl, hB, hz, hl, by rw [ht]; exact hA.1, by rw [ht]; exact hA.2.1⟩
  unfold jv_PW
  rw [e1, e2]
  cases i
  case ireturn =>
    obtain rfl : n = 1 := eq_of_beq hk
    simp only [jv_nxt] at hn
    split at hn
    · rename_i x ty hr
      obtain ⟨hrn, hn⟩ := jv_if_e hn
      cases hn
      rw [hr] at hret
      intro H locs lm hA
      exact W.zret (v := x) hx hb hret (jv_rn_e hrn) (post H locs lm hA) hA.2.2.2.1 hd hlocks
    · cases hn
  case lreturn =>
    obtain rfl : n = 1 := eq_of_beq hk
    simp only [jv_nxt] at hn
    split at hn
    · rename_i x hr
      cases hn
      rw [hr] at hret
      intro H locs lm hA
      exact W.lret (v := x) hx hb hret (post H locs lm hA) hA.2.2.2.1 hd hlocks
    · cases hn
  case areturn =>
    obtain rfl : n = 1 := eq_of_beq hk
    simp only [jv_nxt] at hn
    split at hn
    · rename_i x nm hr
      cases hn
      rw [hr] at hret
      intro H locs lm hA
      exact W.aret (v := jv_cv base cst (.ref x)) hx hb hret (Or.inl ⟨nm, rfl⟩) (Or.inr ⟨_, rfl⟩) (post H locs lm hA) hA.2.2.2.1 hd hlocks
    · cases hn
  case return_ =>
    obtain rfl : n = 1 := eq_of_beq hk
    simp only [jv_nxt] at hn
    split at hn
    · rename_i hr
      cases hn
      rw [hr] at hret
      intro H locs lm hA
      exact W.vret hx hb hret (post H locs lm hA) hA.2.2.2.1 hd hlocks
    · cases hn
  all_goals exact absurd hn (jv_noret rfl)
theorem jv_frame (hall : jv_All) {η : Type} {O : jv_Ops η} (hO : jv_Ok O) {D : va_G} {tc : Nat → ClassId} {base : Nat} {cst : Nat → Nat} {G : jv_X} {H0 : Heap} {p : Program} {l : Launch} {e : Env} {R : Room} {s : State} {m : MethodId} {args : Array Value} {below : List Frame} {meth : Method} {c : Code} {M : jv_MI} {d : Nat} {Q : State → Prop} {z0 l0 mc ms : Nat}
    (F : jv_Fx D tc base cst G H0 p R s m args meth c M d) (hM : jv_ok M = true) (hcap : mc ≤ R.cells ∧ ms ≤ R.slots) {B : Option Value → η → Prop}
    (ih : ∀ k mc ms as h (B : Option Value → η → Prop), jv_wp O G d k mc ms as h B → ∀ N, jv_P[k]? = some N → Met l N.2.1 (jv_ws N) (jv_rm d mc ms) (jv_Pc O D tc base cst G H0 as h) (jv_Qc O D tc base cst H0 mc ms h B) mc ms (fun q => base ≤ q))
    (hret : ∀ pc i n a b t u z ls st h v, decode M.2.2.1 pc = .ok (i, n) → jv_lk M (pc, i, n, a, b, t, u, z) = true → jv_nxt O G M (pc, i, n, a, b, t, u, z) ls st h = some (.inr (.inl v)) → B v h → O.1 h = z0 + mc → O.2.1 h = l0 + ms → jv_PW O D tc base cst H0 p l e R s m args below meth c Q z0 l0 M.2.2.2.1 pc ls st h)
    {pc : Nat} {ls : jv_L} {st : List Value} {h : η} (hw : jv_We O G (jv_wp O G d) M z0 l0 mc ms B pc ls st h) : jv_PW O D tc base cst H0 p l e R s m args below meth c Q z0 l0 M.2.2.2.1 pc ls st h := by
  refine hw (jv_PW O D tc base cst H0 p l e R s m args below meth c Q z0 l0 M.2.2.2.1) (fun pc ls st h hs => ?_)
  unfold jv_stp at hs
  cases ha : jv_at M.2.2.2.2.2.2 pc with
  | none => rw [ha] at hs; exact hs.elim
  | some en =>
    rw [ha] at hs
    obtain ⟨i, n, a, b, t, u, z⟩ := en
    have hin := jv_at_in _ _ ha
    have hok := List.all_eq_true.mp hM _ hin
    unfold jv_eok at hok
    obtain ⟨hd, hk⟩ := (Bool.and_eq_true _ _).mp hok
    have hd := of_decide_eq_true hd
    cases hn : jv_nxt O G M (pc, i, n, a, b, t, u, z) ls st h with
    | none => simp only [hn] at hs
    | some o =>
      simp only [hn] at hs
      match o, hn, hs with
      | .inl (pc', ls', st', h'), hn, hs => exact jv_step hO F hd hk hn ⟨by omega, by omega⟩ hs.2.2
      | .inr (.inl v), hn, hs => exact hret _ _ _ _ _ _ _ _ _ _ _ _ hd hk hn hs.2.2 hs.1 hs.2.1
      | .inr (.inr (k, pc', as, r)), hn, hs =>
        obtain ⟨mc', ms', c1, c2, hc⟩ := hs
        have hN : ∃ N, jv_P[k]? = some N := by
          cases d with
          | zero => exact hc.elim
          | succ d => obtain ⟨N, h1, -⟩ := hc; exact ⟨N, h1⟩
        obtain ⟨N, hN⟩ := hN
        exact fun H locs lm hA => jv_call hall hO F hd hk hn hN (ih _ _ _ _ _ _ hc N hN) ⟨by have := hA.2.2.2.2.1; omega, by have := hA.2.2.2.2.2; omega⟩ (fun v h' q _ _ => q) H locs lm hA
theorem jv_sound (hall : jv_All) {η : Type} {O : jv_Ops η} (hO : jv_Ok O) {D : va_G} {tc : Nat → ClassId} {base : Nat} {cst : Nat → Nat} {G : jv_X} {H0 : Heap} {l : Launch} : ∀ d k mc ms as h (B : Option Value → η → Prop), jv_wp O G d k mc ms as h B → ∀ N, jv_P[k]? = some N →
    Met l N.2.1 (jv_ws N) (jv_rm d mc ms) (jv_Pc O D tc base cst G H0 as h) (jv_Qc O D tc base cst H0 mc ms h B) mc ms (fun q => base ≤ q)
  | 0, _, _, _, _, _, _, hw, _, _ => hw.elim
  | d + 1, k, mc, ms, as, h, B, hw, N, hN => by
    obtain ⟨M, h1, h2, h3⟩ := hw
    cases h1.symm.trans hN
    obtain ⟨hok, t1, t2, t3, t4, hmk⟩ := hall N (List.mem_of_getElem? hN)
    obtain ⟨m1, m2, m3, m4, m5, m6, m7, m8, m9, m10⟩ := jv_mk_e hmk
    refine Met.ofW (cc := N.2.2.1) (maxL := N.2.2.2.1) (ret := N.2.2.2.2.1) m7 rfl ?_
    intro p e s m args below meth c s₁ Bd hml hv
    obtain ⟨rfl, hK, hR, hbel⟩ := hv
    have hts := atoms_spec (ws := jv_ws N) Bd.pre
    have hown : s.vm.findClass N.1 = some m.cls := by rw [m8]; exact findClass_of_methodNamed Bd.named
    have F : jv_Fx D tc base cst G H0 p (headSpec (jv_ws N) (jv_rm (d + 1) mc ms)).room s m (as.map (jv_cv base cst)).toArray meth c N d :=
      ⟨Bd.exec, Bd.bytes, hml, hown, fun w hw => hts w (List.mem_cons_of_mem _ hw), (name_of_methodNamed Bd.named Bd.method).1, Bd.returns, Bd.notSynchronized, hK, by show d + 1 ≤ d + 1; omega, by show 40 * d + 40 ≤ 40 * (d + 1); omega⟩
    have := jv_frame hall hO F hok ⟨Nat.le_refl _, Nat.le_refl _⟩ (fun k mc ms as h B hw N hN => jv_sound hall hO d k mc ms as h B hw N hN) (fun pc i n a b t u z ls st h2 v hd hk hn hB hz hl => jv_ret (l := l) (e := e) (below := below) F hd hk hn hB hz hl) h3
    rw [lg_entry_eq]
    have := this s.heap [] _ ⟨hR, hbel, jv_LR_entry as h2, fun q hq => absurd hq List.not_mem_nil, Nat.le_refl _, Nat.le_refl _⟩
    rw [Nat.sub_self, Nat.sub_self] at this
    exact this
