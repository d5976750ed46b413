/-! the first call's text, on an empty tape: by running both -/
def ws_G0 : jv_X := ((0, fun _ => 0), .null)
def ws_safe (e : jv_E) (st : List Value) : Bool := match e.2.1 with
  | .iaload => (match st with
    | .int _ :: .ref c :: _ => decide (c < 176)
    | _ => false)
  | .arraylength => (match st with
    | .ref c :: _ => decide (c < 176)
    | _ => false)
  | .getstatic _ => decide (e.2.2.2.1 = 0)
  | _ => true
def ws_nx (M : jv_MI) (e : jv_E) (ls : jv_L) (st : List Value) (s : jg_H) : jv_O jg_H := bif ws_safe e st then jv_nxt jg_O ws_G0 M e ls st s else none
set_option maxHeartbeats 4000000 in
theorem ws_nx_e {G : jv_X} : ∀ (M : jv_MI) (e : jv_E) (ls : jv_L) (st : List Value) (h : jg_H) (o : (Nat × jv_L × List Value × jg_H) ⊕ (Option Value) ⊕ (Nat × Nat × List Value × List Value)), ws_nx M e ls st h = some o → jv_nxt jg_O G M e ls st h = some o := by
  intro M e ls st h o hq
  obtain ⟨pc, i, n, a, b, t, u, z⟩ := e
  unfold ws_nx at hq
  cases hs : ws_safe (pc, i, n, a, b, t, u, z) st with
  | false => rw [hs] at hq; cases hq
  | true =>
    rw [hs] at hq
    have hq : jv_nxt jg_O ws_G0 M (pc, i, n, a, b, t, u, z) ls st h = some o := hq
    cases i
    case iaload =>
      simp only [ws_safe] at hs
      split at hs
      · rename_i x c r _q
        have hc : c < 176 := of_decide_eq_true hs
        simp only [jv_nxt, jv_ri] at hq ⊢
        rw [if_pos (show c < jg_O.1 h from hc)] at hq ⊢
        exact hq
      · cases hs
    case arraylength =>
      simp only [ws_safe] at hs
      split at hs
      · rename_i c r _q
        have hc : c < 176 := of_decide_eq_true hs
        simp only [jv_nxt, jv_r1] at hq ⊢
        rw [if_pos (show c < jg_O.1 h from hc)] at hq ⊢
        exact hq
      · cases hs
    case getstatic ix =>
      have ha : a = 0 := of_decide_eq_true hs
      simp only [jv_nxt] at hq ⊢
      rw [if_pos ha] at hq ⊢
      exact hq
    case if_icmp cond off _x => cases cond <;> exact hq
    case ifCond cond off _x => cases cond <;> exact hq
    all_goals exact hq
def ws_chk (F : Nat → List Value → jg_H → Option (Option Value × jg_H)) (s : jg_H) : Bool := match F 70 [.ref 0] s with
  | some (some (.int x), h) => (match F 176 [.ref 146] h with
    | some (some (.int y), _) => x == y
    | _ => false)
  | _ => false
theorem ws_chk_ok : ws_chk (jv_ev ws_nx 400 91) (jg_of jc_M13.2) = true := by decide +kernel
theorem ws_chk_e {F : Nat → List Value → jg_H → Option (Option Value × jg_H)} {s : jg_H} (h : ws_chk F s = true) : ∃ v s1 s2, F 70 [.ref 0] s = some (v, s1) ∧ F 176 [.ref 146] s1 = some (v, s2) := by
  unfold ws_chk at h
  split at h
  · rename_i x s1 e1
    split at h
    · rename_i y s2 e2
      exact ⟨_, s1, s2, e1, by rw [e2, eq_of_beq h]⟩
    · cases h
  · cases h
theorem ws_ev {G : jv_X} {f d k : Nat} {as : List Value} {s s1 : jg_H} {v : Option Value} (e : jv_ev ws_nx f d k as s = some (v, s1)) {B : Option Value → jg_H → Prop} (hB : B v s1) : q_P G d k as s B := by
  obtain ⟨-, -, w⟩ := jv_ev_wp (G := G) jg_Ok ws_nx_e _ _ _ _ _ _ e
  have := w B hB
  rw [show jg_O.1 s1 - jg_O.1 s = 0 from Nat.sub_self 176, show jg_O.2.1 s1 - jg_O.2.1 s = 0 from Nat.sub_self 9491] at this
  exact this
theorem ws_text0 {G : jv_X} : q_P G 91 70 [.ref 0] (jg_of jc_M13.2) (fun r s' => q_P G 91 176 [.ref 146] s' (fun r' _ => r = r')) := by
  obtain ⟨v, s1, s2, e1, e2⟩ := ws_chk_e ws_chk_ok
  exact ws_ev e1 (ws_ev e2 rfl)
/-- the law from its entry, for a script of one call at most -/
theorem ws_p1 {p : Program} {e : Env} {s : State} {m : MethodId} {below : List Frame} {meth : Method} {c : Code} (l : Launch) {b L : Nat} {xs : Nat → Int32} (hL : L ≤ 7) (C0 : lw_At p s m meth c b L xs) : W p l e room_1 s m #[Value.ref b] below meth c s.heap [] 0 0 (lw_Z below #[Value.ref b] s) (entryFrame m ([Value.ref b] : List Value).toArray 4) :=
  ws_law l (by omega) C0 (fun v => ws_We (ws_one (G := ((L, xs), v)) hL ws_inv ws_text0))
