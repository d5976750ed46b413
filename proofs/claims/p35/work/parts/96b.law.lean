/-! THE CLAIM OUT OF ONE WALK OF THE LAW'S BODY. Your part is whole_start (and what it stands on); all else here is the same for every law, but numbers. -/
def R_law : String := "HouseCalendarLaw"
def lw_P (b : Addr) (xs : List Int32) (args : Array Value) (s : State) : Prop := args = #[.ref b] ∧ s.IntsAt b xs ∧ xs.length ≤ 3584 ∧ (Jvm.Cond.and given_1 narrow_1).before args s = true
def lw_Q (_ : Array Value) (s : State) (o : Outcome) (t : State) : Prop := o = .returned (some (.int 1)) ∧ Framed s o t [] 600000 7302250
def lw_Z (below : List Frame) (a : Array Value) (s : State) : State → Prop := fun t => ∃ o, t.status = .running ∧ Ended t below o ∧ lw_Q a s o t
/-- the law's own end, with 1 on the stack, nothing written that was there before, its room as the claim has it -/
theorem lw_ret {p : Program} {l : Launch} {e : Env} {s : State} {m : MethodId} {below : List Frame} {meth : Method} {c : Code} {b : Nat} (hx : p.tables.exec = Jvm.exec) (hb : c.code = code) (hr : meth.sig.returnType = ret) (hlocks : meth.locks = false) {pc : Nat} {H : Heap} {ls : Array Slot} (hdg : decode code pc = .ok (.ireturn, 1)) : W p l e room_1 s m #[Value.ref b] below meth c H [] 600000 7302250 (lw_Z below #[Value.ref b] s) (F0 m pc ls [.int 1]) := by
  intro T hT X
  obtain ⟨fs, hret, hrun, hended, hW, hframe⟩ := X.leave (v := some (.int 1)) (hlocks := hlocks) (fun h => by rw [hr] at h; cases h)
  have hmeth' : T.vm.method? m = some meth := X.method'
  refine ⟨T.setFrames fs, ?_, .returned (some (.int 1)), hrun, hended, rfl, ⟨_, rfl⟩, hW, hframe⟩
  jvm_step X.here [X.here.top, hx, hb, hdg, hmeth', hr, ret, narrow_b1]
  (try refine ⟨rfl, ?_⟩); (try refine ⟨rfl, ?_⟩)
  first | (intro acts; rw [hret _ acts rfl rfl rfl]) | rw [hret _ _ rfl rfl rfl]
  exact Steps.refl _
/-- what holds at the law's entry: the machine, the code, the tables' words (any of lw_tbl by 'hts w (by decide +kernel)'), the script of L ints xs at the cell b, what the Statement gives of the start (any of its parts by flat_of_before) -/
def lw_At (p : Program) (s : State) (m : MethodId) (meth : Method) (c : Code) (b L : Nat) (xs : Nat → Int32) : Prop :=
  p.tables.exec = Jvm.exec ∧ c.code = code ∧ meth.sig.returnType = ret ∧ c.maxLocals = 4 ∧ meth.name = "law" ∧ s.vm.findClass R_law = some m.cls ∧ (∀ w ∈ lw_tbl, w.before #[Value.ref b] s = true) ∧ va_X b L xs s s.heap ∧ b < s.heap.size ∧ meth.locks = false ∧ (Jvm.Cond.and given_1 narrow_1).before #[Value.ref b] s = true
theorem ws_ret {p : Program} {l : Launch} {e : Env} {s : State} {m : MethodId} {below : List Frame} {meth : Method} {c : Code} {b : Nat} (hx : p.tables.exec = Jvm.exec) (hb : c.code = code) (hr : meth.sig.returnType = ret) (hlocks : meth.locks = false) {pc : Nat} {H : Heap} {ls : Array Slot} {r : List Value} (hdg : decode code pc = .ok (.ireturn, 1)) : W p l e room_1 s m #[Value.ref b] below meth c H [] 600000 7302250 (lw_Z below #[Value.ref b] s) (F0 m pc ls (.int 1 :: r)) := by
  intro T hT X
  obtain ⟨fs, hret, hrun, hended, hW, hframe⟩ := X.leave (v := some (.int 1)) (hlocks := hlocks) (fun h => by rw [hr] at h; cases h)
  have hmeth' : T.vm.method? m = some meth := X.method'
  refine ⟨T.setFrames fs, ?_, .returned (some (.int 1)), hrun, hended, rfl, ⟨_, rfl⟩, hW, hframe⟩
  jvm_step X.here [X.here.top, hx, hb, hdg, hmeth', hr, ret, narrow_b1]
  (try refine ⟨rfl, ?_⟩); (try refine ⟨rfl, ?_⟩)
  first | (intro acts; rw [hret _ acts rfl rfl rfl]) | rw [hret _ _ rfl rfl rfl]
  exact Steps.refl _
theorem ws_law {p : Program} {e : Env} {s : State} {m : MethodId} {below : List Frame} {meth : Method} {c : Code} (l : Launch) {b L : Nat} {xs : Nat → Int32} (hL : L ≤ 3584) (C0 : lw_At p s m meth c b L xs)
    (hloop : ∀ v : Value, (v = .null ∨ v = .ref 1000005) → jv_We jg_O ((L, xs), v) (jv_wp jg_O ((L, xs), v) 91) jm_law 0 0 176 9491 (fun w _ => w = some (.int 1)) 18 (ws_ls 0) [] (jg_of jc_M13.2)) : W p l e room_1 s m #[Value.ref b] below meth c s.heap [] 0 0 (lw_Z below #[Value.ref b] s) (entryFrame m ([Value.ref b] : List Value).toArray 4) := by
  obtain ⟨hx, hb, hr, hml, hnm, hown, hts, hX, hbl, hlocks, hgv⟩ := C0
  obtain ⟨D, tc, cst, v, hv, h0, hK⟩ := ws_K hts hgv (by omega) hX hbl
  have F : jv_Fx D tc s.heap.size cst ((L, xs), v) s.heap p room_1 s m #[Value.ref b] meth c jm_law 91 := ⟨hx, hb, hml, hown, fun w hw => hts w (jv_G_in hw).1, hnm, hr, hlocks, hK, by decide, by decide⟩
  have key : jv_PW jh_O D tc s.heap.size cst s.heap p l e room_1 s m #[Value.ref b] below meth c (lw_Z below #[Value.ref b] s) 0 0 4 0 [some (.ref 1000000), none, none, none] [] ws_h0 := by
    refine ws_pc18 hv F (jv_frame jv_all jg_Ok F jw_law ⟨by decide, by decide⟩ (fun k mc ms as h B hw N hN => jv_sound jv_all jg_Ok 91 k mc ms as h B hw N hN) (fun pc i n a b' t u z ls st h w hd hk hn hB hz hl => ?_) (hloop v hv))
    intro H locs lm hA
    cases i
    case ireturn =>
      obtain rfl : n = 1 := eq_of_beq hk
      simp only [jv_nxt] at hn
      split at hn
      · rename_i x ty hrt
        obtain ⟨-, hn⟩ := jv_if_e hn
        cases hn
        cases hB
        refine va_forget (fun q hq => hA.2.2.2.1 q hq) ?_
        refine W.widen (k := 600000) (n := 7302250) (by show 176 - 0 ≤ 600000; decide) (by show 9491 - 0 ≤ 7302250; decide) ?_
        exact ws_ret hx hb hr hlocks hd
      · cases hn
    case lreturn =>
      simp only [jv_nxt] at hn
      split at hn
      · cases hn; cases hB
      · cases hn
    case areturn =>
      simp only [jv_nxt] at hn
      split at hn
      · cases hn; cases hB
      · cases hn
    case return_ =>
      simp only [jv_nxt] at hn
      split at hn
      · cases hn; cases hB
      · cases hn
    all_goals exact absurd hn (jv_noret rfl)
  rw [lg_entry_eq]
  have e1 : jv_cv s.heap.size cst (.ref 1000000) = .ref b := by
    show Value.ref (if 1000000 < 1000000 then _ else cst (1000000 - 1000000)) = _
    rw [if_neg (by decide)]
    exact congrArg Value.ref h0
  have e2 : [Value.ref b] = ([.ref 1000000] : List Value).map (jv_cv s.heap.size cst) := by rw [List.map_cons, e1, List.map_nil]
  have := key s.heap [] _ ⟨⟨rfl, fun c hc => absurd hc (Nat.not_lt_zero _)⟩, fun _ _ => rfl, jv_LR_entry (base := s.heap.size) (cst := cst) [.ref 1000000] (nL := 4) (by decide), fun q hq => absurd hq List.not_mem_nil, Nat.le_refl _, Nat.le_refl _⟩
  rw [← e2] at this
  exact this
