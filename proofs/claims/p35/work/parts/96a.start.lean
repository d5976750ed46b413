/-! the start: what the machine knows ahead of the law's first instruction -/
theorem ws_D {args : Array Value} {s : State} (hts : ∀ w ∈ jv_G, w.before args s = true) : ∃ D, va_K D vwCl [] s := by
  obtain ⟨c0, i0, h0⟩ := u_known (C := RX0) (T := TX0) (N := 4) (n := 4) hts jv_inX0 (hts _ jv_mkX0)
  obtain ⟨c1, i1, h1⟩ := u_known (C := RX1) (T := TX1) (N := 3) (n := 3) hts jv_inX1 (hts _ jv_mkX1)
  obtain ⟨c2, i2, h2⟩ := u_known (C := RX2) (T := TX2) (N := 2) (n := 2) hts jv_inX2 (hts _ jv_mkX2)
  obtain ⟨c3, i3, h3⟩ := u_known (C := RX3) (T := TX3) (N := 6) (n := 6) hts jv_inX3 (hts _ jv_mkX3)
  obtain ⟨c4, i4, h4⟩ := u_known (C := RX4) (T := TX4) (N := 2) (n := 2) hts jv_inX4 (hts _ jv_mkX4)
  obtain ⟨c5, i5, h5⟩ := u_known (C := RX5) (T := TX5) (N := 5) (n := 5) hts jv_inX5 (hts _ jv_mkX5)
  obtain ⟨c6, i6, h6⟩ := u_known (C := RX6) (T := TX6) (N := 6) (n := 6) hts jv_inX6 (hts _ jv_mkX6)
  obtain ⟨c7, i7, h7⟩ := u_known (C := RX7) (T := TX7) (N := 9) (n := 9) hts jv_inX7 (hts _ jv_mkX7)
  obtain ⟨c8, i8, h8⟩ := u_known (C := RX8) (T := TX8) (N := 2) (n := 2) hts jv_inX8 (hts _ jv_mkX8)
  obtain ⟨c9, i9, h9⟩ := u_known (C := RX9) (T := TX9) (N := 3) (n := 3) hts jv_inX9 (hts _ jv_mkX9)
  obtain ⟨c10, i10, h10⟩ := u_known (C := RX10) (T := TX10) (N := 2) (n := 2) hts jv_inX10 (hts _ jv_mkX10)
  obtain ⟨c11, i11, h11⟩ := u_known (C := RX11) (T := TX11) (N := 20) (n := 20) hts jv_inX11 (hts _ jv_mkX11)
  obtain ⟨c12, i12, h12⟩ := u_known (C := RX12) (T := TX12) (N := 59) (n := 59) hts jv_inX12 (hts _ jv_mkX12)
  have hk : ∀ k : Nat, ∃ q : ClassId × (Nat → Nat), ∀ r : vw_C, vwCl[k]? = some r → u_Kn s r.1 r.2.1 r.2.2 q.1 q.2 := by
    intro k
    match k with
    | 0 => exact ⟨(c0, i0), fun r hr => by cases hr; exact h0⟩
    | 1 => exact ⟨(c1, i1), fun r hr => by cases hr; exact h1⟩
    | 2 => exact ⟨(c2, i2), fun r hr => by cases hr; exact h2⟩
    | 3 => exact ⟨(c3, i3), fun r hr => by cases hr; exact h3⟩
    | 4 => exact ⟨(c4, i4), fun r hr => by cases hr; exact h4⟩
    | 5 => exact ⟨(c5, i5), fun r hr => by cases hr; exact h5⟩
    | 6 => exact ⟨(c6, i6), fun r hr => by cases hr; exact h6⟩
    | 7 => exact ⟨(c7, i7), fun r hr => by cases hr; exact h7⟩
    | 8 => exact ⟨(c8, i8), fun r hr => by cases hr; exact h8⟩
    | 9 => exact ⟨(c9, i9), fun r hr => by cases hr; exact h9⟩
    | 10 => exact ⟨(c10, i10), fun r hr => by cases hr; exact h10⟩
    | 11 => exact ⟨(c11, i11), fun r hr => by cases hr; exact h11⟩
    | 12 => exact ⟨(c12, i12), fun r hr => by cases hr; exact h12⟩
    | k + 13 => exact ⟨(c0, i0), fun r hr => by cases hr⟩
  obtain ⟨f, hf⟩ := Classical.axiomOfChoice hk
  exact ⟨(fun k => (f k).1, fun k => (f k).2), fun k r hr => hf k r hr, fun k q h => by simp at h⟩
theorem ws_arrI {s : State} {args : Array Value} {ty : FieldType} (h : (Cond.arrayClass ty).before args s = true) (hty : ∀ C, ty ≠ .object C) : ∃ cA, ArrOfT s cA ty ∧ va_RA s cA ty := by
  obtain ⟨cA, kA, comp, h1, h2, h3⟩ := Cond.arrayClass_spec h
  refine ⟨cA, fun n z => ⟨fun k h => (by cases h), kA, h2, comp, h3⟩, ?_⟩
  cases ty with
  | object C => exact absurd rfl (hty C)
  | _ => exact h1
theorem ws_arrA {s : State} {args : Array Value} {t : FieldType} (h : (Cond.arrayOver (.array t)).before args s = true) : ∃ cA, ArrOfT s cA (.array t) ∧ va_RA s cA (.array t) := by
  obtain ⟨comp, c, k, h1, h2, h3, h4⟩ := Cond.arrayOver_specA h
  exact ⟨c, fun n z => ⟨fun k h => (by cases h), k, h2, comp, h3⟩, h4⟩
theorem ws_arrO {s : State} {args : Array Value} {C : String} (h : (Cond.arrayOver (.object C)).before args s = true) : ∃ cA, ArrOfT s cA (.object C) ∧ va_RA s cA (.object C) := by
  obtain ⟨comp, c, k, h1, h2, h3, h4, h5⟩ := Cond.arrayOver_spec h
  exact ⟨c, fun n z => ⟨fun k h => (by cases h), k, h3, comp, h4⟩, k, comp, h3, h4, h1, h5⟩
theorem ws_tin (w : Cond) (h : decide (w ∈ tables_1) = true) : w ∈ lw_tbl := List.mem_append_right _ (of_decide_eq_true h)
theorem ws_tc {args : Array Value} {s : State} (hts : ∀ w ∈ lw_tbl, w.before args s = true) : ∃ tc : Nat → ClassId, ∀ k, 13 ≤ k → k < 21 → ArrOfT s (tc k) (jv_aty k) ∧ va_RA s (tc k) (jv_aty k) := by
  have hk : ∀ k : Nat, ∃ c : ClassId, 13 ≤ k → k < 21 → ArrOfT s c (jv_aty k) ∧ va_RA s c (jv_aty k) := by
    obtain ⟨c13, h13⟩ := ws_arrI (hts _ (jv_G_in jv_arrw.1).1) (fun C h => by cases h)
    obtain ⟨c14, h14⟩ := ws_arrI (hts _ (jv_G_in jv_arrw.2).1) (fun C h => by cases h)
    obtain ⟨c15, h15⟩ := ws_arrA (t := .int) (hts _ (ws_tin _ (by decide +kernel)))
    obtain ⟨c16, h16⟩ := ws_arrO (C := "HouseCalendar$Member") (hts _ (ws_tin _ (by decide +kernel)))
    obtain ⟨c17, h17⟩ := ws_arrO (C := "HouseCalendar$Bill") (hts _ (ws_tin _ (by decide +kernel)))
    obtain ⟨c18, h18⟩ := ws_arrO (C := "HouseCalendar$Sections") (hts _ (ws_tin _ (by decide +kernel)))
    obtain ⟨c19, h19⟩ := ws_arrO (C := "HouseCalendar$Text") (hts _ (ws_tin _ (by decide +kernel)))
    obtain ⟨c20, h20⟩ := ws_arrO (C := "HouseCalendar$Tray") (hts _ (ws_tin _ (by decide +kernel)))
    intro k
    by_cases e : k = 13
    · subst e; exact ⟨c13, fun _ _ => h13⟩
    by_cases e : k = 14
    · subst e; exact ⟨c14, fun _ _ => h14⟩
    by_cases e : k = 15
    · subst e; exact ⟨c15, fun _ _ => h15⟩
    by_cases e : k = 16
    · subst e; exact ⟨c16, fun _ _ => h16⟩
    by_cases e : k = 17
    · subst e; exact ⟨c17, fun _ _ => h17⟩
    by_cases e : k = 18
    · subst e; exact ⟨c18, fun _ _ => h18⟩
    by_cases e : k = 19
    · subst e; exact ⟨c19, fun _ _ => h19⟩
    by_cases e : k = 20
    · subst e; exact ⟨c20, fun _ _ => h20⟩
    exact ⟨c13, fun h1 h2 => absurd h2 (by omega)⟩
  obtain ⟨f, hf⟩ := Classical.axiomOfChoice hk
  exact ⟨f, hf⟩
theorem ws_strs : ∀ i, i < 2 → Cond.stringRef (jv_own i) (jv_ix i) (jv_tx i) ∈ tables_1 := by decide +kernel
def ws_tm (i : Nat) : Term := Term.string (jv_own i) (jv_ix i)
def ws_len : List Nat := [68, 120]
def ws_byt : List (List Int32) := [jv_s1, jv_s2]
theorem ws_nar : ∀ i, i < 2 → Cond.exactly (ws_tm i) "java/lang/String" ∈ flatC (Cond.and given_1 narrow_1) ∧ Cond.eq (.field (ws_tm i) "java/lang/String" "coder" "B") (.int 0) ∈ flatC (Cond.and given_1 narrow_1) ∧ Cond.arrayOf (.field (ws_tm i) "java/lang/String" "value" "[B") .byte ∈ flatC (Cond.and given_1 narrow_1) ∧ Cond.eq (.length (.field (ws_tm i) "java/lang/String" "value" "[B")) (.int (Int32.ofNat (ws_len.getD i 0))) ∈ flatC (Cond.and given_1 narrow_1) := by decide +kernel
def ws_el (i j : Nat) : Cond := Cond.eq (.elem (.field (ws_tm i) "java/lang/String" "value" "[B") (.int (Int32.ofNat j))) (.int ((ws_byt.getD i []).getD j 0))
theorem ws_by0 : ((flatC (Cond.and given_1 narrow_1)).drop 13).take 68 = (List.range 68).map (ws_el 0) := by decide +kernel
theorem ws_by1 : ((flatC (Cond.and given_1 narrow_1)).drop 85).take 120 = (List.range 120).map (ws_el 1) := by decide +kernel
theorem ws_bytes : ∀ i, i < 2 → ∀ j, j < ws_len.getD i 0 → ws_el i j ∈ flatC (Cond.and given_1 narrow_1) := by
  intro i hi j hj
  match i, hi, hj with
  | 0, _, hj =>
    have h : ws_el 0 j ∈ (List.range 68).map (ws_el 0) := List.mem_map.mpr ⟨j, List.mem_range.mpr hj, rfl⟩
    rw [← ws_by0] at h
    exact List.mem_of_mem_drop (List.mem_of_mem_take h)
  | 1, _, hj =>
    have h : ws_el 1 j ∈ (List.range 120).map (ws_el 1) := List.mem_map.mpr ⟨j, List.mem_range.mpr hj, rfl⟩
    rw [← ws_by1] at h
    exact List.mem_of_mem_drop (List.mem_of_mem_take h)
theorem ws_ne : Cond.not (Cond.eq (ws_tm 0) (ws_tm 1)) ∈ flatC (Cond.and given_1 narrow_1) ∨ Cond.not (Cond.eq (ws_tm 1) (ws_tm 0)) ∈ flatC (Cond.and given_1 narrow_1) := by decide +kernel
theorem ws_stat : Cond.eq (.static "java/lang/String" "COMPACT_STRINGS" "Z") (.int 1) ∈ flatC (Cond.and given_1 narrow_1) ∧ Cond.isRef (.static "jdk/internal/util/Preconditions" "SIOOBE_FORMATTER" "Ljava/util/function/BiFunction;") ∈ flatC (Cond.and given_1 narrow_1) := by decide +kernel
theorem ws_lays : (Cond.laysStatic "java/lang/String" "COMPACT_STRINGS" "Z" ∈ tables_1 ∧ Cond.initialized "java/lang/String" ∈ tables_1) ∧ Cond.laysStatic "jdk/internal/util/Preconditions" "SIOOBE_FORMATTER" "Ljava/util/function/BiFunction;" ∈ tables_1 ∧ Cond.initialized "jdk/internal/util/Preconditions" ∈ tables_1 := by decide +kernel
theorem ws_K {args : Array Value} {s : State} {b L : Nat} {xs : Nat → Int32} (hts : ∀ w ∈ lw_tbl, w.before args s = true) (hgv : (Cond.and given_1 narrow_1).before args s = true) (hL : L < 2 ^ 31) (hX : va_X b L xs s s.heap) (hb : b < s.heap.size) :
    ∃ (D : va_G) (tc : Nat → ClassId) (cst : Nat → Nat) (v : Value), (v = .null ∨ v = .ref 1000005) ∧ cst 0 = b ∧ jv_K D tc s.heap.size cst ((L, xs), v) s.heap s := by
  have hs := flat_of_before _ hgv
  have htG : ∀ w ∈ jv_G, w.before args s = true := fun w hw => hts w (jv_G_in hw).1
  have htT : ∀ w ∈ tables_1, w.before args s = true := fun w hw => hts w (List.mem_append_right _ hw)
  obtain ⟨D, hD⟩ := ws_D htG
  obtain ⟨tc, htc⟩ := ws_tc hts
  have hA : ∀ a : Nat, a < s.heap.size → ¬ (fun q => s.heap.size ≤ q) a := fun a h => Nat.not_le.mpr h
  obtain ⟨adK, adV, hS, hE⟩ := vk_Sof (args := args) (s := s) (N := 2) (tm := ws_tm) (len := ws_len) (byt := ws_byt) (A := fun q => s.heap.size ≤ q) (by decide) (fun i hi => hs _ (ws_nar i hi).1) (fun i hi => hs _ (ws_nar i hi).2.1) (fun i hi => hs _ (ws_nar i hi).2.2.1) (fun i hi => hs _ (ws_nar i hi).2.2.2) (fun i hi j hj => hs _ (ws_bytes i hi j hj)) (fun i j hi hj hij => by
    have e : (i = 0 ∧ j = 1) ∨ (i = 1 ∧ j = 0) := by omega
    rcases e with ⟨rfl, rfl⟩ | ⟨rfl, rfl⟩
    · exact ws_ne.imp (fun h => hs _ h) (fun h => hs _ h)
    · exact (ws_ne.imp (fun h => hs _ h) (fun h => hs _ h)).symm) hA
  have hZ1 : va_Z "java/lang/String" "COMPACT_STRINGS" "Z" (.int 1) (fun q => s.heap.size ≤ q) s s.heap := va_Zof (htT _ ws_lays.1.1) (htT _ ws_lays.1.2) (va_eqt (hs _ ws_stat.1)) hA
  have hZ2 : va_Zq "jdk/internal/util/Preconditions" "SIOOBE_FORMATTER" "Ljava/util/function/BiFunction;" (fun q => s.heap.size ≤ q) s s.heap := va_Zqof (htT _ ws_lays.2.1) (htT _ ws_lays.2.2) (hs _ ws_stat.2) hA
  have hZ3 : ∃ (v : Value) (t : Nat), (v = .null ∨ v = .ref 1000005) ∧ ∀ cst : Nat → Nat, cst 5 = t → va_Z "jdk/internal/util/Preconditions" "SIOOBE_FORMATTER" "Ljava/util/function/BiFunction;" (jv_cv s.heap.size cst v) (fun q => s.heap.size ≤ q) s s.heap := by
    rcases hZ2 with h | ⟨t, h⟩
    · exact ⟨.null, 0, Or.inl rfl, fun cst _ => h⟩
    · refine ⟨.ref 1000005, t, Or.inr rfl, fun cst hc => ?_⟩
      have e : jv_cv s.heap.size cst (.ref 1000005) = .ref t := by
        show Value.ref (if 1000005 < 1000000 then _ else cst (1000005 - 1000000)) = _
        rw [if_neg (by decide)]
        exact congrArg Value.ref hc
      rw [e]
      exact h
  obtain ⟨v, t, hv, hZ3⟩ := hZ3
  refine ⟨D, tc, fun k => match k with | 0 => b | 1 => adK 0 | 2 => adK 1 | 3 => adV 0 | 4 => adV 1 | _ => t, v, hv, rfl, hD, htc, fun a i x h hw => va_Nw.of rfl (htT _ (jv_nest_in _ hw)), ?_, ?_, rfl, hb, hX, hL, ?_, hZ1, hZ3 _ rfl⟩
  · intro k r hr h1 h2
    have e : k = 16 ∨ k = 17 ∨ k = 18 ∨ k = 19 ∨ k = 20 := by omega
    rcases e with rfl | rfl | rfl | rfl | rfl
    all_goals
      cases hr
      exact va_AO.of (hts _ (ws_tin _ (by decide +kernel)))
  · show (Cond.arrayOver (.array .int)).before #[] s = true
    have h : (Cond.arrayOver (.array .int)).before args s = true := hts _ (ws_tin _ (by decide +kernel))
    exact h
  · intro i hi
    have e : i = 0 ∨ i = 1 := by omega
    rcases e with rfl | rfl
    · obtain ⟨q1, q2, q3, q4⟩ := hS.1 0 (by decide)
      exact ⟨vk_R.of (htT _ (ws_strs 0 (by decide))) (hE 0 (by decide)), q1, q2, q3, q4⟩
    · obtain ⟨q1, q2, q3, q4⟩ := hS.1 1 (by decide)
      exact ⟨vk_R.of (htT _ (ws_strs 1 (by decide))) (hE 1 (by decide)), q1, q2, q3, q4⟩
theorem ws_runC {X : Nat × (Nat → Int32)} {v : Value} (hv : v = .null ∨ v = .ref 1000005) {Fin : jh_H → Prop} (h : Fin jc_C7.2) : jc_H (X, v) Fin jc_C0 := by
  have h : jc_H (X, v) Fin jc_C7 := h
  rcases hv with rfl | rfl
  · exact jc_runs _ jc_C0_n (jc_runs _ jc_C1_n (jc_runs _ jc_C2_n (jc_runs _ jc_C3_n (jc_runs _ jc_C4_n (jc_runs _ jc_C5_n (jc_runs _ jc_C6_n h))))))
  · exact jc_runs _ jc_C0_r (jc_runs _ jc_C1_r (jc_runs _ jc_C2_r (jc_runs _ jc_C3_r (jc_runs _ jc_C4_r (jc_runs _ jc_C5_r (jc_runs _ jc_C6_r h))))))
theorem ws_runM {X : Nat × (Nat → Int32)} {v : Value} (hv : v = .null ∨ v = .ref 1000005) {Fin : jh_H → Prop} (h : Fin jc_M13.2) : jc_H (X, v) Fin jc_M0 := by
  have h : jc_H (X, v) Fin jc_M13 := h
  rcases hv with rfl | rfl
  · exact jc_runs _ jc_M0_n (jc_runs _ jc_M1_n (jc_runs _ jc_M2_n (jc_runs _ jc_M3_n (jc_runs _ jc_M4_n (jc_runs _ jc_M5_n (jc_runs _ jc_M6_n (jc_runs _ jc_M7_n (jc_runs _ jc_M8_n (jc_runs _ jc_M9_n (jc_runs _ jc_M10_n (jc_runs _ jc_M11_n (jc_runs _ jc_M12_n h))))))))))))
  · exact jc_runs _ jc_M0_r (jc_runs _ jc_M1_r (jc_runs _ jc_M2_r (jc_runs _ jc_M3_r (jc_runs _ jc_M4_r (jc_runs _ jc_M5_r (jc_runs _ jc_M6_r (jc_runs _ jc_M7_r (jc_runs _ jc_M8_r (jc_runs _ jc_M9_r (jc_runs _ jc_M10_r (jc_runs _ jc_M11_r (jc_runs _ jc_M12_r h))))))))))))
def ws_F (h0 : jh_H) : Option Value → jh_H → Prop := fun w h => w = none ∧ h = h0
theorem ws_wpC {X : Nat × (Nat → Int32)} {v : Value} (hv : v = .null ∨ v = .ref 1000005) : jv_wp jh_O (X, v) 91 0 145 3752 [.ref 0] jc_C0.2 (ws_F jc_C7.2) :=
  ⟨jc_M 0, rfl, by decide +kernel, ws_runC (X := X) (Fin := fun h => h = jc_C7.2) hv rfl⟩
theorem ws_wpM {X : Nat × (Nat → Int32)} {v : Value} (hv : v = .null ∨ v = .ref 1000005) : jv_wp jh_O (X, v) 91 132 29 5660 [.ref 146] jc_M0.2 (ws_F jc_M13.2) :=
  ⟨jc_M 132, rfl, by decide +kernel, ws_runM (X := X) (Fin := fun h => h = jc_M13.2) hv rfl⟩
def ws_h0 : jh_H := (0, 0, [])
theorem ws_newC : jh_new ws_h0 11 (jv_nf 11) (fun j => defaultValue (jv_fty 11 j)) = some jc_C0.2 := by decide +kernel
theorem ws_newM : jh_new jc_C7.2 12 (jv_nf 12) (fun j => defaultValue (jv_fty 12 j)) = some jc_M0.2 := by decide +kernel
theorem ws_cks : jg_cks jc_M13.2.2.2 0 jg_shp = true := by decide +kernel
theorem ws_e {pc : Nat} {e : Jvm.ClassFile.Instr × Nat × Nat × Nat × Nat × Nat × Int} (ha : jv_at jm_law.2.2.2.2.2.2 pc = some e) : decode jm_law.2.2.1 pc = .ok (e.1, e.2.1) ∧ jv_lk jm_law (pc, e) = true := by
  have hok := List.all_eq_true.mp jw_law _ (jv_at_in _ _ ha)
  obtain ⟨i, n, a, b, t, u, z⟩ := e
  unfold jv_eok at hok
  obtain ⟨hd, hk⟩ := (Bool.and_eq_true _ _).mp hok
  exact ⟨of_decide_eq_true hd, hk⟩
theorem ws_step {η : Type} {O : jv_Ops η} (hO : jv_Ok O) {D : va_G} {tc : Nat → ClassId} {base : Nat} {cst : Nat → Nat} {G : jv_X} {H0 : Heap} {p : Program} {l : Launch} {e : Env} {s : State} {m : MethodId} {args : Array Value} {below : List Frame} {meth : Method} {c : Code} {d : Nat} {Q : State → Prop}
    (F : jv_Fx D tc base cst G H0 p room_1 s m args meth c jm_law d) {pc : Nat} {en : Jvm.ClassFile.Instr × Nat × Nat × Nat × Nat × Nat × Int} (ha : jv_at jm_law.2.2.2.2.2.2 pc = some en)
    {pc' : Nat} {ls ls' : jv_L} {st st' : List Value} {h h' : η} (hn : jv_nxt O G jm_law (pc, en) ls st h = some (.inl (pc', ls', st', h'))) (hroom : O.1 h' ≤ 600000 ∧ O.2.1 h' ≤ 7302250)
    (kk : jv_PW O D tc base cst H0 p l e room_1 s m args below meth c Q 0 0 4 pc' ls' st' h') : jv_PW O D tc base cst H0 p l e room_1 s m args below meth c Q 0 0 4 pc ls st h := by
  obtain ⟨hd, hk⟩ := ws_e ha
  obtain ⟨i, n, a, b, t, u, z⟩ := en
  exact jv_step hO F hd hk hn ⟨Nat.le_trans (Nat.sub_le _ _) hroom.1, Nat.le_trans (Nat.sub_le _ _) hroom.2⟩ kk
theorem ws_call {η : Type} {O : jv_Ops η} (hO : jv_Ok O) {D : va_G} {tc : Nat → ClassId} {base : Nat} {cst : Nat → Nat} {G : jv_X} {H0 : Heap} {p : Program} {l : Launch} {e : Env} {s : State} {m : MethodId} {args : Array Value} {below : List Frame} {meth : Method} {c : Code} {d : Nat} {Q : State → Prop}
    (F : jv_Fx D tc base cst G H0 p room_1 s m args meth c jm_law d) {pc : Nat} {en : Jvm.ClassFile.Instr × Nat × Nat × Nat × Nat × Nat × Int} (ha : jv_at jm_law.2.2.2.2.2.2 pc = some en)
    {pc' k : Nat} {ls : jv_L} {st as r : List Value} {h : η} (hn : jv_nxt O G jm_law (pc, en) ls st h = some (.inr (.inr (k, pc', as, r)))) {mc ms : Nat} {B : Option Value → η → Prop} (hw : jv_wp O G d k mc ms as h B) (hN : ∃ N, jv_P[k]? = some N) (hroom : O.1 h + mc ≤ 600000 ∧ O.2.1 h + ms ≤ 7302250)
    (kk : ∀ v h', B v h' → jv_PW O D tc base cst H0 p l e room_1 s m args below meth c Q 0 0 4 pc' ls (v.toList ++ r) h') : jv_PW O D tc base cst H0 p l e room_1 s m args below meth c Q 0 0 4 pc ls st h := by
  obtain ⟨hd, hk⟩ := ws_e ha
  obtain ⟨i, n, a, b, t, u, z⟩ := en
  obtain ⟨N, hN⟩ := hN
  exact jv_call jv_all hO F hd hk hn hN (jv_sound jv_all hO d k mc ms as h B hw N hN) ⟨by show _ ≤ 600000; have := hroom.1; omega, by show _ ≤ 7302250; have := hroom.2; omega⟩ (fun v h' q _ _ => kk v h' q)
theorem ws_new {v : Value} {pc n a b t u ix : Nat} {z : Int} {ls : jv_L} {st : List Value} {h h' : jh_H} (hq : jh_new h a (jv_nf a) (fun j => defaultValue (jv_fty a j)) = some h') : jd_nx v jm_law (pc, .new ix, n, a, b, t, u, z) ls st h = some (.inl (pc + n, ls, .ref (jh_O.1 h) :: st, h')) := by
  show (match jh_new h a (jv_nf a) (fun j => defaultValue (jv_fty a j)) with | some h' => jv_go (pc + n) ls (.ref (jh_O.1 h) :: st) h' | none => (none : jv_O jh_H)) = some (.inl (pc + n, ls, .ref (jh_O.1 h) :: st, h'))
  rw [hq]
  rfl
def ws_ls (i : Int32) : jv_L := [some (.ref 1000000), some (.ref 0), some (.ref 146), some (.int i)]
theorem ws_pc18 {D : va_G} {tc : Nat → ClassId} {base : Nat} {cst : Nat → Nat} {X : Nat × (Nat → Int32)} {v : Value} (hv : v = .null ∨ v = .ref 1000005) {H0 : Heap} {p : Program} {l : Launch} {e : Env} {s : State} {m : MethodId} {args : Array Value} {below : List Frame} {meth : Method} {c : Code} {Q : State → Prop}
    (F : jv_Fx D tc base cst (X, v) H0 p room_1 s m args meth c jm_law 91) (kk : jv_PW jg_O D tc base cst H0 p l e room_1 s m args below meth c Q 0 0 4 18 (ws_ls 0) [] (jg_of jc_M13.2)) : jv_PW jh_O D tc base cst H0 p l e room_1 s m args below meth c Q 0 0 4 0 [some (.ref 1000000), none, none, none] [] ws_h0 := by
  refine ws_step jh_Ok F ja_law_0 (pc' := 3) (ls' := [some (.ref 1000000), none, none, none]) (st' := [.ref 0]) (h' := jc_C0.2) (jd_nx_e _ _ _ _ _ _ (ws_new ws_newC)) ⟨by decide +kernel, by decide +kernel⟩ ?_
  refine ws_step jh_Ok F ja_law_3 (pc' := 4) (ls' := [some (.ref 1000000), none, none, none]) (st' := [.ref 0, .ref 0]) (h' := jc_C0.2) (jd_nx_e _ _ _ _ _ _ rfl) ⟨by decide +kernel, by decide +kernel⟩ ?_
  refine ws_call jh_Ok F ja_law_4 (pc' := 7) (k := 0) (as := [.ref 0]) (r := [.ref 0]) (jd_nx_e _ _ _ _ _ _ rfl) (ws_wpC hv) ⟨_, jc_M_ok 0 (by decide)⟩ ⟨by decide +kernel, by decide +kernel⟩ (fun w h' hB => ?_)
  obtain ⟨rfl, rfl⟩ := hB
  refine ws_step jh_Ok F ja_law_7 (pc' := 8) (ls' := [some (.ref 1000000), some (.ref 0), none, none]) (st' := []) (h' := jc_C7.2) (jd_nx_e _ _ _ _ _ _ rfl) ⟨by decide +kernel, by decide +kernel⟩ ?_
  refine ws_step jh_Ok F ja_law_8 (pc' := 11) (ls' := [some (.ref 1000000), some (.ref 0), none, none]) (st' := [.ref 146]) (h' := jc_M0.2) (jd_nx_e _ _ _ _ _ _ (ws_new ws_newM)) ⟨by decide +kernel, by decide +kernel⟩ ?_
  refine ws_step jh_Ok F ja_law_11 (pc' := 12) (ls' := [some (.ref 1000000), some (.ref 0), none, none]) (st' := [.ref 146, .ref 146]) (h' := jc_M0.2) (jd_nx_e _ _ _ _ _ _ rfl) ⟨by decide +kernel, by decide +kernel⟩ ?_
  refine ws_call jh_Ok F ja_law_12 (pc' := 15) (k := 132) (as := [.ref 146]) (r := [.ref 146]) (jd_nx_e _ _ _ _ _ _ rfl) (ws_wpM hv) ⟨_, jc_M_ok 132 (by decide)⟩ ⟨by decide +kernel, by decide +kernel⟩ (fun w h' hB => ?_)
  obtain ⟨rfl, rfl⟩ := hB
  refine ws_step jh_Ok F ja_law_15 (pc' := 16) (ls' := [some (.ref 1000000), some (.ref 0), some (.ref 146), none]) (st' := []) (h' := jc_M13.2) (jd_nx_e _ _ _ _ _ _ rfl) ⟨by decide +kernel, by decide +kernel⟩ ?_
  refine ws_step jh_Ok F ja_law_16 (pc' := 17) (ls' := [some (.ref 1000000), some (.ref 0), some (.ref 146), none]) (st' := [.int 0]) (h' := jc_M13.2) (jd_nx_e _ _ _ _ _ _ rfl) ⟨by decide +kernel, by decide +kernel⟩ ?_
  refine ws_step jh_Ok F ja_law_17 (pc' := 18) (ls' := ws_ls 0) (st' := []) (h' := jc_M13.2) (jd_nx_e _ _ _ _ _ _ rfl) ⟨by decide +kernel, by decide +kernel⟩ ?_
  intro H locs lm hA
  have e0 : jh_O.1 jc_M13.2 = 176 := by decide +kernel
  have e1 : jh_O.2.1 jc_M13.2 = 9491 := by decide +kernel
  have := kk H locs lm ⟨jg_turn rfl ws_cks hA.1, hA.2.1, hA.2.2.1, hA.2.2.2.1, Nat.zero_le _, Nat.zero_le _⟩
  rw [e0, e1]
  exact this
