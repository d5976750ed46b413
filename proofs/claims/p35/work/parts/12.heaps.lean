/-! two heaps: one of lists, to run; one of ints at fixed places, to reason with -/
abbrev jh_H : Type := Nat × Nat × List (Nat × List Value)
def jh_get (h : jh_H) (c j : Nat) : Value := match h.2.2[c]? with
  | some x => x.2.getD j .null
  | none => .null
def jh_set (h : jh_H) (c j : Nat) (v : Value) : Option jh_H := match h.2.2[c]? with
  | some x => if j < x.2.length then some (h.1, h.2.1, h.2.2.set c (x.1, x.2.set j v)) else none
  | none => none
def jh_knd (h : jh_H) (c : Nat) : Nat × Nat := match h.2.2[c]? with
  | some x => (x.1, x.2.length)
  | none => (0, 0)
def jh_new (h : jh_H) (k n : Nat) (f : Nat → Value) : Option jh_H := if h.1 < 1000000 ∧ h.2.2.length = h.1 then some (h.1 + 1, h.2.1 + n, h.2.2 ++ [(k, (List.range n).map f)]) else none
def jh_newM (h : jh_H) (n k : Nat) : Option jh_H := if h.1 + 1 + n ≤ 1000000 ∧ h.2.2.length = h.1 then some (h.1 + 1 + n, h.2.1 + n + n * k, h.2.2 ++ ((15, (List.range n).map (fun j => .ref (h.1 + 1 + j))) :: (List.range n).map (fun _ => (13, List.replicate k (.int 0))))) else none
def jh_O : jv_Ops jh_H := (fun h => min h.1 1000000, fun h => h.2.1, jh_knd, jh_get, jh_set, jh_new, jh_newM)
theorem jh_if {α : Type} {c : Prop} [Decidable c] {x y : α} (h : (if c then some x else none) = some y) : c ∧ some x = some y := by
  split at h
  · rename_i hc; exact ⟨hc, h⟩
  · cases h
theorem jh_Ok : jv_Ok jh_O := by
  refine ⟨fun h => Nat.min_le_right _ _, fun h c j v h' hs hc => ?_, fun h k n f h' hs => ?_, fun h n k h' hs => ?_⟩
  · have hs : jh_set h c j v = some h' := hs
    unfold jh_set at hs
    cases hx : h.2.2[c]? with
    | none => simp only [hx] at hs; cases hs
    | some x =>
      simp only [hx] at hs
      obtain ⟨hj, hs⟩ := jh_if hs
      cases hs
      have hcl := (List.getElem?_eq_some_iff.mp hx).1
      refine ⟨rfl, rfl, fun d => ?_, fun d i => ?_⟩
      · show jh_knd _ d = jh_knd h d
        unfold jh_knd
        by_cases e : d = c
        · subst e
          simp only [List.getElem?_set_self hcl, hx, List.length_set]
        · simp only [List.getElem?_set_ne (Ne.symm e)]
      · show jh_get _ d i = if d = c ∧ i = j then v else jh_get h d i
        unfold jh_get
        by_cases e : d = c
        · subst e
          simp only [List.getElem?_set_self hcl, hx, true_and, List.getD_eq_getElem?_getD]
          by_cases e2 : i = j
          · subst e2
            rw [List.getElem?_set_self hj, if_pos rfl]
            rfl
          · rw [List.getElem?_set_ne (Ne.symm e2), if_neg e2]
        · simp only [List.getElem?_set_ne (Ne.symm e), e, false_and, if_false]
  · have hs : jh_new h k n f = some h' := hs
    unfold jh_new at hs
    obtain ⟨⟨h1, h2⟩, hs⟩ := jh_if hs
    cases hs
    have e0 : jh_O.1 h = h.1 := Nat.min_eq_left (by omega)
    rw [e0]
    refine ⟨by show min (h.1 + 1) 1000000 = h.1 + 1; omega, rfl, ?_, fun j hj => ?_, fun d hd => ?_⟩
    · show jh_knd _ h.1 = _
      unfold jh_knd
      simp only [← h2, List.getElem?_append_right (Nat.le_refl _), Nat.sub_self, List.getElem?_cons_zero, List.length_map, List.length_range]
    · show jh_get _ h.1 j = _
      unfold jh_get
      simp only [← h2, List.getElem?_append_right (Nat.le_refl _), Nat.sub_self, List.getElem?_cons_zero, List.getD_eq_getElem?_getD, List.getElem?_map, List.getElem?_range hj, Option.map_some, Option.getD_some]
    · have hd : d < h.2.2.length := by omega
      refine ⟨?_, fun j => ?_⟩
      · show jh_knd _ d = jh_knd h d
        unfold jh_knd
        simp only [List.getElem?_append_left hd]
      · show jh_get _ d j = jh_get h d j
        unfold jh_get
        simp only [List.getElem?_append_left hd]
  · have hs : jh_newM h n k = some h' := hs
    unfold jh_newM at hs
    obtain ⟨⟨h1, h2⟩, hs⟩ := jh_if hs
    cases hs
    have e0 : jh_O.1 h = h.1 := Nat.min_eq_left (by omega)
    rw [e0]
    refine ⟨by show min (h.1 + 1 + n) 1000000 = h.1 + 1 + n; omega, rfl, ?_, fun j hj => ?_, fun i hi => ⟨?_, fun j hj => ?_⟩, fun d hd => ?_⟩
    · show jh_knd _ h.1 = _
      unfold jh_knd
      simp only [← h2, List.getElem?_append_right (Nat.le_refl _), Nat.sub_self, List.getElem?_cons_zero, List.length_map, List.length_range]
    · show jh_get _ h.1 j = _
      unfold jh_get
      simp only [← h2, List.getElem?_append_right (Nat.le_refl _), Nat.sub_self, List.getElem?_cons_zero, List.getD_eq_getElem?_getD, List.getElem?_map, List.getElem?_range hj, Option.map_some, Option.getD_some]
    · show jh_knd _ (h.1 + 1 + i) = _
      unfold jh_knd
      simp only [List.getElem?_append_right (show h.2.2.length ≤ h.1 + 1 + i by omega), show h.1 + 1 + i - h.2.2.length = i + 1 by omega, List.getElem?_cons_succ, List.getElem?_map, List.getElem?_range hi, Option.map_some, List.length_replicate]
    · show jh_get _ (h.1 + 1 + i) j = _
      unfold jh_get
      simp only [List.getElem?_append_right (show h.2.2.length ≤ h.1 + 1 + i by omega), show h.1 + 1 + i - h.2.2.length = i + 1 by omega, List.getElem?_cons_succ, List.getElem?_map, List.getElem?_range hi, Option.map_some, List.getD_eq_getElem?_getD, List.getElem?_replicate, hj, if_true, Option.getD_some]
    · have hd : d < h.2.2.length := by omega
      refine ⟨?_, fun j => ?_⟩
      · show jh_knd _ d = jh_knd h d
        unfold jh_knd
        simp only [List.getElem?_append_left hd]
      · show jh_get _ d j = jh_get h d j
        unfold jh_get
        simp only [List.getElem?_append_left hd]
def jg_shp : List (Nat × Nat) := [(11, 20), (16, 15), (5, 5), (13, 61), (5, 5), (13, 61), (5, 5), (13, 61), (5, 5), (13, 61), (5, 5), (13, 61), (5, 5), (13, 61), (5, 5), (13, 61), (5, 5), (13, 61), (5, 5), (13, 61), (5, 5), (13, 61), (5, 5), (13, 61), (5, 5), (13, 61), (5, 5), (13, 61), (5, 5), (13, 61), (5, 5), (13, 61), (17, 8), (1, 3), (8, 2), (13, 10), (1, 3), (8, 2), (13, 10), (1, 3), (8, 2), (13, 10), (1, 3), (8, 2), (13, 10), (1, 3), (8, 2), (13, 10), (1, 3), (8, 2), (13, 10), (1, 3), (8, 2), (13, 10), (1, 3), (8, 2), (13, 10), (13, 8), (8, 2), (13, 10), (6, 6), (13, 8), (13, 8), (13, 8), (13, 8), (3, 6), (6, 6), (13, 5), (13, 5), (13, 5), (13, 5), (18, 6), (15, 6), (13, 5), (13, 5), (13, 5), (13, 5), (13, 5), (13, 5), (0, 4), (8, 2), (13, 10), (8, 2), (13, 10), (8, 2), (13, 10), (8, 2), (13, 10), (8, 2), (13, 10), (8, 2), (13, 10), (19, 8), (9, 3), (13, 200), (13, 5), (9, 3), (13, 200), (13, 5), (9, 3), (13, 200), (13, 5), (9, 3), (13, 200), (13, 5), (9, 3), (13, 200), (13, 5), (9, 3), (13, 200), (13, 5), (9, 3), (13, 200), (13, 5), (9, 3), (13, 200), (13, 5), (7, 9), (13, 200), (4, 2), (13, 8), (13, 200), (0, 4), (2, 2), (13, 10), (15, 11), (13, 11), (13, 11), (13, 11), (13, 11), (13, 11), (13, 11), (13, 11), (13, 11), (13, 11), (13, 11), (13, 11), (20, 4), (10, 2), (13, 40), (10, 2), (13, 40), (10, 2), (13, 40), (10, 2), (13, 40), (12, 59), (13, 15), (13, 915), (13, 15), (13, 15), (14, 15), (13, 8), (13, 8), (13, 80), (13, 8), (13, 8), (13, 13), (13, 13), (13, 13), (13, 13), (14, 13), (13, 200), (13, 1800), (13, 1800), (13, 45), (13, 4), (13, 160), (13, 55), (13, 77), (13, 220), (13, 11), (13, 5), (13, 5), (13, 5), (13, 121)]
def jg_refs : List (List Nat) := [[1, 0, 32, 0, 57, 0, 0, 58, 60, 65, 92, 0, 0, 117, 119, 122, 123, 137, 0, 0], [2, 4, 6, 8, 10, 12, 14, 16, 18, 20, 22, 24, 26, 28, 30], [0, 0, 0, 0, 3], [], [0, 0, 0, 0, 5], [], [0, 0, 0, 0, 7], [], [0, 0, 0, 0, 9], [], [0, 0, 0, 0, 11], [], [0, 0, 0, 0, 13], [], [0, 0, 0, 0, 15], [], [0, 0, 0, 0, 17], [], [0, 0, 0, 0, 19], [], [0, 0, 0, 0, 21], [], [0, 0, 0, 0, 23], [], [0, 0, 0, 0, 25], [], [0, 0, 0, 0, 27], [], [0, 0, 0, 0, 29], [], [0, 0, 0, 0, 31], [], [33, 36, 39, 42, 45, 48, 51, 54], [0, 0, 34], [0, 35], [], [0, 0, 37], [0, 38], [], [0, 0, 40], [0, 41], [], [0, 0, 43], [0, 44], [], [0, 0, 46], [0, 47], [], [0, 0, 49], [0, 50], [], [0, 0, 52], [0, 53], [], [0, 0, 55], [0, 56], [], [], [0, 59], [], [0, 0, 61, 62, 63, 64], [], [], [], [], [66, 71, 72, 79, 0, 0], [0, 0, 67, 68, 69, 70], [], [], [], [], [80, 82, 84, 86, 88, 90], [73, 74, 75, 76, 77, 78], [], [], [], [], [], [], [], [0, 81], [], [0, 83], [], [0, 85], [], [0, 87], [], [0, 89], [], [0, 91], [], [93, 96, 99, 102, 105, 108, 111, 114], [94, 0, 95], [], [], [97, 0, 98], [], [], [100, 0, 101], [], [], [103, 0, 104], [], [], [106, 0, 107], [], [], [109, 0, 110], [], [], [112, 0, 113], [], [], [115, 0, 116], [], [], [118, 0, 0, 0, 0, 0, 0, 0, 0], [], [120, 121], [], [], [], [124, 125], [], [126, 127, 128, 129, 130, 131, 132, 133, 134, 135, 136], [], [], [], [], [], [], [], [], [], [], [], [138, 140, 142, 144], [0, 139], [], [0, 141], [], [0, 143], [], [0, 145], [], [0, 147, 148, 149, 150, 151, 0, 152, 153, 154, 155, 0, 156, 0, 0, 0, 0, 0, 0, 0, 157, 158, 159, 160, 161, 0, 0, 0, 0, 162, 0, 163, 164, 165, 166, 167, 168, 169, 0, 0, 0, 0, 0, 0, 0, 0, 0, 170, 0, 0, 0, 0, 0, 0, 171, 172, 173, 174, 175], [], [], [], [], [], [], [], [], [], [], [], [], [], [], [], [], [], [], [], [], [], [], [], [], [], [], [], [], []]
abbrev jg_H : Type := Nat → Nat → Int32
def jg_up (s : jg_H) (c j : Nat) (v : Int32) : jg_H := fun d i => if d = c ∧ i = j then v else s d i
def jg_knd (c : Nat) : Nat × Nat := jg_shp.getD c (0, 0)
def jg_rt (c j : Nat) : Nat := (jg_refs.getD c []).getD j 0
/-- whether a place holds a reference -/
def jg_isr (k j : Nat) : Bool := match k with
  | 1 => j == 2
  | 2 => true
  | 3 => j == 0 || j == 1 || j == 2 || j == 3
  | 4 => true
  | 5 => j == 4
  | 6 => j == 2 || j == 3 || j == 4 || j == 5
  | 7 => j == 0 || j == 8
  | 8 => j == 1
  | 9 => j == 0 || j == 2
  | 10 => j == 1
  | 11 => j == 0 || j == 2 || j == 4 || j == 7 || j == 8 || j == 9 || j == 10 || j == 13 || j == 14 || j == 15 || j == 16 || j == 17
  | 12 => j == 1 || j == 2 || j == 3 || j == 4 || j == 5 || j == 7 || j == 8 || j == 9 || j == 10 || j == 12 || j == 20 || j == 21 || j == 22 || j == 23 || j == 24 || j == 29 || j == 31 || j == 32 || j == 33 || j == 34 || j == 35 || j == 36 || j == 37 || j == 47 || j == 54 || j == 55 || j == 56 || j == 57 || j == 58
  | 0 => false
  | 13 => false
  | 14 => false
  | _ => true
def jg_get (s : jg_H) (c j : Nat) : Value := if jg_isr (jg_knd c).1 j = true then (if c = 117 ∧ j = 8 then .ref (s c j).toNatClampNeg else .ref (jg_rt c j)) else .int (s c j)
def jg_set (s : jg_H) (c j : Nat) (v : Value) : Option jg_H := match v with
  | .int x => if jg_isr (jg_knd c).1 j = true then none else some (jg_up s c j x)
  | .ref k => if c = 117 ∧ j = 8 ∧ k < 176 then some (jg_up s c j (Int32.ofNat k)) else none
  | _ => none
def jg_O : jv_Ops jg_H := (fun _ => 176, fun _ => 9491, fun _ c => jg_knd c, jg_get, jg_set, fun _ _ _ _ => none, fun _ _ _ => none)
theorem jg_Ok : jv_Ok jg_O := by
  refine ⟨fun h => by show 176 ≤ 1000000; decide, fun h c j v h' hs hc => ?_, fun h k n f h' hs => (by cases hs), fun h n k h' hs => (by cases hs)⟩
  have hs : jg_set h c j v = some h' := hs
  match v, hs with
  | .int x, hs =>
    have hs : (if jg_isr (jg_knd c).1 j = true then none else some (jg_up h c j x)) = some h' := hs
    by_cases hr : jg_isr (jg_knd c).1 j = true
    · rw [if_pos hr] at hs; cases hs
    · rw [if_neg hr] at hs
      cases hs
      refine ⟨rfl, rfl, fun d => rfl, fun d i => ?_⟩
      show jg_get (jg_up h c j x) d i = if d = c ∧ i = j then .int x else jg_get h d i
      unfold jg_get jg_up
      by_cases e : d = c ∧ i = j
      · obtain ⟨rfl, rfl⟩ := e
        simp [hr]
      · simp only [e, if_false]
  | .ref k, hs =>
    obtain ⟨⟨rfl, rfl, hk⟩, hs⟩ := jh_if (show (if c = 117 ∧ j = 8 ∧ k < 176 then some (jg_up h c j (Int32.ofNat k)) else none) = some h' from hs)
    cases hs
    refine ⟨rfl, rfl, fun d => rfl, fun d i => ?_⟩
    show jg_get (jg_up h 117 8 (Int32.ofNat k)) d i = if d = 117 ∧ i = 8 then .ref k else jg_get h d i
    unfold jg_get jg_up
    by_cases e : d = 117 ∧ i = 8
    · obtain ⟨rfl, rfl⟩ := e
      have h1 : jg_isr (jg_knd 117).1 8 = true := by decide
      have h2 : (Int32.ofNat k).toNatClampNeg = k := nI_clamp (n := k) (Nat.lt_of_lt_of_le hk (by decide))
      simp [h1, h2]
    · simp only [e, if_false]
  | .long _, hs => cases hs
  | .float _, hs => cases hs
  | .double _, hs => cases hs
  | .null, hs => cases hs
  | .retAddr _, hs => cases hs
/-- a heap of lists holds just what the fixed places say -/
def jg_v (v : Value) : Int32 := match v with
  | .int x => x
  | .ref k => Int32.ofNat k
  | _ => 0
def jg_c1 (c k j : Nat) (v : Value) : Bool := match v with
  | .int _ => !jg_isr k j
  | .ref q => jg_isr k j && (if c = 117 ∧ j = 8 then decide (q < 176) else q == jg_rt c j)
  | _ => false
noncomputable def jg_ck (c k : Nat) : Nat → List Value → Bool := fun j l => List.rec (motive := fun _ => Nat → Bool) (fun _ => true) (fun v _ ih j => jg_c1 c k j v && ih (j + 1)) l j
noncomputable def jg_cks : List (Nat × List Value) → Nat → List (Nat × Nat) → Bool
  | [], _, [] => true
  | x :: l, c, y :: r => x.1 == y.1 && x.2.length == y.2 && jg_ck c x.1 0 x.2 && jg_cks l (c + 1) r
  | _, _, _ => false
def jg_of (h : jh_H) : jg_H := fun c j => jg_v (jh_get h c j)
theorem jg_ck_e {c k : Nat} : ∀ (l : List Value) (j : Nat), jg_ck c k j l = true → ∀ (i : Nat) (v : Value), l[i]? = some v → jg_c1 c k (j + i) v = true
  | [], j, _, i, v, h => by simp at h
  | w :: l, j, hc, i, v, h => by
    obtain ⟨h1, h2⟩ := (Bool.and_eq_true _ _).mp (show (jg_c1 c k j w && jg_ck c k (j + 1) l) = true from hc)
    cases i with
    | zero =>
      rw [List.getElem?_cons_zero] at h
      cases h
      exact h1
    | succ i =>
      rw [List.getElem?_cons_succ] at h
      have := jg_ck_e l (j + 1) h2 i v h
      rw [show j + 1 + i = j + (i + 1) by omega] at this
      exact this
theorem jg_cks_e : ∀ (l : List (Nat × List Value)) (c : Nat) (r : List (Nat × Nat)), jg_cks l c r = true → l.length = r.length ∧ ∀ (i : Nat) (x : Nat × List Value), l[i]? = some x → r[i]? = some (x.1, x.2.length) ∧ jg_ck (c + i) x.1 0 x.2 = true
  | [], _, [], _ => ⟨rfl, fun i x h => by simp at h⟩
  | [], _, _ :: _, h => by cases h
  | _ :: _, _, [], h => by cases h
  | x :: l, c, y :: r, h => by
    obtain ⟨h123, h4⟩ := (Bool.and_eq_true _ _).mp (show (x.1 == y.1 && x.2.length == y.2 && jg_ck c x.1 0 x.2 && jg_cks l (c + 1) r) = true from h)
    obtain ⟨h12, h3⟩ := (Bool.and_eq_true _ _).mp h123
    obtain ⟨h1, h2⟩ := (Bool.and_eq_true _ _).mp h12
    have e1 : x.1 = y.1 := eq_of_beq h1
    have e2 : x.2.length = y.2 := eq_of_beq h2
    obtain ⟨a1, a2⟩ := jg_cks_e l (c + 1) r h4
    refine ⟨by simp [a1], fun i z hz => ?_⟩
    cases i with
    | zero =>
      rw [List.getElem?_cons_zero] at hz
      cases hz
      exact ⟨by rw [List.getElem?_cons_zero, e1, e2], h3⟩
    | succ i =>
      rw [List.getElem?_cons_succ] at hz
      obtain ⟨b1, b2⟩ := a2 i z hz
      rw [show c + 1 + i = c + (i + 1) by omega] at b2
      exact ⟨by rw [List.getElem?_cons_succ]; exact b1, b2⟩
theorem jg_obj_all : ∀ c, c < 176 → (match vwCl[(jg_knd c).1]? with | some r => (jg_knd c).2 == r.2.2 | none => true) = true := by decide +kernel
theorem jg_obj_len {c : Nat} (hc : c < 176) {r : vw_C} (hr : vwCl[(jg_knd c).1]? = some r) : (jg_knd c).2 = r.2.2 := by
  have := jg_obj_all c hc
  simp only [hr] at this
  exact eq_of_beq this
/-- from the one heap to the other -/
theorem jg_turn {h : jh_H} (h1 : h.1 = 176) (hc : jg_cks h.2.2 0 jg_shp = true) {D : va_G} {tc : Nat → ClassId} {base : Nat} {cst : Nat → Nat} {H : Heap} (hR : jv_Rep jh_O D tc base cst h H) : jv_Rep jg_O D tc base cst (jg_of h) H := by
  obtain ⟨a1, a2⟩ := jg_cks_e _ _ _ hc
  have e0 : jh_O.1 h = 176 := by show min h.1 1000000 = 176; omega
  refine ⟨by rw [hR.1, e0]; rfl, fun c hc => ?_⟩
  have hc : c < 176 := hc
  have hl : c < h.2.2.length := by rw [a1]; exact hc
  have hx : h.2.2[c]? = some h.2.2[c] := List.getElem?_eq_getElem hl
  generalize h.2.2[c] = x at hx
  obtain ⟨b1, b2⟩ := a2 c x hx
  rw [Nat.zero_add] at b2
  have hk : jh_knd h c = (x.1, x.2.length) := by unfold jh_knd; simp only [hx]
  have hk2 : jg_knd c = (x.1, x.2.length) := by unfold jg_knd; rw [List.getD_eq_getElem?_getD, b1]; rfl
  have hcel := hR.2 c (by rw [e0]; exact hc)
  have hcel : jv_cel D tc (jh_knd h c) (base + c) (fun j => jv_cv base cst (jh_get h c j)) H := hcel
  show jv_cel D tc (jg_knd c) (base + c) (fun j => jv_cv base cst (jg_get (jg_of h) c j)) H
  rw [hk2]
  rw [hk] at hcel
  have hv : ∀ j, j < x.2.length → jg_get (jg_of h) c j = jh_get h c j := by
    intro j hj
    have hxj : x.2[j]? = some x.2[j] := List.getElem?_eq_getElem hj
    generalize x.2[j] = v at hxj
    have := jg_ck_e _ _ b2 j v hxj
    rw [Nat.zero_add] at this
    have hg : jh_get h c j = v := by unfold jh_get; simp only [hx, List.getD_eq_getElem?_getD, hxj, Option.getD_some]
    have ho : jg_of h c j = jg_v v := by unfold jg_of; rw [hg]
    rw [hg]
    unfold jg_get
    rw [hk2, ho]
    cases v with
    | int y =>
      have : jg_isr x.1 j = false := by simpa [jg_c1] using this
      simp [this, jg_v]
    | ref q =>
      obtain ⟨t1, t2⟩ := (Bool.and_eq_true _ _).mp (show (jg_isr x.1 j && (if c = 117 ∧ j = 8 then decide (q < 176) else q == jg_rt c j)) = true from this)
      rw [if_pos t1]
      by_cases e : c = 117 ∧ j = 8
      · rw [if_pos e]
        rw [if_pos e] at t2
        have : (Int32.ofNat q).toNatClampNeg = q := nI_clamp (n := q) (Nat.lt_of_lt_of_le (of_decide_eq_true t2) (by decide))
        exact congrArg Value.ref this
      · rw [if_neg e]
        rw [if_neg e] at t2
        rw [eq_of_beq t2]
    | _ => cases this
  unfold jv_cel at hcel ⊢
  cases hr : vwCl[x.1]? with
  | some rr =>
    simp only [hr] at hcel ⊢
    have hlen := jg_obj_len hc (by rw [hk2]; exact hr)
    rw [hk2] at hlen
    exact hcel.to (fun k hk => congrArg (jv_cv base cst) (hv k (Nat.lt_of_lt_of_eq hk (show rr.2.2 = x.2.length from hlen.symm))).symm)
  | none =>
    simp only [hr] at hcel ⊢
    rw [hcel]
    exact congrArg some (jv_arrV_congr fun j hj => congrArg (jv_cv base cst) (hv j hj).symm)
