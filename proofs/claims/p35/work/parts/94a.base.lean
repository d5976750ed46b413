/-! numbers -/
theorem i_lt (a b : Int32) : (a < b) = (a.toInt < b.toInt) := propext Int32.lt_iff_toInt_lt
theorem i_le (a b : Int32) : (a ≤ b) = (a.toInt ≤ b.toInt) := propext Int32.le_iff_toInt_le
theorem i_eq (a b : Int32) : (a = b) = (a.toInt = b.toInt) := propext Int32.toInt_inj.symm
theorem i_cn (a : Int32) : a.toNatClampNeg = a.toInt.toNat := rfl
theorem i_in (x : Int32) (l : Nat) : (jv_in x l = true) = (0 ≤ x.toInt ∧ x.toInt.toNat < l) := by
  unfold jv_in
  simp only [Bool.not_eq_true', Bool.or_eq_false_iff, decide_eq_false_iff_not, i_lt, i_cn]
  apply propext
  have : (0 : Int32).toInt = 0 := rfl
  omega
theorem i_bm' (x : Int) (h1 : -2147483648 ≤ x) (h2 : x ≤ 2147483647) : x.bmod 4294967296 = x := by
  rw [Int.bmod_def]
  omega
theorem i_b (a : Int32) : -2147483648 ≤ a.toInt ∧ a.toInt ≤ 2147483647 := by
  have h1 := a.le_toInt
  have h2 := a.toInt_lt
  omega
/-! places -/
theorem u_hit {s : jg_H} {c j : Nat} {v : Int32} : jg_up s c j v c j = v := by
  unfold jg_up
  exact if_pos ⟨rfl, rfl⟩
theorem u_c {s : jg_H} {c j d i : Nat} {v : Int32} (h : ¬ d = c) : jg_up s c j v d i = s d i := by
  unfold jg_up
  exact if_neg (fun e => h e.1)
theorem u_j {s : jg_H} {c j d i : Nat} {v : Int32} (h : ¬ i = j) : jg_up s c j v d i = s d i := by
  unfold jg_up
  exact if_neg (fun e => h e.2)
theorem u_r {s : jg_H} {c j d i : Nat} {v : Int32} (h : d = c → ¬ i = j) : jg_up s c j v d i = s d i := by
  unfold jg_up
  exact if_neg (fun e => h e.1 e.2)
/-- the group of a place -/
def g_0 (j : Nat) : Nat := match j with
  | 1 => 1
  | 3 => 2
  | 5 => 3
  | 6 => 3
  | 11 => 6
  | 12 => 6
  | 18 => 8
  | 19 => 8
  | _ => 0
def g_146 (j : Nat) : Nat := match j with
  | 0 => 1
  | 6 => 2
  | 11 => 3
  | 13 => 3
  | 14 => 6
  | 15 => 6
  | 16 => 8
  | 17 => 8
  | 18 => 4
  | 19 => 5
  | 25 => 8
  | 26 => 8
  | 27 => 8
  | 28 => 8
  | 30 => 7
  | _ => 0
def g_of (c j : Nat) : Nat :=
  if c = 0 then g_0 j else if c < 32 then 1 else if c < 57 then 2 else if c = 57 then 3 else if c < 60 then 9 else if c < 65 then 4
  else if c = 65 then 0 else if c < 71 then 5 else if c < 92 then 0 else if c < 117 then 6 else if c = 117 then (if j = 1 then 7 else 0)
  else if c = 118 then 7 else if c < 122 then 0 else if c = 122 then 8 else if c < 137 then 0 else if c < 146 then 10 else if c = 146 then g_146 j
  else if c < 152 then 1 else if c < 156 then 2 else if c = 156 then 3 else if c < 162 then (if j < 8 then 4 else 0) else if c = 162 then 7
  else if c < 166 then 6 else if c < 168 then 10 else if c = 169 then 9 else if c < 172 then 0 else if c < 175 then 5 else 0
def f_same (k : Nat) (s s' : jg_H) : Prop := ∀ c j, g_of c j = k → s' c j = s c j
theorem fs_refl {k : Nat} {s : jg_H} : f_same k s s := fun _ _ _ => rfl
theorem fs_up {k c j : Nat} {v : Int32} {s s' : jg_H} (h : f_same k s s') (hg : ¬ g_of c j = k) : f_same k s (jg_up s' c j v) := fun d i e => (u_r (fun h1 h2 => hg (by rw [← h1, ← h2]; exact e))).trans (h d i e)
theorem fs_trans {k : Nat} {s s' t : jg_H} (h : f_same k s s') (h' : f_same k s' t) : f_same k s t := fun d i e => (h' d i e).trans (h d i e)
/-! what holds between the class's places and the reference's -/
def I_mem (s : jg_H) : Prop := s 0 1 = s 146 0 ∧ 0 ≤ (s 146 0).toInt ∧ (s 146 0).toInt ≤ 15
  ∧ (∀ i : Nat, i < 15 → s (2 + 2 * i) 3 = s 150 i ∧ 0 ≤ (s 150 i).toInt ∧ (s 150 i).toInt ≤ 2)
  ∧ (∀ i : Nat, i < 15 → (i : Int) < (s 146 0).toInt → s (2 + 2 * i) 0 = s 147 i ∧ 0 ≤ (s 147 i).toInt ∧ (s 147 i).toInt ≤ 3 ∧ s (2 + 2 * i) 1 = s 151 i ∧ (s 151 i = 0 ∨ s 151 i = 1) ∧ s (2 + 2 * i) 2 = s 149 i ∧ -1 ≤ (s 149 i).toInt ∧ (s 149 i).toInt < (s 146 0).toInt)
  ∧ (∀ i : Nat, i < 15 → (s 146 0).toInt ≤ (i : Int) → s (2 + 2 * i) 1 = 1 ∧ s (2 + 2 * i) 2 = -1)
  ∧ (∀ i w : Nat, i < 15 → w < 61 → s (2 + 2 * i + 1) w = s 148 (61 * i + w) ∧ -9 ≤ (s 148 (61 * i + w)).toInt ∧ (s 148 (61 * i + w)).toInt ≤ 9)
def I_bil (s : jg_H) : Prop := s 0 3 = s 146 6 ∧ 0 ≤ (s 146 6).toInt ∧ (s 146 6).toInt ≤ 8
  ∧ (∀ i : Nat, i < 8 → s (33 + 3 * i) 0 = s 152 i ∧ 0 ≤ (s 152 i).toInt ∧ (s 152 i).toInt ≤ 4 ∧ s (33 + 3 * i) 1 = s 155 i ∧ 0 ≤ (s 155 i).toInt ∧ (s 155 i).toInt < 32768 ∧ s (33 + 3 * i + 1) 0 = s 153 i ∧ 0 ≤ (s 153 i).toInt ∧ (s 153 i).toInt ≤ 10 ∧ ((s 146 6).toInt ≤ (i : Int) → s 152 i = 0))
  ∧ (∀ i k : Nat, i < 8 → (k : Int) < (s 153 i).toInt → s (33 + 3 * i + 1 + 1) k = s 154 (10 * i + k) ∧ 1 ≤ (s 154 (10 * i + k)).toInt ∧ (s 154 (10 * i + k)).toInt ≤ 60)
def c_l (s : jg_H) (i : Nat) : Nat := if s 152 i = 1 then 1 else 0
/-- the calendar and the bill that is up -/
def I_cal (s : jg_H) : Prop := s 0 5 = s 146 11 ∧ 0 ≤ (s 146 11).toInt ∧ (s 146 11).toInt = c_l s 0 + c_l s 1 + c_l s 2 + c_l s 3 + c_l s 4 + c_l s 5 + c_l s 6 + c_l s 7
  ∧ (∀ i : Nat, (i : Int) < (s 146 11).toInt → s 57 i = s 156 i ∧ 0 ≤ (s 156 i).toInt ∧ (s 156 i).toInt < (s 146 6).toInt ∧ s 152 (s 156 i).toInt.toNat = 1)
  ∧ (∀ i k : Nat, (i : Int) < (s 146 11).toInt → (k : Int) < (s 146 11).toInt → s 156 i = s 156 k → i = k)
  ∧ s 0 6 = s 146 13 ∧ -1 ≤ (s 146 13).toInt ∧ (s 146 13).toInt < (s 146 6).toInt ∧ (0 ≤ (s 146 13).toInt → s 152 (s 146 13).toInt.toNat = 2)
/-- where a motion's place lies: x what the class keeps, y and b what the reference keeps, z how many sections there are -/
def f_pl (k x y b z : Int32) : Prop := (k.toInt < 1 ∨ 3 < k.toInt → x = -1 ∧ y = -1 ∧ b = 0)
  ∧ (1 ≤ k.toInt ∧ k.toInt ≤ 3 → (b = 1 ∧ k = 2 ∧ x = z ∧ 0 ≤ y.toInt) ∨ (b = 0 ∧ x = y ∧ -1 ≤ y.toInt ∧ y.toInt < z.toInt))
def I_pil (s : jg_H) : Prop := s 60 0 = s 146 18 ∧ 0 ≤ (s 146 18).toInt ∧ (s 146 18).toInt ≤ 8 ∧ s 60 1 = 8
  ∧ (∀ i : Nat, (i : Int) < (s 146 18).toInt → s 61 i = s 157 i ∧ 0 ≤ (s 157 i).toInt ∧ (s 157 i).toInt ≤ 6 ∧ s 62 i = s 158 i ∧ 0 ≤ (s 158 i).toInt ∧ (s 158 i).toInt < (s 146 0).toInt
      ∧ s 64 i = s 160 i ∧ (s 157 i = 2 ∨ s 157 i = 3 → 1 ≤ (s 160 i).toInt ∧ (s 160 i).toInt ≤ 60) ∧ (s 157 i = 6 → 0 ≤ (s 160 i).toInt ∧ (s 160 i).toInt < (s 146 14).toInt)
      ∧ (¬ s 157 i = 6 → 0 ≤ (s 146 13).toInt) ∧ f_pl (s 157 i) (s 63 i) (s 159 i) (s 161 i) (s 153 (s 146 13).toInt.toNat))
def I_tol (s : jg_H) : Prop := s 66 0 = s 146 19 ∧ 0 ≤ (s 146 19).toInt ∧ (s 146 19).toInt ≤ 5 ∧ s 66 1 = 5 ∧ (0 < (s 146 19).toInt → 0 ≤ (s 146 13).toInt)
  ∧ (∀ i : Nat, (i : Int) < (s 146 19).toInt → s 67 i = s 172 i ∧ 1 ≤ (s 172 i).toInt ∧ (s 172 i).toInt ≤ 3 ∧ s 69 i = s 173 i ∧ 0 ≤ (s 173 i).toInt
      ∧ (s 173 i).toInt ≤ (s 153 (s 146 13).toInt.toNat).toInt ∧ (¬ s 172 i = 2 → (s 173 i).toInt < (s 153 (s 146 13).toInt.toNat).toInt) ∧ (¬ s 172 i = 1 → s 70 i = s 174 i ∧ 1 ≤ (s 174 i).toInt ∧ (s 174 i).toInt ≤ 60))
def I_tap (s : jg_H) : Prop := s 117 1 = s 146 30 ∧ 0 ≤ (s 146 30).toInt ∧ (s 146 30).toInt ≤ 200
  ∧ (∀ i : Nat, (i : Int) < (s 146 30).toInt → s 118 i = s 162 i ∧ 0 ≤ (s 162 i).toInt ∧ (s 162 i).toInt ≤ 255)
def I_mis (s : jg_H) : Prop := s 0 18 = s 146 16 ∧ 0 ≤ (s 146 16).toInt ∧ (s 146 16).toInt ≤ 999 ∧ s 0 19 = s 146 17 ∧ 0 ≤ (s 146 17).toInt ∧ (s 146 17).toInt ≤ 100
  ∧ s 122 0 = s 146 25 ∧ s 122 1 = s 146 26 ∧ s 122 2 = s 146 27 ∧ s 122 3 = s 146 28 ∧ (s 146 28 = 0 ∨ s 146 28 = 1)
def I_try (s : jg_H) : Prop := ∀ t : Nat, t < 4 → s (138 + 2 * t) 0 = s 166 t ∧ -1 ≤ (s 166 t).toInt ∧ (s 166 t).toInt ≤ 40
  ∧ (∀ i : Nat, i < 40 → (s (138 + 2 * t + 1) i = s 167 (40 * t + i) ∨ (s (138 + 2 * t + 1) i).toInt = (s 167 (40 * t + i)).toInt + 256) ∧ 0 ≤ (s (138 + 2 * t + 1) i).toInt ∧ (s (138 + 2 * t + 1) i).toInt ≤ 255 ∧ -128 ≤ (s 167 (40 * t + i)).toInt ∧ (s 167 (40 * t + i)).toInt ≤ 127)
/-- a text's code, as the class keeps it (x) and as the reference does (o, v) -/
def t_enc (x o v : Int32) : Prop := (o = 0 ∧ x = v ∧ 0 ≤ v.toInt ∧ v.toInt ≤ 9999) ∨ (o = 1 ∧ 0 ≤ v.toInt ∧ v.toInt ≤ 7 ∧ x.toInt = -1 - v.toInt) ∨ (2 ≤ o.toInt ∧ o.toInt ≤ 10 ∧ x.toInt = -7 - o.toInt)
/-- how high the row of values stands -/
def t_bal (o : Nat → Int32) : Nat → Nat → Nat → Prop
  | 0, _, h => h = 1
  | n + 1, c, h => ((o c = 0 ∨ o c = 1) ∧ t_bal o n (c + 1) (h + 1)) ∨ ((o c = 4 ∨ o c = 10) ∧ 1 ≤ h ∧ t_bal o n (c + 1) h) ∨ (¬ o c = 0 ∧ ¬ o c = 1 ∧ ¬ o c = 4 ∧ ¬ o c = 10 ∧ 2 ≤ h ∧ t_bal o n (c + 1) (h - 1))
def t_ok (s : jg_H) (t : Nat) : Prop := (∀ p : Nat, p < 5 → s (93 + 3 * t + 2) p = s 165 (5 * t + p) ∧ 0 ≤ (s 165 (5 * t + p)).toInt ∧ (s 165 (5 * t + p)).toInt ≤ 200)
  ∧ (∀ p : Nat, p < 4 → (s 165 (5 * t + p)).toInt ≤ (s 165 (5 * t + p + 1)).toInt ∧ t_bal (s 163) ((s 165 (5 * t + p + 1)).toInt.toNat - (s 165 (5 * t + p)).toInt.toNat) (200 * t + (s 165 (5 * t + p)).toInt.toNat) 0)
  ∧ (∀ c : Nat, (c : Int) < (s 165 (5 * t + 4)).toInt → t_enc (s (93 + 3 * t + 1) c) (s 163 (200 * t + c)) (s 164 (200 * t + c)))
def I_txt (s : jg_H) : Prop := s 0 11 = s 146 14 ∧ 1 ≤ (s 146 14).toInt ∧ (s 146 14).toInt ≤ 8 ∧ s 0 12 = s 146 15 ∧ 0 ≤ (s 146 15).toInt ∧ (s 146 15).toInt < (s 146 14).toInt
  ∧ (∀ t : Nat, (t : Int) < (s 146 14).toInt → t_ok s t)
def k_known : List Int32 := [107, 105, 110, 100, 0, 100, 101, 112, 116, 104, 0, 109, 105, 110, 117, 116, 101, 0, 112, 97, 114, 116, 121, 0, 116, 104, 101, 114, 101, 0, 109, 101, 109, 98, 101, 114, 115, 0, 121, 101, 115, 0, 110, 111, 0, 114, 97, 110, 107, 0, 109, 97, 121, 0, 112, 97, 115, 115, 0, 113, 117, 111, 114, 117, 109, 0, 111, 114, 0, 97, 110, 100, 0, 110, 111, 116, 0]
def I_cst (s : jg_H) : Prop := s 58 0 = 0 ∧ ∀ k : Nat, k < 77 → s 169 k = k_known.getD k 0
def Inv (s : jg_H) : Prop := I_mem s ∧ I_bil s ∧ I_cal s ∧ I_pil s ∧ I_tol s ∧ I_txt s ∧ I_tap s ∧ I_mis s ∧ I_try s ∧ I_cst s
/-! a group holds on where none of its places has changed -/
theorem g_1 {i j : Nat} (h1 : 1 ≤ i) (h2 : i < 32) : g_of i j = 1 := by
  unfold g_of
  rw [if_neg (by omega), if_pos h2]
theorem g_2 {i j : Nat} (h1 : 32 ≤ i) (h2 : i < 57) : g_of i j = 2 := by
  unfold g_of
  rw [if_neg (by omega), if_neg (by omega), if_pos h2]
theorem g_6 {i j : Nat} (h1 : 92 ≤ i) (h2 : i < 117) : g_of i j = 6 := by
  unfold g_of
  rw [if_neg (by omega), if_neg (by omega), if_neg (by omega), if_neg (by omega), if_neg (by omega), if_neg (by omega), if_neg (by omega), if_neg (by omega), if_neg (by omega), if_pos h2]
theorem g_10 {i j : Nat} (h1 : 137 ≤ i) (h2 : i < 146) : g_of i j = 10 := by
  unfold g_of
  rw [if_neg (by omega), if_neg (by omega), if_neg (by omega), if_neg (by omega), if_neg (by omega), if_neg (by omega), if_neg (by omega), if_neg (by omega), if_neg (by omega), if_neg (by omega), if_neg (by omega), if_neg (by omega), if_neg (by omega), if_neg (by omega), if_neg (by omega), if_pos h2]
theorem g_4 {i j : Nat} (h1 : 157 ≤ i) (h2 : i < 162) (h3 : j < 8) : g_of i j = 4 := by
  unfold g_of
  rw [if_neg (by omega), if_neg (by omega), if_neg (by omega), if_neg (by omega), if_neg (by omega), if_neg (by omega), if_neg (by omega), if_neg (by omega), if_neg (by omega), if_neg (by omega), if_neg (by omega), if_neg (by omega), if_neg (by omega), if_neg (by omega), if_neg (by omega), if_neg (by omega), if_neg (by omega), if_neg (by omega), if_neg (by omega), if_neg (by omega), if_pos h2, if_pos h3]
theorem g_4' {i j : Nat} (h1 : 157 ≤ i) (h2 : i < 162) (h3 : ¬ j < 8) : g_of i j = 0 := by
  unfold g_of
  rw [if_neg (by omega), if_neg (by omega), if_neg (by omega), if_neg (by omega), if_neg (by omega), if_neg (by omega), if_neg (by omega), if_neg (by omega), if_neg (by omega), if_neg (by omega), if_neg (by omega), if_neg (by omega), if_neg (by omega), if_neg (by omega), if_neg (by omega), if_neg (by omega), if_neg (by omega), if_neg (by omega), if_neg (by omega), if_neg (by omega), if_pos h2, if_neg h3]
theorem fr_mem {s s' : jg_H} (h : f_same 1 s s') (hI : I_mem s) : I_mem s' := by
  obtain ⟨a1, a2, a3, a4, a5, a6, a7⟩ := hI
  have e0 := h 0 1 rfl
  have e1 := h 146 0 rfl
  have em : ∀ i j, i < 15 → s' (2 + 2 * i) j = s (2 + 2 * i) j := fun i j hi => h _ j (g_1 (by omega) (by omega))
  have el : ∀ i j, i < 15 → s' (2 + 2 * i + 1) j = s (2 + 2 * i + 1) j := fun i j hi => h _ j (g_1 (by omega) (by omega))
  have f7 : s' 147 = s 147 := funext fun i => h 147 i rfl
  have f8 : s' 148 = s 148 := funext fun i => h 148 i rfl
  have f9 : s' 149 = s 149 := funext fun i => h 149 i rfl
  have f0 : s' 150 = s 150 := funext fun i => h 150 i rfl
  have f1 : s' 151 = s 151 := funext fun i => h 151 i rfl
  refine ⟨?_, ?_, ?_, ?_, ?_, ?_, ?_⟩
  · rw [e0, e1]; exact a1
  · rw [e1]; exact a2
  · rw [e1]; exact a3
  · intro i hi; rw [em i _ hi, f0]; exact a4 i hi
  · intro i hi; rw [em i _ hi, em i _ hi, em i _ hi, f7, f9, f1, e1]; exact a5 i hi
  · intro i hi; rw [em i _ hi, em i _ hi, e1]; exact a6 i hi
  · intro i w hi; rw [el i _ hi, f8]; exact a7 i w hi
theorem fr_bil {s s' : jg_H} (h : f_same 2 s s') (hI : I_bil s) : I_bil s' := by
  obtain ⟨a1, a2, a3, a4, a5⟩ := hI
  have e0 := h 0 3 rfl
  have e1 := h 146 6 rfl
  have e2 : ∀ i j, i < 8 → s' (33 + 3 * i) j = s (33 + 3 * i) j := fun i j hi => h _ j (g_2 (by omega) (by omega))
  have e3 : ∀ i j, i < 8 → s' (33 + 3 * i + 1) j = s (33 + 3 * i + 1) j := fun i j hi => h _ j (g_2 (by omega) (by omega))
  have e4 : ∀ i j, i < 8 → s' (33 + 3 * i + 1 + 1) j = s (33 + 3 * i + 1 + 1) j := fun i j hi => h _ j (g_2 (by omega) (by omega))
  have f2 : s' 152 = s 152 := funext fun i => h 152 i rfl
  have f3 : s' 153 = s 153 := funext fun i => h 153 i rfl
  have f4 : s' 154 = s 154 := funext fun i => h 154 i rfl
  have f5 : s' 155 = s 155 := funext fun i => h 155 i rfl
  refine ⟨?_, ?_, ?_, ?_, ?_⟩
  · rw [e0, e1]; exact a1
  · rw [e1]; exact a2
  · rw [e1]; exact a3
  · intro i hi; rw [e2 i _ hi, e2 i _ hi, e3 i _ hi, f2, f3, f5, e1]; exact a4 i hi
  · intro i k hi; rw [e4 i _ hi, f3, f4]; exact a5 i k hi
/-- the calendar also speaks of the bills' states and their number -/
theorem fr_cal {s s' : jg_H} (h : f_same 3 s s') (h2 : s' 152 = s 152) (h3 : (s 146 6).toInt ≤ (s' 146 6).toInt) (hI : I_cal s) : I_cal s' := by
  obtain ⟨a1, a2, a3, a4, a5, a6, a7, a8, a9⟩ := hI
  have f7 : s' 57 = s 57 := funext fun i => h 57 i rfl
  have f6 : s' 156 = s 156 := funext fun i => h 156 i rfl
  have cl : c_l s' = c_l s := by unfold c_l; rw [h2]
  unfold I_cal
  rw [h 0 5 rfl, h 146 11 rfl, h 0 6 rfl, h 146 13 rfl, f7, f6, cl, h2]
  refine ⟨a1, a2, a3, fun i hi => ?_, a5, a6, a7, by omega, a9⟩
  obtain ⟨b1, b2, b3, b4⟩ := a4 i hi
  exact ⟨b1, b2, by omega, b4⟩
theorem fr_pil {s s' : jg_H} (h : f_same 4 s s') (h0 : (s 146 0).toInt ≤ (s' 146 0).toInt) (h14 : (s 146 14).toInt ≤ (s' 146 14).toInt) (h13 : s' 146 13 = s 146 13) (h3 : s' 153 = s 153) (hI : I_pil s) : I_pil s' := by
  obtain ⟨a1, a2, a3, a4, a5⟩ := hI
  refine ⟨?_, ?_, ?_, ?_, ?_⟩
  · rw [h 60 0 rfl, h 146 18 rfl]; exact a1
  · rw [h 146 18 rfl]; exact a2
  · rw [h 146 18 rfl]; exact a3
  · rw [h 60 1 rfl]; exact a4
  · intro i hi
    rw [h 146 18 rfl] at hi
    have hi8 : i < 8 := by omega
    rw [h 61 i rfl, h 62 i rfl, h 63 i rfl, h 64 i rfl, h 157 i (g_4 (by omega) (by omega) hi8), h 158 i (g_4 (by omega) (by omega) hi8), h 159 i (g_4 (by omega) (by omega) hi8), h 160 i (g_4 (by omega) (by omega) hi8), h 161 i (g_4 (by omega) (by omega) hi8), h13, h3]
    obtain ⟨b1, b2, b3, b4, b5, b6, b7, b8, b9, b10, b11⟩ := a5 i hi
    exact ⟨b1, b2, b3, b4, b5, Int.lt_of_lt_of_le b6 h0, b7, b8, fun e => ⟨(b9 e).1, Int.lt_of_lt_of_le (b9 e).2 h14⟩, b10, b11⟩
theorem fr_tol {s s' : jg_H} (h : f_same 5 s s') (h13 : s' 146 13 = s 146 13) (h3 : s' 153 = s 153) (hI : I_tol s) : I_tol s' := by
  obtain ⟨a1, a2, a3, a4, a5, a6⟩ := hI
  refine ⟨?_, ?_, ?_, ?_, ?_, ?_⟩
  · rw [h 66 0 rfl, h 146 19 rfl]; exact a1
  · rw [h 146 19 rfl]; exact a2
  · rw [h 146 19 rfl]; exact a3
  · rw [h 66 1 rfl]; exact a4
  · rw [h 146 19 rfl, h13]; exact a5
  · intro i hi
    rw [h 146 19 rfl] at hi
    rw [h 67 i rfl, h 69 i rfl, h 70 i rfl, h 172 i rfl, h 173 i rfl, h 174 i rfl, h13, h3]
    exact a6 i hi
theorem fr_txt {s s' : jg_H} (h : f_same 6 s s') (hI : I_txt s) : I_txt s' := by
  obtain ⟨a1, a2, a3, a4, a5, a6, a7⟩ := hI
  have f3 : s' 163 = s 163 := funext fun i => h 163 i rfl
  have f4 : s' 164 = s 164 := funext fun i => h 164 i rfl
  have f5 : s' 165 = s 165 := funext fun i => h 165 i rfl
  refine ⟨?_, ?_, ?_, ?_, ?_, ?_, ?_⟩
  · rw [h 0 11 rfl, h 146 14 rfl]; exact a1
  · rw [h 146 14 rfl]; exact a2
  · rw [h 146 14 rfl]; exact a3
  · rw [h 0 12 rfl, h 146 15 rfl]; exact a4
  · rw [h 146 15 rfl]; exact a5
  · rw [h 146 15 rfl, h 146 14 rfl]; exact a6
  · intro t ht
    rw [h 146 14 rfl] at ht
    obtain ⟨b1, b2, b3⟩ := a7 t ht
    have e4 : ∀ j, s' (93 + 3 * t + 1) j = s (93 + 3 * t + 1) j := fun j => h _ j (g_6 (by omega) (by omega))
    have e5 : ∀ j, s' (93 + 3 * t + 2) j = s (93 + 3 * t + 2) j := fun j => h _ j (g_6 (by omega) (by omega))
    refine ⟨?_, ?_, ?_⟩
    · intro p hp; rw [e5, f5]; exact b1 p hp
    · rw [f5, f3]; exact b2
    · intro c; rw [f5, e4, f3, f4]; exact b3 c
theorem fr_tap {s s' : jg_H} (h : f_same 7 s s') (hI : I_tap s) : I_tap s' := by
  obtain ⟨a1, a2, a3, a4⟩ := hI
  refine ⟨?_, ?_, ?_, ?_⟩
  · rw [h 117 1 rfl, h 146 30 rfl]; exact a1
  · rw [h 146 30 rfl]; exact a2
  · rw [h 146 30 rfl]; exact a3
  · intro i; rw [h 146 30 rfl, h 118 i rfl, h 162 i rfl]; exact a4 i
theorem fr_mis {s s' : jg_H} (h : f_same 8 s s') (hI : I_mis s) : I_mis s' := by
  unfold I_mis at *
  rw [h 0 18 rfl, h 0 19 rfl, h 146 16 rfl, h 146 17 rfl, h 122 0 rfl, h 122 1 rfl, h 122 2 rfl, h 122 3 rfl, h 146 25 rfl, h 146 26 rfl, h 146 27 rfl, h 146 28 rfl]
  exact hI
theorem fr_try {s s' : jg_H} (h : f_same 10 s s') (hI : I_try s) : I_try s' := by
  intro t ht
  have e4 : ∀ j, s' (138 + 2 * t) j = s (138 + 2 * t) j := fun j => h _ j (g_10 (by omega) (by omega))
  have e5 : ∀ j, s' (138 + 2 * t + 1) j = s (138 + 2 * t + 1) j := fun j => h _ j (g_10 (by omega) (by omega))
  obtain ⟨b1, b2, b3, b4⟩ := hI t ht
  refine ⟨?_, ?_, ?_, ?_⟩
  · rw [e4, h 166 t rfl]; exact b1
  · rw [h 166 t rfl]; exact b2
  · rw [h 166 t rfl]; exact b3
  · intro i hi; rw [e5, h 167 _ rfl]; exact b4 i hi
theorem fr_cst {s s' : jg_H} (h : f_same 9 s s') (hI : I_cst s) : I_cst s' := by
  obtain ⟨a1, a2⟩ := hI
  refine ⟨?_, ?_⟩
  · rw [h 58 0 rfl]; exact a1
  · intro k hk; rw [h 169 k rfl]; exact a2 k hk
theorem Inv_fr {s s' : jg_H} (hI : Inv s) (h1 : f_same 1 s s') (h2 : f_same 2 s s') (h3 : f_same 3 s s') (h4 : f_same 4 s s') (h5 : f_same 5 s s') (h6 : f_same 6 s s') (h7 : f_same 7 s s') (h8 : f_same 8 s s') (h9 : f_same 9 s s') (h10 : f_same 10 s s') : Inv s' := by
  obtain ⟨a1, a2, a3, a4, a5, a6, a7, a8, a9, a10⟩ := hI
  have f3 : s' 153 = s 153 := funext fun i => h2 153 i rfl
  exact ⟨fr_mem h1 a1, fr_bil h2 a2, fr_cal h3 (funext fun i => h2 152 i rfl) (Int.le_of_eq (congrArg _ (h2 146 6 rfl).symm)) a3, fr_pil h4 (Int.le_of_eq (congrArg _ (h1 146 0 rfl).symm)) (Int.le_of_eq (congrArg _ (h6 146 14 rfl).symm)) (h3 146 13 rfl) f3 a4, fr_tol h5 (h3 146 13 rfl) f3 a5, fr_txt h6 a6, fr_tap h7 a7, fr_mis h8 a8, fr_try h10 a9, fr_cst h9 a10⟩
theorem r_i {x y : Int32} (h : x.toInt = y.toInt) : some (Value.int x) = some (Value.int y) := by rw [Int32.toInt_inj.mp h]
theorem key_mem {s : jg_H} (hI : I_mem s) (a : Int32) (h0 : 0 ≤ a.toInt) (h1 : a.toInt < (s 146 0).toInt) : s (2 + 2 * a.toNatClampNeg) 3 = s 150 a.toNatClampNeg ∧ 0 ≤ (s 150 a.toNatClampNeg).toInt ∧ (s 150 a.toNatClampNeg).toInt ≤ 2 ∧ s (2 + 2 * a.toNatClampNeg) 0 = s 147 a.toNatClampNeg ∧ 0 ≤ (s 147 a.toNatClampNeg).toInt ∧ (s 147 a.toNatClampNeg).toInt ≤ 3 ∧ s (2 + 2 * a.toNatClampNeg) 1 = s 151 a.toNatClampNeg ∧ (s 151 a.toNatClampNeg = 0 ∨ s 151 a.toNatClampNeg = 1) ∧ s (2 + 2 * a.toNatClampNeg) 2 = s 149 a.toNatClampNeg ∧ -1 ≤ (s 149 a.toNatClampNeg).toInt ∧ (s 149 a.toNatClampNeg).toInt < (s 146 0).toInt := by
  obtain ⟨a1, a2, a3, a4, a5, a6, a7⟩ := hI
  have hi : a.toNatClampNeg < 15 := by rw [i_cn]; omega
  obtain ⟨b1, b2, b3⟩ := a4 _ hi
  obtain ⟨c1, c2, c3, c4, c5, c6, c7, c8⟩ := a5 _ hi (by rw [i_cn]; omega)
  exact ⟨b1, b2, b3, c1, c2, c3, c4, c5, c6, c7, c8⟩
theorem key_lik {s : jg_H} (hI : I_mem s) (a w : Int32) (h0 : 0 ≤ a.toInt) (h1 : a.toInt < 15) (h2 : 0 ≤ w.toInt) (h3 : w.toInt < 61) : s (2 + 2 * a.toNatClampNeg + 1) w.toNatClampNeg = s 148 (61 * a + w).toNatClampNeg ∧ -9 ≤ (s 148 (61 * a + w).toNatClampNeg).toInt ∧ (s 148 (61 * a + w).toNatClampNeg).toInt ≤ 9 := by
  obtain ⟨a1, a2, a3, a4, a5, a6, a7⟩ := hI
  have e : (61 * a + w).toNatClampNeg = 61 * a.toNatClampNeg + w.toNatClampNeg := by (try simp only [i_lt, i_le, i_eq, i_in, i_cn, Int32.toInt_add, Int32.toInt_sub, Int32.toInt_mul, Int32.toInt_neg, Int32.reduceToInt, Int.bmod_add_bmod, Int.add_bmod_bmod, Int.bmod_sub_bmod, Int.sub_bmod_bmod, Int.bmod_mul_bmod, Int.mul_bmod_bmod, Int.bmod_neg_bmod, Nat.reducePow, Int.reduceBmod, Int.reduceNeg, Int.reduceMul, Int.reduceAdd, Int.reduceSub, not_true_eq_false, not_false_eq_true] at *) <;> (try simp (disch := omega) only [i_bm'] at *); omega
  rw [e]
  exact a7 _ _ (by rw [i_cn]; omega) (by rw [i_cn]; omega)
def f_only (k : Nat) (s s' : jg_H) : Prop := ∀ c j, ¬ g_of c j = k → s' c j = s c j
theorem fo_refl {k : Nat} {s : jg_H} : f_only k s s := fun _ _ _ => rfl
theorem fo_up {k c j : Nat} {v : Int32} {s s' : jg_H} (hg : g_of c j = k) (h : f_only k s s') : f_only k s (jg_up s' c j v) := fun d i e => (u_r (fun h1 h2 => e (by rw [h1, h2]; exact hg))).trans (h d i e)
theorem fo_same {k k' : Nat} {s s' : jg_H} (h : f_only k s s') (hk : ¬ k' = k) : f_same k' s s' := fun c j e => h c j (fun e' => hk (e.symm.trans e'))
theorem up_comm {s : jg_H} {c j c' j' : Nat} {v v' : Int32} (h : c = c' → ¬ j = j') : jg_up (jg_up s c j v) c' j' v' = jg_up (jg_up s c' j' v') c j v := by
  funext d i
  unfold jg_up
  by_cases h1 : d = c' ∧ i = j'
  · by_cases h2 : d = c ∧ i = j
    · exact absurd (h2.2.symm.trans h1.2) (h (h2.1.symm.trans h1.1))
    · simp only [if_pos h1, if_neg h2]
  · simp only [if_neg h1]
theorem Inv_mem {s s' : jg_H} (hI : Inv s) (h : f_only 1 s s') (h0 : s' 146 0 = s 146 0) (hm : I_mem s') : Inv s' := by
  obtain ⟨a1, a2, a3, a4, a5, a6, a7, a8, a9, a10⟩ := hI
  have f2 := fo_same h (k' := 2) (by decide)
  have f3 : s' 153 = s 153 := funext fun i => f2 153 i rfl
  have h3 := fo_same h (k' := 3) (by decide)
  have h6 := fo_same h (k' := 6) (by decide)
  exact ⟨hm, fr_bil f2 a2, fr_cal h3 (funext fun i => f2 152 i rfl) (Int.le_of_eq (congrArg _ (f2 146 6 rfl).symm)) a3, fr_pil (fo_same h (by decide)) (Int.le_of_eq (congrArg _ h0.symm)) (Int.le_of_eq (congrArg _ (h6 146 14 rfl).symm)) (h3 146 13 rfl) f3 a4, fr_tol (fo_same h (by decide)) (h3 146 13 rfl) f3 a5, fr_txt h6 a6, fr_tap (fo_same h (by decide)) a7, fr_mis (fo_same h (by decide)) a8, fr_try (fo_same h (by decide)) a9, fr_cst (fo_same h (by decide)) a10⟩
theorem m_ask {s : jg_H} (hI : I_mem s) (i : Nat) (hi : i < 15) (v : Int32) (h0 : 0 ≤ v.toInt) (h1 : v.toInt ≤ 2) : I_mem (jg_up (jg_up s (2 + 2 * i) 3 v) 150 i v) := by
  obtain ⟨m1, m2, m3, m4, m5, m6, m7⟩ := hI
  refine ⟨by (simp (disch := omega) only [u_hit, u_c, u_j]); exact m1, by (simp (disch := omega) only [u_hit, u_c, u_j]); exact m2, by (simp (disch := omega) only [u_hit, u_c, u_j]); exact m3, ?_, ?_, ?_, ?_⟩
  · intro k hk
    by_cases e : k = i
    · subst e; (simp (disch := omega) only [u_hit, u_c, u_j]); exact ⟨by trivial, h0, h1⟩
    · (simp (disch := omega) only [u_hit, u_c, u_j]); exact m4 k hk
  · intro k hk; (simp (disch := omega) only [u_hit, u_c, u_j]); exact m5 k hk
  · intro k hk; (simp (disch := omega) only [u_hit, u_c, u_j]); exact m6 k hk
  · intro k w hk hw; (simp (disch := omega) only [u_hit, u_c, u_j]); exact m7 k w hk hw
theorem m_the {s : jg_H} (hI : I_mem s) (i : Nat) (hi : i < 15) (hn : (i : Int) < (s 146 0).toInt) (v : Int32) (h0 : v = 0 ∨ v = 1) : I_mem (jg_up (jg_up s (2 + 2 * i) 1 v) 151 i v) := by
  obtain ⟨m1, m2, m3, m4, m5, m6, m7⟩ := hI
  refine ⟨by (simp (disch := omega) only [u_hit, u_c, u_j]); exact m1, by (simp (disch := omega) only [u_hit, u_c, u_j]); exact m2, by (simp (disch := omega) only [u_hit, u_c, u_j]); exact m3, ?_, ?_, ?_, ?_⟩
  · intro k hk; (simp (disch := omega) only [u_hit, u_c, u_j]); exact m4 k hk
  · intro k hk hkn
    have hkn : (k : Int) < (s 146 0).toInt := by revert hkn; (simp (disch := omega) only [u_hit, u_c, u_j]); exact id
    obtain ⟨c1, c2, c3, c4, c5, c6, c7, c8⟩ := m5 k hk hkn
    by_cases e : k = i
    · subst e; (simp (disch := omega) only [u_hit, u_c, u_j]); exact ⟨c1, c2, c3, by trivial, h0, c6, c7, c8⟩
    · (simp (disch := omega) only [u_hit, u_c, u_j]); exact ⟨c1, c2, c3, c4, c5, c6, c7, c8⟩
  · intro k hk hkn
    have hkn : (s 146 0).toInt ≤ (k : Int) := by revert hkn; (simp (disch := omega) only [u_hit, u_c, u_j]); exact id
    (simp (disch := omega) only [u_hit, u_c, u_j]); exact m6 k hk hkn
  · intro k w hk hw; (simp (disch := omega) only [u_hit, u_c, u_j]); exact m7 k w hk hw
theorem m_oth {s : jg_H} (hI : I_mem s) (i : Nat) (hi : i < 15) (hn : (i : Int) < (s 146 0).toInt) (v : Int32) (h0 : -1 ≤ v.toInt) (h1 : v.toInt < (s 146 0).toInt) : I_mem (jg_up (jg_up s (2 + 2 * i) 2 v) 149 i v) := by
  obtain ⟨m1, m2, m3, m4, m5, m6, m7⟩ := hI
  refine ⟨by (simp (disch := omega) only [u_hit, u_c, u_j]); exact m1, by (simp (disch := omega) only [u_hit, u_c, u_j]); exact m2, by (simp (disch := omega) only [u_hit, u_c, u_j]); exact m3, ?_, ?_, ?_, ?_⟩
  · intro k hk; (simp (disch := omega) only [u_hit, u_c, u_j]); exact m4 k hk
  · intro k hk hkn
    have hkn : (k : Int) < (s 146 0).toInt := by revert hkn; (simp (disch := omega) only [u_hit, u_c, u_j]); exact id
    obtain ⟨c1, c2, c3, c4, c5, c6, c7, c8⟩ := m5 k hk hkn
    by_cases e : k = i
    · subst e; (simp (disch := omega) only [u_hit, u_c, u_j]); exact ⟨c1, c2, c3, c4, c5, by trivial, h0, h1⟩
    · (simp (disch := omega) only [u_hit, u_c, u_j]); exact ⟨c1, c2, c3, c4, c5, c6, c7, c8⟩
  · intro k hk hkn
    have hkn : (s 146 0).toInt ≤ (k : Int) := by revert hkn; (simp (disch := omega) only [u_hit, u_c, u_j]); exact id
    have e : ¬ k = i := by omega
    (simp (disch := omega) only [u_hit, u_c, u_j]); exact m6 k hk hkn
  · intro k w hk hw; (simp (disch := omega) only [u_hit, u_c, u_j]); exact m7 k w hk hw
theorem m_lik {s : jg_H} (hI : I_mem s) (i w : Nat) (hi : i < 15) (hw : w < 61) (v : Int32) (h0 : -9 ≤ v.toInt) (h1 : v.toInt ≤ 9) : I_mem (jg_up (jg_up s (2 + 2 * i + 1) w v) 148 (61 * i + w) v) := by
  obtain ⟨m1, m2, m3, m4, m5, m6, m7⟩ := hI
  refine ⟨by (simp (disch := omega) only [u_hit, u_c, u_j]); exact m1, by (simp (disch := omega) only [u_hit, u_c, u_j]); exact m2, by (simp (disch := omega) only [u_hit, u_c, u_j]); exact m3, ?_, ?_, ?_, ?_⟩
  · intro k hk; (simp (disch := omega) only [u_hit, u_c, u_j]); exact m4 k hk
  · intro k hk; (simp (disch := omega) only [u_hit, u_c, u_j]); exact m5 k hk
  · intro k hk; (simp (disch := omega) only [u_hit, u_c, u_j]); exact m6 k hk
  · intro k x hk hx
    by_cases e : k = i ∧ x = w
    · obtain ⟨rfl, rfl⟩ := e
      (simp (disch := omega) only [u_hit, u_c, u_j]); exact ⟨by trivial, h0, h1⟩
    · have e2 : ¬ 61 * k + x = 61 * i + w := by omega
      rw [u_r (c := 148) (by omega), u_r (c := 148) (by omega), u_r (c := 2 + 2 * i + 1) (by omega), u_r (c := 2 + 2 * i + 1) (by omega)]
      exact m7 k x hk hx
theorem up_id {s : jg_H} {c j : Nat} {v : Int32} (h : s c j = v) : jg_up s c j v = s := by
  funext d i
  unfold jg_up
  by_cases e : d = c ∧ i = j
  · rw [if_pos e, e.1, e.2, h]
  · rw [if_neg e]
theorem key_bil {s : jg_H} (hI : I_bil s) (a : Int32) (h0 : 0 ≤ a.toInt) (h1 : a.toInt < (s 146 6).toInt) : s (33 + 3 * a.toNatClampNeg) 0 = s 152 a.toNatClampNeg ∧ 0 ≤ (s 152 a.toNatClampNeg).toInt ∧ (s 152 a.toNatClampNeg).toInt ≤ 4 ∧ s (33 + 3 * a.toNatClampNeg) 1 = s 155 a.toNatClampNeg ∧ 0 ≤ (s 155 a.toNatClampNeg).toInt ∧ (s 155 a.toNatClampNeg).toInt < 32768 ∧ s (33 + 3 * a.toNatClampNeg + 1) 0 = s 153 a.toNatClampNeg ∧ 0 ≤ (s 153 a.toNatClampNeg).toInt ∧ (s 153 a.toNatClampNeg).toInt ≤ 10 := by
  obtain ⟨a1, a2, a3, a4, a5⟩ := hI
  have hi : a.toNatClampNeg < 8 := by rw [i_cn]; omega
  obtain ⟨b1, b2, b3, b4, b5, b6, b7, b8, b9, b10⟩ := a4 _ hi
  exact ⟨b1, b2, b3, b4, b5, b6, b7, b8, b9⟩
theorem key_wor {s : jg_H} (hI : I_bil s) (a k : Int32) (h0 : 0 ≤ a.toInt) (h1 : a.toInt < (s 146 6).toInt) (h2 : 0 ≤ k.toInt) (h3 : k.toInt < (s 153 a.toNatClampNeg).toInt) : s (33 + 3 * a.toNatClampNeg + 1 + 1) k.toNatClampNeg = s 154 (10 * a + k).toNatClampNeg ∧ 1 ≤ (s 154 (10 * a + k).toNatClampNeg).toInt ∧ (s 154 (10 * a + k).toNatClampNeg).toInt ≤ 60 := by
  obtain ⟨b1, b2, b3, b4, b5, b6, b7, b8, b9⟩ := key_bil hI a h0 h1
  obtain ⟨a1, a2, a3, a4, a5⟩ := hI
  have e : (10 * a + k).toNatClampNeg = 10 * a.toNatClampNeg + k.toNatClampNeg := by
    clear b1 b2 b3 b4 b5 b6 b7 a4 a5
    (try simp only [i_lt, i_le, i_eq, i_in, i_cn, Int32.toInt_add, Int32.toInt_sub, Int32.toInt_mul, Int32.toInt_neg, Int32.reduceToInt, Int.bmod_add_bmod, Int.add_bmod_bmod, Int.bmod_sub_bmod, Int.sub_bmod_bmod, Int.bmod_mul_bmod, Int.mul_bmod_bmod, Int.bmod_neg_bmod, Nat.reducePow, Int.reduceBmod, Int.reduceNeg, Int.reduceMul, Int.reduceAdd, Int.reduceSub, not_true_eq_false, not_false_eq_true] at *) <;> (try simp (disch := omega) only [i_bm'] at *); omega
  rw [e]
  exact a5 _ _ (by rw [i_cn]; omega) (by rw [i_cn k]; omega)
theorem key_pil {s : jg_H} (hI : I_pil s) (a : Int32) (h0 : 0 ≤ a.toInt) (h1 : a.toInt < (s 146 18).toInt) : s 61 a.toNatClampNeg = s 157 a.toNatClampNeg ∧ 0 ≤ (s 157 a.toNatClampNeg).toInt ∧ (s 157 a.toNatClampNeg).toInt ≤ 6 ∧ s 62 a.toNatClampNeg = s 158 a.toNatClampNeg ∧ 0 ≤ (s 158 a.toNatClampNeg).toInt ∧ (s 158 a.toNatClampNeg).toInt < (s 146 0).toInt
      ∧ s 64 a.toNatClampNeg = s 160 a.toNatClampNeg ∧ (s 157 a.toNatClampNeg = 2 ∨ s 157 a.toNatClampNeg = 3 → 1 ≤ (s 160 a.toNatClampNeg).toInt ∧ (s 160 a.toNatClampNeg).toInt ≤ 60) ∧ (s 157 a.toNatClampNeg = 6 → 0 ≤ (s 160 a.toNatClampNeg).toInt ∧ (s 160 a.toNatClampNeg).toInt < (s 146 14).toInt)
      ∧ (¬ s 157 a.toNatClampNeg = 6 → 0 ≤ (s 146 13).toInt) ∧ f_pl (s 157 a.toNatClampNeg) (s 63 a.toNatClampNeg) (s 159 a.toNatClampNeg) (s 161 a.toNatClampNeg) (s 153 (s 146 13).toInt.toNat) :=
  hI.2.2.2.2 _ (by rw [i_cn]; omega)
theorem key_try {s : jg_H} (hI : I_try s) (a : Int32) (h0 : 0 ≤ a.toInt) (h1 : a.toInt < 4) : s (138 + 2 * a.toNatClampNeg) 0 = s 166 a.toNatClampNeg ∧ -1 ≤ (s 166 a.toNatClampNeg).toInt ∧ (s 166 a.toNatClampNeg).toInt ≤ 40 := by
  obtain ⟨b1, b2, b3, b4⟩ := hI a.toNatClampNeg (by rw [i_cn]; omega)
  exact ⟨b1, b2, b3⟩
def c_sum (s : jg_H) : Nat := c_l s 0 + c_l s 1 + c_l s 2 + c_l s 3 + c_l s 4 + c_l s 5 + c_l s 6 + c_l s 7
theorem c_l_le (s : jg_H) (i : Nat) : c_l s i ≤ 1 := by
  unfold c_l
  split <;> omega
theorem c_l_up {s : jg_H} {a : Nat} {v : Int32} (k : Nat) : c_l (jg_up s 152 a v) k = if k = a then (if v = 1 then 1 else 0) else c_l s k := by
  unfold c_l
  by_cases e : k = a
  · rw [if_pos e, e, u_hit]
  · rw [if_neg e, u_j e]
theorem c_sum_up {s : jg_H} {a : Nat} (ha : a < 8) {v : Int32} : c_sum (jg_up s 152 a v) + c_l s a = c_sum s + (if v = 1 then 1 else 0) := by
  unfold c_sum
  simp only [c_l_up]
  have : a = 0 ∨ a = 1 ∨ a = 2 ∨ a = 3 ∨ a = 4 ∨ a = 5 ∨ a = 6 ∨ a = 7 := by omega
  generalize (if v = 1 then 1 else 0) = q
  rcases this with rfl | rfl | rfl | rfl | rfl | rfl | rfl | rfl <;> simp <;> omega
theorem c_sum_lt {s : jg_H} {a : Nat} (ha : a < 8) (h : c_l s a = 0) : c_sum s ≤ 7 := by
  have h0 := c_l_le s 0
  have h1 := c_l_le s 1
  have h2 := c_l_le s 2
  have h3 := c_l_le s 3
  have h4 := c_l_le s 4
  have h5 := c_l_le s 5
  have h6 := c_l_le s 6
  have h7 := c_l_le s 7
  unfold c_sum
  have : a = 0 ∨ a = 1 ∨ a = 2 ∨ a = 3 ∨ a = 4 ∨ a = 5 ∨ a = 6 ∨ a = 7 := by omega
  rcases this with rfl | rfl | rfl | rfl | rfl | rfl | rfl | rfl <;> omega
theorem c_sum_8 (s : jg_H) : c_sum s ≤ 8 := by
  have h0 := c_l_le s 0
  have h1 := c_l_le s 1
  have h2 := c_l_le s 2
  have h3 := c_l_le s 3
  have h4 := c_l_le s 4
  have h5 := c_l_le s 5
  have h6 := c_l_le s 6
  have h7 := c_l_le s 7
  unfold c_sum
  omega
theorem cal_sum {s : jg_H} (hI : I_cal s) : (s 146 11).toInt = c_sum s := by
  have h := hI.2.2.1
  rw [h]
  unfold c_sum
  omega
/-- a bill in committee: there is room on the calendar -/
theorem key_cal {s : jg_H} (hI : I_cal s) (a : Int32) (h0 : 0 ≤ a.toInt) (h1 : a.toInt < 8) (h : s 152 a.toNatClampNeg = 0) : (s 146 11).toInt ≤ 7 := by
  rw [cal_sum hI]
  have := c_sum_lt (s := s) (a := a.toNatClampNeg) (by rw [i_cn]; omega) (by unfold c_l; rw [h]; rfl)
  omega
/-- a bill's state alone is set -/
theorem b_sta {s : jg_H} (hI : I_bil s) (A : Nat) (hA : A < 8) (hb : (A : Int) < (s 146 6).toInt) (v : Int32) (h0 : 0 ≤ v.toInt) (h1 : v.toInt ≤ 4) : I_bil (jg_up (jg_up s (33 + 3 * A) 0 v) 152 A v) := by
  obtain ⟨a1, a2, a3, a4, a5⟩ := hI
  refine ⟨by (simp (disch := omega) only [u_hit, u_c, u_j]); exact a1, by (simp (disch := omega) only [u_hit, u_c, u_j]); exact a2, by (simp (disch := omega) only [u_hit, u_c, u_j]); exact a3, ?_, ?_⟩
  · intro i hi
    obtain ⟨b1, b2, b3, b4, b5, b6, b7, b8, b9, b10⟩ := a4 i hi
    by_cases e : i = A
    · subst e
      (simp (disch := omega) only [u_hit, u_c, u_j])
      exact ⟨by trivial, h0, h1, b4, b5, b6, b7, b8, b9, fun h => absurd h (by omega)⟩
    · (simp (disch := omega) only [u_hit, u_c, u_j]); exact ⟨b1, b2, b3, b4, b5, b6, b7, b8, b9, b10⟩
  · intro i k hi hk
    have hk : (k : Int) < (s 153 i).toInt := by revert hk; (simp (disch := omega) only [u_hit, u_c, u_j]); exact id
    (simp (disch := omega) only [u_hit, u_c, u_j]); exact a5 i k hi hk
theorem Inv_put {s : jg_H} (hI : Inv s) (a : Int32) (h0 : 0 ≤ a.toInt) (h1 : a.toInt < (s 146 6).toInt) (h : s 152 a.toNatClampNeg = 0) (v : Int32) (hv : v = s 146 11 + 1) : Inv (jg_up (jg_up (jg_up (jg_up (jg_up (jg_up s 57 (s 146 11).toNatClampNeg a) 0 5 v) (33 + 3 * a.toNatClampNeg) 0 1) 152 a.toNatClampNeg 1) 156 (s 146 11).toNatClampNeg a) 146 11 v) := by
  obtain ⟨hm, hb, hc, hp, ht, hx, hr, hz, hy, hk⟩ := hI
  have hL := key_cal hc a h0 (by have := hb.2.2.1; omega) h
  have hL0 := hc.2.1
  have hA : a.toNatClampNeg < 8 := by have := hb.2.2.1; rw [i_cn]; omega
  have hAb : (a.toNatClampNeg : Int) < (s 146 6).toInt := by rw [i_cn]; omega
  have hvt : v.toInt = (s 146 11).toInt + 1 := by subst hv; clear h hAb hA; ((try simp only [i_lt, i_le, i_eq, i_in, i_cn, Int32.toInt_add, Int32.toInt_sub, Int32.toInt_mul, Int32.toInt_neg, Int32.reduceToInt, Int.bmod_add_bmod, Int.add_bmod_bmod, Int.bmod_sub_bmod, Int.sub_bmod_bmod, Int.bmod_mul_bmod, Int.mul_bmod_bmod, Int.bmod_neg_bmod, Nat.reducePow, Int.reduceBmod, Int.reduceNeg, Int.reduceMul, Int.reduceAdd, Int.reduceSub, not_true_eq_false, not_false_eq_true] at *) <;> (try simp (disch := omega) only [i_bm'] at *) <;> omega)
  have hLn : (s 146 11).toNatClampNeg = (s 146 11).toInt.toNat := i_cn _
  have ha : (a.toNatClampNeg : Int) = a.toInt := by rw [i_cn]; omega
  generalize hLL : (s 146 11).toNatClampNeg = L at *
  generalize hAA : a.toNatClampNeg = A at *
  have hbb := b_sta hb A hA hAb 1 (by decide) (by decide)
  have hbil : I_bil (jg_up (jg_up (jg_up (jg_up (jg_up (jg_up s 57 L a) 0 5 v) (33 + 3 * A) 0 1) 152 A 1) 156 L a) 146 11 v) := by
    refine fr_bil (s := jg_up (jg_up s (33 + 3 * A) 0 1) 152 A 1) ?_ hbb
    intro c j hg
    have q1 : ¬ (c = 57 ∧ j = L) := by rintro ⟨rfl, rfl⟩; exact absurd hg (Nat.ne_of_beq_eq_false rfl)
    have q2 : ¬ (c = 0 ∧ j = 5) := by rintro ⟨rfl, rfl⟩; exact absurd hg (Nat.ne_of_beq_eq_false rfl)
    have q3 : ¬ (c = 156 ∧ j = L) := by rintro ⟨rfl, rfl⟩; exact absurd hg (Nat.ne_of_beq_eq_false rfl)
    have q4 : ¬ (c = 146 ∧ j = 11) := by rintro ⟨rfl, rfl⟩; exact absurd hg (Nat.ne_of_beq_eq_false rfl)
    simp only [jg_up, q1, q2, q3, q4, if_false]
  refine ⟨fr_mem (by repeat' (first | exact fs_refl | (refine fs_up ?_ (by first | exact Nat.ne_of_beq_eq_false rfl | (rw [g_1 (by omega) (by omega)]; decide) | (rw [g_2 (by omega) (by omega)]; decide) | (rw [g_6 (by omega) (by omega)]; decide) | (rw [g_10 (by omega) (by omega)]; decide) | (rw [g_4 (by omega) (by omega) (by omega)]; decide) | (rw [g_4' (by omega) (by omega) (by omega)]; decide))))) hm, hbil, ?_, fr_pil (by repeat' (first | exact fs_refl | (refine fs_up ?_ (by first | exact Nat.ne_of_beq_eq_false rfl | (rw [g_1 (by omega) (by omega)]; decide) | (rw [g_2 (by omega) (by omega)]; decide) | (rw [g_6 (by omega) (by omega)]; decide) | (rw [g_10 (by omega) (by omega)]; decide) | (rw [g_4 (by omega) (by omega) (by omega)]; decide) | (rw [g_4' (by omega) (by omega) (by omega)]; decide))))) (by (simp (disch := omega) only [u_hit, u_c, u_j]); exact Int.le_refl _) (by (simp (disch := omega) only [u_hit, u_c, u_j]); exact Int.le_refl _) (by (simp (disch := omega) only [u_hit, u_c, u_j])) (funext fun _ => by (simp (disch := omega) only [u_hit, u_c, u_j])) hp, fr_tol (by repeat' (first | exact fs_refl | (refine fs_up ?_ (by first | exact Nat.ne_of_beq_eq_false rfl | (rw [g_1 (by omega) (by omega)]; decide) | (rw [g_2 (by omega) (by omega)]; decide) | (rw [g_6 (by omega) (by omega)]; decide) | (rw [g_10 (by omega) (by omega)]; decide) | (rw [g_4 (by omega) (by omega) (by omega)]; decide) | (rw [g_4' (by omega) (by omega) (by omega)]; decide))))) (by (simp (disch := omega) only [u_hit, u_c, u_j])) (funext fun _ => by (simp (disch := omega) only [u_hit, u_c, u_j])) ht, fr_txt (by repeat' (first | exact fs_refl | (refine fs_up ?_ (by first | exact Nat.ne_of_beq_eq_false rfl | (rw [g_1 (by omega) (by omega)]; decide) | (rw [g_2 (by omega) (by omega)]; decide) | (rw [g_6 (by omega) (by omega)]; decide) | (rw [g_10 (by omega) (by omega)]; decide) | (rw [g_4 (by omega) (by omega) (by omega)]; decide) | (rw [g_4' (by omega) (by omega) (by omega)]; decide))))) hx, fr_tap (by repeat' (first | exact fs_refl | (refine fs_up ?_ (by first | exact Nat.ne_of_beq_eq_false rfl | (rw [g_1 (by omega) (by omega)]; decide) | (rw [g_2 (by omega) (by omega)]; decide) | (rw [g_6 (by omega) (by omega)]; decide) | (rw [g_10 (by omega) (by omega)]; decide) | (rw [g_4 (by omega) (by omega) (by omega)]; decide) | (rw [g_4' (by omega) (by omega) (by omega)]; decide))))) hr, fr_mis (by repeat' (first | exact fs_refl | (refine fs_up ?_ (by first | exact Nat.ne_of_beq_eq_false rfl | (rw [g_1 (by omega) (by omega)]; decide) | (rw [g_2 (by omega) (by omega)]; decide) | (rw [g_6 (by omega) (by omega)]; decide) | (rw [g_10 (by omega) (by omega)]; decide) | (rw [g_4 (by omega) (by omega) (by omega)]; decide) | (rw [g_4' (by omega) (by omega) (by omega)]; decide))))) hz, fr_try (by repeat' (first | exact fs_refl | (refine fs_up ?_ (by first | exact Nat.ne_of_beq_eq_false rfl | (rw [g_1 (by omega) (by omega)]; decide) | (rw [g_2 (by omega) (by omega)]; decide) | (rw [g_6 (by omega) (by omega)]; decide) | (rw [g_10 (by omega) (by omega)]; decide) | (rw [g_4 (by omega) (by omega) (by omega)]; decide) | (rw [g_4' (by omega) (by omega) (by omega)]; decide))))) hy, fr_cst (by repeat' (first | exact fs_refl | (refine fs_up ?_ (by first | exact Nat.ne_of_beq_eq_false rfl | (rw [g_1 (by omega) (by omega)]; decide) | (rw [g_2 (by omega) (by omega)]; decide) | (rw [g_6 (by omega) (by omega)]; decide) | (rw [g_10 (by omega) (by omega)]; decide) | (rw [g_4 (by omega) (by omega) (by omega)]; decide) | (rw [g_4' (by omega) (by omega) (by omega)]; decide))))) hk⟩
  have hs : c_sum (jg_up (jg_up (jg_up (jg_up (jg_up (jg_up s 57 L a) 0 5 v) (33 + 3 * A) 0 1) 152 A 1) 156 L a) 146 11 v) = c_sum s + 1 := by
    have e1 : c_sum (jg_up (jg_up (jg_up (jg_up (jg_up (jg_up s 57 L a) 0 5 v) (33 + 3 * A) 0 1) 152 A 1) 156 L a) 146 11 v) = c_sum (jg_up s 152 A 1) := by
      unfold c_sum c_l
      have : ∀ k, jg_up (jg_up (jg_up (jg_up (jg_up (jg_up s 57 L a) 0 5 v) (33 + 3 * A) 0 1) 152 A 1) 156 L a) 146 11 v 152 k = jg_up s 152 A 1 152 k := by
        intro k
        by_cases e : k = A
        · subst e; (simp (disch := omega) only [u_hit, u_c, u_j])
        · (simp (disch := omega) only [u_hit, u_c, u_j])
      simp only [this]
    have e2 := c_sum_up (s := s) hA (v := 1)
    have e3 : c_l s A = 0 := by unfold c_l; rw [h]; rfl
    rw [if_pos rfl] at e2
    omega
  have hsum := cal_sum hc
  obtain ⟨a1, a2, a3, a4, a5, a6, a7, a8, a9⟩ := hc
  refine ⟨by (simp (disch := omega) only [u_hit, u_c, u_j]), by (simp (disch := omega) only [u_hit, u_c, u_j]); omega, ?_, ?_, ?_, by (simp (disch := omega) only [u_hit, u_c, u_j]); exact a6, by (simp (disch := omega) only [u_hit, u_c, u_j]); exact a7, by (simp (disch := omega) only [u_hit, u_c, u_j]); exact a8, ?_⟩
  · rw [show (jg_up (jg_up (jg_up (jg_up (jg_up (jg_up s 57 L a) 0 5 v) (33 + 3 * A) 0 1) 152 A 1) 156 L a) 146 11 v 146 11).toInt = (c_sum s : Int) + 1 by rw [u_hit, hvt, hsum]]
    unfold c_sum at hs ⊢
    omega
  · intro i hi
    have hi : (i : Int) < (s 146 11).toInt + 1 := by revert hi; (simp (disch := omega) only [u_hit, u_c, u_j]); rw [hvt]; exact id
    by_cases e : i = L
    · subst e
      (simp (disch := omega) only [u_hit, u_c, u_j])
      refine ⟨by trivial, h0, h1, ?_⟩
      have : a.toInt.toNat = A := by omega
      rw [this, u_hit]
    · obtain ⟨b1, b2, b3, b4⟩ := a4 i (by omega)
      by_cases e2 : (s 156 i).toInt.toNat = A
      · rw [e2, h] at b4; exact absurd b4 (by decide)
      · (simp (disch := omega) only [u_hit, u_c, u_j]); exact ⟨b1, b2, b3, b4⟩
  · intro i k hi hk' he
    have hi : (i : Int) < (s 146 11).toInt + 1 := by revert hi; (simp (disch := omega) only [u_hit, u_c, u_j]); rw [hvt]; exact id
    have hk' : (k : Int) < (s 146 11).toInt + 1 := by revert hk'; (simp (disch := omega) only [u_hit, u_c, u_j]); rw [hvt]; exact id
    have no : ∀ j : Nat, (j : Int) < (s 146 11).toInt → ¬ s 156 j = a := by
      intro j hj e
      have := (a4 j hj).2.2.2
      rw [e, show a.toInt.toNat = A by omega, h] at this
      exact absurd this (by decide)
    by_cases e1 : i = L
    · by_cases e2 : k = L
      · rw [e1, e2]
      · subst e1
        revert he; (simp (disch := omega) only [u_hit, u_c, u_j]); intro he
        exact absurd he.symm (no k (by omega))
    · by_cases e2 : k = L
      · subst e2
        revert he; (simp (disch := omega) only [u_hit, u_c, u_j]); intro he
        exact absurd he (no i (by omega))
      · revert he; (simp (disch := omega) only [u_hit, u_c, u_j]); intro he
        exact a5 i k (by omega) (by omega) he
  · intro hu
    have hu : 0 ≤ (s 146 13).toInt := by revert hu; (simp (disch := omega) only [u_hit, u_c, u_j]); exact id
    have h9 := a9 hu
    by_cases e2 : (s 146 13).toInt.toNat = A
    · rw [e2, h] at h9; exact absurd h9 (by decide)
    · (simp (disch := omega) only [u_hit, u_c, u_j]); exact h9
theorem Inv_bill {s : jg_H} (hI : Inv s) (h : (s 146 6).toInt < 8) (v : Int32) (hv : v.toInt = (s 146 6).toInt + 1) : Inv (jg_up (jg_up s 0 3 v) 146 6 v) := by
  obtain ⟨hm, hb, hc, hp, ht, hx, hr, hz, hy, hk⟩ := hI
  refine ⟨fr_mem (by repeat' (first | exact fs_refl | (refine fs_up ?_ (by first | exact Nat.ne_of_beq_eq_false rfl | (rw [g_1 (by omega) (by omega)]; decide) | (rw [g_2 (by omega) (by omega)]; decide) | (rw [g_6 (by omega) (by omega)]; decide) | (rw [g_10 (by omega) (by omega)]; decide) | (rw [g_4 (by omega) (by omega) (by omega)]; decide) | (rw [g_4' (by omega) (by omega) (by omega)]; decide))))) hm, ?_, fr_cal (by repeat' (first | exact fs_refl | (refine fs_up ?_ (by first | exact Nat.ne_of_beq_eq_false rfl | (rw [g_1 (by omega) (by omega)]; decide) | (rw [g_2 (by omega) (by omega)]; decide) | (rw [g_6 (by omega) (by omega)]; decide) | (rw [g_10 (by omega) (by omega)]; decide) | (rw [g_4 (by omega) (by omega) (by omega)]; decide) | (rw [g_4' (by omega) (by omega) (by omega)]; decide))))) (funext fun _ => by (simp (disch := omega) only [u_hit, u_c, u_j])) (by (simp (disch := omega) only [u_hit, u_c, u_j]); omega) hc, fr_pil (by repeat' (first | exact fs_refl | (refine fs_up ?_ (by first | exact Nat.ne_of_beq_eq_false rfl | (rw [g_1 (by omega) (by omega)]; decide) | (rw [g_2 (by omega) (by omega)]; decide) | (rw [g_6 (by omega) (by omega)]; decide) | (rw [g_10 (by omega) (by omega)]; decide) | (rw [g_4 (by omega) (by omega) (by omega)]; decide) | (rw [g_4' (by omega) (by omega) (by omega)]; decide))))) (by (simp (disch := omega) only [u_hit, u_c, u_j]); exact Int.le_refl _) (by (simp (disch := omega) only [u_hit, u_c, u_j]); exact Int.le_refl _) (by (simp (disch := omega) only [u_hit, u_c, u_j])) (funext fun _ => by (simp (disch := omega) only [u_hit, u_c, u_j])) hp, fr_tol (by repeat' (first | exact fs_refl | (refine fs_up ?_ (by first | exact Nat.ne_of_beq_eq_false rfl | (rw [g_1 (by omega) (by omega)]; decide) | (rw [g_2 (by omega) (by omega)]; decide) | (rw [g_6 (by omega) (by omega)]; decide) | (rw [g_10 (by omega) (by omega)]; decide) | (rw [g_4 (by omega) (by omega) (by omega)]; decide) | (rw [g_4' (by omega) (by omega) (by omega)]; decide))))) (by (simp (disch := omega) only [u_hit, u_c, u_j])) (funext fun _ => by (simp (disch := omega) only [u_hit, u_c, u_j])) ht, fr_txt (by repeat' (first | exact fs_refl | (refine fs_up ?_ (by first | exact Nat.ne_of_beq_eq_false rfl | (rw [g_1 (by omega) (by omega)]; decide) | (rw [g_2 (by omega) (by omega)]; decide) | (rw [g_6 (by omega) (by omega)]; decide) | (rw [g_10 (by omega) (by omega)]; decide) | (rw [g_4 (by omega) (by omega) (by omega)]; decide) | (rw [g_4' (by omega) (by omega) (by omega)]; decide))))) hx, fr_tap (by repeat' (first | exact fs_refl | (refine fs_up ?_ (by first | exact Nat.ne_of_beq_eq_false rfl | (rw [g_1 (by omega) (by omega)]; decide) | (rw [g_2 (by omega) (by omega)]; decide) | (rw [g_6 (by omega) (by omega)]; decide) | (rw [g_10 (by omega) (by omega)]; decide) | (rw [g_4 (by omega) (by omega) (by omega)]; decide) | (rw [g_4' (by omega) (by omega) (by omega)]; decide))))) hr, fr_mis (by repeat' (first | exact fs_refl | (refine fs_up ?_ (by first | exact Nat.ne_of_beq_eq_false rfl | (rw [g_1 (by omega) (by omega)]; decide) | (rw [g_2 (by omega) (by omega)]; decide) | (rw [g_6 (by omega) (by omega)]; decide) | (rw [g_10 (by omega) (by omega)]; decide) | (rw [g_4 (by omega) (by omega) (by omega)]; decide) | (rw [g_4' (by omega) (by omega) (by omega)]; decide))))) hz, fr_try (by repeat' (first | exact fs_refl | (refine fs_up ?_ (by first | exact Nat.ne_of_beq_eq_false rfl | (rw [g_1 (by omega) (by omega)]; decide) | (rw [g_2 (by omega) (by omega)]; decide) | (rw [g_6 (by omega) (by omega)]; decide) | (rw [g_10 (by omega) (by omega)]; decide) | (rw [g_4 (by omega) (by omega) (by omega)]; decide) | (rw [g_4' (by omega) (by omega) (by omega)]; decide))))) hy, fr_cst (by repeat' (first | exact fs_refl | (refine fs_up ?_ (by first | exact Nat.ne_of_beq_eq_false rfl | (rw [g_1 (by omega) (by omega)]; decide) | (rw [g_2 (by omega) (by omega)]; decide) | (rw [g_6 (by omega) (by omega)]; decide) | (rw [g_10 (by omega) (by omega)]; decide) | (rw [g_4 (by omega) (by omega) (by omega)]; decide) | (rw [g_4' (by omega) (by omega) (by omega)]; decide))))) hk⟩
  obtain ⟨a1, a2, a3, a4, a5⟩ := hb
  refine ⟨by (simp (disch := omega) only [u_hit, u_c, u_j]), by (simp (disch := omega) only [u_hit, u_c, u_j]); omega, by (simp (disch := omega) only [u_hit, u_c, u_j]); omega, ?_, ?_⟩
  · intro i hi
    obtain ⟨b1, b2, b3, b4, b5, b6, b7, b8, b9, b10⟩ := a4 i hi
    (simp (disch := omega) only [u_hit, u_c, u_j])
    exact ⟨b1, b2, b3, b4, b5, b6, b7, b8, b9, fun h => b10 (by omega)⟩
  · intro i k hi hk
    (simp (disch := omega) only [u_hit, u_c, u_j])
    exact a5 i k hi hk
theorem Inv_yield {s : jg_H} (hI : Inv s) (v : Int32) (h0 : 0 ≤ v.toInt) (hv : v.toInt ≤ (s 146 18).toInt) : Inv (jg_up (jg_up s 60 0 v) 146 18 v) := by
  obtain ⟨hm, hb, hc, hp, ht, hx, hr, hz, hy, hk⟩ := hI
  refine ⟨fr_mem (by repeat' (first | exact fs_refl | (refine fs_up ?_ (by first | exact Nat.ne_of_beq_eq_false rfl | (rw [g_1 (by omega) (by omega)]; decide) | (rw [g_2 (by omega) (by omega)]; decide) | (rw [g_6 (by omega) (by omega)]; decide) | (rw [g_10 (by omega) (by omega)]; decide) | (rw [g_4 (by omega) (by omega) (by omega)]; decide) | (rw [g_4' (by omega) (by omega) (by omega)]; decide))))) hm, fr_bil (by repeat' (first | exact fs_refl | (refine fs_up ?_ (by first | exact Nat.ne_of_beq_eq_false rfl | (rw [g_1 (by omega) (by omega)]; decide) | (rw [g_2 (by omega) (by omega)]; decide) | (rw [g_6 (by omega) (by omega)]; decide) | (rw [g_10 (by omega) (by omega)]; decide) | (rw [g_4 (by omega) (by omega) (by omega)]; decide) | (rw [g_4' (by omega) (by omega) (by omega)]; decide))))) hb, fr_cal (by repeat' (first | exact fs_refl | (refine fs_up ?_ (by first | exact Nat.ne_of_beq_eq_false rfl | (rw [g_1 (by omega) (by omega)]; decide) | (rw [g_2 (by omega) (by omega)]; decide) | (rw [g_6 (by omega) (by omega)]; decide) | (rw [g_10 (by omega) (by omega)]; decide) | (rw [g_4 (by omega) (by omega) (by omega)]; decide) | (rw [g_4' (by omega) (by omega) (by omega)]; decide))))) (funext fun _ => by (simp (disch := omega) only [u_hit, u_c, u_j])) (by (simp (disch := omega) only [u_hit, u_c, u_j]); exact Int.le_refl _) hc, ?_, fr_tol (by repeat' (first | exact fs_refl | (refine fs_up ?_ (by first | exact Nat.ne_of_beq_eq_false rfl | (rw [g_1 (by omega) (by omega)]; decide) | (rw [g_2 (by omega) (by omega)]; decide) | (rw [g_6 (by omega) (by omega)]; decide) | (rw [g_10 (by omega) (by omega)]; decide) | (rw [g_4 (by omega) (by omega) (by omega)]; decide) | (rw [g_4' (by omega) (by omega) (by omega)]; decide))))) (by (simp (disch := omega) only [u_hit, u_c, u_j])) (funext fun _ => by (simp (disch := omega) only [u_hit, u_c, u_j])) ht, fr_txt (by repeat' (first | exact fs_refl | (refine fs_up ?_ (by first | exact Nat.ne_of_beq_eq_false rfl | (rw [g_1 (by omega) (by omega)]; decide) | (rw [g_2 (by omega) (by omega)]; decide) | (rw [g_6 (by omega) (by omega)]; decide) | (rw [g_10 (by omega) (by omega)]; decide) | (rw [g_4 (by omega) (by omega) (by omega)]; decide) | (rw [g_4' (by omega) (by omega) (by omega)]; decide))))) hx, fr_tap (by repeat' (first | exact fs_refl | (refine fs_up ?_ (by first | exact Nat.ne_of_beq_eq_false rfl | (rw [g_1 (by omega) (by omega)]; decide) | (rw [g_2 (by omega) (by omega)]; decide) | (rw [g_6 (by omega) (by omega)]; decide) | (rw [g_10 (by omega) (by omega)]; decide) | (rw [g_4 (by omega) (by omega) (by omega)]; decide) | (rw [g_4' (by omega) (by omega) (by omega)]; decide))))) hr, fr_mis (by repeat' (first | exact fs_refl | (refine fs_up ?_ (by first | exact Nat.ne_of_beq_eq_false rfl | (rw [g_1 (by omega) (by omega)]; decide) | (rw [g_2 (by omega) (by omega)]; decide) | (rw [g_6 (by omega) (by omega)]; decide) | (rw [g_10 (by omega) (by omega)]; decide) | (rw [g_4 (by omega) (by omega) (by omega)]; decide) | (rw [g_4' (by omega) (by omega) (by omega)]; decide))))) hz, fr_try (by repeat' (first | exact fs_refl | (refine fs_up ?_ (by first | exact Nat.ne_of_beq_eq_false rfl | (rw [g_1 (by omega) (by omega)]; decide) | (rw [g_2 (by omega) (by omega)]; decide) | (rw [g_6 (by omega) (by omega)]; decide) | (rw [g_10 (by omega) (by omega)]; decide) | (rw [g_4 (by omega) (by omega) (by omega)]; decide) | (rw [g_4' (by omega) (by omega) (by omega)]; decide))))) hy, fr_cst (by repeat' (first | exact fs_refl | (refine fs_up ?_ (by first | exact Nat.ne_of_beq_eq_false rfl | (rw [g_1 (by omega) (by omega)]; decide) | (rw [g_2 (by omega) (by omega)]; decide) | (rw [g_6 (by omega) (by omega)]; decide) | (rw [g_10 (by omega) (by omega)]; decide) | (rw [g_4 (by omega) (by omega) (by omega)]; decide) | (rw [g_4' (by omega) (by omega) (by omega)]; decide))))) hk⟩
  obtain ⟨a1, a2, a3, a4, a5⟩ := hp
  refine ⟨by (simp (disch := omega) only [u_hit, u_c, u_j]), by (simp (disch := omega) only [u_hit, u_c, u_j]); omega, by (simp (disch := omega) only [u_hit, u_c, u_j]); omega, by (simp (disch := omega) only [u_hit, u_c, u_j]); exact a4, ?_⟩
  intro i hi
  have hi : (i : Int) < v.toInt := by revert hi; (simp (disch := omega) only [u_hit, u_c, u_j]); exact id
  (simp (disch := omega) only [u_hit, u_c, u_j])
  exact a5 i (by omega)
theorem Inv_min {s : jg_H} (hI : Inv s) (v : Int32) (h0 : 0 ≤ v.toInt) (hv : v.toInt ≤ 100) : Inv (jg_up (jg_up s 0 19 v) 146 17 v) := by
  obtain ⟨hm, hb, hc, hp, ht, hx, hr, hz, hy, hk⟩ := hI
  refine ⟨fr_mem (by repeat' (first | exact fs_refl | (refine fs_up ?_ (by first | exact Nat.ne_of_beq_eq_false rfl | (rw [g_1 (by omega) (by omega)]; decide) | (rw [g_2 (by omega) (by omega)]; decide) | (rw [g_6 (by omega) (by omega)]; decide) | (rw [g_10 (by omega) (by omega)]; decide) | (rw [g_4 (by omega) (by omega) (by omega)]; decide) | (rw [g_4' (by omega) (by omega) (by omega)]; decide))))) hm, fr_bil (by repeat' (first | exact fs_refl | (refine fs_up ?_ (by first | exact Nat.ne_of_beq_eq_false rfl | (rw [g_1 (by omega) (by omega)]; decide) | (rw [g_2 (by omega) (by omega)]; decide) | (rw [g_6 (by omega) (by omega)]; decide) | (rw [g_10 (by omega) (by omega)]; decide) | (rw [g_4 (by omega) (by omega) (by omega)]; decide) | (rw [g_4' (by omega) (by omega) (by omega)]; decide))))) hb, fr_cal (by repeat' (first | exact fs_refl | (refine fs_up ?_ (by first | exact Nat.ne_of_beq_eq_false rfl | (rw [g_1 (by omega) (by omega)]; decide) | (rw [g_2 (by omega) (by omega)]; decide) | (rw [g_6 (by omega) (by omega)]; decide) | (rw [g_10 (by omega) (by omega)]; decide) | (rw [g_4 (by omega) (by omega) (by omega)]; decide) | (rw [g_4' (by omega) (by omega) (by omega)]; decide))))) (funext fun _ => by (simp (disch := omega) only [u_hit, u_c, u_j])) (by (simp (disch := omega) only [u_hit, u_c, u_j]); exact Int.le_refl _) hc, fr_pil (by repeat' (first | exact fs_refl | (refine fs_up ?_ (by first | exact Nat.ne_of_beq_eq_false rfl | (rw [g_1 (by omega) (by omega)]; decide) | (rw [g_2 (by omega) (by omega)]; decide) | (rw [g_6 (by omega) (by omega)]; decide) | (rw [g_10 (by omega) (by omega)]; decide) | (rw [g_4 (by omega) (by omega) (by omega)]; decide) | (rw [g_4' (by omega) (by omega) (by omega)]; decide))))) (by (simp (disch := omega) only [u_hit, u_c, u_j]); exact Int.le_refl _) (by (simp (disch := omega) only [u_hit, u_c, u_j]); exact Int.le_refl _) (by (simp (disch := omega) only [u_hit, u_c, u_j])) (funext fun _ => by (simp (disch := omega) only [u_hit, u_c, u_j])) hp, fr_tol (by repeat' (first | exact fs_refl | (refine fs_up ?_ (by first | exact Nat.ne_of_beq_eq_false rfl | (rw [g_1 (by omega) (by omega)]; decide) | (rw [g_2 (by omega) (by omega)]; decide) | (rw [g_6 (by omega) (by omega)]; decide) | (rw [g_10 (by omega) (by omega)]; decide) | (rw [g_4 (by omega) (by omega) (by omega)]; decide) | (rw [g_4' (by omega) (by omega) (by omega)]; decide))))) (by (simp (disch := omega) only [u_hit, u_c, u_j])) (funext fun _ => by (simp (disch := omega) only [u_hit, u_c, u_j])) ht, fr_txt (by repeat' (first | exact fs_refl | (refine fs_up ?_ (by first | exact Nat.ne_of_beq_eq_false rfl | (rw [g_1 (by omega) (by omega)]; decide) | (rw [g_2 (by omega) (by omega)]; decide) | (rw [g_6 (by omega) (by omega)]; decide) | (rw [g_10 (by omega) (by omega)]; decide) | (rw [g_4 (by omega) (by omega) (by omega)]; decide) | (rw [g_4' (by omega) (by omega) (by omega)]; decide))))) hx, fr_tap (by repeat' (first | exact fs_refl | (refine fs_up ?_ (by first | exact Nat.ne_of_beq_eq_false rfl | (rw [g_1 (by omega) (by omega)]; decide) | (rw [g_2 (by omega) (by omega)]; decide) | (rw [g_6 (by omega) (by omega)]; decide) | (rw [g_10 (by omega) (by omega)]; decide) | (rw [g_4 (by omega) (by omega) (by omega)]; decide) | (rw [g_4' (by omega) (by omega) (by omega)]; decide))))) hr, ?_, fr_try (by repeat' (first | exact fs_refl | (refine fs_up ?_ (by first | exact Nat.ne_of_beq_eq_false rfl | (rw [g_1 (by omega) (by omega)]; decide) | (rw [g_2 (by omega) (by omega)]; decide) | (rw [g_6 (by omega) (by omega)]; decide) | (rw [g_10 (by omega) (by omega)]; decide) | (rw [g_4 (by omega) (by omega) (by omega)]; decide) | (rw [g_4' (by omega) (by omega) (by omega)]; decide))))) hy, fr_cst (by repeat' (first | exact fs_refl | (refine fs_up ?_ (by first | exact Nat.ne_of_beq_eq_false rfl | (rw [g_1 (by omega) (by omega)]; decide) | (rw [g_2 (by omega) (by omega)]; decide) | (rw [g_6 (by omega) (by omega)]; decide) | (rw [g_10 (by omega) (by omega)]; decide) | (rw [g_4 (by omega) (by omega) (by omega)]; decide) | (rw [g_4' (by omega) (by omega) (by omega)]; decide))))) hk⟩
  obtain ⟨z1, z2, z3, z4, z5, z6, z7, z8, z9, z10, z11⟩ := hz
  exact ⟨by (simp (disch := omega) only [u_hit, u_c, u_j]); exact z1, by (simp (disch := omega) only [u_hit, u_c, u_j]); exact z2, by (simp (disch := omega) only [u_hit, u_c, u_j]); exact z3, by (simp (disch := omega) only [u_hit, u_c, u_j]), by (simp (disch := omega) only [u_hit, u_c, u_j]); exact h0, by (simp (disch := omega) only [u_hit, u_c, u_j]); exact hv, by (simp (disch := omega) only [u_hit, u_c, u_j]); exact z7, by (simp (disch := omega) only [u_hit, u_c, u_j]); exact z8, by (simp (disch := omega) only [u_hit, u_c, u_j]); exact z9, by (simp (disch := omega) only [u_hit, u_c, u_j]); exact z10, by (simp (disch := omega) only [u_hit, u_c, u_j]); exact z11⟩
theorem Inv_day {s : jg_H} (hI : Inv s) (v : Int32) (h0 : 0 ≤ v.toInt) (hv : v.toInt ≤ 999) : Inv (jg_up (jg_up s 0 18 v) 146 16 v) := by
  obtain ⟨hm, hb, hc, hp, ht, hx, hr, hz, hy, hk⟩ := hI
  refine ⟨fr_mem (by repeat' (first | exact fs_refl | (refine fs_up ?_ (by first | exact Nat.ne_of_beq_eq_false rfl | (rw [g_1 (by omega) (by omega)]; decide) | (rw [g_2 (by omega) (by omega)]; decide) | (rw [g_6 (by omega) (by omega)]; decide) | (rw [g_10 (by omega) (by omega)]; decide) | (rw [g_4 (by omega) (by omega) (by omega)]; decide) | (rw [g_4' (by omega) (by omega) (by omega)]; decide))))) hm, fr_bil (by repeat' (first | exact fs_refl | (refine fs_up ?_ (by first | exact Nat.ne_of_beq_eq_false rfl | (rw [g_1 (by omega) (by omega)]; decide) | (rw [g_2 (by omega) (by omega)]; decide) | (rw [g_6 (by omega) (by omega)]; decide) | (rw [g_10 (by omega) (by omega)]; decide) | (rw [g_4 (by omega) (by omega) (by omega)]; decide) | (rw [g_4' (by omega) (by omega) (by omega)]; decide))))) hb, fr_cal (by repeat' (first | exact fs_refl | (refine fs_up ?_ (by first | exact Nat.ne_of_beq_eq_false rfl | (rw [g_1 (by omega) (by omega)]; decide) | (rw [g_2 (by omega) (by omega)]; decide) | (rw [g_6 (by omega) (by omega)]; decide) | (rw [g_10 (by omega) (by omega)]; decide) | (rw [g_4 (by omega) (by omega) (by omega)]; decide) | (rw [g_4' (by omega) (by omega) (by omega)]; decide))))) (funext fun _ => by (simp (disch := omega) only [u_hit, u_c, u_j])) (by (simp (disch := omega) only [u_hit, u_c, u_j]); exact Int.le_refl _) hc, fr_pil (by repeat' (first | exact fs_refl | (refine fs_up ?_ (by first | exact Nat.ne_of_beq_eq_false rfl | (rw [g_1 (by omega) (by omega)]; decide) | (rw [g_2 (by omega) (by omega)]; decide) | (rw [g_6 (by omega) (by omega)]; decide) | (rw [g_10 (by omega) (by omega)]; decide) | (rw [g_4 (by omega) (by omega) (by omega)]; decide) | (rw [g_4' (by omega) (by omega) (by omega)]; decide))))) (by (simp (disch := omega) only [u_hit, u_c, u_j]); exact Int.le_refl _) (by (simp (disch := omega) only [u_hit, u_c, u_j]); exact Int.le_refl _) (by (simp (disch := omega) only [u_hit, u_c, u_j])) (funext fun _ => by (simp (disch := omega) only [u_hit, u_c, u_j])) hp, fr_tol (by repeat' (first | exact fs_refl | (refine fs_up ?_ (by first | exact Nat.ne_of_beq_eq_false rfl | (rw [g_1 (by omega) (by omega)]; decide) | (rw [g_2 (by omega) (by omega)]; decide) | (rw [g_6 (by omega) (by omega)]; decide) | (rw [g_10 (by omega) (by omega)]; decide) | (rw [g_4 (by omega) (by omega) (by omega)]; decide) | (rw [g_4' (by omega) (by omega) (by omega)]; decide))))) (by (simp (disch := omega) only [u_hit, u_c, u_j])) (funext fun _ => by (simp (disch := omega) only [u_hit, u_c, u_j])) ht, fr_txt (by repeat' (first | exact fs_refl | (refine fs_up ?_ (by first | exact Nat.ne_of_beq_eq_false rfl | (rw [g_1 (by omega) (by omega)]; decide) | (rw [g_2 (by omega) (by omega)]; decide) | (rw [g_6 (by omega) (by omega)]; decide) | (rw [g_10 (by omega) (by omega)]; decide) | (rw [g_4 (by omega) (by omega) (by omega)]; decide) | (rw [g_4' (by omega) (by omega) (by omega)]; decide))))) hx, fr_tap (by repeat' (first | exact fs_refl | (refine fs_up ?_ (by first | exact Nat.ne_of_beq_eq_false rfl | (rw [g_1 (by omega) (by omega)]; decide) | (rw [g_2 (by omega) (by omega)]; decide) | (rw [g_6 (by omega) (by omega)]; decide) | (rw [g_10 (by omega) (by omega)]; decide) | (rw [g_4 (by omega) (by omega) (by omega)]; decide) | (rw [g_4' (by omega) (by omega) (by omega)]; decide))))) hr, ?_, fr_try (by repeat' (first | exact fs_refl | (refine fs_up ?_ (by first | exact Nat.ne_of_beq_eq_false rfl | (rw [g_1 (by omega) (by omega)]; decide) | (rw [g_2 (by omega) (by omega)]; decide) | (rw [g_6 (by omega) (by omega)]; decide) | (rw [g_10 (by omega) (by omega)]; decide) | (rw [g_4 (by omega) (by omega) (by omega)]; decide) | (rw [g_4' (by omega) (by omega) (by omega)]; decide))))) hy, fr_cst (by repeat' (first | exact fs_refl | (refine fs_up ?_ (by first | exact Nat.ne_of_beq_eq_false rfl | (rw [g_1 (by omega) (by omega)]; decide) | (rw [g_2 (by omega) (by omega)]; decide) | (rw [g_6 (by omega) (by omega)]; decide) | (rw [g_10 (by omega) (by omega)]; decide) | (rw [g_4 (by omega) (by omega) (by omega)]; decide) | (rw [g_4' (by omega) (by omega) (by omega)]; decide))))) hk⟩
  obtain ⟨z1, z2, z3, z4, z5, z6, z7, z8, z9, z10, z11⟩ := hz
  exact ⟨by (simp (disch := omega) only [u_hit, u_c, u_j]), by (simp (disch := omega) only [u_hit, u_c, u_j]); exact h0, by (simp (disch := omega) only [u_hit, u_c, u_j]); exact hv, by (simp (disch := omega) only [u_hit, u_c, u_j]); exact z4, by (simp (disch := omega) only [u_hit, u_c, u_j]); exact z5, by (simp (disch := omega) only [u_hit, u_c, u_j]); exact z6, by (simp (disch := omega) only [u_hit, u_c, u_j]); exact z7, by (simp (disch := omega) only [u_hit, u_c, u_j]); exact z8, by (simp (disch := omega) only [u_hit, u_c, u_j]); exact z9, by (simp (disch := omega) only [u_hit, u_c, u_j]); exact z10, by (simp (disch := omega) only [u_hit, u_c, u_j]); exact z11⟩
theorem Inv_cell {s : jg_H} (hI : Inv s) (t i : Nat) (ht4 : t < 4) (hi40 : i < 40) (x y : Int32) (hxy : x = y ∨ x.toInt = y.toInt + 256) (h1 : 0 ≤ x.toInt) (h2 : x.toInt ≤ 255) (h3 : -128 ≤ y.toInt) (h4 : y.toInt ≤ 127) : Inv (jg_up (jg_up s (138 + 2 * t + 1) i x) 167 (40 * t + i) y) := by
  obtain ⟨hm, hb, hc, hp, ht, hx, hr, hz, hy, hk⟩ := hI
  refine ⟨fr_mem (by repeat' (first | exact fs_refl | (refine fs_up ?_ (by first | exact Nat.ne_of_beq_eq_false rfl | (rw [g_1 (by omega) (by omega)]; decide) | (rw [g_2 (by omega) (by omega)]; decide) | (rw [g_6 (by omega) (by omega)]; decide) | (rw [g_10 (by omega) (by omega)]; decide) | (rw [g_4 (by omega) (by omega) (by omega)]; decide) | (rw [g_4' (by omega) (by omega) (by omega)]; decide))))) hm, fr_bil (by repeat' (first | exact fs_refl | (refine fs_up ?_ (by first | exact Nat.ne_of_beq_eq_false rfl | (rw [g_1 (by omega) (by omega)]; decide) | (rw [g_2 (by omega) (by omega)]; decide) | (rw [g_6 (by omega) (by omega)]; decide) | (rw [g_10 (by omega) (by omega)]; decide) | (rw [g_4 (by omega) (by omega) (by omega)]; decide) | (rw [g_4' (by omega) (by omega) (by omega)]; decide))))) hb, fr_cal (by repeat' (first | exact fs_refl | (refine fs_up ?_ (by first | exact Nat.ne_of_beq_eq_false rfl | (rw [g_1 (by omega) (by omega)]; decide) | (rw [g_2 (by omega) (by omega)]; decide) | (rw [g_6 (by omega) (by omega)]; decide) | (rw [g_10 (by omega) (by omega)]; decide) | (rw [g_4 (by omega) (by omega) (by omega)]; decide) | (rw [g_4' (by omega) (by omega) (by omega)]; decide))))) (funext fun _ => by (simp (disch := omega) only [u_hit, u_c, u_j])) (by (simp (disch := omega) only [u_hit, u_c, u_j]); exact Int.le_refl _) hc, fr_pil (by repeat' (first | exact fs_refl | (refine fs_up ?_ (by first | exact Nat.ne_of_beq_eq_false rfl | (rw [g_1 (by omega) (by omega)]; decide) | (rw [g_2 (by omega) (by omega)]; decide) | (rw [g_6 (by omega) (by omega)]; decide) | (rw [g_10 (by omega) (by omega)]; decide) | (rw [g_4 (by omega) (by omega) (by omega)]; decide) | (rw [g_4' (by omega) (by omega) (by omega)]; decide))))) (by (simp (disch := omega) only [u_hit, u_c, u_j]); exact Int.le_refl _) (by (simp (disch := omega) only [u_hit, u_c, u_j]); exact Int.le_refl _) (by (simp (disch := omega) only [u_hit, u_c, u_j])) (funext fun _ => by (simp (disch := omega) only [u_hit, u_c, u_j])) hp, fr_tol (by repeat' (first | exact fs_refl | (refine fs_up ?_ (by first | exact Nat.ne_of_beq_eq_false rfl | (rw [g_1 (by omega) (by omega)]; decide) | (rw [g_2 (by omega) (by omega)]; decide) | (rw [g_6 (by omega) (by omega)]; decide) | (rw [g_10 (by omega) (by omega)]; decide) | (rw [g_4 (by omega) (by omega) (by omega)]; decide) | (rw [g_4' (by omega) (by omega) (by omega)]; decide))))) (by (simp (disch := omega) only [u_hit, u_c, u_j])) (funext fun _ => by (simp (disch := omega) only [u_hit, u_c, u_j])) ht, fr_txt (by repeat' (first | exact fs_refl | (refine fs_up ?_ (by first | exact Nat.ne_of_beq_eq_false rfl | (rw [g_1 (by omega) (by omega)]; decide) | (rw [g_2 (by omega) (by omega)]; decide) | (rw [g_6 (by omega) (by omega)]; decide) | (rw [g_10 (by omega) (by omega)]; decide) | (rw [g_4 (by omega) (by omega) (by omega)]; decide) | (rw [g_4' (by omega) (by omega) (by omega)]; decide))))) hx, fr_tap (by repeat' (first | exact fs_refl | (refine fs_up ?_ (by first | exact Nat.ne_of_beq_eq_false rfl | (rw [g_1 (by omega) (by omega)]; decide) | (rw [g_2 (by omega) (by omega)]; decide) | (rw [g_6 (by omega) (by omega)]; decide) | (rw [g_10 (by omega) (by omega)]; decide) | (rw [g_4 (by omega) (by omega) (by omega)]; decide) | (rw [g_4' (by omega) (by omega) (by omega)]; decide))))) hr, fr_mis (by repeat' (first | exact fs_refl | (refine fs_up ?_ (by first | exact Nat.ne_of_beq_eq_false rfl | (rw [g_1 (by omega) (by omega)]; decide) | (rw [g_2 (by omega) (by omega)]; decide) | (rw [g_6 (by omega) (by omega)]; decide) | (rw [g_10 (by omega) (by omega)]; decide) | (rw [g_4 (by omega) (by omega) (by omega)]; decide) | (rw [g_4' (by omega) (by omega) (by omega)]; decide))))) hz, ?_, fr_cst (by repeat' (first | exact fs_refl | (refine fs_up ?_ (by first | exact Nat.ne_of_beq_eq_false rfl | (rw [g_1 (by omega) (by omega)]; decide) | (rw [g_2 (by omega) (by omega)]; decide) | (rw [g_6 (by omega) (by omega)]; decide) | (rw [g_10 (by omega) (by omega)]; decide) | (rw [g_4 (by omega) (by omega) (by omega)]; decide) | (rw [g_4' (by omega) (by omega) (by omega)]; decide))))) hk⟩
  intro q hq
  obtain ⟨b1, b2, b3, b4⟩ := hy q hq
  refine ⟨by (simp (disch := omega) only [u_hit, u_c, u_j]); exact b1, by (simp (disch := omega) only [u_hit, u_c, u_j]); exact b2, by (simp (disch := omega) only [u_hit, u_c, u_j]); exact b3, ?_⟩
  intro k hk
  by_cases e : q = t ∧ k = i
  · obtain ⟨rfl, rfl⟩ := e
    (simp (disch := omega) only [u_hit, u_c, u_j])
    exact ⟨hxy, h1, h2, h3, h4⟩
  · have e2 : ¬ 40 * q + k = 40 * t + i := by omega
    rw [u_r (c := 167) (by omega), u_r (c := 167) (by omega), u_r (c := 138 + 2 * t + 1) (by omega), u_r (c := 138 + 2 * t + 1) (by omega)]
    exact b4 k hk
theorem i_255 (x : Int32) : 0 ≤ (x &&& 255).toInt ∧ (x &&& 255).toInt ≤ 255 := by
  have h1 : (x &&& 255).toBitVec.toNat ≤ 255 := by
    rw [Int32.toBitVec_and, BitVec.toNat_and]
    exact Nat.and_le_right
  have h2 : (x &&& 255).toInt = ((x &&& 255).toBitVec.toNat : Int) := by
    show (x &&& 255).toBitVec.toInt = _
    exact BitVec.toInt_eq_toNat_of_lt (by omega)
  omega
