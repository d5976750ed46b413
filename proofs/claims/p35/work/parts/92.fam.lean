/-! the places of each class, and rows that the walks use -/
def f_a (c l : Nat) : Prop := c < 176 ∧ jg_knd c = (13, l)
theorem f_a_c {c l : Nat} (h : f_a c l) : c < 176 := h.1
theorem f_a_k {c l : Nat} (h : f_a c l) : jg_knd c = (13, l) := h.2
theorem f_i {s : jg_H} {c j k n : Nat} (h : jg_knd c = (k, n)) (hr : jg_isr k j = false) : jg_get s c j = .int (s c j) := by
  unfold jg_get
  rw [h]
  simp only [hr, Bool.false_eq_true, if_false]
theorem f_r {s : jg_H} {c j k n v : Nat} (h : jg_knd c = (k, n)) (hr : jg_isr k j = true) (hk : ¬ k = 7) (hv : jg_rt c j = v) : jg_get s c j = .ref v := by
  unfold jg_get
  rw [h]
  have h7 : ¬ (c = 117 ∧ j = 8) := by
    rintro ⟨rfl, rfl⟩
    exact hk (congrArg Prod.fst h.symm)
  simp only [hr, if_true, if_neg h7, hv]
def f_0 (c : Nat) : Prop := c < 176 ∧ jg_knd c = (0, 4)
theorem f_0_c {c : Nat} (h : f_0 c) : c < 176 := h.1
theorem f_0_k {c : Nat} (h : f_0 c) : jg_knd c = (0, 4) := h.2
def f_5 (c : Nat) : Prop := c < 176 ∧ jg_knd c = (5, 5) ∧ jg_rt c 4 = c + 1 ∧ f_a (c + 1) 61
theorem f_5_c {c : Nat} (h : f_5 c) : c < 176 := h.1
theorem f_5_k {c : Nat} (h : f_5 c) : jg_knd c = (5, 5) := h.2.1
theorem f_5_g4 {c : Nat} {s : jg_H} (h : f_5 c) : jg_get s c 4 = .ref (c + 1) := f_r (f_5_k h) rfl (by decide) (h.2.2.1)
theorem f_5_s4 {c : Nat} (h : f_5 c) : f_a (c + 1) 61 := h.2.2.2
def f_8 (c : Nat) : Prop := c < 176 ∧ jg_knd c = (8, 2) ∧ jg_rt c 1 = c + 1 ∧ f_a (c + 1) 10
theorem f_8_c {c : Nat} (h : f_8 c) : c < 176 := h.1
theorem f_8_k {c : Nat} (h : f_8 c) : jg_knd c = (8, 2) := h.2.1
theorem f_8_g1 {c : Nat} {s : jg_H} (h : f_8 c) : jg_get s c 1 = .ref (c + 1) := f_r (f_8_k h) rfl (by decide) (h.2.2.1)
theorem f_8_s1 {c : Nat} (h : f_8 c) : f_a (c + 1) 10 := h.2.2.2
def f_1 (c : Nat) : Prop := c < 176 ∧ jg_knd c = (1, 3) ∧ jg_rt c 2 = c + 1 ∧ f_8 (c + 1)
theorem f_1_c {c : Nat} (h : f_1 c) : c < 176 := h.1
theorem f_1_k {c : Nat} (h : f_1 c) : jg_knd c = (1, 3) := h.2.1
theorem f_1_g2 {c : Nat} {s : jg_H} (h : f_1 c) : jg_get s c 2 = .ref (c + 1) := f_r (f_1_k h) rfl (by decide) (h.2.2.1)
theorem f_1_s2 {c : Nat} (h : f_1 c) : f_8 (c + 1) := h.2.2.2
def f_9 (c : Nat) : Prop := c < 176 ∧ jg_knd c = (9, 3) ∧ jg_rt c 0 = c + 1 ∧ f_a (c + 1) 200 ∧ jg_rt c 2 = c + 2 ∧ f_a (c + 2) 5
theorem f_9_c {c : Nat} (h : f_9 c) : c < 176 := h.1
theorem f_9_k {c : Nat} (h : f_9 c) : jg_knd c = (9, 3) := h.2.1
theorem f_9_g0 {c : Nat} {s : jg_H} (h : f_9 c) : jg_get s c 0 = .ref (c + 1) := f_r (f_9_k h) rfl (by decide) (h.2.2.1)
theorem f_9_s0 {c : Nat} (h : f_9 c) : f_a (c + 1) 200 := h.2.2.2.1
theorem f_9_g2 {c : Nat} {s : jg_H} (h : f_9 c) : jg_get s c 2 = .ref (c + 2) := f_r (f_9_k h) rfl (by decide) (h.2.2.2.2.1)
theorem f_9_s2 {c : Nat} (h : f_9 c) : f_a (c + 2) 5 := h.2.2.2.2.2
def f_10 (c : Nat) : Prop := c < 176 ∧ jg_knd c = (10, 2) ∧ jg_rt c 1 = c + 1 ∧ f_a (c + 1) 40
theorem f_10_c {c : Nat} (h : f_10 c) : c < 176 := h.1
theorem f_10_k {c : Nat} (h : f_10 c) : jg_knd c = (10, 2) := h.2.1
theorem f_10_g1 {c : Nat} {s : jg_H} (h : f_10 c) : jg_get s c 1 = .ref (c + 1) := f_r (f_10_k h) rfl (by decide) (h.2.2.1)
theorem f_10_s1 {c : Nat} (h : f_10 c) : f_a (c + 1) 40 := h.2.2.2
def f_6 (c L : Nat) : Prop := c < 176 ∧ jg_knd c = (6, 6) ∧ jg_rt c 2 = c + 1 ∧ f_a (c + 1) L ∧ jg_rt c 3 = c + 2 ∧ f_a (c + 2) L ∧ jg_rt c 4 = c + 3 ∧ f_a (c + 3) L ∧ jg_rt c 5 = c + 4 ∧ f_a (c + 4) L
theorem f_6_c {c L : Nat} (h : f_6 c L) : c < 176 := h.1
theorem f_6_k {c L : Nat} (h : f_6 c L) : jg_knd c = (6, 6) := h.2.1
theorem f_6_g2 {c L : Nat} {s : jg_H} (h : f_6 c L) : jg_get s c 2 = .ref (c + 1) := f_r (f_6_k h) rfl (by decide) (h.2.2.1)
theorem f_6_s2 {c L : Nat} (h : f_6 c L) : f_a (c + 1) L := h.2.2.2.1
theorem f_6_g3 {c L : Nat} {s : jg_H} (h : f_6 c L) : jg_get s c 3 = .ref (c + 2) := f_r (f_6_k h) rfl (by decide) (h.2.2.2.2.1)
theorem f_6_s3 {c L : Nat} (h : f_6 c L) : f_a (c + 2) L := h.2.2.2.2.2.1
theorem f_6_g4 {c L : Nat} {s : jg_H} (h : f_6 c L) : jg_get s c 4 = .ref (c + 3) := f_r (f_6_k h) rfl (by decide) (h.2.2.2.2.2.2.1)
theorem f_6_s4 {c L : Nat} (h : f_6 c L) : f_a (c + 3) L := h.2.2.2.2.2.2.2.1
theorem f_6_g5 {c L : Nat} {s : jg_H} (h : f_6 c L) : jg_get s c 5 = .ref (c + 4) := f_r (f_6_k h) rfl (by decide) (h.2.2.2.2.2.2.2.2.1)
theorem f_6_s5 {c L : Nat} (h : f_6 c L) : f_a (c + 4) L := h.2.2.2.2.2.2.2.2.2
theorem f_A1 {s : jg_H} {i : Nat} (h : i < 15) : jg_get s 1 i = .ref (2 + 2 * i) := f_r (k := 16) (n := 15) rfl rfl (by decide) ((by decide : ∀ i, i < 15 → jg_rt 1 i = 2 + 2 * i) i h)
theorem f_m1_all : ∀ i, i < 15 → f_5 (2 + 2 * i) := by
  unfold f_5 f_a
  decide
theorem f_m1 {i : Nat} (h : i < 15) : f_5 (2 + 2 * i) := f_m1_all i h
theorem f_A32 {s : jg_H} {i : Nat} (h : i < 8) : jg_get s 32 i = .ref (33 + 3 * i) := f_r (k := 17) (n := 8) rfl rfl (by decide) ((by decide : ∀ i, i < 8 → jg_rt 32 i = 33 + 3 * i) i h)
theorem f_m32_all : ∀ i, i < 8 → f_1 (33 + 3 * i) := by
  unfold f_1 f_8 f_a
  decide
theorem f_m32 {i : Nat} (h : i < 8) : f_1 (33 + 3 * i) := f_m32_all i h
theorem f_A71 {s : jg_H} {i : Nat} (h : i < 6) : jg_get s 71 i = .ref (80 + 2 * i) := f_r (k := 18) (n := 6) rfl rfl (by decide) ((by decide : ∀ i, i < 6 → jg_rt 71 i = 80 + 2 * i) i h)
theorem f_m71_all : ∀ i, i < 6 → f_8 (80 + 2 * i) := by
  unfold f_8 f_a
  decide
theorem f_m71 {i : Nat} (h : i < 6) : f_8 (80 + 2 * i) := f_m71_all i h
theorem f_A92 {s : jg_H} {i : Nat} (h : i < 8) : jg_get s 92 i = .ref (93 + 3 * i) := f_r (k := 19) (n := 8) rfl rfl (by decide) ((by decide : ∀ i, i < 8 → jg_rt 92 i = 93 + 3 * i) i h)
theorem f_m92_all : ∀ i, i < 8 → f_9 (93 + 3 * i) := by
  unfold f_9 f_a
  decide
theorem f_m92 {i : Nat} (h : i < 8) : f_9 (93 + 3 * i) := f_m92_all i h
theorem f_A137 {s : jg_H} {i : Nat} (h : i < 4) : jg_get s 137 i = .ref (138 + 2 * i) := f_r (k := 20) (n := 4) rfl rfl (by decide) ((by decide : ∀ i, i < 4 → jg_rt 137 i = 138 + 2 * i) i h)
theorem f_m137_all : ∀ i, i < 4 → f_10 (138 + 2 * i) := by
  unfold f_10 f_a
  decide
theorem f_m137 {i : Nat} (h : i < 4) : f_10 (138 + 2 * i) := f_m137_all i h
theorem f_A125 {s : jg_H} {i : Nat} (h : i < 11) : jg_get s 125 i = .ref (126 + i) := f_r (k := 15) (n := 11) rfl rfl (by decide) ((by decide : ∀ i, i < 11 → jg_rt 125 i = 126 + i) i h)
theorem f_m125_all : ∀ i, i < 11 → f_a (126 + i) 11 := by
  unfold f_a
  decide
theorem f_m125 {i : Nat} (h : i < 11) : f_a (126 + i) 11 := f_m125_all i h
theorem f_A72 {s : jg_H} {i : Nat} (h : i < 6) : jg_get s 72 i = .ref (73 + i) := f_r (k := 15) (n := 6) rfl rfl (by decide) ((by decide : ∀ i, i < 6 → jg_rt 72 i = 73 + i) i h)
theorem f_m72_all : ∀ i, i < 6 → f_a (73 + i) 5 := by
  unfold f_a
  decide
theorem f_m72 {i : Nat} (h : i < 6) : f_a (73 + i) 5 := f_m72_all i h
theorem f_60 : f_6 60 8 := by unfold f_6 f_a; decide
theorem f_66 : f_6 66 5 := by unfold f_6 f_a; decide
theorem f_58 : f_8 58 := by unfold f_8 f_a; decide
theorem f_79 : f_0 79 := by unfold f_0; decide
theorem f_122 : f_0 122 := by unfold f_0; decide
theorem f_in {x : Int32} {l : Nat} (h : jv_in x l = true) : x.toNatClampNeg < l := by
  unfold jv_in at h
  simp only [Bool.not_eq_true', Bool.or_eq_false_iff, decide_eq_false_iff_not] at h
  omega
theorem q_inr {x : Int32} {l : Nat} (hl : l < 2147483648) (h0 : ¬ x < 0) (h1 : x < Int32.ofNat l) : jv_in x l = true := by
  unfold jv_in
  simp only [Bool.not_eq_true', Bool.or_eq_false_iff, decide_eq_false_iff_not]
  refine ⟨h0, ?_⟩
  have a0 : ¬ x.toInt < 0 := fun h => h0 (Int32.lt_iff_toInt_lt.mpr h)
  have a1 : x.toInt < (Int32.ofNat l).toInt := Int32.lt_iff_toInt_lt.mp h1
  rw [Int32.toInt_ofNat_of_lt hl] at a1
  have : x.toNatClampNeg = x.toInt.toNat := rfl
  omega
theorem f_into {s : jg_H} {T : Nat} (hT : f_9 T) (h : s 117 8 = Int32.ofNat T) : jg_get s 117 8 = .ref T := by
  unfold jg_get
  rw [if_pos (show jg_isr (jg_knd 117).1 8 = true by rfl), if_pos ⟨rfl, rfl⟩, h]
  rw [show (Int32.ofNat T).toNatClampNeg = T from nI_clamp (n := T) (Nat.lt_trans (f_9_c hT) (by decide))]
def f_n (o : Option Value) : Bool := match o with
  | some (.long _) => false
  | some (.double _) => false
  | _ => true
theorem f_o {o : Option Value} (h : f_n o = true) : (match some o with
    | some (some (.long _)) => false
    | some (some (.double _)) => false
    | _ => true) = true := by
  match o, h with
  | none, _ => rfl
  | some (.int _), _ => rfl
  | some (.ref _), _ => rfl
  | some .null, _ => rfl
  | some (.float _), _ => rfl
  | some (.retAddr _), _ => rfl
theorem f_fitb {x : Int32} (h : x = 0 ∨ x = 1) : jv_fit .boolean (.int x) = true := by
  rcases h with h | h <;> rw [h] <;> rfl
theorem f_rnb {x : Int32} (h : x = 0 ∨ x = 1) : jv_rn .boolean x = true := by
  rcases h with h | h <;> rw [h] <;> rfl
section
variable {G : jv_X} {d : Nat} {M : jv_MI} {B : Option Value → jg_H → Prop} {pc pc' n a b t u : Nat} {z : Int} {ls ls' : jv_L} {st r : List Value} {s : jg_H}
theorem q_swE {w lo hi : Int} {offs : Array Int} {x : Int32} (ha : jv_at M.2.2.2.2.2.2 pc = some (.tableswitch w lo hi offs, n, a, b, t, u, z)) (hx : ¬ (x.toInt < lo ∨ hi < x.toInt)) (he : ∃ o, offs[(x.toInt - lo).toNat]? = some o ∧ ((pc : Int) + o).toNat = pc') (k : q_W G d M B pc' ls r s) : q_W G d M B pc ls (.int x :: r) s := by
  obtain ⟨o, h1, h2⟩ := he
  exact q_swIn ha hx h1 h2 k
theorem q_swD {w lo hi : Int} {offs : Array Int} {x : Int32} (ha : jv_at M.2.2.2.2.2.2 pc = some (.tableswitch w lo hi offs, n, a, b, t, u, z)) (grp : List Int) (hn : ∀ k ∈ grp, ¬ x = Int32.ofInt k) (hall : ∀ j : Nat, j < (hi + 1 - lo).toNat → (lo + j) ∈ grp ∨ offs[j]? = some w) (ht : ((pc : Int) + w).toNat = pc') (k : q_W G d M B pc' ls r s) : q_W G d M B pc ls (.int x :: r) s := by
  by_cases hx : x.toInt < lo ∨ hi < x.toInt
  · exact q_swOut ha hx ht k
  · have hj : (x.toInt - lo).toNat < (hi + 1 - lo).toNat := by omega
    rcases hall _ hj with h | h
    · refine absurd ?_ (hn _ h)
      rw [show lo + ((x.toInt - lo).toNat : Int) = x.toInt by omega]
      exact (Int32.ofInt_toInt x).symm
    · exact q_swIn ha hx h ht k
end
