/-! the class's reader: expressions -/
def y_c (x : Int32) : Nat := if -8 ≤ x.toInt then 0 else if x = -11 ∨ x = -17 then 1 else 2
def y_cok (x : Int32) : Prop := -17 ≤ x.toInt ∧ x.toInt ≤ 9999
abbrev zW_T (T c j : Nat) : Prop := (c = 117 ∧ 2 ≤ j ∧ j ≤ 7) ∨ (c = T ∧ j = 1) ∨ c = T + 1
theorem zW_LT {T : Nat} {s s' : jg_H} (h : zfr zW_L s s') : zfr (zW_T T) s s' := zfr_sub (fun _ _ w => Or.inl ⟨w.1, w.2.1, w.2.2.1⟩) h
/-- an expression was read from s on, and s' came of it; o: how many are not ended -/
def zc_E (T : Nat) (o : Int32) (s s' : jg_H) : Prop := zfr (zW_T T) s s' ∧ zc_S s' ∧ s' 117 6 = o ∧ (s' 117 7 = -1 → s 117 7 = -1 ∧ ∃ n m : Nat, (s T 1).toInt = n ∧ (s' T 1).toInt = ((n + m : Nat) : Int) ∧ (m : Int) + (s 117 2).toInt ≤ (s' 117 2).toInt ∧ (∀ i, i < n → s' (T + 1) i = s (T + 1) i) ∧ (∀ i, n ≤ i → i < n + m → y_cok (s' (T + 1) i)) ∧ y_E (fun i => y_c (s' (T + 1) i)) n m)
/-- the same, but one operation of kind q is still to come -/
def zc_X (T q : Nat) (s s' : jg_H) : Prop := zfr (zW_T T) s s' ∧ zc_S s' ∧ (s' 117 7 = -1 → s 117 7 = -1 ∧ ∃ n m : Nat, (s T 1).toInt = n ∧ (s' T 1).toInt = ((n + m : Nat) : Int) ∧ (m : Int) + 1 + (s 117 2).toInt ≤ (s' 117 2).toInt ∧ (∀ i, i < n → s' (T + 1) i = s (T + 1) i) ∧ (∀ i, n ≤ i → i < n + m → y_cok (s' (T + 1) i)) ∧ ∀ y : Nat → Nat, (∀ i, n ≤ i → i < n + m → y i = y_c (s' (T + 1) i)) → y (n + m) = q → y_E y n (m + 1))
def zc_P (T : Nat) (s : jg_H) : Prop := 93 ≤ T ∧ T ≤ 114 ∧ f_9 T ∧ s 117 8 = Int32.ofNat T ∧ 0 ≤ (s 117 6).toInt ∧ (s 117 6).toInt ≤ 5 ∧ zc_S s ∧ (s 117 7 = -1 → 0 ≤ (s T 1).toInt ∧ (s T 1).toInt ≤ (s 117 2).toInt)
theorem zc_E_dead {T : Nat} {o : Int32} {s s' : jg_H} (f : zfr (zW_T T) s s') (h : ¬ s' 117 7 = -1) (t : s' 117 4 = 17) (ho : s' 117 6 = o) : zc_E T o s s' := ⟨f, ⟨fun e => absurd e h, fun _ => t⟩, ho, fun e => absurd e h⟩
theorem zfr_8 {T : Nat} (h1 : 93 ≤ T) (h2 : T ≤ 114) {s s' : jg_H} (f : zfr (zW_T T) s s') : s' 117 8 = s 117 8 := f 117 8 (by rintro (h | h | h) <;> omega)
theorem zfr_1 {T : Nat} (h1 : 93 ≤ T) (h2 : T ≤ 114) {s s' : jg_H} (f : zfr (zW_T T) s s') : s' 117 1 = s 117 1 := f 117 1 (by rintro (h | h | h) <;> omega)
theorem zfl_T {T : Nat} (h2 : T ≤ 114) {s s' : jg_H} (f : zfr zW_L s s') (j : Nat) : s' T j = s T j ∧ s' (T + 1) j = s (T + 1) j := ⟨f _ _ (fun w => by have := w.1; omega), f _ _ (fun w => by have := w.1; omega)⟩
theorem zfl_6 {s s' : jg_H} (f : zfr zW_L s s') : s' 117 6 = s 117 6 := f 117 6 (by decide)
theorem zc_PE {T : Nat} {o : Int32} {s s' : jg_H} (hP : zc_P T s) (h : zc_E T o s s') (ho : 0 ≤ o.toInt ∧ o.toInt ≤ 5) : zc_P T s' := by
  obtain ⟨p1, p2, p3, p4, p5, p6, p7, p8⟩ := hP
  obtain ⟨f, g, e, k⟩ := h
  refine ⟨p1, p2, p3, (zfr_8 p1 p2 f).trans p4, by rw [e]; exact ho.1, by rw [e]; exact ho.2, g, fun q => ?_⟩
  obtain ⟨k1, n, m, k2, k3, k4, -⟩ := k q
  have := p8 k1
  omega
theorem zc_PG {T : Nat} {s s' : jg_H} (hP : zc_P T s) (h : zc_G s s') : zc_P T s' := by
  obtain ⟨p1, p2, p3, p4, p5, p6, p7, p8⟩ := hP
  obtain ⟨f, g, k⟩ := h
  have e6 := zfl_6 f
  refine ⟨p1, p2, p3, (zfr_8 p1 p2 (zW_LT (T := T) f)).trans p4, by rw [e6]; exact p5, by rw [e6]; exact p6, g, fun q => ?_⟩
  obtain ⟨k1, k2⟩ := k q
  rw [(zfl_T p2 f 1).1]
  have a := p8 k1
  obtain ⟨b1, b2, -⟩ := p7.1 k1
  omega
/-- the next token, from a state of the reader -/
theorem zc_next {G : jv_X} (hG : G.2 = .null ∨ G.2 = .ref 1000005) {T d : Nat} (hd : 7 ≤ d) {B : Option Value → jg_H → Prop} {s : jg_H} (hP : zc_P T s) (hB : ∀ s', zc_G s s' → B none s') : q_P G d 21 [.ref 117] s B := by
  refine zg_goOn hG hd (fun h => ?_) (fun h => hP.2.2.2.2.2.2.1.2 h) hB
  obtain ⟨a, b, c, e, -⟩ := hP.2.2.2.2.2.2.1.1 h
  exact ⟨by omega, c, e⟩
theorem zc_S_of {s s' : jg_H} (e : ∀ j, s' 117 j = s 117 j) (h : zc_S s) : zc_S s' := by
  unfold zc_S zc_ok at *
  simp only [e]
  exact h
/-- the operation comes -/
theorem zc_add {T q : Nat} {o x : Int32} {s s' : jg_H} (hP : zc_P T s) (hX : zc_X T q s s') (ho : s' 117 6 = o) (hx : y_c x = q) (hk : y_cok x) {C : jg_H → Prop} (hC : ∀ s2, zc_E T o s s2 → C s2) :
    ((s' T 1) < 0 → C s') ∧ (¬ (s' T 1) < 0 → (s' T 1) < 200 → ∀ s1 : jg_H, s1 = jg_up s' (T + 1) (s' T 1).toNatClampNeg x → ∀ s2 : jg_H, s2 = jg_up s1 T 1 ((s1 T 1) + 1) → C s2) ∧ (¬ (s' T 1) < 0 → ¬ (s' T 1) < 200 → C s') := by
  obtain ⟨p1, p2, p3, p4, p5, p6, p7, p8⟩ := hP
  obtain ⟨f, g, k⟩ := hX
  have e0 : (0 : Int32).toInt = 0 := rfl
  have e200 : (200 : Int32).toInt = 200 := rfl
  refine ⟨fun h => hC _ ⟨f, g, ho, fun l => ?_⟩, fun h h' s1 e1 s2 e2 => hC _ ?_, fun h h' => hC _ ⟨f, g, ho, fun l => ?_⟩⟩
  · obtain ⟨k1, n, m, k2, k3, k4, k5, k6, k7⟩ := k l
    exact absurd (z_lt h) (by omega)
  · have a0 : ∀ j, s1 T j = s' T j := fun j => by rw [e1, u_c (by omega)]
    have b0 : ∀ j, s2 117 j = s' 117 j := fun j => by rw [e2, u_c (by omega), e1, u_c (by omega)]
    have c0 : ∀ i, ¬ i = (s' T 1).toNatClampNeg → s2 (T + 1) i = s' (T + 1) i := fun i hi => by rw [e2, u_c (by omega), e1, u_j hi]
    have c1 : s2 (T + 1) (s' T 1).toNatClampNeg = x := by rw [e2, u_c (by omega), e1, u_hit]
    have d0 : s2 T 1 = s' T 1 + 1 := by rw [e2, u_hit, a0]
    have f2 : zfr (zW_T T) s s2 := by
      rw [e2, e1]
      exact zfr_up (zfr_up f (Or.inr (Or.inr rfl))) (Or.inr (Or.inl ⟨rfl, rfl⟩))
    refine ⟨f2, zc_S_of b0 g, (b0 6).trans ho, fun l => ?_⟩
    obtain ⟨k1, n, m, k2, k3, k4, k5, k6, k7⟩ := k ((b0 7).symm.trans l)
    have ei : (s' T 1).toNatClampNeg = n + m := by rw [i_cn]; omega
    have ez := z_p1 (a := s' T 1) (by have := z_lt h'; omega)
    rw [ei] at c0 c1
    refine ⟨k1, n, m + 1, k2, by rw [d0]; omega, by rw [b0]; omega, fun i hi => (c0 i (by omega)).trans (k5 i hi), fun i h1 h2 => ?_, k7 _ (fun i h1 h2 => congrArg y_c (c0 i (by omega))) (by show y_c (s2 (T + 1) (n + m)) = q; rw [c1]; exact hx)⟩
    by_cases hi : i = n + m
    · rw [hi, c1]; exact hk
    · rw [c0 i hi]; exact k6 i h1 (by omega)
  · obtain ⟨k1, n, m, k2, k3, k4, k5, k6, k7⟩ := k l
    have := p8 k1
    obtain ⟨g1, g2, g3, g4, -⟩ := g.1 l
    exact absurd (z_nlt h') (by omega)
/-- an opener, what it belongs to, and its operation to come -/
theorem zc_un {T : Nat} {o1 o2 : Int32} {s s1 s2 s3 : jg_H} (hP : zc_P T s) (hl : s 117 7 = -1) (ht : ¬ s 117 4 = 16) (e1 : s1 = jg_up s 117 6 o1) (g : zc_G s1 s2) (b : zc_E T o2 s2 s3) : zc_X T 1 s s3 := by
  obtain ⟨p1, p2, p3, p4, p5, p6, p7, p8⟩ := hP
  obtain ⟨gf, gg, gk⟩ := g
  obtain ⟨bf, bg, -, bk⟩ := b
  have f1 : zfr (zW_T T) s s1 := by rw [e1]; exact zfr_up zfr_refl (Or.inl ⟨rfl, by omega, by omega⟩)
  have a3 : s1 117 3 = s 117 3 := by rw [e1, u_j (by decide)]
  have a0 : ∀ j, s1 T j = s T j ∧ s1 (T + 1) j = s (T + 1) j := fun j => by rw [e1, u_c (by omega), u_c (by omega)]; exact ⟨rfl, rfl⟩
  refine ⟨zfr_trans f1 (zfr_trans (zW_LT gf) bf), bg, fun l => ?_⟩
  obtain ⟨k1, n, m, k2, k3, k4, k5, k6, k7⟩ := bk l
  obtain ⟨g1, g2⟩ := gk k1
  obtain ⟨q1, q2, q3, q4, q5, -⟩ := p7.1 hl
  rw [a3] at g2
  refine ⟨hl, n, m, by rw [← k2, (zfl_T p2 gf 1).1, (a0 1).1], k3, by rcases q5 with q5 | q5; (exact absurd q5 ht); omega, fun i hi => (k5 i hi).trans ((zfl_T p2 gf i).2.trans (a0 i).2), k6, fun y h1 h2 => y_un (y_Eq (fun i a b => h1 i a b) k7) h2⟩
/-- two, and the sign between them, whose operation is to come -/
theorem zc_bi {T : Nat} {o o2 : Int32} {s0 s s1 s2 : jg_H} (hP : zc_P T s0) (a : zc_E T o s0 s) (ht : ¬ s 117 4 = 16) (g : zc_G s s1) (b : zc_E T o2 s1 s2) : zc_X T 2 s0 s2 := by
  obtain ⟨p1, p2, p3, p4, p5, p6, p7, p8⟩ := hP
  obtain ⟨af, ag, -, ak⟩ := a
  obtain ⟨gf, gg, gk⟩ := g
  obtain ⟨bf, bg, -, bk⟩ := b
  refine ⟨zfr_trans af (zfr_trans (zW_LT gf) bf), bg, fun l => ?_⟩
  obtain ⟨k1, n', m', k2, k3, k4, k5, k6, k7⟩ := bk l
  obtain ⟨g1, g2⟩ := gk k1
  obtain ⟨l1, n, m, l2, l3, l4, l5, l6, l7⟩ := ak g1
  obtain ⟨q1, q2, q3, q4, q5, -⟩ := ag.1 g1
  have en : n' = n + m := by
    rw [(zfl_T p2 gf 1).1] at k2
    omega
  subst en
  have c0 : ∀ i, i < n + m → s2 (T + 1) i = s (T + 1) i := fun i hi => (k5 i hi).trans (zfl_T p2 gf i).2
  refine ⟨l1, n, m + m', l2, by omega, by rcases q5 with q5 | q5; (exact absurd q5 ht); omega, fun i hi => (c0 i (by omega)).trans (l5 i hi), fun i h1 h2 => ?_, fun y h1 h2 => ?_⟩
  · by_cases hi : i < n + m
    · rw [c0 i hi]; exact l6 i h1 hi
    · exact k6 i (by omega) (by omega)
  · refine y_bin (y_Eq (fun i a b => ?_) l7) (y_Eq (fun i a b => ?_) k7) (by rw [Nat.add_assoc]; exact h2)
    · show y i = y_c (s (T + 1) i)
      rw [h1 i a (by omega), c0 i b]
    · exact h1 i (by omega) (by omega)
/-- what stands in brackets -/
theorem zc_pa {T : Nat} {o1 o2 o4 : Int32} {s s1 s2 s3 s4 : jg_H} (hP : zc_P T s) (hl : s 117 7 = -1) (e1 : s1 = jg_up s 117 6 o1) (g : zc_G s1 s2) (b : zc_E T o2 s2 s3) (h4 : zc_G s3 s4) (ho : s4 117 6 = o4) : zc_E T o4 s s4 := by
  obtain ⟨p1, p2, p3, p4, p5, p6, p7, p8⟩ := hP
  obtain ⟨gf, gg, gk⟩ := g
  obtain ⟨bf, bg, -, bk⟩ := b
  obtain ⟨hf, hg, hk⟩ := h4
  have f1 : zfr (zW_T T) s s1 := by rw [e1]; exact zfr_up zfr_refl (Or.inl ⟨rfl, by omega, by omega⟩)
  have a3 : s1 117 3 = s 117 3 := by rw [e1, u_j (by decide)]
  have a0 : ∀ j, s1 T j = s T j ∧ s1 (T + 1) j = s (T + 1) j := fun j => by rw [e1, u_c (by omega), u_c (by omega)]; exact ⟨rfl, rfl⟩
  refine ⟨zfr_trans f1 (zfr_trans (zW_LT gf) (zfr_trans bf (zW_LT hf))), hg, ho, fun l => ?_⟩
  obtain ⟨h1, h2⟩ := hk l
  obtain ⟨k1, n, m, k2, k3, k4, k5, k6, k7⟩ := bk h1
  obtain ⟨g1, g2⟩ := gk k1
  obtain ⟨q1, q2, q3, q4, q5, -⟩ := p7.1 hl
  obtain ⟨r1, r2, -⟩ := bg.1 h1
  rw [a3] at g2
  refine ⟨hl, n, m, by rw [← k2, (zfl_T p2 gf 1).1, (a0 1).1], by rw [(zfl_T p2 hf 1).1]; exact k3, by omega, fun i hi => ?_, fun i a b => ?_, y_Eq (fun i _ _ => congrArg y_c (zfl_T p2 hf i).2) k7⟩
  · rw [(zfl_T p2 hf i).2]; exact (k5 i hi).trans ((zfl_T p2 gf i).2.trans (a0 i).2)
  · rw [(zfl_T p2 hf i).2]; exact k6 i a b
/-- a number or a name -/
theorem zc_leaf {T : Nat} {x : Int32} {s s1 s2 s3 : jg_H} (hP : zc_P T s) (hl : s 117 7 = -1) (ht : ¬ s 117 4 = 16) (hx : y_c x = 0) (hk : y_cok x) (h' : (s T 1) < 200) (e1 : s1 = jg_up s (T + 1) (s T 1).toNatClampNeg x) (e2 : s2 = jg_up s1 T 1 ((s1 T 1) + 1)) (g : zc_G s2 s3) : zc_E T (s 117 6) s s3 := by
  obtain ⟨p1, p2, p3, p4, p5, p6, p7, p8⟩ := hP
  obtain ⟨gf, gg, gk⟩ := g
  have e200 : (200 : Int32).toInt = 200 := rfl
  have a0 : ∀ j, s1 T j = s T j := fun j => by rw [e1, u_c (by omega)]
  have b0 : ∀ j, s2 117 j = s 117 j := fun j => by rw [e2, u_c (by omega), e1, u_c (by omega)]
  have c0 : ∀ i, ¬ i = (s T 1).toNatClampNeg → s2 (T + 1) i = s (T + 1) i := fun i hi => by rw [e2, u_c (by omega), e1, u_j hi]
  have c1 : s2 (T + 1) (s T 1).toNatClampNeg = x := by rw [e2, u_c (by omega), e1, u_hit]
  have d0 : s2 T 1 = s T 1 + 1 := by rw [e2, u_hit, a0]
  have f2 : zfr (zW_T T) s s2 := by
    rw [e2, e1]
    exact zfr_up (zfr_up zfr_refl (Or.inr (Or.inr rfl))) (Or.inr (Or.inl ⟨rfl, rfl⟩))
  refine ⟨zfr_trans f2 (zW_LT gf), gg, (zfl_6 gf).trans (b0 6), fun l => ?_⟩
  obtain ⟨g1, g2⟩ := gk l
  obtain ⟨q1, q2, q3, q4, q5, -⟩ := p7.1 hl
  obtain ⟨s1', s2'⟩ := p8 hl
  rw [b0 3] at g2
  have ei : (s T 1).toNatClampNeg = (s T 1).toInt.toNat := i_cn _
  have ez := z_p1 (a := s T 1) (by have := z_lt h'; omega)
  rw [ei] at c0 c1
  refine ⟨hl, (s T 1).toInt.toNat, 1, by omega, by rw [(zfl_T p2 gf 1).1, d0]; omega, by rcases q5 with q5 | q5; (exact absurd q5 ht); omega, fun i hi => (zfl_T p2 gf i).2.trans (c0 i (by omega)), fun i a b => ?_, y_push ?_⟩
  · rw [(zfl_T p2 gf i).2, show i = (s T 1).toInt.toNat by omega, c1]; exact hk
  · show y_c (s3 (T + 1) (s T 1).toInt.toNat) = 0
    rw [(zfl_T p2 gf _).2, c1]
    exact hx
/-- the number of those that are not ended is set back -/
theorem zc_set {T : Nat} {o o' : Int32} {s s' : jg_H} (hT : 93 ≤ T ∧ T ≤ 114) (h : zc_E T o s s') : zc_E T o' s (jg_up s' 117 6 o') := by
  obtain ⟨f, g, e, k⟩ := h
  have c0 : ∀ j, jg_up s' 117 6 o' T j = s' T j ∧ jg_up s' 117 6 o' (T + 1) j = s' (T + 1) j := fun j => ⟨u_c (by omega), u_c (by omega)⟩
  have b0 : ∀ j, ¬ j = 6 → jg_up s' 117 6 o' 117 j = s' 117 j := fun j hj => u_j hj
  refine ⟨zfr_up f (Or.inl ⟨rfl, by omega, by omega⟩), ?_, u_hit, fun l => ?_⟩
  · unfold zc_S zc_ok at *
    rw [b0 1 (by decide), b0 2 (by decide), b0 3 (by decide), b0 4 (by decide), b0 5 (by decide), b0 7 (by decide)]
    exact g
  · rw [b0 7 (by decide)] at l
    obtain ⟨k1, n, m, k2, k3, k4, k5, k6, k7⟩ := k l
    exact ⟨k1, n, m, k2, by rw [(c0 1).1]; exact k3, by rw [b0 2 (by decide)]; exact k4, fun i hi => (c0 i).2.trans (k5 i hi), fun i a b => by rw [(c0 i).2]; exact k6 i a b, y_Eq (fun i _ _ => congrArg y_c (c0 i).2) k7⟩
/-- what a method of the reader owes: m, how many may still come to stand one in another -/
def zc_C (G : jv_X) (T k D m : Nat) : Prop := ∀ (d : Nat), D ≤ d → ∀ (s : jg_H) (B : Option Value → jg_H → Prop), zc_P T s → 5 ≤ (s 117 6).toInt + m → (∀ s', zc_E T (s 117 6) s s' → B none s') → q_P G d k [.ref 117] s B
def zc_CO (G : jv_X) (T D m : Nat) : Prop := ∀ (d : Nat), D ≤ d → ∀ (s : jg_H) (B : Option Value → jg_H → Prop), zc_P T s → s 117 7 = -1 → ¬ s 117 4 = 16 → 5 ≤ (s 117 6).toInt + m → (∀ s', zc_E T (s 117 6) s s' → B none s') → q_P G d 34 [.ref 117] s B
theorem z_name {a : Int32} (h0 : 0 ≤ a.toInt) (h1 : a.toInt < 8) : ((-1 : Int32) - a).toInt = -1 - a.toInt := by ((try simp only [i_lt, i_le, i_eq, i_in, i_cn, Int32.toInt_add, Int32.toInt_sub, Int32.toInt_mul, Int32.toInt_neg, Int32.reduceToInt, Int.bmod_add_bmod, Int.add_bmod_bmod, Int.bmod_sub_bmod, Int.sub_bmod_bmod, Int.bmod_mul_bmod, Int.mul_bmod_bmod, Int.bmod_neg_bmod, Nat.reducePow, Int.reduceBmod, Int.reduceNeg, Int.reduceMul, Int.reduceAdd, Int.reduceSub, not_true_eq_false, not_false_eq_true] at *) <;> (try simp (disch := omega) only [i_bm'] at *) <;> omega)
theorem zc_failE {T : Nat} {s : jg_H} (hP : zc_P T s) (hl : s 117 7 = -1) : zc_E T (s 117 6) s (jg_up (jg_up s 117 7 (s 117 2)) 117 4 17) := by
  refine zc_E_dead (zfr_up (zfr_up zfr_refl (Or.inl ⟨rfl, by omega, by omega⟩)) (Or.inl ⟨rfl, by omega, by omega⟩)) ?_ u_hit (by (simp (disch := omega) only [u_hit, u_c, u_j]))
  (simp (disch := omega) only [u_hit, u_c, u_j])
  exact z_nm1 (hP.2.2.2.2.2.2.1.1 hl).1
theorem zc_deadE {T : Nat} {s : jg_H} (hl : ¬ s 117 7 = -1) : zc_E T (s 117 6) s (jg_up s 117 4 17) :=
  zc_E_dead (zfr_up zfr_refl (Or.inl ⟨rfl, by omega, by omega⟩)) (by (simp (disch := omega) only [u_hit, u_c, u_j]); exact hl) u_hit (by (simp (disch := omega) only [u_hit, u_c, u_j]))
theorem zc_one {G : jv_X} (hG : G.2 = .null ∨ G.2 = .ref 1000005) {T D m : Nat} (hD : 7 ≤ D) (hO : zc_CO G T D m) : zc_C G T 36 (D + 1) m := by
  intro d hd s B hP hm hB
  obtain ⟨d, rfl⟩ : ∃ e, d = e + 2 := ⟨d - 2, by omega⟩
  have hI : s 117 8 = Int32.ofNat T := hP.2.2.2.1
  have p1 := hP.1
  have p2 := hP.2.1
  have e0 : (0 : Int32).toInt = 0 := rfl
  have e8 : (8 : Int32).toInt = 8 := rfl
  have e200 : (200 : Int32).toInt = 200 := rfl
  have live : ¬ s 117 4 = 17 → s 117 7 = -1 := fun h => by
    by_cases q : s 117 7 = -1
    · exact q
    · exact absurd (hP.2.2.2.2.2.2.1.2 q) h
  have bad : s 117 7 = -1 → ∀ s2, s2 = jg_up s 117 7 (s 117 2) → ∀ s3, s3 = jg_up s2 117 4 17 → B none s3 := fun h s2 e2 s3 e3 => by
    subst e2 e3
    exact hB _ (zc_failE hP h)
  have dead : ¬ s 117 7 = -1 → ∀ s2, s2 = jg_up s 117 4 17 → B none s2 := fun h s2 e2 => by
    subst e2
    exact hB _ (zc_deadE h)
  have n200 : s 117 7 = -1 → ¬ (s T 1) < 0 ∧ (s 117 4 = 16 ∨ (s T 1) < 200) := fun h => by
    obtain ⟨a, b⟩ := hP.2.2.2.2.2.2.2 h
    obtain ⟨q1, q2, q3, q4, q5, -⟩ := hP.2.2.2.2.2.2.1.1 h
    refine ⟨fun q => absurd (z_lt q) (by omega), ?_⟩
    rcases q5 with q5 | q5
    · exact Or.inl q5
    · exact Or.inr (z_lt' (by omega))
  have put : ∀ x : Int32, ∀ q : Nat, ∀ (hq : ∀ s', B none s' → q_W G (d + 1) jm_Reader_readOne B q [some (.ref 117)] [] s'), s 117 7 = -1 → ¬ s 117 4 = 16 → y_c x = 0 → y_cok x → (s T 1) < 200 → ∀ s7, s7 = jg_up s (T + 1) (s T 1).toNatClampNeg x → ∀ s8, s8 = jg_up s7 T 1 ((s7 T 1) + 1) → q_P G (d + 1) 21 [.ref 117] s8 (fun v t => q_W G (d + 1) jm_Reader_readOne B q [some (.ref 117)] (v.toList ++ []) t) := fun x q hq hl ht hx hk h2 s7 e7 s8 e8 => by
    have b0 : ∀ j, s8 117 j = s 117 j := fun j => by rw [e8, u_c (by omega), e7, u_c (by omega)]
    obtain ⟨q1, q2, q3, q4, q5, -⟩ := hP.2.2.2.2.2.2.1.1 hl
    refine zg_goOn hG (by omega) (fun _ => by rw [b0, b0]; exact ⟨by omega, q3, q4⟩) (fun h => absurd ((b0 7).trans hl) h) (fun s' h => hq s' (hB s' (zc_leaf hP hl ht hx hk h2 e7 e8 h)))
  refine t_Reader_readOne (d := d) (T := T) hP.2.2.1 ?_ ?_ ?_ ?_ ?_ ?_ ?_ ?_ ?_ ?_ ?_ ?_ ?_ ?_
  · intro h
    have hl := live (by rw [h]; decide)
    exact hO (d + 1) (by omega) s _ hP hl (by rw [h]; decide) hm (fun s' h => t_Reader_readOne_22 (d := d) (hB s' h))
  · intro _ _ _ _; exact dead
  · intro _ _ _ _; exact bad
  · intro _ _ _ _ _; exact dead
  · intro _ _ _ _ _; exact bad
  · intro _ _ _ _ _; exact hI
  · intro _ _ _ h1 h2 h
    have hl := live (by intro e; rw [e] at h2; exact absurd h2 (by decide))
    exact absurd h (n200 hl).1
  · intro _ _ _ h1 h2 _ h s7 e7 s8 e8
    have hl := live (by intro e; rw [e] at h2; exact absurd h2 (by decide))
    have h1 := z_nlt h1
    have h2 := z_lt h2
    have ex := z_name (a := s 117 4) (by omega) (by omega)
    refine put _ 85 (fun s' h => t_Reader_readOne_85 (d := d) h) hl (by intro e; rw [e] at h2; exact absurd h2 (by decide)) ?_ ?_ h s7 e7 s8 e8
    · unfold y_c
      rw [if_pos (by omega)]
    · exact ⟨by omega, by omega⟩
  · intro _ _ _ h1 h2 _ h
    have hl := live (by intro e; rw [e] at h2; exact absurd h2 (by decide))
    rcases (n200 hl).2 with q | q
    · rw [q] at h2; exact absurd h2 (by decide)
    · exact absurd q h
  · intro _ _ _; exact hI
  · intro _ _ h1 h
    have hl := live (by rw [h1]; decide)
    exact absurd h (n200 hl).1
  · intro _ _ h1 _ h s7 e7 s8 e8
    have hl := live (by rw [h1]; decide)
    obtain ⟨q1, q2, q3, q4, q5, q6, -⟩ := hP.2.2.2.2.2.2.1.1 hl
    obtain ⟨w1, w2⟩ := q6 h1
    refine put _ 49 (fun s' h => t_Reader_readOne_49 (d := d) h) hl (by rw [h1]; decide) ?_ ⟨by omega, w2⟩ h s7 e7 s8 e8
    unfold y_c
    rw [if_pos (by omega)]
  · intro _ _ h1 _ h
    have hl := live (by rw [h1]; decide)
    rcases (n200 hl).2 with q | q
    · rw [q] at h1; exact absurd h1 (by decide)
    · exact absurd q h
  · intro _ h
    have hl := live (by rw [h]; decide)
    exact hO (d + 1) (by omega) s _ hP hl (by rw [h]; decide) hm (fun s' h => t_Reader_readOne_22 (d := d) (hB s' h))
theorem zc_termL {G : jv_X} (hG : G.2 = .null ∨ G.2 = .ref 1000005) {T D m : Nat} (hD : 7 ≤ D) (hO : zc_C G T 36 D m) {d : Nat} (hd : D ≤ d + 1) {s0 : jg_H} {B : Option Value → jg_H → Prop} (hP : zc_P T s0) (hm : 5 ≤ (s0 117 6).toInt + m) (hB : ∀ s', zc_E T (s0 117 6) s0 s' → B none s') :
    ∀ (n : Nat) (x : Int32) (s : jg_H), 0 ≤ x.toInt → x.toInt + n = 200 → zc_E T (s0 117 6) s0 s → q_W G (d + 1) jm_Reader_readTerm B 6 [some (.ref 117), some (.int x)] [] s
  | n, x, s, hx, hn, hE => by
    have e200 : (200 : Int32).toInt = 200 := rfl
    have hP1 := zc_PE hP hE ⟨hP.2.2.2.2.1, hP.2.2.2.2.2.1⟩
    refine t_Reader_readTerm_6 (d := d) x (fun _ => hB s hE) (fun _ _ => hB s hE) (fun hlt ht => ?_)
    have hlt := z_lt hlt
    match n, hn with
    | 0, hn => omega
    | n + 1, hn =>
      have ep := z_p1 (a := x) (by omega)
      refine zc_next hG (by omega) hP1 (fun s1 g => ?_)
      refine t_Reader_readTerm_26 (d := d) x ?_
      have hP2 := zc_PG hP1 g
      have e6 : s1 117 6 = s0 117 6 := (zfl_6 g.1).trans hE.2.2.1
      refine hO (d + 1) hd s1 _ hP2 (by rw [e6]; exact hm) (fun s2 b => ?_)
      have hP3 := zc_PE hP2 b ⟨hP2.2.2.2.2.1, hP2.2.2.2.2.2.1⟩
      obtain ⟨w1, w2, w3⟩ := zc_add (x := -16) hP (zc_bi hP hE (by rw [ht]; decide) g b) (b.2.2.1.trans e6) (by decide) ⟨by decide, by decide⟩ (C := fun s2 => q_W G (d + 1) jm_Reader_readTerm B 6 [some (.ref 117), some (.int (x + 1))] [] s2) (fun s2 hE2 => zc_termL hG hD hO hd hP hm hB n (x + 1) s2 (by omega) (by omega) hE2)
      exact t_Reader_readTerm_30 (d := d) (T := T) hP.2.2.1 x hP3.2.2.2.1 w1 w2 w3
theorem zc_term {G : jv_X} (hG : G.2 = .null ∨ G.2 = .ref 1000005) {T D m : Nat} (hD : 7 ≤ D) (hO : zc_C G T 36 D m) : zc_C G T 38 (D + 1) m := by
  intro d hd s B hP hm hB
  obtain ⟨d, rfl⟩ : ∃ e, d = e + 2 := ⟨d - 2, by omega⟩
  refine t_Reader_readTerm (d := d) (hO (d + 1) (by omega) s _ hP hm (fun s1 h => ?_))
  exact t_Reader_readTerm_4 (d := d) (zc_termL hG hD hO (by omega) hP hm hB 200 0 s1 (Int.le_refl _) rfl h)
theorem zc_sumL {G : jv_X} (hG : G.2 = .null ∨ G.2 = .ref 1000005) {T D m : Nat} (hD : 7 ≤ D) (hO : zc_C G T 38 D m) {d : Nat} (hd : D ≤ d + 1) {s0 : jg_H} {B : Option Value → jg_H → Prop} (hP : zc_P T s0) (hm : 5 ≤ (s0 117 6).toInt + m) (hB : ∀ s', zc_E T (s0 117 6) s0 s' → B none s') :
    ∀ (n : Nat) (x : Int32) (o : Option Value) (s : jg_H), f_n o = true → 0 ≤ x.toInt → x.toInt + n = 200 → zc_E T (s0 117 6) s0 s → q_W G (d + 1) jm_Reader_readSum B 6 [some (.ref 117), some (.int x), o] [] s
  | n, x, o, s, ho, hx, hn, hE => by
    have e200 : (200 : Int32).toInt = 200 := rfl
    have hP1 := zc_PE hP hE ⟨hP.2.2.2.2.1, hP.2.2.2.2.2.1⟩
    have go : ∀ w : Int32, y_c w = 2 → y_cok w → x < 200 → ¬ s 117 4 = 16 → q_P G (d + 1) 21 [.ref 117] s (fun v t => q_W G (d + 1) jm_Reader_readSum B 52 [some (.ref 117), some (.int x), some (.int w)] (v.toList ++ []) t) := fun w hw hk hlt ht => by
      have hlt := z_lt hlt
      match n, hn with
      | 0, hn => omega
      | n + 1, hn =>
        have ep := z_p1 (a := x) (by omega)
        refine zc_next hG (by omega) hP1 (fun s1 g => ?_)
        refine t_Reader_readSum_52 (d := d) x w ?_
        have hP2 := zc_PG hP1 g
        have e6 : s1 117 6 = s0 117 6 := (zfl_6 g.1).trans hE.2.2.1
        refine hO (d + 1) hd s1 _ hP2 (by rw [e6]; exact hm) (fun s2 b => ?_)
        have hP3 := zc_PE hP2 b ⟨hP2.2.2.2.2.1, hP2.2.2.2.2.2.1⟩
        obtain ⟨w1, w2, w3⟩ := zc_add (x := w) hP (zc_bi hP hE ht g b) (b.2.2.1.trans e6) hw hk (C := fun s2 => q_W G (d + 1) jm_Reader_readSum B 6 [some (.ref 117), some (.int (x + 1)), some (.int w)] [] s2) (fun s2 hE2 => zc_sumL hG hD hO hd hP hm hB n (x + 1) _ s2 rfl (by omega) (by omega) hE2)
        exact t_Reader_readSum_56 (d := d) (T := T) hP.2.2.1 x w hP3.2.2.2.1 w1 w2 w3
    exact t_Reader_readSum_6 (d := d) x ho (fun _ => hB s hE) (fun hlt ht => go (-14) (by decide) ⟨by decide, by decide⟩ hlt (by rw [ht]; decide)) (fun _ _ _ => hB s hE) (fun hlt _ ht => go (-15) (by decide) ⟨by decide, by decide⟩ hlt (by rw [ht]; decide))
theorem zc_sum {G : jv_X} (hG : G.2 = .null ∨ G.2 = .ref 1000005) {T D m : Nat} (hD : 7 ≤ D) (hO : zc_C G T 38 D m) : zc_C G T 37 (D + 1) m := by
  intro d hd s B hP hm hB
  obtain ⟨d, rfl⟩ : ∃ e, d = e + 2 := ⟨d - 2, by omega⟩
  refine t_Reader_readSum (d := d) (hO (d + 1) (by omega) s _ hP hm (fun s1 h => ?_))
  exact t_Reader_readSum_4 (d := d) (zc_sumL hG hD hO (by omega) hP hm hB 200 0 _ s1 rfl (Int.le_refl _) rfl h)
theorem zc_claim {G : jv_X} (hG : G.2 = .null ∨ G.2 = .ref 1000005) {T D m : Nat} (hD : 7 ≤ D) (hO : zc_C G T 37 D m) (hN : zc_CO G T D m) : zc_C G T 33 (D + 1) m := by
  intro d hd s0 B hP hm hB
  obtain ⟨d, rfl⟩ : ∃ e, d = e + 2 := ⟨d - 2, by omega⟩
  refine t_Reader_readClaim (d := d) (fun _ => ?_) (fun ht => ?_)
  · refine hO (d + 1) (by omega) s0 _ hP hm (fun s hE => ?_)
    have hP1 := zc_PE hP hE ⟨hP.2.2.2.2.1, hP.2.2.2.2.2.1⟩
    have go : ∀ w : Int32, y_c w = 2 → y_cok w → ¬ s 117 4 = 16 → q_P G (d + 1) 21 [.ref 117] s (fun v t => q_W G (d + 1) jm_Reader_readClaim B 57 [some (.ref 117), some (.int w)] (v.toList ++ []) t) := fun w hw hk ht => by
      refine zc_next hG (by omega) hP1 (fun s1 g => ?_)
      refine t_Reader_readClaim_57 (d := d) w ?_
      have hP2 := zc_PG hP1 g
      have e6 : s1 117 6 = s0 117 6 := (zfl_6 g.1).trans hE.2.2.1
      refine hO (d + 1) (by omega) s1 _ hP2 (by rw [e6]; exact hm) (fun s2 b => ?_)
      have hP3 := zc_PE hP2 b ⟨hP2.2.2.2.2.1, hP2.2.2.2.2.2.1⟩
      obtain ⟨w1, w2, w3⟩ := zc_add (x := w) hP (zc_bi hP hE ht g b) (b.2.2.1.trans e6) hw hk (C := fun s2 => B none s2) (fun s2 hE2 => hB s2 hE2)
      exact t_Reader_readClaim_61 (d := d) (T := T) hP.2.2.1 w hP3.2.2.2.1 w1 w2 w3
    exact t_Reader_readClaim_18 (d := d) (fun ht => go (-12) (by decide) ⟨by decide, by decide⟩ (by rw [ht]; decide)) (fun _ _ => hB s hE) (fun _ ht => go (-13) (by decide) ⟨by decide, by decide⟩ (by rw [ht]; decide))
  · have hl : s0 117 7 = -1 := by
      by_cases q : s0 117 7 = -1
      · exact q
      · have := hP.2.2.2.2.2.2.1.2 q
        rw [ht] at this
        exact absurd this (by decide)
    exact hN (d + 1) (by omega) s0 _ hP hl (by rw [ht]; decide) hm (fun s' h => t_Reader_readClaim_13 (d := d) (hB s' h))
theorem zc_allL {G : jv_X} (hG : G.2 = .null ∨ G.2 = .ref 1000005) {T D m : Nat} (hD : 7 ≤ D) (hO : zc_C G T 33 D m) {d : Nat} (hd : D ≤ d + 1) {s0 : jg_H} {B : Option Value → jg_H → Prop} (hP : zc_P T s0) (hm : 5 ≤ (s0 117 6).toInt + m) (hB : ∀ s', zc_E T (s0 117 6) s0 s' → B none s') :
    ∀ (n : Nat) (x : Int32) (s : jg_H), 0 ≤ x.toInt → x.toInt + n = 200 → zc_E T (s0 117 6) s0 s → q_W G (d + 1) jm_Reader_readAll B 6 [some (.ref 117), some (.int x)] [] s
  | n, x, s, hx, hn, hE => by
    have e200 : (200 : Int32).toInt = 200 := rfl
    have hP1 := zc_PE hP hE ⟨hP.2.2.2.2.1, hP.2.2.2.2.2.1⟩
    refine t_Reader_readAll_6 (d := d) x (fun _ => hB s hE) (fun _ _ => hB s hE) (fun hlt ht => ?_)
    have hlt := z_lt hlt
    match n, hn with
    | 0, hn => omega
    | n + 1, hn =>
      have ep := z_p1 (a := x) (by omega)
      refine zc_next hG (by omega) hP1 (fun s1 g => ?_)
      refine t_Reader_readAll_26 (d := d) x ?_
      have hP2 := zc_PG hP1 g
      have e6 : s1 117 6 = s0 117 6 := (zfl_6 g.1).trans hE.2.2.1
      refine hO (d + 1) hd s1 _ hP2 (by rw [e6]; exact hm) (fun s2 b => ?_)
      have hP3 := zc_PE hP2 b ⟨hP2.2.2.2.2.1, hP2.2.2.2.2.2.1⟩
      obtain ⟨w1, w2, w3⟩ := zc_add (x := -10) hP (zc_bi hP hE (by rw [ht]; decide) g b) (b.2.2.1.trans e6) (by decide) ⟨by decide, by decide⟩ (C := fun s2 => q_W G (d + 1) jm_Reader_readAll B 6 [some (.ref 117), some (.int (x + 1))] [] s2) (fun s2 hE2 => zc_allL hG hD hO hd hP hm hB n (x + 1) s2 (by omega) (by omega) hE2)
      exact t_Reader_readAll_30 (d := d) (T := T) hP.2.2.1 x hP3.2.2.2.1 w1 w2 w3
theorem zc_all {G : jv_X} (hG : G.2 = .null ∨ G.2 = .ref 1000005) {T D m : Nat} (hD : 7 ≤ D) (hO : zc_C G T 33 D m) : zc_C G T 32 (D + 1) m := by
  intro d hd s B hP hm hB
  obtain ⟨d, rfl⟩ : ∃ e, d = e + 2 := ⟨d - 2, by omega⟩
  refine t_Reader_readAll (d := d) (hO (d + 1) (by omega) s _ hP hm (fun s1 h => ?_))
  exact t_Reader_readAll_4 (d := d) (zc_allL hG hD hO (by omega) hP hm hB 200 0 s1 (Int.le_refl _) rfl h)
theorem zc_someL {G : jv_X} (hG : G.2 = .null ∨ G.2 = .ref 1000005) {T D m : Nat} (hD : 7 ≤ D) (hO : zc_C G T 32 D m) {d : Nat} (hd : D ≤ d + 1) {s0 : jg_H} {B : Option Value → jg_H → Prop} (hP : zc_P T s0) (hm : 5 ≤ (s0 117 6).toInt + m) (hB : ∀ s', zc_E T (s0 117 6) s0 s' → B none s') :
    ∀ (n : Nat) (x : Int32) (s : jg_H), 0 ≤ x.toInt → x.toInt + n = 200 → zc_E T (s0 117 6) s0 s → q_W G (d + 1) jm_Reader_readSome B 6 [some (.ref 117), some (.int x)] [] s
  | n, x, s, hx, hn, hE => by
    have e200 : (200 : Int32).toInt = 200 := rfl
    have hP1 := zc_PE hP hE ⟨hP.2.2.2.2.1, hP.2.2.2.2.2.1⟩
    refine t_Reader_readSome_6 (d := d) x (fun _ => hB s hE) (fun _ _ => hB s hE) (fun hlt ht => ?_)
    have hlt := z_lt hlt
    match n, hn with
    | 0, hn => omega
    | n + 1, hn =>
      have ep := z_p1 (a := x) (by omega)
      refine zc_next hG (by omega) hP1 (fun s1 g => ?_)
      refine t_Reader_readSome_26 (d := d) x ?_
      have hP2 := zc_PG hP1 g
      have e6 : s1 117 6 = s0 117 6 := (zfl_6 g.1).trans hE.2.2.1
      refine hO (d + 1) hd s1 _ hP2 (by rw [e6]; exact hm) (fun s2 b => ?_)
      have hP3 := zc_PE hP2 b ⟨hP2.2.2.2.2.1, hP2.2.2.2.2.2.1⟩
      obtain ⟨w1, w2, w3⟩ := zc_add (x := -9) hP (zc_bi hP hE (by rw [ht]; decide) g b) (b.2.2.1.trans e6) (by decide) ⟨by decide, by decide⟩ (C := fun s2 => q_W G (d + 1) jm_Reader_readSome B 6 [some (.ref 117), some (.int (x + 1))] [] s2) (fun s2 hE2 => zc_someL hG hD hO hd hP hm hB n (x + 1) s2 (by omega) (by omega) hE2)
      exact t_Reader_readSome_30 (d := d) (T := T) hP.2.2.1 x hP3.2.2.2.1 w1 w2 w3
theorem zc_some {G : jv_X} (hG : G.2 = .null ∨ G.2 = .ref 1000005) {T D m : Nat} (hD : 7 ≤ D) (hO : zc_C G T 32 D m) : zc_C G T 31 (D + 1) m := by
  intro d hd s B hP hm hB
  obtain ⟨d, rfl⟩ : ∃ e, d = e + 2 := ⟨d - 2, by omega⟩
  refine t_Reader_readSome (d := d) (hO (d + 1) (by omega) s _ hP hm (fun s1 h => ?_))
  exact t_Reader_readSome_4 (d := d) (zc_someL hG hD hO (by omega) hP hm hB 200 0 s1 (Int.le_refl _) rfl h)
theorem zc_PO {T : Nat} {s s1 : jg_H} (hP : zc_P T s) (h5 : (s 117 6).toInt < 5) (e1 : s1 = jg_up s 117 6 ((s 117 6) + 1)) : zc_P T s1 ∧ (s1 117 6).toInt = (s 117 6).toInt + 1 := by
  obtain ⟨p1, p2, p3, p4, p5, p6, p7, p8⟩ := hP
  have ep := z_p1 (a := s 117 6) (by omega)
  have b0 : ∀ j, ¬ j = 6 → s1 117 j = s 117 j := fun j hj => by rw [e1, u_j hj]
  have b6 : s1 117 6 = s 117 6 + 1 := by rw [e1, u_hit]
  refine ⟨⟨p1, p2, p3, (b0 8 (by decide)).trans p4, by rw [b6]; omega, by rw [b6]; omega, ?_, fun l => ?_⟩, by rw [b6]; exact ep⟩
  · unfold zc_S zc_ok at *
    rw [b0 1 (by decide), b0 2 (by decide), b0 3 (by decide), b0 4 (by decide), b0 5 (by decide), b0 7 (by decide)]
    exact p7
  · rw [b0 7 (by decide)] at l
    rw [b0 2 (by decide), show s1 T 1 = s T 1 by rw [e1, u_c (by omega)]]
    exact p8 l
theorem zc_op0 {G : jv_X} {T D : Nat} (hD : 2 ≤ D) : zc_CO G T D 0 := by
  intro d hd s B hP hl ht hm hB
  obtain ⟨d, rfl⟩ : ∃ e, d = e + 2 := ⟨d - 2, by omega⟩
  have e5 : (5 : Int32).toInt = 5 := rfl
  refine t_Reader_readOpened (d := d) (fun h => absurd (z_lt h) (by omega)) (fun _ q => absurd hl q) (fun _ _ s2 e2 s3 e3 => ?_)
  subst e2 e3
  exact hB _ (zc_failE hP hl)
theorem zc_op {G : jv_X} (hG : G.2 = .null ∨ G.2 = .ref 1000005) {T D m : Nat} (hD : 8 ≤ D) (hS : zc_C G T 31 D m) (hC : zc_C G T 33 D m) (hO : zc_C G T 36 D m) : zc_CO G T (D + 1) (m + 1) := by
  intro d hd s B hP hl ht hm hB
  obtain ⟨d, rfl⟩ : ∃ e, d = e + 2 := ⟨d - 2, by omega⟩
  have e5 : (5 : Int32).toInt = 5 := rfl
  have p1 := hP.1
  have p2 := hP.2.1
  refine t_Reader_readOpened (d := d) (fun h s1 e1 => ?_) (fun _ q => absurd hl q) (fun _ _ s2 e2 s3 e3 => ?_)
  · obtain ⟨hP1, e6⟩ := zc_PO hP (by have := z_lt h; omega) e1
    have f6 : s1 117 6 = s 117 6 + 1 := by rw [e1, u_hit]
    have o6 : s 117 6 + 1 - 1 = s 117 6 := by
      apply Int32.toInt_inj.mp
      have a := z_m1 (a := s 117 6 + 1) (by rw [← f6, e6]; have := hP.2.2.2.2.1; omega)
      rw [a, ← f6, e6]
      omega
    refine zc_next hG (by omega) hP1 (fun s2 g => ?_)
    have hP2 := zc_PG hP1 g
    have g6 : s2 117 6 = s1 117 6 := zfl_6 g.1
    have un : ∀ w : Int32, ∀ s3, zc_E T (s2 117 6) s2 s3 → y_c w = 1 → y_cok w → ((s3 T 1) < 0 → ∀ s4 : jg_H, s4 = jg_up s3 117 6 ((s3 117 6) - 1) → B none s4) ∧ (¬ (s3 T 1) < 0 → (s3 T 1) < 200 → ∀ s4 : jg_H, s4 = jg_up s3 (T + 1) (s3 T 1).toNatClampNeg w → ∀ s5 : jg_H, s5 = jg_up s4 T 1 ((s4 T 1) + 1) → ∀ s6 : jg_H, s6 = jg_up s5 117 6 ((s5 117 6) - 1) → B none s6) ∧ (¬ (s3 T 1) < 0 → ¬ (s3 T 1) < 200 → ∀ s4 : jg_H, s4 = jg_up s3 117 6 ((s3 117 6) - 1) → B none s4) := fun w s3 b hw hk =>
      zc_add (x := w) hP (zc_un hP hl ht e1 g b) rfl hw hk (C := fun t => ∀ s6 : jg_H, s6 = jg_up t 117 6 ((t 117 6) - 1) → B none s6) (fun t hE s6 e => by
        have := zc_set (o' := s 117 6) ⟨p1, p2⟩ hE
        rw [show s 117 6 = t 117 6 - 1 by rw [hE.2.2.1, b.2.2.1, g6, f6, o6]] at this
        rw [e]
        refine hB _ ?_
        rw [show s 117 6 = t 117 6 - 1 by rw [hE.2.2.1, b.2.2.1, g6, f6, o6]]
        exact this)
    refine t_Reader_readOpened_32 (d := d) (s 117 4) (fun _ _ => ?_) (fun _ _ => ?_) (fun _ => ?_)
    · refine hO (d + 1) (by omega) s2 _ hP2 (by rw [g6, e6]; omega) (fun s3 b => ?_)
      have hP3 := zc_PE hP2 b ⟨hP2.2.2.2.2.1, hP2.2.2.2.2.2.1⟩
      obtain ⟨w1, w2, w3⟩ := un (-17) s3 b (by decide) ⟨by decide, by decide⟩
      exact t_Reader_readOpened_77 (d := d) (T := T) hP.2.2.1 (s 117 4) hP3.2.2.2.1 w1 w2 w3
    · refine hC (d + 1) (by omega) s2 _ hP2 (by rw [g6, e6]; omega) (fun s3 b => ?_)
      have hP3 := zc_PE hP2 b ⟨hP2.2.2.2.2.1, hP2.2.2.2.2.2.1⟩
      obtain ⟨w1, w2, w3⟩ := un (-11) s3 b (by decide) ⟨by decide, by decide⟩
      exact t_Reader_readOpened_61 (d := d) (T := T) hP.2.2.1 (s 117 4) hP3.2.2.2.1 w1 w2 w3
    · refine hS (d + 1) (by omega) s2 _ hP2 (by rw [g6, e6]; omega) (fun s3 b => ?_)
      have hP3 := zc_PE hP2 b ⟨hP2.2.2.2.2.1, hP2.2.2.2.2.2.1⟩
      refine t_Reader_readOpened_42 (d := d) (s 117 4) ?_
      have fin : ∀ s4, zc_G s3 s4 → q_W G (d + 1) jm_Reader_readOpened B 48 [some (.ref 117), some (.int (s 117 4))] [] s4 := fun s4 g4 => by
        refine t_Reader_readOpened_48 (d := d) (s 117 4) (fun s5 e5 => ?_)
        have q : s4 117 6 - 1 = s 117 6 := by rw [zfl_6 g4.1, b.2.2.1, g6, f6, o6]
        rw [q] at e5
        rw [e5]
        exact hB _ (zc_set ⟨p1, p2⟩ (zc_pa hP hl e1 g b g4 rfl))
      obtain ⟨d, rfl⟩ : ∃ e, d = e + 1 := ⟨d - 1, by omega⟩
      refine t_Reader_expect (d := d) 41 (fun _ hf s4 e4 => ?_) (fun _ hf s4 e4 s5 e5 => ?_) (fun h => ?_)
      · refine fin _ ?_
        rw [e4]
        exact zc_dead (zfr_up zfr_refl (by decide)) (by (simp (disch := omega) only [u_hit, u_c, u_j]); exact hf) u_hit
      · refine fin _ ?_
        rw [e5, e4]
        refine zc_dead (zfr_up (zfr_up zfr_refl (by decide)) (by decide)) ?_ u_hit
        (simp (disch := omega) only [u_hit, u_c, u_j])
        exact z_nm1 (hP3.2.2.2.2.2.2.1.1 hf).1
      · exact zc_next hG (by omega) hP3 (fun s4 g4 => t_Reader_expect_12 (d := d) 41 (fin s4 g4))
  · subst e2 e3
    exact hB _ (zc_failE hP hl)
/-- all of them, m openers deep -/
theorem zc_lv {G : jv_X} (hG : G.2 = .null ∨ G.2 = .ref 1000005) {T : Nat} : ∀ m : Nat, zc_C G T 31 (14 + 7 * m) m ∧ zc_C G T 33 (14 + 7 * m) m ∧ zc_C G T 36 (14 + 7 * m) m := by
  have up : ∀ {k D D' m : Nat}, D ≤ D' → zc_C G T k D m → zc_C G T k D' m := fun h c d hd => c d (by omega)
  have all : ∀ (D m : Nat), 7 ≤ D → zc_CO G T D m → zc_C G T 31 (D + 6) m ∧ zc_C G T 33 (D + 6) m ∧ zc_C G T 36 (D + 6) m := fun D m hD c0 => by
    have c1 := zc_one hG hD c0
    have c2 := zc_term hG (by omega) c1
    have c3 := zc_sum hG (by omega) c2
    have c4 := zc_claim hG (by omega) c3 (fun d hd => c0 d (by omega))
    have c5 := zc_all hG (by omega) c4
    have c6 := zc_some hG (by omega) c5
    exact ⟨up (by omega) c6, up (by omega) c4, up (by omega) c1⟩
  intro m
  induction m with
  | zero =>
    obtain ⟨a, b, c⟩ := all 7 0 (by omega) (zc_op0 (by omega))
    exact ⟨up (by omega) a, up (by omega) b, up (by omega) c⟩
  | succ m ih =>
    obtain ⟨a, b, c⟩ := ih
    obtain ⟨a, b, c⟩ := all _ (m + 1) (by omega) (zc_op hG (by omega) a b c)
    exact ⟨up (by omega) a, up (by omega) b, up (by omega) c⟩
