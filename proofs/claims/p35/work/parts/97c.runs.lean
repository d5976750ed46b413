/-! runs of a text's code: how high the row of values stands -/
def y_run (y : Nat → Nat) : Nat → Nat → Nat → Nat → Prop
  | 0, _, h, h' => h' = h
  | n + 1, c, h, h' => (y c = 0 ∧ y_run y n (c + 1) (h + 1) h') ∨ (y c = 1 ∧ 1 ≤ h ∧ y_run y n (c + 1) h h') ∨ (y c = 2 ∧ 2 ≤ h ∧ y_run y n (c + 1) (h - 1) h')
theorem y_app {y : Nat → Nat} {m h1 h2 : Nat} : ∀ (n c h : Nat), y_run y n c h h1 → y_run y m (c + n) h1 h2 → y_run y (n + m) c h h2
  | 0, c, h, a, b => by
    have a : h1 = h := a
    subst a
    rw [Nat.zero_add]
    exact b
  | n + 1, c, h, a, b => by
    have b' : y_run y m (c + 1 + n) h1 h2 := by rw [show c + 1 + n = c + (n + 1) by omega]; exact b
    rw [show n + 1 + m = (n + m) + 1 by omega]
    rcases a with ⟨e, a⟩ | ⟨e, f, a⟩ | ⟨e, f, a⟩
    · exact Or.inl ⟨e, y_app n _ _ a b'⟩
    · exact Or.inr (Or.inl ⟨e, f, y_app n _ _ a b'⟩)
    · exact Or.inr (Or.inr ⟨e, f, y_app n _ _ a b'⟩)
theorem y_eq {y y' : Nat → Nat} {h' : Nat} : ∀ (n c h : Nat), (∀ i, c ≤ i → i < c + n → y' i = y i) → y_run y n c h h' → y_run y' n c h h'
  | 0, _, _, _, a => a
  | n + 1, c, h, e, a => by
    have e0 := e c (Nat.le_refl _) (by omega)
    have e' : ∀ i, c + 1 ≤ i → i < c + 1 + n → y' i = y i := fun i h1 h2 => e i (by omega) (by omega)
    rcases a with ⟨q, a⟩ | ⟨q, f, a⟩ | ⟨q, f, a⟩
    · exact Or.inl ⟨e0.trans q, y_eq n _ _ e' a⟩
    · exact Or.inr (Or.inl ⟨e0.trans q, f, y_eq n _ _ e' a⟩)
    · exact Or.inr (Or.inr ⟨e0.trans q, f, y_eq n _ _ e' a⟩)
/-- an expression's code: it raises the row by one, whatever stands below -/
def y_E (y : Nat → Nat) (c n : Nat) : Prop := ∀ h, y_run y n c h (h + 1)
theorem y_Eq {y y' : Nat → Nat} {c n : Nat} (e : ∀ i, c ≤ i → i < c + n → y' i = y i) (a : y_E y c n) : y_E y' c n := fun h => y_eq n c h e (a h)
theorem y_push {y : Nat → Nat} {c : Nat} (e : y c = 0) : y_E y c 1 := fun _ => Or.inl ⟨e, rfl⟩
theorem y_un {y : Nat → Nat} {c n : Nat} (a : y_E y c n) (e : y (c + n) = 1) : y_E y c (n + 1) := fun h => y_app n c h (a h) (Or.inr (Or.inl ⟨e, Nat.le_add_left 1 h, rfl⟩))
theorem y_bin {y : Nat → Nat} {c n m : Nat} (a : y_E y c n) (b : y_E y (c + n) m) (e : y (c + n + m) = 2) : y_E y c (n + m + 1) := fun h =>
  y_app (n + m) c h (y_app n c h (a h) (b (h + 1))) (Or.inr (Or.inr ⟨by rw [← Nat.add_assoc]; exact e, by omega, rfl⟩))
/-! frames: what lies outside W stays -/
def zfr (W : Nat → Nat → Prop) (s s' : jg_H) : Prop := ∀ c j, ¬ W c j → s' c j = s c j
theorem zfr_refl {W : Nat → Nat → Prop} {s : jg_H} : zfr W s s := fun _ _ _ => rfl
theorem zfr_up {W : Nat → Nat → Prop} {s s' : jg_H} {c j : Nat} {v : Int32} (h : zfr W s s') (w : W c j) : zfr W s (jg_up s' c j v) := fun d i n => (u_r (fun h1 h2 => n (by rw [h1, h2]; exact w))).trans (h d i n)
theorem zfr_trans {W : Nat → Nat → Prop} {s s' t : jg_H} (h : zfr W s s') (h' : zfr W s' t) : zfr W s t := fun d i n => (h' d i n).trans (h d i n)
theorem zfr_sub {W W' : Nat → Nat → Prop} {s s' : jg_H} (hW : ∀ c j, W c j → W' c j) (h : zfr W s s') : zfr W' s s' := fun d i n => h d i (fun w => n (hW d i w))
/-! numbers -/
theorem z_p1 {a : Int32} (h : a.toInt < 2147483647) : (a + 1).toInt = a.toInt + 1 := by
  have := i_b a
  ((try simp only [i_lt, i_le, i_eq, i_in, i_cn, Int32.toInt_add, Int32.toInt_sub, Int32.toInt_mul, Int32.toInt_neg, Int32.reduceToInt, Int.bmod_add_bmod, Int.add_bmod_bmod, Int.bmod_sub_bmod, Int.sub_bmod_bmod, Int.bmod_mul_bmod, Int.mul_bmod_bmod, Int.bmod_neg_bmod, Nat.reducePow, Int.reduceBmod, Int.reduceNeg, Int.reduceMul, Int.reduceAdd, Int.reduceSub, not_true_eq_false, not_false_eq_true] at *) <;> (try simp (disch := omega) only [i_bm'] at *) <;> omega)
theorem z_m1 {a : Int32} (h : -2147483648 < a.toInt) : (a - 1).toInt = a.toInt - 1 := by
  have := i_b a
  ((try simp only [i_lt, i_le, i_eq, i_in, i_cn, Int32.toInt_add, Int32.toInt_sub, Int32.toInt_mul, Int32.toInt_neg, Int32.reduceToInt, Int.bmod_add_bmod, Int.add_bmod_bmod, Int.bmod_sub_bmod, Int.sub_bmod_bmod, Int.bmod_mul_bmod, Int.mul_bmod_bmod, Int.bmod_neg_bmod, Nat.reducePow, Int.reduceBmod, Int.reduceNeg, Int.reduceMul, Int.reduceAdd, Int.reduceSub, not_true_eq_false, not_false_eq_true] at *) <;> (try simp (disch := omega) only [i_bm'] at *) <;> omega)
theorem z_sub {a b : Int32} (h1 : 0 ≤ a.toInt) (h2 : 0 ≤ b.toInt) : (a - b).toInt = a.toInt - b.toInt := by
  have := i_b a
  have := i_b b
  ((try simp only [i_lt, i_le, i_eq, i_in, i_cn, Int32.toInt_add, Int32.toInt_sub, Int32.toInt_mul, Int32.toInt_neg, Int32.reduceToInt, Int.bmod_add_bmod, Int.add_bmod_bmod, Int.bmod_sub_bmod, Int.sub_bmod_bmod, Int.bmod_mul_bmod, Int.mul_bmod_bmod, Int.bmod_neg_bmod, Nat.reducePow, Int.reduceBmod, Int.reduceNeg, Int.reduceMul, Int.reduceAdd, Int.reduceSub, not_true_eq_false, not_false_eq_true] at *) <;> (try simp (disch := omega) only [i_bm'] at *) <;> omega)
theorem z_lt {a b : Int32} (h : a < b) : a.toInt < b.toInt := Int32.lt_iff_toInt_lt.mp h
theorem z_nlt {a b : Int32} (h : ¬ a < b) : b.toInt ≤ a.toInt := Int.not_lt.mp (fun q => h (Int32.lt_iff_toInt_lt.mpr q))
theorem z_lt' {a b : Int32} (h : a.toInt < b.toInt) : a < b := Int32.lt_iff_toInt_lt.mpr h
theorem z_le {a b : Int32} (h : a ≤ b) : a.toInt ≤ b.toInt := Int32.le_iff_toInt_le.mp h
theorem z_nle {a b : Int32} (h : ¬ a ≤ b) : b.toInt < a.toInt := Int.not_le.mp (fun q => h (Int32.le_iff_toInt_le.mpr q))
theorem z_ne {a b : Int32} (h : ¬ a.toInt = b.toInt) : ¬ a = b := fun e => h (by rw [e])
/-! the String of the words, on the JDK's own methods -/
theorem zs_length {G : jv_X} {d : Nat} {s : jg_H} {B : Option Value → jg_H → Prop} (h : B (some (.int 120)) s) : q_P G (d + 2) 12 [.ref 1000002] s B := by
  refine q_in (M := jm_JS_length) rfl (Nat.le_of_ble_eq_true rfl) (ls := [some (.ref 1000002)]) rfl ?_
  refine q_aload_n (pc' := 1) ja_JS_length_0 rfl rfl ?_
  refine q_getv (pc' := 4) (v := 1000004) ja_JS_length_1 rfl ⟨rfl, Or.inr rfl⟩ rfl rfl ?_
  refine q_clen (pc' := 5) (v := 120) ja_JS_length_4 rfl (Or.inr rfl) (by decide +kernel) ?_
  refine q_aload_n (pc' := 6) ja_JS_length_5 rfl rfl ?_
  refine q_virs (pc' := 9) ja_JS_length_6 rfl rfl (by decide) (Or.inr rfl) rfl ?_
  refine q_in (M := jm_JS_coder) rfl (Nat.le_of_ble_eq_true rfl) (ls := [some (.ref 1000002)]) rfl ?_
  refine q_gets0 (pc' := 3) ja_JS_coder_0 rfl rfl ?_
  refine q_if_eq (pc' := 6) ja_JS_coder_3 rfl (fun h => absurd h (by decide)) (fun _ => ?_)
  refine q_aload_n (pc' := 7) ja_JS_coder_6 rfl rfl ?_
  refine q_getc (pc' := 10) ja_JS_coder_7 rfl ⟨rfl, Or.inr rfl⟩ (by decide) ?_
  refine q_goto ja_JS_coder_10 ?_
  refine q_iret ja_JS_coder_14 rfl (by decide) ?_
  show q_W G (d + 1) jm_JS_length B 9 [some (.ref 1000002)] [.int 0, .int 120] s
  refine q_ishr (pc' := 10) ja_JS_length_9 rfl ?_
  rw [show (120 : Int32) >>> ((0 : Int32) &&& 31) = 120 from by decide +kernel]
  exact q_iret ja_JS_length_10 rfl (by decide) h
theorem zs_char : ∀ n, n < 120 → jv_rn .char (((((jv_sb 1000004).getD n 0) &&& 255).toUInt32 % 65536).toInt32) = true := by decide +kernel
theorem zs_cat {v : Value} (h : v = .null ∨ v = .ref 1000005) : v.category = 1 ∧ jv_c1 v = true := by
  rcases h with rfl | rfl <;> exact ⟨rfl, rfl⟩
theorem zs_charAt {G : jv_X} (hG : G.2 = .null ∨ G.2 = .ref 1000005) {d : Nat} {s : jg_H} {B : Option Value → jg_H → Prop} {x : Int32} (h0 : 0 ≤ x.toInt) (h1 : x.toInt < 120) (h : ∀ y, B (some (.int y)) s) : q_P G (d + 4) 14 [.ref 1000002, .int x] s B := by
  have hx : jv_in x 120 = true := by rw [i_in]; omega
  have e0 : (0 : Int32).toInt = 0 := rfl
  have e120 : (120 : Int32).toInt = 120 := rfl
  refine q_in (M := jm_JS_charAt) rfl (Nat.le_of_ble_eq_true rfl) (ls := [some (.ref 1000002), some (.int x)]) rfl ?_
  refine q_aload_n (pc' := 1) ja_JS_charAt_0 rfl rfl ?_
  refine q_virs (pc' := 4) ja_JS_charAt_1 rfl rfl (by decide) (Or.inr rfl) rfl ?_
  refine q_in (M := jm_JS_isLatin1) rfl (Nat.le_of_ble_eq_true rfl) (ls := [some (.ref 1000002)]) rfl ?_
  refine q_gets0 (pc' := 3) ja_JS_isLatin1_0 rfl rfl ?_
  refine q_if_eq (pc' := 6) ja_JS_isLatin1_3 rfl (fun h => absurd h (by decide)) (fun _ => ?_)
  refine q_aload_n (pc' := 7) ja_JS_isLatin1_6 rfl rfl ?_
  refine q_getc (pc' := 10) ja_JS_isLatin1_7 rfl ⟨rfl, Or.inr rfl⟩ (by decide) ?_
  refine q_if_ne (pc' := 13) ja_JS_isLatin1_10 rfl (fun h => absurd rfl h) (fun _ => ?_)
  refine q_iconst (pc' := 14) ja_JS_isLatin1_13 rfl 1 (by decide) ?_
  refine q_goto ja_JS_isLatin1_14 ?_
  refine q_iret ja_JS_isLatin1_18 rfl (by decide) ?_
  show q_W G (d + 3) jm_JS_charAt B 4 [some (.ref 1000002), some (.int x)] [.int 1] s
  refine q_if_eq (pc' := 7) ja_JS_charAt_4 rfl (fun h => absurd h (by decide)) (fun _ => ?_)
  refine q_aload_n (pc' := 8) ja_JS_charAt_7 rfl rfl ?_
  refine q_getv (pc' := 11) (v := 1000004) ja_JS_charAt_8 rfl ⟨rfl, Or.inr rfl⟩ rfl rfl ?_
  refine q_iload_n (pc' := 12) ja_JS_charAt_11 rfl rfl ?_
  refine q_stat (pc' := 15) ja_JS_charAt_12 rfl (by decide) rfl (by decide) ?_
  refine q_in (M := jm_JL_charAt) rfl (Nat.le_of_ble_eq_true rfl) (ls := [some (.ref 1000004), some (.int x)]) rfl ?_
  refine q_iload_n (pc' := 1) ja_JL_charAt_0 rfl rfl ?_
  refine q_aload_n (pc' := 2) ja_JL_charAt_1 rfl rfl ?_
  refine q_clen (pc' := 3) (v := 120) ja_JL_charAt_2 rfl (Or.inr rfl) (by decide +kernel) ?_
  refine q_stat (pc' := 6) ja_JL_charAt_3 rfl (by decide) rfl (by decide) ?_
  refine q_in (M := jm_JS_checkIndex) rfl (Nat.le_of_ble_eq_true rfl) (ls := [some (.int x), some (.int 120)]) rfl ?_
  refine q_iload_n (pc' := 1) ja_JS_checkIndex_0 rfl rfl ?_
  refine q_iload_n (pc' := 2) ja_JS_checkIndex_1 rfl rfl ?_
  refine q_gets1 (pc' := 5) ja_JS_checkIndex_2 rfl rfl ?_
  refine q_stat (pc' := 8) ja_JS_checkIndex_5 rfl (by decide) rfl (by decide) ?_
  have key : q_P G (d + 1) 18 [.int x, .int 120, G.2] s (fun v s' => v = some (.int x) ∧ s' = s) := by
    rcases hG with hG | hG <;> rw [hG]
    · refine q_in (M := jm_JP_checkIndex) rfl (Nat.le_of_ble_eq_true rfl) (ls := [some (.int x), some (.int 120), some .null]) rfl ?_
      refine q_iload_n (pc' := 1) ja_JP_checkIndex_0 rfl rfl ?_
      refine q_if_lt (pc' := 4) ja_JP_checkIndex_1 rfl (fun h => absurd (z_lt h) (by omega)) (fun _ => ?_)
      refine q_iload_n (pc' := 5) ja_JP_checkIndex_4 rfl rfl ?_
      refine q_iload_n (pc' := 6) ja_JP_checkIndex_5 rfl rfl ?_
      refine q_ic_lt (pc' := 9) ja_JP_checkIndex_6 rfl (fun _ => ?_) (fun h => absurd (z_nlt h) (by omega))
      refine q_iload_n (pc' := 17) ja_JP_checkIndex_16 rfl rfl ?_
      exact q_iret ja_JP_checkIndex_17 rfl rfl ⟨rfl, rfl⟩
    · refine q_in (M := jm_JP_checkIndex) rfl (Nat.le_of_ble_eq_true rfl) (ls := [some (.int x), some (.int 120), some (.ref 1000005)]) rfl ?_
      refine q_iload_n (pc' := 1) ja_JP_checkIndex_0 rfl rfl ?_
      refine q_if_lt (pc' := 4) ja_JP_checkIndex_1 rfl (fun h => absurd (z_lt h) (by omega)) (fun _ => ?_)
      refine q_iload_n (pc' := 5) ja_JP_checkIndex_4 rfl rfl ?_
      refine q_iload_n (pc' := 6) ja_JP_checkIndex_5 rfl rfl ?_
      refine q_ic_lt (pc' := 9) ja_JP_checkIndex_6 rfl (fun _ => ?_) (fun h => absurd (z_nlt h) (by omega))
      refine q_iload_n (pc' := 17) ja_JP_checkIndex_16 rfl rfl ?_
      exact q_iret ja_JP_checkIndex_17 rfl rfl ⟨rfl, rfl⟩
  refine q_mono (fun v s' hv => ?_) key
  obtain ⟨rfl, rfl⟩ := hv
  show q_W G (d + 1) jm_JS_checkIndex _ 8 [some (.int x), some (.int 120)] [.int x] s'
  refine q_pop (pc' := 9) ja_JS_checkIndex_8 rfl rfl ?_
  refine q_vret ja_JS_checkIndex_9 rfl ?_
  show q_W G (d + 2) jm_JL_charAt _ 6 [some (.ref 1000004), some (.int x)] [] s'
  refine q_aload_n (pc' := 7) ja_JL_charAt_6 rfl rfl ?_
  refine q_iload_n (pc' := 8) ja_JL_charAt_7 rfl rfl ?_
  refine q_cald (pc' := 9) ja_JL_charAt_8 rfl (Or.inr rfl) hx ?_
  refine q_sipush (pc' := 12) ja_JL_charAt_9 rfl 255 (by decide) ?_
  refine q_iand (pc' := 13) ja_JL_charAt_12 rfl ?_
  refine q_i2c (pc' := 14) ja_JL_charAt_13 rfl ?_
  refine q_iret ja_JL_charAt_14 rfl (zs_char _ (by rw [i_cn]; omega)) ?_
  show q_W G (d + 3) jm_JS_charAt B 15 [some (.ref 1000002), some (.int x)] [.int _] s'
  exact q_iret ja_JS_charAt_15 rfl (zs_char _ (by rw [i_cn]; omega)) (h _)
/-! the class's reader: one token -/
theorem zs_57 {G : jv_X} (hG : G.2 = .null ∨ G.2 = .ref 1000005) {d : Nat} {B : Option Value → jg_H → Prop} {s : jg_H} (x1 x2 x3 x4 : Int32) (h0 : 0 ≤ x4.toInt) (h1 : x4.toInt < 120) (h : ∀ y, B (some (.int y)) s)
    (ih : q_W G (d + 4) jm_Reader_isKnown B 2 [some (.ref 117), some (.int x1), some (.int (x2 + 1)), some (.int x3), some (.int x4)] [] s) :
    q_P G (d + 4) 12 [.ref 1000002] s (fun v t => q_W G (d + 4) jm_Reader_isKnown B 57 [some (.ref 117), some (.int x1), some (.int x2), some (.int x3), some (.int x4)] (v.toList ++ [.int x4]) t) := by
  refine zs_length (d := d + 2) ?_
  show q_W G (d + 4) jm_Reader_isKnown B 57 [some (.ref 117), some (.int x1), some (.int x2), some (.int x3), some (.int x4)] [.int 120, .int x4] s
  refine t_Reader_isKnown_57 (d := d + 3) x1 x2 x3 x4 x4 120 (fun _ => h 0) (fun _ => ?_)
  refine zs_charAt hG (d := d) h0 h1 (fun y => ?_)
  show q_W G (d + 4) jm_Reader_isKnown B 67 [some (.ref 117), some (.int x1), some (.int x2), some (.int x3), some (.int x4)] [.int y] s
  exact t_Reader_isKnown_67 (d := d + 3) x1 x2 x3 x4 y (fun _ => ih) (fun _ => h 0)
theorem zs_known2 {G : jv_X} (hG : G.2 = .null ∨ G.2 = .ref 1000005) {d : Nat} {B : Option Value → jg_H → Prop} {s : jg_H} (x1 : Int32) (hx0 : 0 ≤ x1.toInt) (hx1 : x1.toInt < 15) (h : ∀ y, B (some (.int y)) s) :
    ∀ (m : Nat) (x2 : Int32) (o3 o4 : Option Value), f_n o3 = true → f_n o4 = true → 0 ≤ x2.toInt → x2.toInt + m = 8 → q_W G (d + 4) jm_Reader_isKnown B 2 [some (.ref 117), some (.int x1), some (.int x2), o3, o4] [] s
  | 0, x2, o3, o4, g3, g4, h0, hm => by
    have e8 : (8 : Int32).toInt = 8 := rfl
    refine t_Reader_isKnown_2 (d := d + 3) x1 x2 g3 g4 (fun _ => h 1) ?_ ?_ ?_ ?_ ?_ ?_ ?_ ?_ ?_ ?_ <;> (intro q; exact absurd (z_lt q) (by omega))
  | m + 1, x2, o3, o4, g3, g4, h0, hm => by
    have e8 : (8 : Int32).toInt = 8 := rfl
    have eb : ((8 : Int32) * x1 + x2).toInt = 8 * x1.toInt + x2.toInt := by clear h; ((try simp only [i_lt, i_le, i_eq, i_in, i_cn, Int32.toInt_add, Int32.toInt_sub, Int32.toInt_mul, Int32.toInt_neg, Int32.reduceToInt, Int.bmod_add_bmod, Int.add_bmod_bmod, Int.bmod_sub_bmod, Int.sub_bmod_bmod, Int.bmod_mul_bmod, Int.mul_bmod_bmod, Int.bmod_neg_bmod, Nat.reducePow, Int.reduceBmod, Int.reduceNeg, Int.reduceMul, Int.reduceAdd, Int.reduceSub, not_true_eq_false, not_false_eq_true] at *) <;> (try simp (disch := omega) only [i_bm'] at *) <;> omega)
    have e1 := z_p1 (a := x2) (by omega)
    have go : ∀ x3 : Int32, q_P G (d + 4) 12 [.ref 1000002] s (fun v t => q_W G (d + 4) jm_Reader_isKnown B 57 [some (.ref 117), some (.int x1), some (.int x2), some (.int x3), some (.int ((8 * x1) + x2))] (v.toList ++ [.int ((8 * x1) + x2)]) t) := fun x3 =>
      zs_57 hG x1 x2 x3 _ (by omega) (by omega) h (zs_known2 hG x1 hx0 hx1 h m (x2 + 1) _ _ rfl rfl (by omega) (by omega))
    exact t_Reader_isKnown_2 (d := d + 3) x1 x2 g3 g4 (fun _ => h 1) (fun _ _ _ => h 0) (fun _ _ _ => go _) (fun _ _ _ _ => h 0) (fun _ _ _ _ => go _) (fun _ _ _ _ _ => h 0) (fun _ _ _ _ _ => go _) (fun _ _ _ _ _ _ => h 0) (fun _ _ _ _ _ _ => go _) (fun _ _ _ _ _ _ => h 0) (fun _ _ _ _ _ _ => go _)
theorem zs_known {G : jv_X} (hG : G.2 = .null ∨ G.2 = .ref 1000005) {d : Nat} {B : Option Value → jg_H → Prop} {s : jg_H} (x1 : Int32) (hx0 : 0 ≤ x1.toInt) (hx1 : x1.toInt < 15) (h : ∀ y, B (some (.int y)) s) : q_P G (d + 5) 25 [.ref 117, .int x1] s B :=
  t_Reader_isKnown (d := d + 3) x1 (zs_known2 hG x1 hx0 hx1 h 8 0 _ _ rfl rfl (Int.le_refl _) rfl)
