/-! rows for walking a method of the small machine over the heap of fixed places -/
def q_W (G : jv_X) (d : Nat) (M : jv_MI) (B : Option Value → jg_H → Prop) (pc : Nat) (ls : jv_L) (st : List Value) (s : jg_H) : Prop := jv_We jg_O G (jv_wp jg_O G d) M 176 9491 0 0 B pc ls st s
def q_P (G : jv_X) (d k : Nat) (as : List Value) (s : jg_H) (B : Option Value → jg_H → Prop) : Prop := jv_wp jg_O G d k 0 0 as s B
theorem q_go {G : jv_X} {d : Nat} {M : jv_MI} {B : Option Value → jg_H → Prop} {pc pc' : Nat} {ls ls' : jv_L} {st st' : List Value} {s s' : jg_H} {e : Jvm.ClassFile.Instr × Nat × Nat × Nat × Nat × Nat × Int} (ha : jv_at M.2.2.2.2.2.2 pc = some e) (hn : jv_nxt jg_O G M (pc, e) ls st s = some (.inl (pc', ls', st', s'))) (k : q_W G d M B pc' ls' st' s') : q_W G d M B pc ls st s := by
  refine jv_We_step ?_
  unfold jv_stp
  simp only [ha, hn]
  exact ⟨Nat.le_refl _, Nat.le_refl _, k⟩
theorem q_re {G : jv_X} {d : Nat} {M : jv_MI} {B : Option Value → jg_H → Prop} {pc : Nat} {ls : jv_L} {st : List Value} {s : jg_H} {v : Option Value} {e : Jvm.ClassFile.Instr × Nat × Nat × Nat × Nat × Nat × Int} (ha : jv_at M.2.2.2.2.2.2 pc = some e) (hn : jv_nxt jg_O G M (pc, e) ls st s = some (.inr (.inl v))) (k : B v s) : q_W G d M B pc ls st s := by
  refine jv_We_step ?_
  unfold jv_stp
  simp only [ha, hn]
  exact ⟨rfl, rfl, k⟩
theorem q_ca {G : jv_X} {d : Nat} {M : jv_MI} {B : Option Value → jg_H → Prop} {pc pc' y : Nat} {ls : jv_L} {st as r : List Value} {s : jg_H} {e : Jvm.ClassFile.Instr × Nat × Nat × Nat × Nat × Nat × Int} (ha : jv_at M.2.2.2.2.2.2 pc = some e) (hn : jv_nxt jg_O G M (pc, e) ls st s = some (.inr (.inr (y, pc', as, r)))) (k : q_P G d y as s (fun v s' => q_W G d M B pc' ls (v.toList ++ r) s')) : q_W G d M B pc ls st s := by
  refine jv_We_step ?_
  unfold jv_stp
  simp only [ha, hn]
  exact ⟨0, 0, Nat.le_refl _, Nat.le_refl _, k⟩
/-- a method's body -/
theorem q_in {G : jv_X} {d k : Nat} {M : jv_MI} {as : List Value} {s : jg_H} {B : Option Value → jg_H → Prop} {ls : jv_L} (hM : jv_P[k]? = some M) (hl : (jv_sl as).length ≤ M.2.2.2.1) (he : jv_ent M.2.2.2.1 as = ls) (h : q_W G d M B 0 ls [] s) : q_P G (d + 1) k as s B := by
  subst he
  exact ⟨M, hM, hl, h⟩
theorem q_mono {G : jv_X} {d k : Nat} {as : List Value} {s : jg_H} {B B' : Option Value → jg_H → Prop} (hB : ∀ v s', B v s' → B' v s') (h : q_P G d k as s B) : q_P G d k as s B' := jv_wp_mono _ _ _ _ _ _ _ _ hB h
theorem q_up {G : jv_X} {d k : Nat} {as : List Value} {s : jg_H} {B : Option Value → jg_H → Prop} (n : Nat) (h : q_P G d k as s B) : q_P G (d + n) k as s B := by
  induction n with
  | zero => exact h
  | succ n ih => exact jv_wp_up _ _ _ _ _ _ _ ih
section
variable {G : jv_X} {d : Nat} {M : jv_MI} {B : Option Value → jg_H → Prop} {pc pc' n a b t u : Nat} {z : Int} {ls ls' : jv_L} {st r : List Value} {s : jg_H}
theorem q_iconst {w : Int} (ha : jv_at M.2.2.2.2.2.2 pc = some (.iconst w, n, a, b, t, u, z)) (hp : pc + n = pc') (v : Int32) (hv : Int32.ofInt z = v) (k : q_W G d M B pc' ls (.int v :: st) s) : q_W G d M B pc ls st s := by
  subst hp hv
  exact q_go ha rfl k
theorem q_bipush {w : Int} (ha : jv_at M.2.2.2.2.2.2 pc = some (.bipush w, n, a, b, t, u, z)) (hp : pc + n = pc') (v : Int32) (hv : Int32.ofInt z = v) (k : q_W G d M B pc' ls (.int v :: st) s) : q_W G d M B pc ls st s := by
  subst hp hv
  exact q_go ha rfl k
theorem q_sipush {w : Int} (ha : jv_at M.2.2.2.2.2.2 pc = some (.sipush w, n, a, b, t, u, z)) (hp : pc + n = pc') (v : Int32) (hv : Int32.ofInt z = v) (k : q_W G d M B pc' ls (.int v :: st) s) : q_W G d M B pc ls st s := by
  subst hp hv
  exact q_go ha rfl k
theorem q_ldcw {w : Nat} (ha : jv_at M.2.2.2.2.2.2 pc = some (.ldc_w w, n, a, b, t, u, z)) (hp : pc + n = pc') (v : Int32) (hv : Int32.ofInt z = v) (k : q_W G d M B pc' ls (.int v :: st) s) : q_W G d M B pc ls st s := by
  subst hp hv
  exact q_go ha rfl k
theorem q_ldci {w : Nat} (ha : jv_at M.2.2.2.2.2.2 pc = some (.ldc w, n, a, b, t, u, z)) (hp : pc + n = pc') (h0 : a = 0) (v : Int32) (hv : Int32.ofInt z = v) (k : q_W G d M B pc' ls (.int v :: st) s) : q_W G d M B pc ls st s := by
  subst hp hv
  exact q_go ha (by simp only [jv_nxt, if_pos h0]; rfl) k
theorem q_ldcs {w : Nat} (ha : jv_at M.2.2.2.2.2.2 pc = some (.ldc w, n, a, b, t, u, z)) (hp : pc + n = pc') (h0 : a = 1) (v : Nat) (hv : 1000000 + u = v) (k : q_W G d M B pc' ls (.ref v :: st) s) : q_W G d M B pc ls st s := by
  subst hp hv
  exact q_go ha (by simp only [jv_nxt, if_neg (show ¬ a = 0 by omega)]; rfl) k
theorem q_ldc2 {w : Nat} (ha : jv_at M.2.2.2.2.2.2 pc = some (.ldc2_w w, n, a, b, t, u, z)) (hp : pc + n = pc') (v : Int64) (hv : Int64.ofInt z = v) (k : q_W G d M B pc' ls (.long v :: st) s) : q_W G d M B pc ls st s := by
  subst hp hv
  exact q_go ha rfl k
theorem q_iload {w : Nat} (ha : jv_at M.2.2.2.2.2.2 pc = some (.iload w, n, a, b, t, u, z)) (hp : pc + n = pc') {x : Int32} (hl : ls[w]? = some (some (.int x))) (k : q_W G d M B pc' ls (.int x :: st) s) : q_W G d M B pc ls st s := by
  subst hp
  exact q_go ha (by simp only [jv_nxt, jv_ild, hl]; rfl) k
theorem q_aload {w : Nat} (ha : jv_at M.2.2.2.2.2.2 pc = some (.aload w, n, a, b, t, u, z)) (hp : pc + n = pc') {x : Nat} (hl : ls[w]? = some (some (.ref x))) (k : q_W G d M B pc' ls (.ref x :: st) s) : q_W G d M B pc ls st s := by
  subst hp
  exact q_go ha (by simp only [jv_nxt, jv_ald, hl]; rfl) k
theorem q_iload_n {w : Fin 4} (ha : jv_at M.2.2.2.2.2.2 pc = some (.iload_n w, n, a, b, t, u, z)) (hp : pc + n = pc') {x : Int32} (hl : ls[w.val]? = some (some (.int x))) (k : q_W G d M B pc' ls (.int x :: st) s) : q_W G d M B pc ls st s := by
  subst hp
  exact q_go ha (by simp only [jv_nxt, jv_ild, hl]; rfl) k
theorem q_aload_n {w : Fin 4} (ha : jv_at M.2.2.2.2.2.2 pc = some (.aload_n w, n, a, b, t, u, z)) (hp : pc + n = pc') {x : Nat} (hl : ls[w.val]? = some (some (.ref x))) (k : q_W G d M B pc' ls (.ref x :: st) s) : q_W G d M B pc ls st s := by
  subst hp
  exact q_go ha (by simp only [jv_nxt, jv_ald, hl]; rfl) k
theorem q_lload_n {w : Fin 4} (ha : jv_at M.2.2.2.2.2.2 pc = some (.lload_n w, n, a, b, t, u, z)) (hp : pc + n = pc') {x : Int64} (hl : ls[w.val]? = some (some (.long x))) (k : q_W G d M B pc' ls (.long x :: st) s) : q_W G d M B pc ls st s := by
  subst hp
  exact q_go ha (by simp only [jv_nxt, jv_lld, hl]; rfl) k
theorem q_istore {w : Nat} (ha : jv_at M.2.2.2.2.2.2 pc = some (.istore w, n, a, b, t, u, z)) (hp : pc + n = pc') {x : Int32} (hf : w < ls.length ∧ jv_fr ls w = true) (hl : ls.set w (some (.int x)) = ls') (k : q_W G d M B pc' ls' st s) : q_W G d M B pc ls (.int x :: st) s := by
  subst hp hl
  exact q_go ha (by simp only [jv_nxt, jv_i1, jv_st, if_pos hf]; rfl) k
theorem q_astore {w : Nat} (ha : jv_at M.2.2.2.2.2.2 pc = some (.astore w, n, a, b, t, u, z)) (hp : pc + n = pc') {x : Nat} (hf : w < ls.length ∧ jv_fr ls w = true) (hl : ls.set w (some (.ref x)) = ls') (k : q_W G d M B pc' ls' st s) : q_W G d M B pc ls (.ref x :: st) s := by
  subst hp hl
  exact q_go ha (by simp only [jv_nxt, jv_r1, jv_st, if_pos hf]; rfl) k
theorem q_istore_n {w : Fin 4} (ha : jv_at M.2.2.2.2.2.2 pc = some (.istore_n w, n, a, b, t, u, z)) (hp : pc + n = pc') {x : Int32} (hf : w.val < ls.length ∧ jv_fr ls w.val = true) (hl : ls.set w.val (some (.int x)) = ls') (k : q_W G d M B pc' ls' st s) : q_W G d M B pc ls (.int x :: st) s := by
  subst hp hl
  exact q_go ha (by simp only [jv_nxt, jv_i1, jv_st, if_pos hf]; rfl) k
theorem q_astore_n {w : Fin 4} (ha : jv_at M.2.2.2.2.2.2 pc = some (.astore_n w, n, a, b, t, u, z)) (hp : pc + n = pc') {x : Nat} (hf : w.val < ls.length ∧ jv_fr ls w.val = true) (hl : ls.set w.val (some (.ref x)) = ls') (k : q_W G d M B pc' ls' st s) : q_W G d M B pc ls (.ref x :: st) s := by
  subst hp hl
  exact q_go ha (by simp only [jv_nxt, jv_r1, jv_st, if_pos hf]; rfl) k
theorem q_iinc {w : Nat} {c : Int} (ha : jv_at M.2.2.2.2.2.2 pc = some (.iinc w c, n, a, b, t, u, z)) (hp : pc + n = pc') {x : Int32} (hg : ls[w]? = some (some (.int x))) (y : Int32) (hy : x + Int32.ofInt c = y) (hf : w < ls.length ∧ jv_fr ls w = true) (hl : ls.set w (some (.int y)) = ls') (k : q_W G d M B pc' ls' st s) : q_W G d M B pc ls st s := by
  subst hp hl hy
  exact q_go ha (by simp only [jv_nxt, jv_ild, hg, jv_st, if_pos hf]; rfl) k
theorem q_iadd (ha : jv_at M.2.2.2.2.2.2 pc = some (.iadd, n, a, b, t, u, z)) (hp : pc + n = pc') {x y : Int32} (k : q_W G d M B pc' ls (.int (x + y) :: r) s) : q_W G d M B pc ls (.int y :: .int x :: r) s := by
  subst hp
  exact q_go ha rfl k
theorem q_isub (ha : jv_at M.2.2.2.2.2.2 pc = some (.isub, n, a, b, t, u, z)) (hp : pc + n = pc') {x y : Int32} (k : q_W G d M B pc' ls (.int (x - y) :: r) s) : q_W G d M B pc ls (.int y :: .int x :: r) s := by
  subst hp
  exact q_go ha rfl k
theorem q_imul (ha : jv_at M.2.2.2.2.2.2 pc = some (.imul, n, a, b, t, u, z)) (hp : pc + n = pc') {x y : Int32} (k : q_W G d M B pc' ls (.int (x * y) :: r) s) : q_W G d M B pc ls (.int y :: .int x :: r) s := by
  subst hp
  exact q_go ha rfl k
theorem q_iand (ha : jv_at M.2.2.2.2.2.2 pc = some (.iand, n, a, b, t, u, z)) (hp : pc + n = pc') {x y : Int32} (k : q_W G d M B pc' ls (.int (x &&& y) :: r) s) : q_W G d M B pc ls (.int y :: .int x :: r) s := by
  subst hp
  exact q_go ha rfl k
theorem q_ior (ha : jv_at M.2.2.2.2.2.2 pc = some (.ior, n, a, b, t, u, z)) (hp : pc + n = pc') {x y : Int32} (k : q_W G d M B pc' ls (.int (x ||| y) :: r) s) : q_W G d M B pc ls (.int y :: .int x :: r) s := by
  subst hp
  exact q_go ha rfl k
theorem q_ishl (ha : jv_at M.2.2.2.2.2.2 pc = some (.ishl, n, a, b, t, u, z)) (hp : pc + n = pc') {x y : Int32} (k : q_W G d M B pc' ls (.int (x <<< (y &&& 31)) :: r) s) : q_W G d M B pc ls (.int y :: .int x :: r) s := by
  subst hp
  exact q_go ha rfl k
theorem q_ishr (ha : jv_at M.2.2.2.2.2.2 pc = some (.ishr, n, a, b, t, u, z)) (hp : pc + n = pc') {x y : Int32} (k : q_W G d M B pc' ls (.int (x >>> (y &&& 31)) :: r) s) : q_W G d M B pc ls (.int y :: .int x :: r) s := by
  subst hp
  exact q_go ha rfl k
theorem q_iushr (ha : jv_at M.2.2.2.2.2.2 pc = some (.iushr, n, a, b, t, u, z)) (hp : pc + n = pc') {x y : Int32} (k : q_W G d M B pc' ls (.int ((x.toUInt32 >>> (y.toUInt32 &&& Int32.toUInt32 31)).toInt32) :: r) s) : q_W G d M B pc ls (.int y :: .int x :: r) s := by
  subst hp
  exact q_go ha rfl k
theorem q_idiv (ha : jv_at M.2.2.2.2.2.2 pc = some (.idiv, n, a, b, t, u, z)) (hp : pc + n = pc') {x y : Int32} (h0 : ¬ y = 0) (k : q_W G d M B pc' ls (.int (x / y) :: r) s) : q_W G d M B pc ls (.int y :: .int x :: r) s := by
  subst hp
  exact q_go ha (by simp only [jv_nxt, jv_i2, if_neg h0]; rfl) k
theorem q_irem (ha : jv_at M.2.2.2.2.2.2 pc = some (.irem, n, a, b, t, u, z)) (hp : pc + n = pc') {x y : Int32} (h0 : ¬ y = 0) (k : q_W G d M B pc' ls (.int (x - x / y * y) :: r) s) : q_W G d M B pc ls (.int y :: .int x :: r) s := by
  subst hp
  exact q_go ha (by simp only [jv_nxt, jv_i2, if_neg h0]; rfl) k
theorem q_ineg (ha : jv_at M.2.2.2.2.2.2 pc = some (.ineg, n, a, b, t, u, z)) (hp : pc + n = pc') {x : Int32} (k : q_W G d M B pc' ls (.int (-x) :: r) s) : q_W G d M B pc ls (.int x :: r) s := by
  subst hp
  exact q_go ha rfl k
theorem q_land (ha : jv_at M.2.2.2.2.2.2 pc = some (.land, n, a, b, t, u, z)) (hp : pc + n = pc') {x y : Int64} (k : q_W G d M B pc' ls (.long (x &&& y) :: r) s) : q_W G d M B pc ls (.long y :: .long x :: r) s := by
  subst hp
  exact q_go ha rfl k
theorem q_lor (ha : jv_at M.2.2.2.2.2.2 pc = some (.lor, n, a, b, t, u, z)) (hp : pc + n = pc') {x y : Int64} (k : q_W G d M B pc' ls (.long (x ||| y) :: r) s) : q_W G d M B pc ls (.long y :: .long x :: r) s := by
  subst hp
  exact q_go ha rfl k
theorem q_lshl (ha : jv_at M.2.2.2.2.2.2 pc = some (.lshl, n, a, b, t, u, z)) (hp : pc + n = pc') {x : Int64} {y : Int32} (k : q_W G d M B pc' ls (.long (x <<< (y.toInt64 &&& 63)) :: r) s) : q_W G d M B pc ls (.int y :: .long x :: r) s := by
  subst hp
  exact q_go ha rfl k
theorem q_lshr (ha : jv_at M.2.2.2.2.2.2 pc = some (.lshr, n, a, b, t, u, z)) (hp : pc + n = pc') {x : Int64} {y : Int32} (k : q_W G d M B pc' ls (.long (x >>> (y.toInt64 &&& 63)) :: r) s) : q_W G d M B pc ls (.int y :: .long x :: r) s := by
  subst hp
  exact q_go ha rfl k
theorem q_lcmp (ha : jv_at M.2.2.2.2.2.2 pc = some (.lcmp, n, a, b, t, u, z)) (hp : pc + n = pc') {x y : Int64} (k : q_W G d M B pc' ls (.int (lg_cmp x y) :: r) s) : q_W G d M B pc ls (.long y :: .long x :: r) s := by
  subst hp
  exact q_go ha rfl k
theorem q_i2l (ha : jv_at M.2.2.2.2.2.2 pc = some (.i2l, n, a, b, t, u, z)) (hp : pc + n = pc') {x : Int32} (k : q_W G d M B pc' ls (.long x.toInt64 :: r) s) : q_W G d M B pc ls (.int x :: r) s := by
  subst hp
  exact q_go ha rfl k
theorem q_l2i (ha : jv_at M.2.2.2.2.2.2 pc = some (.l2i, n, a, b, t, u, z)) (hp : pc + n = pc') {x : Int64} (k : q_W G d M B pc' ls (.int x.toInt32 :: r) s) : q_W G d M B pc ls (.long x :: r) s := by
  subst hp
  exact q_go ha rfl k
theorem q_i2c (ha : jv_at M.2.2.2.2.2.2 pc = some (.i2c, n, a, b, t, u, z)) (hp : pc + n = pc') {x : Int32} (k : q_W G d M B pc' ls (.int ((x.toUInt32 % 65536).toInt32) :: r) s) : q_W G d M B pc ls (.int x :: r) s := by
  subst hp
  exact q_go ha rfl k
theorem q_dup (ha : jv_at M.2.2.2.2.2.2 pc = some (.dup, n, a, b, t, u, z)) (hp : pc + n = pc') {v : Value} (hv : jv_c1 v = true) (k : q_W G d M B pc' ls (v :: v :: r) s) : q_W G d M B pc ls (v :: r) s := by
  subst hp
  exact q_go ha (by simp only [jv_nxt, if_pos hv]; rfl) k
theorem q_dup2 (ha : jv_at M.2.2.2.2.2.2 pc = some (.dup2, n, a, b, t, u, z)) (hp : pc + n = pc') {v w : Value} (hv : jv_c1 v = true ∧ jv_c1 w = true) (k : q_W G d M B pc' ls (v :: w :: v :: w :: r) s) : q_W G d M B pc ls (v :: w :: r) s := by
  subst hp
  exact q_go ha (by simp only [jv_nxt, if_pos hv]; rfl) k
theorem q_pop (ha : jv_at M.2.2.2.2.2.2 pc = some (.pop, n, a, b, t, u, z)) (hp : pc + n = pc') {v : Value} (hv : jv_c1 v = true) (k : q_W G d M B pc' ls r s) : q_W G d M B pc ls (v :: r) s := by
  subst hp
  exact q_go ha (by simp only [jv_nxt, if_pos hv]; rfl) k
theorem q_goto {w : Int} (ha : jv_at M.2.2.2.2.2.2 pc = some (.goto w, n, a, b, t, u, z)) (k : q_W G d M B a ls st s) : q_W G d M B pc ls st s := q_go ha rfl k
theorem q_if_eq {w : Int} {x : Int32} (ha : jv_at M.2.2.2.2.2.2 pc = some (.ifCond .eq w, n, a, b, t, u, z)) (hp : pc + n = pc') (kt : x = 0 → q_W G d M B a ls r s) (kf : ¬ x = 0 → q_W G d M B pc' ls r s) : q_W G d M B pc ls (.int x :: r) s := by
  subst hp
  by_cases q : x = 0
  · exact q_go ha rfl (by rw [show decide (x = 0) = true from decide_eq_true (q)]; exact kt q)
  · exact q_go ha rfl (by rw [show decide (x = 0) = false from decide_eq_false (q)]; exact kf (q))
theorem q_if_ne {w : Int} {x : Int32} (ha : jv_at M.2.2.2.2.2.2 pc = some (.ifCond .ne w, n, a, b, t, u, z)) (hp : pc + n = pc') (kt : ¬ x = 0 → q_W G d M B a ls r s) (kf : x = 0 → q_W G d M B pc' ls r s) : q_W G d M B pc ls (.int x :: r) s := by
  subst hp
  by_cases q : ¬ x = 0
  · exact q_go ha rfl (by rw [show decide (x ≠ 0) = true from decide_eq_true (q)]; exact kt q)
  · exact q_go ha rfl (by rw [show decide (x ≠ 0) = false from decide_eq_false (q)]; exact kf (Classical.not_not.mp q))
theorem q_if_lt {w : Int} {x : Int32} (ha : jv_at M.2.2.2.2.2.2 pc = some (.ifCond .lt w, n, a, b, t, u, z)) (hp : pc + n = pc') (kt : x < 0 → q_W G d M B a ls r s) (kf : ¬ x < 0 → q_W G d M B pc' ls r s) : q_W G d M B pc ls (.int x :: r) s := by
  subst hp
  by_cases q : x < 0
  · exact q_go ha rfl (by rw [show decide (x < 0) = true from decide_eq_true (q)]; exact kt q)
  · exact q_go ha rfl (by rw [show decide (x < 0) = false from decide_eq_false (q)]; exact kf (q))
theorem q_if_ge {w : Int} {x : Int32} (ha : jv_at M.2.2.2.2.2.2 pc = some (.ifCond .ge w, n, a, b, t, u, z)) (hp : pc + n = pc') (kt : ¬ x < 0 → q_W G d M B a ls r s) (kf : x < 0 → q_W G d M B pc' ls r s) : q_W G d M B pc ls (.int x :: r) s := by
  subst hp
  by_cases q : ¬ x < 0
  · exact q_go ha rfl (by rw [show decide (x ≥ 0) = true from decide_eq_true (Int32.not_lt.mp q)]; exact kt q)
  · exact q_go ha rfl (by rw [show decide (x ≥ 0) = false from decide_eq_false (fun z => q (Int32.not_lt.mpr z))]; exact kf (Classical.not_not.mp q))
theorem q_if_gt {w : Int} {x : Int32} (ha : jv_at M.2.2.2.2.2.2 pc = some (.ifCond .gt w, n, a, b, t, u, z)) (hp : pc + n = pc') (kt : ¬ x ≤ 0 → q_W G d M B a ls r s) (kf : x ≤ 0 → q_W G d M B pc' ls r s) : q_W G d M B pc ls (.int x :: r) s := by
  subst hp
  by_cases q : ¬ x ≤ 0
  · exact q_go ha rfl (by rw [show decide (x > 0) = true from decide_eq_true (Int32.not_le.mp q)]; exact kt q)
  · exact q_go ha rfl (by rw [show decide (x > 0) = false from decide_eq_false (fun z => q (Int32.not_le.mpr z))]; exact kf (Classical.not_not.mp q))
theorem q_if_le {w : Int} {x : Int32} (ha : jv_at M.2.2.2.2.2.2 pc = some (.ifCond .le w, n, a, b, t, u, z)) (hp : pc + n = pc') (kt : x ≤ 0 → q_W G d M B a ls r s) (kf : ¬ x ≤ 0 → q_W G d M B pc' ls r s) : q_W G d M B pc ls (.int x :: r) s := by
  subst hp
  by_cases q : x ≤ 0
  · exact q_go ha rfl (by rw [show decide (x ≤ 0) = true from decide_eq_true (q)]; exact kt q)
  · exact q_go ha rfl (by rw [show decide (x ≤ 0) = false from decide_eq_false (q)]; exact kf (q))
theorem q_ic_eq {w : Int} {x y : Int32} (ha : jv_at M.2.2.2.2.2.2 pc = some (.if_icmp .eq w, n, a, b, t, u, z)) (hp : pc + n = pc') (kt : x = y → q_W G d M B a ls r s) (kf : ¬ x = y → q_W G d M B pc' ls r s) : q_W G d M B pc ls (.int y :: .int x :: r) s := by
  subst hp
  by_cases q : x = y
  · exact q_go ha rfl (by rw [show decide (x = y) = true from decide_eq_true (q)]; exact kt q)
  · exact q_go ha rfl (by rw [show decide (x = y) = false from decide_eq_false (q)]; exact kf (q))
theorem q_ic_ne {w : Int} {x y : Int32} (ha : jv_at M.2.2.2.2.2.2 pc = some (.if_icmp .ne w, n, a, b, t, u, z)) (hp : pc + n = pc') (kt : ¬ x = y → q_W G d M B a ls r s) (kf : x = y → q_W G d M B pc' ls r s) : q_W G d M B pc ls (.int y :: .int x :: r) s := by
  subst hp
  by_cases q : ¬ x = y
  · exact q_go ha rfl (by rw [show decide (x ≠ y) = true from decide_eq_true (q)]; exact kt q)
  · exact q_go ha rfl (by rw [show decide (x ≠ y) = false from decide_eq_false (q)]; exact kf (Classical.not_not.mp q))
theorem q_ic_lt {w : Int} {x y : Int32} (ha : jv_at M.2.2.2.2.2.2 pc = some (.if_icmp .lt w, n, a, b, t, u, z)) (hp : pc + n = pc') (kt : x < y → q_W G d M B a ls r s) (kf : ¬ x < y → q_W G d M B pc' ls r s) : q_W G d M B pc ls (.int y :: .int x :: r) s := by
  subst hp
  by_cases q : x < y
  · exact q_go ha rfl (by rw [show decide (x < y) = true from decide_eq_true (q)]; exact kt q)
  · exact q_go ha rfl (by rw [show decide (x < y) = false from decide_eq_false (q)]; exact kf (q))
theorem q_ic_ge {w : Int} {x y : Int32} (ha : jv_at M.2.2.2.2.2.2 pc = some (.if_icmp .ge w, n, a, b, t, u, z)) (hp : pc + n = pc') (kt : ¬ x < y → q_W G d M B a ls r s) (kf : x < y → q_W G d M B pc' ls r s) : q_W G d M B pc ls (.int y :: .int x :: r) s := by
  subst hp
  by_cases q : ¬ x < y
  · exact q_go ha rfl (by rw [show decide (x ≥ y) = true from decide_eq_true (Int32.not_lt.mp q)]; exact kt q)
  · exact q_go ha rfl (by rw [show decide (x ≥ y) = false from decide_eq_false (fun z => q (Int32.not_lt.mpr z))]; exact kf (Classical.not_not.mp q))
theorem q_ic_gt {w : Int} {x y : Int32} (ha : jv_at M.2.2.2.2.2.2 pc = some (.if_icmp .gt w, n, a, b, t, u, z)) (hp : pc + n = pc') (kt : ¬ x ≤ y → q_W G d M B a ls r s) (kf : x ≤ y → q_W G d M B pc' ls r s) : q_W G d M B pc ls (.int y :: .int x :: r) s := by
  subst hp
  by_cases q : ¬ x ≤ y
  · exact q_go ha rfl (by rw [show decide (x > y) = true from decide_eq_true (Int32.not_le.mp q)]; exact kt q)
  · exact q_go ha rfl (by rw [show decide (x > y) = false from decide_eq_false (fun z => q (Int32.not_le.mpr z))]; exact kf (Classical.not_not.mp q))
theorem q_ic_le {w : Int} {x y : Int32} (ha : jv_at M.2.2.2.2.2.2 pc = some (.if_icmp .le w, n, a, b, t, u, z)) (hp : pc + n = pc') (kt : x ≤ y → q_W G d M B a ls r s) (kf : ¬ x ≤ y → q_W G d M B pc' ls r s) : q_W G d M B pc ls (.int y :: .int x :: r) s := by
  subst hp
  by_cases q : x ≤ y
  · exact q_go ha rfl (by rw [show decide (x ≤ y) = true from decide_eq_true (q)]; exact kt q)
  · exact q_go ha rfl (by rw [show decide (x ≤ y) = false from decide_eq_false (q)]; exact kf (q))
theorem q_swIn {w lo hi o : Int} {offs : Array Int} {x : Int32} (ha : jv_at M.2.2.2.2.2.2 pc = some (.tableswitch w lo hi offs, n, a, b, t, u, z)) (hx : ¬ (x.toInt < lo ∨ hi < x.toInt)) (ho : offs[(x.toInt - lo).toNat]? = some o) (ht : ((pc : Int) + o).toNat = pc') (k : q_W G d M B pc' ls r s) : q_W G d M B pc ls (.int x :: r) s := by
  subst ht
  exact q_go ha (by simp only [jv_nxt, jv_i1, if_neg hx, ho]; rfl) k
theorem q_swOut {w lo hi : Int} {offs : Array Int} {x : Int32} (ha : jv_at M.2.2.2.2.2.2 pc = some (.tableswitch w lo hi offs, n, a, b, t, u, z)) (hx : x.toInt < lo ∨ hi < x.toInt) (ht : ((pc : Int) + w).toNat = pc') (k : q_W G d M B pc' ls r s) : q_W G d M B pc ls (.int x :: r) s := by
  subst ht
  exact q_go ha (by simp only [jv_nxt, jv_i1, if_pos hx]; rfl) k
theorem q_getf {w c : Nat} {v : Value} (ha : jv_at M.2.2.2.2.2.2 pc = some (.getfield w, n, a, b, t, u, z)) (hp : pc + n = pc') (hc : c < 176) (hk : (jg_knd c).1 = a ∧ a < 13) (hv : jg_get s c b = v) (k : q_W G d M B pc' ls (v :: r) s) : q_W G d M B pc ls (.ref c :: r) s := by
  subst hp hv
  exact q_go ha (by simp only [jv_nxt, jv_r1]; exact (if_pos (show c < jg_O.1 s from hc)).trans (if_pos hk)) k
theorem q_getv {w c : Nat} {v : Nat} (ha : jv_at M.2.2.2.2.2.2 pc = some (.getfield w, n, a, b, t, u, z)) (hp : pc + n = pc') (hc : a = 20 ∧ (c = 1000001 ∨ c = 1000002)) (hb : b = 0) (hv : c + 2 = v) (k : q_W G d M B pc' ls (.ref v :: r) s) : q_W G d M B pc ls (.ref c :: r) s := by
  subst hp hv
  exact q_go ha (by simp only [jv_nxt, jv_r1]; exact (if_neg (show ¬ c < jg_O.1 s by show ¬ c < 176; omega)).trans ((if_pos hc).trans (if_pos hb))) k
theorem q_getc {w c : Nat} (ha : jv_at M.2.2.2.2.2.2 pc = some (.getfield w, n, a, b, t, u, z)) (hp : pc + n = pc') (hc : a = 20 ∧ (c = 1000001 ∨ c = 1000002)) (hb : ¬ b = 0) (k : q_W G d M B pc' ls (.int 0 :: r) s) : q_W G d M B pc ls (.ref c :: r) s := by
  subst hp
  exact q_go ha (by simp only [jv_nxt, jv_r1]; exact (if_neg (show ¬ c < jg_O.1 s by show ¬ c < 176; omega)).trans ((if_pos hc).trans (if_neg hb))) k
theorem q_gets0 {w : Nat} (ha : jv_at M.2.2.2.2.2.2 pc = some (.getstatic w, n, a, b, t, u, z)) (hp : pc + n = pc') (h0 : a = 0) (k : q_W G d M B pc' ls (.int 1 :: st) s) : q_W G d M B pc ls st s := by
  subst hp
  exact q_go ha (by simp only [jv_nxt, if_pos h0]; rfl) k
theorem q_gets1 {w : Nat} (ha : jv_at M.2.2.2.2.2.2 pc = some (.getstatic w, n, a, b, t, u, z)) (hp : pc + n = pc') (h0 : a = 1) (k : q_W G d M B pc' ls (G.2 :: st) s) : q_W G d M B pc ls st s := by
  subst hp
  exact q_go ha (by simp only [jv_nxt, if_neg (show ¬ a = 0 by omega), if_pos h0]; rfl) k
/-- a field that is an int -/
theorem q_putf {w c : Nat} {x : Int32} (ha : jv_at M.2.2.2.2.2.2 pc = some (.putfield w, n, a, b, t, u, z)) (hp : pc + n = pc') (hc : c < 176) (hk : (jg_knd c).1 = a) (hf : jv_fit (jv_fty a b) (.int x) = true) (hr : jg_isr (jg_knd c).1 b = false) (k : ∀ s' : jg_H, s' = jg_up s c b x → q_W G d M B pc' ls r s') : q_W G d M B pc ls (.int x :: .ref c :: r) s := by
  subst hp
  refine q_go ha (s' := jg_up s c b x) ?_ (k _ rfl)
  have e : jg_O.2.2.2.2.1 s c b (.int x) = some (jg_up s c b x) := by
    show (if jg_isr (jg_knd c).1 b = true then none else some (jg_up s c b x)) = _
    rw [hr]
    rfl
  simp only [jv_nxt, jv_vr]
  refine (if_pos (show c < jg_O.1 s ∧ (jg_O.2.2.1 s c).1 = a ∧ jv_fit (jv_fty a b) (.int x) = true from ⟨hc, hk, hf⟩)).trans ?_
  rw [e]
  rfl
/-- THE reader's text -/
theorem q_putr {w x : Nat} (ha : jv_at M.2.2.2.2.2.2 pc = some (.putfield w, n, a, b, t, u, z)) (hp : pc + n = pc') (hk : a = 7 ∧ b = 8) (hx : x < 176) (k : ∀ s' : jg_H, s' = jg_up s 117 8 (Int32.ofNat x) → q_W G d M B pc' ls r s') : q_W G d M B pc ls (.ref x :: .ref 117 :: r) s := by
  subst hp
  obtain ⟨rfl, rfl⟩ := hk
  refine q_go ha (s' := jg_up s 117 8 (Int32.ofNat x)) ?_ (k _ rfl)
  have e : jg_O.2.2.2.2.1 s 117 8 (.ref x) = some (jg_up s 117 8 (Int32.ofNat x)) := by
    show (if 117 = 117 ∧ 8 = 8 ∧ x < 176 then some (jg_up s 117 8 (Int32.ofNat x)) else none) = _
    rw [if_pos ⟨rfl, rfl, hx⟩]
  simp only [jv_nxt, jv_vr]
  refine (if_pos (show 117 < jg_O.1 s ∧ (jg_O.2.2.1 s 117).1 = 7 ∧ jv_fit (jv_fty 7 8) (.ref x) = true from ⟨by show 117 < 176; decide, rfl, rfl⟩)).trans ?_
  rw [e]
  rfl
theorem q_iald {c : Nat} {i : Int32} {v : Value} (ha : jv_at M.2.2.2.2.2.2 pc = some (.iaload, n, a, b, t, u, z)) (hp : pc + n = pc') (hc : c < 176) {l : Nat} (hk : jg_knd c = (13, l)) (hi : jv_in i l = true) (hv : jg_get s c i.toNatClampNeg = v) (k : q_W G d M B pc' ls (v :: r) s) : q_W G d M B pc ls (.int i :: .ref c :: r) s := by
  subst hp hv
  exact q_go ha (by simp only [jv_nxt, jv_ri]; exact (if_pos (show c < jg_O.1 s from hc)).trans (if_pos (show (jg_knd c).1 = 13 ∧ jv_in i (jg_knd c).2 = true by rw [hk]; exact ⟨rfl, hi⟩))) k
theorem q_sald {i : Int32} (ha : jv_at M.2.2.2.2.2.2 pc = some (.iaload, n, a, b, t, u, z)) (hp : pc + n = pc') (hi : jv_in i G.1.1 = true) (k : q_W G d M B pc' ls (.int (G.1.2 i.toNatClampNeg) :: r) s) : q_W G d M B pc ls (.int i :: .ref 1000000 :: r) s := by
  subst hp
  exact q_go ha (by simp only [jv_nxt, jv_ri]; exact (if_neg (show ¬ 1000000 < jg_O.1 s by show ¬ 1000000 < 176; decide)).trans (if_pos ⟨trivial, hi⟩)) k
theorem q_bald {c : Nat} {i : Int32} {v : Value} (ha : jv_at M.2.2.2.2.2.2 pc = some (.baload, n, a, b, t, u, z)) (hp : pc + n = pc') (hc : c < 176) {l : Nat} (hk : jg_knd c = (14, l)) (hi : jv_in i l = true) (hv : jg_get s c i.toNatClampNeg = v) (k : q_W G d M B pc' ls (v :: r) s) : q_W G d M B pc ls (.int i :: .ref c :: r) s := by
  subst hp hv
  exact q_go ha (by simp only [jv_nxt, jv_ri]; exact (if_pos (show c < jg_O.1 s from hc)).trans (if_pos (show (jg_knd c).1 = 14 ∧ jv_in i (jg_knd c).2 = true by rw [hk]; exact ⟨rfl, hi⟩))) k
theorem q_cald {c : Nat} {i : Int32} (ha : jv_at M.2.2.2.2.2.2 pc = some (.baload, n, a, b, t, u, z)) (hp : pc + n = pc') (hc : c = 1000003 ∨ c = 1000004) (hi : jv_in i (jv_sb c).length = true) (k : q_W G d M B pc' ls (.int ((jv_sb c).getD i.toNatClampNeg 0) :: r) s) : q_W G d M B pc ls (.int i :: .ref c :: r) s := by
  subst hp
  exact q_go ha (by simp only [jv_nxt, jv_ri]; exact (if_neg (show ¬ c < jg_O.1 s by show ¬ c < 176; omega)).trans (if_pos ⟨hc, hi⟩)) k
theorem q_aald {c : Nat} {i : Int32} {v : Value} (ha : jv_at M.2.2.2.2.2.2 pc = some (.aaload, n, a, b, t, u, z)) (hp : pc + n = pc') (hc : c < 176) {kd l : Nat} (hk : jg_knd c = (kd, l)) (hkd : 15 ≤ kd ∧ kd < 21) (hi : jv_in i l = true) (hv : jg_get s c i.toNatClampNeg = v) (k : q_W G d M B pc' ls (v :: r) s) : q_W G d M B pc ls (.int i :: .ref c :: r) s := by
  subst hp hv
  exact q_go ha (by simp only [jv_nxt, jv_ri]; exact (if_pos (show c < jg_O.1 s ∧ 15 ≤ (jg_knd c).1 ∧ (jg_knd c).1 < 21 ∧ jv_in i (jg_knd c).2 = true by rw [hk]; exact ⟨hc, hkd.1, hkd.2, hi⟩))) k
theorem q_alen {c : Nat} {v : Int32} (ha : jv_at M.2.2.2.2.2.2 pc = some (.arraylength, n, a, b, t, u, z)) (hp : pc + n = pc') (hc : c < 176) {kd l : Nat} (hk : jg_knd c = (kd, l)) (hkd : 13 ≤ kd ∧ kd < 21) (hv : Int32.ofNat l = v) (k : q_W G d M B pc' ls (.int v :: r) s) : q_W G d M B pc ls (.ref c :: r) s := by
  subst hp hv
  refine q_go ha ?_ k
  simp only [jv_nxt, jv_r1]
  rw [if_pos (show c < jg_O.1 s from hc), if_pos (show 13 ≤ (jg_O.2.2.1 s c).1 ∧ (jg_O.2.2.1 s c).1 < 21 from by show 13 ≤ (jg_knd c).1 ∧ (jg_knd c).1 < 21; rw [hk]; exact hkd), show (jg_O.2.2.1 s c) = (kd, l) from hk]
  rfl
theorem q_slen (ha : jv_at M.2.2.2.2.2.2 pc = some (.arraylength, n, a, b, t, u, z)) (hp : pc + n = pc') (k : q_W G d M B pc' ls (.int (Int32.ofNat G.1.1) :: r) s) : q_W G d M B pc ls (.ref 1000000 :: r) s := by
  subst hp
  exact q_go ha rfl k
theorem q_clen {c : Nat} {v : Int32} (ha : jv_at M.2.2.2.2.2.2 pc = some (.arraylength, n, a, b, t, u, z)) (hp : pc + n = pc') (hc : c = 1000003 ∨ c = 1000004) (hv : Int32.ofNat (jv_sb c).length = v) (k : q_W G d M B pc' ls (.int v :: r) s) : q_W G d M B pc ls (.ref c :: r) s := by
  subst hp hv
  exact q_go ha (by simp only [jv_nxt, jv_r1]; exact (if_neg (show ¬ c < jg_O.1 s by show ¬ c < 176; omega)).trans ((if_neg (show ¬ c = 1000000 by omega)).trans (if_pos hc))) k
theorem q_iast {c : Nat} {i x : Int32} (ha : jv_at M.2.2.2.2.2.2 pc = some (.iastore, n, a, b, t, u, z)) (hp : pc + n = pc') (hc : c < 176) {l : Nat} (hk : jg_knd c = (13, l)) (hi : jv_in i l = true) (k : ∀ s' : jg_H, s' = jg_up s c i.toNatClampNeg x → q_W G d M B pc' ls r s') : q_W G d M B pc ls (.int x :: .int i :: .ref c :: r) s := by
  subst hp
  refine q_go ha (s' := jg_up s c i.toNatClampNeg x) ?_ (k _ rfl)
  have e : jg_O.2.2.2.2.1 s c i.toNatClampNeg (.int x) = some (jg_up s c i.toNatClampNeg x) := by
    show (if jg_isr (jg_knd c).1 i.toNatClampNeg = true then none else some (jg_up s c i.toNatClampNeg x)) = _
    rw [hk]
    rfl
  simp only [jv_nxt, jv_rii]
  refine (if_pos (show c < jg_O.1 s ∧ (jg_O.2.2.1 s c).1 = 13 ∧ jv_in i (jg_O.2.2.1 s c).2 = true from ⟨hc, by rw [show jg_O.2.2.1 s c = (13, l) from hk], by rw [show jg_O.2.2.1 s c = (13, l) from hk]; exact hi⟩)).trans ?_
  rw [e]
  rfl
theorem q_bast {c : Nat} {i x : Int32} (ha : jv_at M.2.2.2.2.2.2 pc = some (.bastore, n, a, b, t, u, z)) (hp : pc + n = pc') (hc : c < 176) {l : Nat} (hk : jg_knd c = (14, l)) (hi : jv_in i l = true) (hx : x = 0 ∨ x = 1) (k : ∀ s' : jg_H, s' = jg_up s c i.toNatClampNeg x → q_W G d M B pc' ls r s') : q_W G d M B pc ls (.int x :: .int i :: .ref c :: r) s := by
  subst hp
  refine q_go ha (s' := jg_up s c i.toNatClampNeg x) ?_ (k _ rfl)
  have e : jg_O.2.2.2.2.1 s c i.toNatClampNeg (.int x) = some (jg_up s c i.toNatClampNeg x) := by
    show (if jg_isr (jg_knd c).1 i.toNatClampNeg = true then none else some (jg_up s c i.toNatClampNeg x)) = _
    rw [hk]
    rfl
  simp only [jv_nxt, jv_rii]
  refine (if_pos (show c < jg_O.1 s ∧ (jg_O.2.2.1 s c).1 = 14 ∧ jv_in i (jg_O.2.2.1 s c).2 = true ∧ (x = 0 ∨ x = 1) from ⟨hc, by rw [show jg_O.2.2.1 s c = (14, l) from hk], by rw [show jg_O.2.2.1 s c = (14, l) from hk]; exact hi, hx⟩)).trans ?_
  rw [e]
  rfl
theorem q_max {w : Nat} {x y : Int32} (ha : jv_at M.2.2.2.2.2.2 pc = some (.invokestatic w, n, a, b, t, u, z)) (hp : pc + n = pc') (hb : b = 7) (hw : jv_w8 r = true) (k : q_W G d M B pc' ls (.int (if x < y then y else x) :: r) s) : q_W G d M B pc ls (.int y :: .int x :: r) s := by
  subst hp
  exact q_go ha (by simp only [jv_nxt, if_pos hb, jv_i2, if_pos hw]; rfl) k
theorem q_virt {w c : Nat} {as : List Value} (ha : jv_at M.2.2.2.2.2.2 pc = some (.invokevirtual w, n, a, b, t, u, z)) (hp : pc + n = pc') (hs : jv_pop z.toNat st = some (as, .ref c :: r)) (hw : jv_w8 r = true) (hc : c < 176) (hk : (jg_knd c).1 = u ∧ u < 13) (k : q_P G d a (.ref c :: as) s (fun v s' => q_W G d M B pc' ls (v.toList ++ r) s')) : q_W G d M B pc ls st s := by
  subst hp
  exact q_ca ha (by simp only [jv_nxt, hs, jv_r1]; exact if_pos ⟨hw, Or.inl ⟨hc, hk.1, hk.2⟩⟩) k
theorem q_virs {w c : Nat} {as : List Value} (ha : jv_at M.2.2.2.2.2.2 pc = some (.invokevirtual w, n, a, b, t, u, z)) (hp : pc + n = pc') (hs : jv_pop z.toNat st = some (as, .ref c :: r)) (hw : jv_w8 r = true) (hc : c = 1000001 ∨ c = 1000002) (hk : u = 20) (k : q_P G d a (.ref c :: as) s (fun v s' => q_W G d M B pc' ls (v.toList ++ r) s')) : q_W G d M B pc ls st s := by
  subst hp
  exact q_ca ha (by simp only [jv_nxt, hs, jv_r1]; exact if_pos ⟨hw, Or.inr ⟨by show 176 ≤ c; omega, hk, hc⟩⟩) k
theorem q_stat {w : Nat} {as : List Value} (ha : jv_at M.2.2.2.2.2.2 pc = some (.invokestatic w, n, a, b, t, u, z)) (hp : pc + n = pc') (hb : ¬ b = 7) (hs : jv_pop z.toNat st = some (as, r)) (hw : jv_w8 r = true) (k : q_P G d a as s (fun v s' => q_W G d M B pc' ls (v.toList ++ r) s')) : q_W G d M B pc ls st s := by
  subst hp
  exact q_ca ha (by simp only [jv_nxt, if_neg hb, hs]; exact if_pos hw) k
theorem q_iret {x : Int32} {ty : FieldType} (ha : jv_at M.2.2.2.2.2.2 pc = some (.ireturn, n, a, b, t, u, z)) (hr : M.2.2.2.2.1 = some ty) (hn : jv_rn ty x = true) (k : B (some (.int x)) s) : q_W G d M B pc ls [.int x] s := q_re ha (by simp only [jv_nxt, hr, if_pos hn]) k
theorem q_lret {x : Int64} (ha : jv_at M.2.2.2.2.2.2 pc = some (.lreturn, n, a, b, t, u, z)) (hr : M.2.2.2.2.1 = some .long) (k : B (some (.long x)) s) : q_W G d M B pc ls [.long x] s := q_re ha (by simp only [jv_nxt, hr]) k
theorem q_aret {x : Nat} {nm : String} (ha : jv_at M.2.2.2.2.2.2 pc = some (.areturn, n, a, b, t, u, z)) (hr : M.2.2.2.2.1 = some (.object nm)) (k : B (some (.ref x)) s) : q_W G d M B pc ls [.ref x] s := q_re ha (by simp only [jv_nxt, hr]) k
theorem q_vret (ha : jv_at M.2.2.2.2.2.2 pc = some (.return_, n, a, b, t, u, z)) (hr : M.2.2.2.2.1 = none) (k : B none s) : q_W G d M B pc ls [] s := q_re ha (by simp only [jv_nxt, hr]) k
end
