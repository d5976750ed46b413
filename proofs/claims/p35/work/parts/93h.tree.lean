set_option maxRecDepth 20000 in
theorem t_Reader_expect {G : jv_X} {d : Nat} {B : Option Value → jg_H → Prop} {s : jg_H} (a1 : Int32)
    (k1 : ¬ (s 117 4) = a1 → ¬ (s 117 7) = (-1) → ∀ s1 : jg_H, s1 = jg_up s 117 4 17 → B none s1)
    (k2 : ¬ (s 117 4) = a1 → (s 117 7) = (-1) → ∀ s2 : jg_H, s2 = jg_up s 117 7 (s 117 2) → ∀ s3 : jg_H, s3 = jg_up s2 117 4 17 → B none s3)
    (k3 : (s 117 4) = a1 → q_P G (d + 1) 21 [.ref 117] s (fun v t => q_W G (d + 1) jm_Reader_expect B 12 [some (.ref 117), some (.int a1)] (v.toList ++ []) t)) :
    q_P G (d + 2) 30 [.ref 117, .int a1] s B := by
  refine q_in (M := jm_Reader_expect) rfl (Nat.le_of_ble_eq_true rfl) (ls := [some (.ref 117), some (.int a1)]) rfl ?_
  refine q_aload_n (pc' := 1) ja_Reader_expect_0 rfl rfl ?_
  refine q_getf (pc' := 4) (v := .int (s 117 4)) ja_Reader_expect_1 rfl (by decide) ⟨rfl, by decide⟩ rfl ?_
  refine q_iload_n (pc' := 5) ja_Reader_expect_4 rfl rfl ?_
  refine q_ic_ne (pc' := 8) ja_Reader_expect_5 rfl ?_ ?_
  · intro h1
    refine q_aload_n (pc' := 16) ja_Reader_expect_15 rfl rfl ?_
    refine q_virt (pc' := 19) (c := 117) (as := []) (r := []) ja_Reader_expect_16 rfl rfl rfl (by decide) ⟨rfl, by decide⟩ ?_
    refine q_in (M := jm_Reader_fail) rfl (Nat.le_of_ble_eq_true rfl) (ls := [some (.ref 117)]) rfl ?_
    refine q_aload_n (pc' := 1) ja_Reader_fail_0 rfl rfl ?_
    refine q_getf (pc' := 4) (v := .int (s 117 7)) ja_Reader_fail_1 rfl (by decide) ⟨rfl, by decide⟩ rfl ?_
    refine q_iconst (pc' := 5) ja_Reader_fail_4 rfl (-1) (by decide) ?_
    refine q_ic_ne (pc' := 8) ja_Reader_fail_5 rfl ?_ ?_
    · intro h2
      refine q_aload_n (pc' := 17) ja_Reader_fail_16 rfl rfl ?_
      refine q_bipush (pc' := 19) ja_Reader_fail_17 rfl 17 (by decide) ?_
      refine q_putf (pc' := 22) ja_Reader_fail_19 rfl (by decide) rfl rfl rfl ?_
      intro s1 e1
      refine q_vret ja_Reader_fail_22 rfl ?_
      show q_W _ _ _ _ 19 [some (.ref 117), some (.int a1)] [] s1
      exact q_vret ja_Reader_expect_19 rfl (k1 h1 h2 s1 e1)
    · intro h3
      refine q_aload_n (pc' := 9) ja_Reader_fail_8 rfl rfl ?_
      refine q_aload_n (pc' := 10) ja_Reader_fail_9 rfl rfl ?_
      refine q_getf (pc' := 13) (v := .int (s 117 2)) ja_Reader_fail_10 rfl (by decide) ⟨rfl, by decide⟩ rfl ?_
      refine q_putf (pc' := 16) ja_Reader_fail_13 rfl (by decide) rfl rfl rfl ?_
      intro s2 e2
      refine q_aload_n (pc' := 17) ja_Reader_fail_16 rfl rfl ?_
      refine q_bipush (pc' := 19) ja_Reader_fail_17 rfl 17 (by decide) ?_
      refine q_putf (pc' := 22) ja_Reader_fail_19 rfl (by decide) rfl rfl rfl ?_
      intro s3 e3
      refine q_vret ja_Reader_fail_22 rfl ?_
      show q_W _ _ _ _ 19 [some (.ref 117), some (.int a1)] [] s3
      exact q_vret ja_Reader_expect_19 rfl (k2 h1 h3 s2 e2 s3 e3)
  · intro h4
    refine q_aload_n (pc' := 9) ja_Reader_expect_8 rfl rfl ?_
    refine q_virt (pc' := 12) (c := 117) (as := []) (r := []) ja_Reader_expect_9 rfl rfl rfl (by decide) ⟨rfl, by decide⟩ ?_
    exact (k3 h4)
set_option maxRecDepth 20000 in
theorem t_Reader_expect_12 {G : jv_X} {d : Nat} {B : Option Value → jg_H → Prop} {s : jg_H} (x1 : Int32)
    (k1 : B none s) :
    q_W G (d + 1) jm_Reader_expect B 12 [some (.ref 117), some (.int x1)] [] s := by
  refine q_goto ja_Reader_expect_12 ?_
  exact q_vret ja_Reader_expect_19 rfl k1
set_option maxRecDepth 20000 in
theorem t_Reader_fail {G : jv_X} {d : Nat} {B : Option Value → jg_H → Prop} {s : jg_H} 
    (k1 : ¬ (s 117 7) = (-1) → ∀ s1 : jg_H, s1 = jg_up s 117 4 17 → B none s1)
    (k2 : (s 117 7) = (-1) → ∀ s2 : jg_H, s2 = jg_up s 117 7 (s 117 2) → ∀ s3 : jg_H, s3 = jg_up s2 117 4 17 → B none s3) :
    q_P G (d + 1) 26 [.ref 117] s B := by
  refine q_in (M := jm_Reader_fail) rfl (Nat.le_of_ble_eq_true rfl) (ls := [some (.ref 117)]) rfl ?_
  refine q_aload_n (pc' := 1) ja_Reader_fail_0 rfl rfl ?_
  refine q_getf (pc' := 4) (v := .int (s 117 7)) ja_Reader_fail_1 rfl (by decide) ⟨rfl, by decide⟩ rfl ?_
  refine q_iconst (pc' := 5) ja_Reader_fail_4 rfl (-1) (by decide) ?_
  refine q_ic_ne (pc' := 8) ja_Reader_fail_5 rfl ?_ ?_
  · intro h1
    refine q_aload_n (pc' := 17) ja_Reader_fail_16 rfl rfl ?_
    refine q_bipush (pc' := 19) ja_Reader_fail_17 rfl 17 (by decide) ?_
    refine q_putf (pc' := 22) ja_Reader_fail_19 rfl (by decide) rfl rfl rfl ?_
    intro s1 e1
    exact q_vret ja_Reader_fail_22 rfl (k1 h1 s1 e1)
  · intro h2
    refine q_aload_n (pc' := 9) ja_Reader_fail_8 rfl rfl ?_
    refine q_aload_n (pc' := 10) ja_Reader_fail_9 rfl rfl ?_
    refine q_getf (pc' := 13) (v := .int (s 117 2)) ja_Reader_fail_10 rfl (by decide) ⟨rfl, by decide⟩ rfl ?_
    refine q_putf (pc' := 16) ja_Reader_fail_13 rfl (by decide) rfl rfl rfl ?_
    intro s2 e2
    refine q_aload_n (pc' := 17) ja_Reader_fail_16 rfl rfl ?_
    refine q_bipush (pc' := 19) ja_Reader_fail_17 rfl 17 (by decide) ?_
    refine q_putf (pc' := 22) ja_Reader_fail_19 rfl (by decide) rfl rfl rfl ?_
    intro s3 e3
    exact q_vret ja_Reader_fail_22 rfl (k2 h2 s2 e2 s3 e3)
set_option maxRecDepth 20000 in
theorem t_Reader_goOn {G : jv_X} {d : Nat} {B : Option Value → jg_H → Prop} {s : jg_H} 
    (k1 : (s 117 7) = (-1) → q_W G (d + 2) jm_Reader_goOn B 9 [some (.ref 117)] [] s)
    (k2 : ¬ (s 117 7) = (-1) → B none s) :
    q_P G (d + 3) 21 [.ref 117] s B := by
  refine q_in (M := jm_Reader_goOn) rfl (Nat.le_of_ble_eq_true rfl) (ls := [some (.ref 117)]) rfl ?_
  refine q_aload_n (pc' := 1) ja_Reader_goOn_0 rfl rfl ?_
  refine q_getf (pc' := 4) (v := .int (s 117 7)) ja_Reader_goOn_1 rfl (by decide) ⟨rfl, by decide⟩ rfl ?_
  refine q_iconst (pc' := 5) ja_Reader_goOn_4 rfl (-1) (by decide) ?_
  refine q_ic_eq (pc' := 8) ja_Reader_goOn_5 rfl ?_ ?_
  · intro h1
    exact (k1 h1)
  · intro h2
    exact q_vret ja_Reader_goOn_8 rfl (k2 h2)
set_option maxRecDepth 20000 in
theorem t_Reader_goOn_9 {G : jv_X} {d : Nat} {B : Option Value → jg_H → Prop} {s : jg_H} 
    (k1 : ¬ (s 117 3) < (s 117 1) → ∀ s1 : jg_H, s1 = jg_up s 117 2 (s 117 3) → (s1 117 2) < (s1 117 1) → (s1 117 2) < 0 → ∀ s2 : jg_H, s2 = jg_up s1 117 3 ((s1 117 3) + 1) → ¬ (s2 117 7) = (-1) → ∀ s3 : jg_H, s3 = jg_up s2 117 4 17 → B none s3)
    (k2 : ¬ (s 117 3) < (s 117 1) → ∀ s1 : jg_H, s1 = jg_up s 117 2 (s 117 3) → (s1 117 2) < (s1 117 1) → (s1 117 2) < 0 → ∀ s2 : jg_H, s2 = jg_up s1 117 3 ((s1 117 3) + 1) → (s2 117 7) = (-1) → ∀ s4 : jg_H, s4 = jg_up s2 117 7 (s2 117 2) → ∀ s5 : jg_H, s5 = jg_up s4 117 4 17 → B none s5)
    (k3 : ¬ (s 117 3) < (s 117 1) → ∀ s1 : jg_H, s1 = jg_up s 117 2 (s 117 3) → (s1 117 2) < (s1 117 1) → ¬ (s1 117 2) < 0 → ¬ (s1 117 2) < 200 → ∀ s6 : jg_H, s6 = jg_up s1 117 3 ((s1 117 3) + 1) → ¬ (s6 117 7) = (-1) → ∀ s7 : jg_H, s7 = jg_up s6 117 4 17 → B none s7)
    (k4 : ¬ (s 117 3) < (s 117 1) → ∀ s1 : jg_H, s1 = jg_up s 117 2 (s 117 3) → (s1 117 2) < (s1 117 1) → ¬ (s1 117 2) < 0 → ¬ (s1 117 2) < 200 → ∀ s6 : jg_H, s6 = jg_up s1 117 3 ((s1 117 3) + 1) → (s6 117 7) = (-1) → ∀ s8 : jg_H, s8 = jg_up s6 117 7 (s6 117 2) → ∀ s9 : jg_H, s9 = jg_up s8 117 4 17 → B none s9)
    (k5 : ¬ (s 117 3) < (s 117 1) → ∀ s1 : jg_H, s1 = jg_up s 117 2 (s 117 3) → (s1 117 2) < (s1 117 1) → ¬ (s1 117 2) < 0 → (s1 117 2) < 200 → (s1 118 (s1 117 2).toNatClampNeg) < 97 → (s1 118 (s1 117 2).toNatClampNeg) < 48 → ∀ s10 : jg_H, s10 = jg_up s1 117 3 ((s1 117 3) + 1) → ((s1 118 (s1 117 2).toNatClampNeg) = 40 ∨ (s1 118 (s1 117 2).toNatClampNeg) = 41 ∨ (s1 118 (s1 117 2).toNatClampNeg) = 42 ∨ (s1 118 (s1 117 2).toNatClampNeg) = 43 ∨ (s1 118 (s1 117 2).toNatClampNeg) = 45 ∨ (s1 118 (s1 117 2).toNatClampNeg) = 59 ∨ (s1 118 (s1 117 2).toNatClampNeg) = 60 ∨ (s1 118 (s1 117 2).toNatClampNeg) = 61) → ∀ s11 : jg_H, s11 = jg_up s10 117 4 (s1 118 (s1 117 2).toNatClampNeg) → B none s11)
    (k6 : ¬ (s 117 3) < (s 117 1) → ∀ s1 : jg_H, s1 = jg_up s 117 2 (s 117 3) → (s1 117 2) < (s1 117 1) → ¬ (s1 117 2) < 0 → (s1 117 2) < 200 → (s1 118 (s1 117 2).toNatClampNeg) < 97 → (s1 118 (s1 117 2).toNatClampNeg) < 48 → ∀ s10 : jg_H, s10 = jg_up s1 117 3 ((s1 117 3) + 1) → ¬ ((s1 118 (s1 117 2).toNatClampNeg) = 40 ∨ (s1 118 (s1 117 2).toNatClampNeg) = 41 ∨ (s1 118 (s1 117 2).toNatClampNeg) = 42 ∨ (s1 118 (s1 117 2).toNatClampNeg) = 43 ∨ (s1 118 (s1 117 2).toNatClampNeg) = 45 ∨ (s1 118 (s1 117 2).toNatClampNeg) = 59 ∨ (s1 118 (s1 117 2).toNatClampNeg) = 60 ∨ (s1 118 (s1 117 2).toNatClampNeg) = 61) → ¬ (s10 117 7) = (-1) → ∀ s12 : jg_H, s12 = jg_up s10 117 4 17 → B none s12)
    (k7 : ¬ (s 117 3) < (s 117 1) → ∀ s1 : jg_H, s1 = jg_up s 117 2 (s 117 3) → (s1 117 2) < (s1 117 1) → ¬ (s1 117 2) < 0 → (s1 117 2) < 200 → (s1 118 (s1 117 2).toNatClampNeg) < 97 → (s1 118 (s1 117 2).toNatClampNeg) < 48 → ∀ s10 : jg_H, s10 = jg_up s1 117 3 ((s1 117 3) + 1) → ¬ ((s1 118 (s1 117 2).toNatClampNeg) = 40 ∨ (s1 118 (s1 117 2).toNatClampNeg) = 41 ∨ (s1 118 (s1 117 2).toNatClampNeg) = 42 ∨ (s1 118 (s1 117 2).toNatClampNeg) = 43 ∨ (s1 118 (s1 117 2).toNatClampNeg) = 45 ∨ (s1 118 (s1 117 2).toNatClampNeg) = 59 ∨ (s1 118 (s1 117 2).toNatClampNeg) = 60 ∨ (s1 118 (s1 117 2).toNatClampNeg) = 61) → (s10 117 7) = (-1) → ∀ s13 : jg_H, s13 = jg_up s10 117 7 (s10 117 2) → ∀ s14 : jg_H, s14 = jg_up s13 117 4 17 → B none s14)
    (k8 : ¬ (s 117 3) < (s 117 1) → ∀ s1 : jg_H, s1 = jg_up s 117 2 (s 117 3) → (s1 117 2) < (s1 117 1) → ¬ (s1 117 2) < 0 → (s1 117 2) < 200 → (s1 118 (s1 117 2).toNatClampNeg) < 97 → ¬ (s1 118 (s1 117 2).toNatClampNeg) < 48 → ¬ (s1 118 (s1 117 2).toNatClampNeg) ≤ 57 → ∀ s15 : jg_H, s15 = jg_up s1 117 3 ((s1 117 3) + 1) → ((s1 118 (s1 117 2).toNatClampNeg) = 40 ∨ (s1 118 (s1 117 2).toNatClampNeg) = 41 ∨ (s1 118 (s1 117 2).toNatClampNeg) = 42 ∨ (s1 118 (s1 117 2).toNatClampNeg) = 43 ∨ (s1 118 (s1 117 2).toNatClampNeg) = 45 ∨ (s1 118 (s1 117 2).toNatClampNeg) = 59 ∨ (s1 118 (s1 117 2).toNatClampNeg) = 60 ∨ (s1 118 (s1 117 2).toNatClampNeg) = 61) → ∀ s16 : jg_H, s16 = jg_up s15 117 4 (s1 118 (s1 117 2).toNatClampNeg) → B none s16)
    (k9 : ¬ (s 117 3) < (s 117 1) → ∀ s1 : jg_H, s1 = jg_up s 117 2 (s 117 3) → (s1 117 2) < (s1 117 1) → ¬ (s1 117 2) < 0 → (s1 117 2) < 200 → (s1 118 (s1 117 2).toNatClampNeg) < 97 → ¬ (s1 118 (s1 117 2).toNatClampNeg) < 48 → ¬ (s1 118 (s1 117 2).toNatClampNeg) ≤ 57 → ∀ s15 : jg_H, s15 = jg_up s1 117 3 ((s1 117 3) + 1) → ¬ ((s1 118 (s1 117 2).toNatClampNeg) = 40 ∨ (s1 118 (s1 117 2).toNatClampNeg) = 41 ∨ (s1 118 (s1 117 2).toNatClampNeg) = 42 ∨ (s1 118 (s1 117 2).toNatClampNeg) = 43 ∨ (s1 118 (s1 117 2).toNatClampNeg) = 45 ∨ (s1 118 (s1 117 2).toNatClampNeg) = 59 ∨ (s1 118 (s1 117 2).toNatClampNeg) = 60 ∨ (s1 118 (s1 117 2).toNatClampNeg) = 61) → ¬ (s15 117 7) = (-1) → ∀ s17 : jg_H, s17 = jg_up s15 117 4 17 → B none s17)
    (k10 : ¬ (s 117 3) < (s 117 1) → ∀ s1 : jg_H, s1 = jg_up s 117 2 (s 117 3) → (s1 117 2) < (s1 117 1) → ¬ (s1 117 2) < 0 → (s1 117 2) < 200 → (s1 118 (s1 117 2).toNatClampNeg) < 97 → ¬ (s1 118 (s1 117 2).toNatClampNeg) < 48 → ¬ (s1 118 (s1 117 2).toNatClampNeg) ≤ 57 → ∀ s15 : jg_H, s15 = jg_up s1 117 3 ((s1 117 3) + 1) → ¬ ((s1 118 (s1 117 2).toNatClampNeg) = 40 ∨ (s1 118 (s1 117 2).toNatClampNeg) = 41 ∨ (s1 118 (s1 117 2).toNatClampNeg) = 42 ∨ (s1 118 (s1 117 2).toNatClampNeg) = 43 ∨ (s1 118 (s1 117 2).toNatClampNeg) = 45 ∨ (s1 118 (s1 117 2).toNatClampNeg) = 59 ∨ (s1 118 (s1 117 2).toNatClampNeg) = 60 ∨ (s1 118 (s1 117 2).toNatClampNeg) = 61) → (s15 117 7) = (-1) → ∀ s18 : jg_H, s18 = jg_up s15 117 7 (s15 117 2) → ∀ s19 : jg_H, s19 = jg_up s18 117 4 17 → B none s19)
    (k11 : ¬ (s 117 3) < (s 117 1) → ∀ s1 : jg_H, s1 = jg_up s 117 2 (s 117 3) → (s1 117 2) < (s1 117 1) → ¬ (s1 117 2) < 0 → (s1 117 2) < 200 → (s1 118 (s1 117 2).toNatClampNeg) < 97 → ¬ (s1 118 (s1 117 2).toNatClampNeg) < 48 → (s1 118 (s1 117 2).toNatClampNeg) ≤ 57 → q_P G (d + 2) 28 [.ref 117] s1 (fun v t => q_W G (d + 2) jm_Reader_goOn B 120 [some (.ref 117)] (v.toList ++ []) t))
    (k12 : ¬ (s 117 3) < (s 117 1) → ∀ s1 : jg_H, s1 = jg_up s 117 2 (s 117 3) → (s1 117 2) < (s1 117 1) → ¬ (s1 117 2) < 0 → (s1 117 2) < 200 → ¬ (s1 118 (s1 117 2).toNatClampNeg) < 97 → ¬ (s1 118 (s1 117 2).toNatClampNeg) ≤ 122 → (s1 118 (s1 117 2).toNatClampNeg) < 48 → ∀ s20 : jg_H, s20 = jg_up s1 117 3 ((s1 117 3) + 1) → ((s1 118 (s1 117 2).toNatClampNeg) = 40 ∨ (s1 118 (s1 117 2).toNatClampNeg) = 41 ∨ (s1 118 (s1 117 2).toNatClampNeg) = 42 ∨ (s1 118 (s1 117 2).toNatClampNeg) = 43 ∨ (s1 118 (s1 117 2).toNatClampNeg) = 45 ∨ (s1 118 (s1 117 2).toNatClampNeg) = 59 ∨ (s1 118 (s1 117 2).toNatClampNeg) = 60 ∨ (s1 118 (s1 117 2).toNatClampNeg) = 61) → ∀ s21 : jg_H, s21 = jg_up s20 117 4 (s1 118 (s1 117 2).toNatClampNeg) → B none s21)
    (k13 : ¬ (s 117 3) < (s 117 1) → ∀ s1 : jg_H, s1 = jg_up s 117 2 (s 117 3) → (s1 117 2) < (s1 117 1) → ¬ (s1 117 2) < 0 → (s1 117 2) < 200 → ¬ (s1 118 (s1 117 2).toNatClampNeg) < 97 → ¬ (s1 118 (s1 117 2).toNatClampNeg) ≤ 122 → (s1 118 (s1 117 2).toNatClampNeg) < 48 → ∀ s20 : jg_H, s20 = jg_up s1 117 3 ((s1 117 3) + 1) → ¬ ((s1 118 (s1 117 2).toNatClampNeg) = 40 ∨ (s1 118 (s1 117 2).toNatClampNeg) = 41 ∨ (s1 118 (s1 117 2).toNatClampNeg) = 42 ∨ (s1 118 (s1 117 2).toNatClampNeg) = 43 ∨ (s1 118 (s1 117 2).toNatClampNeg) = 45 ∨ (s1 118 (s1 117 2).toNatClampNeg) = 59 ∨ (s1 118 (s1 117 2).toNatClampNeg) = 60 ∨ (s1 118 (s1 117 2).toNatClampNeg) = 61) → ¬ (s20 117 7) = (-1) → ∀ s22 : jg_H, s22 = jg_up s20 117 4 17 → B none s22)
    (k14 : ¬ (s 117 3) < (s 117 1) → ∀ s1 : jg_H, s1 = jg_up s 117 2 (s 117 3) → (s1 117 2) < (s1 117 1) → ¬ (s1 117 2) < 0 → (s1 117 2) < 200 → ¬ (s1 118 (s1 117 2).toNatClampNeg) < 97 → ¬ (s1 118 (s1 117 2).toNatClampNeg) ≤ 122 → (s1 118 (s1 117 2).toNatClampNeg) < 48 → ∀ s20 : jg_H, s20 = jg_up s1 117 3 ((s1 117 3) + 1) → ¬ ((s1 118 (s1 117 2).toNatClampNeg) = 40 ∨ (s1 118 (s1 117 2).toNatClampNeg) = 41 ∨ (s1 118 (s1 117 2).toNatClampNeg) = 42 ∨ (s1 118 (s1 117 2).toNatClampNeg) = 43 ∨ (s1 118 (s1 117 2).toNatClampNeg) = 45 ∨ (s1 118 (s1 117 2).toNatClampNeg) = 59 ∨ (s1 118 (s1 117 2).toNatClampNeg) = 60 ∨ (s1 118 (s1 117 2).toNatClampNeg) = 61) → (s20 117 7) = (-1) → ∀ s23 : jg_H, s23 = jg_up s20 117 7 (s20 117 2) → ∀ s24 : jg_H, s24 = jg_up s23 117 4 17 → B none s24)
    (k15 : ¬ (s 117 3) < (s 117 1) → ∀ s1 : jg_H, s1 = jg_up s 117 2 (s 117 3) → (s1 117 2) < (s1 117 1) → ¬ (s1 117 2) < 0 → (s1 117 2) < 200 → ¬ (s1 118 (s1 117 2).toNatClampNeg) < 97 → ¬ (s1 118 (s1 117 2).toNatClampNeg) ≤ 122 → ¬ (s1 118 (s1 117 2).toNatClampNeg) < 48 → ¬ (s1 118 (s1 117 2).toNatClampNeg) ≤ 57 → ∀ s25 : jg_H, s25 = jg_up s1 117 3 ((s1 117 3) + 1) → ((s1 118 (s1 117 2).toNatClampNeg) = 40 ∨ (s1 118 (s1 117 2).toNatClampNeg) = 41 ∨ (s1 118 (s1 117 2).toNatClampNeg) = 42 ∨ (s1 118 (s1 117 2).toNatClampNeg) = 43 ∨ (s1 118 (s1 117 2).toNatClampNeg) = 45 ∨ (s1 118 (s1 117 2).toNatClampNeg) = 59 ∨ (s1 118 (s1 117 2).toNatClampNeg) = 60 ∨ (s1 118 (s1 117 2).toNatClampNeg) = 61) → ∀ s26 : jg_H, s26 = jg_up s25 117 4 (s1 118 (s1 117 2).toNatClampNeg) → B none s26)
    (k16 : ¬ (s 117 3) < (s 117 1) → ∀ s1 : jg_H, s1 = jg_up s 117 2 (s 117 3) → (s1 117 2) < (s1 117 1) → ¬ (s1 117 2) < 0 → (s1 117 2) < 200 → ¬ (s1 118 (s1 117 2).toNatClampNeg) < 97 → ¬ (s1 118 (s1 117 2).toNatClampNeg) ≤ 122 → ¬ (s1 118 (s1 117 2).toNatClampNeg) < 48 → ¬ (s1 118 (s1 117 2).toNatClampNeg) ≤ 57 → ∀ s25 : jg_H, s25 = jg_up s1 117 3 ((s1 117 3) + 1) → ¬ ((s1 118 (s1 117 2).toNatClampNeg) = 40 ∨ (s1 118 (s1 117 2).toNatClampNeg) = 41 ∨ (s1 118 (s1 117 2).toNatClampNeg) = 42 ∨ (s1 118 (s1 117 2).toNatClampNeg) = 43 ∨ (s1 118 (s1 117 2).toNatClampNeg) = 45 ∨ (s1 118 (s1 117 2).toNatClampNeg) = 59 ∨ (s1 118 (s1 117 2).toNatClampNeg) = 60 ∨ (s1 118 (s1 117 2).toNatClampNeg) = 61) → ¬ (s25 117 7) = (-1) → ∀ s27 : jg_H, s27 = jg_up s25 117 4 17 → B none s27)
    (k17 : ¬ (s 117 3) < (s 117 1) → ∀ s1 : jg_H, s1 = jg_up s 117 2 (s 117 3) → (s1 117 2) < (s1 117 1) → ¬ (s1 117 2) < 0 → (s1 117 2) < 200 → ¬ (s1 118 (s1 117 2).toNatClampNeg) < 97 → ¬ (s1 118 (s1 117 2).toNatClampNeg) ≤ 122 → ¬ (s1 118 (s1 117 2).toNatClampNeg) < 48 → ¬ (s1 118 (s1 117 2).toNatClampNeg) ≤ 57 → ∀ s25 : jg_H, s25 = jg_up s1 117 3 ((s1 117 3) + 1) → ¬ ((s1 118 (s1 117 2).toNatClampNeg) = 40 ∨ (s1 118 (s1 117 2).toNatClampNeg) = 41 ∨ (s1 118 (s1 117 2).toNatClampNeg) = 42 ∨ (s1 118 (s1 117 2).toNatClampNeg) = 43 ∨ (s1 118 (s1 117 2).toNatClampNeg) = 45 ∨ (s1 118 (s1 117 2).toNatClampNeg) = 59 ∨ (s1 118 (s1 117 2).toNatClampNeg) = 60 ∨ (s1 118 (s1 117 2).toNatClampNeg) = 61) → (s25 117 7) = (-1) → ∀ s28 : jg_H, s28 = jg_up s25 117 7 (s25 117 2) → ∀ s29 : jg_H, s29 = jg_up s28 117 4 17 → B none s29)
    (k18 : ¬ (s 117 3) < (s 117 1) → ∀ s1 : jg_H, s1 = jg_up s 117 2 (s 117 3) → (s1 117 2) < (s1 117 1) → ¬ (s1 117 2) < 0 → (s1 117 2) < 200 → ¬ (s1 118 (s1 117 2).toNatClampNeg) < 97 → ¬ (s1 118 (s1 117 2).toNatClampNeg) ≤ 122 → ¬ (s1 118 (s1 117 2).toNatClampNeg) < 48 → (s1 118 (s1 117 2).toNatClampNeg) ≤ 57 → q_P G (d + 2) 28 [.ref 117] s1 (fun v t => q_W G (d + 2) jm_Reader_goOn B 120 [some (.ref 117)] (v.toList ++ []) t))
    (k19 : ¬ (s 117 3) < (s 117 1) → ∀ s1 : jg_H, s1 = jg_up s 117 2 (s 117 3) → (s1 117 2) < (s1 117 1) → ¬ (s1 117 2) < 0 → (s1 117 2) < 200 → ¬ (s1 118 (s1 117 2).toNatClampNeg) < 97 → (s1 118 (s1 117 2).toNatClampNeg) ≤ 122 → q_P G (d + 2) 24 [.ref 117] s1 (fun v t => q_W G (d + 2) jm_Reader_goOn B 102 [some (.ref 117)] (v.toList ++ []) t))
    (k20 : ¬ (s 117 3) < (s 117 1) → ∀ s1 : jg_H, s1 = jg_up s 117 2 (s 117 3) → ¬ (s1 117 2) < (s1 117 1) → ∀ s30 : jg_H, s30 = jg_up s1 117 4 16 → B none s30)
    (k21 : (s 117 3) < (s 117 1) → (s 117 3) < 0 → ∀ s31 : jg_H, s31 = jg_up s 117 2 (s 117 3) → (s31 117 2) < (s31 117 1) → (s31 117 2) < 0 → ∀ s32 : jg_H, s32 = jg_up s31 117 3 ((s31 117 3) + 1) → ¬ (s32 117 7) = (-1) → ∀ s33 : jg_H, s33 = jg_up s32 117 4 17 → B none s33)
    (k22 : (s 117 3) < (s 117 1) → (s 117 3) < 0 → ∀ s31 : jg_H, s31 = jg_up s 117 2 (s 117 3) → (s31 117 2) < (s31 117 1) → (s31 117 2) < 0 → ∀ s32 : jg_H, s32 = jg_up s31 117 3 ((s31 117 3) + 1) → (s32 117 7) = (-1) → ∀ s34 : jg_H, s34 = jg_up s32 117 7 (s32 117 2) → ∀ s35 : jg_H, s35 = jg_up s34 117 4 17 → B none s35)
    (k23 : (s 117 3) < (s 117 1) → (s 117 3) < 0 → ∀ s31 : jg_H, s31 = jg_up s 117 2 (s 117 3) → (s31 117 2) < (s31 117 1) → ¬ (s31 117 2) < 0 → ¬ (s31 117 2) < 200 → ∀ s36 : jg_H, s36 = jg_up s31 117 3 ((s31 117 3) + 1) → ¬ (s36 117 7) = (-1) → ∀ s37 : jg_H, s37 = jg_up s36 117 4 17 → B none s37)
    (k24 : (s 117 3) < (s 117 1) → (s 117 3) < 0 → ∀ s31 : jg_H, s31 = jg_up s 117 2 (s 117 3) → (s31 117 2) < (s31 117 1) → ¬ (s31 117 2) < 0 → ¬ (s31 117 2) < 200 → ∀ s36 : jg_H, s36 = jg_up s31 117 3 ((s31 117 3) + 1) → (s36 117 7) = (-1) → ∀ s38 : jg_H, s38 = jg_up s36 117 7 (s36 117 2) → ∀ s39 : jg_H, s39 = jg_up s38 117 4 17 → B none s39)
    (k25 : (s 117 3) < (s 117 1) → (s 117 3) < 0 → ∀ s31 : jg_H, s31 = jg_up s 117 2 (s 117 3) → (s31 117 2) < (s31 117 1) → ¬ (s31 117 2) < 0 → (s31 117 2) < 200 → (s31 118 (s31 117 2).toNatClampNeg) < 97 → (s31 118 (s31 117 2).toNatClampNeg) < 48 → ∀ s40 : jg_H, s40 = jg_up s31 117 3 ((s31 117 3) + 1) → ((s31 118 (s31 117 2).toNatClampNeg) = 40 ∨ (s31 118 (s31 117 2).toNatClampNeg) = 41 ∨ (s31 118 (s31 117 2).toNatClampNeg) = 42 ∨ (s31 118 (s31 117 2).toNatClampNeg) = 43 ∨ (s31 118 (s31 117 2).toNatClampNeg) = 45 ∨ (s31 118 (s31 117 2).toNatClampNeg) = 59 ∨ (s31 118 (s31 117 2).toNatClampNeg) = 60 ∨ (s31 118 (s31 117 2).toNatClampNeg) = 61) → ∀ s41 : jg_H, s41 = jg_up s40 117 4 (s31 118 (s31 117 2).toNatClampNeg) → B none s41)
    (k26 : (s 117 3) < (s 117 1) → (s 117 3) < 0 → ∀ s31 : jg_H, s31 = jg_up s 117 2 (s 117 3) → (s31 117 2) < (s31 117 1) → ¬ (s31 117 2) < 0 → (s31 117 2) < 200 → (s31 118 (s31 117 2).toNatClampNeg) < 97 → (s31 118 (s31 117 2).toNatClampNeg) < 48 → ∀ s40 : jg_H, s40 = jg_up s31 117 3 ((s31 117 3) + 1) → ¬ ((s31 118 (s31 117 2).toNatClampNeg) = 40 ∨ (s31 118 (s31 117 2).toNatClampNeg) = 41 ∨ (s31 118 (s31 117 2).toNatClampNeg) = 42 ∨ (s31 118 (s31 117 2).toNatClampNeg) = 43 ∨ (s31 118 (s31 117 2).toNatClampNeg) = 45 ∨ (s31 118 (s31 117 2).toNatClampNeg) = 59 ∨ (s31 118 (s31 117 2).toNatClampNeg) = 60 ∨ (s31 118 (s31 117 2).toNatClampNeg) = 61) → ¬ (s40 117 7) = (-1) → ∀ s42 : jg_H, s42 = jg_up s40 117 4 17 → B none s42)
    (k27 : (s 117 3) < (s 117 1) → (s 117 3) < 0 → ∀ s31 : jg_H, s31 = jg_up s 117 2 (s 117 3) → (s31 117 2) < (s31 117 1) → ¬ (s31 117 2) < 0 → (s31 117 2) < 200 → (s31 118 (s31 117 2).toNatClampNeg) < 97 → (s31 118 (s31 117 2).toNatClampNeg) < 48 → ∀ s40 : jg_H, s40 = jg_up s31 117 3 ((s31 117 3) + 1) → ¬ ((s31 118 (s31 117 2).toNatClampNeg) = 40 ∨ (s31 118 (s31 117 2).toNatClampNeg) = 41 ∨ (s31 118 (s31 117 2).toNatClampNeg) = 42 ∨ (s31 118 (s31 117 2).toNatClampNeg) = 43 ∨ (s31 118 (s31 117 2).toNatClampNeg) = 45 ∨ (s31 118 (s31 117 2).toNatClampNeg) = 59 ∨ (s31 118 (s31 117 2).toNatClampNeg) = 60 ∨ (s31 118 (s31 117 2).toNatClampNeg) = 61) → (s40 117 7) = (-1) → ∀ s43 : jg_H, s43 = jg_up s40 117 7 (s40 117 2) → ∀ s44 : jg_H, s44 = jg_up s43 117 4 17 → B none s44)
    (k28 : (s 117 3) < (s 117 1) → (s 117 3) < 0 → ∀ s31 : jg_H, s31 = jg_up s 117 2 (s 117 3) → (s31 117 2) < (s31 117 1) → ¬ (s31 117 2) < 0 → (s31 117 2) < 200 → (s31 118 (s31 117 2).toNatClampNeg) < 97 → ¬ (s31 118 (s31 117 2).toNatClampNeg) < 48 → ¬ (s31 118 (s31 117 2).toNatClampNeg) ≤ 57 → ∀ s45 : jg_H, s45 = jg_up s31 117 3 ((s31 117 3) + 1) → ((s31 118 (s31 117 2).toNatClampNeg) = 40 ∨ (s31 118 (s31 117 2).toNatClampNeg) = 41 ∨ (s31 118 (s31 117 2).toNatClampNeg) = 42 ∨ (s31 118 (s31 117 2).toNatClampNeg) = 43 ∨ (s31 118 (s31 117 2).toNatClampNeg) = 45 ∨ (s31 118 (s31 117 2).toNatClampNeg) = 59 ∨ (s31 118 (s31 117 2).toNatClampNeg) = 60 ∨ (s31 118 (s31 117 2).toNatClampNeg) = 61) → ∀ s46 : jg_H, s46 = jg_up s45 117 4 (s31 118 (s31 117 2).toNatClampNeg) → B none s46)
    (k29 : (s 117 3) < (s 117 1) → (s 117 3) < 0 → ∀ s31 : jg_H, s31 = jg_up s 117 2 (s 117 3) → (s31 117 2) < (s31 117 1) → ¬ (s31 117 2) < 0 → (s31 117 2) < 200 → (s31 118 (s31 117 2).toNatClampNeg) < 97 → ¬ (s31 118 (s31 117 2).toNatClampNeg) < 48 → ¬ (s31 118 (s31 117 2).toNatClampNeg) ≤ 57 → ∀ s45 : jg_H, s45 = jg_up s31 117 3 ((s31 117 3) + 1) → ¬ ((s31 118 (s31 117 2).toNatClampNeg) = 40 ∨ (s31 118 (s31 117 2).toNatClampNeg) = 41 ∨ (s31 118 (s31 117 2).toNatClampNeg) = 42 ∨ (s31 118 (s31 117 2).toNatClampNeg) = 43 ∨ (s31 118 (s31 117 2).toNatClampNeg) = 45 ∨ (s31 118 (s31 117 2).toNatClampNeg) = 59 ∨ (s31 118 (s31 117 2).toNatClampNeg) = 60 ∨ (s31 118 (s31 117 2).toNatClampNeg) = 61) → ¬ (s45 117 7) = (-1) → ∀ s47 : jg_H, s47 = jg_up s45 117 4 17 → B none s47)
    (k30 : (s 117 3) < (s 117 1) → (s 117 3) < 0 → ∀ s31 : jg_H, s31 = jg_up s 117 2 (s 117 3) → (s31 117 2) < (s31 117 1) → ¬ (s31 117 2) < 0 → (s31 117 2) < 200 → (s31 118 (s31 117 2).toNatClampNeg) < 97 → ¬ (s31 118 (s31 117 2).toNatClampNeg) < 48 → ¬ (s31 118 (s31 117 2).toNatClampNeg) ≤ 57 → ∀ s45 : jg_H, s45 = jg_up s31 117 3 ((s31 117 3) + 1) → ¬ ((s31 118 (s31 117 2).toNatClampNeg) = 40 ∨ (s31 118 (s31 117 2).toNatClampNeg) = 41 ∨ (s31 118 (s31 117 2).toNatClampNeg) = 42 ∨ (s31 118 (s31 117 2).toNatClampNeg) = 43 ∨ (s31 118 (s31 117 2).toNatClampNeg) = 45 ∨ (s31 118 (s31 117 2).toNatClampNeg) = 59 ∨ (s31 118 (s31 117 2).toNatClampNeg) = 60 ∨ (s31 118 (s31 117 2).toNatClampNeg) = 61) → (s45 117 7) = (-1) → ∀ s48 : jg_H, s48 = jg_up s45 117 7 (s45 117 2) → ∀ s49 : jg_H, s49 = jg_up s48 117 4 17 → B none s49)
    (k31 : (s 117 3) < (s 117 1) → (s 117 3) < 0 → ∀ s31 : jg_H, s31 = jg_up s 117 2 (s 117 3) → (s31 117 2) < (s31 117 1) → ¬ (s31 117 2) < 0 → (s31 117 2) < 200 → (s31 118 (s31 117 2).toNatClampNeg) < 97 → ¬ (s31 118 (s31 117 2).toNatClampNeg) < 48 → (s31 118 (s31 117 2).toNatClampNeg) ≤ 57 → q_P G (d + 2) 28 [.ref 117] s31 (fun v t => q_W G (d + 2) jm_Reader_goOn B 120 [some (.ref 117)] (v.toList ++ []) t))
    (k32 : (s 117 3) < (s 117 1) → (s 117 3) < 0 → ∀ s31 : jg_H, s31 = jg_up s 117 2 (s 117 3) → (s31 117 2) < (s31 117 1) → ¬ (s31 117 2) < 0 → (s31 117 2) < 200 → ¬ (s31 118 (s31 117 2).toNatClampNeg) < 97 → ¬ (s31 118 (s31 117 2).toNatClampNeg) ≤ 122 → (s31 118 (s31 117 2).toNatClampNeg) < 48 → ∀ s50 : jg_H, s50 = jg_up s31 117 3 ((s31 117 3) + 1) → ((s31 118 (s31 117 2).toNatClampNeg) = 40 ∨ (s31 118 (s31 117 2).toNatClampNeg) = 41 ∨ (s31 118 (s31 117 2).toNatClampNeg) = 42 ∨ (s31 118 (s31 117 2).toNatClampNeg) = 43 ∨ (s31 118 (s31 117 2).toNatClampNeg) = 45 ∨ (s31 118 (s31 117 2).toNatClampNeg) = 59 ∨ (s31 118 (s31 117 2).toNatClampNeg) = 60 ∨ (s31 118 (s31 117 2).toNatClampNeg) = 61) → ∀ s51 : jg_H, s51 = jg_up s50 117 4 (s31 118 (s31 117 2).toNatClampNeg) → B none s51)
    (k33 : (s 117 3) < (s 117 1) → (s 117 3) < 0 → ∀ s31 : jg_H, s31 = jg_up s 117 2 (s 117 3) → (s31 117 2) < (s31 117 1) → ¬ (s31 117 2) < 0 → (s31 117 2) < 200 → ¬ (s31 118 (s31 117 2).toNatClampNeg) < 97 → ¬ (s31 118 (s31 117 2).toNatClampNeg) ≤ 122 → (s31 118 (s31 117 2).toNatClampNeg) < 48 → ∀ s50 : jg_H, s50 = jg_up s31 117 3 ((s31 117 3) + 1) → ¬ ((s31 118 (s31 117 2).toNatClampNeg) = 40 ∨ (s31 118 (s31 117 2).toNatClampNeg) = 41 ∨ (s31 118 (s31 117 2).toNatClampNeg) = 42 ∨ (s31 118 (s31 117 2).toNatClampNeg) = 43 ∨ (s31 118 (s31 117 2).toNatClampNeg) = 45 ∨ (s31 118 (s31 117 2).toNatClampNeg) = 59 ∨ (s31 118 (s31 117 2).toNatClampNeg) = 60 ∨ (s31 118 (s31 117 2).toNatClampNeg) = 61) → ¬ (s50 117 7) = (-1) → ∀ s52 : jg_H, s52 = jg_up s50 117 4 17 → B none s52)
    (k34 : (s 117 3) < (s 117 1) → (s 117 3) < 0 → ∀ s31 : jg_H, s31 = jg_up s 117 2 (s 117 3) → (s31 117 2) < (s31 117 1) → ¬ (s31 117 2) < 0 → (s31 117 2) < 200 → ¬ (s31 118 (s31 117 2).toNatClampNeg) < 97 → ¬ (s31 118 (s31 117 2).toNatClampNeg) ≤ 122 → (s31 118 (s31 117 2).toNatClampNeg) < 48 → ∀ s50 : jg_H, s50 = jg_up s31 117 3 ((s31 117 3) + 1) → ¬ ((s31 118 (s31 117 2).toNatClampNeg) = 40 ∨ (s31 118 (s31 117 2).toNatClampNeg) = 41 ∨ (s31 118 (s31 117 2).toNatClampNeg) = 42 ∨ (s31 118 (s31 117 2).toNatClampNeg) = 43 ∨ (s31 118 (s31 117 2).toNatClampNeg) = 45 ∨ (s31 118 (s31 117 2).toNatClampNeg) = 59 ∨ (s31 118 (s31 117 2).toNatClampNeg) = 60 ∨ (s31 118 (s31 117 2).toNatClampNeg) = 61) → (s50 117 7) = (-1) → ∀ s53 : jg_H, s53 = jg_up s50 117 7 (s50 117 2) → ∀ s54 : jg_H, s54 = jg_up s53 117 4 17 → B none s54)
    (k35 : (s 117 3) < (s 117 1) → (s 117 3) < 0 → ∀ s31 : jg_H, s31 = jg_up s 117 2 (s 117 3) → (s31 117 2) < (s31 117 1) → ¬ (s31 117 2) < 0 → (s31 117 2) < 200 → ¬ (s31 118 (s31 117 2).toNatClampNeg) < 97 → ¬ (s31 118 (s31 117 2).toNatClampNeg) ≤ 122 → ¬ (s31 118 (s31 117 2).toNatClampNeg) < 48 → ¬ (s31 118 (s31 117 2).toNatClampNeg) ≤ 57 → ∀ s55 : jg_H, s55 = jg_up s31 117 3 ((s31 117 3) + 1) → ((s31 118 (s31 117 2).toNatClampNeg) = 40 ∨ (s31 118 (s31 117 2).toNatClampNeg) = 41 ∨ (s31 118 (s31 117 2).toNatClampNeg) = 42 ∨ (s31 118 (s31 117 2).toNatClampNeg) = 43 ∨ (s31 118 (s31 117 2).toNatClampNeg) = 45 ∨ (s31 118 (s31 117 2).toNatClampNeg) = 59 ∨ (s31 118 (s31 117 2).toNatClampNeg) = 60 ∨ (s31 118 (s31 117 2).toNatClampNeg) = 61) → ∀ s56 : jg_H, s56 = jg_up s55 117 4 (s31 118 (s31 117 2).toNatClampNeg) → B none s56)
    (k36 : (s 117 3) < (s 117 1) → (s 117 3) < 0 → ∀ s31 : jg_H, s31 = jg_up s 117 2 (s 117 3) → (s31 117 2) < (s31 117 1) → ¬ (s31 117 2) < 0 → (s31 117 2) < 200 → ¬ (s31 118 (s31 117 2).toNatClampNeg) < 97 → ¬ (s31 118 (s31 117 2).toNatClampNeg) ≤ 122 → ¬ (s31 118 (s31 117 2).toNatClampNeg) < 48 → ¬ (s31 118 (s31 117 2).toNatClampNeg) ≤ 57 → ∀ s55 : jg_H, s55 = jg_up s31 117 3 ((s31 117 3) + 1) → ¬ ((s31 118 (s31 117 2).toNatClampNeg) = 40 ∨ (s31 118 (s31 117 2).toNatClampNeg) = 41 ∨ (s31 118 (s31 117 2).toNatClampNeg) = 42 ∨ (s31 118 (s31 117 2).toNatClampNeg) = 43 ∨ (s31 118 (s31 117 2).toNatClampNeg) = 45 ∨ (s31 118 (s31 117 2).toNatClampNeg) = 59 ∨ (s31 118 (s31 117 2).toNatClampNeg) = 60 ∨ (s31 118 (s31 117 2).toNatClampNeg) = 61) → ¬ (s55 117 7) = (-1) → ∀ s57 : jg_H, s57 = jg_up s55 117 4 17 → B none s57)
    (k37 : (s 117 3) < (s 117 1) → (s 117 3) < 0 → ∀ s31 : jg_H, s31 = jg_up s 117 2 (s 117 3) → (s31 117 2) < (s31 117 1) → ¬ (s31 117 2) < 0 → (s31 117 2) < 200 → ¬ (s31 118 (s31 117 2).toNatClampNeg) < 97 → ¬ (s31 118 (s31 117 2).toNatClampNeg) ≤ 122 → ¬ (s31 118 (s31 117 2).toNatClampNeg) < 48 → ¬ (s31 118 (s31 117 2).toNatClampNeg) ≤ 57 → ∀ s55 : jg_H, s55 = jg_up s31 117 3 ((s31 117 3) + 1) → ¬ ((s31 118 (s31 117 2).toNatClampNeg) = 40 ∨ (s31 118 (s31 117 2).toNatClampNeg) = 41 ∨ (s31 118 (s31 117 2).toNatClampNeg) = 42 ∨ (s31 118 (s31 117 2).toNatClampNeg) = 43 ∨ (s31 118 (s31 117 2).toNatClampNeg) = 45 ∨ (s31 118 (s31 117 2).toNatClampNeg) = 59 ∨ (s31 118 (s31 117 2).toNatClampNeg) = 60 ∨ (s31 118 (s31 117 2).toNatClampNeg) = 61) → (s55 117 7) = (-1) → ∀ s58 : jg_H, s58 = jg_up s55 117 7 (s55 117 2) → ∀ s59 : jg_H, s59 = jg_up s58 117 4 17 → B none s59)
    (k38 : (s 117 3) < (s 117 1) → (s 117 3) < 0 → ∀ s31 : jg_H, s31 = jg_up s 117 2 (s 117 3) → (s31 117 2) < (s31 117 1) → ¬ (s31 117 2) < 0 → (s31 117 2) < 200 → ¬ (s31 118 (s31 117 2).toNatClampNeg) < 97 → ¬ (s31 118 (s31 117 2).toNatClampNeg) ≤ 122 → ¬ (s31 118 (s31 117 2).toNatClampNeg) < 48 → (s31 118 (s31 117 2).toNatClampNeg) ≤ 57 → q_P G (d + 2) 28 [.ref 117] s31 (fun v t => q_W G (d + 2) jm_Reader_goOn B 120 [some (.ref 117)] (v.toList ++ []) t))
    (k39 : (s 117 3) < (s 117 1) → (s 117 3) < 0 → ∀ s31 : jg_H, s31 = jg_up s 117 2 (s 117 3) → (s31 117 2) < (s31 117 1) → ¬ (s31 117 2) < 0 → (s31 117 2) < 200 → ¬ (s31 118 (s31 117 2).toNatClampNeg) < 97 → (s31 118 (s31 117 2).toNatClampNeg) ≤ 122 → q_P G (d + 2) 24 [.ref 117] s31 (fun v t => q_W G (d + 2) jm_Reader_goOn B 102 [some (.ref 117)] (v.toList ++ []) t))
    (k40 : (s 117 3) < (s 117 1) → (s 117 3) < 0 → ∀ s31 : jg_H, s31 = jg_up s 117 2 (s 117 3) → ¬ (s31 117 2) < (s31 117 1) → ∀ s60 : jg_H, s60 = jg_up s31 117 4 16 → B none s60)
    (k41 : (s 117 3) < (s 117 1) → ¬ (s 117 3) < 0 → ¬ (s 117 3) < 200 → ∀ s61 : jg_H, s61 = jg_up s 117 2 (s 117 3) → (s61 117 2) < (s61 117 1) → (s61 117 2) < 0 → ∀ s62 : jg_H, s62 = jg_up s61 117 3 ((s61 117 3) + 1) → ¬ (s62 117 7) = (-1) → ∀ s63 : jg_H, s63 = jg_up s62 117 4 17 → B none s63)
    (k42 : (s 117 3) < (s 117 1) → ¬ (s 117 3) < 0 → ¬ (s 117 3) < 200 → ∀ s61 : jg_H, s61 = jg_up s 117 2 (s 117 3) → (s61 117 2) < (s61 117 1) → (s61 117 2) < 0 → ∀ s62 : jg_H, s62 = jg_up s61 117 3 ((s61 117 3) + 1) → (s62 117 7) = (-1) → ∀ s64 : jg_H, s64 = jg_up s62 117 7 (s62 117 2) → ∀ s65 : jg_H, s65 = jg_up s64 117 4 17 → B none s65)
    (k43 : (s 117 3) < (s 117 1) → ¬ (s 117 3) < 0 → ¬ (s 117 3) < 200 → ∀ s61 : jg_H, s61 = jg_up s 117 2 (s 117 3) → (s61 117 2) < (s61 117 1) → ¬ (s61 117 2) < 0 → ¬ (s61 117 2) < 200 → ∀ s66 : jg_H, s66 = jg_up s61 117 3 ((s61 117 3) + 1) → ¬ (s66 117 7) = (-1) → ∀ s67 : jg_H, s67 = jg_up s66 117 4 17 → B none s67)
    (k44 : (s 117 3) < (s 117 1) → ¬ (s 117 3) < 0 → ¬ (s 117 3) < 200 → ∀ s61 : jg_H, s61 = jg_up s 117 2 (s 117 3) → (s61 117 2) < (s61 117 1) → ¬ (s61 117 2) < 0 → ¬ (s61 117 2) < 200 → ∀ s66 : jg_H, s66 = jg_up s61 117 3 ((s61 117 3) + 1) → (s66 117 7) = (-1) → ∀ s68 : jg_H, s68 = jg_up s66 117 7 (s66 117 2) → ∀ s69 : jg_H, s69 = jg_up s68 117 4 17 → B none s69)
    (k45 : (s 117 3) < (s 117 1) → ¬ (s 117 3) < 0 → ¬ (s 117 3) < 200 → ∀ s61 : jg_H, s61 = jg_up s 117 2 (s 117 3) → (s61 117 2) < (s61 117 1) → ¬ (s61 117 2) < 0 → (s61 117 2) < 200 → (s61 118 (s61 117 2).toNatClampNeg) < 97 → (s61 118 (s61 117 2).toNatClampNeg) < 48 → ∀ s70 : jg_H, s70 = jg_up s61 117 3 ((s61 117 3) + 1) → ((s61 118 (s61 117 2).toNatClampNeg) = 40 ∨ (s61 118 (s61 117 2).toNatClampNeg) = 41 ∨ (s61 118 (s61 117 2).toNatClampNeg) = 42 ∨ (s61 118 (s61 117 2).toNatClampNeg) = 43 ∨ (s61 118 (s61 117 2).toNatClampNeg) = 45 ∨ (s61 118 (s61 117 2).toNatClampNeg) = 59 ∨ (s61 118 (s61 117 2).toNatClampNeg) = 60 ∨ (s61 118 (s61 117 2).toNatClampNeg) = 61) → ∀ s71 : jg_H, s71 = jg_up s70 117 4 (s61 118 (s61 117 2).toNatClampNeg) → B none s71)
    (k46 : (s 117 3) < (s 117 1) → ¬ (s 117 3) < 0 → ¬ (s 117 3) < 200 → ∀ s61 : jg_H, s61 = jg_up s 117 2 (s 117 3) → (s61 117 2) < (s61 117 1) → ¬ (s61 117 2) < 0 → (s61 117 2) < 200 → (s61 118 (s61 117 2).toNatClampNeg) < 97 → (s61 118 (s61 117 2).toNatClampNeg) < 48 → ∀ s70 : jg_H, s70 = jg_up s61 117 3 ((s61 117 3) + 1) → ¬ ((s61 118 (s61 117 2).toNatClampNeg) = 40 ∨ (s61 118 (s61 117 2).toNatClampNeg) = 41 ∨ (s61 118 (s61 117 2).toNatClampNeg) = 42 ∨ (s61 118 (s61 117 2).toNatClampNeg) = 43 ∨ (s61 118 (s61 117 2).toNatClampNeg) = 45 ∨ (s61 118 (s61 117 2).toNatClampNeg) = 59 ∨ (s61 118 (s61 117 2).toNatClampNeg) = 60 ∨ (s61 118 (s61 117 2).toNatClampNeg) = 61) → ¬ (s70 117 7) = (-1) → ∀ s72 : jg_H, s72 = jg_up s70 117 4 17 → B none s72)
    (k47 : (s 117 3) < (s 117 1) → ¬ (s 117 3) < 0 → ¬ (s 117 3) < 200 → ∀ s61 : jg_H, s61 = jg_up s 117 2 (s 117 3) → (s61 117 2) < (s61 117 1) → ¬ (s61 117 2) < 0 → (s61 117 2) < 200 → (s61 118 (s61 117 2).toNatClampNeg) < 97 → (s61 118 (s61 117 2).toNatClampNeg) < 48 → ∀ s70 : jg_H, s70 = jg_up s61 117 3 ((s61 117 3) + 1) → ¬ ((s61 118 (s61 117 2).toNatClampNeg) = 40 ∨ (s61 118 (s61 117 2).toNatClampNeg) = 41 ∨ (s61 118 (s61 117 2).toNatClampNeg) = 42 ∨ (s61 118 (s61 117 2).toNatClampNeg) = 43 ∨ (s61 118 (s61 117 2).toNatClampNeg) = 45 ∨ (s61 118 (s61 117 2).toNatClampNeg) = 59 ∨ (s61 118 (s61 117 2).toNatClampNeg) = 60 ∨ (s61 118 (s61 117 2).toNatClampNeg) = 61) → (s70 117 7) = (-1) → ∀ s73 : jg_H, s73 = jg_up s70 117 7 (s70 117 2) → ∀ s74 : jg_H, s74 = jg_up s73 117 4 17 → B none s74)
    (k48 : (s 117 3) < (s 117 1) → ¬ (s 117 3) < 0 → ¬ (s 117 3) < 200 → ∀ s61 : jg_H, s61 = jg_up s 117 2 (s 117 3) → (s61 117 2) < (s61 117 1) → ¬ (s61 117 2) < 0 → (s61 117 2) < 200 → (s61 118 (s61 117 2).toNatClampNeg) < 97 → ¬ (s61 118 (s61 117 2).toNatClampNeg) < 48 → ¬ (s61 118 (s61 117 2).toNatClampNeg) ≤ 57 → ∀ s75 : jg_H, s75 = jg_up s61 117 3 ((s61 117 3) + 1) → ((s61 118 (s61 117 2).toNatClampNeg) = 40 ∨ (s61 118 (s61 117 2).toNatClampNeg) = 41 ∨ (s61 118 (s61 117 2).toNatClampNeg) = 42 ∨ (s61 118 (s61 117 2).toNatClampNeg) = 43 ∨ (s61 118 (s61 117 2).toNatClampNeg) = 45 ∨ (s61 118 (s61 117 2).toNatClampNeg) = 59 ∨ (s61 118 (s61 117 2).toNatClampNeg) = 60 ∨ (s61 118 (s61 117 2).toNatClampNeg) = 61) → ∀ s76 : jg_H, s76 = jg_up s75 117 4 (s61 118 (s61 117 2).toNatClampNeg) → B none s76)
    (k49 : (s 117 3) < (s 117 1) → ¬ (s 117 3) < 0 → ¬ (s 117 3) < 200 → ∀ s61 : jg_H, s61 = jg_up s 117 2 (s 117 3) → (s61 117 2) < (s61 117 1) → ¬ (s61 117 2) < 0 → (s61 117 2) < 200 → (s61 118 (s61 117 2).toNatClampNeg) < 97 → ¬ (s61 118 (s61 117 2).toNatClampNeg) < 48 → ¬ (s61 118 (s61 117 2).toNatClampNeg) ≤ 57 → ∀ s75 : jg_H, s75 = jg_up s61 117 3 ((s61 117 3) + 1) → ¬ ((s61 118 (s61 117 2).toNatClampNeg) = 40 ∨ (s61 118 (s61 117 2).toNatClampNeg) = 41 ∨ (s61 118 (s61 117 2).toNatClampNeg) = 42 ∨ (s61 118 (s61 117 2).toNatClampNeg) = 43 ∨ (s61 118 (s61 117 2).toNatClampNeg) = 45 ∨ (s61 118 (s61 117 2).toNatClampNeg) = 59 ∨ (s61 118 (s61 117 2).toNatClampNeg) = 60 ∨ (s61 118 (s61 117 2).toNatClampNeg) = 61) → ¬ (s75 117 7) = (-1) → ∀ s77 : jg_H, s77 = jg_up s75 117 4 17 → B none s77)
    (k50 : (s 117 3) < (s 117 1) → ¬ (s 117 3) < 0 → ¬ (s 117 3) < 200 → ∀ s61 : jg_H, s61 = jg_up s 117 2 (s 117 3) → (s61 117 2) < (s61 117 1) → ¬ (s61 117 2) < 0 → (s61 117 2) < 200 → (s61 118 (s61 117 2).toNatClampNeg) < 97 → ¬ (s61 118 (s61 117 2).toNatClampNeg) < 48 → ¬ (s61 118 (s61 117 2).toNatClampNeg) ≤ 57 → ∀ s75 : jg_H, s75 = jg_up s61 117 3 ((s61 117 3) + 1) → ¬ ((s61 118 (s61 117 2).toNatClampNeg) = 40 ∨ (s61 118 (s61 117 2).toNatClampNeg) = 41 ∨ (s61 118 (s61 117 2).toNatClampNeg) = 42 ∨ (s61 118 (s61 117 2).toNatClampNeg) = 43 ∨ (s61 118 (s61 117 2).toNatClampNeg) = 45 ∨ (s61 118 (s61 117 2).toNatClampNeg) = 59 ∨ (s61 118 (s61 117 2).toNatClampNeg) = 60 ∨ (s61 118 (s61 117 2).toNatClampNeg) = 61) → (s75 117 7) = (-1) → ∀ s78 : jg_H, s78 = jg_up s75 117 7 (s75 117 2) → ∀ s79 : jg_H, s79 = jg_up s78 117 4 17 → B none s79)
    (k51 : (s 117 3) < (s 117 1) → ¬ (s 117 3) < 0 → ¬ (s 117 3) < 200 → ∀ s61 : jg_H, s61 = jg_up s 117 2 (s 117 3) → (s61 117 2) < (s61 117 1) → ¬ (s61 117 2) < 0 → (s61 117 2) < 200 → (s61 118 (s61 117 2).toNatClampNeg) < 97 → ¬ (s61 118 (s61 117 2).toNatClampNeg) < 48 → (s61 118 (s61 117 2).toNatClampNeg) ≤ 57 → q_P G (d + 2) 28 [.ref 117] s61 (fun v t => q_W G (d + 2) jm_Reader_goOn B 120 [some (.ref 117)] (v.toList ++ []) t))
    (k52 : (s 117 3) < (s 117 1) → ¬ (s 117 3) < 0 → ¬ (s 117 3) < 200 → ∀ s61 : jg_H, s61 = jg_up s 117 2 (s 117 3) → (s61 117 2) < (s61 117 1) → ¬ (s61 117 2) < 0 → (s61 117 2) < 200 → ¬ (s61 118 (s61 117 2).toNatClampNeg) < 97 → ¬ (s61 118 (s61 117 2).toNatClampNeg) ≤ 122 → (s61 118 (s61 117 2).toNatClampNeg) < 48 → ∀ s80 : jg_H, s80 = jg_up s61 117 3 ((s61 117 3) + 1) → ((s61 118 (s61 117 2).toNatClampNeg) = 40 ∨ (s61 118 (s61 117 2).toNatClampNeg) = 41 ∨ (s61 118 (s61 117 2).toNatClampNeg) = 42 ∨ (s61 118 (s61 117 2).toNatClampNeg) = 43 ∨ (s61 118 (s61 117 2).toNatClampNeg) = 45 ∨ (s61 118 (s61 117 2).toNatClampNeg) = 59 ∨ (s61 118 (s61 117 2).toNatClampNeg) = 60 ∨ (s61 118 (s61 117 2).toNatClampNeg) = 61) → ∀ s81 : jg_H, s81 = jg_up s80 117 4 (s61 118 (s61 117 2).toNatClampNeg) → B none s81)
    (k53 : (s 117 3) < (s 117 1) → ¬ (s 117 3) < 0 → ¬ (s 117 3) < 200 → ∀ s61 : jg_H, s61 = jg_up s 117 2 (s 117 3) → (s61 117 2) < (s61 117 1) → ¬ (s61 117 2) < 0 → (s61 117 2) < 200 → ¬ (s61 118 (s61 117 2).toNatClampNeg) < 97 → ¬ (s61 118 (s61 117 2).toNatClampNeg) ≤ 122 → (s61 118 (s61 117 2).toNatClampNeg) < 48 → ∀ s80 : jg_H, s80 = jg_up s61 117 3 ((s61 117 3) + 1) → ¬ ((s61 118 (s61 117 2).toNatClampNeg) = 40 ∨ (s61 118 (s61 117 2).toNatClampNeg) = 41 ∨ (s61 118 (s61 117 2).toNatClampNeg) = 42 ∨ (s61 118 (s61 117 2).toNatClampNeg) = 43 ∨ (s61 118 (s61 117 2).toNatClampNeg) = 45 ∨ (s61 118 (s61 117 2).toNatClampNeg) = 59 ∨ (s61 118 (s61 117 2).toNatClampNeg) = 60 ∨ (s61 118 (s61 117 2).toNatClampNeg) = 61) → ¬ (s80 117 7) = (-1) → ∀ s82 : jg_H, s82 = jg_up s80 117 4 17 → B none s82)
    (k54 : (s 117 3) < (s 117 1) → ¬ (s 117 3) < 0 → ¬ (s 117 3) < 200 → ∀ s61 : jg_H, s61 = jg_up s 117 2 (s 117 3) → (s61 117 2) < (s61 117 1) → ¬ (s61 117 2) < 0 → (s61 117 2) < 200 → ¬ (s61 118 (s61 117 2).toNatClampNeg) < 97 → ¬ (s61 118 (s61 117 2).toNatClampNeg) ≤ 122 → (s61 118 (s61 117 2).toNatClampNeg) < 48 → ∀ s80 : jg_H, s80 = jg_up s61 117 3 ((s61 117 3) + 1) → ¬ ((s61 118 (s61 117 2).toNatClampNeg) = 40 ∨ (s61 118 (s61 117 2).toNatClampNeg) = 41 ∨ (s61 118 (s61 117 2).toNatClampNeg) = 42 ∨ (s61 118 (s61 117 2).toNatClampNeg) = 43 ∨ (s61 118 (s61 117 2).toNatClampNeg) = 45 ∨ (s61 118 (s61 117 2).toNatClampNeg) = 59 ∨ (s61 118 (s61 117 2).toNatClampNeg) = 60 ∨ (s61 118 (s61 117 2).toNatClampNeg) = 61) → (s80 117 7) = (-1) → ∀ s83 : jg_H, s83 = jg_up s80 117 7 (s80 117 2) → ∀ s84 : jg_H, s84 = jg_up s83 117 4 17 → B none s84)
    (k55 : (s 117 3) < (s 117 1) → ¬ (s 117 3) < 0 → ¬ (s 117 3) < 200 → ∀ s61 : jg_H, s61 = jg_up s 117 2 (s 117 3) → (s61 117 2) < (s61 117 1) → ¬ (s61 117 2) < 0 → (s61 117 2) < 200 → ¬ (s61 118 (s61 117 2).toNatClampNeg) < 97 → ¬ (s61 118 (s61 117 2).toNatClampNeg) ≤ 122 → ¬ (s61 118 (s61 117 2).toNatClampNeg) < 48 → ¬ (s61 118 (s61 117 2).toNatClampNeg) ≤ 57 → ∀ s85 : jg_H, s85 = jg_up s61 117 3 ((s61 117 3) + 1) → ((s61 118 (s61 117 2).toNatClampNeg) = 40 ∨ (s61 118 (s61 117 2).toNatClampNeg) = 41 ∨ (s61 118 (s61 117 2).toNatClampNeg) = 42 ∨ (s61 118 (s61 117 2).toNatClampNeg) = 43 ∨ (s61 118 (s61 117 2).toNatClampNeg) = 45 ∨ (s61 118 (s61 117 2).toNatClampNeg) = 59 ∨ (s61 118 (s61 117 2).toNatClampNeg) = 60 ∨ (s61 118 (s61 117 2).toNatClampNeg) = 61) → ∀ s86 : jg_H, s86 = jg_up s85 117 4 (s61 118 (s61 117 2).toNatClampNeg) → B none s86)
    (k56 : (s 117 3) < (s 117 1) → ¬ (s 117 3) < 0 → ¬ (s 117 3) < 200 → ∀ s61 : jg_H, s61 = jg_up s 117 2 (s 117 3) → (s61 117 2) < (s61 117 1) → ¬ (s61 117 2) < 0 → (s61 117 2) < 200 → ¬ (s61 118 (s61 117 2).toNatClampNeg) < 97 → ¬ (s61 118 (s61 117 2).toNatClampNeg) ≤ 122 → ¬ (s61 118 (s61 117 2).toNatClampNeg) < 48 → ¬ (s61 118 (s61 117 2).toNatClampNeg) ≤ 57 → ∀ s85 : jg_H, s85 = jg_up s61 117 3 ((s61 117 3) + 1) → ¬ ((s61 118 (s61 117 2).toNatClampNeg) = 40 ∨ (s61 118 (s61 117 2).toNatClampNeg) = 41 ∨ (s61 118 (s61 117 2).toNatClampNeg) = 42 ∨ (s61 118 (s61 117 2).toNatClampNeg) = 43 ∨ (s61 118 (s61 117 2).toNatClampNeg) = 45 ∨ (s61 118 (s61 117 2).toNatClampNeg) = 59 ∨ (s61 118 (s61 117 2).toNatClampNeg) = 60 ∨ (s61 118 (s61 117 2).toNatClampNeg) = 61) → ¬ (s85 117 7) = (-1) → ∀ s87 : jg_H, s87 = jg_up s85 117 4 17 → B none s87)
    (k57 : (s 117 3) < (s 117 1) → ¬ (s 117 3) < 0 → ¬ (s 117 3) < 200 → ∀ s61 : jg_H, s61 = jg_up s 117 2 (s 117 3) → (s61 117 2) < (s61 117 1) → ¬ (s61 117 2) < 0 → (s61 117 2) < 200 → ¬ (s61 118 (s61 117 2).toNatClampNeg) < 97 → ¬ (s61 118 (s61 117 2).toNatClampNeg) ≤ 122 → ¬ (s61 118 (s61 117 2).toNatClampNeg) < 48 → ¬ (s61 118 (s61 117 2).toNatClampNeg) ≤ 57 → ∀ s85 : jg_H, s85 = jg_up s61 117 3 ((s61 117 3) + 1) → ¬ ((s61 118 (s61 117 2).toNatClampNeg) = 40 ∨ (s61 118 (s61 117 2).toNatClampNeg) = 41 ∨ (s61 118 (s61 117 2).toNatClampNeg) = 42 ∨ (s61 118 (s61 117 2).toNatClampNeg) = 43 ∨ (s61 118 (s61 117 2).toNatClampNeg) = 45 ∨ (s61 118 (s61 117 2).toNatClampNeg) = 59 ∨ (s61 118 (s61 117 2).toNatClampNeg) = 60 ∨ (s61 118 (s61 117 2).toNatClampNeg) = 61) → (s85 117 7) = (-1) → ∀ s88 : jg_H, s88 = jg_up s85 117 7 (s85 117 2) → ∀ s89 : jg_H, s89 = jg_up s88 117 4 17 → B none s89)
    (k58 : (s 117 3) < (s 117 1) → ¬ (s 117 3) < 0 → ¬ (s 117 3) < 200 → ∀ s61 : jg_H, s61 = jg_up s 117 2 (s 117 3) → (s61 117 2) < (s61 117 1) → ¬ (s61 117 2) < 0 → (s61 117 2) < 200 → ¬ (s61 118 (s61 117 2).toNatClampNeg) < 97 → ¬ (s61 118 (s61 117 2).toNatClampNeg) ≤ 122 → ¬ (s61 118 (s61 117 2).toNatClampNeg) < 48 → (s61 118 (s61 117 2).toNatClampNeg) ≤ 57 → q_P G (d + 2) 28 [.ref 117] s61 (fun v t => q_W G (d + 2) jm_Reader_goOn B 120 [some (.ref 117)] (v.toList ++ []) t))
    (k59 : (s 117 3) < (s 117 1) → ¬ (s 117 3) < 0 → ¬ (s 117 3) < 200 → ∀ s61 : jg_H, s61 = jg_up s 117 2 (s 117 3) → (s61 117 2) < (s61 117 1) → ¬ (s61 117 2) < 0 → (s61 117 2) < 200 → ¬ (s61 118 (s61 117 2).toNatClampNeg) < 97 → (s61 118 (s61 117 2).toNatClampNeg) ≤ 122 → q_P G (d + 2) 24 [.ref 117] s61 (fun v t => q_W G (d + 2) jm_Reader_goOn B 102 [some (.ref 117)] (v.toList ++ []) t))
    (k60 : (s 117 3) < (s 117 1) → ¬ (s 117 3) < 0 → ¬ (s 117 3) < 200 → ∀ s61 : jg_H, s61 = jg_up s 117 2 (s 117 3) → ¬ (s61 117 2) < (s61 117 1) → ∀ s90 : jg_H, s90 = jg_up s61 117 4 16 → B none s90)
    (k61 : (s 117 3) < (s 117 1) → ¬ (s 117 3) < 0 → (s 117 3) < 200 → (s 118 (s 117 3).toNatClampNeg) = 32 → ∀ s91 : jg_H, s91 = jg_up s 117 3 ((s 117 3) + 1) → q_W G (d + 2) jm_Reader_goOn B 9 [some (.ref 117)] [] s91)
    (k62 : (s 117 3) < (s 117 1) → ¬ (s 117 3) < 0 → (s 117 3) < 200 → ¬ (s 118 (s 117 3).toNatClampNeg) = 32 → ¬ (s 118 (s 117 3).toNatClampNeg) = 10 → ∀ s92 : jg_H, s92 = jg_up s 117 2 (s 117 3) → (s92 117 2) < (s92 117 1) → (s92 117 2) < 0 → ∀ s93 : jg_H, s93 = jg_up s92 117 3 ((s92 117 3) + 1) → ¬ (s93 117 7) = (-1) → ∀ s94 : jg_H, s94 = jg_up s93 117 4 17 → B none s94)
    (k63 : (s 117 3) < (s 117 1) → ¬ (s 117 3) < 0 → (s 117 3) < 200 → ¬ (s 118 (s 117 3).toNatClampNeg) = 32 → ¬ (s 118 (s 117 3).toNatClampNeg) = 10 → ∀ s92 : jg_H, s92 = jg_up s 117 2 (s 117 3) → (s92 117 2) < (s92 117 1) → (s92 117 2) < 0 → ∀ s93 : jg_H, s93 = jg_up s92 117 3 ((s92 117 3) + 1) → (s93 117 7) = (-1) → ∀ s95 : jg_H, s95 = jg_up s93 117 7 (s93 117 2) → ∀ s96 : jg_H, s96 = jg_up s95 117 4 17 → B none s96)
    (k64 : (s 117 3) < (s 117 1) → ¬ (s 117 3) < 0 → (s 117 3) < 200 → ¬ (s 118 (s 117 3).toNatClampNeg) = 32 → ¬ (s 118 (s 117 3).toNatClampNeg) = 10 → ∀ s92 : jg_H, s92 = jg_up s 117 2 (s 117 3) → (s92 117 2) < (s92 117 1) → ¬ (s92 117 2) < 0 → ¬ (s92 117 2) < 200 → ∀ s97 : jg_H, s97 = jg_up s92 117 3 ((s92 117 3) + 1) → ¬ (s97 117 7) = (-1) → ∀ s98 : jg_H, s98 = jg_up s97 117 4 17 → B none s98)
    (k65 : (s 117 3) < (s 117 1) → ¬ (s 117 3) < 0 → (s 117 3) < 200 → ¬ (s 118 (s 117 3).toNatClampNeg) = 32 → ¬ (s 118 (s 117 3).toNatClampNeg) = 10 → ∀ s92 : jg_H, s92 = jg_up s 117 2 (s 117 3) → (s92 117 2) < (s92 117 1) → ¬ (s92 117 2) < 0 → ¬ (s92 117 2) < 200 → ∀ s97 : jg_H, s97 = jg_up s92 117 3 ((s92 117 3) + 1) → (s97 117 7) = (-1) → ∀ s99 : jg_H, s99 = jg_up s97 117 7 (s97 117 2) → ∀ s100 : jg_H, s100 = jg_up s99 117 4 17 → B none s100)
    (k66 : (s 117 3) < (s 117 1) → ¬ (s 117 3) < 0 → (s 117 3) < 200 → ¬ (s 118 (s 117 3).toNatClampNeg) = 32 → ¬ (s 118 (s 117 3).toNatClampNeg) = 10 → ∀ s92 : jg_H, s92 = jg_up s 117 2 (s 117 3) → (s92 117 2) < (s92 117 1) → ¬ (s92 117 2) < 0 → (s92 117 2) < 200 → (s92 118 (s92 117 2).toNatClampNeg) < 97 → (s92 118 (s92 117 2).toNatClampNeg) < 48 → ∀ s101 : jg_H, s101 = jg_up s92 117 3 ((s92 117 3) + 1) → ((s92 118 (s92 117 2).toNatClampNeg) = 40 ∨ (s92 118 (s92 117 2).toNatClampNeg) = 41 ∨ (s92 118 (s92 117 2).toNatClampNeg) = 42 ∨ (s92 118 (s92 117 2).toNatClampNeg) = 43 ∨ (s92 118 (s92 117 2).toNatClampNeg) = 45 ∨ (s92 118 (s92 117 2).toNatClampNeg) = 59 ∨ (s92 118 (s92 117 2).toNatClampNeg) = 60 ∨ (s92 118 (s92 117 2).toNatClampNeg) = 61) → ∀ s102 : jg_H, s102 = jg_up s101 117 4 (s92 118 (s92 117 2).toNatClampNeg) → B none s102)
    (k67 : (s 117 3) < (s 117 1) → ¬ (s 117 3) < 0 → (s 117 3) < 200 → ¬ (s 118 (s 117 3).toNatClampNeg) = 32 → ¬ (s 118 (s 117 3).toNatClampNeg) = 10 → ∀ s92 : jg_H, s92 = jg_up s 117 2 (s 117 3) → (s92 117 2) < (s92 117 1) → ¬ (s92 117 2) < 0 → (s92 117 2) < 200 → (s92 118 (s92 117 2).toNatClampNeg) < 97 → (s92 118 (s92 117 2).toNatClampNeg) < 48 → ∀ s101 : jg_H, s101 = jg_up s92 117 3 ((s92 117 3) + 1) → ¬ ((s92 118 (s92 117 2).toNatClampNeg) = 40 ∨ (s92 118 (s92 117 2).toNatClampNeg) = 41 ∨ (s92 118 (s92 117 2).toNatClampNeg) = 42 ∨ (s92 118 (s92 117 2).toNatClampNeg) = 43 ∨ (s92 118 (s92 117 2).toNatClampNeg) = 45 ∨ (s92 118 (s92 117 2).toNatClampNeg) = 59 ∨ (s92 118 (s92 117 2).toNatClampNeg) = 60 ∨ (s92 118 (s92 117 2).toNatClampNeg) = 61) → ¬ (s101 117 7) = (-1) → ∀ s103 : jg_H, s103 = jg_up s101 117 4 17 → B none s103)
    (k68 : (s 117 3) < (s 117 1) → ¬ (s 117 3) < 0 → (s 117 3) < 200 → ¬ (s 118 (s 117 3).toNatClampNeg) = 32 → ¬ (s 118 (s 117 3).toNatClampNeg) = 10 → ∀ s92 : jg_H, s92 = jg_up s 117 2 (s 117 3) → (s92 117 2) < (s92 117 1) → ¬ (s92 117 2) < 0 → (s92 117 2) < 200 → (s92 118 (s92 117 2).toNatClampNeg) < 97 → (s92 118 (s92 117 2).toNatClampNeg) < 48 → ∀ s101 : jg_H, s101 = jg_up s92 117 3 ((s92 117 3) + 1) → ¬ ((s92 118 (s92 117 2).toNatClampNeg) = 40 ∨ (s92 118 (s92 117 2).toNatClampNeg) = 41 ∨ (s92 118 (s92 117 2).toNatClampNeg) = 42 ∨ (s92 118 (s92 117 2).toNatClampNeg) = 43 ∨ (s92 118 (s92 117 2).toNatClampNeg) = 45 ∨ (s92 118 (s92 117 2).toNatClampNeg) = 59 ∨ (s92 118 (s92 117 2).toNatClampNeg) = 60 ∨ (s92 118 (s92 117 2).toNatClampNeg) = 61) → (s101 117 7) = (-1) → ∀ s104 : jg_H, s104 = jg_up s101 117 7 (s101 117 2) → ∀ s105 : jg_H, s105 = jg_up s104 117 4 17 → B none s105)
    (k69 : (s 117 3) < (s 117 1) → ¬ (s 117 3) < 0 → (s 117 3) < 200 → ¬ (s 118 (s 117 3).toNatClampNeg) = 32 → ¬ (s 118 (s 117 3).toNatClampNeg) = 10 → ∀ s92 : jg_H, s92 = jg_up s 117 2 (s 117 3) → (s92 117 2) < (s92 117 1) → ¬ (s92 117 2) < 0 → (s92 117 2) < 200 → (s92 118 (s92 117 2).toNatClampNeg) < 97 → ¬ (s92 118 (s92 117 2).toNatClampNeg) < 48 → ¬ (s92 118 (s92 117 2).toNatClampNeg) ≤ 57 → ∀ s106 : jg_H, s106 = jg_up s92 117 3 ((s92 117 3) + 1) → ((s92 118 (s92 117 2).toNatClampNeg) = 40 ∨ (s92 118 (s92 117 2).toNatClampNeg) = 41 ∨ (s92 118 (s92 117 2).toNatClampNeg) = 42 ∨ (s92 118 (s92 117 2).toNatClampNeg) = 43 ∨ (s92 118 (s92 117 2).toNatClampNeg) = 45 ∨ (s92 118 (s92 117 2).toNatClampNeg) = 59 ∨ (s92 118 (s92 117 2).toNatClampNeg) = 60 ∨ (s92 118 (s92 117 2).toNatClampNeg) = 61) → ∀ s107 : jg_H, s107 = jg_up s106 117 4 (s92 118 (s92 117 2).toNatClampNeg) → B none s107)
    (k70 : (s 117 3) < (s 117 1) → ¬ (s 117 3) < 0 → (s 117 3) < 200 → ¬ (s 118 (s 117 3).toNatClampNeg) = 32 → ¬ (s 118 (s 117 3).toNatClampNeg) = 10 → ∀ s92 : jg_H, s92 = jg_up s 117 2 (s 117 3) → (s92 117 2) < (s92 117 1) → ¬ (s92 117 2) < 0 → (s92 117 2) < 200 → (s92 118 (s92 117 2).toNatClampNeg) < 97 → ¬ (s92 118 (s92 117 2).toNatClampNeg) < 48 → ¬ (s92 118 (s92 117 2).toNatClampNeg) ≤ 57 → ∀ s106 : jg_H, s106 = jg_up s92 117 3 ((s92 117 3) + 1) → ¬ ((s92 118 (s92 117 2).toNatClampNeg) = 40 ∨ (s92 118 (s92 117 2).toNatClampNeg) = 41 ∨ (s92 118 (s92 117 2).toNatClampNeg) = 42 ∨ (s92 118 (s92 117 2).toNatClampNeg) = 43 ∨ (s92 118 (s92 117 2).toNatClampNeg) = 45 ∨ (s92 118 (s92 117 2).toNatClampNeg) = 59 ∨ (s92 118 (s92 117 2).toNatClampNeg) = 60 ∨ (s92 118 (s92 117 2).toNatClampNeg) = 61) → ¬ (s106 117 7) = (-1) → ∀ s108 : jg_H, s108 = jg_up s106 117 4 17 → B none s108)
    (k71 : (s 117 3) < (s 117 1) → ¬ (s 117 3) < 0 → (s 117 3) < 200 → ¬ (s 118 (s 117 3).toNatClampNeg) = 32 → ¬ (s 118 (s 117 3).toNatClampNeg) = 10 → ∀ s92 : jg_H, s92 = jg_up s 117 2 (s 117 3) → (s92 117 2) < (s92 117 1) → ¬ (s92 117 2) < 0 → (s92 117 2) < 200 → (s92 118 (s92 117 2).toNatClampNeg) < 97 → ¬ (s92 118 (s92 117 2).toNatClampNeg) < 48 → ¬ (s92 118 (s92 117 2).toNatClampNeg) ≤ 57 → ∀ s106 : jg_H, s106 = jg_up s92 117 3 ((s92 117 3) + 1) → ¬ ((s92 118 (s92 117 2).toNatClampNeg) = 40 ∨ (s92 118 (s92 117 2).toNatClampNeg) = 41 ∨ (s92 118 (s92 117 2).toNatClampNeg) = 42 ∨ (s92 118 (s92 117 2).toNatClampNeg) = 43 ∨ (s92 118 (s92 117 2).toNatClampNeg) = 45 ∨ (s92 118 (s92 117 2).toNatClampNeg) = 59 ∨ (s92 118 (s92 117 2).toNatClampNeg) = 60 ∨ (s92 118 (s92 117 2).toNatClampNeg) = 61) → (s106 117 7) = (-1) → ∀ s109 : jg_H, s109 = jg_up s106 117 7 (s106 117 2) → ∀ s110 : jg_H, s110 = jg_up s109 117 4 17 → B none s110)
    (k72 : (s 117 3) < (s 117 1) → ¬ (s 117 3) < 0 → (s 117 3) < 200 → ¬ (s 118 (s 117 3).toNatClampNeg) = 32 → ¬ (s 118 (s 117 3).toNatClampNeg) = 10 → ∀ s92 : jg_H, s92 = jg_up s 117 2 (s 117 3) → (s92 117 2) < (s92 117 1) → ¬ (s92 117 2) < 0 → (s92 117 2) < 200 → (s92 118 (s92 117 2).toNatClampNeg) < 97 → ¬ (s92 118 (s92 117 2).toNatClampNeg) < 48 → (s92 118 (s92 117 2).toNatClampNeg) ≤ 57 → q_P G (d + 2) 28 [.ref 117] s92 (fun v t => q_W G (d + 2) jm_Reader_goOn B 120 [some (.ref 117)] (v.toList ++ []) t))
    (k73 : (s 117 3) < (s 117 1) → ¬ (s 117 3) < 0 → (s 117 3) < 200 → ¬ (s 118 (s 117 3).toNatClampNeg) = 32 → ¬ (s 118 (s 117 3).toNatClampNeg) = 10 → ∀ s92 : jg_H, s92 = jg_up s 117 2 (s 117 3) → (s92 117 2) < (s92 117 1) → ¬ (s92 117 2) < 0 → (s92 117 2) < 200 → ¬ (s92 118 (s92 117 2).toNatClampNeg) < 97 → ¬ (s92 118 (s92 117 2).toNatClampNeg) ≤ 122 → (s92 118 (s92 117 2).toNatClampNeg) < 48 → ∀ s111 : jg_H, s111 = jg_up s92 117 3 ((s92 117 3) + 1) → ((s92 118 (s92 117 2).toNatClampNeg) = 40 ∨ (s92 118 (s92 117 2).toNatClampNeg) = 41 ∨ (s92 118 (s92 117 2).toNatClampNeg) = 42 ∨ (s92 118 (s92 117 2).toNatClampNeg) = 43 ∨ (s92 118 (s92 117 2).toNatClampNeg) = 45 ∨ (s92 118 (s92 117 2).toNatClampNeg) = 59 ∨ (s92 118 (s92 117 2).toNatClampNeg) = 60 ∨ (s92 118 (s92 117 2).toNatClampNeg) = 61) → ∀ s112 : jg_H, s112 = jg_up s111 117 4 (s92 118 (s92 117 2).toNatClampNeg) → B none s112)
    (k74 : (s 117 3) < (s 117 1) → ¬ (s 117 3) < 0 → (s 117 3) < 200 → ¬ (s 118 (s 117 3).toNatClampNeg) = 32 → ¬ (s 118 (s 117 3).toNatClampNeg) = 10 → ∀ s92 : jg_H, s92 = jg_up s 117 2 (s 117 3) → (s92 117 2) < (s92 117 1) → ¬ (s92 117 2) < 0 → (s92 117 2) < 200 → ¬ (s92 118 (s92 117 2).toNatClampNeg) < 97 → ¬ (s92 118 (s92 117 2).toNatClampNeg) ≤ 122 → (s92 118 (s92 117 2).toNatClampNeg) < 48 → ∀ s111 : jg_H, s111 = jg_up s92 117 3 ((s92 117 3) + 1) → ¬ ((s92 118 (s92 117 2).toNatClampNeg) = 40 ∨ (s92 118 (s92 117 2).toNatClampNeg) = 41 ∨ (s92 118 (s92 117 2).toNatClampNeg) = 42 ∨ (s92 118 (s92 117 2).toNatClampNeg) = 43 ∨ (s92 118 (s92 117 2).toNatClampNeg) = 45 ∨ (s92 118 (s92 117 2).toNatClampNeg) = 59 ∨ (s92 118 (s92 117 2).toNatClampNeg) = 60 ∨ (s92 118 (s92 117 2).toNatClampNeg) = 61) → ¬ (s111 117 7) = (-1) → ∀ s113 : jg_H, s113 = jg_up s111 117 4 17 → B none s113)
    (k75 : (s 117 3) < (s 117 1) → ¬ (s 117 3) < 0 → (s 117 3) < 200 → ¬ (s 118 (s 117 3).toNatClampNeg) = 32 → ¬ (s 118 (s 117 3).toNatClampNeg) = 10 → ∀ s92 : jg_H, s92 = jg_up s 117 2 (s 117 3) → (s92 117 2) < (s92 117 1) → ¬ (s92 117 2) < 0 → (s92 117 2) < 200 → ¬ (s92 118 (s92 117 2).toNatClampNeg) < 97 → ¬ (s92 118 (s92 117 2).toNatClampNeg) ≤ 122 → (s92 118 (s92 117 2).toNatClampNeg) < 48 → ∀ s111 : jg_H, s111 = jg_up s92 117 3 ((s92 117 3) + 1) → ¬ ((s92 118 (s92 117 2).toNatClampNeg) = 40 ∨ (s92 118 (s92 117 2).toNatClampNeg) = 41 ∨ (s92 118 (s92 117 2).toNatClampNeg) = 42 ∨ (s92 118 (s92 117 2).toNatClampNeg) = 43 ∨ (s92 118 (s92 117 2).toNatClampNeg) = 45 ∨ (s92 118 (s92 117 2).toNatClampNeg) = 59 ∨ (s92 118 (s92 117 2).toNatClampNeg) = 60 ∨ (s92 118 (s92 117 2).toNatClampNeg) = 61) → (s111 117 7) = (-1) → ∀ s114 : jg_H, s114 = jg_up s111 117 7 (s111 117 2) → ∀ s115 : jg_H, s115 = jg_up s114 117 4 17 → B none s115)
    (k76 : (s 117 3) < (s 117 1) → ¬ (s 117 3) < 0 → (s 117 3) < 200 → ¬ (s 118 (s 117 3).toNatClampNeg) = 32 → ¬ (s 118 (s 117 3).toNatClampNeg) = 10 → ∀ s92 : jg_H, s92 = jg_up s 117 2 (s 117 3) → (s92 117 2) < (s92 117 1) → ¬ (s92 117 2) < 0 → (s92 117 2) < 200 → ¬ (s92 118 (s92 117 2).toNatClampNeg) < 97 → ¬ (s92 118 (s92 117 2).toNatClampNeg) ≤ 122 → ¬ (s92 118 (s92 117 2).toNatClampNeg) < 48 → ¬ (s92 118 (s92 117 2).toNatClampNeg) ≤ 57 → ∀ s116 : jg_H, s116 = jg_up s92 117 3 ((s92 117 3) + 1) → ((s92 118 (s92 117 2).toNatClampNeg) = 40 ∨ (s92 118 (s92 117 2).toNatClampNeg) = 41 ∨ (s92 118 (s92 117 2).toNatClampNeg) = 42 ∨ (s92 118 (s92 117 2).toNatClampNeg) = 43 ∨ (s92 118 (s92 117 2).toNatClampNeg) = 45 ∨ (s92 118 (s92 117 2).toNatClampNeg) = 59 ∨ (s92 118 (s92 117 2).toNatClampNeg) = 60 ∨ (s92 118 (s92 117 2).toNatClampNeg) = 61) → ∀ s117 : jg_H, s117 = jg_up s116 117 4 (s92 118 (s92 117 2).toNatClampNeg) → B none s117)
    (k77 : (s 117 3) < (s 117 1) → ¬ (s 117 3) < 0 → (s 117 3) < 200 → ¬ (s 118 (s 117 3).toNatClampNeg) = 32 → ¬ (s 118 (s 117 3).toNatClampNeg) = 10 → ∀ s92 : jg_H, s92 = jg_up s 117 2 (s 117 3) → (s92 117 2) < (s92 117 1) → ¬ (s92 117 2) < 0 → (s92 117 2) < 200 → ¬ (s92 118 (s92 117 2).toNatClampNeg) < 97 → ¬ (s92 118 (s92 117 2).toNatClampNeg) ≤ 122 → ¬ (s92 118 (s92 117 2).toNatClampNeg) < 48 → ¬ (s92 118 (s92 117 2).toNatClampNeg) ≤ 57 → ∀ s116 : jg_H, s116 = jg_up s92 117 3 ((s92 117 3) + 1) → ¬ ((s92 118 (s92 117 2).toNatClampNeg) = 40 ∨ (s92 118 (s92 117 2).toNatClampNeg) = 41 ∨ (s92 118 (s92 117 2).toNatClampNeg) = 42 ∨ (s92 118 (s92 117 2).toNatClampNeg) = 43 ∨ (s92 118 (s92 117 2).toNatClampNeg) = 45 ∨ (s92 118 (s92 117 2).toNatClampNeg) = 59 ∨ (s92 118 (s92 117 2).toNatClampNeg) = 60 ∨ (s92 118 (s92 117 2).toNatClampNeg) = 61) → ¬ (s116 117 7) = (-1) → ∀ s118 : jg_H, s118 = jg_up s116 117 4 17 → B none s118)
    (k78 : (s 117 3) < (s 117 1) → ¬ (s 117 3) < 0 → (s 117 3) < 200 → ¬ (s 118 (s 117 3).toNatClampNeg) = 32 → ¬ (s 118 (s 117 3).toNatClampNeg) = 10 → ∀ s92 : jg_H, s92 = jg_up s 117 2 (s 117 3) → (s92 117 2) < (s92 117 1) → ¬ (s92 117 2) < 0 → (s92 117 2) < 200 → ¬ (s92 118 (s92 117 2).toNatClampNeg) < 97 → ¬ (s92 118 (s92 117 2).toNatClampNeg) ≤ 122 → ¬ (s92 118 (s92 117 2).toNatClampNeg) < 48 → ¬ (s92 118 (s92 117 2).toNatClampNeg) ≤ 57 → ∀ s116 : jg_H, s116 = jg_up s92 117 3 ((s92 117 3) + 1) → ¬ ((s92 118 (s92 117 2).toNatClampNeg) = 40 ∨ (s92 118 (s92 117 2).toNatClampNeg) = 41 ∨ (s92 118 (s92 117 2).toNatClampNeg) = 42 ∨ (s92 118 (s92 117 2).toNatClampNeg) = 43 ∨ (s92 118 (s92 117 2).toNatClampNeg) = 45 ∨ (s92 118 (s92 117 2).toNatClampNeg) = 59 ∨ (s92 118 (s92 117 2).toNatClampNeg) = 60 ∨ (s92 118 (s92 117 2).toNatClampNeg) = 61) → (s116 117 7) = (-1) → ∀ s119 : jg_H, s119 = jg_up s116 117 7 (s116 117 2) → ∀ s120 : jg_H, s120 = jg_up s119 117 4 17 → B none s120)
    (k79 : (s 117 3) < (s 117 1) → ¬ (s 117 3) < 0 → (s 117 3) < 200 → ¬ (s 118 (s 117 3).toNatClampNeg) = 32 → ¬ (s 118 (s 117 3).toNatClampNeg) = 10 → ∀ s92 : jg_H, s92 = jg_up s 117 2 (s 117 3) → (s92 117 2) < (s92 117 1) → ¬ (s92 117 2) < 0 → (s92 117 2) < 200 → ¬ (s92 118 (s92 117 2).toNatClampNeg) < 97 → ¬ (s92 118 (s92 117 2).toNatClampNeg) ≤ 122 → ¬ (s92 118 (s92 117 2).toNatClampNeg) < 48 → (s92 118 (s92 117 2).toNatClampNeg) ≤ 57 → q_P G (d + 2) 28 [.ref 117] s92 (fun v t => q_W G (d + 2) jm_Reader_goOn B 120 [some (.ref 117)] (v.toList ++ []) t))
    (k80 : (s 117 3) < (s 117 1) → ¬ (s 117 3) < 0 → (s 117 3) < 200 → ¬ (s 118 (s 117 3).toNatClampNeg) = 32 → ¬ (s 118 (s 117 3).toNatClampNeg) = 10 → ∀ s92 : jg_H, s92 = jg_up s 117 2 (s 117 3) → (s92 117 2) < (s92 117 1) → ¬ (s92 117 2) < 0 → (s92 117 2) < 200 → ¬ (s92 118 (s92 117 2).toNatClampNeg) < 97 → (s92 118 (s92 117 2).toNatClampNeg) ≤ 122 → q_P G (d + 2) 24 [.ref 117] s92 (fun v t => q_W G (d + 2) jm_Reader_goOn B 102 [some (.ref 117)] (v.toList ++ []) t))
    (k81 : (s 117 3) < (s 117 1) → ¬ (s 117 3) < 0 → (s 117 3) < 200 → ¬ (s 118 (s 117 3).toNatClampNeg) = 32 → ¬ (s 118 (s 117 3).toNatClampNeg) = 10 → ∀ s92 : jg_H, s92 = jg_up s 117 2 (s 117 3) → ¬ (s92 117 2) < (s92 117 1) → ∀ s121 : jg_H, s121 = jg_up s92 117 4 16 → B none s121)
    (k82 : (s 117 3) < (s 117 1) → ¬ (s 117 3) < 0 → (s 117 3) < 200 → ¬ (s 118 (s 117 3).toNatClampNeg) = 32 → (s 118 (s 117 3).toNatClampNeg) = 10 → ∀ s122 : jg_H, s122 = jg_up s 117 3 ((s 117 3) + 1) → q_W G (d + 2) jm_Reader_goOn B 9 [some (.ref 117)] [] s122) :
    q_W G (d + 2) jm_Reader_goOn B 9 [some (.ref 117)] [] s := by
  refine q_aload_n (pc' := 10) ja_Reader_goOn_9 rfl rfl ?_
  refine q_getf (pc' := 13) (v := .int (s 117 3)) ja_Reader_goOn_10 rfl (by decide) ⟨rfl, by decide⟩ rfl ?_
  refine q_aload_n (pc' := 14) ja_Reader_goOn_13 rfl rfl ?_
  refine q_getf (pc' := 17) (v := .int (s 117 1)) ja_Reader_goOn_14 rfl (by decide) ⟨rfl, by decide⟩ rfl ?_
  refine q_ic_ge (pc' := 20) ja_Reader_goOn_17 rfl ?_ ?_
  · intro h1
    refine q_aload_n (pc' := 60) ja_Reader_goOn_59 rfl rfl ?_
    refine q_aload_n (pc' := 61) ja_Reader_goOn_60 rfl rfl ?_
    refine q_getf (pc' := 64) (v := .int (s 117 3)) ja_Reader_goOn_61 rfl (by decide) ⟨rfl, by decide⟩ rfl ?_
    refine q_putf (pc' := 67) ja_Reader_goOn_64 rfl (by decide) rfl rfl rfl ?_
    intro s1 e1
    refine q_aload_n (pc' := 68) ja_Reader_goOn_67 rfl rfl ?_
    refine q_getf (pc' := 71) (v := .int (s1 117 2)) ja_Reader_goOn_68 rfl (by decide) ⟨rfl, by decide⟩ rfl ?_
    refine q_aload_n (pc' := 72) ja_Reader_goOn_71 rfl rfl ?_
    refine q_getf (pc' := 75) (v := .int (s1 117 1)) ja_Reader_goOn_72 rfl (by decide) ⟨rfl, by decide⟩ rfl ?_
    refine q_ic_lt (pc' := 78) ja_Reader_goOn_75 rfl ?_ ?_
    · intro h2
      refine q_aload_n (pc' := 88) ja_Reader_goOn_87 rfl rfl ?_
      refine q_aload_n (pc' := 89) ja_Reader_goOn_88 rfl rfl ?_
      refine q_getf (pc' := 92) (v := .int (s1 117 2)) ja_Reader_goOn_89 rfl (by decide) ⟨rfl, by decide⟩ rfl ?_
      refine q_virt (pc' := 95) (c := 117) (as := [.int (s1 117 2)]) (r := []) ja_Reader_goOn_92 rfl rfl rfl (by decide) ⟨rfl, by decide⟩ ?_
      refine q_in (M := jm_Reader_isLetter) rfl (Nat.le_of_ble_eq_true rfl) (ls := [some (.ref 117), some (.int (s1 117 2))]) rfl ?_
      refine q_aload_n (pc' := 1) ja_Reader_isLetter_0 rfl rfl ?_
      refine q_iload_n (pc' := 2) ja_Reader_isLetter_1 rfl rfl ?_
      refine q_virt (pc' := 5) (c := 117) (as := [.int (s1 117 2)]) (r := []) ja_Reader_isLetter_2 rfl rfl rfl (by decide) ⟨rfl, by decide⟩ ?_
      refine q_in (M := jm_Reader_byteAt) rfl (Nat.le_of_ble_eq_true rfl) (ls := [some (.ref 117), some (.int (s1 117 2))]) rfl ?_
      refine q_iload_n (pc' := 1) ja_Reader_byteAt_0 rfl rfl ?_
      refine q_if_lt (pc' := 4) ja_Reader_byteAt_1 rfl ?_ ?_
      · intro h3
        refine q_iconst (pc' := 31) ja_Reader_byteAt_30 rfl 0 (by decide) ?_
        refine q_iret ja_Reader_byteAt_31 rfl rfl ?_
        show q_W _ _ _ _ 5 [some (.ref 117), some (.int (s1 117 2))] [.int 0] s1
        refine q_bipush (pc' := 7) ja_Reader_isLetter_5 rfl 97 (by decide) ?_
        refine q_ic_lt (pc' := 10) ja_Reader_isLetter_7 rfl (fun _ => ?_) (fun h => absurd ((by decide : (0 : Int32) < 97)) h)
        refine q_iconst (pc' := 25) ja_Reader_isLetter_24 rfl 0 (by decide) ?_
        refine q_iret ja_Reader_isLetter_25 rfl (by decide) ?_
        show q_W _ _ _ _ 95 [some (.ref 117)] [.int 0] s1
        refine q_if_eq (pc' := 98) ja_Reader_goOn_95 rfl (fun _ => ?_) (fun h => absurd ((by decide : (0 : Int32) = 0)) h)
        refine q_aload_n (pc' := 106) ja_Reader_goOn_105 rfl rfl ?_
        refine q_aload_n (pc' := 107) ja_Reader_goOn_106 rfl rfl ?_
        refine q_getf (pc' := 110) (v := .int (s1 117 2)) ja_Reader_goOn_107 rfl (by decide) ⟨rfl, by decide⟩ rfl ?_
        refine q_virt (pc' := 113) (c := 117) (as := [.int (s1 117 2)]) (r := []) ja_Reader_goOn_110 rfl rfl rfl (by decide) ⟨rfl, by decide⟩ ?_
        refine q_in (M := jm_Reader_isDigit) rfl (Nat.le_of_ble_eq_true rfl) (ls := [some (.ref 117), some (.int (s1 117 2))]) rfl ?_
        refine q_aload_n (pc' := 1) ja_Reader_isDigit_0 rfl rfl ?_
        refine q_iload_n (pc' := 2) ja_Reader_isDigit_1 rfl rfl ?_
        refine q_virt (pc' := 5) (c := 117) (as := [.int (s1 117 2)]) (r := []) ja_Reader_isDigit_2 rfl rfl rfl (by decide) ⟨rfl, by decide⟩ ?_
        refine q_in (M := jm_Reader_byteAt) rfl (Nat.le_of_ble_eq_true rfl) (ls := [some (.ref 117), some (.int (s1 117 2))]) rfl ?_
        refine q_iload_n (pc' := 1) ja_Reader_byteAt_0 rfl rfl ?_
        refine q_if_lt (pc' := 4) ja_Reader_byteAt_1 rfl (fun _ => ?_) (fun h => absurd (h3) h)
        refine q_iconst (pc' := 31) ja_Reader_byteAt_30 rfl 0 (by decide) ?_
        refine q_iret ja_Reader_byteAt_31 rfl rfl ?_
        show q_W _ _ _ _ 5 [some (.ref 117), some (.int (s1 117 2))] [.int 0] s1
        refine q_bipush (pc' := 7) ja_Reader_isDigit_5 rfl 48 (by decide) ?_
        refine q_ic_lt (pc' := 10) ja_Reader_isDigit_7 rfl (fun _ => ?_) (fun h => absurd ((by decide : (0 : Int32) < 48)) h)
        refine q_iconst (pc' := 25) ja_Reader_isDigit_24 rfl 0 (by decide) ?_
        refine q_iret ja_Reader_isDigit_25 rfl (by decide) ?_
        show q_W _ _ _ _ 113 [some (.ref 117)] [.int 0] s1
        refine q_if_eq (pc' := 116) ja_Reader_goOn_113 rfl (fun _ => ?_) (fun h => absurd ((by decide : (0 : Int32) = 0)) h)
        refine q_aload_n (pc' := 124) ja_Reader_goOn_123 rfl rfl ?_
        refine q_virt (pc' := 127) (c := 117) (as := []) (r := []) ja_Reader_goOn_124 rfl rfl rfl (by decide) ⟨rfl, by decide⟩ ?_
        refine q_in (M := jm_Reader_readSign) rfl (Nat.le_of_ble_eq_true rfl) (ls := [some (.ref 117), none]) rfl ?_
        refine q_aload_n (pc' := 1) ja_Reader_readSign_0 rfl rfl ?_
        refine q_aload_n (pc' := 2) ja_Reader_readSign_1 rfl rfl ?_
        refine q_getf (pc' := 5) (v := .int (s1 117 2)) ja_Reader_readSign_2 rfl (by decide) ⟨rfl, by decide⟩ rfl ?_
        refine q_virt (pc' := 8) (c := 117) (as := [.int (s1 117 2)]) (r := []) ja_Reader_readSign_5 rfl rfl rfl (by decide) ⟨rfl, by decide⟩ ?_
        refine q_in (M := jm_Reader_byteAt) rfl (Nat.le_of_ble_eq_true rfl) (ls := [some (.ref 117), some (.int (s1 117 2))]) rfl ?_
        refine q_iload_n (pc' := 1) ja_Reader_byteAt_0 rfl rfl ?_
        refine q_if_lt (pc' := 4) ja_Reader_byteAt_1 rfl (fun _ => ?_) (fun h => absurd (h3) h)
        refine q_iconst (pc' := 31) ja_Reader_byteAt_30 rfl 0 (by decide) ?_
        refine q_iret ja_Reader_byteAt_31 rfl rfl ?_
        show q_W _ _ _ _ 8 [some (.ref 117), none] [.int 0] s1
        refine q_istore_n (pc' := 9) (ls' := [some (.ref 117), some (.int 0)]) ja_Reader_readSign_8 rfl ⟨Nat.le_of_ble_eq_true rfl, rfl⟩ rfl ?_
        refine q_aload_n (pc' := 10) ja_Reader_readSign_9 rfl rfl ?_
        refine q_dup (pc' := 11) ja_Reader_readSign_10 rfl rfl ?_
        refine q_getf (pc' := 14) (v := .int (s1 117 3)) ja_Reader_readSign_11 rfl (by decide) ⟨rfl, by decide⟩ rfl ?_
        refine q_iconst (pc' := 15) ja_Reader_readSign_14 rfl 1 (by decide) ?_
        refine q_iadd (pc' := 16) ja_Reader_readSign_15 rfl ?_
        refine q_putf (pc' := 19) ja_Reader_readSign_16 rfl (by decide) rfl rfl rfl ?_
        intro s2 e2
        refine q_iload_n (pc' := 20) ja_Reader_readSign_19 rfl rfl ?_
        refine q_swOut (pc' := 132) ja_Reader_readSign_20 (by decide) (by decide) ?_
        refine q_aload_n (pc' := 133) ja_Reader_readSign_132 rfl rfl ?_
        refine q_virt (pc' := 136) (c := 117) (as := []) (r := []) ja_Reader_readSign_133 rfl rfl rfl (by decide) ⟨rfl, by decide⟩ ?_
        refine q_in (M := jm_Reader_fail) rfl (Nat.le_of_ble_eq_true rfl) (ls := [some (.ref 117)]) rfl ?_
        refine q_aload_n (pc' := 1) ja_Reader_fail_0 rfl rfl ?_
        refine q_getf (pc' := 4) (v := .int (s2 117 7)) ja_Reader_fail_1 rfl (by decide) ⟨rfl, by decide⟩ rfl ?_
        refine q_iconst (pc' := 5) ja_Reader_fail_4 rfl (-1) (by decide) ?_
        refine q_ic_ne (pc' := 8) ja_Reader_fail_5 rfl ?_ ?_
        · intro h4
          refine q_aload_n (pc' := 17) ja_Reader_fail_16 rfl rfl ?_
          refine q_bipush (pc' := 19) ja_Reader_fail_17 rfl 17 (by decide) ?_
          refine q_putf (pc' := 22) ja_Reader_fail_19 rfl (by decide) rfl rfl rfl ?_
          intro s3 e3
          refine q_vret ja_Reader_fail_22 rfl ?_
          show q_W _ _ _ _ 136 [some (.ref 117), some (.int 0)] [] s3
          refine q_vret ja_Reader_readSign_136 rfl ?_
          show q_W _ _ _ _ 127 [some (.ref 117)] [] s3
          exact q_vret ja_Reader_goOn_127 rfl (k1 h1 s1 e1 h2 h3 s2 e2 h4 s3 e3)
        · intro h5
          refine q_aload_n (pc' := 9) ja_Reader_fail_8 rfl rfl ?_
          refine q_aload_n (pc' := 10) ja_Reader_fail_9 rfl rfl ?_
          refine q_getf (pc' := 13) (v := .int (s2 117 2)) ja_Reader_fail_10 rfl (by decide) ⟨rfl, by decide⟩ rfl ?_
          refine q_putf (pc' := 16) ja_Reader_fail_13 rfl (by decide) rfl rfl rfl ?_
          intro s4 e4
          refine q_aload_n (pc' := 17) ja_Reader_fail_16 rfl rfl ?_
          refine q_bipush (pc' := 19) ja_Reader_fail_17 rfl 17 (by decide) ?_
          refine q_putf (pc' := 22) ja_Reader_fail_19 rfl (by decide) rfl rfl rfl ?_
          intro s5 e5
          refine q_vret ja_Reader_fail_22 rfl ?_
          show q_W _ _ _ _ 136 [some (.ref 117), some (.int 0)] [] s5
          refine q_vret ja_Reader_readSign_136 rfl ?_
          show q_W _ _ _ _ 127 [some (.ref 117)] [] s5
          exact q_vret ja_Reader_goOn_127 rfl (k2 h1 s1 e1 h2 h3 s2 e2 h5 s4 e4 s5 e5)
      · intro h6
        refine q_iload_n (pc' := 5) ja_Reader_byteAt_4 rfl rfl ?_
        refine q_aload_n (pc' := 6) ja_Reader_byteAt_5 rfl rfl ?_
        refine q_getf (pc' := 9) (v := .int (s1 117 1)) ja_Reader_byteAt_6 rfl (by decide) ⟨rfl, by decide⟩ rfl ?_
        refine q_ic_ge (pc' := 12) ja_Reader_byteAt_9 rfl (fun h => absurd (h2) h) (fun _ => ?_)
        refine q_iload_n (pc' := 13) ja_Reader_byteAt_12 rfl rfl ?_
        refine q_aload_n (pc' := 14) ja_Reader_byteAt_13 rfl rfl ?_
        refine q_getf (pc' := 17) (v := .ref 118) ja_Reader_byteAt_14 rfl (by decide) ⟨rfl, by decide⟩ rfl ?_
        refine q_alen (pc' := 18) ja_Reader_byteAt_17 rfl (by decide) (kd := 13) (l := 200) rfl (by decide) (v := 200) (by decide) ?_
        refine q_ic_ge (pc' := 21) ja_Reader_byteAt_18 rfl ?_ ?_
        · intro h7
          refine q_iconst (pc' := 31) ja_Reader_byteAt_30 rfl 0 (by decide) ?_
          refine q_iret ja_Reader_byteAt_31 rfl rfl ?_
          show q_W _ _ _ _ 5 [some (.ref 117), some (.int (s1 117 2))] [.int 0] s1
          refine q_bipush (pc' := 7) ja_Reader_isLetter_5 rfl 97 (by decide) ?_
          refine q_ic_lt (pc' := 10) ja_Reader_isLetter_7 rfl (fun _ => ?_) (fun h => absurd ((by decide : (0 : Int32) < 97)) h)
          refine q_iconst (pc' := 25) ja_Reader_isLetter_24 rfl 0 (by decide) ?_
          refine q_iret ja_Reader_isLetter_25 rfl (by decide) ?_
          show q_W _ _ _ _ 95 [some (.ref 117)] [.int 0] s1
          refine q_if_eq (pc' := 98) ja_Reader_goOn_95 rfl (fun _ => ?_) (fun h => absurd ((by decide : (0 : Int32) = 0)) h)
          refine q_aload_n (pc' := 106) ja_Reader_goOn_105 rfl rfl ?_
          refine q_aload_n (pc' := 107) ja_Reader_goOn_106 rfl rfl ?_
          refine q_getf (pc' := 110) (v := .int (s1 117 2)) ja_Reader_goOn_107 rfl (by decide) ⟨rfl, by decide⟩ rfl ?_
          refine q_virt (pc' := 113) (c := 117) (as := [.int (s1 117 2)]) (r := []) ja_Reader_goOn_110 rfl rfl rfl (by decide) ⟨rfl, by decide⟩ ?_
          refine q_in (M := jm_Reader_isDigit) rfl (Nat.le_of_ble_eq_true rfl) (ls := [some (.ref 117), some (.int (s1 117 2))]) rfl ?_
          refine q_aload_n (pc' := 1) ja_Reader_isDigit_0 rfl rfl ?_
          refine q_iload_n (pc' := 2) ja_Reader_isDigit_1 rfl rfl ?_
          refine q_virt (pc' := 5) (c := 117) (as := [.int (s1 117 2)]) (r := []) ja_Reader_isDigit_2 rfl rfl rfl (by decide) ⟨rfl, by decide⟩ ?_
          refine q_in (M := jm_Reader_byteAt) rfl (Nat.le_of_ble_eq_true rfl) (ls := [some (.ref 117), some (.int (s1 117 2))]) rfl ?_
          refine q_iload_n (pc' := 1) ja_Reader_byteAt_0 rfl rfl ?_
          refine q_if_lt (pc' := 4) ja_Reader_byteAt_1 rfl (fun h => absurd h (h6)) (fun _ => ?_)
          refine q_iload_n (pc' := 5) ja_Reader_byteAt_4 rfl rfl ?_
          refine q_aload_n (pc' := 6) ja_Reader_byteAt_5 rfl rfl ?_
          refine q_getf (pc' := 9) (v := .int (s1 117 1)) ja_Reader_byteAt_6 rfl (by decide) ⟨rfl, by decide⟩ rfl ?_
          refine q_ic_ge (pc' := 12) ja_Reader_byteAt_9 rfl (fun h => absurd (h2) h) (fun _ => ?_)
          refine q_iload_n (pc' := 13) ja_Reader_byteAt_12 rfl rfl ?_
          refine q_aload_n (pc' := 14) ja_Reader_byteAt_13 rfl rfl ?_
          refine q_getf (pc' := 17) (v := .ref 118) ja_Reader_byteAt_14 rfl (by decide) ⟨rfl, by decide⟩ rfl ?_
          refine q_alen (pc' := 18) ja_Reader_byteAt_17 rfl (by decide) (kd := 13) (l := 200) rfl (by decide) (v := 200) (by decide) ?_
          refine q_ic_ge (pc' := 21) ja_Reader_byteAt_18 rfl (fun _ => ?_) (fun h => absurd h (h7))
          refine q_iconst (pc' := 31) ja_Reader_byteAt_30 rfl 0 (by decide) ?_
          refine q_iret ja_Reader_byteAt_31 rfl rfl ?_
          show q_W _ _ _ _ 5 [some (.ref 117), some (.int (s1 117 2))] [.int 0] s1
          refine q_bipush (pc' := 7) ja_Reader_isDigit_5 rfl 48 (by decide) ?_
          refine q_ic_lt (pc' := 10) ja_Reader_isDigit_7 rfl (fun _ => ?_) (fun h => absurd ((by decide : (0 : Int32) < 48)) h)
          refine q_iconst (pc' := 25) ja_Reader_isDigit_24 rfl 0 (by decide) ?_
          refine q_iret ja_Reader_isDigit_25 rfl (by decide) ?_
          show q_W _ _ _ _ 113 [some (.ref 117)] [.int 0] s1
          refine q_if_eq (pc' := 116) ja_Reader_goOn_113 rfl (fun _ => ?_) (fun h => absurd ((by decide : (0 : Int32) = 0)) h)
          refine q_aload_n (pc' := 124) ja_Reader_goOn_123 rfl rfl ?_
          refine q_virt (pc' := 127) (c := 117) (as := []) (r := []) ja_Reader_goOn_124 rfl rfl rfl (by decide) ⟨rfl, by decide⟩ ?_
          refine q_in (M := jm_Reader_readSign) rfl (Nat.le_of_ble_eq_true rfl) (ls := [some (.ref 117), none]) rfl ?_
          refine q_aload_n (pc' := 1) ja_Reader_readSign_0 rfl rfl ?_
          refine q_aload_n (pc' := 2) ja_Reader_readSign_1 rfl rfl ?_
          refine q_getf (pc' := 5) (v := .int (s1 117 2)) ja_Reader_readSign_2 rfl (by decide) ⟨rfl, by decide⟩ rfl ?_
          refine q_virt (pc' := 8) (c := 117) (as := [.int (s1 117 2)]) (r := []) ja_Reader_readSign_5 rfl rfl rfl (by decide) ⟨rfl, by decide⟩ ?_
          refine q_in (M := jm_Reader_byteAt) rfl (Nat.le_of_ble_eq_true rfl) (ls := [some (.ref 117), some (.int (s1 117 2))]) rfl ?_
          refine q_iload_n (pc' := 1) ja_Reader_byteAt_0 rfl rfl ?_
          refine q_if_lt (pc' := 4) ja_Reader_byteAt_1 rfl (fun h => absurd h (h6)) (fun _ => ?_)
          refine q_iload_n (pc' := 5) ja_Reader_byteAt_4 rfl rfl ?_
          refine q_aload_n (pc' := 6) ja_Reader_byteAt_5 rfl rfl ?_
          refine q_getf (pc' := 9) (v := .int (s1 117 1)) ja_Reader_byteAt_6 rfl (by decide) ⟨rfl, by decide⟩ rfl ?_
          refine q_ic_ge (pc' := 12) ja_Reader_byteAt_9 rfl (fun h => absurd (h2) h) (fun _ => ?_)
          refine q_iload_n (pc' := 13) ja_Reader_byteAt_12 rfl rfl ?_
          refine q_aload_n (pc' := 14) ja_Reader_byteAt_13 rfl rfl ?_
          refine q_getf (pc' := 17) (v := .ref 118) ja_Reader_byteAt_14 rfl (by decide) ⟨rfl, by decide⟩ rfl ?_
          refine q_alen (pc' := 18) ja_Reader_byteAt_17 rfl (by decide) (kd := 13) (l := 200) rfl (by decide) (v := 200) (by decide) ?_
          refine q_ic_ge (pc' := 21) ja_Reader_byteAt_18 rfl (fun _ => ?_) (fun h => absurd h (h7))
          refine q_iconst (pc' := 31) ja_Reader_byteAt_30 rfl 0 (by decide) ?_
          refine q_iret ja_Reader_byteAt_31 rfl rfl ?_
          show q_W _ _ _ _ 8 [some (.ref 117), none] [.int 0] s1
          refine q_istore_n (pc' := 9) (ls' := [some (.ref 117), some (.int 0)]) ja_Reader_readSign_8 rfl ⟨Nat.le_of_ble_eq_true rfl, rfl⟩ rfl ?_
          refine q_aload_n (pc' := 10) ja_Reader_readSign_9 rfl rfl ?_
          refine q_dup (pc' := 11) ja_Reader_readSign_10 rfl rfl ?_
          refine q_getf (pc' := 14) (v := .int (s1 117 3)) ja_Reader_readSign_11 rfl (by decide) ⟨rfl, by decide⟩ rfl ?_
          refine q_iconst (pc' := 15) ja_Reader_readSign_14 rfl 1 (by decide) ?_
          refine q_iadd (pc' := 16) ja_Reader_readSign_15 rfl ?_
          refine q_putf (pc' := 19) ja_Reader_readSign_16 rfl (by decide) rfl rfl rfl ?_
          intro s6 e6
          refine q_iload_n (pc' := 20) ja_Reader_readSign_19 rfl rfl ?_
          refine q_swOut (pc' := 132) ja_Reader_readSign_20 (by decide) (by decide) ?_
          refine q_aload_n (pc' := 133) ja_Reader_readSign_132 rfl rfl ?_
          refine q_virt (pc' := 136) (c := 117) (as := []) (r := []) ja_Reader_readSign_133 rfl rfl rfl (by decide) ⟨rfl, by decide⟩ ?_
          refine q_in (M := jm_Reader_fail) rfl (Nat.le_of_ble_eq_true rfl) (ls := [some (.ref 117)]) rfl ?_
          refine q_aload_n (pc' := 1) ja_Reader_fail_0 rfl rfl ?_
          refine q_getf (pc' := 4) (v := .int (s6 117 7)) ja_Reader_fail_1 rfl (by decide) ⟨rfl, by decide⟩ rfl ?_
          refine q_iconst (pc' := 5) ja_Reader_fail_4 rfl (-1) (by decide) ?_
          refine q_ic_ne (pc' := 8) ja_Reader_fail_5 rfl ?_ ?_
          · intro h8
            refine q_aload_n (pc' := 17) ja_Reader_fail_16 rfl rfl ?_
            refine q_bipush (pc' := 19) ja_Reader_fail_17 rfl 17 (by decide) ?_
            refine q_putf (pc' := 22) ja_Reader_fail_19 rfl (by decide) rfl rfl rfl ?_
            intro s7 e7
            refine q_vret ja_Reader_fail_22 rfl ?_
            show q_W _ _ _ _ 136 [some (.ref 117), some (.int 0)] [] s7
            refine q_vret ja_Reader_readSign_136 rfl ?_
            show q_W _ _ _ _ 127 [some (.ref 117)] [] s7
            exact q_vret ja_Reader_goOn_127 rfl (k3 h1 s1 e1 h2 h6 h7 s6 e6 h8 s7 e7)
          · intro h9
            refine q_aload_n (pc' := 9) ja_Reader_fail_8 rfl rfl ?_
            refine q_aload_n (pc' := 10) ja_Reader_fail_9 rfl rfl ?_
            refine q_getf (pc' := 13) (v := .int (s6 117 2)) ja_Reader_fail_10 rfl (by decide) ⟨rfl, by decide⟩ rfl ?_
            refine q_putf (pc' := 16) ja_Reader_fail_13 rfl (by decide) rfl rfl rfl ?_
            intro s8 e8
            refine q_aload_n (pc' := 17) ja_Reader_fail_16 rfl rfl ?_
            refine q_bipush (pc' := 19) ja_Reader_fail_17 rfl 17 (by decide) ?_
            refine q_putf (pc' := 22) ja_Reader_fail_19 rfl (by decide) rfl rfl rfl ?_
            intro s9 e9
            refine q_vret ja_Reader_fail_22 rfl ?_
            show q_W _ _ _ _ 136 [some (.ref 117), some (.int 0)] [] s9
            refine q_vret ja_Reader_readSign_136 rfl ?_
            show q_W _ _ _ _ 127 [some (.ref 117)] [] s9
            exact q_vret ja_Reader_goOn_127 rfl (k4 h1 s1 e1 h2 h6 h7 s6 e6 h9 s8 e8 s9 e9)
        · intro h10
          refine q_aload_n (pc' := 22) ja_Reader_byteAt_21 rfl rfl ?_
          refine q_getf (pc' := 25) (v := .ref 118) ja_Reader_byteAt_22 rfl (by decide) ⟨rfl, by decide⟩ rfl ?_
          refine q_iload_n (pc' := 26) ja_Reader_byteAt_25 rfl rfl ?_
          refine q_iald (pc' := 27) (v := .int (s1 118 (s1 117 2).toNatClampNeg)) ja_Reader_byteAt_26 rfl (by decide) (l := 200) rfl (q_inr (l := 200) (by decide) h6 h10) rfl ?_
          refine q_goto ja_Reader_byteAt_27 ?_
          refine q_iret ja_Reader_byteAt_31 rfl rfl ?_
          show q_W _ _ _ _ 5 [some (.ref 117), some (.int (s1 117 2))] [.int (s1 118 (s1 117 2).toNatClampNeg)] s1
          refine q_bipush (pc' := 7) ja_Reader_isLetter_5 rfl 97 (by decide) ?_
          refine q_ic_lt (pc' := 10) ja_Reader_isLetter_7 rfl ?_ ?_
          · intro h11
            refine q_iconst (pc' := 25) ja_Reader_isLetter_24 rfl 0 (by decide) ?_
            refine q_iret ja_Reader_isLetter_25 rfl (by decide) ?_
            show q_W _ _ _ _ 95 [some (.ref 117)] [.int 0] s1
            refine q_if_eq (pc' := 98) ja_Reader_goOn_95 rfl (fun _ => ?_) (fun h => absurd ((by decide : (0 : Int32) = 0)) h)
            refine q_aload_n (pc' := 106) ja_Reader_goOn_105 rfl rfl ?_
            refine q_aload_n (pc' := 107) ja_Reader_goOn_106 rfl rfl ?_
            refine q_getf (pc' := 110) (v := .int (s1 117 2)) ja_Reader_goOn_107 rfl (by decide) ⟨rfl, by decide⟩ rfl ?_
            refine q_virt (pc' := 113) (c := 117) (as := [.int (s1 117 2)]) (r := []) ja_Reader_goOn_110 rfl rfl rfl (by decide) ⟨rfl, by decide⟩ ?_
            refine q_in (M := jm_Reader_isDigit) rfl (Nat.le_of_ble_eq_true rfl) (ls := [some (.ref 117), some (.int (s1 117 2))]) rfl ?_
            refine q_aload_n (pc' := 1) ja_Reader_isDigit_0 rfl rfl ?_
            refine q_iload_n (pc' := 2) ja_Reader_isDigit_1 rfl rfl ?_
            refine q_virt (pc' := 5) (c := 117) (as := [.int (s1 117 2)]) (r := []) ja_Reader_isDigit_2 rfl rfl rfl (by decide) ⟨rfl, by decide⟩ ?_
            refine q_in (M := jm_Reader_byteAt) rfl (Nat.le_of_ble_eq_true rfl) (ls := [some (.ref 117), some (.int (s1 117 2))]) rfl ?_
            refine q_iload_n (pc' := 1) ja_Reader_byteAt_0 rfl rfl ?_
            refine q_if_lt (pc' := 4) ja_Reader_byteAt_1 rfl (fun h => absurd h (h6)) (fun _ => ?_)
            refine q_iload_n (pc' := 5) ja_Reader_byteAt_4 rfl rfl ?_
            refine q_aload_n (pc' := 6) ja_Reader_byteAt_5 rfl rfl ?_
            refine q_getf (pc' := 9) (v := .int (s1 117 1)) ja_Reader_byteAt_6 rfl (by decide) ⟨rfl, by decide⟩ rfl ?_
            refine q_ic_ge (pc' := 12) ja_Reader_byteAt_9 rfl (fun h => absurd (h2) h) (fun _ => ?_)
            refine q_iload_n (pc' := 13) ja_Reader_byteAt_12 rfl rfl ?_
            refine q_aload_n (pc' := 14) ja_Reader_byteAt_13 rfl rfl ?_
            refine q_getf (pc' := 17) (v := .ref 118) ja_Reader_byteAt_14 rfl (by decide) ⟨rfl, by decide⟩ rfl ?_
            refine q_alen (pc' := 18) ja_Reader_byteAt_17 rfl (by decide) (kd := 13) (l := 200) rfl (by decide) (v := 200) (by decide) ?_
            refine q_ic_ge (pc' := 21) ja_Reader_byteAt_18 rfl (fun h => absurd (h10) h) (fun _ => ?_)
            refine q_aload_n (pc' := 22) ja_Reader_byteAt_21 rfl rfl ?_
            refine q_getf (pc' := 25) (v := .ref 118) ja_Reader_byteAt_22 rfl (by decide) ⟨rfl, by decide⟩ rfl ?_
            refine q_iload_n (pc' := 26) ja_Reader_byteAt_25 rfl rfl ?_
            refine q_iald (pc' := 27) (v := .int (s1 118 (s1 117 2).toNatClampNeg)) ja_Reader_byteAt_26 rfl (by decide) (l := 200) rfl (q_inr (l := 200) (by decide) h6 h10) rfl ?_
            refine q_goto ja_Reader_byteAt_27 ?_
            refine q_iret ja_Reader_byteAt_31 rfl rfl ?_
            show q_W _ _ _ _ 5 [some (.ref 117), some (.int (s1 117 2))] [.int (s1 118 (s1 117 2).toNatClampNeg)] s1
            refine q_bipush (pc' := 7) ja_Reader_isDigit_5 rfl 48 (by decide) ?_
            refine q_ic_lt (pc' := 10) ja_Reader_isDigit_7 rfl ?_ ?_
            · intro h12
              refine q_iconst (pc' := 25) ja_Reader_isDigit_24 rfl 0 (by decide) ?_
              refine q_iret ja_Reader_isDigit_25 rfl (by decide) ?_
              show q_W _ _ _ _ 113 [some (.ref 117)] [.int 0] s1
              refine q_if_eq (pc' := 116) ja_Reader_goOn_113 rfl (fun _ => ?_) (fun h => absurd ((by decide : (0 : Int32) = 0)) h)
              refine q_aload_n (pc' := 124) ja_Reader_goOn_123 rfl rfl ?_
              refine q_virt (pc' := 127) (c := 117) (as := []) (r := []) ja_Reader_goOn_124 rfl rfl rfl (by decide) ⟨rfl, by decide⟩ ?_
              refine q_in (M := jm_Reader_readSign) rfl (Nat.le_of_ble_eq_true rfl) (ls := [some (.ref 117), none]) rfl ?_
              refine q_aload_n (pc' := 1) ja_Reader_readSign_0 rfl rfl ?_
              refine q_aload_n (pc' := 2) ja_Reader_readSign_1 rfl rfl ?_
              refine q_getf (pc' := 5) (v := .int (s1 117 2)) ja_Reader_readSign_2 rfl (by decide) ⟨rfl, by decide⟩ rfl ?_
              refine q_virt (pc' := 8) (c := 117) (as := [.int (s1 117 2)]) (r := []) ja_Reader_readSign_5 rfl rfl rfl (by decide) ⟨rfl, by decide⟩ ?_
              refine q_in (M := jm_Reader_byteAt) rfl (Nat.le_of_ble_eq_true rfl) (ls := [some (.ref 117), some (.int (s1 117 2))]) rfl ?_
              refine q_iload_n (pc' := 1) ja_Reader_byteAt_0 rfl rfl ?_
              refine q_if_lt (pc' := 4) ja_Reader_byteAt_1 rfl (fun h => absurd h (h6)) (fun _ => ?_)
              refine q_iload_n (pc' := 5) ja_Reader_byteAt_4 rfl rfl ?_
              refine q_aload_n (pc' := 6) ja_Reader_byteAt_5 rfl rfl ?_
              refine q_getf (pc' := 9) (v := .int (s1 117 1)) ja_Reader_byteAt_6 rfl (by decide) ⟨rfl, by decide⟩ rfl ?_
              refine q_ic_ge (pc' := 12) ja_Reader_byteAt_9 rfl (fun h => absurd (h2) h) (fun _ => ?_)
              refine q_iload_n (pc' := 13) ja_Reader_byteAt_12 rfl rfl ?_
              refine q_aload_n (pc' := 14) ja_Reader_byteAt_13 rfl rfl ?_
              refine q_getf (pc' := 17) (v := .ref 118) ja_Reader_byteAt_14 rfl (by decide) ⟨rfl, by decide⟩ rfl ?_
              refine q_alen (pc' := 18) ja_Reader_byteAt_17 rfl (by decide) (kd := 13) (l := 200) rfl (by decide) (v := 200) (by decide) ?_
              refine q_ic_ge (pc' := 21) ja_Reader_byteAt_18 rfl (fun h => absurd (h10) h) (fun _ => ?_)
              refine q_aload_n (pc' := 22) ja_Reader_byteAt_21 rfl rfl ?_
              refine q_getf (pc' := 25) (v := .ref 118) ja_Reader_byteAt_22 rfl (by decide) ⟨rfl, by decide⟩ rfl ?_
              refine q_iload_n (pc' := 26) ja_Reader_byteAt_25 rfl rfl ?_
              refine q_iald (pc' := 27) (v := .int (s1 118 (s1 117 2).toNatClampNeg)) ja_Reader_byteAt_26 rfl (by decide) (l := 200) rfl (q_inr (l := 200) (by decide) h6 h10) rfl ?_
              refine q_goto ja_Reader_byteAt_27 ?_
              refine q_iret ja_Reader_byteAt_31 rfl rfl ?_
              show q_W _ _ _ _ 8 [some (.ref 117), none] [.int (s1 118 (s1 117 2).toNatClampNeg)] s1
              refine q_istore_n (pc' := 9) (ls' := [some (.ref 117), some (.int (s1 118 (s1 117 2).toNatClampNeg))]) ja_Reader_readSign_8 rfl ⟨Nat.le_of_ble_eq_true rfl, rfl⟩ rfl ?_
              refine q_aload_n (pc' := 10) ja_Reader_readSign_9 rfl rfl ?_
              refine q_dup (pc' := 11) ja_Reader_readSign_10 rfl rfl ?_
              refine q_getf (pc' := 14) (v := .int (s1 117 3)) ja_Reader_readSign_11 rfl (by decide) ⟨rfl, by decide⟩ rfl ?_
              refine q_iconst (pc' := 15) ja_Reader_readSign_14 rfl 1 (by decide) ?_
              refine q_iadd (pc' := 16) ja_Reader_readSign_15 rfl ?_
              refine q_putf (pc' := 19) ja_Reader_readSign_16 rfl (by decide) rfl rfl rfl ?_
              intro s10 e10
              refine q_iload_n (pc' := 20) ja_Reader_readSign_19 rfl rfl ?_
              by_cases h13 : ((s1 118 (s1 117 2).toNatClampNeg) = 40 ∨ (s1 118 (s1 117 2).toNatClampNeg) = 41 ∨ (s1 118 (s1 117 2).toNatClampNeg) = 42 ∨ (s1 118 (s1 117 2).toNatClampNeg) = 43 ∨ (s1 118 (s1 117 2).toNatClampNeg) = 45 ∨ (s1 118 (s1 117 2).toNatClampNeg) = 59 ∨ (s1 118 (s1 117 2).toNatClampNeg) = 60 ∨ (s1 118 (s1 117 2).toNatClampNeg) = 61)
              · refine q_swE (pc' := 124) ja_Reader_readSign_20 (by rcases h13 with e | e | e | e | e | e | e | e <;> (rw [e]; decide)) (by rcases h13 with e | e | e | e | e | e | e | e <;> (rw [e]; exact ⟨_, rfl, rfl⟩)) ?_
                refine q_aload_n (pc' := 125) ja_Reader_readSign_124 rfl rfl ?_
                refine q_iload_n (pc' := 126) ja_Reader_readSign_125 rfl rfl ?_
                refine q_putf (pc' := 129) ja_Reader_readSign_126 rfl (by decide) rfl rfl rfl ?_
                intro s11 e11
                refine q_goto ja_Reader_readSign_129 ?_
                refine q_vret ja_Reader_readSign_136 rfl ?_
                show q_W _ _ _ _ 127 [some (.ref 117)] [] s11
                exact q_vret ja_Reader_goOn_127 rfl (k5 h1 s1 e1 h2 h6 h10 h11 h12 s10 e10 h13 s11 e11)
              refine q_swD (pc' := 132) ja_Reader_readSign_20 [40, 41, 42, 43, 45, 59, 60, 61] (List.forall_mem_cons.mpr ⟨fun e => h13 (by rw [e]; decide), (List.forall_mem_cons.mpr ⟨fun e => h13 (by rw [e]; decide), (List.forall_mem_cons.mpr ⟨fun e => h13 (by rw [e]; decide), (List.forall_mem_cons.mpr ⟨fun e => h13 (by rw [e]; decide), (List.forall_mem_cons.mpr ⟨fun e => h13 (by rw [e]; decide), (List.forall_mem_cons.mpr ⟨fun e => h13 (by rw [e]; decide), (List.forall_mem_cons.mpr ⟨fun e => h13 (by rw [e]; decide), (List.forall_mem_cons.mpr ⟨fun e => h13 (by rw [e]; decide), (List.forall_mem_nil _)⟩)⟩)⟩)⟩)⟩)⟩)⟩)⟩) (by decide) rfl ?_
              refine q_aload_n (pc' := 133) ja_Reader_readSign_132 rfl rfl ?_
              refine q_virt (pc' := 136) (c := 117) (as := []) (r := []) ja_Reader_readSign_133 rfl rfl rfl (by decide) ⟨rfl, by decide⟩ ?_
              refine q_in (M := jm_Reader_fail) rfl (Nat.le_of_ble_eq_true rfl) (ls := [some (.ref 117)]) rfl ?_
              refine q_aload_n (pc' := 1) ja_Reader_fail_0 rfl rfl ?_
              refine q_getf (pc' := 4) (v := .int (s10 117 7)) ja_Reader_fail_1 rfl (by decide) ⟨rfl, by decide⟩ rfl ?_
              refine q_iconst (pc' := 5) ja_Reader_fail_4 rfl (-1) (by decide) ?_
              refine q_ic_ne (pc' := 8) ja_Reader_fail_5 rfl ?_ ?_
              · intro h14
                refine q_aload_n (pc' := 17) ja_Reader_fail_16 rfl rfl ?_
                refine q_bipush (pc' := 19) ja_Reader_fail_17 rfl 17 (by decide) ?_
                refine q_putf (pc' := 22) ja_Reader_fail_19 rfl (by decide) rfl rfl rfl ?_
                intro s12 e12
                refine q_vret ja_Reader_fail_22 rfl ?_
                show q_W _ _ _ _ 136 [some (.ref 117), some (.int (s1 118 (s1 117 2).toNatClampNeg))] [] s12
                refine q_vret ja_Reader_readSign_136 rfl ?_
                show q_W _ _ _ _ 127 [some (.ref 117)] [] s12
                exact q_vret ja_Reader_goOn_127 rfl (k6 h1 s1 e1 h2 h6 h10 h11 h12 s10 e10 h13 h14 s12 e12)
              · intro h15
                refine q_aload_n (pc' := 9) ja_Reader_fail_8 rfl rfl ?_
                refine q_aload_n (pc' := 10) ja_Reader_fail_9 rfl rfl ?_
                refine q_getf (pc' := 13) (v := .int (s10 117 2)) ja_Reader_fail_10 rfl (by decide) ⟨rfl, by decide⟩ rfl ?_
                refine q_putf (pc' := 16) ja_Reader_fail_13 rfl (by decide) rfl rfl rfl ?_
                intro s13 e13
                refine q_aload_n (pc' := 17) ja_Reader_fail_16 rfl rfl ?_
                refine q_bipush (pc' := 19) ja_Reader_fail_17 rfl 17 (by decide) ?_
                refine q_putf (pc' := 22) ja_Reader_fail_19 rfl (by decide) rfl rfl rfl ?_
                intro s14 e14
                refine q_vret ja_Reader_fail_22 rfl ?_
                show q_W _ _ _ _ 136 [some (.ref 117), some (.int (s1 118 (s1 117 2).toNatClampNeg))] [] s14
                refine q_vret ja_Reader_readSign_136 rfl ?_
                show q_W _ _ _ _ 127 [some (.ref 117)] [] s14
                exact q_vret ja_Reader_goOn_127 rfl (k7 h1 s1 e1 h2 h6 h10 h11 h12 s10 e10 h13 h15 s13 e13 s14 e14)
            · intro h16
              refine q_aload_n (pc' := 11) ja_Reader_isDigit_10 rfl rfl ?_
              refine q_iload_n (pc' := 12) ja_Reader_isDigit_11 rfl rfl ?_
              refine q_virt (pc' := 15) (c := 117) (as := [.int (s1 117 2)]) (r := []) ja_Reader_isDigit_12 rfl rfl rfl (by decide) ⟨rfl, by decide⟩ ?_
              refine q_in (M := jm_Reader_byteAt) rfl (Nat.le_of_ble_eq_true rfl) (ls := [some (.ref 117), some (.int (s1 117 2))]) rfl ?_
              refine q_iload_n (pc' := 1) ja_Reader_byteAt_0 rfl rfl ?_
              refine q_if_lt (pc' := 4) ja_Reader_byteAt_1 rfl (fun h => absurd h (h6)) (fun _ => ?_)
              refine q_iload_n (pc' := 5) ja_Reader_byteAt_4 rfl rfl ?_
              refine q_aload_n (pc' := 6) ja_Reader_byteAt_5 rfl rfl ?_
              refine q_getf (pc' := 9) (v := .int (s1 117 1)) ja_Reader_byteAt_6 rfl (by decide) ⟨rfl, by decide⟩ rfl ?_
              refine q_ic_ge (pc' := 12) ja_Reader_byteAt_9 rfl (fun h => absurd (h2) h) (fun _ => ?_)
              refine q_iload_n (pc' := 13) ja_Reader_byteAt_12 rfl rfl ?_
              refine q_aload_n (pc' := 14) ja_Reader_byteAt_13 rfl rfl ?_
              refine q_getf (pc' := 17) (v := .ref 118) ja_Reader_byteAt_14 rfl (by decide) ⟨rfl, by decide⟩ rfl ?_
              refine q_alen (pc' := 18) ja_Reader_byteAt_17 rfl (by decide) (kd := 13) (l := 200) rfl (by decide) (v := 200) (by decide) ?_
              refine q_ic_ge (pc' := 21) ja_Reader_byteAt_18 rfl (fun h => absurd (h10) h) (fun _ => ?_)
              refine q_aload_n (pc' := 22) ja_Reader_byteAt_21 rfl rfl ?_
              refine q_getf (pc' := 25) (v := .ref 118) ja_Reader_byteAt_22 rfl (by decide) ⟨rfl, by decide⟩ rfl ?_
              refine q_iload_n (pc' := 26) ja_Reader_byteAt_25 rfl rfl ?_
              refine q_iald (pc' := 27) (v := .int (s1 118 (s1 117 2).toNatClampNeg)) ja_Reader_byteAt_26 rfl (by decide) (l := 200) rfl (q_inr (l := 200) (by decide) h6 h10) rfl ?_
              refine q_goto ja_Reader_byteAt_27 ?_
              refine q_iret ja_Reader_byteAt_31 rfl rfl ?_
              show q_W _ _ _ _ 15 [some (.ref 117), some (.int (s1 117 2))] [.int (s1 118 (s1 117 2).toNatClampNeg)] s1
              refine q_bipush (pc' := 17) ja_Reader_isDigit_15 rfl 57 (by decide) ?_
              refine q_ic_gt (pc' := 20) ja_Reader_isDigit_17 rfl ?_ ?_
              · intro h17
                refine q_iconst (pc' := 25) ja_Reader_isDigit_24 rfl 0 (by decide) ?_
                refine q_iret ja_Reader_isDigit_25 rfl (by decide) ?_
                show q_W _ _ _ _ 113 [some (.ref 117)] [.int 0] s1
                refine q_if_eq (pc' := 116) ja_Reader_goOn_113 rfl (fun _ => ?_) (fun h => absurd ((by decide : (0 : Int32) = 0)) h)
                refine q_aload_n (pc' := 124) ja_Reader_goOn_123 rfl rfl ?_
                refine q_virt (pc' := 127) (c := 117) (as := []) (r := []) ja_Reader_goOn_124 rfl rfl rfl (by decide) ⟨rfl, by decide⟩ ?_
                refine q_in (M := jm_Reader_readSign) rfl (Nat.le_of_ble_eq_true rfl) (ls := [some (.ref 117), none]) rfl ?_
                refine q_aload_n (pc' := 1) ja_Reader_readSign_0 rfl rfl ?_
                refine q_aload_n (pc' := 2) ja_Reader_readSign_1 rfl rfl ?_
                refine q_getf (pc' := 5) (v := .int (s1 117 2)) ja_Reader_readSign_2 rfl (by decide) ⟨rfl, by decide⟩ rfl ?_
                refine q_virt (pc' := 8) (c := 117) (as := [.int (s1 117 2)]) (r := []) ja_Reader_readSign_5 rfl rfl rfl (by decide) ⟨rfl, by decide⟩ ?_
                refine q_in (M := jm_Reader_byteAt) rfl (Nat.le_of_ble_eq_true rfl) (ls := [some (.ref 117), some (.int (s1 117 2))]) rfl ?_
                refine q_iload_n (pc' := 1) ja_Reader_byteAt_0 rfl rfl ?_
                refine q_if_lt (pc' := 4) ja_Reader_byteAt_1 rfl (fun h => absurd h (h6)) (fun _ => ?_)
                refine q_iload_n (pc' := 5) ja_Reader_byteAt_4 rfl rfl ?_
                refine q_aload_n (pc' := 6) ja_Reader_byteAt_5 rfl rfl ?_
                refine q_getf (pc' := 9) (v := .int (s1 117 1)) ja_Reader_byteAt_6 rfl (by decide) ⟨rfl, by decide⟩ rfl ?_
                refine q_ic_ge (pc' := 12) ja_Reader_byteAt_9 rfl (fun h => absurd (h2) h) (fun _ => ?_)
                refine q_iload_n (pc' := 13) ja_Reader_byteAt_12 rfl rfl ?_
                refine q_aload_n (pc' := 14) ja_Reader_byteAt_13 rfl rfl ?_
                refine q_getf (pc' := 17) (v := .ref 118) ja_Reader_byteAt_14 rfl (by decide) ⟨rfl, by decide⟩ rfl ?_
                refine q_alen (pc' := 18) ja_Reader_byteAt_17 rfl (by decide) (kd := 13) (l := 200) rfl (by decide) (v := 200) (by decide) ?_
                refine q_ic_ge (pc' := 21) ja_Reader_byteAt_18 rfl (fun h => absurd (h10) h) (fun _ => ?_)
                refine q_aload_n (pc' := 22) ja_Reader_byteAt_21 rfl rfl ?_
                refine q_getf (pc' := 25) (v := .ref 118) ja_Reader_byteAt_22 rfl (by decide) ⟨rfl, by decide⟩ rfl ?_
                refine q_iload_n (pc' := 26) ja_Reader_byteAt_25 rfl rfl ?_
                refine q_iald (pc' := 27) (v := .int (s1 118 (s1 117 2).toNatClampNeg)) ja_Reader_byteAt_26 rfl (by decide) (l := 200) rfl (q_inr (l := 200) (by decide) h6 h10) rfl ?_
                refine q_goto ja_Reader_byteAt_27 ?_
                refine q_iret ja_Reader_byteAt_31 rfl rfl ?_
                show q_W _ _ _ _ 8 [some (.ref 117), none] [.int (s1 118 (s1 117 2).toNatClampNeg)] s1
                refine q_istore_n (pc' := 9) (ls' := [some (.ref 117), some (.int (s1 118 (s1 117 2).toNatClampNeg))]) ja_Reader_readSign_8 rfl ⟨Nat.le_of_ble_eq_true rfl, rfl⟩ rfl ?_
                refine q_aload_n (pc' := 10) ja_Reader_readSign_9 rfl rfl ?_
                refine q_dup (pc' := 11) ja_Reader_readSign_10 rfl rfl ?_
                refine q_getf (pc' := 14) (v := .int (s1 117 3)) ja_Reader_readSign_11 rfl (by decide) ⟨rfl, by decide⟩ rfl ?_
                refine q_iconst (pc' := 15) ja_Reader_readSign_14 rfl 1 (by decide) ?_
                refine q_iadd (pc' := 16) ja_Reader_readSign_15 rfl ?_
                refine q_putf (pc' := 19) ja_Reader_readSign_16 rfl (by decide) rfl rfl rfl ?_
                intro s15 e15
                refine q_iload_n (pc' := 20) ja_Reader_readSign_19 rfl rfl ?_
                by_cases h18 : ((s1 118 (s1 117 2).toNatClampNeg) = 40 ∨ (s1 118 (s1 117 2).toNatClampNeg) = 41 ∨ (s1 118 (s1 117 2).toNatClampNeg) = 42 ∨ (s1 118 (s1 117 2).toNatClampNeg) = 43 ∨ (s1 118 (s1 117 2).toNatClampNeg) = 45 ∨ (s1 118 (s1 117 2).toNatClampNeg) = 59 ∨ (s1 118 (s1 117 2).toNatClampNeg) = 60 ∨ (s1 118 (s1 117 2).toNatClampNeg) = 61)
                · refine q_swE (pc' := 124) ja_Reader_readSign_20 (by rcases h18 with e | e | e | e | e | e | e | e <;> (rw [e]; decide)) (by rcases h18 with e | e | e | e | e | e | e | e <;> (rw [e]; exact ⟨_, rfl, rfl⟩)) ?_
                  refine q_aload_n (pc' := 125) ja_Reader_readSign_124 rfl rfl ?_
                  refine q_iload_n (pc' := 126) ja_Reader_readSign_125 rfl rfl ?_
                  refine q_putf (pc' := 129) ja_Reader_readSign_126 rfl (by decide) rfl rfl rfl ?_
                  intro s16 e16
                  refine q_goto ja_Reader_readSign_129 ?_
                  refine q_vret ja_Reader_readSign_136 rfl ?_
                  show q_W _ _ _ _ 127 [some (.ref 117)] [] s16
                  exact q_vret ja_Reader_goOn_127 rfl (k8 h1 s1 e1 h2 h6 h10 h11 h16 h17 s15 e15 h18 s16 e16)
                refine q_swD (pc' := 132) ja_Reader_readSign_20 [40, 41, 42, 43, 45, 59, 60, 61] (List.forall_mem_cons.mpr ⟨fun e => h18 (by rw [e]; decide), (List.forall_mem_cons.mpr ⟨fun e => h18 (by rw [e]; decide), (List.forall_mem_cons.mpr ⟨fun e => h18 (by rw [e]; decide), (List.forall_mem_cons.mpr ⟨fun e => h18 (by rw [e]; decide), (List.forall_mem_cons.mpr ⟨fun e => h18 (by rw [e]; decide), (List.forall_mem_cons.mpr ⟨fun e => h18 (by rw [e]; decide), (List.forall_mem_cons.mpr ⟨fun e => h18 (by rw [e]; decide), (List.forall_mem_cons.mpr ⟨fun e => h18 (by rw [e]; decide), (List.forall_mem_nil _)⟩)⟩)⟩)⟩)⟩)⟩)⟩)⟩) (by decide) rfl ?_
                refine q_aload_n (pc' := 133) ja_Reader_readSign_132 rfl rfl ?_
                refine q_virt (pc' := 136) (c := 117) (as := []) (r := []) ja_Reader_readSign_133 rfl rfl rfl (by decide) ⟨rfl, by decide⟩ ?_
                refine q_in (M := jm_Reader_fail) rfl (Nat.le_of_ble_eq_true rfl) (ls := [some (.ref 117)]) rfl ?_
                refine q_aload_n (pc' := 1) ja_Reader_fail_0 rfl rfl ?_
                refine q_getf (pc' := 4) (v := .int (s15 117 7)) ja_Reader_fail_1 rfl (by decide) ⟨rfl, by decide⟩ rfl ?_
                refine q_iconst (pc' := 5) ja_Reader_fail_4 rfl (-1) (by decide) ?_
                refine q_ic_ne (pc' := 8) ja_Reader_fail_5 rfl ?_ ?_
                · intro h19
                  refine q_aload_n (pc' := 17) ja_Reader_fail_16 rfl rfl ?_
                  refine q_bipush (pc' := 19) ja_Reader_fail_17 rfl 17 (by decide) ?_
                  refine q_putf (pc' := 22) ja_Reader_fail_19 rfl (by decide) rfl rfl rfl ?_
                  intro s17 e17
                  refine q_vret ja_Reader_fail_22 rfl ?_
                  show q_W _ _ _ _ 136 [some (.ref 117), some (.int (s1 118 (s1 117 2).toNatClampNeg))] [] s17
                  refine q_vret ja_Reader_readSign_136 rfl ?_
                  show q_W _ _ _ _ 127 [some (.ref 117)] [] s17
                  exact q_vret ja_Reader_goOn_127 rfl (k9 h1 s1 e1 h2 h6 h10 h11 h16 h17 s15 e15 h18 h19 s17 e17)
                · intro h20
                  refine q_aload_n (pc' := 9) ja_Reader_fail_8 rfl rfl ?_
                  refine q_aload_n (pc' := 10) ja_Reader_fail_9 rfl rfl ?_
                  refine q_getf (pc' := 13) (v := .int (s15 117 2)) ja_Reader_fail_10 rfl (by decide) ⟨rfl, by decide⟩ rfl ?_
                  refine q_putf (pc' := 16) ja_Reader_fail_13 rfl (by decide) rfl rfl rfl ?_
                  intro s18 e18
                  refine q_aload_n (pc' := 17) ja_Reader_fail_16 rfl rfl ?_
                  refine q_bipush (pc' := 19) ja_Reader_fail_17 rfl 17 (by decide) ?_
                  refine q_putf (pc' := 22) ja_Reader_fail_19 rfl (by decide) rfl rfl rfl ?_
                  intro s19 e19
                  refine q_vret ja_Reader_fail_22 rfl ?_
                  show q_W _ _ _ _ 136 [some (.ref 117), some (.int (s1 118 (s1 117 2).toNatClampNeg))] [] s19
                  refine q_vret ja_Reader_readSign_136 rfl ?_
                  show q_W _ _ _ _ 127 [some (.ref 117)] [] s19
                  exact q_vret ja_Reader_goOn_127 rfl (k10 h1 s1 e1 h2 h6 h10 h11 h16 h17 s15 e15 h18 h20 s18 e18 s19 e19)
              · intro h21
                refine q_iconst (pc' := 21) ja_Reader_isDigit_20 rfl 1 (by decide) ?_
                refine q_goto ja_Reader_isDigit_21 ?_
                refine q_iret ja_Reader_isDigit_25 rfl (by decide) ?_
                show q_W _ _ _ _ 113 [some (.ref 117)] [.int 1] s1
                refine q_if_eq (pc' := 116) ja_Reader_goOn_113 rfl (fun h => absurd h ((by decide : ¬ (1 : Int32) = 0))) (fun _ => ?_)
                refine q_aload_n (pc' := 117) ja_Reader_goOn_116 rfl rfl ?_
                refine q_virt (pc' := 120) (c := 117) (as := []) (r := []) ja_Reader_goOn_117 rfl rfl rfl (by decide) ⟨rfl, by decide⟩ ?_
                exact (k11 h1 s1 e1 h2 h6 h10 h11 h16 h21)
          · intro h22
            refine q_aload_n (pc' := 11) ja_Reader_isLetter_10 rfl rfl ?_
            refine q_iload_n (pc' := 12) ja_Reader_isLetter_11 rfl rfl ?_
            refine q_virt (pc' := 15) (c := 117) (as := [.int (s1 117 2)]) (r := []) ja_Reader_isLetter_12 rfl rfl rfl (by decide) ⟨rfl, by decide⟩ ?_
            refine q_in (M := jm_Reader_byteAt) rfl (Nat.le_of_ble_eq_true rfl) (ls := [some (.ref 117), some (.int (s1 117 2))]) rfl ?_
            refine q_iload_n (pc' := 1) ja_Reader_byteAt_0 rfl rfl ?_
            refine q_if_lt (pc' := 4) ja_Reader_byteAt_1 rfl (fun h => absurd h (h6)) (fun _ => ?_)
            refine q_iload_n (pc' := 5) ja_Reader_byteAt_4 rfl rfl ?_
            refine q_aload_n (pc' := 6) ja_Reader_byteAt_5 rfl rfl ?_
            refine q_getf (pc' := 9) (v := .int (s1 117 1)) ja_Reader_byteAt_6 rfl (by decide) ⟨rfl, by decide⟩ rfl ?_
            refine q_ic_ge (pc' := 12) ja_Reader_byteAt_9 rfl (fun h => absurd (h2) h) (fun _ => ?_)
            refine q_iload_n (pc' := 13) ja_Reader_byteAt_12 rfl rfl ?_
            refine q_aload_n (pc' := 14) ja_Reader_byteAt_13 rfl rfl ?_
            refine q_getf (pc' := 17) (v := .ref 118) ja_Reader_byteAt_14 rfl (by decide) ⟨rfl, by decide⟩ rfl ?_
            refine q_alen (pc' := 18) ja_Reader_byteAt_17 rfl (by decide) (kd := 13) (l := 200) rfl (by decide) (v := 200) (by decide) ?_
            refine q_ic_ge (pc' := 21) ja_Reader_byteAt_18 rfl (fun h => absurd (h10) h) (fun _ => ?_)
            refine q_aload_n (pc' := 22) ja_Reader_byteAt_21 rfl rfl ?_
            refine q_getf (pc' := 25) (v := .ref 118) ja_Reader_byteAt_22 rfl (by decide) ⟨rfl, by decide⟩ rfl ?_
            refine q_iload_n (pc' := 26) ja_Reader_byteAt_25 rfl rfl ?_
            refine q_iald (pc' := 27) (v := .int (s1 118 (s1 117 2).toNatClampNeg)) ja_Reader_byteAt_26 rfl (by decide) (l := 200) rfl (q_inr (l := 200) (by decide) h6 h10) rfl ?_
            refine q_goto ja_Reader_byteAt_27 ?_
            refine q_iret ja_Reader_byteAt_31 rfl rfl ?_
            show q_W _ _ _ _ 15 [some (.ref 117), some (.int (s1 117 2))] [.int (s1 118 (s1 117 2).toNatClampNeg)] s1
            refine q_bipush (pc' := 17) ja_Reader_isLetter_15 rfl 122 (by decide) ?_
            refine q_ic_gt (pc' := 20) ja_Reader_isLetter_17 rfl ?_ ?_
            · intro h23
              refine q_iconst (pc' := 25) ja_Reader_isLetter_24 rfl 0 (by decide) ?_
              refine q_iret ja_Reader_isLetter_25 rfl (by decide) ?_
              show q_W _ _ _ _ 95 [some (.ref 117)] [.int 0] s1
              refine q_if_eq (pc' := 98) ja_Reader_goOn_95 rfl (fun _ => ?_) (fun h => absurd ((by decide : (0 : Int32) = 0)) h)
              refine q_aload_n (pc' := 106) ja_Reader_goOn_105 rfl rfl ?_
              refine q_aload_n (pc' := 107) ja_Reader_goOn_106 rfl rfl ?_
              refine q_getf (pc' := 110) (v := .int (s1 117 2)) ja_Reader_goOn_107 rfl (by decide) ⟨rfl, by decide⟩ rfl ?_
              refine q_virt (pc' := 113) (c := 117) (as := [.int (s1 117 2)]) (r := []) ja_Reader_goOn_110 rfl rfl rfl (by decide) ⟨rfl, by decide⟩ ?_
              refine q_in (M := jm_Reader_isDigit) rfl (Nat.le_of_ble_eq_true rfl) (ls := [some (.ref 117), some (.int (s1 117 2))]) rfl ?_
              refine q_aload_n (pc' := 1) ja_Reader_isDigit_0 rfl rfl ?_
              refine q_iload_n (pc' := 2) ja_Reader_isDigit_1 rfl rfl ?_
              refine q_virt (pc' := 5) (c := 117) (as := [.int (s1 117 2)]) (r := []) ja_Reader_isDigit_2 rfl rfl rfl (by decide) ⟨rfl, by decide⟩ ?_
              refine q_in (M := jm_Reader_byteAt) rfl (Nat.le_of_ble_eq_true rfl) (ls := [some (.ref 117), some (.int (s1 117 2))]) rfl ?_
              refine q_iload_n (pc' := 1) ja_Reader_byteAt_0 rfl rfl ?_
              refine q_if_lt (pc' := 4) ja_Reader_byteAt_1 rfl (fun h => absurd h (h6)) (fun _ => ?_)
              refine q_iload_n (pc' := 5) ja_Reader_byteAt_4 rfl rfl ?_
              refine q_aload_n (pc' := 6) ja_Reader_byteAt_5 rfl rfl ?_
              refine q_getf (pc' := 9) (v := .int (s1 117 1)) ja_Reader_byteAt_6 rfl (by decide) ⟨rfl, by decide⟩ rfl ?_
              refine q_ic_ge (pc' := 12) ja_Reader_byteAt_9 rfl (fun h => absurd (h2) h) (fun _ => ?_)
              refine q_iload_n (pc' := 13) ja_Reader_byteAt_12 rfl rfl ?_
              refine q_aload_n (pc' := 14) ja_Reader_byteAt_13 rfl rfl ?_
              refine q_getf (pc' := 17) (v := .ref 118) ja_Reader_byteAt_14 rfl (by decide) ⟨rfl, by decide⟩ rfl ?_
              refine q_alen (pc' := 18) ja_Reader_byteAt_17 rfl (by decide) (kd := 13) (l := 200) rfl (by decide) (v := 200) (by decide) ?_
              refine q_ic_ge (pc' := 21) ja_Reader_byteAt_18 rfl (fun h => absurd (h10) h) (fun _ => ?_)
              refine q_aload_n (pc' := 22) ja_Reader_byteAt_21 rfl rfl ?_
              refine q_getf (pc' := 25) (v := .ref 118) ja_Reader_byteAt_22 rfl (by decide) ⟨rfl, by decide⟩ rfl ?_
              refine q_iload_n (pc' := 26) ja_Reader_byteAt_25 rfl rfl ?_
              refine q_iald (pc' := 27) (v := .int (s1 118 (s1 117 2).toNatClampNeg)) ja_Reader_byteAt_26 rfl (by decide) (l := 200) rfl (q_inr (l := 200) (by decide) h6 h10) rfl ?_
              refine q_goto ja_Reader_byteAt_27 ?_
              refine q_iret ja_Reader_byteAt_31 rfl rfl ?_
              show q_W _ _ _ _ 5 [some (.ref 117), some (.int (s1 117 2))] [.int (s1 118 (s1 117 2).toNatClampNeg)] s1
              refine q_bipush (pc' := 7) ja_Reader_isDigit_5 rfl 48 (by decide) ?_
              refine q_ic_lt (pc' := 10) ja_Reader_isDigit_7 rfl ?_ ?_
              · intro h24
                refine q_iconst (pc' := 25) ja_Reader_isDigit_24 rfl 0 (by decide) ?_
                refine q_iret ja_Reader_isDigit_25 rfl (by decide) ?_
                show q_W _ _ _ _ 113 [some (.ref 117)] [.int 0] s1
                refine q_if_eq (pc' := 116) ja_Reader_goOn_113 rfl (fun _ => ?_) (fun h => absurd ((by decide : (0 : Int32) = 0)) h)
                refine q_aload_n (pc' := 124) ja_Reader_goOn_123 rfl rfl ?_
                refine q_virt (pc' := 127) (c := 117) (as := []) (r := []) ja_Reader_goOn_124 rfl rfl rfl (by decide) ⟨rfl, by decide⟩ ?_
                refine q_in (M := jm_Reader_readSign) rfl (Nat.le_of_ble_eq_true rfl) (ls := [some (.ref 117), none]) rfl ?_
                refine q_aload_n (pc' := 1) ja_Reader_readSign_0 rfl rfl ?_
                refine q_aload_n (pc' := 2) ja_Reader_readSign_1 rfl rfl ?_
                refine q_getf (pc' := 5) (v := .int (s1 117 2)) ja_Reader_readSign_2 rfl (by decide) ⟨rfl, by decide⟩ rfl ?_
                refine q_virt (pc' := 8) (c := 117) (as := [.int (s1 117 2)]) (r := []) ja_Reader_readSign_5 rfl rfl rfl (by decide) ⟨rfl, by decide⟩ ?_
                refine q_in (M := jm_Reader_byteAt) rfl (Nat.le_of_ble_eq_true rfl) (ls := [some (.ref 117), some (.int (s1 117 2))]) rfl ?_
                refine q_iload_n (pc' := 1) ja_Reader_byteAt_0 rfl rfl ?_
                refine q_if_lt (pc' := 4) ja_Reader_byteAt_1 rfl (fun h => absurd h (h6)) (fun _ => ?_)
                refine q_iload_n (pc' := 5) ja_Reader_byteAt_4 rfl rfl ?_
                refine q_aload_n (pc' := 6) ja_Reader_byteAt_5 rfl rfl ?_
                refine q_getf (pc' := 9) (v := .int (s1 117 1)) ja_Reader_byteAt_6 rfl (by decide) ⟨rfl, by decide⟩ rfl ?_
                refine q_ic_ge (pc' := 12) ja_Reader_byteAt_9 rfl (fun h => absurd (h2) h) (fun _ => ?_)
                refine q_iload_n (pc' := 13) ja_Reader_byteAt_12 rfl rfl ?_
                refine q_aload_n (pc' := 14) ja_Reader_byteAt_13 rfl rfl ?_
                refine q_getf (pc' := 17) (v := .ref 118) ja_Reader_byteAt_14 rfl (by decide) ⟨rfl, by decide⟩ rfl ?_
                refine q_alen (pc' := 18) ja_Reader_byteAt_17 rfl (by decide) (kd := 13) (l := 200) rfl (by decide) (v := 200) (by decide) ?_
                refine q_ic_ge (pc' := 21) ja_Reader_byteAt_18 rfl (fun h => absurd (h10) h) (fun _ => ?_)
                refine q_aload_n (pc' := 22) ja_Reader_byteAt_21 rfl rfl ?_
                refine q_getf (pc' := 25) (v := .ref 118) ja_Reader_byteAt_22 rfl (by decide) ⟨rfl, by decide⟩ rfl ?_
                refine q_iload_n (pc' := 26) ja_Reader_byteAt_25 rfl rfl ?_
                refine q_iald (pc' := 27) (v := .int (s1 118 (s1 117 2).toNatClampNeg)) ja_Reader_byteAt_26 rfl (by decide) (l := 200) rfl (q_inr (l := 200) (by decide) h6 h10) rfl ?_
                refine q_goto ja_Reader_byteAt_27 ?_
                refine q_iret ja_Reader_byteAt_31 rfl rfl ?_
                show q_W _ _ _ _ 8 [some (.ref 117), none] [.int (s1 118 (s1 117 2).toNatClampNeg)] s1
                refine q_istore_n (pc' := 9) (ls' := [some (.ref 117), some (.int (s1 118 (s1 117 2).toNatClampNeg))]) ja_Reader_readSign_8 rfl ⟨Nat.le_of_ble_eq_true rfl, rfl⟩ rfl ?_
                refine q_aload_n (pc' := 10) ja_Reader_readSign_9 rfl rfl ?_
                refine q_dup (pc' := 11) ja_Reader_readSign_10 rfl rfl ?_
                refine q_getf (pc' := 14) (v := .int (s1 117 3)) ja_Reader_readSign_11 rfl (by decide) ⟨rfl, by decide⟩ rfl ?_
                refine q_iconst (pc' := 15) ja_Reader_readSign_14 rfl 1 (by decide) ?_
                refine q_iadd (pc' := 16) ja_Reader_readSign_15 rfl ?_
                refine q_putf (pc' := 19) ja_Reader_readSign_16 rfl (by decide) rfl rfl rfl ?_
                intro s20 e20
                refine q_iload_n (pc' := 20) ja_Reader_readSign_19 rfl rfl ?_
                by_cases h25 : ((s1 118 (s1 117 2).toNatClampNeg) = 40 ∨ (s1 118 (s1 117 2).toNatClampNeg) = 41 ∨ (s1 118 (s1 117 2).toNatClampNeg) = 42 ∨ (s1 118 (s1 117 2).toNatClampNeg) = 43 ∨ (s1 118 (s1 117 2).toNatClampNeg) = 45 ∨ (s1 118 (s1 117 2).toNatClampNeg) = 59 ∨ (s1 118 (s1 117 2).toNatClampNeg) = 60 ∨ (s1 118 (s1 117 2).toNatClampNeg) = 61)
                · refine q_swE (pc' := 124) ja_Reader_readSign_20 (by rcases h25 with e | e | e | e | e | e | e | e <;> (rw [e]; decide)) (by rcases h25 with e | e | e | e | e | e | e | e <;> (rw [e]; exact ⟨_, rfl, rfl⟩)) ?_
                  refine q_aload_n (pc' := 125) ja_Reader_readSign_124 rfl rfl ?_
                  refine q_iload_n (pc' := 126) ja_Reader_readSign_125 rfl rfl ?_
                  refine q_putf (pc' := 129) ja_Reader_readSign_126 rfl (by decide) rfl rfl rfl ?_
                  intro s21 e21
                  refine q_goto ja_Reader_readSign_129 ?_
                  refine q_vret ja_Reader_readSign_136 rfl ?_
                  show q_W _ _ _ _ 127 [some (.ref 117)] [] s21
                  exact q_vret ja_Reader_goOn_127 rfl (k12 h1 s1 e1 h2 h6 h10 h22 h23 h24 s20 e20 h25 s21 e21)
                refine q_swD (pc' := 132) ja_Reader_readSign_20 [40, 41, 42, 43, 45, 59, 60, 61] (List.forall_mem_cons.mpr ⟨fun e => h25 (by rw [e]; decide), (List.forall_mem_cons.mpr ⟨fun e => h25 (by rw [e]; decide), (List.forall_mem_cons.mpr ⟨fun e => h25 (by rw [e]; decide), (List.forall_mem_cons.mpr ⟨fun e => h25 (by rw [e]; decide), (List.forall_mem_cons.mpr ⟨fun e => h25 (by rw [e]; decide), (List.forall_mem_cons.mpr ⟨fun e => h25 (by rw [e]; decide), (List.forall_mem_cons.mpr ⟨fun e => h25 (by rw [e]; decide), (List.forall_mem_cons.mpr ⟨fun e => h25 (by rw [e]; decide), (List.forall_mem_nil _)⟩)⟩)⟩)⟩)⟩)⟩)⟩)⟩) (by decide) rfl ?_
                refine q_aload_n (pc' := 133) ja_Reader_readSign_132 rfl rfl ?_
                refine q_virt (pc' := 136) (c := 117) (as := []) (r := []) ja_Reader_readSign_133 rfl rfl rfl (by decide) ⟨rfl, by decide⟩ ?_
                refine q_in (M := jm_Reader_fail) rfl (Nat.le_of_ble_eq_true rfl) (ls := [some (.ref 117)]) rfl ?_
                refine q_aload_n (pc' := 1) ja_Reader_fail_0 rfl rfl ?_
                refine q_getf (pc' := 4) (v := .int (s20 117 7)) ja_Reader_fail_1 rfl (by decide) ⟨rfl, by decide⟩ rfl ?_
                refine q_iconst (pc' := 5) ja_Reader_fail_4 rfl (-1) (by decide) ?_
                refine q_ic_ne (pc' := 8) ja_Reader_fail_5 rfl ?_ ?_
                · intro h26
                  refine q_aload_n (pc' := 17) ja_Reader_fail_16 rfl rfl ?_
                  refine q_bipush (pc' := 19) ja_Reader_fail_17 rfl 17 (by decide) ?_
                  refine q_putf (pc' := 22) ja_Reader_fail_19 rfl (by decide) rfl rfl rfl ?_
                  intro s22 e22
                  refine q_vret ja_Reader_fail_22 rfl ?_
                  show q_W _ _ _ _ 136 [some (.ref 117), some (.int (s1 118 (s1 117 2).toNatClampNeg))] [] s22
                  refine q_vret ja_Reader_readSign_136 rfl ?_
                  show q_W _ _ _ _ 127 [some (.ref 117)] [] s22
                  exact q_vret ja_Reader_goOn_127 rfl (k13 h1 s1 e1 h2 h6 h10 h22 h23 h24 s20 e20 h25 h26 s22 e22)
                · intro h27
                  refine q_aload_n (pc' := 9) ja_Reader_fail_8 rfl rfl ?_
                  refine q_aload_n (pc' := 10) ja_Reader_fail_9 rfl rfl ?_
                  refine q_getf (pc' := 13) (v := .int (s20 117 2)) ja_Reader_fail_10 rfl (by decide) ⟨rfl, by decide⟩ rfl ?_
                  refine q_putf (pc' := 16) ja_Reader_fail_13 rfl (by decide) rfl rfl rfl ?_
                  intro s23 e23
                  refine q_aload_n (pc' := 17) ja_Reader_fail_16 rfl rfl ?_
                  refine q_bipush (pc' := 19) ja_Reader_fail_17 rfl 17 (by decide) ?_
                  refine q_putf (pc' := 22) ja_Reader_fail_19 rfl (by decide) rfl rfl rfl ?_
                  intro s24 e24
                  refine q_vret ja_Reader_fail_22 rfl ?_
                  show q_W _ _ _ _ 136 [some (.ref 117), some (.int (s1 118 (s1 117 2).toNatClampNeg))] [] s24
                  refine q_vret ja_Reader_readSign_136 rfl ?_
                  show q_W _ _ _ _ 127 [some (.ref 117)] [] s24
                  exact q_vret ja_Reader_goOn_127 rfl (k14 h1 s1 e1 h2 h6 h10 h22 h23 h24 s20 e20 h25 h27 s23 e23 s24 e24)
              · intro h28
                refine q_aload_n (pc' := 11) ja_Reader_isDigit_10 rfl rfl ?_
                refine q_iload_n (pc' := 12) ja_Reader_isDigit_11 rfl rfl ?_
                refine q_virt (pc' := 15) (c := 117) (as := [.int (s1 117 2)]) (r := []) ja_Reader_isDigit_12 rfl rfl rfl (by decide) ⟨rfl, by decide⟩ ?_
                refine q_in (M := jm_Reader_byteAt) rfl (Nat.le_of_ble_eq_true rfl) (ls := [some (.ref 117), some (.int (s1 117 2))]) rfl ?_
                refine q_iload_n (pc' := 1) ja_Reader_byteAt_0 rfl rfl ?_
                refine q_if_lt (pc' := 4) ja_Reader_byteAt_1 rfl (fun h => absurd h (h6)) (fun _ => ?_)
                refine q_iload_n (pc' := 5) ja_Reader_byteAt_4 rfl rfl ?_
                refine q_aload_n (pc' := 6) ja_Reader_byteAt_5 rfl rfl ?_
                refine q_getf (pc' := 9) (v := .int (s1 117 1)) ja_Reader_byteAt_6 rfl (by decide) ⟨rfl, by decide⟩ rfl ?_
                refine q_ic_ge (pc' := 12) ja_Reader_byteAt_9 rfl (fun h => absurd (h2) h) (fun _ => ?_)
                refine q_iload_n (pc' := 13) ja_Reader_byteAt_12 rfl rfl ?_
                refine q_aload_n (pc' := 14) ja_Reader_byteAt_13 rfl rfl ?_
                refine q_getf (pc' := 17) (v := .ref 118) ja_Reader_byteAt_14 rfl (by decide) ⟨rfl, by decide⟩ rfl ?_
                refine q_alen (pc' := 18) ja_Reader_byteAt_17 rfl (by decide) (kd := 13) (l := 200) rfl (by decide) (v := 200) (by decide) ?_
                refine q_ic_ge (pc' := 21) ja_Reader_byteAt_18 rfl (fun h => absurd (h10) h) (fun _ => ?_)
                refine q_aload_n (pc' := 22) ja_Reader_byteAt_21 rfl rfl ?_
                refine q_getf (pc' := 25) (v := .ref 118) ja_Reader_byteAt_22 rfl (by decide) ⟨rfl, by decide⟩ rfl ?_
                refine q_iload_n (pc' := 26) ja_Reader_byteAt_25 rfl rfl ?_
                refine q_iald (pc' := 27) (v := .int (s1 118 (s1 117 2).toNatClampNeg)) ja_Reader_byteAt_26 rfl (by decide) (l := 200) rfl (q_inr (l := 200) (by decide) h6 h10) rfl ?_
                refine q_goto ja_Reader_byteAt_27 ?_
                refine q_iret ja_Reader_byteAt_31 rfl rfl ?_
                show q_W _ _ _ _ 15 [some (.ref 117), some (.int (s1 117 2))] [.int (s1 118 (s1 117 2).toNatClampNeg)] s1
                refine q_bipush (pc' := 17) ja_Reader_isDigit_15 rfl 57 (by decide) ?_
                refine q_ic_gt (pc' := 20) ja_Reader_isDigit_17 rfl ?_ ?_
                · intro h29
                  refine q_iconst (pc' := 25) ja_Reader_isDigit_24 rfl 0 (by decide) ?_
                  refine q_iret ja_Reader_isDigit_25 rfl (by decide) ?_
                  show q_W _ _ _ _ 113 [some (.ref 117)] [.int 0] s1
                  refine q_if_eq (pc' := 116) ja_Reader_goOn_113 rfl (fun _ => ?_) (fun h => absurd ((by decide : (0 : Int32) = 0)) h)
                  refine q_aload_n (pc' := 124) ja_Reader_goOn_123 rfl rfl ?_
                  refine q_virt (pc' := 127) (c := 117) (as := []) (r := []) ja_Reader_goOn_124 rfl rfl rfl (by decide) ⟨rfl, by decide⟩ ?_
                  refine q_in (M := jm_Reader_readSign) rfl (Nat.le_of_ble_eq_true rfl) (ls := [some (.ref 117), none]) rfl ?_
                  refine q_aload_n (pc' := 1) ja_Reader_readSign_0 rfl rfl ?_
                  refine q_aload_n (pc' := 2) ja_Reader_readSign_1 rfl rfl ?_
                  refine q_getf (pc' := 5) (v := .int (s1 117 2)) ja_Reader_readSign_2 rfl (by decide) ⟨rfl, by decide⟩ rfl ?_
                  refine q_virt (pc' := 8) (c := 117) (as := [.int (s1 117 2)]) (r := []) ja_Reader_readSign_5 rfl rfl rfl (by decide) ⟨rfl, by decide⟩ ?_
                  refine q_in (M := jm_Reader_byteAt) rfl (Nat.le_of_ble_eq_true rfl) (ls := [some (.ref 117), some (.int (s1 117 2))]) rfl ?_
                  refine q_iload_n (pc' := 1) ja_Reader_byteAt_0 rfl rfl ?_
                  refine q_if_lt (pc' := 4) ja_Reader_byteAt_1 rfl (fun h => absurd h (h6)) (fun _ => ?_)
                  refine q_iload_n (pc' := 5) ja_Reader_byteAt_4 rfl rfl ?_
                  refine q_aload_n (pc' := 6) ja_Reader_byteAt_5 rfl rfl ?_
                  refine q_getf (pc' := 9) (v := .int (s1 117 1)) ja_Reader_byteAt_6 rfl (by decide) ⟨rfl, by decide⟩ rfl ?_
                  refine q_ic_ge (pc' := 12) ja_Reader_byteAt_9 rfl (fun h => absurd (h2) h) (fun _ => ?_)
                  refine q_iload_n (pc' := 13) ja_Reader_byteAt_12 rfl rfl ?_
                  refine q_aload_n (pc' := 14) ja_Reader_byteAt_13 rfl rfl ?_
                  refine q_getf (pc' := 17) (v := .ref 118) ja_Reader_byteAt_14 rfl (by decide) ⟨rfl, by decide⟩ rfl ?_
                  refine q_alen (pc' := 18) ja_Reader_byteAt_17 rfl (by decide) (kd := 13) (l := 200) rfl (by decide) (v := 200) (by decide) ?_
                  refine q_ic_ge (pc' := 21) ja_Reader_byteAt_18 rfl (fun h => absurd (h10) h) (fun _ => ?_)
                  refine q_aload_n (pc' := 22) ja_Reader_byteAt_21 rfl rfl ?_
                  refine q_getf (pc' := 25) (v := .ref 118) ja_Reader_byteAt_22 rfl (by decide) ⟨rfl, by decide⟩ rfl ?_
                  refine q_iload_n (pc' := 26) ja_Reader_byteAt_25 rfl rfl ?_
                  refine q_iald (pc' := 27) (v := .int (s1 118 (s1 117 2).toNatClampNeg)) ja_Reader_byteAt_26 rfl (by decide) (l := 200) rfl (q_inr (l := 200) (by decide) h6 h10) rfl ?_
                  refine q_goto ja_Reader_byteAt_27 ?_
                  refine q_iret ja_Reader_byteAt_31 rfl rfl ?_
                  show q_W _ _ _ _ 8 [some (.ref 117), none] [.int (s1 118 (s1 117 2).toNatClampNeg)] s1
                  refine q_istore_n (pc' := 9) (ls' := [some (.ref 117), some (.int (s1 118 (s1 117 2).toNatClampNeg))]) ja_Reader_readSign_8 rfl ⟨Nat.le_of_ble_eq_true rfl, rfl⟩ rfl ?_
                  refine q_aload_n (pc' := 10) ja_Reader_readSign_9 rfl rfl ?_
                  refine q_dup (pc' := 11) ja_Reader_readSign_10 rfl rfl ?_
                  refine q_getf (pc' := 14) (v := .int (s1 117 3)) ja_Reader_readSign_11 rfl (by decide) ⟨rfl, by decide⟩ rfl ?_
                  refine q_iconst (pc' := 15) ja_Reader_readSign_14 rfl 1 (by decide) ?_
                  refine q_iadd (pc' := 16) ja_Reader_readSign_15 rfl ?_
                  refine q_putf (pc' := 19) ja_Reader_readSign_16 rfl (by decide) rfl rfl rfl ?_
                  intro s25 e25
                  refine q_iload_n (pc' := 20) ja_Reader_readSign_19 rfl rfl ?_
                  by_cases h30 : ((s1 118 (s1 117 2).toNatClampNeg) = 40 ∨ (s1 118 (s1 117 2).toNatClampNeg) = 41 ∨ (s1 118 (s1 117 2).toNatClampNeg) = 42 ∨ (s1 118 (s1 117 2).toNatClampNeg) = 43 ∨ (s1 118 (s1 117 2).toNatClampNeg) = 45 ∨ (s1 118 (s1 117 2).toNatClampNeg) = 59 ∨ (s1 118 (s1 117 2).toNatClampNeg) = 60 ∨ (s1 118 (s1 117 2).toNatClampNeg) = 61)
                  · refine q_swE (pc' := 124) ja_Reader_readSign_20 (by rcases h30 with e | e | e | e | e | e | e | e <;> (rw [e]; decide)) (by rcases h30 with e | e | e | e | e | e | e | e <;> (rw [e]; exact ⟨_, rfl, rfl⟩)) ?_
                    refine q_aload_n (pc' := 125) ja_Reader_readSign_124 rfl rfl ?_
                    refine q_iload_n (pc' := 126) ja_Reader_readSign_125 rfl rfl ?_
                    refine q_putf (pc' := 129) ja_Reader_readSign_126 rfl (by decide) rfl rfl rfl ?_
                    intro s26 e26
                    refine q_goto ja_Reader_readSign_129 ?_
                    refine q_vret ja_Reader_readSign_136 rfl ?_
                    show q_W _ _ _ _ 127 [some (.ref 117)] [] s26
                    exact q_vret ja_Reader_goOn_127 rfl (k15 h1 s1 e1 h2 h6 h10 h22 h23 h28 h29 s25 e25 h30 s26 e26)
                  refine q_swD (pc' := 132) ja_Reader_readSign_20 [40, 41, 42, 43, 45, 59, 60, 61] (List.forall_mem_cons.mpr ⟨fun e => h30 (by rw [e]; decide), (List.forall_mem_cons.mpr ⟨fun e => h30 (by rw [e]; decide), (List.forall_mem_cons.mpr ⟨fun e => h30 (by rw [e]; decide), (List.forall_mem_cons.mpr ⟨fun e => h30 (by rw [e]; decide), (List.forall_mem_cons.mpr ⟨fun e => h30 (by rw [e]; decide), (List.forall_mem_cons.mpr ⟨fun e => h30 (by rw [e]; decide), (List.forall_mem_cons.mpr ⟨fun e => h30 (by rw [e]; decide), (List.forall_mem_cons.mpr ⟨fun e => h30 (by rw [e]; decide), (List.forall_mem_nil _)⟩)⟩)⟩)⟩)⟩)⟩)⟩)⟩) (by decide) rfl ?_
                  refine q_aload_n (pc' := 133) ja_Reader_readSign_132 rfl rfl ?_
                  refine q_virt (pc' := 136) (c := 117) (as := []) (r := []) ja_Reader_readSign_133 rfl rfl rfl (by decide) ⟨rfl, by decide⟩ ?_
                  refine q_in (M := jm_Reader_fail) rfl (Nat.le_of_ble_eq_true rfl) (ls := [some (.ref 117)]) rfl ?_
                  refine q_aload_n (pc' := 1) ja_Reader_fail_0 rfl rfl ?_
                  refine q_getf (pc' := 4) (v := .int (s25 117 7)) ja_Reader_fail_1 rfl (by decide) ⟨rfl, by decide⟩ rfl ?_
                  refine q_iconst (pc' := 5) ja_Reader_fail_4 rfl (-1) (by decide) ?_
                  refine q_ic_ne (pc' := 8) ja_Reader_fail_5 rfl ?_ ?_
                  · intro h31
                    refine q_aload_n (pc' := 17) ja_Reader_fail_16 rfl rfl ?_
                    refine q_bipush (pc' := 19) ja_Reader_fail_17 rfl 17 (by decide) ?_
                    refine q_putf (pc' := 22) ja_Reader_fail_19 rfl (by decide) rfl rfl rfl ?_
                    intro s27 e27
                    refine q_vret ja_Reader_fail_22 rfl ?_
                    show q_W _ _ _ _ 136 [some (.ref 117), some (.int (s1 118 (s1 117 2).toNatClampNeg))] [] s27
                    refine q_vret ja_Reader_readSign_136 rfl ?_
                    show q_W _ _ _ _ 127 [some (.ref 117)] [] s27
                    exact q_vret ja_Reader_goOn_127 rfl (k16 h1 s1 e1 h2 h6 h10 h22 h23 h28 h29 s25 e25 h30 h31 s27 e27)
                  · intro h32
                    refine q_aload_n (pc' := 9) ja_Reader_fail_8 rfl rfl ?_
                    refine q_aload_n (pc' := 10) ja_Reader_fail_9 rfl rfl ?_
                    refine q_getf (pc' := 13) (v := .int (s25 117 2)) ja_Reader_fail_10 rfl (by decide) ⟨rfl, by decide⟩ rfl ?_
                    refine q_putf (pc' := 16) ja_Reader_fail_13 rfl (by decide) rfl rfl rfl ?_
                    intro s28 e28
                    refine q_aload_n (pc' := 17) ja_Reader_fail_16 rfl rfl ?_
                    refine q_bipush (pc' := 19) ja_Reader_fail_17 rfl 17 (by decide) ?_
                    refine q_putf (pc' := 22) ja_Reader_fail_19 rfl (by decide) rfl rfl rfl ?_
                    intro s29 e29
                    refine q_vret ja_Reader_fail_22 rfl ?_
                    show q_W _ _ _ _ 136 [some (.ref 117), some (.int (s1 118 (s1 117 2).toNatClampNeg))] [] s29
                    refine q_vret ja_Reader_readSign_136 rfl ?_
                    show q_W _ _ _ _ 127 [some (.ref 117)] [] s29
                    exact q_vret ja_Reader_goOn_127 rfl (k17 h1 s1 e1 h2 h6 h10 h22 h23 h28 h29 s25 e25 h30 h32 s28 e28 s29 e29)
                · intro h33
                  refine q_iconst (pc' := 21) ja_Reader_isDigit_20 rfl 1 (by decide) ?_
                  refine q_goto ja_Reader_isDigit_21 ?_
                  refine q_iret ja_Reader_isDigit_25 rfl (by decide) ?_
                  show q_W _ _ _ _ 113 [some (.ref 117)] [.int 1] s1
                  refine q_if_eq (pc' := 116) ja_Reader_goOn_113 rfl (fun h => absurd h ((by decide : ¬ (1 : Int32) = 0))) (fun _ => ?_)
                  refine q_aload_n (pc' := 117) ja_Reader_goOn_116 rfl rfl ?_
                  refine q_virt (pc' := 120) (c := 117) (as := []) (r := []) ja_Reader_goOn_117 rfl rfl rfl (by decide) ⟨rfl, by decide⟩ ?_
                  exact (k18 h1 s1 e1 h2 h6 h10 h22 h23 h28 h33)
            · intro h34
              refine q_iconst (pc' := 21) ja_Reader_isLetter_20 rfl 1 (by decide) ?_
              refine q_goto ja_Reader_isLetter_21 ?_
              refine q_iret ja_Reader_isLetter_25 rfl (by decide) ?_
              show q_W _ _ _ _ 95 [some (.ref 117)] [.int 1] s1
              refine q_if_eq (pc' := 98) ja_Reader_goOn_95 rfl (fun h => absurd h ((by decide : ¬ (1 : Int32) = 0))) (fun _ => ?_)
              refine q_aload_n (pc' := 99) ja_Reader_goOn_98 rfl rfl ?_
              refine q_virt (pc' := 102) (c := 117) (as := []) (r := []) ja_Reader_goOn_99 rfl rfl rfl (by decide) ⟨rfl, by decide⟩ ?_
              exact (k19 h1 s1 e1 h2 h6 h10 h22 h34)
    · intro h35
      refine q_aload_n (pc' := 79) ja_Reader_goOn_78 rfl rfl ?_
      refine q_bipush (pc' := 81) ja_Reader_goOn_79 rfl 16 (by decide) ?_
      refine q_putf (pc' := 84) ja_Reader_goOn_81 rfl (by decide) rfl rfl rfl ?_
      intro s30 e30
      refine q_goto ja_Reader_goOn_84 ?_
      exact q_vret ja_Reader_goOn_127 rfl (k20 h1 s1 e1 h35 s30 e30)
  · intro h36
    refine q_aload_n (pc' := 21) ja_Reader_goOn_20 rfl rfl ?_
    refine q_aload_n (pc' := 22) ja_Reader_goOn_21 rfl rfl ?_
    refine q_getf (pc' := 25) (v := .int (s 117 3)) ja_Reader_goOn_22 rfl (by decide) ⟨rfl, by decide⟩ rfl ?_
    refine q_virt (pc' := 28) (c := 117) (as := [.int (s 117 3)]) (r := []) ja_Reader_goOn_25 rfl rfl rfl (by decide) ⟨rfl, by decide⟩ ?_
    refine q_in (M := jm_Reader_byteAt) rfl (Nat.le_of_ble_eq_true rfl) (ls := [some (.ref 117), some (.int (s 117 3))]) rfl ?_
    refine q_iload_n (pc' := 1) ja_Reader_byteAt_0 rfl rfl ?_
    refine q_if_lt (pc' := 4) ja_Reader_byteAt_1 rfl ?_ ?_
    · intro h37
      refine q_iconst (pc' := 31) ja_Reader_byteAt_30 rfl 0 (by decide) ?_
      refine q_iret ja_Reader_byteAt_31 rfl rfl ?_
      show q_W _ _ _ _ 28 [some (.ref 117)] [.int 0] s
      refine q_bipush (pc' := 30) ja_Reader_goOn_28 rfl 32 (by decide) ?_
      refine q_ic_eq (pc' := 33) ja_Reader_goOn_30 rfl (fun h => absurd h ((by decide : ¬ (0 : Int32) = 32))) (fun _ => ?_)
      refine q_aload_n (pc' := 34) ja_Reader_goOn_33 rfl rfl ?_
      refine q_aload_n (pc' := 35) ja_Reader_goOn_34 rfl rfl ?_
      refine q_getf (pc' := 38) (v := .int (s 117 3)) ja_Reader_goOn_35 rfl (by decide) ⟨rfl, by decide⟩ rfl ?_
      refine q_virt (pc' := 41) (c := 117) (as := [.int (s 117 3)]) (r := []) ja_Reader_goOn_38 rfl rfl rfl (by decide) ⟨rfl, by decide⟩ ?_
      refine q_in (M := jm_Reader_byteAt) rfl (Nat.le_of_ble_eq_true rfl) (ls := [some (.ref 117), some (.int (s 117 3))]) rfl ?_
      refine q_iload_n (pc' := 1) ja_Reader_byteAt_0 rfl rfl ?_
      refine q_if_lt (pc' := 4) ja_Reader_byteAt_1 rfl (fun _ => ?_) (fun h => absurd (h37) h)
      refine q_iconst (pc' := 31) ja_Reader_byteAt_30 rfl 0 (by decide) ?_
      refine q_iret ja_Reader_byteAt_31 rfl rfl ?_
      show q_W _ _ _ _ 41 [some (.ref 117)] [.int 0] s
      refine q_bipush (pc' := 43) ja_Reader_goOn_41 rfl 10 (by decide) ?_
      refine q_ic_ne (pc' := 46) ja_Reader_goOn_43 rfl (fun _ => ?_) (fun h => absurd h ((by decide : ¬ (0 : Int32) = 10)))
      refine q_aload_n (pc' := 60) ja_Reader_goOn_59 rfl rfl ?_
      refine q_aload_n (pc' := 61) ja_Reader_goOn_60 rfl rfl ?_
      refine q_getf (pc' := 64) (v := .int (s 117 3)) ja_Reader_goOn_61 rfl (by decide) ⟨rfl, by decide⟩ rfl ?_
      refine q_putf (pc' := 67) ja_Reader_goOn_64 rfl (by decide) rfl rfl rfl ?_
      intro s31 e31
      refine q_aload_n (pc' := 68) ja_Reader_goOn_67 rfl rfl ?_
      refine q_getf (pc' := 71) (v := .int (s31 117 2)) ja_Reader_goOn_68 rfl (by decide) ⟨rfl, by decide⟩ rfl ?_
      refine q_aload_n (pc' := 72) ja_Reader_goOn_71 rfl rfl ?_
      refine q_getf (pc' := 75) (v := .int (s31 117 1)) ja_Reader_goOn_72 rfl (by decide) ⟨rfl, by decide⟩ rfl ?_
      refine q_ic_lt (pc' := 78) ja_Reader_goOn_75 rfl ?_ ?_
      · intro h38
        refine q_aload_n (pc' := 88) ja_Reader_goOn_87 rfl rfl ?_
        refine q_aload_n (pc' := 89) ja_Reader_goOn_88 rfl rfl ?_
        refine q_getf (pc' := 92) (v := .int (s31 117 2)) ja_Reader_goOn_89 rfl (by decide) ⟨rfl, by decide⟩ rfl ?_
        refine q_virt (pc' := 95) (c := 117) (as := [.int (s31 117 2)]) (r := []) ja_Reader_goOn_92 rfl rfl rfl (by decide) ⟨rfl, by decide⟩ ?_
        refine q_in (M := jm_Reader_isLetter) rfl (Nat.le_of_ble_eq_true rfl) (ls := [some (.ref 117), some (.int (s31 117 2))]) rfl ?_
        refine q_aload_n (pc' := 1) ja_Reader_isLetter_0 rfl rfl ?_
        refine q_iload_n (pc' := 2) ja_Reader_isLetter_1 rfl rfl ?_
        refine q_virt (pc' := 5) (c := 117) (as := [.int (s31 117 2)]) (r := []) ja_Reader_isLetter_2 rfl rfl rfl (by decide) ⟨rfl, by decide⟩ ?_
        refine q_in (M := jm_Reader_byteAt) rfl (Nat.le_of_ble_eq_true rfl) (ls := [some (.ref 117), some (.int (s31 117 2))]) rfl ?_
        refine q_iload_n (pc' := 1) ja_Reader_byteAt_0 rfl rfl ?_
        refine q_if_lt (pc' := 4) ja_Reader_byteAt_1 rfl ?_ ?_
        · intro h39
          refine q_iconst (pc' := 31) ja_Reader_byteAt_30 rfl 0 (by decide) ?_
          refine q_iret ja_Reader_byteAt_31 rfl rfl ?_
          show q_W _ _ _ _ 5 [some (.ref 117), some (.int (s31 117 2))] [.int 0] s31
          refine q_bipush (pc' := 7) ja_Reader_isLetter_5 rfl 97 (by decide) ?_
          refine q_ic_lt (pc' := 10) ja_Reader_isLetter_7 rfl (fun _ => ?_) (fun h => absurd ((by decide : (0 : Int32) < 97)) h)
          refine q_iconst (pc' := 25) ja_Reader_isLetter_24 rfl 0 (by decide) ?_
          refine q_iret ja_Reader_isLetter_25 rfl (by decide) ?_
          show q_W _ _ _ _ 95 [some (.ref 117)] [.int 0] s31
          refine q_if_eq (pc' := 98) ja_Reader_goOn_95 rfl (fun _ => ?_) (fun h => absurd ((by decide : (0 : Int32) = 0)) h)
          refine q_aload_n (pc' := 106) ja_Reader_goOn_105 rfl rfl ?_
          refine q_aload_n (pc' := 107) ja_Reader_goOn_106 rfl rfl ?_
          refine q_getf (pc' := 110) (v := .int (s31 117 2)) ja_Reader_goOn_107 rfl (by decide) ⟨rfl, by decide⟩ rfl ?_
          refine q_virt (pc' := 113) (c := 117) (as := [.int (s31 117 2)]) (r := []) ja_Reader_goOn_110 rfl rfl rfl (by decide) ⟨rfl, by decide⟩ ?_
          refine q_in (M := jm_Reader_isDigit) rfl (Nat.le_of_ble_eq_true rfl) (ls := [some (.ref 117), some (.int (s31 117 2))]) rfl ?_
          refine q_aload_n (pc' := 1) ja_Reader_isDigit_0 rfl rfl ?_
          refine q_iload_n (pc' := 2) ja_Reader_isDigit_1 rfl rfl ?_
          refine q_virt (pc' := 5) (c := 117) (as := [.int (s31 117 2)]) (r := []) ja_Reader_isDigit_2 rfl rfl rfl (by decide) ⟨rfl, by decide⟩ ?_
          refine q_in (M := jm_Reader_byteAt) rfl (Nat.le_of_ble_eq_true rfl) (ls := [some (.ref 117), some (.int (s31 117 2))]) rfl ?_
          refine q_iload_n (pc' := 1) ja_Reader_byteAt_0 rfl rfl ?_
          refine q_if_lt (pc' := 4) ja_Reader_byteAt_1 rfl (fun _ => ?_) (fun h => absurd (h39) h)
          refine q_iconst (pc' := 31) ja_Reader_byteAt_30 rfl 0 (by decide) ?_
          refine q_iret ja_Reader_byteAt_31 rfl rfl ?_
          show q_W _ _ _ _ 5 [some (.ref 117), some (.int (s31 117 2))] [.int 0] s31
          refine q_bipush (pc' := 7) ja_Reader_isDigit_5 rfl 48 (by decide) ?_
          refine q_ic_lt (pc' := 10) ja_Reader_isDigit_7 rfl (fun _ => ?_) (fun h => absurd ((by decide : (0 : Int32) < 48)) h)
          refine q_iconst (pc' := 25) ja_Reader_isDigit_24 rfl 0 (by decide) ?_
          refine q_iret ja_Reader_isDigit_25 rfl (by decide) ?_
          show q_W _ _ _ _ 113 [some (.ref 117)] [.int 0] s31
          refine q_if_eq (pc' := 116) ja_Reader_goOn_113 rfl (fun _ => ?_) (fun h => absurd ((by decide : (0 : Int32) = 0)) h)
          refine q_aload_n (pc' := 124) ja_Reader_goOn_123 rfl rfl ?_
          refine q_virt (pc' := 127) (c := 117) (as := []) (r := []) ja_Reader_goOn_124 rfl rfl rfl (by decide) ⟨rfl, by decide⟩ ?_
          refine q_in (M := jm_Reader_readSign) rfl (Nat.le_of_ble_eq_true rfl) (ls := [some (.ref 117), none]) rfl ?_
          refine q_aload_n (pc' := 1) ja_Reader_readSign_0 rfl rfl ?_
          refine q_aload_n (pc' := 2) ja_Reader_readSign_1 rfl rfl ?_
          refine q_getf (pc' := 5) (v := .int (s31 117 2)) ja_Reader_readSign_2 rfl (by decide) ⟨rfl, by decide⟩ rfl ?_
          refine q_virt (pc' := 8) (c := 117) (as := [.int (s31 117 2)]) (r := []) ja_Reader_readSign_5 rfl rfl rfl (by decide) ⟨rfl, by decide⟩ ?_
          refine q_in (M := jm_Reader_byteAt) rfl (Nat.le_of_ble_eq_true rfl) (ls := [some (.ref 117), some (.int (s31 117 2))]) rfl ?_
          refine q_iload_n (pc' := 1) ja_Reader_byteAt_0 rfl rfl ?_
          refine q_if_lt (pc' := 4) ja_Reader_byteAt_1 rfl (fun _ => ?_) (fun h => absurd (h39) h)
          refine q_iconst (pc' := 31) ja_Reader_byteAt_30 rfl 0 (by decide) ?_
          refine q_iret ja_Reader_byteAt_31 rfl rfl ?_
          show q_W _ _ _ _ 8 [some (.ref 117), none] [.int 0] s31
          refine q_istore_n (pc' := 9) (ls' := [some (.ref 117), some (.int 0)]) ja_Reader_readSign_8 rfl ⟨Nat.le_of_ble_eq_true rfl, rfl⟩ rfl ?_
          refine q_aload_n (pc' := 10) ja_Reader_readSign_9 rfl rfl ?_
          refine q_dup (pc' := 11) ja_Reader_readSign_10 rfl rfl ?_
          refine q_getf (pc' := 14) (v := .int (s31 117 3)) ja_Reader_readSign_11 rfl (by decide) ⟨rfl, by decide⟩ rfl ?_
          refine q_iconst (pc' := 15) ja_Reader_readSign_14 rfl 1 (by decide) ?_
          refine q_iadd (pc' := 16) ja_Reader_readSign_15 rfl ?_
          refine q_putf (pc' := 19) ja_Reader_readSign_16 rfl (by decide) rfl rfl rfl ?_
          intro s32 e32
          refine q_iload_n (pc' := 20) ja_Reader_readSign_19 rfl rfl ?_
          refine q_swOut (pc' := 132) ja_Reader_readSign_20 (by decide) (by decide) ?_
          refine q_aload_n (pc' := 133) ja_Reader_readSign_132 rfl rfl ?_
          refine q_virt (pc' := 136) (c := 117) (as := []) (r := []) ja_Reader_readSign_133 rfl rfl rfl (by decide) ⟨rfl, by decide⟩ ?_
          refine q_in (M := jm_Reader_fail) rfl (Nat.le_of_ble_eq_true rfl) (ls := [some (.ref 117)]) rfl ?_
          refine q_aload_n (pc' := 1) ja_Reader_fail_0 rfl rfl ?_
          refine q_getf (pc' := 4) (v := .int (s32 117 7)) ja_Reader_fail_1 rfl (by decide) ⟨rfl, by decide⟩ rfl ?_
          refine q_iconst (pc' := 5) ja_Reader_fail_4 rfl (-1) (by decide) ?_
          refine q_ic_ne (pc' := 8) ja_Reader_fail_5 rfl ?_ ?_
          · intro h40
            refine q_aload_n (pc' := 17) ja_Reader_fail_16 rfl rfl ?_
            refine q_bipush (pc' := 19) ja_Reader_fail_17 rfl 17 (by decide) ?_
            refine q_putf (pc' := 22) ja_Reader_fail_19 rfl (by decide) rfl rfl rfl ?_
            intro s33 e33
            refine q_vret ja_Reader_fail_22 rfl ?_
            show q_W _ _ _ _ 136 [some (.ref 117), some (.int 0)] [] s33
            refine q_vret ja_Reader_readSign_136 rfl ?_
            show q_W _ _ _ _ 127 [some (.ref 117)] [] s33
            exact q_vret ja_Reader_goOn_127 rfl (k21 h36 h37 s31 e31 h38 h39 s32 e32 h40 s33 e33)
          · intro h41
            refine q_aload_n (pc' := 9) ja_Reader_fail_8 rfl rfl ?_
            refine q_aload_n (pc' := 10) ja_Reader_fail_9 rfl rfl ?_
            refine q_getf (pc' := 13) (v := .int (s32 117 2)) ja_Reader_fail_10 rfl (by decide) ⟨rfl, by decide⟩ rfl ?_
            refine q_putf (pc' := 16) ja_Reader_fail_13 rfl (by decide) rfl rfl rfl ?_
            intro s34 e34
            refine q_aload_n (pc' := 17) ja_Reader_fail_16 rfl rfl ?_
            refine q_bipush (pc' := 19) ja_Reader_fail_17 rfl 17 (by decide) ?_
            refine q_putf (pc' := 22) ja_Reader_fail_19 rfl (by decide) rfl rfl rfl ?_
            intro s35 e35
            refine q_vret ja_Reader_fail_22 rfl ?_
            show q_W _ _ _ _ 136 [some (.ref 117), some (.int 0)] [] s35
            refine q_vret ja_Reader_readSign_136 rfl ?_
            show q_W _ _ _ _ 127 [some (.ref 117)] [] s35
            exact q_vret ja_Reader_goOn_127 rfl (k22 h36 h37 s31 e31 h38 h39 s32 e32 h41 s34 e34 s35 e35)
        · intro h42
          refine q_iload_n (pc' := 5) ja_Reader_byteAt_4 rfl rfl ?_
          refine q_aload_n (pc' := 6) ja_Reader_byteAt_5 rfl rfl ?_
          refine q_getf (pc' := 9) (v := .int (s31 117 1)) ja_Reader_byteAt_6 rfl (by decide) ⟨rfl, by decide⟩ rfl ?_
          refine q_ic_ge (pc' := 12) ja_Reader_byteAt_9 rfl (fun h => absurd (h38) h) (fun _ => ?_)
          refine q_iload_n (pc' := 13) ja_Reader_byteAt_12 rfl rfl ?_
          refine q_aload_n (pc' := 14) ja_Reader_byteAt_13 rfl rfl ?_
          refine q_getf (pc' := 17) (v := .ref 118) ja_Reader_byteAt_14 rfl (by decide) ⟨rfl, by decide⟩ rfl ?_
          refine q_alen (pc' := 18) ja_Reader_byteAt_17 rfl (by decide) (kd := 13) (l := 200) rfl (by decide) (v := 200) (by decide) ?_
          refine q_ic_ge (pc' := 21) ja_Reader_byteAt_18 rfl ?_ ?_
          · intro h43
            refine q_iconst (pc' := 31) ja_Reader_byteAt_30 rfl 0 (by decide) ?_
            refine q_iret ja_Reader_byteAt_31 rfl rfl ?_
            show q_W _ _ _ _ 5 [some (.ref 117), some (.int (s31 117 2))] [.int 0] s31
            refine q_bipush (pc' := 7) ja_Reader_isLetter_5 rfl 97 (by decide) ?_
            refine q_ic_lt (pc' := 10) ja_Reader_isLetter_7 rfl (fun _ => ?_) (fun h => absurd ((by decide : (0 : Int32) < 97)) h)
            refine q_iconst (pc' := 25) ja_Reader_isLetter_24 rfl 0 (by decide) ?_
            refine q_iret ja_Reader_isLetter_25 rfl (by decide) ?_
            show q_W _ _ _ _ 95 [some (.ref 117)] [.int 0] s31
            refine q_if_eq (pc' := 98) ja_Reader_goOn_95 rfl (fun _ => ?_) (fun h => absurd ((by decide : (0 : Int32) = 0)) h)
            refine q_aload_n (pc' := 106) ja_Reader_goOn_105 rfl rfl ?_
            refine q_aload_n (pc' := 107) ja_Reader_goOn_106 rfl rfl ?_
            refine q_getf (pc' := 110) (v := .int (s31 117 2)) ja_Reader_goOn_107 rfl (by decide) ⟨rfl, by decide⟩ rfl ?_
            refine q_virt (pc' := 113) (c := 117) (as := [.int (s31 117 2)]) (r := []) ja_Reader_goOn_110 rfl rfl rfl (by decide) ⟨rfl, by decide⟩ ?_
            refine q_in (M := jm_Reader_isDigit) rfl (Nat.le_of_ble_eq_true rfl) (ls := [some (.ref 117), some (.int (s31 117 2))]) rfl ?_
            refine q_aload_n (pc' := 1) ja_Reader_isDigit_0 rfl rfl ?_
            refine q_iload_n (pc' := 2) ja_Reader_isDigit_1 rfl rfl ?_
            refine q_virt (pc' := 5) (c := 117) (as := [.int (s31 117 2)]) (r := []) ja_Reader_isDigit_2 rfl rfl rfl (by decide) ⟨rfl, by decide⟩ ?_
            refine q_in (M := jm_Reader_byteAt) rfl (Nat.le_of_ble_eq_true rfl) (ls := [some (.ref 117), some (.int (s31 117 2))]) rfl ?_
            refine q_iload_n (pc' := 1) ja_Reader_byteAt_0 rfl rfl ?_
            refine q_if_lt (pc' := 4) ja_Reader_byteAt_1 rfl (fun h => absurd h (h42)) (fun _ => ?_)
            refine q_iload_n (pc' := 5) ja_Reader_byteAt_4 rfl rfl ?_
            refine q_aload_n (pc' := 6) ja_Reader_byteAt_5 rfl rfl ?_
            refine q_getf (pc' := 9) (v := .int (s31 117 1)) ja_Reader_byteAt_6 rfl (by decide) ⟨rfl, by decide⟩ rfl ?_
            refine q_ic_ge (pc' := 12) ja_Reader_byteAt_9 rfl (fun h => absurd (h38) h) (fun _ => ?_)
            refine q_iload_n (pc' := 13) ja_Reader_byteAt_12 rfl rfl ?_
            refine q_aload_n (pc' := 14) ja_Reader_byteAt_13 rfl rfl ?_
            refine q_getf (pc' := 17) (v := .ref 118) ja_Reader_byteAt_14 rfl (by decide) ⟨rfl, by decide⟩ rfl ?_
            refine q_alen (pc' := 18) ja_Reader_byteAt_17 rfl (by decide) (kd := 13) (l := 200) rfl (by decide) (v := 200) (by decide) ?_
            refine q_ic_ge (pc' := 21) ja_Reader_byteAt_18 rfl (fun _ => ?_) (fun h => absurd h (h43))
            refine q_iconst (pc' := 31) ja_Reader_byteAt_30 rfl 0 (by decide) ?_
            refine q_iret ja_Reader_byteAt_31 rfl rfl ?_
            show q_W _ _ _ _ 5 [some (.ref 117), some (.int (s31 117 2))] [.int 0] s31
            refine q_bipush (pc' := 7) ja_Reader_isDigit_5 rfl 48 (by decide) ?_
            refine q_ic_lt (pc' := 10) ja_Reader_isDigit_7 rfl (fun _ => ?_) (fun h => absurd ((by decide : (0 : Int32) < 48)) h)
            refine q_iconst (pc' := 25) ja_Reader_isDigit_24 rfl 0 (by decide) ?_
            refine q_iret ja_Reader_isDigit_25 rfl (by decide) ?_
            show q_W _ _ _ _ 113 [some (.ref 117)] [.int 0] s31
            refine q_if_eq (pc' := 116) ja_Reader_goOn_113 rfl (fun _ => ?_) (fun h => absurd ((by decide : (0 : Int32) = 0)) h)
            refine q_aload_n (pc' := 124) ja_Reader_goOn_123 rfl rfl ?_
            refine q_virt (pc' := 127) (c := 117) (as := []) (r := []) ja_Reader_goOn_124 rfl rfl rfl (by decide) ⟨rfl, by decide⟩ ?_
            refine q_in (M := jm_Reader_readSign) rfl (Nat.le_of_ble_eq_true rfl) (ls := [some (.ref 117), none]) rfl ?_
            refine q_aload_n (pc' := 1) ja_Reader_readSign_0 rfl rfl ?_
            refine q_aload_n (pc' := 2) ja_Reader_readSign_1 rfl rfl ?_
            refine q_getf (pc' := 5) (v := .int (s31 117 2)) ja_Reader_readSign_2 rfl (by decide) ⟨rfl, by decide⟩ rfl ?_
            refine q_virt (pc' := 8) (c := 117) (as := [.int (s31 117 2)]) (r := []) ja_Reader_readSign_5 rfl rfl rfl (by decide) ⟨rfl, by decide⟩ ?_
            refine q_in (M := jm_Reader_byteAt) rfl (Nat.le_of_ble_eq_true rfl) (ls := [some (.ref 117), some (.int (s31 117 2))]) rfl ?_
            refine q_iload_n (pc' := 1) ja_Reader_byteAt_0 rfl rfl ?_
            refine q_if_lt (pc' := 4) ja_Reader_byteAt_1 rfl (fun h => absurd h (h42)) (fun _ => ?_)
            refine q_iload_n (pc' := 5) ja_Reader_byteAt_4 rfl rfl ?_
            refine q_aload_n (pc' := 6) ja_Reader_byteAt_5 rfl rfl ?_
            refine q_getf (pc' := 9) (v := .int (s31 117 1)) ja_Reader_byteAt_6 rfl (by decide) ⟨rfl, by decide⟩ rfl ?_
            refine q_ic_ge (pc' := 12) ja_Reader_byteAt_9 rfl (fun h => absurd (h38) h) (fun _ => ?_)
            refine q_iload_n (pc' := 13) ja_Reader_byteAt_12 rfl rfl ?_
            refine q_aload_n (pc' := 14) ja_Reader_byteAt_13 rfl rfl ?_
            refine q_getf (pc' := 17) (v := .ref 118) ja_Reader_byteAt_14 rfl (by decide) ⟨rfl, by decide⟩ rfl ?_
            refine q_alen (pc' := 18) ja_Reader_byteAt_17 rfl (by decide) (kd := 13) (l := 200) rfl (by decide) (v := 200) (by decide) ?_
            refine q_ic_ge (pc' := 21) ja_Reader_byteAt_18 rfl (fun _ => ?_) (fun h => absurd h (h43))
            refine q_iconst (pc' := 31) ja_Reader_byteAt_30 rfl 0 (by decide) ?_
            refine q_iret ja_Reader_byteAt_31 rfl rfl ?_
            show q_W _ _ _ _ 8 [some (.ref 117), none] [.int 0] s31
            refine q_istore_n (pc' := 9) (ls' := [some (.ref 117), some (.int 0)]) ja_Reader_readSign_8 rfl ⟨Nat.le_of_ble_eq_true rfl, rfl⟩ rfl ?_
            refine q_aload_n (pc' := 10) ja_Reader_readSign_9 rfl rfl ?_
            refine q_dup (pc' := 11) ja_Reader_readSign_10 rfl rfl ?_
            refine q_getf (pc' := 14) (v := .int (s31 117 3)) ja_Reader_readSign_11 rfl (by decide) ⟨rfl, by decide⟩ rfl ?_
            refine q_iconst (pc' := 15) ja_Reader_readSign_14 rfl 1 (by decide) ?_
            refine q_iadd (pc' := 16) ja_Reader_readSign_15 rfl ?_
            refine q_putf (pc' := 19) ja_Reader_readSign_16 rfl (by decide) rfl rfl rfl ?_
            intro s36 e36
            refine q_iload_n (pc' := 20) ja_Reader_readSign_19 rfl rfl ?_
            refine q_swOut (pc' := 132) ja_Reader_readSign_20 (by decide) (by decide) ?_
            refine q_aload_n (pc' := 133) ja_Reader_readSign_132 rfl rfl ?_
            refine q_virt (pc' := 136) (c := 117) (as := []) (r := []) ja_Reader_readSign_133 rfl rfl rfl (by decide) ⟨rfl, by decide⟩ ?_
            refine q_in (M := jm_Reader_fail) rfl (Nat.le_of_ble_eq_true rfl) (ls := [some (.ref 117)]) rfl ?_
            refine q_aload_n (pc' := 1) ja_Reader_fail_0 rfl rfl ?_
            refine q_getf (pc' := 4) (v := .int (s36 117 7)) ja_Reader_fail_1 rfl (by decide) ⟨rfl, by decide⟩ rfl ?_
            refine q_iconst (pc' := 5) ja_Reader_fail_4 rfl (-1) (by decide) ?_
            refine q_ic_ne (pc' := 8) ja_Reader_fail_5 rfl ?_ ?_
            · intro h44
              refine q_aload_n (pc' := 17) ja_Reader_fail_16 rfl rfl ?_
              refine q_bipush (pc' := 19) ja_Reader_fail_17 rfl 17 (by decide) ?_
              refine q_putf (pc' := 22) ja_Reader_fail_19 rfl (by decide) rfl rfl rfl ?_
              intro s37 e37
              refine q_vret ja_Reader_fail_22 rfl ?_
              show q_W _ _ _ _ 136 [some (.ref 117), some (.int 0)] [] s37
              refine q_vret ja_Reader_readSign_136 rfl ?_
              show q_W _ _ _ _ 127 [some (.ref 117)] [] s37
              exact q_vret ja_Reader_goOn_127 rfl (k23 h36 h37 s31 e31 h38 h42 h43 s36 e36 h44 s37 e37)
            · intro h45
              refine q_aload_n (pc' := 9) ja_Reader_fail_8 rfl rfl ?_
              refine q_aload_n (pc' := 10) ja_Reader_fail_9 rfl rfl ?_
              refine q_getf (pc' := 13) (v := .int (s36 117 2)) ja_Reader_fail_10 rfl (by decide) ⟨rfl, by decide⟩ rfl ?_
              refine q_putf (pc' := 16) ja_Reader_fail_13 rfl (by decide) rfl rfl rfl ?_
              intro s38 e38
              refine q_aload_n (pc' := 17) ja_Reader_fail_16 rfl rfl ?_
              refine q_bipush (pc' := 19) ja_Reader_fail_17 rfl 17 (by decide) ?_
              refine q_putf (pc' := 22) ja_Reader_fail_19 rfl (by decide) rfl rfl rfl ?_
              intro s39 e39
              refine q_vret ja_Reader_fail_22 rfl ?_
              show q_W _ _ _ _ 136 [some (.ref 117), some (.int 0)] [] s39
              refine q_vret ja_Reader_readSign_136 rfl ?_
              show q_W _ _ _ _ 127 [some (.ref 117)] [] s39
              exact q_vret ja_Reader_goOn_127 rfl (k24 h36 h37 s31 e31 h38 h42 h43 s36 e36 h45 s38 e38 s39 e39)
          · intro h46
            refine q_aload_n (pc' := 22) ja_Reader_byteAt_21 rfl rfl ?_
            refine q_getf (pc' := 25) (v := .ref 118) ja_Reader_byteAt_22 rfl (by decide) ⟨rfl, by decide⟩ rfl ?_
            refine q_iload_n (pc' := 26) ja_Reader_byteAt_25 rfl rfl ?_
            refine q_iald (pc' := 27) (v := .int (s31 118 (s31 117 2).toNatClampNeg)) ja_Reader_byteAt_26 rfl (by decide) (l := 200) rfl (q_inr (l := 200) (by decide) h42 h46) rfl ?_
            refine q_goto ja_Reader_byteAt_27 ?_
            refine q_iret ja_Reader_byteAt_31 rfl rfl ?_
            show q_W _ _ _ _ 5 [some (.ref 117), some (.int (s31 117 2))] [.int (s31 118 (s31 117 2).toNatClampNeg)] s31
            refine q_bipush (pc' := 7) ja_Reader_isLetter_5 rfl 97 (by decide) ?_
            refine q_ic_lt (pc' := 10) ja_Reader_isLetter_7 rfl ?_ ?_
            · intro h47
              refine q_iconst (pc' := 25) ja_Reader_isLetter_24 rfl 0 (by decide) ?_
              refine q_iret ja_Reader_isLetter_25 rfl (by decide) ?_
              show q_W _ _ _ _ 95 [some (.ref 117)] [.int 0] s31
              refine q_if_eq (pc' := 98) ja_Reader_goOn_95 rfl (fun _ => ?_) (fun h => absurd ((by decide : (0 : Int32) = 0)) h)
              refine q_aload_n (pc' := 106) ja_Reader_goOn_105 rfl rfl ?_
              refine q_aload_n (pc' := 107) ja_Reader_goOn_106 rfl rfl ?_
              refine q_getf (pc' := 110) (v := .int (s31 117 2)) ja_Reader_goOn_107 rfl (by decide) ⟨rfl, by decide⟩ rfl ?_
              refine q_virt (pc' := 113) (c := 117) (as := [.int (s31 117 2)]) (r := []) ja_Reader_goOn_110 rfl rfl rfl (by decide) ⟨rfl, by decide⟩ ?_
              refine q_in (M := jm_Reader_isDigit) rfl (Nat.le_of_ble_eq_true rfl) (ls := [some (.ref 117), some (.int (s31 117 2))]) rfl ?_
              refine q_aload_n (pc' := 1) ja_Reader_isDigit_0 rfl rfl ?_
              refine q_iload_n (pc' := 2) ja_Reader_isDigit_1 rfl rfl ?_
              refine q_virt (pc' := 5) (c := 117) (as := [.int (s31 117 2)]) (r := []) ja_Reader_isDigit_2 rfl rfl rfl (by decide) ⟨rfl, by decide⟩ ?_
              refine q_in (M := jm_Reader_byteAt) rfl (Nat.le_of_ble_eq_true rfl) (ls := [some (.ref 117), some (.int (s31 117 2))]) rfl ?_
              refine q_iload_n (pc' := 1) ja_Reader_byteAt_0 rfl rfl ?_
              refine q_if_lt (pc' := 4) ja_Reader_byteAt_1 rfl (fun h => absurd h (h42)) (fun _ => ?_)
              refine q_iload_n (pc' := 5) ja_Reader_byteAt_4 rfl rfl ?_
              refine q_aload_n (pc' := 6) ja_Reader_byteAt_5 rfl rfl ?_
              refine q_getf (pc' := 9) (v := .int (s31 117 1)) ja_Reader_byteAt_6 rfl (by decide) ⟨rfl, by decide⟩ rfl ?_
              refine q_ic_ge (pc' := 12) ja_Reader_byteAt_9 rfl (fun h => absurd (h38) h) (fun _ => ?_)
              refine q_iload_n (pc' := 13) ja_Reader_byteAt_12 rfl rfl ?_
              refine q_aload_n (pc' := 14) ja_Reader_byteAt_13 rfl rfl ?_
              refine q_getf (pc' := 17) (v := .ref 118) ja_Reader_byteAt_14 rfl (by decide) ⟨rfl, by decide⟩ rfl ?_
              refine q_alen (pc' := 18) ja_Reader_byteAt_17 rfl (by decide) (kd := 13) (l := 200) rfl (by decide) (v := 200) (by decide) ?_
              refine q_ic_ge (pc' := 21) ja_Reader_byteAt_18 rfl (fun h => absurd (h46) h) (fun _ => ?_)
              refine q_aload_n (pc' := 22) ja_Reader_byteAt_21 rfl rfl ?_
              refine q_getf (pc' := 25) (v := .ref 118) ja_Reader_byteAt_22 rfl (by decide) ⟨rfl, by decide⟩ rfl ?_
              refine q_iload_n (pc' := 26) ja_Reader_byteAt_25 rfl rfl ?_
              refine q_iald (pc' := 27) (v := .int (s31 118 (s31 117 2).toNatClampNeg)) ja_Reader_byteAt_26 rfl (by decide) (l := 200) rfl (q_inr (l := 200) (by decide) h42 h46) rfl ?_
              refine q_goto ja_Reader_byteAt_27 ?_
              refine q_iret ja_Reader_byteAt_31 rfl rfl ?_
              show q_W _ _ _ _ 5 [some (.ref 117), some (.int (s31 117 2))] [.int (s31 118 (s31 117 2).toNatClampNeg)] s31
              refine q_bipush (pc' := 7) ja_Reader_isDigit_5 rfl 48 (by decide) ?_
              refine q_ic_lt (pc' := 10) ja_Reader_isDigit_7 rfl ?_ ?_
              · intro h48
                refine q_iconst (pc' := 25) ja_Reader_isDigit_24 rfl 0 (by decide) ?_
                refine q_iret ja_Reader_isDigit_25 rfl (by decide) ?_
                show q_W _ _ _ _ 113 [some (.ref 117)] [.int 0] s31
                refine q_if_eq (pc' := 116) ja_Reader_goOn_113 rfl (fun _ => ?_) (fun h => absurd ((by decide : (0 : Int32) = 0)) h)
                refine q_aload_n (pc' := 124) ja_Reader_goOn_123 rfl rfl ?_
                refine q_virt (pc' := 127) (c := 117) (as := []) (r := []) ja_Reader_goOn_124 rfl rfl rfl (by decide) ⟨rfl, by decide⟩ ?_
                refine q_in (M := jm_Reader_readSign) rfl (Nat.le_of_ble_eq_true rfl) (ls := [some (.ref 117), none]) rfl ?_
                refine q_aload_n (pc' := 1) ja_Reader_readSign_0 rfl rfl ?_
                refine q_aload_n (pc' := 2) ja_Reader_readSign_1 rfl rfl ?_
                refine q_getf (pc' := 5) (v := .int (s31 117 2)) ja_Reader_readSign_2 rfl (by decide) ⟨rfl, by decide⟩ rfl ?_
                refine q_virt (pc' := 8) (c := 117) (as := [.int (s31 117 2)]) (r := []) ja_Reader_readSign_5 rfl rfl rfl (by decide) ⟨rfl, by decide⟩ ?_
                refine q_in (M := jm_Reader_byteAt) rfl (Nat.le_of_ble_eq_true rfl) (ls := [some (.ref 117), some (.int (s31 117 2))]) rfl ?_
                refine q_iload_n (pc' := 1) ja_Reader_byteAt_0 rfl rfl ?_
                refine q_if_lt (pc' := 4) ja_Reader_byteAt_1 rfl (fun h => absurd h (h42)) (fun _ => ?_)
                refine q_iload_n (pc' := 5) ja_Reader_byteAt_4 rfl rfl ?_
                refine q_aload_n (pc' := 6) ja_Reader_byteAt_5 rfl rfl ?_
                refine q_getf (pc' := 9) (v := .int (s31 117 1)) ja_Reader_byteAt_6 rfl (by decide) ⟨rfl, by decide⟩ rfl ?_
                refine q_ic_ge (pc' := 12) ja_Reader_byteAt_9 rfl (fun h => absurd (h38) h) (fun _ => ?_)
                refine q_iload_n (pc' := 13) ja_Reader_byteAt_12 rfl rfl ?_
                refine q_aload_n (pc' := 14) ja_Reader_byteAt_13 rfl rfl ?_
                refine q_getf (pc' := 17) (v := .ref 118) ja_Reader_byteAt_14 rfl (by decide) ⟨rfl, by decide⟩ rfl ?_
                refine q_alen (pc' := 18) ja_Reader_byteAt_17 rfl (by decide) (kd := 13) (l := 200) rfl (by decide) (v := 200) (by decide) ?_
                refine q_ic_ge (pc' := 21) ja_Reader_byteAt_18 rfl (fun h => absurd (h46) h) (fun _ => ?_)
                refine q_aload_n (pc' := 22) ja_Reader_byteAt_21 rfl rfl ?_
                refine q_getf (pc' := 25) (v := .ref 118) ja_Reader_byteAt_22 rfl (by decide) ⟨rfl, by decide⟩ rfl ?_
                refine q_iload_n (pc' := 26) ja_Reader_byteAt_25 rfl rfl ?_
                refine q_iald (pc' := 27) (v := .int (s31 118 (s31 117 2).toNatClampNeg)) ja_Reader_byteAt_26 rfl (by decide) (l := 200) rfl (q_inr (l := 200) (by decide) h42 h46) rfl ?_
                refine q_goto ja_Reader_byteAt_27 ?_
                refine q_iret ja_Reader_byteAt_31 rfl rfl ?_
                show q_W _ _ _ _ 8 [some (.ref 117), none] [.int (s31 118 (s31 117 2).toNatClampNeg)] s31
                refine q_istore_n (pc' := 9) (ls' := [some (.ref 117), some (.int (s31 118 (s31 117 2).toNatClampNeg))]) ja_Reader_readSign_8 rfl ⟨Nat.le_of_ble_eq_true rfl, rfl⟩ rfl ?_
                refine q_aload_n (pc' := 10) ja_Reader_readSign_9 rfl rfl ?_
                refine q_dup (pc' := 11) ja_Reader_readSign_10 rfl rfl ?_
                refine q_getf (pc' := 14) (v := .int (s31 117 3)) ja_Reader_readSign_11 rfl (by decide) ⟨rfl, by decide⟩ rfl ?_
                refine q_iconst (pc' := 15) ja_Reader_readSign_14 rfl 1 (by decide) ?_
                refine q_iadd (pc' := 16) ja_Reader_readSign_15 rfl ?_
                refine q_putf (pc' := 19) ja_Reader_readSign_16 rfl (by decide) rfl rfl rfl ?_
                intro s40 e40
                refine q_iload_n (pc' := 20) ja_Reader_readSign_19 rfl rfl ?_
                by_cases h49 : ((s31 118 (s31 117 2).toNatClampNeg) = 40 ∨ (s31 118 (s31 117 2).toNatClampNeg) = 41 ∨ (s31 118 (s31 117 2).toNatClampNeg) = 42 ∨ (s31 118 (s31 117 2).toNatClampNeg) = 43 ∨ (s31 118 (s31 117 2).toNatClampNeg) = 45 ∨ (s31 118 (s31 117 2).toNatClampNeg) = 59 ∨ (s31 118 (s31 117 2).toNatClampNeg) = 60 ∨ (s31 118 (s31 117 2).toNatClampNeg) = 61)
                · refine q_swE (pc' := 124) ja_Reader_readSign_20 (by rcases h49 with e | e | e | e | e | e | e | e <;> (rw [e]; decide)) (by rcases h49 with e | e | e | e | e | e | e | e <;> (rw [e]; exact ⟨_, rfl, rfl⟩)) ?_
                  refine q_aload_n (pc' := 125) ja_Reader_readSign_124 rfl rfl ?_
                  refine q_iload_n (pc' := 126) ja_Reader_readSign_125 rfl rfl ?_
                  refine q_putf (pc' := 129) ja_Reader_readSign_126 rfl (by decide) rfl rfl rfl ?_
                  intro s41 e41
                  refine q_goto ja_Reader_readSign_129 ?_
                  refine q_vret ja_Reader_readSign_136 rfl ?_
                  show q_W _ _ _ _ 127 [some (.ref 117)] [] s41
                  exact q_vret ja_Reader_goOn_127 rfl (k25 h36 h37 s31 e31 h38 h42 h46 h47 h48 s40 e40 h49 s41 e41)
                refine q_swD (pc' := 132) ja_Reader_readSign_20 [40, 41, 42, 43, 45, 59, 60, 61] (List.forall_mem_cons.mpr ⟨fun e => h49 (by rw [e]; decide), (List.forall_mem_cons.mpr ⟨fun e => h49 (by rw [e]; decide), (List.forall_mem_cons.mpr ⟨fun e => h49 (by rw [e]; decide), (List.forall_mem_cons.mpr ⟨fun e => h49 (by rw [e]; decide), (List.forall_mem_cons.mpr ⟨fun e => h49 (by rw [e]; decide), (List.forall_mem_cons.mpr ⟨fun e => h49 (by rw [e]; decide), (List.forall_mem_cons.mpr ⟨fun e => h49 (by rw [e]; decide), (List.forall_mem_cons.mpr ⟨fun e => h49 (by rw [e]; decide), (List.forall_mem_nil _)⟩)⟩)⟩)⟩)⟩)⟩)⟩)⟩) (by decide) rfl ?_
                refine q_aload_n (pc' := 133) ja_Reader_readSign_132 rfl rfl ?_
                refine q_virt (pc' := 136) (c := 117) (as := []) (r := []) ja_Reader_readSign_133 rfl rfl rfl (by decide) ⟨rfl, by decide⟩ ?_
                refine q_in (M := jm_Reader_fail) rfl (Nat.le_of_ble_eq_true rfl) (ls := [some (.ref 117)]) rfl ?_
                refine q_aload_n (pc' := 1) ja_Reader_fail_0 rfl rfl ?_
                refine q_getf (pc' := 4) (v := .int (s40 117 7)) ja_Reader_fail_1 rfl (by decide) ⟨rfl, by decide⟩ rfl ?_
                refine q_iconst (pc' := 5) ja_Reader_fail_4 rfl (-1) (by decide) ?_
                refine q_ic_ne (pc' := 8) ja_Reader_fail_5 rfl ?_ ?_
                · intro h50
                  refine q_aload_n (pc' := 17) ja_Reader_fail_16 rfl rfl ?_
                  refine q_bipush (pc' := 19) ja_Reader_fail_17 rfl 17 (by decide) ?_
                  refine q_putf (pc' := 22) ja_Reader_fail_19 rfl (by decide) rfl rfl rfl ?_
                  intro s42 e42
                  refine q_vret ja_Reader_fail_22 rfl ?_
                  show q_W _ _ _ _ 136 [some (.ref 117), some (.int (s31 118 (s31 117 2).toNatClampNeg))] [] s42
                  refine q_vret ja_Reader_readSign_136 rfl ?_
                  show q_W _ _ _ _ 127 [some (.ref 117)] [] s42
                  exact q_vret ja_Reader_goOn_127 rfl (k26 h36 h37 s31 e31 h38 h42 h46 h47 h48 s40 e40 h49 h50 s42 e42)
                · intro h51
                  refine q_aload_n (pc' := 9) ja_Reader_fail_8 rfl rfl ?_
                  refine q_aload_n (pc' := 10) ja_Reader_fail_9 rfl rfl ?_
                  refine q_getf (pc' := 13) (v := .int (s40 117 2)) ja_Reader_fail_10 rfl (by decide) ⟨rfl, by decide⟩ rfl ?_
                  refine q_putf (pc' := 16) ja_Reader_fail_13 rfl (by decide) rfl rfl rfl ?_
                  intro s43 e43
                  refine q_aload_n (pc' := 17) ja_Reader_fail_16 rfl rfl ?_
                  refine q_bipush (pc' := 19) ja_Reader_fail_17 rfl 17 (by decide) ?_
                  refine q_putf (pc' := 22) ja_Reader_fail_19 rfl (by decide) rfl rfl rfl ?_
                  intro s44 e44
                  refine q_vret ja_Reader_fail_22 rfl ?_
                  show q_W _ _ _ _ 136 [some (.ref 117), some (.int (s31 118 (s31 117 2).toNatClampNeg))] [] s44
                  refine q_vret ja_Reader_readSign_136 rfl ?_
                  show q_W _ _ _ _ 127 [some (.ref 117)] [] s44
                  exact q_vret ja_Reader_goOn_127 rfl (k27 h36 h37 s31 e31 h38 h42 h46 h47 h48 s40 e40 h49 h51 s43 e43 s44 e44)
              · intro h52
                refine q_aload_n (pc' := 11) ja_Reader_isDigit_10 rfl rfl ?_
                refine q_iload_n (pc' := 12) ja_Reader_isDigit_11 rfl rfl ?_
                refine q_virt (pc' := 15) (c := 117) (as := [.int (s31 117 2)]) (r := []) ja_Reader_isDigit_12 rfl rfl rfl (by decide) ⟨rfl, by decide⟩ ?_
                refine q_in (M := jm_Reader_byteAt) rfl (Nat.le_of_ble_eq_true rfl) (ls := [some (.ref 117), some (.int (s31 117 2))]) rfl ?_
                refine q_iload_n (pc' := 1) ja_Reader_byteAt_0 rfl rfl ?_
                refine q_if_lt (pc' := 4) ja_Reader_byteAt_1 rfl (fun h => absurd h (h42)) (fun _ => ?_)
                refine q_iload_n (pc' := 5) ja_Reader_byteAt_4 rfl rfl ?_
                refine q_aload_n (pc' := 6) ja_Reader_byteAt_5 rfl rfl ?_
                refine q_getf (pc' := 9) (v := .int (s31 117 1)) ja_Reader_byteAt_6 rfl (by decide) ⟨rfl, by decide⟩ rfl ?_
                refine q_ic_ge (pc' := 12) ja_Reader_byteAt_9 rfl (fun h => absurd (h38) h) (fun _ => ?_)
                refine q_iload_n (pc' := 13) ja_Reader_byteAt_12 rfl rfl ?_
                refine q_aload_n (pc' := 14) ja_Reader_byteAt_13 rfl rfl ?_
                refine q_getf (pc' := 17) (v := .ref 118) ja_Reader_byteAt_14 rfl (by decide) ⟨rfl, by decide⟩ rfl ?_
                refine q_alen (pc' := 18) ja_Reader_byteAt_17 rfl (by decide) (kd := 13) (l := 200) rfl (by decide) (v := 200) (by decide) ?_
                refine q_ic_ge (pc' := 21) ja_Reader_byteAt_18 rfl (fun h => absurd (h46) h) (fun _ => ?_)
                refine q_aload_n (pc' := 22) ja_Reader_byteAt_21 rfl rfl ?_
                refine q_getf (pc' := 25) (v := .ref 118) ja_Reader_byteAt_22 rfl (by decide) ⟨rfl, by decide⟩ rfl ?_
                refine q_iload_n (pc' := 26) ja_Reader_byteAt_25 rfl rfl ?_
                refine q_iald (pc' := 27) (v := .int (s31 118 (s31 117 2).toNatClampNeg)) ja_Reader_byteAt_26 rfl (by decide) (l := 200) rfl (q_inr (l := 200) (by decide) h42 h46) rfl ?_
                refine q_goto ja_Reader_byteAt_27 ?_
                refine q_iret ja_Reader_byteAt_31 rfl rfl ?_
                show q_W _ _ _ _ 15 [some (.ref 117), some (.int (s31 117 2))] [.int (s31 118 (s31 117 2).toNatClampNeg)] s31
                refine q_bipush (pc' := 17) ja_Reader_isDigit_15 rfl 57 (by decide) ?_
                refine q_ic_gt (pc' := 20) ja_Reader_isDigit_17 rfl ?_ ?_
                · intro h53
                  refine q_iconst (pc' := 25) ja_Reader_isDigit_24 rfl 0 (by decide) ?_
                  refine q_iret ja_Reader_isDigit_25 rfl (by decide) ?_
                  show q_W _ _ _ _ 113 [some (.ref 117)] [.int 0] s31
                  refine q_if_eq (pc' := 116) ja_Reader_goOn_113 rfl (fun _ => ?_) (fun h => absurd ((by decide : (0 : Int32) = 0)) h)
                  refine q_aload_n (pc' := 124) ja_Reader_goOn_123 rfl rfl ?_
                  refine q_virt (pc' := 127) (c := 117) (as := []) (r := []) ja_Reader_goOn_124 rfl rfl rfl (by decide) ⟨rfl, by decide⟩ ?_
                  refine q_in (M := jm_Reader_readSign) rfl (Nat.le_of_ble_eq_true rfl) (ls := [some (.ref 117), none]) rfl ?_
                  refine q_aload_n (pc' := 1) ja_Reader_readSign_0 rfl rfl ?_
                  refine q_aload_n (pc' := 2) ja_Reader_readSign_1 rfl rfl ?_
                  refine q_getf (pc' := 5) (v := .int (s31 117 2)) ja_Reader_readSign_2 rfl (by decide) ⟨rfl, by decide⟩ rfl ?_
                  refine q_virt (pc' := 8) (c := 117) (as := [.int (s31 117 2)]) (r := []) ja_Reader_readSign_5 rfl rfl rfl (by decide) ⟨rfl, by decide⟩ ?_
                  refine q_in (M := jm_Reader_byteAt) rfl (Nat.le_of_ble_eq_true rfl) (ls := [some (.ref 117), some (.int (s31 117 2))]) rfl ?_
                  refine q_iload_n (pc' := 1) ja_Reader_byteAt_0 rfl rfl ?_
                  refine q_if_lt (pc' := 4) ja_Reader_byteAt_1 rfl (fun h => absurd h (h42)) (fun _ => ?_)
                  refine q_iload_n (pc' := 5) ja_Reader_byteAt_4 rfl rfl ?_
                  refine q_aload_n (pc' := 6) ja_Reader_byteAt_5 rfl rfl ?_
                  refine q_getf (pc' := 9) (v := .int (s31 117 1)) ja_Reader_byteAt_6 rfl (by decide) ⟨rfl, by decide⟩ rfl ?_
                  refine q_ic_ge (pc' := 12) ja_Reader_byteAt_9 rfl (fun h => absurd (h38) h) (fun _ => ?_)
                  refine q_iload_n (pc' := 13) ja_Reader_byteAt_12 rfl rfl ?_
                  refine q_aload_n (pc' := 14) ja_Reader_byteAt_13 rfl rfl ?_
                  refine q_getf (pc' := 17) (v := .ref 118) ja_Reader_byteAt_14 rfl (by decide) ⟨rfl, by decide⟩ rfl ?_
                  refine q_alen (pc' := 18) ja_Reader_byteAt_17 rfl (by decide) (kd := 13) (l := 200) rfl (by decide) (v := 200) (by decide) ?_
                  refine q_ic_ge (pc' := 21) ja_Reader_byteAt_18 rfl (fun h => absurd (h46) h) (fun _ => ?_)
                  refine q_aload_n (pc' := 22) ja_Reader_byteAt_21 rfl rfl ?_
                  refine q_getf (pc' := 25) (v := .ref 118) ja_Reader_byteAt_22 rfl (by decide) ⟨rfl, by decide⟩ rfl ?_
                  refine q_iload_n (pc' := 26) ja_Reader_byteAt_25 rfl rfl ?_
                  refine q_iald (pc' := 27) (v := .int (s31 118 (s31 117 2).toNatClampNeg)) ja_Reader_byteAt_26 rfl (by decide) (l := 200) rfl (q_inr (l := 200) (by decide) h42 h46) rfl ?_
                  refine q_goto ja_Reader_byteAt_27 ?_
                  refine q_iret ja_Reader_byteAt_31 rfl rfl ?_
                  show q_W _ _ _ _ 8 [some (.ref 117), none] [.int (s31 118 (s31 117 2).toNatClampNeg)] s31
                  refine q_istore_n (pc' := 9) (ls' := [some (.ref 117), some (.int (s31 118 (s31 117 2).toNatClampNeg))]) ja_Reader_readSign_8 rfl ⟨Nat.le_of_ble_eq_true rfl, rfl⟩ rfl ?_
                  refine q_aload_n (pc' := 10) ja_Reader_readSign_9 rfl rfl ?_
                  refine q_dup (pc' := 11) ja_Reader_readSign_10 rfl rfl ?_
                  refine q_getf (pc' := 14) (v := .int (s31 117 3)) ja_Reader_readSign_11 rfl (by decide) ⟨rfl, by decide⟩ rfl ?_
                  refine q_iconst (pc' := 15) ja_Reader_readSign_14 rfl 1 (by decide) ?_
                  refine q_iadd (pc' := 16) ja_Reader_readSign_15 rfl ?_
                  refine q_putf (pc' := 19) ja_Reader_readSign_16 rfl (by decide) rfl rfl rfl ?_
                  intro s45 e45
                  refine q_iload_n (pc' := 20) ja_Reader_readSign_19 rfl rfl ?_
                  by_cases h54 : ((s31 118 (s31 117 2).toNatClampNeg) = 40 ∨ (s31 118 (s31 117 2).toNatClampNeg) = 41 ∨ (s31 118 (s31 117 2).toNatClampNeg) = 42 ∨ (s31 118 (s31 117 2).toNatClampNeg) = 43 ∨ (s31 118 (s31 117 2).toNatClampNeg) = 45 ∨ (s31 118 (s31 117 2).toNatClampNeg) = 59 ∨ (s31 118 (s31 117 2).toNatClampNeg) = 60 ∨ (s31 118 (s31 117 2).toNatClampNeg) = 61)
                  · refine q_swE (pc' := 124) ja_Reader_readSign_20 (by rcases h54 with e | e | e | e | e | e | e | e <;> (rw [e]; decide)) (by rcases h54 with e | e | e | e | e | e | e | e <;> (rw [e]; exact ⟨_, rfl, rfl⟩)) ?_
                    refine q_aload_n (pc' := 125) ja_Reader_readSign_124 rfl rfl ?_
                    refine q_iload_n (pc' := 126) ja_Reader_readSign_125 rfl rfl ?_
                    refine q_putf (pc' := 129) ja_Reader_readSign_126 rfl (by decide) rfl rfl rfl ?_
                    intro s46 e46
                    refine q_goto ja_Reader_readSign_129 ?_
                    refine q_vret ja_Reader_readSign_136 rfl ?_
                    show q_W _ _ _ _ 127 [some (.ref 117)] [] s46
                    exact q_vret ja_Reader_goOn_127 rfl (k28 h36 h37 s31 e31 h38 h42 h46 h47 h52 h53 s45 e45 h54 s46 e46)
                  refine q_swD (pc' := 132) ja_Reader_readSign_20 [40, 41, 42, 43, 45, 59, 60, 61] (List.forall_mem_cons.mpr ⟨fun e => h54 (by rw [e]; decide), (List.forall_mem_cons.mpr ⟨fun e => h54 (by rw [e]; decide), (List.forall_mem_cons.mpr ⟨fun e => h54 (by rw [e]; decide), (List.forall_mem_cons.mpr ⟨fun e => h54 (by rw [e]; decide), (List.forall_mem_cons.mpr ⟨fun e => h54 (by rw [e]; decide), (List.forall_mem_cons.mpr ⟨fun e => h54 (by rw [e]; decide), (List.forall_mem_cons.mpr ⟨fun e => h54 (by rw [e]; decide), (List.forall_mem_cons.mpr ⟨fun e => h54 (by rw [e]; decide), (List.forall_mem_nil _)⟩)⟩)⟩)⟩)⟩)⟩)⟩)⟩) (by decide) rfl ?_
                  refine q_aload_n (pc' := 133) ja_Reader_readSign_132 rfl rfl ?_
                  refine q_virt (pc' := 136) (c := 117) (as := []) (r := []) ja_Reader_readSign_133 rfl rfl rfl (by decide) ⟨rfl, by decide⟩ ?_
                  refine q_in (M := jm_Reader_fail) rfl (Nat.le_of_ble_eq_true rfl) (ls := [some (.ref 117)]) rfl ?_
                  refine q_aload_n (pc' := 1) ja_Reader_fail_0 rfl rfl ?_
                  refine q_getf (pc' := 4) (v := .int (s45 117 7)) ja_Reader_fail_1 rfl (by decide) ⟨rfl, by decide⟩ rfl ?_
                  refine q_iconst (pc' := 5) ja_Reader_fail_4 rfl (-1) (by decide) ?_
                  refine q_ic_ne (pc' := 8) ja_Reader_fail_5 rfl ?_ ?_
                  · intro h55
                    refine q_aload_n (pc' := 17) ja_Reader_fail_16 rfl rfl ?_
                    refine q_bipush (pc' := 19) ja_Reader_fail_17 rfl 17 (by decide) ?_
                    refine q_putf (pc' := 22) ja_Reader_fail_19 rfl (by decide) rfl rfl rfl ?_
                    intro s47 e47
                    refine q_vret ja_Reader_fail_22 rfl ?_
                    show q_W _ _ _ _ 136 [some (.ref 117), some (.int (s31 118 (s31 117 2).toNatClampNeg))] [] s47
                    refine q_vret ja_Reader_readSign_136 rfl ?_
                    show q_W _ _ _ _ 127 [some (.ref 117)] [] s47
                    exact q_vret ja_Reader_goOn_127 rfl (k29 h36 h37 s31 e31 h38 h42 h46 h47 h52 h53 s45 e45 h54 h55 s47 e47)
                  · intro h56
                    refine q_aload_n (pc' := 9) ja_Reader_fail_8 rfl rfl ?_
                    refine q_aload_n (pc' := 10) ja_Reader_fail_9 rfl rfl ?_
                    refine q_getf (pc' := 13) (v := .int (s45 117 2)) ja_Reader_fail_10 rfl (by decide) ⟨rfl, by decide⟩ rfl ?_
                    refine q_putf (pc' := 16) ja_Reader_fail_13 rfl (by decide) rfl rfl rfl ?_
                    intro s48 e48
                    refine q_aload_n (pc' := 17) ja_Reader_fail_16 rfl rfl ?_
                    refine q_bipush (pc' := 19) ja_Reader_fail_17 rfl 17 (by decide) ?_
                    refine q_putf (pc' := 22) ja_Reader_fail_19 rfl (by decide) rfl rfl rfl ?_
                    intro s49 e49
                    refine q_vret ja_Reader_fail_22 rfl ?_
                    show q_W _ _ _ _ 136 [some (.ref 117), some (.int (s31 118 (s31 117 2).toNatClampNeg))] [] s49
                    refine q_vret ja_Reader_readSign_136 rfl ?_
                    show q_W _ _ _ _ 127 [some (.ref 117)] [] s49
                    exact q_vret ja_Reader_goOn_127 rfl (k30 h36 h37 s31 e31 h38 h42 h46 h47 h52 h53 s45 e45 h54 h56 s48 e48 s49 e49)
                · intro h57
                  refine q_iconst (pc' := 21) ja_Reader_isDigit_20 rfl 1 (by decide) ?_
                  refine q_goto ja_Reader_isDigit_21 ?_
                  refine q_iret ja_Reader_isDigit_25 rfl (by decide) ?_
                  show q_W _ _ _ _ 113 [some (.ref 117)] [.int 1] s31
                  refine q_if_eq (pc' := 116) ja_Reader_goOn_113 rfl (fun h => absurd h ((by decide : ¬ (1 : Int32) = 0))) (fun _ => ?_)
                  refine q_aload_n (pc' := 117) ja_Reader_goOn_116 rfl rfl ?_
                  refine q_virt (pc' := 120) (c := 117) (as := []) (r := []) ja_Reader_goOn_117 rfl rfl rfl (by decide) ⟨rfl, by decide⟩ ?_
                  exact (k31 h36 h37 s31 e31 h38 h42 h46 h47 h52 h57)
            · intro h58
              refine q_aload_n (pc' := 11) ja_Reader_isLetter_10 rfl rfl ?_
              refine q_iload_n (pc' := 12) ja_Reader_isLetter_11 rfl rfl ?_
              refine q_virt (pc' := 15) (c := 117) (as := [.int (s31 117 2)]) (r := []) ja_Reader_isLetter_12 rfl rfl rfl (by decide) ⟨rfl, by decide⟩ ?_
              refine q_in (M := jm_Reader_byteAt) rfl (Nat.le_of_ble_eq_true rfl) (ls := [some (.ref 117), some (.int (s31 117 2))]) rfl ?_
              refine q_iload_n (pc' := 1) ja_Reader_byteAt_0 rfl rfl ?_
              refine q_if_lt (pc' := 4) ja_Reader_byteAt_1 rfl (fun h => absurd h (h42)) (fun _ => ?_)
              refine q_iload_n (pc' := 5) ja_Reader_byteAt_4 rfl rfl ?_
              refine q_aload_n (pc' := 6) ja_Reader_byteAt_5 rfl rfl ?_
              refine q_getf (pc' := 9) (v := .int (s31 117 1)) ja_Reader_byteAt_6 rfl (by decide) ⟨rfl, by decide⟩ rfl ?_
              refine q_ic_ge (pc' := 12) ja_Reader_byteAt_9 rfl (fun h => absurd (h38) h) (fun _ => ?_)
              refine q_iload_n (pc' := 13) ja_Reader_byteAt_12 rfl rfl ?_
              refine q_aload_n (pc' := 14) ja_Reader_byteAt_13 rfl rfl ?_
              refine q_getf (pc' := 17) (v := .ref 118) ja_Reader_byteAt_14 rfl (by decide) ⟨rfl, by decide⟩ rfl ?_
              refine q_alen (pc' := 18) ja_Reader_byteAt_17 rfl (by decide) (kd := 13) (l := 200) rfl (by decide) (v := 200) (by decide) ?_
              refine q_ic_ge (pc' := 21) ja_Reader_byteAt_18 rfl (fun h => absurd (h46) h) (fun _ => ?_)
              refine q_aload_n (pc' := 22) ja_Reader_byteAt_21 rfl rfl ?_
              refine q_getf (pc' := 25) (v := .ref 118) ja_Reader_byteAt_22 rfl (by decide) ⟨rfl, by decide⟩ rfl ?_
              refine q_iload_n (pc' := 26) ja_Reader_byteAt_25 rfl rfl ?_
              refine q_iald (pc' := 27) (v := .int (s31 118 (s31 117 2).toNatClampNeg)) ja_Reader_byteAt_26 rfl (by decide) (l := 200) rfl (q_inr (l := 200) (by decide) h42 h46) rfl ?_
              refine q_goto ja_Reader_byteAt_27 ?_
              refine q_iret ja_Reader_byteAt_31 rfl rfl ?_
              show q_W _ _ _ _ 15 [some (.ref 117), some (.int (s31 117 2))] [.int (s31 118 (s31 117 2).toNatClampNeg)] s31
              refine q_bipush (pc' := 17) ja_Reader_isLetter_15 rfl 122 (by decide) ?_
              refine q_ic_gt (pc' := 20) ja_Reader_isLetter_17 rfl ?_ ?_
              · intro h59
                refine q_iconst (pc' := 25) ja_Reader_isLetter_24 rfl 0 (by decide) ?_
                refine q_iret ja_Reader_isLetter_25 rfl (by decide) ?_
                show q_W _ _ _ _ 95 [some (.ref 117)] [.int 0] s31
                refine q_if_eq (pc' := 98) ja_Reader_goOn_95 rfl (fun _ => ?_) (fun h => absurd ((by decide : (0 : Int32) = 0)) h)
                refine q_aload_n (pc' := 106) ja_Reader_goOn_105 rfl rfl ?_
                refine q_aload_n (pc' := 107) ja_Reader_goOn_106 rfl rfl ?_
                refine q_getf (pc' := 110) (v := .int (s31 117 2)) ja_Reader_goOn_107 rfl (by decide) ⟨rfl, by decide⟩ rfl ?_
                refine q_virt (pc' := 113) (c := 117) (as := [.int (s31 117 2)]) (r := []) ja_Reader_goOn_110 rfl rfl rfl (by decide) ⟨rfl, by decide⟩ ?_
                refine q_in (M := jm_Reader_isDigit) rfl (Nat.le_of_ble_eq_true rfl) (ls := [some (.ref 117), some (.int (s31 117 2))]) rfl ?_
                refine q_aload_n (pc' := 1) ja_Reader_isDigit_0 rfl rfl ?_
                refine q_iload_n (pc' := 2) ja_Reader_isDigit_1 rfl rfl ?_
                refine q_virt (pc' := 5) (c := 117) (as := [.int (s31 117 2)]) (r := []) ja_Reader_isDigit_2 rfl rfl rfl (by decide) ⟨rfl, by decide⟩ ?_
                refine q_in (M := jm_Reader_byteAt) rfl (Nat.le_of_ble_eq_true rfl) (ls := [some (.ref 117), some (.int (s31 117 2))]) rfl ?_
                refine q_iload_n (pc' := 1) ja_Reader_byteAt_0 rfl rfl ?_
                refine q_if_lt (pc' := 4) ja_Reader_byteAt_1 rfl (fun h => absurd h (h42)) (fun _ => ?_)
                refine q_iload_n (pc' := 5) ja_Reader_byteAt_4 rfl rfl ?_
                refine q_aload_n (pc' := 6) ja_Reader_byteAt_5 rfl rfl ?_
                refine q_getf (pc' := 9) (v := .int (s31 117 1)) ja_Reader_byteAt_6 rfl (by decide) ⟨rfl, by decide⟩ rfl ?_
                refine q_ic_ge (pc' := 12) ja_Reader_byteAt_9 rfl (fun h => absurd (h38) h) (fun _ => ?_)
                refine q_iload_n (pc' := 13) ja_Reader_byteAt_12 rfl rfl ?_
                refine q_aload_n (pc' := 14) ja_Reader_byteAt_13 rfl rfl ?_
                refine q_getf (pc' := 17) (v := .ref 118) ja_Reader_byteAt_14 rfl (by decide) ⟨rfl, by decide⟩ rfl ?_
                refine q_alen (pc' := 18) ja_Reader_byteAt_17 rfl (by decide) (kd := 13) (l := 200) rfl (by decide) (v := 200) (by decide) ?_
                refine q_ic_ge (pc' := 21) ja_Reader_byteAt_18 rfl (fun h => absurd (h46) h) (fun _ => ?_)
                refine q_aload_n (pc' := 22) ja_Reader_byteAt_21 rfl rfl ?_
                refine q_getf (pc' := 25) (v := .ref 118) ja_Reader_byteAt_22 rfl (by decide) ⟨rfl, by decide⟩ rfl ?_
                refine q_iload_n (pc' := 26) ja_Reader_byteAt_25 rfl rfl ?_
                refine q_iald (pc' := 27) (v := .int (s31 118 (s31 117 2).toNatClampNeg)) ja_Reader_byteAt_26 rfl (by decide) (l := 200) rfl (q_inr (l := 200) (by decide) h42 h46) rfl ?_
                refine q_goto ja_Reader_byteAt_27 ?_
                refine q_iret ja_Reader_byteAt_31 rfl rfl ?_
                show q_W _ _ _ _ 5 [some (.ref 117), some (.int (s31 117 2))] [.int (s31 118 (s31 117 2).toNatClampNeg)] s31
                refine q_bipush (pc' := 7) ja_Reader_isDigit_5 rfl 48 (by decide) ?_
                refine q_ic_lt (pc' := 10) ja_Reader_isDigit_7 rfl ?_ ?_
                · intro h60
                  refine q_iconst (pc' := 25) ja_Reader_isDigit_24 rfl 0 (by decide) ?_
                  refine q_iret ja_Reader_isDigit_25 rfl (by decide) ?_
                  show q_W _ _ _ _ 113 [some (.ref 117)] [.int 0] s31
                  refine q_if_eq (pc' := 116) ja_Reader_goOn_113 rfl (fun _ => ?_) (fun h => absurd ((by decide : (0 : Int32) = 0)) h)
                  refine q_aload_n (pc' := 124) ja_Reader_goOn_123 rfl rfl ?_
                  refine q_virt (pc' := 127) (c := 117) (as := []) (r := []) ja_Reader_goOn_124 rfl rfl rfl (by decide) ⟨rfl, by decide⟩ ?_
                  refine q_in (M := jm_Reader_readSign) rfl (Nat.le_of_ble_eq_true rfl) (ls := [some (.ref 117), none]) rfl ?_
                  refine q_aload_n (pc' := 1) ja_Reader_readSign_0 rfl rfl ?_
                  refine q_aload_n (pc' := 2) ja_Reader_readSign_1 rfl rfl ?_
                  refine q_getf (pc' := 5) (v := .int (s31 117 2)) ja_Reader_readSign_2 rfl (by decide) ⟨rfl, by decide⟩ rfl ?_
                  refine q_virt (pc' := 8) (c := 117) (as := [.int (s31 117 2)]) (r := []) ja_Reader_readSign_5 rfl rfl rfl (by decide) ⟨rfl, by decide⟩ ?_
                  refine q_in (M := jm_Reader_byteAt) rfl (Nat.le_of_ble_eq_true rfl) (ls := [some (.ref 117), some (.int (s31 117 2))]) rfl ?_
                  refine q_iload_n (pc' := 1) ja_Reader_byteAt_0 rfl rfl ?_
                  refine q_if_lt (pc' := 4) ja_Reader_byteAt_1 rfl (fun h => absurd h (h42)) (fun _ => ?_)
                  refine q_iload_n (pc' := 5) ja_Reader_byteAt_4 rfl rfl ?_
                  refine q_aload_n (pc' := 6) ja_Reader_byteAt_5 rfl rfl ?_
                  refine q_getf (pc' := 9) (v := .int (s31 117 1)) ja_Reader_byteAt_6 rfl (by decide) ⟨rfl, by decide⟩ rfl ?_
                  refine q_ic_ge (pc' := 12) ja_Reader_byteAt_9 rfl (fun h => absurd (h38) h) (fun _ => ?_)
                  refine q_iload_n (pc' := 13) ja_Reader_byteAt_12 rfl rfl ?_
                  refine q_aload_n (pc' := 14) ja_Reader_byteAt_13 rfl rfl ?_
                  refine q_getf (pc' := 17) (v := .ref 118) ja_Reader_byteAt_14 rfl (by decide) ⟨rfl, by decide⟩ rfl ?_
                  refine q_alen (pc' := 18) ja_Reader_byteAt_17 rfl (by decide) (kd := 13) (l := 200) rfl (by decide) (v := 200) (by decide) ?_
                  refine q_ic_ge (pc' := 21) ja_Reader_byteAt_18 rfl (fun h => absurd (h46) h) (fun _ => ?_)
                  refine q_aload_n (pc' := 22) ja_Reader_byteAt_21 rfl rfl ?_
                  refine q_getf (pc' := 25) (v := .ref 118) ja_Reader_byteAt_22 rfl (by decide) ⟨rfl, by decide⟩ rfl ?_
                  refine q_iload_n (pc' := 26) ja_Reader_byteAt_25 rfl rfl ?_
                  refine q_iald (pc' := 27) (v := .int (s31 118 (s31 117 2).toNatClampNeg)) ja_Reader_byteAt_26 rfl (by decide) (l := 200) rfl (q_inr (l := 200) (by decide) h42 h46) rfl ?_
                  refine q_goto ja_Reader_byteAt_27 ?_
                  refine q_iret ja_Reader_byteAt_31 rfl rfl ?_
                  show q_W _ _ _ _ 8 [some (.ref 117), none] [.int (s31 118 (s31 117 2).toNatClampNeg)] s31
                  refine q_istore_n (pc' := 9) (ls' := [some (.ref 117), some (.int (s31 118 (s31 117 2).toNatClampNeg))]) ja_Reader_readSign_8 rfl ⟨Nat.le_of_ble_eq_true rfl, rfl⟩ rfl ?_
                  refine q_aload_n (pc' := 10) ja_Reader_readSign_9 rfl rfl ?_
                  refine q_dup (pc' := 11) ja_Reader_readSign_10 rfl rfl ?_
                  refine q_getf (pc' := 14) (v := .int (s31 117 3)) ja_Reader_readSign_11 rfl (by decide) ⟨rfl, by decide⟩ rfl ?_
                  refine q_iconst (pc' := 15) ja_Reader_readSign_14 rfl 1 (by decide) ?_
                  refine q_iadd (pc' := 16) ja_Reader_readSign_15 rfl ?_
                  refine q_putf (pc' := 19) ja_Reader_readSign_16 rfl (by decide) rfl rfl rfl ?_
                  intro s50 e50
                  refine q_iload_n (pc' := 20) ja_Reader_readSign_19 rfl rfl ?_
                  by_cases h61 : ((s31 118 (s31 117 2).toNatClampNeg) = 40 ∨ (s31 118 (s31 117 2).toNatClampNeg) = 41 ∨ (s31 118 (s31 117 2).toNatClampNeg) = 42 ∨ (s31 118 (s31 117 2).toNatClampNeg) = 43 ∨ (s31 118 (s31 117 2).toNatClampNeg) = 45 ∨ (s31 118 (s31 117 2).toNatClampNeg) = 59 ∨ (s31 118 (s31 117 2).toNatClampNeg) = 60 ∨ (s31 118 (s31 117 2).toNatClampNeg) = 61)
                  · refine q_swE (pc' := 124) ja_Reader_readSign_20 (by rcases h61 with e | e | e | e | e | e | e | e <;> (rw [e]; decide)) (by rcases h61 with e | e | e | e | e | e | e | e <;> (rw [e]; exact ⟨_, rfl, rfl⟩)) ?_
                    refine q_aload_n (pc' := 125) ja_Reader_readSign_124 rfl rfl ?_
                    refine q_iload_n (pc' := 126) ja_Reader_readSign_125 rfl rfl ?_
                    refine q_putf (pc' := 129) ja_Reader_readSign_126 rfl (by decide) rfl rfl rfl ?_
                    intro s51 e51
                    refine q_goto ja_Reader_readSign_129 ?_
                    refine q_vret ja_Reader_readSign_136 rfl ?_
                    show q_W _ _ _ _ 127 [some (.ref 117)] [] s51
                    exact q_vret ja_Reader_goOn_127 rfl (k32 h36 h37 s31 e31 h38 h42 h46 h58 h59 h60 s50 e50 h61 s51 e51)
                  refine q_swD (pc' := 132) ja_Reader_readSign_20 [40, 41, 42, 43, 45, 59, 60, 61] (List.forall_mem_cons.mpr ⟨fun e => h61 (by rw [e]; decide), (List.forall_mem_cons.mpr ⟨fun e => h61 (by rw [e]; decide), (List.forall_mem_cons.mpr ⟨fun e => h61 (by rw [e]; decide), (List.forall_mem_cons.mpr ⟨fun e => h61 (by rw [e]; decide), (List.forall_mem_cons.mpr ⟨fun e => h61 (by rw [e]; decide), (List.forall_mem_cons.mpr ⟨fun e => h61 (by rw [e]; decide), (List.forall_mem_cons.mpr ⟨fun e => h61 (by rw [e]; decide), (List.forall_mem_cons.mpr ⟨fun e => h61 (by rw [e]; decide), (List.forall_mem_nil _)⟩)⟩)⟩)⟩)⟩)⟩)⟩)⟩) (by decide) rfl ?_
                  refine q_aload_n (pc' := 133) ja_Reader_readSign_132 rfl rfl ?_
                  refine q_virt (pc' := 136) (c := 117) (as := []) (r := []) ja_Reader_readSign_133 rfl rfl rfl (by decide) ⟨rfl, by decide⟩ ?_
                  refine q_in (M := jm_Reader_fail) rfl (Nat.le_of_ble_eq_true rfl) (ls := [some (.ref 117)]) rfl ?_
                  refine q_aload_n (pc' := 1) ja_Reader_fail_0 rfl rfl ?_
                  refine q_getf (pc' := 4) (v := .int (s50 117 7)) ja_Reader_fail_1 rfl (by decide) ⟨rfl, by decide⟩ rfl ?_
                  refine q_iconst (pc' := 5) ja_Reader_fail_4 rfl (-1) (by decide) ?_
                  refine q_ic_ne (pc' := 8) ja_Reader_fail_5 rfl ?_ ?_
                  · intro h62
                    refine q_aload_n (pc' := 17) ja_Reader_fail_16 rfl rfl ?_
                    refine q_bipush (pc' := 19) ja_Reader_fail_17 rfl 17 (by decide) ?_
                    refine q_putf (pc' := 22) ja_Reader_fail_19 rfl (by decide) rfl rfl rfl ?_
                    intro s52 e52
                    refine q_vret ja_Reader_fail_22 rfl ?_
                    show q_W _ _ _ _ 136 [some (.ref 117), some (.int (s31 118 (s31 117 2).toNatClampNeg))] [] s52
                    refine q_vret ja_Reader_readSign_136 rfl ?_
                    show q_W _ _ _ _ 127 [some (.ref 117)] [] s52
                    exact q_vret ja_Reader_goOn_127 rfl (k33 h36 h37 s31 e31 h38 h42 h46 h58 h59 h60 s50 e50 h61 h62 s52 e52)
                  · intro h63
                    refine q_aload_n (pc' := 9) ja_Reader_fail_8 rfl rfl ?_
                    refine q_aload_n (pc' := 10) ja_Reader_fail_9 rfl rfl ?_
                    refine q_getf (pc' := 13) (v := .int (s50 117 2)) ja_Reader_fail_10 rfl (by decide) ⟨rfl, by decide⟩ rfl ?_
                    refine q_putf (pc' := 16) ja_Reader_fail_13 rfl (by decide) rfl rfl rfl ?_
                    intro s53 e53
                    refine q_aload_n (pc' := 17) ja_Reader_fail_16 rfl rfl ?_
                    refine q_bipush (pc' := 19) ja_Reader_fail_17 rfl 17 (by decide) ?_
                    refine q_putf (pc' := 22) ja_Reader_fail_19 rfl (by decide) rfl rfl rfl ?_
                    intro s54 e54
                    refine q_vret ja_Reader_fail_22 rfl ?_
                    show q_W _ _ _ _ 136 [some (.ref 117), some (.int (s31 118 (s31 117 2).toNatClampNeg))] [] s54
                    refine q_vret ja_Reader_readSign_136 rfl ?_
                    show q_W _ _ _ _ 127 [some (.ref 117)] [] s54
                    exact q_vret ja_Reader_goOn_127 rfl (k34 h36 h37 s31 e31 h38 h42 h46 h58 h59 h60 s50 e50 h61 h63 s53 e53 s54 e54)
                · intro h64
                  refine q_aload_n (pc' := 11) ja_Reader_isDigit_10 rfl rfl ?_
                  refine q_iload_n (pc' := 12) ja_Reader_isDigit_11 rfl rfl ?_
                  refine q_virt (pc' := 15) (c := 117) (as := [.int (s31 117 2)]) (r := []) ja_Reader_isDigit_12 rfl rfl rfl (by decide) ⟨rfl, by decide⟩ ?_
                  refine q_in (M := jm_Reader_byteAt) rfl (Nat.le_of_ble_eq_true rfl) (ls := [some (.ref 117), some (.int (s31 117 2))]) rfl ?_
                  refine q_iload_n (pc' := 1) ja_Reader_byteAt_0 rfl rfl ?_
                  refine q_if_lt (pc' := 4) ja_Reader_byteAt_1 rfl (fun h => absurd h (h42)) (fun _ => ?_)
                  refine q_iload_n (pc' := 5) ja_Reader_byteAt_4 rfl rfl ?_
                  refine q_aload_n (pc' := 6) ja_Reader_byteAt_5 rfl rfl ?_
                  refine q_getf (pc' := 9) (v := .int (s31 117 1)) ja_Reader_byteAt_6 rfl (by decide) ⟨rfl, by decide⟩ rfl ?_
                  refine q_ic_ge (pc' := 12) ja_Reader_byteAt_9 rfl (fun h => absurd (h38) h) (fun _ => ?_)
                  refine q_iload_n (pc' := 13) ja_Reader_byteAt_12 rfl rfl ?_
                  refine q_aload_n (pc' := 14) ja_Reader_byteAt_13 rfl rfl ?_
                  refine q_getf (pc' := 17) (v := .ref 118) ja_Reader_byteAt_14 rfl (by decide) ⟨rfl, by decide⟩ rfl ?_
                  refine q_alen (pc' := 18) ja_Reader_byteAt_17 rfl (by decide) (kd := 13) (l := 200) rfl (by decide) (v := 200) (by decide) ?_
                  refine q_ic_ge (pc' := 21) ja_Reader_byteAt_18 rfl (fun h => absurd (h46) h) (fun _ => ?_)
                  refine q_aload_n (pc' := 22) ja_Reader_byteAt_21 rfl rfl ?_
                  refine q_getf (pc' := 25) (v := .ref 118) ja_Reader_byteAt_22 rfl (by decide) ⟨rfl, by decide⟩ rfl ?_
                  refine q_iload_n (pc' := 26) ja_Reader_byteAt_25 rfl rfl ?_
                  refine q_iald (pc' := 27) (v := .int (s31 118 (s31 117 2).toNatClampNeg)) ja_Reader_byteAt_26 rfl (by decide) (l := 200) rfl (q_inr (l := 200) (by decide) h42 h46) rfl ?_
                  refine q_goto ja_Reader_byteAt_27 ?_
                  refine q_iret ja_Reader_byteAt_31 rfl rfl ?_
                  show q_W _ _ _ _ 15 [some (.ref 117), some (.int (s31 117 2))] [.int (s31 118 (s31 117 2).toNatClampNeg)] s31
                  refine q_bipush (pc' := 17) ja_Reader_isDigit_15 rfl 57 (by decide) ?_
                  refine q_ic_gt (pc' := 20) ja_Reader_isDigit_17 rfl ?_ ?_
                  · intro h65
                    refine q_iconst (pc' := 25) ja_Reader_isDigit_24 rfl 0 (by decide) ?_
                    refine q_iret ja_Reader_isDigit_25 rfl (by decide) ?_
                    show q_W _ _ _ _ 113 [some (.ref 117)] [.int 0] s31
                    refine q_if_eq (pc' := 116) ja_Reader_goOn_113 rfl (fun _ => ?_) (fun h => absurd ((by decide : (0 : Int32) = 0)) h)
                    refine q_aload_n (pc' := 124) ja_Reader_goOn_123 rfl rfl ?_
                    refine q_virt (pc' := 127) (c := 117) (as := []) (r := []) ja_Reader_goOn_124 rfl rfl rfl (by decide) ⟨rfl, by decide⟩ ?_
                    refine q_in (M := jm_Reader_readSign) rfl (Nat.le_of_ble_eq_true rfl) (ls := [some (.ref 117), none]) rfl ?_
                    refine q_aload_n (pc' := 1) ja_Reader_readSign_0 rfl rfl ?_
                    refine q_aload_n (pc' := 2) ja_Reader_readSign_1 rfl rfl ?_
                    refine q_getf (pc' := 5) (v := .int (s31 117 2)) ja_Reader_readSign_2 rfl (by decide) ⟨rfl, by decide⟩ rfl ?_
                    refine q_virt (pc' := 8) (c := 117) (as := [.int (s31 117 2)]) (r := []) ja_Reader_readSign_5 rfl rfl rfl (by decide) ⟨rfl, by decide⟩ ?_
                    refine q_in (M := jm_Reader_byteAt) rfl (Nat.le_of_ble_eq_true rfl) (ls := [some (.ref 117), some (.int (s31 117 2))]) rfl ?_
                    refine q_iload_n (pc' := 1) ja_Reader_byteAt_0 rfl rfl ?_
                    refine q_if_lt (pc' := 4) ja_Reader_byteAt_1 rfl (fun h => absurd h (h42)) (fun _ => ?_)
                    refine q_iload_n (pc' := 5) ja_Reader_byteAt_4 rfl rfl ?_
                    refine q_aload_n (pc' := 6) ja_Reader_byteAt_5 rfl rfl ?_
                    refine q_getf (pc' := 9) (v := .int (s31 117 1)) ja_Reader_byteAt_6 rfl (by decide) ⟨rfl, by decide⟩ rfl ?_
                    refine q_ic_ge (pc' := 12) ja_Reader_byteAt_9 rfl (fun h => absurd (h38) h) (fun _ => ?_)
                    refine q_iload_n (pc' := 13) ja_Reader_byteAt_12 rfl rfl ?_
                    refine q_aload_n (pc' := 14) ja_Reader_byteAt_13 rfl rfl ?_
                    refine q_getf (pc' := 17) (v := .ref 118) ja_Reader_byteAt_14 rfl (by decide) ⟨rfl, by decide⟩ rfl ?_
                    refine q_alen (pc' := 18) ja_Reader_byteAt_17 rfl (by decide) (kd := 13) (l := 200) rfl (by decide) (v := 200) (by decide) ?_
                    refine q_ic_ge (pc' := 21) ja_Reader_byteAt_18 rfl (fun h => absurd (h46) h) (fun _ => ?_)
                    refine q_aload_n (pc' := 22) ja_Reader_byteAt_21 rfl rfl ?_
                    refine q_getf (pc' := 25) (v := .ref 118) ja_Reader_byteAt_22 rfl (by decide) ⟨rfl, by decide⟩ rfl ?_
                    refine q_iload_n (pc' := 26) ja_Reader_byteAt_25 rfl rfl ?_
                    refine q_iald (pc' := 27) (v := .int (s31 118 (s31 117 2).toNatClampNeg)) ja_Reader_byteAt_26 rfl (by decide) (l := 200) rfl (q_inr (l := 200) (by decide) h42 h46) rfl ?_
                    refine q_goto ja_Reader_byteAt_27 ?_
                    refine q_iret ja_Reader_byteAt_31 rfl rfl ?_
                    show q_W _ _ _ _ 8 [some (.ref 117), none] [.int (s31 118 (s31 117 2).toNatClampNeg)] s31
                    refine q_istore_n (pc' := 9) (ls' := [some (.ref 117), some (.int (s31 118 (s31 117 2).toNatClampNeg))]) ja_Reader_readSign_8 rfl ⟨Nat.le_of_ble_eq_true rfl, rfl⟩ rfl ?_
                    refine q_aload_n (pc' := 10) ja_Reader_readSign_9 rfl rfl ?_
                    refine q_dup (pc' := 11) ja_Reader_readSign_10 rfl rfl ?_
                    refine q_getf (pc' := 14) (v := .int (s31 117 3)) ja_Reader_readSign_11 rfl (by decide) ⟨rfl, by decide⟩ rfl ?_
                    refine q_iconst (pc' := 15) ja_Reader_readSign_14 rfl 1 (by decide) ?_
                    refine q_iadd (pc' := 16) ja_Reader_readSign_15 rfl ?_
                    refine q_putf (pc' := 19) ja_Reader_readSign_16 rfl (by decide) rfl rfl rfl ?_
                    intro s55 e55
                    refine q_iload_n (pc' := 20) ja_Reader_readSign_19 rfl rfl ?_
                    by_cases h66 : ((s31 118 (s31 117 2).toNatClampNeg) = 40 ∨ (s31 118 (s31 117 2).toNatClampNeg) = 41 ∨ (s31 118 (s31 117 2).toNatClampNeg) = 42 ∨ (s31 118 (s31 117 2).toNatClampNeg) = 43 ∨ (s31 118 (s31 117 2).toNatClampNeg) = 45 ∨ (s31 118 (s31 117 2).toNatClampNeg) = 59 ∨ (s31 118 (s31 117 2).toNatClampNeg) = 60 ∨ (s31 118 (s31 117 2).toNatClampNeg) = 61)
                    · refine q_swE (pc' := 124) ja_Reader_readSign_20 (by rcases h66 with e | e | e | e | e | e | e | e <;> (rw [e]; decide)) (by rcases h66 with e | e | e | e | e | e | e | e <;> (rw [e]; exact ⟨_, rfl, rfl⟩)) ?_
                      refine q_aload_n (pc' := 125) ja_Reader_readSign_124 rfl rfl ?_
                      refine q_iload_n (pc' := 126) ja_Reader_readSign_125 rfl rfl ?_
                      refine q_putf (pc' := 129) ja_Reader_readSign_126 rfl (by decide) rfl rfl rfl ?_
                      intro s56 e56
                      refine q_goto ja_Reader_readSign_129 ?_
                      refine q_vret ja_Reader_readSign_136 rfl ?_
                      show q_W _ _ _ _ 127 [some (.ref 117)] [] s56
                      exact q_vret ja_Reader_goOn_127 rfl (k35 h36 h37 s31 e31 h38 h42 h46 h58 h59 h64 h65 s55 e55 h66 s56 e56)
                    refine q_swD (pc' := 132) ja_Reader_readSign_20 [40, 41, 42, 43, 45, 59, 60, 61] (List.forall_mem_cons.mpr ⟨fun e => h66 (by rw [e]; decide), (List.forall_mem_cons.mpr ⟨fun e => h66 (by rw [e]; decide), (List.forall_mem_cons.mpr ⟨fun e => h66 (by rw [e]; decide), (List.forall_mem_cons.mpr ⟨fun e => h66 (by rw [e]; decide), (List.forall_mem_cons.mpr ⟨fun e => h66 (by rw [e]; decide), (List.forall_mem_cons.mpr ⟨fun e => h66 (by rw [e]; decide), (List.forall_mem_cons.mpr ⟨fun e => h66 (by rw [e]; decide), (List.forall_mem_cons.mpr ⟨fun e => h66 (by rw [e]; decide), (List.forall_mem_nil _)⟩)⟩)⟩)⟩)⟩)⟩)⟩)⟩) (by decide) rfl ?_
                    refine q_aload_n (pc' := 133) ja_Reader_readSign_132 rfl rfl ?_
                    refine q_virt (pc' := 136) (c := 117) (as := []) (r := []) ja_Reader_readSign_133 rfl rfl rfl (by decide) ⟨rfl, by decide⟩ ?_
                    refine q_in (M := jm_Reader_fail) rfl (Nat.le_of_ble_eq_true rfl) (ls := [some (.ref 117)]) rfl ?_
                    refine q_aload_n (pc' := 1) ja_Reader_fail_0 rfl rfl ?_
                    refine q_getf (pc' := 4) (v := .int (s55 117 7)) ja_Reader_fail_1 rfl (by decide) ⟨rfl, by decide⟩ rfl ?_
                    refine q_iconst (pc' := 5) ja_Reader_fail_4 rfl (-1) (by decide) ?_
                    refine q_ic_ne (pc' := 8) ja_Reader_fail_5 rfl ?_ ?_
                    · intro h67
                      refine q_aload_n (pc' := 17) ja_Reader_fail_16 rfl rfl ?_
                      refine q_bipush (pc' := 19) ja_Reader_fail_17 rfl 17 (by decide) ?_
                      refine q_putf (pc' := 22) ja_Reader_fail_19 rfl (by decide) rfl rfl rfl ?_
                      intro s57 e57
                      refine q_vret ja_Reader_fail_22 rfl ?_
                      show q_W _ _ _ _ 136 [some (.ref 117), some (.int (s31 118 (s31 117 2).toNatClampNeg))] [] s57
                      refine q_vret ja_Reader_readSign_136 rfl ?_
                      show q_W _ _ _ _ 127 [some (.ref 117)] [] s57
                      exact q_vret ja_Reader_goOn_127 rfl (k36 h36 h37 s31 e31 h38 h42 h46 h58 h59 h64 h65 s55 e55 h66 h67 s57 e57)
                    · intro h68
                      refine q_aload_n (pc' := 9) ja_Reader_fail_8 rfl rfl ?_
                      refine q_aload_n (pc' := 10) ja_Reader_fail_9 rfl rfl ?_
                      refine q_getf (pc' := 13) (v := .int (s55 117 2)) ja_Reader_fail_10 rfl (by decide) ⟨rfl, by decide⟩ rfl ?_
                      refine q_putf (pc' := 16) ja_Reader_fail_13 rfl (by decide) rfl rfl rfl ?_
                      intro s58 e58
                      refine q_aload_n (pc' := 17) ja_Reader_fail_16 rfl rfl ?_
                      refine q_bipush (pc' := 19) ja_Reader_fail_17 rfl 17 (by decide) ?_
                      refine q_putf (pc' := 22) ja_Reader_fail_19 rfl (by decide) rfl rfl rfl ?_
                      intro s59 e59
                      refine q_vret ja_Reader_fail_22 rfl ?_
                      show q_W _ _ _ _ 136 [some (.ref 117), some (.int (s31 118 (s31 117 2).toNatClampNeg))] [] s59
                      refine q_vret ja_Reader_readSign_136 rfl ?_
                      show q_W _ _ _ _ 127 [some (.ref 117)] [] s59
                      exact q_vret ja_Reader_goOn_127 rfl (k37 h36 h37 s31 e31 h38 h42 h46 h58 h59 h64 h65 s55 e55 h66 h68 s58 e58 s59 e59)
                  · intro h69
                    refine q_iconst (pc' := 21) ja_Reader_isDigit_20 rfl 1 (by decide) ?_
                    refine q_goto ja_Reader_isDigit_21 ?_
                    refine q_iret ja_Reader_isDigit_25 rfl (by decide) ?_
                    show q_W _ _ _ _ 113 [some (.ref 117)] [.int 1] s31
                    refine q_if_eq (pc' := 116) ja_Reader_goOn_113 rfl (fun h => absurd h ((by decide : ¬ (1 : Int32) = 0))) (fun _ => ?_)
                    refine q_aload_n (pc' := 117) ja_Reader_goOn_116 rfl rfl ?_
                    refine q_virt (pc' := 120) (c := 117) (as := []) (r := []) ja_Reader_goOn_117 rfl rfl rfl (by decide) ⟨rfl, by decide⟩ ?_
                    exact (k38 h36 h37 s31 e31 h38 h42 h46 h58 h59 h64 h69)
              · intro h70
                refine q_iconst (pc' := 21) ja_Reader_isLetter_20 rfl 1 (by decide) ?_
                refine q_goto ja_Reader_isLetter_21 ?_
                refine q_iret ja_Reader_isLetter_25 rfl (by decide) ?_
                show q_W _ _ _ _ 95 [some (.ref 117)] [.int 1] s31
                refine q_if_eq (pc' := 98) ja_Reader_goOn_95 rfl (fun h => absurd h ((by decide : ¬ (1 : Int32) = 0))) (fun _ => ?_)
                refine q_aload_n (pc' := 99) ja_Reader_goOn_98 rfl rfl ?_
                refine q_virt (pc' := 102) (c := 117) (as := []) (r := []) ja_Reader_goOn_99 rfl rfl rfl (by decide) ⟨rfl, by decide⟩ ?_
                exact (k39 h36 h37 s31 e31 h38 h42 h46 h58 h70)
      · intro h71
        refine q_aload_n (pc' := 79) ja_Reader_goOn_78 rfl rfl ?_
        refine q_bipush (pc' := 81) ja_Reader_goOn_79 rfl 16 (by decide) ?_
        refine q_putf (pc' := 84) ja_Reader_goOn_81 rfl (by decide) rfl rfl rfl ?_
        intro s60 e60
        refine q_goto ja_Reader_goOn_84 ?_
        exact q_vret ja_Reader_goOn_127 rfl (k40 h36 h37 s31 e31 h71 s60 e60)
    · intro h72
      refine q_iload_n (pc' := 5) ja_Reader_byteAt_4 rfl rfl ?_
      refine q_aload_n (pc' := 6) ja_Reader_byteAt_5 rfl rfl ?_
      refine q_getf (pc' := 9) (v := .int (s 117 1)) ja_Reader_byteAt_6 rfl (by decide) ⟨rfl, by decide⟩ rfl ?_
      refine q_ic_ge (pc' := 12) ja_Reader_byteAt_9 rfl (fun h => absurd (h36) h) (fun _ => ?_)
      refine q_iload_n (pc' := 13) ja_Reader_byteAt_12 rfl rfl ?_
      refine q_aload_n (pc' := 14) ja_Reader_byteAt_13 rfl rfl ?_
      refine q_getf (pc' := 17) (v := .ref 118) ja_Reader_byteAt_14 rfl (by decide) ⟨rfl, by decide⟩ rfl ?_
      refine q_alen (pc' := 18) ja_Reader_byteAt_17 rfl (by decide) (kd := 13) (l := 200) rfl (by decide) (v := 200) (by decide) ?_
      refine q_ic_ge (pc' := 21) ja_Reader_byteAt_18 rfl ?_ ?_
      · intro h73
        refine q_iconst (pc' := 31) ja_Reader_byteAt_30 rfl 0 (by decide) ?_
        refine q_iret ja_Reader_byteAt_31 rfl rfl ?_
        show q_W _ _ _ _ 28 [some (.ref 117)] [.int 0] s
        refine q_bipush (pc' := 30) ja_Reader_goOn_28 rfl 32 (by decide) ?_
        refine q_ic_eq (pc' := 33) ja_Reader_goOn_30 rfl (fun h => absurd h ((by decide : ¬ (0 : Int32) = 32))) (fun _ => ?_)
        refine q_aload_n (pc' := 34) ja_Reader_goOn_33 rfl rfl ?_
        refine q_aload_n (pc' := 35) ja_Reader_goOn_34 rfl rfl ?_
        refine q_getf (pc' := 38) (v := .int (s 117 3)) ja_Reader_goOn_35 rfl (by decide) ⟨rfl, by decide⟩ rfl ?_
        refine q_virt (pc' := 41) (c := 117) (as := [.int (s 117 3)]) (r := []) ja_Reader_goOn_38 rfl rfl rfl (by decide) ⟨rfl, by decide⟩ ?_
        refine q_in (M := jm_Reader_byteAt) rfl (Nat.le_of_ble_eq_true rfl) (ls := [some (.ref 117), some (.int (s 117 3))]) rfl ?_
        refine q_iload_n (pc' := 1) ja_Reader_byteAt_0 rfl rfl ?_
        refine q_if_lt (pc' := 4) ja_Reader_byteAt_1 rfl (fun h => absurd h (h72)) (fun _ => ?_)
        refine q_iload_n (pc' := 5) ja_Reader_byteAt_4 rfl rfl ?_
        refine q_aload_n (pc' := 6) ja_Reader_byteAt_5 rfl rfl ?_
        refine q_getf (pc' := 9) (v := .int (s 117 1)) ja_Reader_byteAt_6 rfl (by decide) ⟨rfl, by decide⟩ rfl ?_
        refine q_ic_ge (pc' := 12) ja_Reader_byteAt_9 rfl (fun h => absurd (h36) h) (fun _ => ?_)
        refine q_iload_n (pc' := 13) ja_Reader_byteAt_12 rfl rfl ?_
        refine q_aload_n (pc' := 14) ja_Reader_byteAt_13 rfl rfl ?_
        refine q_getf (pc' := 17) (v := .ref 118) ja_Reader_byteAt_14 rfl (by decide) ⟨rfl, by decide⟩ rfl ?_
        refine q_alen (pc' := 18) ja_Reader_byteAt_17 rfl (by decide) (kd := 13) (l := 200) rfl (by decide) (v := 200) (by decide) ?_
        refine q_ic_ge (pc' := 21) ja_Reader_byteAt_18 rfl (fun _ => ?_) (fun h => absurd h (h73))
        refine q_iconst (pc' := 31) ja_Reader_byteAt_30 rfl 0 (by decide) ?_
        refine q_iret ja_Reader_byteAt_31 rfl rfl ?_
        show q_W _ _ _ _ 41 [some (.ref 117)] [.int 0] s
        refine q_bipush (pc' := 43) ja_Reader_goOn_41 rfl 10 (by decide) ?_
        refine q_ic_ne (pc' := 46) ja_Reader_goOn_43 rfl (fun _ => ?_) (fun h => absurd h ((by decide : ¬ (0 : Int32) = 10)))
        refine q_aload_n (pc' := 60) ja_Reader_goOn_59 rfl rfl ?_
        refine q_aload_n (pc' := 61) ja_Reader_goOn_60 rfl rfl ?_
        refine q_getf (pc' := 64) (v := .int (s 117 3)) ja_Reader_goOn_61 rfl (by decide) ⟨rfl, by decide⟩ rfl ?_
        refine q_putf (pc' := 67) ja_Reader_goOn_64 rfl (by decide) rfl rfl rfl ?_
        intro s61 e61
        refine q_aload_n (pc' := 68) ja_Reader_goOn_67 rfl rfl ?_
        refine q_getf (pc' := 71) (v := .int (s61 117 2)) ja_Reader_goOn_68 rfl (by decide) ⟨rfl, by decide⟩ rfl ?_
        refine q_aload_n (pc' := 72) ja_Reader_goOn_71 rfl rfl ?_
        refine q_getf (pc' := 75) (v := .int (s61 117 1)) ja_Reader_goOn_72 rfl (by decide) ⟨rfl, by decide⟩ rfl ?_
        refine q_ic_lt (pc' := 78) ja_Reader_goOn_75 rfl ?_ ?_
        · intro h74
          refine q_aload_n (pc' := 88) ja_Reader_goOn_87 rfl rfl ?_
          refine q_aload_n (pc' := 89) ja_Reader_goOn_88 rfl rfl ?_
          refine q_getf (pc' := 92) (v := .int (s61 117 2)) ja_Reader_goOn_89 rfl (by decide) ⟨rfl, by decide⟩ rfl ?_
          refine q_virt (pc' := 95) (c := 117) (as := [.int (s61 117 2)]) (r := []) ja_Reader_goOn_92 rfl rfl rfl (by decide) ⟨rfl, by decide⟩ ?_
          refine q_in (M := jm_Reader_isLetter) rfl (Nat.le_of_ble_eq_true rfl) (ls := [some (.ref 117), some (.int (s61 117 2))]) rfl ?_
          refine q_aload_n (pc' := 1) ja_Reader_isLetter_0 rfl rfl ?_
          refine q_iload_n (pc' := 2) ja_Reader_isLetter_1 rfl rfl ?_
          refine q_virt (pc' := 5) (c := 117) (as := [.int (s61 117 2)]) (r := []) ja_Reader_isLetter_2 rfl rfl rfl (by decide) ⟨rfl, by decide⟩ ?_
          refine q_in (M := jm_Reader_byteAt) rfl (Nat.le_of_ble_eq_true rfl) (ls := [some (.ref 117), some (.int (s61 117 2))]) rfl ?_
          refine q_iload_n (pc' := 1) ja_Reader_byteAt_0 rfl rfl ?_
          refine q_if_lt (pc' := 4) ja_Reader_byteAt_1 rfl ?_ ?_
          · intro h75
            refine q_iconst (pc' := 31) ja_Reader_byteAt_30 rfl 0 (by decide) ?_
            refine q_iret ja_Reader_byteAt_31 rfl rfl ?_
            show q_W _ _ _ _ 5 [some (.ref 117), some (.int (s61 117 2))] [.int 0] s61
            refine q_bipush (pc' := 7) ja_Reader_isLetter_5 rfl 97 (by decide) ?_
            refine q_ic_lt (pc' := 10) ja_Reader_isLetter_7 rfl (fun _ => ?_) (fun h => absurd ((by decide : (0 : Int32) < 97)) h)
            refine q_iconst (pc' := 25) ja_Reader_isLetter_24 rfl 0 (by decide) ?_
            refine q_iret ja_Reader_isLetter_25 rfl (by decide) ?_
            show q_W _ _ _ _ 95 [some (.ref 117)] [.int 0] s61
            refine q_if_eq (pc' := 98) ja_Reader_goOn_95 rfl (fun _ => ?_) (fun h => absurd ((by decide : (0 : Int32) = 0)) h)
            refine q_aload_n (pc' := 106) ja_Reader_goOn_105 rfl rfl ?_
            refine q_aload_n (pc' := 107) ja_Reader_goOn_106 rfl rfl ?_
            refine q_getf (pc' := 110) (v := .int (s61 117 2)) ja_Reader_goOn_107 rfl (by decide) ⟨rfl, by decide⟩ rfl ?_
            refine q_virt (pc' := 113) (c := 117) (as := [.int (s61 117 2)]) (r := []) ja_Reader_goOn_110 rfl rfl rfl (by decide) ⟨rfl, by decide⟩ ?_
            refine q_in (M := jm_Reader_isDigit) rfl (Nat.le_of_ble_eq_true rfl) (ls := [some (.ref 117), some (.int (s61 117 2))]) rfl ?_
            refine q_aload_n (pc' := 1) ja_Reader_isDigit_0 rfl rfl ?_
            refine q_iload_n (pc' := 2) ja_Reader_isDigit_1 rfl rfl ?_
            refine q_virt (pc' := 5) (c := 117) (as := [.int (s61 117 2)]) (r := []) ja_Reader_isDigit_2 rfl rfl rfl (by decide) ⟨rfl, by decide⟩ ?_
            refine q_in (M := jm_Reader_byteAt) rfl (Nat.le_of_ble_eq_true rfl) (ls := [some (.ref 117), some (.int (s61 117 2))]) rfl ?_
            refine q_iload_n (pc' := 1) ja_Reader_byteAt_0 rfl rfl ?_
            refine q_if_lt (pc' := 4) ja_Reader_byteAt_1 rfl (fun _ => ?_) (fun h => absurd (h75) h)
            refine q_iconst (pc' := 31) ja_Reader_byteAt_30 rfl 0 (by decide) ?_
            refine q_iret ja_Reader_byteAt_31 rfl rfl ?_
            show q_W _ _ _ _ 5 [some (.ref 117), some (.int (s61 117 2))] [.int 0] s61
            refine q_bipush (pc' := 7) ja_Reader_isDigit_5 rfl 48 (by decide) ?_
            refine q_ic_lt (pc' := 10) ja_Reader_isDigit_7 rfl (fun _ => ?_) (fun h => absurd ((by decide : (0 : Int32) < 48)) h)
            refine q_iconst (pc' := 25) ja_Reader_isDigit_24 rfl 0 (by decide) ?_
            refine q_iret ja_Reader_isDigit_25 rfl (by decide) ?_
            show q_W _ _ _ _ 113 [some (.ref 117)] [.int 0] s61
            refine q_if_eq (pc' := 116) ja_Reader_goOn_113 rfl (fun _ => ?_) (fun h => absurd ((by decide : (0 : Int32) = 0)) h)
            refine q_aload_n (pc' := 124) ja_Reader_goOn_123 rfl rfl ?_
            refine q_virt (pc' := 127) (c := 117) (as := []) (r := []) ja_Reader_goOn_124 rfl rfl rfl (by decide) ⟨rfl, by decide⟩ ?_
            refine q_in (M := jm_Reader_readSign) rfl (Nat.le_of_ble_eq_true rfl) (ls := [some (.ref 117), none]) rfl ?_
            refine q_aload_n (pc' := 1) ja_Reader_readSign_0 rfl rfl ?_
            refine q_aload_n (pc' := 2) ja_Reader_readSign_1 rfl rfl ?_
            refine q_getf (pc' := 5) (v := .int (s61 117 2)) ja_Reader_readSign_2 rfl (by decide) ⟨rfl, by decide⟩ rfl ?_
            refine q_virt (pc' := 8) (c := 117) (as := [.int (s61 117 2)]) (r := []) ja_Reader_readSign_5 rfl rfl rfl (by decide) ⟨rfl, by decide⟩ ?_
            refine q_in (M := jm_Reader_byteAt) rfl (Nat.le_of_ble_eq_true rfl) (ls := [some (.ref 117), some (.int (s61 117 2))]) rfl ?_
            refine q_iload_n (pc' := 1) ja_Reader_byteAt_0 rfl rfl ?_
            refine q_if_lt (pc' := 4) ja_Reader_byteAt_1 rfl (fun _ => ?_) (fun h => absurd (h75) h)
            refine q_iconst (pc' := 31) ja_Reader_byteAt_30 rfl 0 (by decide) ?_
            refine q_iret ja_Reader_byteAt_31 rfl rfl ?_
            show q_W _ _ _ _ 8 [some (.ref 117), none] [.int 0] s61
            refine q_istore_n (pc' := 9) (ls' := [some (.ref 117), some (.int 0)]) ja_Reader_readSign_8 rfl ⟨Nat.le_of_ble_eq_true rfl, rfl⟩ rfl ?_
            refine q_aload_n (pc' := 10) ja_Reader_readSign_9 rfl rfl ?_
            refine q_dup (pc' := 11) ja_Reader_readSign_10 rfl rfl ?_
            refine q_getf (pc' := 14) (v := .int (s61 117 3)) ja_Reader_readSign_11 rfl (by decide) ⟨rfl, by decide⟩ rfl ?_
            refine q_iconst (pc' := 15) ja_Reader_readSign_14 rfl 1 (by decide) ?_
            refine q_iadd (pc' := 16) ja_Reader_readSign_15 rfl ?_
            refine q_putf (pc' := 19) ja_Reader_readSign_16 rfl (by decide) rfl rfl rfl ?_
            intro s62 e62
            refine q_iload_n (pc' := 20) ja_Reader_readSign_19 rfl rfl ?_
            refine q_swOut (pc' := 132) ja_Reader_readSign_20 (by decide) (by decide) ?_
            refine q_aload_n (pc' := 133) ja_Reader_readSign_132 rfl rfl ?_
            refine q_virt (pc' := 136) (c := 117) (as := []) (r := []) ja_Reader_readSign_133 rfl rfl rfl (by decide) ⟨rfl, by decide⟩ ?_
            refine q_in (M := jm_Reader_fail) rfl (Nat.le_of_ble_eq_true rfl) (ls := [some (.ref 117)]) rfl ?_
            refine q_aload_n (pc' := 1) ja_Reader_fail_0 rfl rfl ?_
            refine q_getf (pc' := 4) (v := .int (s62 117 7)) ja_Reader_fail_1 rfl (by decide) ⟨rfl, by decide⟩ rfl ?_
            refine q_iconst (pc' := 5) ja_Reader_fail_4 rfl (-1) (by decide) ?_
            refine q_ic_ne (pc' := 8) ja_Reader_fail_5 rfl ?_ ?_
            · intro h76
              refine q_aload_n (pc' := 17) ja_Reader_fail_16 rfl rfl ?_
              refine q_bipush (pc' := 19) ja_Reader_fail_17 rfl 17 (by decide) ?_
              refine q_putf (pc' := 22) ja_Reader_fail_19 rfl (by decide) rfl rfl rfl ?_
              intro s63 e63
              refine q_vret ja_Reader_fail_22 rfl ?_
              show q_W _ _ _ _ 136 [some (.ref 117), some (.int 0)] [] s63
              refine q_vret ja_Reader_readSign_136 rfl ?_
              show q_W _ _ _ _ 127 [some (.ref 117)] [] s63
              exact q_vret ja_Reader_goOn_127 rfl (k41 h36 h72 h73 s61 e61 h74 h75 s62 e62 h76 s63 e63)
            · intro h77
              refine q_aload_n (pc' := 9) ja_Reader_fail_8 rfl rfl ?_
              refine q_aload_n (pc' := 10) ja_Reader_fail_9 rfl rfl ?_
              refine q_getf (pc' := 13) (v := .int (s62 117 2)) ja_Reader_fail_10 rfl (by decide) ⟨rfl, by decide⟩ rfl ?_
              refine q_putf (pc' := 16) ja_Reader_fail_13 rfl (by decide) rfl rfl rfl ?_
              intro s64 e64
              refine q_aload_n (pc' := 17) ja_Reader_fail_16 rfl rfl ?_
              refine q_bipush (pc' := 19) ja_Reader_fail_17 rfl 17 (by decide) ?_
              refine q_putf (pc' := 22) ja_Reader_fail_19 rfl (by decide) rfl rfl rfl ?_
              intro s65 e65
              refine q_vret ja_Reader_fail_22 rfl ?_
              show q_W _ _ _ _ 136 [some (.ref 117), some (.int 0)] [] s65
              refine q_vret ja_Reader_readSign_136 rfl ?_
              show q_W _ _ _ _ 127 [some (.ref 117)] [] s65
              exact q_vret ja_Reader_goOn_127 rfl (k42 h36 h72 h73 s61 e61 h74 h75 s62 e62 h77 s64 e64 s65 e65)
          · intro h78
            refine q_iload_n (pc' := 5) ja_Reader_byteAt_4 rfl rfl ?_
            refine q_aload_n (pc' := 6) ja_Reader_byteAt_5 rfl rfl ?_
            refine q_getf (pc' := 9) (v := .int (s61 117 1)) ja_Reader_byteAt_6 rfl (by decide) ⟨rfl, by decide⟩ rfl ?_
            refine q_ic_ge (pc' := 12) ja_Reader_byteAt_9 rfl (fun h => absurd (h74) h) (fun _ => ?_)
            refine q_iload_n (pc' := 13) ja_Reader_byteAt_12 rfl rfl ?_
            refine q_aload_n (pc' := 14) ja_Reader_byteAt_13 rfl rfl ?_
            refine q_getf (pc' := 17) (v := .ref 118) ja_Reader_byteAt_14 rfl (by decide) ⟨rfl, by decide⟩ rfl ?_
            refine q_alen (pc' := 18) ja_Reader_byteAt_17 rfl (by decide) (kd := 13) (l := 200) rfl (by decide) (v := 200) (by decide) ?_
            refine q_ic_ge (pc' := 21) ja_Reader_byteAt_18 rfl ?_ ?_
            · intro h79
              refine q_iconst (pc' := 31) ja_Reader_byteAt_30 rfl 0 (by decide) ?_
              refine q_iret ja_Reader_byteAt_31 rfl rfl ?_
              show q_W _ _ _ _ 5 [some (.ref 117), some (.int (s61 117 2))] [.int 0] s61
              refine q_bipush (pc' := 7) ja_Reader_isLetter_5 rfl 97 (by decide) ?_
              refine q_ic_lt (pc' := 10) ja_Reader_isLetter_7 rfl (fun _ => ?_) (fun h => absurd ((by decide : (0 : Int32) < 97)) h)
              refine q_iconst (pc' := 25) ja_Reader_isLetter_24 rfl 0 (by decide) ?_
              refine q_iret ja_Reader_isLetter_25 rfl (by decide) ?_
              show q_W _ _ _ _ 95 [some (.ref 117)] [.int 0] s61
              refine q_if_eq (pc' := 98) ja_Reader_goOn_95 rfl (fun _ => ?_) (fun h => absurd ((by decide : (0 : Int32) = 0)) h)
              refine q_aload_n (pc' := 106) ja_Reader_goOn_105 rfl rfl ?_
              refine q_aload_n (pc' := 107) ja_Reader_goOn_106 rfl rfl ?_
              refine q_getf (pc' := 110) (v := .int (s61 117 2)) ja_Reader_goOn_107 rfl (by decide) ⟨rfl, by decide⟩ rfl ?_
              refine q_virt (pc' := 113) (c := 117) (as := [.int (s61 117 2)]) (r := []) ja_Reader_goOn_110 rfl rfl rfl (by decide) ⟨rfl, by decide⟩ ?_
              refine q_in (M := jm_Reader_isDigit) rfl (Nat.le_of_ble_eq_true rfl) (ls := [some (.ref 117), some (.int (s61 117 2))]) rfl ?_
              refine q_aload_n (pc' := 1) ja_Reader_isDigit_0 rfl rfl ?_
              refine q_iload_n (pc' := 2) ja_Reader_isDigit_1 rfl rfl ?_
              refine q_virt (pc' := 5) (c := 117) (as := [.int (s61 117 2)]) (r := []) ja_Reader_isDigit_2 rfl rfl rfl (by decide) ⟨rfl, by decide⟩ ?_
              refine q_in (M := jm_Reader_byteAt) rfl (Nat.le_of_ble_eq_true rfl) (ls := [some (.ref 117), some (.int (s61 117 2))]) rfl ?_
              refine q_iload_n (pc' := 1) ja_Reader_byteAt_0 rfl rfl ?_
              refine q_if_lt (pc' := 4) ja_Reader_byteAt_1 rfl (fun h => absurd h (h78)) (fun _ => ?_)
              refine q_iload_n (pc' := 5) ja_Reader_byteAt_4 rfl rfl ?_
              refine q_aload_n (pc' := 6) ja_Reader_byteAt_5 rfl rfl ?_
              refine q_getf (pc' := 9) (v := .int (s61 117 1)) ja_Reader_byteAt_6 rfl (by decide) ⟨rfl, by decide⟩ rfl ?_
              refine q_ic_ge (pc' := 12) ja_Reader_byteAt_9 rfl (fun h => absurd (h74) h) (fun _ => ?_)
              refine q_iload_n (pc' := 13) ja_Reader_byteAt_12 rfl rfl ?_
              refine q_aload_n (pc' := 14) ja_Reader_byteAt_13 rfl rfl ?_
              refine q_getf (pc' := 17) (v := .ref 118) ja_Reader_byteAt_14 rfl (by decide) ⟨rfl, by decide⟩ rfl ?_
              refine q_alen (pc' := 18) ja_Reader_byteAt_17 rfl (by decide) (kd := 13) (l := 200) rfl (by decide) (v := 200) (by decide) ?_
              refine q_ic_ge (pc' := 21) ja_Reader_byteAt_18 rfl (fun _ => ?_) (fun h => absurd h (h79))
              refine q_iconst (pc' := 31) ja_Reader_byteAt_30 rfl 0 (by decide) ?_
              refine q_iret ja_Reader_byteAt_31 rfl rfl ?_
              show q_W _ _ _ _ 5 [some (.ref 117), some (.int (s61 117 2))] [.int 0] s61
              refine q_bipush (pc' := 7) ja_Reader_isDigit_5 rfl 48 (by decide) ?_
              refine q_ic_lt (pc' := 10) ja_Reader_isDigit_7 rfl (fun _ => ?_) (fun h => absurd ((by decide : (0 : Int32) < 48)) h)
              refine q_iconst (pc' := 25) ja_Reader_isDigit_24 rfl 0 (by decide) ?_
              refine q_iret ja_Reader_isDigit_25 rfl (by decide) ?_
              show q_W _ _ _ _ 113 [some (.ref 117)] [.int 0] s61
              refine q_if_eq (pc' := 116) ja_Reader_goOn_113 rfl (fun _ => ?_) (fun h => absurd ((by decide : (0 : Int32) = 0)) h)
              refine q_aload_n (pc' := 124) ja_Reader_goOn_123 rfl rfl ?_
              refine q_virt (pc' := 127) (c := 117) (as := []) (r := []) ja_Reader_goOn_124 rfl rfl rfl (by decide) ⟨rfl, by decide⟩ ?_
              refine q_in (M := jm_Reader_readSign) rfl (Nat.le_of_ble_eq_true rfl) (ls := [some (.ref 117), none]) rfl ?_
              refine q_aload_n (pc' := 1) ja_Reader_readSign_0 rfl rfl ?_
              refine q_aload_n (pc' := 2) ja_Reader_readSign_1 rfl rfl ?_
              refine q_getf (pc' := 5) (v := .int (s61 117 2)) ja_Reader_readSign_2 rfl (by decide) ⟨rfl, by decide⟩ rfl ?_
              refine q_virt (pc' := 8) (c := 117) (as := [.int (s61 117 2)]) (r := []) ja_Reader_readSign_5 rfl rfl rfl (by decide) ⟨rfl, by decide⟩ ?_
              refine q_in (M := jm_Reader_byteAt) rfl (Nat.le_of_ble_eq_true rfl) (ls := [some (.ref 117), some (.int (s61 117 2))]) rfl ?_
              refine q_iload_n (pc' := 1) ja_Reader_byteAt_0 rfl rfl ?_
              refine q_if_lt (pc' := 4) ja_Reader_byteAt_1 rfl (fun h => absurd h (h78)) (fun _ => ?_)
              refine q_iload_n (pc' := 5) ja_Reader_byteAt_4 rfl rfl ?_
              refine q_aload_n (pc' := 6) ja_Reader_byteAt_5 rfl rfl ?_
              refine q_getf (pc' := 9) (v := .int (s61 117 1)) ja_Reader_byteAt_6 rfl (by decide) ⟨rfl, by decide⟩ rfl ?_
              refine q_ic_ge (pc' := 12) ja_Reader_byteAt_9 rfl (fun h => absurd (h74) h) (fun _ => ?_)
              refine q_iload_n (pc' := 13) ja_Reader_byteAt_12 rfl rfl ?_
              refine q_aload_n (pc' := 14) ja_Reader_byteAt_13 rfl rfl ?_
              refine q_getf (pc' := 17) (v := .ref 118) ja_Reader_byteAt_14 rfl (by decide) ⟨rfl, by decide⟩ rfl ?_
              refine q_alen (pc' := 18) ja_Reader_byteAt_17 rfl (by decide) (kd := 13) (l := 200) rfl (by decide) (v := 200) (by decide) ?_
              refine q_ic_ge (pc' := 21) ja_Reader_byteAt_18 rfl (fun _ => ?_) (fun h => absurd h (h79))
              refine q_iconst (pc' := 31) ja_Reader_byteAt_30 rfl 0 (by decide) ?_
              refine q_iret ja_Reader_byteAt_31 rfl rfl ?_
              show q_W _ _ _ _ 8 [some (.ref 117), none] [.int 0] s61
              refine q_istore_n (pc' := 9) (ls' := [some (.ref 117), some (.int 0)]) ja_Reader_readSign_8 rfl ⟨Nat.le_of_ble_eq_true rfl, rfl⟩ rfl ?_
              refine q_aload_n (pc' := 10) ja_Reader_readSign_9 rfl rfl ?_
              refine q_dup (pc' := 11) ja_Reader_readSign_10 rfl rfl ?_
              refine q_getf (pc' := 14) (v := .int (s61 117 3)) ja_Reader_readSign_11 rfl (by decide) ⟨rfl, by decide⟩ rfl ?_
              refine q_iconst (pc' := 15) ja_Reader_readSign_14 rfl 1 (by decide) ?_
              refine q_iadd (pc' := 16) ja_Reader_readSign_15 rfl ?_
              refine q_putf (pc' := 19) ja_Reader_readSign_16 rfl (by decide) rfl rfl rfl ?_
              intro s66 e66
              refine q_iload_n (pc' := 20) ja_Reader_readSign_19 rfl rfl ?_
              refine q_swOut (pc' := 132) ja_Reader_readSign_20 (by decide) (by decide) ?_
              refine q_aload_n (pc' := 133) ja_Reader_readSign_132 rfl rfl ?_
              refine q_virt (pc' := 136) (c := 117) (as := []) (r := []) ja_Reader_readSign_133 rfl rfl rfl (by decide) ⟨rfl, by decide⟩ ?_
              refine q_in (M := jm_Reader_fail) rfl (Nat.le_of_ble_eq_true rfl) (ls := [some (.ref 117)]) rfl ?_
              refine q_aload_n (pc' := 1) ja_Reader_fail_0 rfl rfl ?_
              refine q_getf (pc' := 4) (v := .int (s66 117 7)) ja_Reader_fail_1 rfl (by decide) ⟨rfl, by decide⟩ rfl ?_
              refine q_iconst (pc' := 5) ja_Reader_fail_4 rfl (-1) (by decide) ?_
              refine q_ic_ne (pc' := 8) ja_Reader_fail_5 rfl ?_ ?_
              · intro h80
                refine q_aload_n (pc' := 17) ja_Reader_fail_16 rfl rfl ?_
                refine q_bipush (pc' := 19) ja_Reader_fail_17 rfl 17 (by decide) ?_
                refine q_putf (pc' := 22) ja_Reader_fail_19 rfl (by decide) rfl rfl rfl ?_
                intro s67 e67
                refine q_vret ja_Reader_fail_22 rfl ?_
                show q_W _ _ _ _ 136 [some (.ref 117), some (.int 0)] [] s67
                refine q_vret ja_Reader_readSign_136 rfl ?_
                show q_W _ _ _ _ 127 [some (.ref 117)] [] s67
                exact q_vret ja_Reader_goOn_127 rfl (k43 h36 h72 h73 s61 e61 h74 h78 h79 s66 e66 h80 s67 e67)
              · intro h81
                refine q_aload_n (pc' := 9) ja_Reader_fail_8 rfl rfl ?_
                refine q_aload_n (pc' := 10) ja_Reader_fail_9 rfl rfl ?_
                refine q_getf (pc' := 13) (v := .int (s66 117 2)) ja_Reader_fail_10 rfl (by decide) ⟨rfl, by decide⟩ rfl ?_
                refine q_putf (pc' := 16) ja_Reader_fail_13 rfl (by decide) rfl rfl rfl ?_
                intro s68 e68
                refine q_aload_n (pc' := 17) ja_Reader_fail_16 rfl rfl ?_
                refine q_bipush (pc' := 19) ja_Reader_fail_17 rfl 17 (by decide) ?_
                refine q_putf (pc' := 22) ja_Reader_fail_19 rfl (by decide) rfl rfl rfl ?_
                intro s69 e69
                refine q_vret ja_Reader_fail_22 rfl ?_
                show q_W _ _ _ _ 136 [some (.ref 117), some (.int 0)] [] s69
                refine q_vret ja_Reader_readSign_136 rfl ?_
                show q_W _ _ _ _ 127 [some (.ref 117)] [] s69
                exact q_vret ja_Reader_goOn_127 rfl (k44 h36 h72 h73 s61 e61 h74 h78 h79 s66 e66 h81 s68 e68 s69 e69)
            · intro h82
              refine q_aload_n (pc' := 22) ja_Reader_byteAt_21 rfl rfl ?_
              refine q_getf (pc' := 25) (v := .ref 118) ja_Reader_byteAt_22 rfl (by decide) ⟨rfl, by decide⟩ rfl ?_
              refine q_iload_n (pc' := 26) ja_Reader_byteAt_25 rfl rfl ?_
              refine q_iald (pc' := 27) (v := .int (s61 118 (s61 117 2).toNatClampNeg)) ja_Reader_byteAt_26 rfl (by decide) (l := 200) rfl (q_inr (l := 200) (by decide) h78 h82) rfl ?_
              refine q_goto ja_Reader_byteAt_27 ?_
              refine q_iret ja_Reader_byteAt_31 rfl rfl ?_
              show q_W _ _ _ _ 5 [some (.ref 117), some (.int (s61 117 2))] [.int (s61 118 (s61 117 2).toNatClampNeg)] s61
              refine q_bipush (pc' := 7) ja_Reader_isLetter_5 rfl 97 (by decide) ?_
              refine q_ic_lt (pc' := 10) ja_Reader_isLetter_7 rfl ?_ ?_
              · intro h83
                refine q_iconst (pc' := 25) ja_Reader_isLetter_24 rfl 0 (by decide) ?_
                refine q_iret ja_Reader_isLetter_25 rfl (by decide) ?_
                show q_W _ _ _ _ 95 [some (.ref 117)] [.int 0] s61
                refine q_if_eq (pc' := 98) ja_Reader_goOn_95 rfl (fun _ => ?_) (fun h => absurd ((by decide : (0 : Int32) = 0)) h)
                refine q_aload_n (pc' := 106) ja_Reader_goOn_105 rfl rfl ?_
                refine q_aload_n (pc' := 107) ja_Reader_goOn_106 rfl rfl ?_
                refine q_getf (pc' := 110) (v := .int (s61 117 2)) ja_Reader_goOn_107 rfl (by decide) ⟨rfl, by decide⟩ rfl ?_
                refine q_virt (pc' := 113) (c := 117) (as := [.int (s61 117 2)]) (r := []) ja_Reader_goOn_110 rfl rfl rfl (by decide) ⟨rfl, by decide⟩ ?_
                refine q_in (M := jm_Reader_isDigit) rfl (Nat.le_of_ble_eq_true rfl) (ls := [some (.ref 117), some (.int (s61 117 2))]) rfl ?_
                refine q_aload_n (pc' := 1) ja_Reader_isDigit_0 rfl rfl ?_
                refine q_iload_n (pc' := 2) ja_Reader_isDigit_1 rfl rfl ?_
                refine q_virt (pc' := 5) (c := 117) (as := [.int (s61 117 2)]) (r := []) ja_Reader_isDigit_2 rfl rfl rfl (by decide) ⟨rfl, by decide⟩ ?_
                refine q_in (M := jm_Reader_byteAt) rfl (Nat.le_of_ble_eq_true rfl) (ls := [some (.ref 117), some (.int (s61 117 2))]) rfl ?_
                refine q_iload_n (pc' := 1) ja_Reader_byteAt_0 rfl rfl ?_
                refine q_if_lt (pc' := 4) ja_Reader_byteAt_1 rfl (fun h => absurd h (h78)) (fun _ => ?_)
                refine q_iload_n (pc' := 5) ja_Reader_byteAt_4 rfl rfl ?_
                refine q_aload_n (pc' := 6) ja_Reader_byteAt_5 rfl rfl ?_
                refine q_getf (pc' := 9) (v := .int (s61 117 1)) ja_Reader_byteAt_6 rfl (by decide) ⟨rfl, by decide⟩ rfl ?_
                refine q_ic_ge (pc' := 12) ja_Reader_byteAt_9 rfl (fun h => absurd (h74) h) (fun _ => ?_)
                refine q_iload_n (pc' := 13) ja_Reader_byteAt_12 rfl rfl ?_
                refine q_aload_n (pc' := 14) ja_Reader_byteAt_13 rfl rfl ?_
                refine q_getf (pc' := 17) (v := .ref 118) ja_Reader_byteAt_14 rfl (by decide) ⟨rfl, by decide⟩ rfl ?_
                refine q_alen (pc' := 18) ja_Reader_byteAt_17 rfl (by decide) (kd := 13) (l := 200) rfl (by decide) (v := 200) (by decide) ?_
                refine q_ic_ge (pc' := 21) ja_Reader_byteAt_18 rfl (fun h => absurd (h82) h) (fun _ => ?_)
                refine q_aload_n (pc' := 22) ja_Reader_byteAt_21 rfl rfl ?_
                refine q_getf (pc' := 25) (v := .ref 118) ja_Reader_byteAt_22 rfl (by decide) ⟨rfl, by decide⟩ rfl ?_
                refine q_iload_n (pc' := 26) ja_Reader_byteAt_25 rfl rfl ?_
                refine q_iald (pc' := 27) (v := .int (s61 118 (s61 117 2).toNatClampNeg)) ja_Reader_byteAt_26 rfl (by decide) (l := 200) rfl (q_inr (l := 200) (by decide) h78 h82) rfl ?_
                refine q_goto ja_Reader_byteAt_27 ?_
                refine q_iret ja_Reader_byteAt_31 rfl rfl ?_
                show q_W _ _ _ _ 5 [some (.ref 117), some (.int (s61 117 2))] [.int (s61 118 (s61 117 2).toNatClampNeg)] s61
                refine q_bipush (pc' := 7) ja_Reader_isDigit_5 rfl 48 (by decide) ?_
                refine q_ic_lt (pc' := 10) ja_Reader_isDigit_7 rfl ?_ ?_
                · intro h84
                  refine q_iconst (pc' := 25) ja_Reader_isDigit_24 rfl 0 (by decide) ?_
                  refine q_iret ja_Reader_isDigit_25 rfl (by decide) ?_
                  show q_W _ _ _ _ 113 [some (.ref 117)] [.int 0] s61
                  refine q_if_eq (pc' := 116) ja_Reader_goOn_113 rfl (fun _ => ?_) (fun h => absurd ((by decide : (0 : Int32) = 0)) h)
                  refine q_aload_n (pc' := 124) ja_Reader_goOn_123 rfl rfl ?_
                  refine q_virt (pc' := 127) (c := 117) (as := []) (r := []) ja_Reader_goOn_124 rfl rfl rfl (by decide) ⟨rfl, by decide⟩ ?_
                  refine q_in (M := jm_Reader_readSign) rfl (Nat.le_of_ble_eq_true rfl) (ls := [some (.ref 117), none]) rfl ?_
                  refine q_aload_n (pc' := 1) ja_Reader_readSign_0 rfl rfl ?_
                  refine q_aload_n (pc' := 2) ja_Reader_readSign_1 rfl rfl ?_
                  refine q_getf (pc' := 5) (v := .int (s61 117 2)) ja_Reader_readSign_2 rfl (by decide) ⟨rfl, by decide⟩ rfl ?_
                  refine q_virt (pc' := 8) (c := 117) (as := [.int (s61 117 2)]) (r := []) ja_Reader_readSign_5 rfl rfl rfl (by decide) ⟨rfl, by decide⟩ ?_
                  refine q_in (M := jm_Reader_byteAt) rfl (Nat.le_of_ble_eq_true rfl) (ls := [some (.ref 117), some (.int (s61 117 2))]) rfl ?_
                  refine q_iload_n (pc' := 1) ja_Reader_byteAt_0 rfl rfl ?_
                  refine q_if_lt (pc' := 4) ja_Reader_byteAt_1 rfl (fun h => absurd h (h78)) (fun _ => ?_)
                  refine q_iload_n (pc' := 5) ja_Reader_byteAt_4 rfl rfl ?_
                  refine q_aload_n (pc' := 6) ja_Reader_byteAt_5 rfl rfl ?_
                  refine q_getf (pc' := 9) (v := .int (s61 117 1)) ja_Reader_byteAt_6 rfl (by decide) ⟨rfl, by decide⟩ rfl ?_
                  refine q_ic_ge (pc' := 12) ja_Reader_byteAt_9 rfl (fun h => absurd (h74) h) (fun _ => ?_)
                  refine q_iload_n (pc' := 13) ja_Reader_byteAt_12 rfl rfl ?_
                  refine q_aload_n (pc' := 14) ja_Reader_byteAt_13 rfl rfl ?_
                  refine q_getf (pc' := 17) (v := .ref 118) ja_Reader_byteAt_14 rfl (by decide) ⟨rfl, by decide⟩ rfl ?_
                  refine q_alen (pc' := 18) ja_Reader_byteAt_17 rfl (by decide) (kd := 13) (l := 200) rfl (by decide) (v := 200) (by decide) ?_
                  refine q_ic_ge (pc' := 21) ja_Reader_byteAt_18 rfl (fun h => absurd (h82) h) (fun _ => ?_)
                  refine q_aload_n (pc' := 22) ja_Reader_byteAt_21 rfl rfl ?_
                  refine q_getf (pc' := 25) (v := .ref 118) ja_Reader_byteAt_22 rfl (by decide) ⟨rfl, by decide⟩ rfl ?_
                  refine q_iload_n (pc' := 26) ja_Reader_byteAt_25 rfl rfl ?_
                  refine q_iald (pc' := 27) (v := .int (s61 118 (s61 117 2).toNatClampNeg)) ja_Reader_byteAt_26 rfl (by decide) (l := 200) rfl (q_inr (l := 200) (by decide) h78 h82) rfl ?_
                  refine q_goto ja_Reader_byteAt_27 ?_
                  refine q_iret ja_Reader_byteAt_31 rfl rfl ?_
                  show q_W _ _ _ _ 8 [some (.ref 117), none] [.int (s61 118 (s61 117 2).toNatClampNeg)] s61
                  refine q_istore_n (pc' := 9) (ls' := [some (.ref 117), some (.int (s61 118 (s61 117 2).toNatClampNeg))]) ja_Reader_readSign_8 rfl ⟨Nat.le_of_ble_eq_true rfl, rfl⟩ rfl ?_
                  refine q_aload_n (pc' := 10) ja_Reader_readSign_9 rfl rfl ?_
                  refine q_dup (pc' := 11) ja_Reader_readSign_10 rfl rfl ?_
                  refine q_getf (pc' := 14) (v := .int (s61 117 3)) ja_Reader_readSign_11 rfl (by decide) ⟨rfl, by decide⟩ rfl ?_
                  refine q_iconst (pc' := 15) ja_Reader_readSign_14 rfl 1 (by decide) ?_
                  refine q_iadd (pc' := 16) ja_Reader_readSign_15 rfl ?_
                  refine q_putf (pc' := 19) ja_Reader_readSign_16 rfl (by decide) rfl rfl rfl ?_
                  intro s70 e70
                  refine q_iload_n (pc' := 20) ja_Reader_readSign_19 rfl rfl ?_
                  by_cases h85 : ((s61 118 (s61 117 2).toNatClampNeg) = 40 ∨ (s61 118 (s61 117 2).toNatClampNeg) = 41 ∨ (s61 118 (s61 117 2).toNatClampNeg) = 42 ∨ (s61 118 (s61 117 2).toNatClampNeg) = 43 ∨ (s61 118 (s61 117 2).toNatClampNeg) = 45 ∨ (s61 118 (s61 117 2).toNatClampNeg) = 59 ∨ (s61 118 (s61 117 2).toNatClampNeg) = 60 ∨ (s61 118 (s61 117 2).toNatClampNeg) = 61)
                  · refine q_swE (pc' := 124) ja_Reader_readSign_20 (by rcases h85 with e | e | e | e | e | e | e | e <;> (rw [e]; decide)) (by rcases h85 with e | e | e | e | e | e | e | e <;> (rw [e]; exact ⟨_, rfl, rfl⟩)) ?_
                    refine q_aload_n (pc' := 125) ja_Reader_readSign_124 rfl rfl ?_
                    refine q_iload_n (pc' := 126) ja_Reader_readSign_125 rfl rfl ?_
                    refine q_putf (pc' := 129) ja_Reader_readSign_126 rfl (by decide) rfl rfl rfl ?_
                    intro s71 e71
                    refine q_goto ja_Reader_readSign_129 ?_
                    refine q_vret ja_Reader_readSign_136 rfl ?_
                    show q_W _ _ _ _ 127 [some (.ref 117)] [] s71
                    exact q_vret ja_Reader_goOn_127 rfl (k45 h36 h72 h73 s61 e61 h74 h78 h82 h83 h84 s70 e70 h85 s71 e71)
                  refine q_swD (pc' := 132) ja_Reader_readSign_20 [40, 41, 42, 43, 45, 59, 60, 61] (List.forall_mem_cons.mpr ⟨fun e => h85 (by rw [e]; decide), (List.forall_mem_cons.mpr ⟨fun e => h85 (by rw [e]; decide), (List.forall_mem_cons.mpr ⟨fun e => h85 (by rw [e]; decide), (List.forall_mem_cons.mpr ⟨fun e => h85 (by rw [e]; decide), (List.forall_mem_cons.mpr ⟨fun e => h85 (by rw [e]; decide), (List.forall_mem_cons.mpr ⟨fun e => h85 (by rw [e]; decide), (List.forall_mem_cons.mpr ⟨fun e => h85 (by rw [e]; decide), (List.forall_mem_cons.mpr ⟨fun e => h85 (by rw [e]; decide), (List.forall_mem_nil _)⟩)⟩)⟩)⟩)⟩)⟩)⟩)⟩) (by decide) rfl ?_
                  refine q_aload_n (pc' := 133) ja_Reader_readSign_132 rfl rfl ?_
                  refine q_virt (pc' := 136) (c := 117) (as := []) (r := []) ja_Reader_readSign_133 rfl rfl rfl (by decide) ⟨rfl, by decide⟩ ?_
                  refine q_in (M := jm_Reader_fail) rfl (Nat.le_of_ble_eq_true rfl) (ls := [some (.ref 117)]) rfl ?_
                  refine q_aload_n (pc' := 1) ja_Reader_fail_0 rfl rfl ?_
                  refine q_getf (pc' := 4) (v := .int (s70 117 7)) ja_Reader_fail_1 rfl (by decide) ⟨rfl, by decide⟩ rfl ?_
                  refine q_iconst (pc' := 5) ja_Reader_fail_4 rfl (-1) (by decide) ?_
                  refine q_ic_ne (pc' := 8) ja_Reader_fail_5 rfl ?_ ?_
                  · intro h86
                    refine q_aload_n (pc' := 17) ja_Reader_fail_16 rfl rfl ?_
                    refine q_bipush (pc' := 19) ja_Reader_fail_17 rfl 17 (by decide) ?_
                    refine q_putf (pc' := 22) ja_Reader_fail_19 rfl (by decide) rfl rfl rfl ?_
                    intro s72 e72
                    refine q_vret ja_Reader_fail_22 rfl ?_
                    show q_W _ _ _ _ 136 [some (.ref 117), some (.int (s61 118 (s61 117 2).toNatClampNeg))] [] s72
                    refine q_vret ja_Reader_readSign_136 rfl ?_
                    show q_W _ _ _ _ 127 [some (.ref 117)] [] s72
                    exact q_vret ja_Reader_goOn_127 rfl (k46 h36 h72 h73 s61 e61 h74 h78 h82 h83 h84 s70 e70 h85 h86 s72 e72)
                  · intro h87
                    refine q_aload_n (pc' := 9) ja_Reader_fail_8 rfl rfl ?_
                    refine q_aload_n (pc' := 10) ja_Reader_fail_9 rfl rfl ?_
                    refine q_getf (pc' := 13) (v := .int (s70 117 2)) ja_Reader_fail_10 rfl (by decide) ⟨rfl, by decide⟩ rfl ?_
                    refine q_putf (pc' := 16) ja_Reader_fail_13 rfl (by decide) rfl rfl rfl ?_
                    intro s73 e73
                    refine q_aload_n (pc' := 17) ja_Reader_fail_16 rfl rfl ?_
                    refine q_bipush (pc' := 19) ja_Reader_fail_17 rfl 17 (by decide) ?_
                    refine q_putf (pc' := 22) ja_Reader_fail_19 rfl (by decide) rfl rfl rfl ?_
                    intro s74 e74
                    refine q_vret ja_Reader_fail_22 rfl ?_
                    show q_W _ _ _ _ 136 [some (.ref 117), some (.int (s61 118 (s61 117 2).toNatClampNeg))] [] s74
                    refine q_vret ja_Reader_readSign_136 rfl ?_
                    show q_W _ _ _ _ 127 [some (.ref 117)] [] s74
                    exact q_vret ja_Reader_goOn_127 rfl (k47 h36 h72 h73 s61 e61 h74 h78 h82 h83 h84 s70 e70 h85 h87 s73 e73 s74 e74)
                · intro h88
                  refine q_aload_n (pc' := 11) ja_Reader_isDigit_10 rfl rfl ?_
                  refine q_iload_n (pc' := 12) ja_Reader_isDigit_11 rfl rfl ?_
                  refine q_virt (pc' := 15) (c := 117) (as := [.int (s61 117 2)]) (r := []) ja_Reader_isDigit_12 rfl rfl rfl (by decide) ⟨rfl, by decide⟩ ?_
                  refine q_in (M := jm_Reader_byteAt) rfl (Nat.le_of_ble_eq_true rfl) (ls := [some (.ref 117), some (.int (s61 117 2))]) rfl ?_
                  refine q_iload_n (pc' := 1) ja_Reader_byteAt_0 rfl rfl ?_
                  refine q_if_lt (pc' := 4) ja_Reader_byteAt_1 rfl (fun h => absurd h (h78)) (fun _ => ?_)
                  refine q_iload_n (pc' := 5) ja_Reader_byteAt_4 rfl rfl ?_
                  refine q_aload_n (pc' := 6) ja_Reader_byteAt_5 rfl rfl ?_
                  refine q_getf (pc' := 9) (v := .int (s61 117 1)) ja_Reader_byteAt_6 rfl (by decide) ⟨rfl, by decide⟩ rfl ?_
                  refine q_ic_ge (pc' := 12) ja_Reader_byteAt_9 rfl (fun h => absurd (h74) h) (fun _ => ?_)
                  refine q_iload_n (pc' := 13) ja_Reader_byteAt_12 rfl rfl ?_
                  refine q_aload_n (pc' := 14) ja_Reader_byteAt_13 rfl rfl ?_
                  refine q_getf (pc' := 17) (v := .ref 118) ja_Reader_byteAt_14 rfl (by decide) ⟨rfl, by decide⟩ rfl ?_
                  refine q_alen (pc' := 18) ja_Reader_byteAt_17 rfl (by decide) (kd := 13) (l := 200) rfl (by decide) (v := 200) (by decide) ?_
                  refine q_ic_ge (pc' := 21) ja_Reader_byteAt_18 rfl (fun h => absurd (h82) h) (fun _ => ?_)
                  refine q_aload_n (pc' := 22) ja_Reader_byteAt_21 rfl rfl ?_
                  refine q_getf (pc' := 25) (v := .ref 118) ja_Reader_byteAt_22 rfl (by decide) ⟨rfl, by decide⟩ rfl ?_
                  refine q_iload_n (pc' := 26) ja_Reader_byteAt_25 rfl rfl ?_
                  refine q_iald (pc' := 27) (v := .int (s61 118 (s61 117 2).toNatClampNeg)) ja_Reader_byteAt_26 rfl (by decide) (l := 200) rfl (q_inr (l := 200) (by decide) h78 h82) rfl ?_
                  refine q_goto ja_Reader_byteAt_27 ?_
                  refine q_iret ja_Reader_byteAt_31 rfl rfl ?_
                  show q_W _ _ _ _ 15 [some (.ref 117), some (.int (s61 117 2))] [.int (s61 118 (s61 117 2).toNatClampNeg)] s61
                  refine q_bipush (pc' := 17) ja_Reader_isDigit_15 rfl 57 (by decide) ?_
                  refine q_ic_gt (pc' := 20) ja_Reader_isDigit_17 rfl ?_ ?_
                  · intro h89
                    refine q_iconst (pc' := 25) ja_Reader_isDigit_24 rfl 0 (by decide) ?_
                    refine q_iret ja_Reader_isDigit_25 rfl (by decide) ?_
                    show q_W _ _ _ _ 113 [some (.ref 117)] [.int 0] s61
                    refine q_if_eq (pc' := 116) ja_Reader_goOn_113 rfl (fun _ => ?_) (fun h => absurd ((by decide : (0 : Int32) = 0)) h)
                    refine q_aload_n (pc' := 124) ja_Reader_goOn_123 rfl rfl ?_
                    refine q_virt (pc' := 127) (c := 117) (as := []) (r := []) ja_Reader_goOn_124 rfl rfl rfl (by decide) ⟨rfl, by decide⟩ ?_
                    refine q_in (M := jm_Reader_readSign) rfl (Nat.le_of_ble_eq_true rfl) (ls := [some (.ref 117), none]) rfl ?_
                    refine q_aload_n (pc' := 1) ja_Reader_readSign_0 rfl rfl ?_
                    refine q_aload_n (pc' := 2) ja_Reader_readSign_1 rfl rfl ?_
                    refine q_getf (pc' := 5) (v := .int (s61 117 2)) ja_Reader_readSign_2 rfl (by decide) ⟨rfl, by decide⟩ rfl ?_
                    refine q_virt (pc' := 8) (c := 117) (as := [.int (s61 117 2)]) (r := []) ja_Reader_readSign_5 rfl rfl rfl (by decide) ⟨rfl, by decide⟩ ?_
                    refine q_in (M := jm_Reader_byteAt) rfl (Nat.le_of_ble_eq_true rfl) (ls := [some (.ref 117), some (.int (s61 117 2))]) rfl ?_
                    refine q_iload_n (pc' := 1) ja_Reader_byteAt_0 rfl rfl ?_
                    refine q_if_lt (pc' := 4) ja_Reader_byteAt_1 rfl (fun h => absurd h (h78)) (fun _ => ?_)
                    refine q_iload_n (pc' := 5) ja_Reader_byteAt_4 rfl rfl ?_
                    refine q_aload_n (pc' := 6) ja_Reader_byteAt_5 rfl rfl ?_
                    refine q_getf (pc' := 9) (v := .int (s61 117 1)) ja_Reader_byteAt_6 rfl (by decide) ⟨rfl, by decide⟩ rfl ?_
                    refine q_ic_ge (pc' := 12) ja_Reader_byteAt_9 rfl (fun h => absurd (h74) h) (fun _ => ?_)
                    refine q_iload_n (pc' := 13) ja_Reader_byteAt_12 rfl rfl ?_
                    refine q_aload_n (pc' := 14) ja_Reader_byteAt_13 rfl rfl ?_
                    refine q_getf (pc' := 17) (v := .ref 118) ja_Reader_byteAt_14 rfl (by decide) ⟨rfl, by decide⟩ rfl ?_
                    refine q_alen (pc' := 18) ja_Reader_byteAt_17 rfl (by decide) (kd := 13) (l := 200) rfl (by decide) (v := 200) (by decide) ?_
                    refine q_ic_ge (pc' := 21) ja_Reader_byteAt_18 rfl (fun h => absurd (h82) h) (fun _ => ?_)
                    refine q_aload_n (pc' := 22) ja_Reader_byteAt_21 rfl rfl ?_
                    refine q_getf (pc' := 25) (v := .ref 118) ja_Reader_byteAt_22 rfl (by decide) ⟨rfl, by decide⟩ rfl ?_
                    refine q_iload_n (pc' := 26) ja_Reader_byteAt_25 rfl rfl ?_
                    refine q_iald (pc' := 27) (v := .int (s61 118 (s61 117 2).toNatClampNeg)) ja_Reader_byteAt_26 rfl (by decide) (l := 200) rfl (q_inr (l := 200) (by decide) h78 h82) rfl ?_
                    refine q_goto ja_Reader_byteAt_27 ?_
                    refine q_iret ja_Reader_byteAt_31 rfl rfl ?_
                    show q_W _ _ _ _ 8 [some (.ref 117), none] [.int (s61 118 (s61 117 2).toNatClampNeg)] s61
                    refine q_istore_n (pc' := 9) (ls' := [some (.ref 117), some (.int (s61 118 (s61 117 2).toNatClampNeg))]) ja_Reader_readSign_8 rfl ⟨Nat.le_of_ble_eq_true rfl, rfl⟩ rfl ?_
                    refine q_aload_n (pc' := 10) ja_Reader_readSign_9 rfl rfl ?_
                    refine q_dup (pc' := 11) ja_Reader_readSign_10 rfl rfl ?_
                    refine q_getf (pc' := 14) (v := .int (s61 117 3)) ja_Reader_readSign_11 rfl (by decide) ⟨rfl, by decide⟩ rfl ?_
                    refine q_iconst (pc' := 15) ja_Reader_readSign_14 rfl 1 (by decide) ?_
                    refine q_iadd (pc' := 16) ja_Reader_readSign_15 rfl ?_
                    refine q_putf (pc' := 19) ja_Reader_readSign_16 rfl (by decide) rfl rfl rfl ?_
                    intro s75 e75
                    refine q_iload_n (pc' := 20) ja_Reader_readSign_19 rfl rfl ?_
                    by_cases h90 : ((s61 118 (s61 117 2).toNatClampNeg) = 40 ∨ (s61 118 (s61 117 2).toNatClampNeg) = 41 ∨ (s61 118 (s61 117 2).toNatClampNeg) = 42 ∨ (s61 118 (s61 117 2).toNatClampNeg) = 43 ∨ (s61 118 (s61 117 2).toNatClampNeg) = 45 ∨ (s61 118 (s61 117 2).toNatClampNeg) = 59 ∨ (s61 118 (s61 117 2).toNatClampNeg) = 60 ∨ (s61 118 (s61 117 2).toNatClampNeg) = 61)
                    · refine q_swE (pc' := 124) ja_Reader_readSign_20 (by rcases h90 with e | e | e | e | e | e | e | e <;> (rw [e]; decide)) (by rcases h90 with e | e | e | e | e | e | e | e <;> (rw [e]; exact ⟨_, rfl, rfl⟩)) ?_
                      refine q_aload_n (pc' := 125) ja_Reader_readSign_124 rfl rfl ?_
                      refine q_iload_n (pc' := 126) ja_Reader_readSign_125 rfl rfl ?_
                      refine q_putf (pc' := 129) ja_Reader_readSign_126 rfl (by decide) rfl rfl rfl ?_
                      intro s76 e76
                      refine q_goto ja_Reader_readSign_129 ?_
                      refine q_vret ja_Reader_readSign_136 rfl ?_
                      show q_W _ _ _ _ 127 [some (.ref 117)] [] s76
                      exact q_vret ja_Reader_goOn_127 rfl (k48 h36 h72 h73 s61 e61 h74 h78 h82 h83 h88 h89 s75 e75 h90 s76 e76)
                    refine q_swD (pc' := 132) ja_Reader_readSign_20 [40, 41, 42, 43, 45, 59, 60, 61] (List.forall_mem_cons.mpr ⟨fun e => h90 (by rw [e]; decide), (List.forall_mem_cons.mpr ⟨fun e => h90 (by rw [e]; decide), (List.forall_mem_cons.mpr ⟨fun e => h90 (by rw [e]; decide), (List.forall_mem_cons.mpr ⟨fun e => h90 (by rw [e]; decide), (List.forall_mem_cons.mpr ⟨fun e => h90 (by rw [e]; decide), (List.forall_mem_cons.mpr ⟨fun e => h90 (by rw [e]; decide), (List.forall_mem_cons.mpr ⟨fun e => h90 (by rw [e]; decide), (List.forall_mem_cons.mpr ⟨fun e => h90 (by rw [e]; decide), (List.forall_mem_nil _)⟩)⟩)⟩)⟩)⟩)⟩)⟩)⟩) (by decide) rfl ?_
                    refine q_aload_n (pc' := 133) ja_Reader_readSign_132 rfl rfl ?_
                    refine q_virt (pc' := 136) (c := 117) (as := []) (r := []) ja_Reader_readSign_133 rfl rfl rfl (by decide) ⟨rfl, by decide⟩ ?_
                    refine q_in (M := jm_Reader_fail) rfl (Nat.le_of_ble_eq_true rfl) (ls := [some (.ref 117)]) rfl ?_
                    refine q_aload_n (pc' := 1) ja_Reader_fail_0 rfl rfl ?_
                    refine q_getf (pc' := 4) (v := .int (s75 117 7)) ja_Reader_fail_1 rfl (by decide) ⟨rfl, by decide⟩ rfl ?_
                    refine q_iconst (pc' := 5) ja_Reader_fail_4 rfl (-1) (by decide) ?_
                    refine q_ic_ne (pc' := 8) ja_Reader_fail_5 rfl ?_ ?_
                    · intro h91
                      refine q_aload_n (pc' := 17) ja_Reader_fail_16 rfl rfl ?_
                      refine q_bipush (pc' := 19) ja_Reader_fail_17 rfl 17 (by decide) ?_
                      refine q_putf (pc' := 22) ja_Reader_fail_19 rfl (by decide) rfl rfl rfl ?_
                      intro s77 e77
                      refine q_vret ja_Reader_fail_22 rfl ?_
                      show q_W _ _ _ _ 136 [some (.ref 117), some (.int (s61 118 (s61 117 2).toNatClampNeg))] [] s77
                      refine q_vret ja_Reader_readSign_136 rfl ?_
                      show q_W _ _ _ _ 127 [some (.ref 117)] [] s77
                      exact q_vret ja_Reader_goOn_127 rfl (k49 h36 h72 h73 s61 e61 h74 h78 h82 h83 h88 h89 s75 e75 h90 h91 s77 e77)
                    · intro h92
                      refine q_aload_n (pc' := 9) ja_Reader_fail_8 rfl rfl ?_
                      refine q_aload_n (pc' := 10) ja_Reader_fail_9 rfl rfl ?_
                      refine q_getf (pc' := 13) (v := .int (s75 117 2)) ja_Reader_fail_10 rfl (by decide) ⟨rfl, by decide⟩ rfl ?_
                      refine q_putf (pc' := 16) ja_Reader_fail_13 rfl (by decide) rfl rfl rfl ?_
                      intro s78 e78
                      refine q_aload_n (pc' := 17) ja_Reader_fail_16 rfl rfl ?_
                      refine q_bipush (pc' := 19) ja_Reader_fail_17 rfl 17 (by decide) ?_
                      refine q_putf (pc' := 22) ja_Reader_fail_19 rfl (by decide) rfl rfl rfl ?_
                      intro s79 e79
                      refine q_vret ja_Reader_fail_22 rfl ?_
                      show q_W _ _ _ _ 136 [some (.ref 117), some (.int (s61 118 (s61 117 2).toNatClampNeg))] [] s79
                      refine q_vret ja_Reader_readSign_136 rfl ?_
                      show q_W _ _ _ _ 127 [some (.ref 117)] [] s79
                      exact q_vret ja_Reader_goOn_127 rfl (k50 h36 h72 h73 s61 e61 h74 h78 h82 h83 h88 h89 s75 e75 h90 h92 s78 e78 s79 e79)
                  · intro h93
                    refine q_iconst (pc' := 21) ja_Reader_isDigit_20 rfl 1 (by decide) ?_
                    refine q_goto ja_Reader_isDigit_21 ?_
                    refine q_iret ja_Reader_isDigit_25 rfl (by decide) ?_
                    show q_W _ _ _ _ 113 [some (.ref 117)] [.int 1] s61
                    refine q_if_eq (pc' := 116) ja_Reader_goOn_113 rfl (fun h => absurd h ((by decide : ¬ (1 : Int32) = 0))) (fun _ => ?_)
                    refine q_aload_n (pc' := 117) ja_Reader_goOn_116 rfl rfl ?_
                    refine q_virt (pc' := 120) (c := 117) (as := []) (r := []) ja_Reader_goOn_117 rfl rfl rfl (by decide) ⟨rfl, by decide⟩ ?_
                    exact (k51 h36 h72 h73 s61 e61 h74 h78 h82 h83 h88 h93)
              · intro h94
                refine q_aload_n (pc' := 11) ja_Reader_isLetter_10 rfl rfl ?_
                refine q_iload_n (pc' := 12) ja_Reader_isLetter_11 rfl rfl ?_
                refine q_virt (pc' := 15) (c := 117) (as := [.int (s61 117 2)]) (r := []) ja_Reader_isLetter_12 rfl rfl rfl (by decide) ⟨rfl, by decide⟩ ?_
                refine q_in (M := jm_Reader_byteAt) rfl (Nat.le_of_ble_eq_true rfl) (ls := [some (.ref 117), some (.int (s61 117 2))]) rfl ?_
                refine q_iload_n (pc' := 1) ja_Reader_byteAt_0 rfl rfl ?_
                refine q_if_lt (pc' := 4) ja_Reader_byteAt_1 rfl (fun h => absurd h (h78)) (fun _ => ?_)
                refine q_iload_n (pc' := 5) ja_Reader_byteAt_4 rfl rfl ?_
                refine q_aload_n (pc' := 6) ja_Reader_byteAt_5 rfl rfl ?_
                refine q_getf (pc' := 9) (v := .int (s61 117 1)) ja_Reader_byteAt_6 rfl (by decide) ⟨rfl, by decide⟩ rfl ?_
                refine q_ic_ge (pc' := 12) ja_Reader_byteAt_9 rfl (fun h => absurd (h74) h) (fun _ => ?_)
                refine q_iload_n (pc' := 13) ja_Reader_byteAt_12 rfl rfl ?_
                refine q_aload_n (pc' := 14) ja_Reader_byteAt_13 rfl rfl ?_
                refine q_getf (pc' := 17) (v := .ref 118) ja_Reader_byteAt_14 rfl (by decide) ⟨rfl, by decide⟩ rfl ?_
                refine q_alen (pc' := 18) ja_Reader_byteAt_17 rfl (by decide) (kd := 13) (l := 200) rfl (by decide) (v := 200) (by decide) ?_
                refine q_ic_ge (pc' := 21) ja_Reader_byteAt_18 rfl (fun h => absurd (h82) h) (fun _ => ?_)
                refine q_aload_n (pc' := 22) ja_Reader_byteAt_21 rfl rfl ?_
                refine q_getf (pc' := 25) (v := .ref 118) ja_Reader_byteAt_22 rfl (by decide) ⟨rfl, by decide⟩ rfl ?_
                refine q_iload_n (pc' := 26) ja_Reader_byteAt_25 rfl rfl ?_
                refine q_iald (pc' := 27) (v := .int (s61 118 (s61 117 2).toNatClampNeg)) ja_Reader_byteAt_26 rfl (by decide) (l := 200) rfl (q_inr (l := 200) (by decide) h78 h82) rfl ?_
                refine q_goto ja_Reader_byteAt_27 ?_
                refine q_iret ja_Reader_byteAt_31 rfl rfl ?_
                show q_W _ _ _ _ 15 [some (.ref 117), some (.int (s61 117 2))] [.int (s61 118 (s61 117 2).toNatClampNeg)] s61
                refine q_bipush (pc' := 17) ja_Reader_isLetter_15 rfl 122 (by decide) ?_
                refine q_ic_gt (pc' := 20) ja_Reader_isLetter_17 rfl ?_ ?_
                · intro h95
                  refine q_iconst (pc' := 25) ja_Reader_isLetter_24 rfl 0 (by decide) ?_
                  refine q_iret ja_Reader_isLetter_25 rfl (by decide) ?_
                  show q_W _ _ _ _ 95 [some (.ref 117)] [.int 0] s61
                  refine q_if_eq (pc' := 98) ja_Reader_goOn_95 rfl (fun _ => ?_) (fun h => absurd ((by decide : (0 : Int32) = 0)) h)
                  refine q_aload_n (pc' := 106) ja_Reader_goOn_105 rfl rfl ?_
                  refine q_aload_n (pc' := 107) ja_Reader_goOn_106 rfl rfl ?_
                  refine q_getf (pc' := 110) (v := .int (s61 117 2)) ja_Reader_goOn_107 rfl (by decide) ⟨rfl, by decide⟩ rfl ?_
                  refine q_virt (pc' := 113) (c := 117) (as := [.int (s61 117 2)]) (r := []) ja_Reader_goOn_110 rfl rfl rfl (by decide) ⟨rfl, by decide⟩ ?_
                  refine q_in (M := jm_Reader_isDigit) rfl (Nat.le_of_ble_eq_true rfl) (ls := [some (.ref 117), some (.int (s61 117 2))]) rfl ?_
                  refine q_aload_n (pc' := 1) ja_Reader_isDigit_0 rfl rfl ?_
                  refine q_iload_n (pc' := 2) ja_Reader_isDigit_1 rfl rfl ?_
                  refine q_virt (pc' := 5) (c := 117) (as := [.int (s61 117 2)]) (r := []) ja_Reader_isDigit_2 rfl rfl rfl (by decide) ⟨rfl, by decide⟩ ?_
                  refine q_in (M := jm_Reader_byteAt) rfl (Nat.le_of_ble_eq_true rfl) (ls := [some (.ref 117), some (.int (s61 117 2))]) rfl ?_
                  refine q_iload_n (pc' := 1) ja_Reader_byteAt_0 rfl rfl ?_
                  refine q_if_lt (pc' := 4) ja_Reader_byteAt_1 rfl (fun h => absurd h (h78)) (fun _ => ?_)
                  refine q_iload_n (pc' := 5) ja_Reader_byteAt_4 rfl rfl ?_
                  refine q_aload_n (pc' := 6) ja_Reader_byteAt_5 rfl rfl ?_
                  refine q_getf (pc' := 9) (v := .int (s61 117 1)) ja_Reader_byteAt_6 rfl (by decide) ⟨rfl, by decide⟩ rfl ?_
                  refine q_ic_ge (pc' := 12) ja_Reader_byteAt_9 rfl (fun h => absurd (h74) h) (fun _ => ?_)
                  refine q_iload_n (pc' := 13) ja_Reader_byteAt_12 rfl rfl ?_
                  refine q_aload_n (pc' := 14) ja_Reader_byteAt_13 rfl rfl ?_
                  refine q_getf (pc' := 17) (v := .ref 118) ja_Reader_byteAt_14 rfl (by decide) ⟨rfl, by decide⟩ rfl ?_
                  refine q_alen (pc' := 18) ja_Reader_byteAt_17 rfl (by decide) (kd := 13) (l := 200) rfl (by decide) (v := 200) (by decide) ?_
                  refine q_ic_ge (pc' := 21) ja_Reader_byteAt_18 rfl (fun h => absurd (h82) h) (fun _ => ?_)
                  refine q_aload_n (pc' := 22) ja_Reader_byteAt_21 rfl rfl ?_
                  refine q_getf (pc' := 25) (v := .ref 118) ja_Reader_byteAt_22 rfl (by decide) ⟨rfl, by decide⟩ rfl ?_
                  refine q_iload_n (pc' := 26) ja_Reader_byteAt_25 rfl rfl ?_
                  refine q_iald (pc' := 27) (v := .int (s61 118 (s61 117 2).toNatClampNeg)) ja_Reader_byteAt_26 rfl (by decide) (l := 200) rfl (q_inr (l := 200) (by decide) h78 h82) rfl ?_
                  refine q_goto ja_Reader_byteAt_27 ?_
                  refine q_iret ja_Reader_byteAt_31 rfl rfl ?_
                  show q_W _ _ _ _ 5 [some (.ref 117), some (.int (s61 117 2))] [.int (s61 118 (s61 117 2).toNatClampNeg)] s61
                  refine q_bipush (pc' := 7) ja_Reader_isDigit_5 rfl 48 (by decide) ?_
                  refine q_ic_lt (pc' := 10) ja_Reader_isDigit_7 rfl ?_ ?_
                  · intro h96
                    refine q_iconst (pc' := 25) ja_Reader_isDigit_24 rfl 0 (by decide) ?_
                    refine q_iret ja_Reader_isDigit_25 rfl (by decide) ?_
                    show q_W _ _ _ _ 113 [some (.ref 117)] [.int 0] s61
                    refine q_if_eq (pc' := 116) ja_Reader_goOn_113 rfl (fun _ => ?_) (fun h => absurd ((by decide : (0 : Int32) = 0)) h)
                    refine q_aload_n (pc' := 124) ja_Reader_goOn_123 rfl rfl ?_
                    refine q_virt (pc' := 127) (c := 117) (as := []) (r := []) ja_Reader_goOn_124 rfl rfl rfl (by decide) ⟨rfl, by decide⟩ ?_
                    refine q_in (M := jm_Reader_readSign) rfl (Nat.le_of_ble_eq_true rfl) (ls := [some (.ref 117), none]) rfl ?_
                    refine q_aload_n (pc' := 1) ja_Reader_readSign_0 rfl rfl ?_
                    refine q_aload_n (pc' := 2) ja_Reader_readSign_1 rfl rfl ?_
                    refine q_getf (pc' := 5) (v := .int (s61 117 2)) ja_Reader_readSign_2 rfl (by decide) ⟨rfl, by decide⟩ rfl ?_
                    refine q_virt (pc' := 8) (c := 117) (as := [.int (s61 117 2)]) (r := []) ja_Reader_readSign_5 rfl rfl rfl (by decide) ⟨rfl, by decide⟩ ?_
                    refine q_in (M := jm_Reader_byteAt) rfl (Nat.le_of_ble_eq_true rfl) (ls := [some (.ref 117), some (.int (s61 117 2))]) rfl ?_
                    refine q_iload_n (pc' := 1) ja_Reader_byteAt_0 rfl rfl ?_
                    refine q_if_lt (pc' := 4) ja_Reader_byteAt_1 rfl (fun h => absurd h (h78)) (fun _ => ?_)
                    refine q_iload_n (pc' := 5) ja_Reader_byteAt_4 rfl rfl ?_
                    refine q_aload_n (pc' := 6) ja_Reader_byteAt_5 rfl rfl ?_
                    refine q_getf (pc' := 9) (v := .int (s61 117 1)) ja_Reader_byteAt_6 rfl (by decide) ⟨rfl, by decide⟩ rfl ?_
                    refine q_ic_ge (pc' := 12) ja_Reader_byteAt_9 rfl (fun h => absurd (h74) h) (fun _ => ?_)
                    refine q_iload_n (pc' := 13) ja_Reader_byteAt_12 rfl rfl ?_
                    refine q_aload_n (pc' := 14) ja_Reader_byteAt_13 rfl rfl ?_
                    refine q_getf (pc' := 17) (v := .ref 118) ja_Reader_byteAt_14 rfl (by decide) ⟨rfl, by decide⟩ rfl ?_
                    refine q_alen (pc' := 18) ja_Reader_byteAt_17 rfl (by decide) (kd := 13) (l := 200) rfl (by decide) (v := 200) (by decide) ?_
                    refine q_ic_ge (pc' := 21) ja_Reader_byteAt_18 rfl (fun h => absurd (h82) h) (fun _ => ?_)
                    refine q_aload_n (pc' := 22) ja_Reader_byteAt_21 rfl rfl ?_
                    refine q_getf (pc' := 25) (v := .ref 118) ja_Reader_byteAt_22 rfl (by decide) ⟨rfl, by decide⟩ rfl ?_
                    refine q_iload_n (pc' := 26) ja_Reader_byteAt_25 rfl rfl ?_
                    refine q_iald (pc' := 27) (v := .int (s61 118 (s61 117 2).toNatClampNeg)) ja_Reader_byteAt_26 rfl (by decide) (l := 200) rfl (q_inr (l := 200) (by decide) h78 h82) rfl ?_
                    refine q_goto ja_Reader_byteAt_27 ?_
                    refine q_iret ja_Reader_byteAt_31 rfl rfl ?_
                    show q_W _ _ _ _ 8 [some (.ref 117), none] [.int (s61 118 (s61 117 2).toNatClampNeg)] s61
                    refine q_istore_n (pc' := 9) (ls' := [some (.ref 117), some (.int (s61 118 (s61 117 2).toNatClampNeg))]) ja_Reader_readSign_8 rfl ⟨Nat.le_of_ble_eq_true rfl, rfl⟩ rfl ?_
                    refine q_aload_n (pc' := 10) ja_Reader_readSign_9 rfl rfl ?_
                    refine q_dup (pc' := 11) ja_Reader_readSign_10 rfl rfl ?_
                    refine q_getf (pc' := 14) (v := .int (s61 117 3)) ja_Reader_readSign_11 rfl (by decide) ⟨rfl, by decide⟩ rfl ?_
                    refine q_iconst (pc' := 15) ja_Reader_readSign_14 rfl 1 (by decide) ?_
                    refine q_iadd (pc' := 16) ja_Reader_readSign_15 rfl ?_
                    refine q_putf (pc' := 19) ja_Reader_readSign_16 rfl (by decide) rfl rfl rfl ?_
                    intro s80 e80
                    refine q_iload_n (pc' := 20) ja_Reader_readSign_19 rfl rfl ?_
                    by_cases h97 : ((s61 118 (s61 117 2).toNatClampNeg) = 40 ∨ (s61 118 (s61 117 2).toNatClampNeg) = 41 ∨ (s61 118 (s61 117 2).toNatClampNeg) = 42 ∨ (s61 118 (s61 117 2).toNatClampNeg) = 43 ∨ (s61 118 (s61 117 2).toNatClampNeg) = 45 ∨ (s61 118 (s61 117 2).toNatClampNeg) = 59 ∨ (s61 118 (s61 117 2).toNatClampNeg) = 60 ∨ (s61 118 (s61 117 2).toNatClampNeg) = 61)
                    · refine q_swE (pc' := 124) ja_Reader_readSign_20 (by rcases h97 with e | e | e | e | e | e | e | e <;> (rw [e]; decide)) (by rcases h97 with e | e | e | e | e | e | e | e <;> (rw [e]; exact ⟨_, rfl, rfl⟩)) ?_
                      refine q_aload_n (pc' := 125) ja_Reader_readSign_124 rfl rfl ?_
                      refine q_iload_n (pc' := 126) ja_Reader_readSign_125 rfl rfl ?_
                      refine q_putf (pc' := 129) ja_Reader_readSign_126 rfl (by decide) rfl rfl rfl ?_
                      intro s81 e81
                      refine q_goto ja_Reader_readSign_129 ?_
                      refine q_vret ja_Reader_readSign_136 rfl ?_
                      show q_W _ _ _ _ 127 [some (.ref 117)] [] s81
                      exact q_vret ja_Reader_goOn_127 rfl (k52 h36 h72 h73 s61 e61 h74 h78 h82 h94 h95 h96 s80 e80 h97 s81 e81)
                    refine q_swD (pc' := 132) ja_Reader_readSign_20 [40, 41, 42, 43, 45, 59, 60, 61] (List.forall_mem_cons.mpr ⟨fun e => h97 (by rw [e]; decide), (List.forall_mem_cons.mpr ⟨fun e => h97 (by rw [e]; decide), (List.forall_mem_cons.mpr ⟨fun e => h97 (by rw [e]; decide), (List.forall_mem_cons.mpr ⟨fun e => h97 (by rw [e]; decide), (List.forall_mem_cons.mpr ⟨fun e => h97 (by rw [e]; decide), (List.forall_mem_cons.mpr ⟨fun e => h97 (by rw [e]; decide), (List.forall_mem_cons.mpr ⟨fun e => h97 (by rw [e]; decide), (List.forall_mem_cons.mpr ⟨fun e => h97 (by rw [e]; decide), (List.forall_mem_nil _)⟩)⟩)⟩)⟩)⟩)⟩)⟩)⟩) (by decide) rfl ?_
                    refine q_aload_n (pc' := 133) ja_Reader_readSign_132 rfl rfl ?_
                    refine q_virt (pc' := 136) (c := 117) (as := []) (r := []) ja_Reader_readSign_133 rfl rfl rfl (by decide) ⟨rfl, by decide⟩ ?_
                    refine q_in (M := jm_Reader_fail) rfl (Nat.le_of_ble_eq_true rfl) (ls := [some (.ref 117)]) rfl ?_
                    refine q_aload_n (pc' := 1) ja_Reader_fail_0 rfl rfl ?_
                    refine q_getf (pc' := 4) (v := .int (s80 117 7)) ja_Reader_fail_1 rfl (by decide) ⟨rfl, by decide⟩ rfl ?_
                    refine q_iconst (pc' := 5) ja_Reader_fail_4 rfl (-1) (by decide) ?_
                    refine q_ic_ne (pc' := 8) ja_Reader_fail_5 rfl ?_ ?_
                    · intro h98
                      refine q_aload_n (pc' := 17) ja_Reader_fail_16 rfl rfl ?_
                      refine q_bipush (pc' := 19) ja_Reader_fail_17 rfl 17 (by decide) ?_
                      refine q_putf (pc' := 22) ja_Reader_fail_19 rfl (by decide) rfl rfl rfl ?_
                      intro s82 e82
                      refine q_vret ja_Reader_fail_22 rfl ?_
                      show q_W _ _ _ _ 136 [some (.ref 117), some (.int (s61 118 (s61 117 2).toNatClampNeg))] [] s82
                      refine q_vret ja_Reader_readSign_136 rfl ?_
                      show q_W _ _ _ _ 127 [some (.ref 117)] [] s82
                      exact q_vret ja_Reader_goOn_127 rfl (k53 h36 h72 h73 s61 e61 h74 h78 h82 h94 h95 h96 s80 e80 h97 h98 s82 e82)
                    · intro h99
                      refine q_aload_n (pc' := 9) ja_Reader_fail_8 rfl rfl ?_
                      refine q_aload_n (pc' := 10) ja_Reader_fail_9 rfl rfl ?_
                      refine q_getf (pc' := 13) (v := .int (s80 117 2)) ja_Reader_fail_10 rfl (by decide) ⟨rfl, by decide⟩ rfl ?_
                      refine q_putf (pc' := 16) ja_Reader_fail_13 rfl (by decide) rfl rfl rfl ?_
                      intro s83 e83
                      refine q_aload_n (pc' := 17) ja_Reader_fail_16 rfl rfl ?_
                      refine q_bipush (pc' := 19) ja_Reader_fail_17 rfl 17 (by decide) ?_
                      refine q_putf (pc' := 22) ja_Reader_fail_19 rfl (by decide) rfl rfl rfl ?_
                      intro s84 e84
                      refine q_vret ja_Reader_fail_22 rfl ?_
                      show q_W _ _ _ _ 136 [some (.ref 117), some (.int (s61 118 (s61 117 2).toNatClampNeg))] [] s84
                      refine q_vret ja_Reader_readSign_136 rfl ?_
                      show q_W _ _ _ _ 127 [some (.ref 117)] [] s84
                      exact q_vret ja_Reader_goOn_127 rfl (k54 h36 h72 h73 s61 e61 h74 h78 h82 h94 h95 h96 s80 e80 h97 h99 s83 e83 s84 e84)
                  · intro h100
                    refine q_aload_n (pc' := 11) ja_Reader_isDigit_10 rfl rfl ?_
                    refine q_iload_n (pc' := 12) ja_Reader_isDigit_11 rfl rfl ?_
                    refine q_virt (pc' := 15) (c := 117) (as := [.int (s61 117 2)]) (r := []) ja_Reader_isDigit_12 rfl rfl rfl (by decide) ⟨rfl, by decide⟩ ?_
                    refine q_in (M := jm_Reader_byteAt) rfl (Nat.le_of_ble_eq_true rfl) (ls := [some (.ref 117), some (.int (s61 117 2))]) rfl ?_
                    refine q_iload_n (pc' := 1) ja_Reader_byteAt_0 rfl rfl ?_
                    refine q_if_lt (pc' := 4) ja_Reader_byteAt_1 rfl (fun h => absurd h (h78)) (fun _ => ?_)
                    refine q_iload_n (pc' := 5) ja_Reader_byteAt_4 rfl rfl ?_
                    refine q_aload_n (pc' := 6) ja_Reader_byteAt_5 rfl rfl ?_
                    refine q_getf (pc' := 9) (v := .int (s61 117 1)) ja_Reader_byteAt_6 rfl (by decide) ⟨rfl, by decide⟩ rfl ?_
                    refine q_ic_ge (pc' := 12) ja_Reader_byteAt_9 rfl (fun h => absurd (h74) h) (fun _ => ?_)
                    refine q_iload_n (pc' := 13) ja_Reader_byteAt_12 rfl rfl ?_
                    refine q_aload_n (pc' := 14) ja_Reader_byteAt_13 rfl rfl ?_
                    refine q_getf (pc' := 17) (v := .ref 118) ja_Reader_byteAt_14 rfl (by decide) ⟨rfl, by decide⟩ rfl ?_
                    refine q_alen (pc' := 18) ja_Reader_byteAt_17 rfl (by decide) (kd := 13) (l := 200) rfl (by decide) (v := 200) (by decide) ?_
                    refine q_ic_ge (pc' := 21) ja_Reader_byteAt_18 rfl (fun h => absurd (h82) h) (fun _ => ?_)
                    refine q_aload_n (pc' := 22) ja_Reader_byteAt_21 rfl rfl ?_
                    refine q_getf (pc' := 25) (v := .ref 118) ja_Reader_byteAt_22 rfl (by decide) ⟨rfl, by decide⟩ rfl ?_
                    refine q_iload_n (pc' := 26) ja_Reader_byteAt_25 rfl rfl ?_
                    refine q_iald (pc' := 27) (v := .int (s61 118 (s61 117 2).toNatClampNeg)) ja_Reader_byteAt_26 rfl (by decide) (l := 200) rfl (q_inr (l := 200) (by decide) h78 h82) rfl ?_
                    refine q_goto ja_Reader_byteAt_27 ?_
                    refine q_iret ja_Reader_byteAt_31 rfl rfl ?_
                    show q_W _ _ _ _ 15 [some (.ref 117), some (.int (s61 117 2))] [.int (s61 118 (s61 117 2).toNatClampNeg)] s61
                    refine q_bipush (pc' := 17) ja_Reader_isDigit_15 rfl 57 (by decide) ?_
                    refine q_ic_gt (pc' := 20) ja_Reader_isDigit_17 rfl ?_ ?_
                    · intro h101
                      refine q_iconst (pc' := 25) ja_Reader_isDigit_24 rfl 0 (by decide) ?_
                      refine q_iret ja_Reader_isDigit_25 rfl (by decide) ?_
                      show q_W _ _ _ _ 113 [some (.ref 117)] [.int 0] s61
                      refine q_if_eq (pc' := 116) ja_Reader_goOn_113 rfl (fun _ => ?_) (fun h => absurd ((by decide : (0 : Int32) = 0)) h)
                      refine q_aload_n (pc' := 124) ja_Reader_goOn_123 rfl rfl ?_
                      refine q_virt (pc' := 127) (c := 117) (as := []) (r := []) ja_Reader_goOn_124 rfl rfl rfl (by decide) ⟨rfl, by decide⟩ ?_
                      refine q_in (M := jm_Reader_readSign) rfl (Nat.le_of_ble_eq_true rfl) (ls := [some (.ref 117), none]) rfl ?_
                      refine q_aload_n (pc' := 1) ja_Reader_readSign_0 rfl rfl ?_
                      refine q_aload_n (pc' := 2) ja_Reader_readSign_1 rfl rfl ?_
                      refine q_getf (pc' := 5) (v := .int (s61 117 2)) ja_Reader_readSign_2 rfl (by decide) ⟨rfl, by decide⟩ rfl ?_
                      refine q_virt (pc' := 8) (c := 117) (as := [.int (s61 117 2)]) (r := []) ja_Reader_readSign_5 rfl rfl rfl (by decide) ⟨rfl, by decide⟩ ?_
                      refine q_in (M := jm_Reader_byteAt) rfl (Nat.le_of_ble_eq_true rfl) (ls := [some (.ref 117), some (.int (s61 117 2))]) rfl ?_
                      refine q_iload_n (pc' := 1) ja_Reader_byteAt_0 rfl rfl ?_
                      refine q_if_lt (pc' := 4) ja_Reader_byteAt_1 rfl (fun h => absurd h (h78)) (fun _ => ?_)
                      refine q_iload_n (pc' := 5) ja_Reader_byteAt_4 rfl rfl ?_
                      refine q_aload_n (pc' := 6) ja_Reader_byteAt_5 rfl rfl ?_
                      refine q_getf (pc' := 9) (v := .int (s61 117 1)) ja_Reader_byteAt_6 rfl (by decide) ⟨rfl, by decide⟩ rfl ?_
                      refine q_ic_ge (pc' := 12) ja_Reader_byteAt_9 rfl (fun h => absurd (h74) h) (fun _ => ?_)
                      refine q_iload_n (pc' := 13) ja_Reader_byteAt_12 rfl rfl ?_
                      refine q_aload_n (pc' := 14) ja_Reader_byteAt_13 rfl rfl ?_
                      refine q_getf (pc' := 17) (v := .ref 118) ja_Reader_byteAt_14 rfl (by decide) ⟨rfl, by decide⟩ rfl ?_
                      refine q_alen (pc' := 18) ja_Reader_byteAt_17 rfl (by decide) (kd := 13) (l := 200) rfl (by decide) (v := 200) (by decide) ?_
                      refine q_ic_ge (pc' := 21) ja_Reader_byteAt_18 rfl (fun h => absurd (h82) h) (fun _ => ?_)
                      refine q_aload_n (pc' := 22) ja_Reader_byteAt_21 rfl rfl ?_
                      refine q_getf (pc' := 25) (v := .ref 118) ja_Reader_byteAt_22 rfl (by decide) ⟨rfl, by decide⟩ rfl ?_
                      refine q_iload_n (pc' := 26) ja_Reader_byteAt_25 rfl rfl ?_
                      refine q_iald (pc' := 27) (v := .int (s61 118 (s61 117 2).toNatClampNeg)) ja_Reader_byteAt_26 rfl (by decide) (l := 200) rfl (q_inr (l := 200) (by decide) h78 h82) rfl ?_
                      refine q_goto ja_Reader_byteAt_27 ?_
                      refine q_iret ja_Reader_byteAt_31 rfl rfl ?_
                      show q_W _ _ _ _ 8 [some (.ref 117), none] [.int (s61 118 (s61 117 2).toNatClampNeg)] s61
                      refine q_istore_n (pc' := 9) (ls' := [some (.ref 117), some (.int (s61 118 (s61 117 2).toNatClampNeg))]) ja_Reader_readSign_8 rfl ⟨Nat.le_of_ble_eq_true rfl, rfl⟩ rfl ?_
                      refine q_aload_n (pc' := 10) ja_Reader_readSign_9 rfl rfl ?_
                      refine q_dup (pc' := 11) ja_Reader_readSign_10 rfl rfl ?_
                      refine q_getf (pc' := 14) (v := .int (s61 117 3)) ja_Reader_readSign_11 rfl (by decide) ⟨rfl, by decide⟩ rfl ?_
                      refine q_iconst (pc' := 15) ja_Reader_readSign_14 rfl 1 (by decide) ?_
                      refine q_iadd (pc' := 16) ja_Reader_readSign_15 rfl ?_
                      refine q_putf (pc' := 19) ja_Reader_readSign_16 rfl (by decide) rfl rfl rfl ?_
                      intro s85 e85
                      refine q_iload_n (pc' := 20) ja_Reader_readSign_19 rfl rfl ?_
                      by_cases h102 : ((s61 118 (s61 117 2).toNatClampNeg) = 40 ∨ (s61 118 (s61 117 2).toNatClampNeg) = 41 ∨ (s61 118 (s61 117 2).toNatClampNeg) = 42 ∨ (s61 118 (s61 117 2).toNatClampNeg) = 43 ∨ (s61 118 (s61 117 2).toNatClampNeg) = 45 ∨ (s61 118 (s61 117 2).toNatClampNeg) = 59 ∨ (s61 118 (s61 117 2).toNatClampNeg) = 60 ∨ (s61 118 (s61 117 2).toNatClampNeg) = 61)
                      · refine q_swE (pc' := 124) ja_Reader_readSign_20 (by rcases h102 with e | e | e | e | e | e | e | e <;> (rw [e]; decide)) (by rcases h102 with e | e | e | e | e | e | e | e <;> (rw [e]; exact ⟨_, rfl, rfl⟩)) ?_
                        refine q_aload_n (pc' := 125) ja_Reader_readSign_124 rfl rfl ?_
                        refine q_iload_n (pc' := 126) ja_Reader_readSign_125 rfl rfl ?_
                        refine q_putf (pc' := 129) ja_Reader_readSign_126 rfl (by decide) rfl rfl rfl ?_
                        intro s86 e86
                        refine q_goto ja_Reader_readSign_129 ?_
                        refine q_vret ja_Reader_readSign_136 rfl ?_
                        show q_W _ _ _ _ 127 [some (.ref 117)] [] s86
                        exact q_vret ja_Reader_goOn_127 rfl (k55 h36 h72 h73 s61 e61 h74 h78 h82 h94 h95 h100 h101 s85 e85 h102 s86 e86)
                      refine q_swD (pc' := 132) ja_Reader_readSign_20 [40, 41, 42, 43, 45, 59, 60, 61] (List.forall_mem_cons.mpr ⟨fun e => h102 (by rw [e]; decide), (List.forall_mem_cons.mpr ⟨fun e => h102 (by rw [e]; decide), (List.forall_mem_cons.mpr ⟨fun e => h102 (by rw [e]; decide), (List.forall_mem_cons.mpr ⟨fun e => h102 (by rw [e]; decide), (List.forall_mem_cons.mpr ⟨fun e => h102 (by rw [e]; decide), (List.forall_mem_cons.mpr ⟨fun e => h102 (by rw [e]; decide), (List.forall_mem_cons.mpr ⟨fun e => h102 (by rw [e]; decide), (List.forall_mem_cons.mpr ⟨fun e => h102 (by rw [e]; decide), (List.forall_mem_nil _)⟩)⟩)⟩)⟩)⟩)⟩)⟩)⟩) (by decide) rfl ?_
                      refine q_aload_n (pc' := 133) ja_Reader_readSign_132 rfl rfl ?_
                      refine q_virt (pc' := 136) (c := 117) (as := []) (r := []) ja_Reader_readSign_133 rfl rfl rfl (by decide) ⟨rfl, by decide⟩ ?_
                      refine q_in (M := jm_Reader_fail) rfl (Nat.le_of_ble_eq_true rfl) (ls := [some (.ref 117)]) rfl ?_
                      refine q_aload_n (pc' := 1) ja_Reader_fail_0 rfl rfl ?_
                      refine q_getf (pc' := 4) (v := .int (s85 117 7)) ja_Reader_fail_1 rfl (by decide) ⟨rfl, by decide⟩ rfl ?_
                      refine q_iconst (pc' := 5) ja_Reader_fail_4 rfl (-1) (by decide) ?_
                      refine q_ic_ne (pc' := 8) ja_Reader_fail_5 rfl ?_ ?_
                      · intro h103
                        refine q_aload_n (pc' := 17) ja_Reader_fail_16 rfl rfl ?_
                        refine q_bipush (pc' := 19) ja_Reader_fail_17 rfl 17 (by decide) ?_
                        refine q_putf (pc' := 22) ja_Reader_fail_19 rfl (by decide) rfl rfl rfl ?_
                        intro s87 e87
                        refine q_vret ja_Reader_fail_22 rfl ?_
                        show q_W _ _ _ _ 136 [some (.ref 117), some (.int (s61 118 (s61 117 2).toNatClampNeg))] [] s87
                        refine q_vret ja_Reader_readSign_136 rfl ?_
                        show q_W _ _ _ _ 127 [some (.ref 117)] [] s87
                        exact q_vret ja_Reader_goOn_127 rfl (k56 h36 h72 h73 s61 e61 h74 h78 h82 h94 h95 h100 h101 s85 e85 h102 h103 s87 e87)
                      · intro h104
                        refine q_aload_n (pc' := 9) ja_Reader_fail_8 rfl rfl ?_
                        refine q_aload_n (pc' := 10) ja_Reader_fail_9 rfl rfl ?_
                        refine q_getf (pc' := 13) (v := .int (s85 117 2)) ja_Reader_fail_10 rfl (by decide) ⟨rfl, by decide⟩ rfl ?_
                        refine q_putf (pc' := 16) ja_Reader_fail_13 rfl (by decide) rfl rfl rfl ?_
                        intro s88 e88
                        refine q_aload_n (pc' := 17) ja_Reader_fail_16 rfl rfl ?_
                        refine q_bipush (pc' := 19) ja_Reader_fail_17 rfl 17 (by decide) ?_
                        refine q_putf (pc' := 22) ja_Reader_fail_19 rfl (by decide) rfl rfl rfl ?_
                        intro s89 e89
                        refine q_vret ja_Reader_fail_22 rfl ?_
                        show q_W _ _ _ _ 136 [some (.ref 117), some (.int (s61 118 (s61 117 2).toNatClampNeg))] [] s89
                        refine q_vret ja_Reader_readSign_136 rfl ?_
                        show q_W _ _ _ _ 127 [some (.ref 117)] [] s89
                        exact q_vret ja_Reader_goOn_127 rfl (k57 h36 h72 h73 s61 e61 h74 h78 h82 h94 h95 h100 h101 s85 e85 h102 h104 s88 e88 s89 e89)
                    · intro h105
                      refine q_iconst (pc' := 21) ja_Reader_isDigit_20 rfl 1 (by decide) ?_
                      refine q_goto ja_Reader_isDigit_21 ?_
                      refine q_iret ja_Reader_isDigit_25 rfl (by decide) ?_
                      show q_W _ _ _ _ 113 [some (.ref 117)] [.int 1] s61
                      refine q_if_eq (pc' := 116) ja_Reader_goOn_113 rfl (fun h => absurd h ((by decide : ¬ (1 : Int32) = 0))) (fun _ => ?_)
                      refine q_aload_n (pc' := 117) ja_Reader_goOn_116 rfl rfl ?_
                      refine q_virt (pc' := 120) (c := 117) (as := []) (r := []) ja_Reader_goOn_117 rfl rfl rfl (by decide) ⟨rfl, by decide⟩ ?_
                      exact (k58 h36 h72 h73 s61 e61 h74 h78 h82 h94 h95 h100 h105)
                · intro h106
                  refine q_iconst (pc' := 21) ja_Reader_isLetter_20 rfl 1 (by decide) ?_
                  refine q_goto ja_Reader_isLetter_21 ?_
                  refine q_iret ja_Reader_isLetter_25 rfl (by decide) ?_
                  show q_W _ _ _ _ 95 [some (.ref 117)] [.int 1] s61
                  refine q_if_eq (pc' := 98) ja_Reader_goOn_95 rfl (fun h => absurd h ((by decide : ¬ (1 : Int32) = 0))) (fun _ => ?_)
                  refine q_aload_n (pc' := 99) ja_Reader_goOn_98 rfl rfl ?_
                  refine q_virt (pc' := 102) (c := 117) (as := []) (r := []) ja_Reader_goOn_99 rfl rfl rfl (by decide) ⟨rfl, by decide⟩ ?_
                  exact (k59 h36 h72 h73 s61 e61 h74 h78 h82 h94 h106)
        · intro h107
          refine q_aload_n (pc' := 79) ja_Reader_goOn_78 rfl rfl ?_
          refine q_bipush (pc' := 81) ja_Reader_goOn_79 rfl 16 (by decide) ?_
          refine q_putf (pc' := 84) ja_Reader_goOn_81 rfl (by decide) rfl rfl rfl ?_
          intro s90 e90
          refine q_goto ja_Reader_goOn_84 ?_
          exact q_vret ja_Reader_goOn_127 rfl (k60 h36 h72 h73 s61 e61 h107 s90 e90)
      · intro h108
        refine q_aload_n (pc' := 22) ja_Reader_byteAt_21 rfl rfl ?_
        refine q_getf (pc' := 25) (v := .ref 118) ja_Reader_byteAt_22 rfl (by decide) ⟨rfl, by decide⟩ rfl ?_
        refine q_iload_n (pc' := 26) ja_Reader_byteAt_25 rfl rfl ?_
        refine q_iald (pc' := 27) (v := .int (s 118 (s 117 3).toNatClampNeg)) ja_Reader_byteAt_26 rfl (by decide) (l := 200) rfl (q_inr (l := 200) (by decide) h72 h108) rfl ?_
        refine q_goto ja_Reader_byteAt_27 ?_
        refine q_iret ja_Reader_byteAt_31 rfl rfl ?_
        show q_W _ _ _ _ 28 [some (.ref 117)] [.int (s 118 (s 117 3).toNatClampNeg)] s
        refine q_bipush (pc' := 30) ja_Reader_goOn_28 rfl 32 (by decide) ?_
        refine q_ic_eq (pc' := 33) ja_Reader_goOn_30 rfl ?_ ?_
        · intro h109
          refine q_aload_n (pc' := 47) ja_Reader_goOn_46 rfl rfl ?_
          refine q_dup (pc' := 48) ja_Reader_goOn_47 rfl rfl ?_
          refine q_getf (pc' := 51) (v := .int (s 117 3)) ja_Reader_goOn_48 rfl (by decide) ⟨rfl, by decide⟩ rfl ?_
          refine q_iconst (pc' := 52) ja_Reader_goOn_51 rfl 1 (by decide) ?_
          refine q_iadd (pc' := 53) ja_Reader_goOn_52 rfl ?_
          refine q_putf (pc' := 56) ja_Reader_goOn_53 rfl (by decide) rfl rfl rfl ?_
          intro s91 e91
          refine q_goto ja_Reader_goOn_56 ?_
          exact (k61 h36 h72 h108 h109 s91 e91)
        · intro h110
          refine q_aload_n (pc' := 34) ja_Reader_goOn_33 rfl rfl ?_
          refine q_aload_n (pc' := 35) ja_Reader_goOn_34 rfl rfl ?_
          refine q_getf (pc' := 38) (v := .int (s 117 3)) ja_Reader_goOn_35 rfl (by decide) ⟨rfl, by decide⟩ rfl ?_
          refine q_virt (pc' := 41) (c := 117) (as := [.int (s 117 3)]) (r := []) ja_Reader_goOn_38 rfl rfl rfl (by decide) ⟨rfl, by decide⟩ ?_
          refine q_in (M := jm_Reader_byteAt) rfl (Nat.le_of_ble_eq_true rfl) (ls := [some (.ref 117), some (.int (s 117 3))]) rfl ?_
          refine q_iload_n (pc' := 1) ja_Reader_byteAt_0 rfl rfl ?_
          refine q_if_lt (pc' := 4) ja_Reader_byteAt_1 rfl (fun h => absurd h (h72)) (fun _ => ?_)
          refine q_iload_n (pc' := 5) ja_Reader_byteAt_4 rfl rfl ?_
          refine q_aload_n (pc' := 6) ja_Reader_byteAt_5 rfl rfl ?_
          refine q_getf (pc' := 9) (v := .int (s 117 1)) ja_Reader_byteAt_6 rfl (by decide) ⟨rfl, by decide⟩ rfl ?_
          refine q_ic_ge (pc' := 12) ja_Reader_byteAt_9 rfl (fun h => absurd (h36) h) (fun _ => ?_)
          refine q_iload_n (pc' := 13) ja_Reader_byteAt_12 rfl rfl ?_
          refine q_aload_n (pc' := 14) ja_Reader_byteAt_13 rfl rfl ?_
          refine q_getf (pc' := 17) (v := .ref 118) ja_Reader_byteAt_14 rfl (by decide) ⟨rfl, by decide⟩ rfl ?_
          refine q_alen (pc' := 18) ja_Reader_byteAt_17 rfl (by decide) (kd := 13) (l := 200) rfl (by decide) (v := 200) (by decide) ?_
          refine q_ic_ge (pc' := 21) ja_Reader_byteAt_18 rfl (fun h => absurd (h108) h) (fun _ => ?_)
          refine q_aload_n (pc' := 22) ja_Reader_byteAt_21 rfl rfl ?_
          refine q_getf (pc' := 25) (v := .ref 118) ja_Reader_byteAt_22 rfl (by decide) ⟨rfl, by decide⟩ rfl ?_
          refine q_iload_n (pc' := 26) ja_Reader_byteAt_25 rfl rfl ?_
          refine q_iald (pc' := 27) (v := .int (s 118 (s 117 3).toNatClampNeg)) ja_Reader_byteAt_26 rfl (by decide) (l := 200) rfl (q_inr (l := 200) (by decide) h72 h108) rfl ?_
          refine q_goto ja_Reader_byteAt_27 ?_
          refine q_iret ja_Reader_byteAt_31 rfl rfl ?_
          show q_W _ _ _ _ 41 [some (.ref 117)] [.int (s 118 (s 117 3).toNatClampNeg)] s
          refine q_bipush (pc' := 43) ja_Reader_goOn_41 rfl 10 (by decide) ?_
          refine q_ic_ne (pc' := 46) ja_Reader_goOn_43 rfl ?_ ?_
          · intro h111
            refine q_aload_n (pc' := 60) ja_Reader_goOn_59 rfl rfl ?_
            refine q_aload_n (pc' := 61) ja_Reader_goOn_60 rfl rfl ?_
            refine q_getf (pc' := 64) (v := .int (s 117 3)) ja_Reader_goOn_61 rfl (by decide) ⟨rfl, by decide⟩ rfl ?_
            refine q_putf (pc' := 67) ja_Reader_goOn_64 rfl (by decide) rfl rfl rfl ?_
            intro s92 e92
            refine q_aload_n (pc' := 68) ja_Reader_goOn_67 rfl rfl ?_
            refine q_getf (pc' := 71) (v := .int (s92 117 2)) ja_Reader_goOn_68 rfl (by decide) ⟨rfl, by decide⟩ rfl ?_
            refine q_aload_n (pc' := 72) ja_Reader_goOn_71 rfl rfl ?_
            refine q_getf (pc' := 75) (v := .int (s92 117 1)) ja_Reader_goOn_72 rfl (by decide) ⟨rfl, by decide⟩ rfl ?_
            refine q_ic_lt (pc' := 78) ja_Reader_goOn_75 rfl ?_ ?_
            · intro h112
              refine q_aload_n (pc' := 88) ja_Reader_goOn_87 rfl rfl ?_
              refine q_aload_n (pc' := 89) ja_Reader_goOn_88 rfl rfl ?_
              refine q_getf (pc' := 92) (v := .int (s92 117 2)) ja_Reader_goOn_89 rfl (by decide) ⟨rfl, by decide⟩ rfl ?_
              refine q_virt (pc' := 95) (c := 117) (as := [.int (s92 117 2)]) (r := []) ja_Reader_goOn_92 rfl rfl rfl (by decide) ⟨rfl, by decide⟩ ?_
              refine q_in (M := jm_Reader_isLetter) rfl (Nat.le_of_ble_eq_true rfl) (ls := [some (.ref 117), some (.int (s92 117 2))]) rfl ?_
              refine q_aload_n (pc' := 1) ja_Reader_isLetter_0 rfl rfl ?_
              refine q_iload_n (pc' := 2) ja_Reader_isLetter_1 rfl rfl ?_
              refine q_virt (pc' := 5) (c := 117) (as := [.int (s92 117 2)]) (r := []) ja_Reader_isLetter_2 rfl rfl rfl (by decide) ⟨rfl, by decide⟩ ?_
              refine q_in (M := jm_Reader_byteAt) rfl (Nat.le_of_ble_eq_true rfl) (ls := [some (.ref 117), some (.int (s92 117 2))]) rfl ?_
              refine q_iload_n (pc' := 1) ja_Reader_byteAt_0 rfl rfl ?_
              refine q_if_lt (pc' := 4) ja_Reader_byteAt_1 rfl ?_ ?_
              · intro h113
                refine q_iconst (pc' := 31) ja_Reader_byteAt_30 rfl 0 (by decide) ?_
                refine q_iret ja_Reader_byteAt_31 rfl rfl ?_
                show q_W _ _ _ _ 5 [some (.ref 117), some (.int (s92 117 2))] [.int 0] s92
                refine q_bipush (pc' := 7) ja_Reader_isLetter_5 rfl 97 (by decide) ?_
                refine q_ic_lt (pc' := 10) ja_Reader_isLetter_7 rfl (fun _ => ?_) (fun h => absurd ((by decide : (0 : Int32) < 97)) h)
                refine q_iconst (pc' := 25) ja_Reader_isLetter_24 rfl 0 (by decide) ?_
                refine q_iret ja_Reader_isLetter_25 rfl (by decide) ?_
                show q_W _ _ _ _ 95 [some (.ref 117)] [.int 0] s92
                refine q_if_eq (pc' := 98) ja_Reader_goOn_95 rfl (fun _ => ?_) (fun h => absurd ((by decide : (0 : Int32) = 0)) h)
                refine q_aload_n (pc' := 106) ja_Reader_goOn_105 rfl rfl ?_
                refine q_aload_n (pc' := 107) ja_Reader_goOn_106 rfl rfl ?_
                refine q_getf (pc' := 110) (v := .int (s92 117 2)) ja_Reader_goOn_107 rfl (by decide) ⟨rfl, by decide⟩ rfl ?_
                refine q_virt (pc' := 113) (c := 117) (as := [.int (s92 117 2)]) (r := []) ja_Reader_goOn_110 rfl rfl rfl (by decide) ⟨rfl, by decide⟩ ?_
                refine q_in (M := jm_Reader_isDigit) rfl (Nat.le_of_ble_eq_true rfl) (ls := [some (.ref 117), some (.int (s92 117 2))]) rfl ?_
                refine q_aload_n (pc' := 1) ja_Reader_isDigit_0 rfl rfl ?_
                refine q_iload_n (pc' := 2) ja_Reader_isDigit_1 rfl rfl ?_
                refine q_virt (pc' := 5) (c := 117) (as := [.int (s92 117 2)]) (r := []) ja_Reader_isDigit_2 rfl rfl rfl (by decide) ⟨rfl, by decide⟩ ?_
                refine q_in (M := jm_Reader_byteAt) rfl (Nat.le_of_ble_eq_true rfl) (ls := [some (.ref 117), some (.int (s92 117 2))]) rfl ?_
                refine q_iload_n (pc' := 1) ja_Reader_byteAt_0 rfl rfl ?_
                refine q_if_lt (pc' := 4) ja_Reader_byteAt_1 rfl (fun _ => ?_) (fun h => absurd (h113) h)
                refine q_iconst (pc' := 31) ja_Reader_byteAt_30 rfl 0 (by decide) ?_
                refine q_iret ja_Reader_byteAt_31 rfl rfl ?_
                show q_W _ _ _ _ 5 [some (.ref 117), some (.int (s92 117 2))] [.int 0] s92
                refine q_bipush (pc' := 7) ja_Reader_isDigit_5 rfl 48 (by decide) ?_
                refine q_ic_lt (pc' := 10) ja_Reader_isDigit_7 rfl (fun _ => ?_) (fun h => absurd ((by decide : (0 : Int32) < 48)) h)
                refine q_iconst (pc' := 25) ja_Reader_isDigit_24 rfl 0 (by decide) ?_
                refine q_iret ja_Reader_isDigit_25 rfl (by decide) ?_
                show q_W _ _ _ _ 113 [some (.ref 117)] [.int 0] s92
                refine q_if_eq (pc' := 116) ja_Reader_goOn_113 rfl (fun _ => ?_) (fun h => absurd ((by decide : (0 : Int32) = 0)) h)
                refine q_aload_n (pc' := 124) ja_Reader_goOn_123 rfl rfl ?_
                refine q_virt (pc' := 127) (c := 117) (as := []) (r := []) ja_Reader_goOn_124 rfl rfl rfl (by decide) ⟨rfl, by decide⟩ ?_
                refine q_in (M := jm_Reader_readSign) rfl (Nat.le_of_ble_eq_true rfl) (ls := [some (.ref 117), none]) rfl ?_
                refine q_aload_n (pc' := 1) ja_Reader_readSign_0 rfl rfl ?_
                refine q_aload_n (pc' := 2) ja_Reader_readSign_1 rfl rfl ?_
                refine q_getf (pc' := 5) (v := .int (s92 117 2)) ja_Reader_readSign_2 rfl (by decide) ⟨rfl, by decide⟩ rfl ?_
                refine q_virt (pc' := 8) (c := 117) (as := [.int (s92 117 2)]) (r := []) ja_Reader_readSign_5 rfl rfl rfl (by decide) ⟨rfl, by decide⟩ ?_
                refine q_in (M := jm_Reader_byteAt) rfl (Nat.le_of_ble_eq_true rfl) (ls := [some (.ref 117), some (.int (s92 117 2))]) rfl ?_
                refine q_iload_n (pc' := 1) ja_Reader_byteAt_0 rfl rfl ?_
                refine q_if_lt (pc' := 4) ja_Reader_byteAt_1 rfl (fun _ => ?_) (fun h => absurd (h113) h)
                refine q_iconst (pc' := 31) ja_Reader_byteAt_30 rfl 0 (by decide) ?_
                refine q_iret ja_Reader_byteAt_31 rfl rfl ?_
                show q_W _ _ _ _ 8 [some (.ref 117), none] [.int 0] s92
                refine q_istore_n (pc' := 9) (ls' := [some (.ref 117), some (.int 0)]) ja_Reader_readSign_8 rfl ⟨Nat.le_of_ble_eq_true rfl, rfl⟩ rfl ?_
                refine q_aload_n (pc' := 10) ja_Reader_readSign_9 rfl rfl ?_
                refine q_dup (pc' := 11) ja_Reader_readSign_10 rfl rfl ?_
                refine q_getf (pc' := 14) (v := .int (s92 117 3)) ja_Reader_readSign_11 rfl (by decide) ⟨rfl, by decide⟩ rfl ?_
                refine q_iconst (pc' := 15) ja_Reader_readSign_14 rfl 1 (by decide) ?_
                refine q_iadd (pc' := 16) ja_Reader_readSign_15 rfl ?_
                refine q_putf (pc' := 19) ja_Reader_readSign_16 rfl (by decide) rfl rfl rfl ?_
                intro s93 e93
                refine q_iload_n (pc' := 20) ja_Reader_readSign_19 rfl rfl ?_
                refine q_swOut (pc' := 132) ja_Reader_readSign_20 (by decide) (by decide) ?_
                refine q_aload_n (pc' := 133) ja_Reader_readSign_132 rfl rfl ?_
                refine q_virt (pc' := 136) (c := 117) (as := []) (r := []) ja_Reader_readSign_133 rfl rfl rfl (by decide) ⟨rfl, by decide⟩ ?_
                refine q_in (M := jm_Reader_fail) rfl (Nat.le_of_ble_eq_true rfl) (ls := [some (.ref 117)]) rfl ?_
                refine q_aload_n (pc' := 1) ja_Reader_fail_0 rfl rfl ?_
                refine q_getf (pc' := 4) (v := .int (s93 117 7)) ja_Reader_fail_1 rfl (by decide) ⟨rfl, by decide⟩ rfl ?_
                refine q_iconst (pc' := 5) ja_Reader_fail_4 rfl (-1) (by decide) ?_
                refine q_ic_ne (pc' := 8) ja_Reader_fail_5 rfl ?_ ?_
                · intro h114
                  refine q_aload_n (pc' := 17) ja_Reader_fail_16 rfl rfl ?_
                  refine q_bipush (pc' := 19) ja_Reader_fail_17 rfl 17 (by decide) ?_
                  refine q_putf (pc' := 22) ja_Reader_fail_19 rfl (by decide) rfl rfl rfl ?_
                  intro s94 e94
                  refine q_vret ja_Reader_fail_22 rfl ?_
                  show q_W _ _ _ _ 136 [some (.ref 117), some (.int 0)] [] s94
                  refine q_vret ja_Reader_readSign_136 rfl ?_
                  show q_W _ _ _ _ 127 [some (.ref 117)] [] s94
                  exact q_vret ja_Reader_goOn_127 rfl (k62 h36 h72 h108 h110 h111 s92 e92 h112 h113 s93 e93 h114 s94 e94)
                · intro h115
                  refine q_aload_n (pc' := 9) ja_Reader_fail_8 rfl rfl ?_
                  refine q_aload_n (pc' := 10) ja_Reader_fail_9 rfl rfl ?_
                  refine q_getf (pc' := 13) (v := .int (s93 117 2)) ja_Reader_fail_10 rfl (by decide) ⟨rfl, by decide⟩ rfl ?_
                  refine q_putf (pc' := 16) ja_Reader_fail_13 rfl (by decide) rfl rfl rfl ?_
                  intro s95 e95
                  refine q_aload_n (pc' := 17) ja_Reader_fail_16 rfl rfl ?_
                  refine q_bipush (pc' := 19) ja_Reader_fail_17 rfl 17 (by decide) ?_
                  refine q_putf (pc' := 22) ja_Reader_fail_19 rfl (by decide) rfl rfl rfl ?_
                  intro s96 e96
                  refine q_vret ja_Reader_fail_22 rfl ?_
                  show q_W _ _ _ _ 136 [some (.ref 117), some (.int 0)] [] s96
                  refine q_vret ja_Reader_readSign_136 rfl ?_
                  show q_W _ _ _ _ 127 [some (.ref 117)] [] s96
                  exact q_vret ja_Reader_goOn_127 rfl (k63 h36 h72 h108 h110 h111 s92 e92 h112 h113 s93 e93 h115 s95 e95 s96 e96)
              · intro h116
                refine q_iload_n (pc' := 5) ja_Reader_byteAt_4 rfl rfl ?_
                refine q_aload_n (pc' := 6) ja_Reader_byteAt_5 rfl rfl ?_
                refine q_getf (pc' := 9) (v := .int (s92 117 1)) ja_Reader_byteAt_6 rfl (by decide) ⟨rfl, by decide⟩ rfl ?_
                refine q_ic_ge (pc' := 12) ja_Reader_byteAt_9 rfl (fun h => absurd (h112) h) (fun _ => ?_)
                refine q_iload_n (pc' := 13) ja_Reader_byteAt_12 rfl rfl ?_
                refine q_aload_n (pc' := 14) ja_Reader_byteAt_13 rfl rfl ?_
                refine q_getf (pc' := 17) (v := .ref 118) ja_Reader_byteAt_14 rfl (by decide) ⟨rfl, by decide⟩ rfl ?_
                refine q_alen (pc' := 18) ja_Reader_byteAt_17 rfl (by decide) (kd := 13) (l := 200) rfl (by decide) (v := 200) (by decide) ?_
                refine q_ic_ge (pc' := 21) ja_Reader_byteAt_18 rfl ?_ ?_
                · intro h117
                  refine q_iconst (pc' := 31) ja_Reader_byteAt_30 rfl 0 (by decide) ?_
                  refine q_iret ja_Reader_byteAt_31 rfl rfl ?_
                  show q_W _ _ _ _ 5 [some (.ref 117), some (.int (s92 117 2))] [.int 0] s92
                  refine q_bipush (pc' := 7) ja_Reader_isLetter_5 rfl 97 (by decide) ?_
                  refine q_ic_lt (pc' := 10) ja_Reader_isLetter_7 rfl (fun _ => ?_) (fun h => absurd ((by decide : (0 : Int32) < 97)) h)
                  refine q_iconst (pc' := 25) ja_Reader_isLetter_24 rfl 0 (by decide) ?_
                  refine q_iret ja_Reader_isLetter_25 rfl (by decide) ?_
                  show q_W _ _ _ _ 95 [some (.ref 117)] [.int 0] s92
                  refine q_if_eq (pc' := 98) ja_Reader_goOn_95 rfl (fun _ => ?_) (fun h => absurd ((by decide : (0 : Int32) = 0)) h)
                  refine q_aload_n (pc' := 106) ja_Reader_goOn_105 rfl rfl ?_
                  refine q_aload_n (pc' := 107) ja_Reader_goOn_106 rfl rfl ?_
                  refine q_getf (pc' := 110) (v := .int (s92 117 2)) ja_Reader_goOn_107 rfl (by decide) ⟨rfl, by decide⟩ rfl ?_
                  refine q_virt (pc' := 113) (c := 117) (as := [.int (s92 117 2)]) (r := []) ja_Reader_goOn_110 rfl rfl rfl (by decide) ⟨rfl, by decide⟩ ?_
                  refine q_in (M := jm_Reader_isDigit) rfl (Nat.le_of_ble_eq_true rfl) (ls := [some (.ref 117), some (.int (s92 117 2))]) rfl ?_
                  refine q_aload_n (pc' := 1) ja_Reader_isDigit_0 rfl rfl ?_
                  refine q_iload_n (pc' := 2) ja_Reader_isDigit_1 rfl rfl ?_
                  refine q_virt (pc' := 5) (c := 117) (as := [.int (s92 117 2)]) (r := []) ja_Reader_isDigit_2 rfl rfl rfl (by decide) ⟨rfl, by decide⟩ ?_
                  refine q_in (M := jm_Reader_byteAt) rfl (Nat.le_of_ble_eq_true rfl) (ls := [some (.ref 117), some (.int (s92 117 2))]) rfl ?_
                  refine q_iload_n (pc' := 1) ja_Reader_byteAt_0 rfl rfl ?_
                  refine q_if_lt (pc' := 4) ja_Reader_byteAt_1 rfl (fun h => absurd h (h116)) (fun _ => ?_)
                  refine q_iload_n (pc' := 5) ja_Reader_byteAt_4 rfl rfl ?_
                  refine q_aload_n (pc' := 6) ja_Reader_byteAt_5 rfl rfl ?_
                  refine q_getf (pc' := 9) (v := .int (s92 117 1)) ja_Reader_byteAt_6 rfl (by decide) ⟨rfl, by decide⟩ rfl ?_
                  refine q_ic_ge (pc' := 12) ja_Reader_byteAt_9 rfl (fun h => absurd (h112) h) (fun _ => ?_)
                  refine q_iload_n (pc' := 13) ja_Reader_byteAt_12 rfl rfl ?_
                  refine q_aload_n (pc' := 14) ja_Reader_byteAt_13 rfl rfl ?_
                  refine q_getf (pc' := 17) (v := .ref 118) ja_Reader_byteAt_14 rfl (by decide) ⟨rfl, by decide⟩ rfl ?_
                  refine q_alen (pc' := 18) ja_Reader_byteAt_17 rfl (by decide) (kd := 13) (l := 200) rfl (by decide) (v := 200) (by decide) ?_
                  refine q_ic_ge (pc' := 21) ja_Reader_byteAt_18 rfl (fun _ => ?_) (fun h => absurd h (h117))
                  refine q_iconst (pc' := 31) ja_Reader_byteAt_30 rfl 0 (by decide) ?_
                  refine q_iret ja_Reader_byteAt_31 rfl rfl ?_
                  show q_W _ _ _ _ 5 [some (.ref 117), some (.int (s92 117 2))] [.int 0] s92
                  refine q_bipush (pc' := 7) ja_Reader_isDigit_5 rfl 48 (by decide) ?_
                  refine q_ic_lt (pc' := 10) ja_Reader_isDigit_7 rfl (fun _ => ?_) (fun h => absurd ((by decide : (0 : Int32) < 48)) h)
                  refine q_iconst (pc' := 25) ja_Reader_isDigit_24 rfl 0 (by decide) ?_
                  refine q_iret ja_Reader_isDigit_25 rfl (by decide) ?_
                  show q_W _ _ _ _ 113 [some (.ref 117)] [.int 0] s92
                  refine q_if_eq (pc' := 116) ja_Reader_goOn_113 rfl (fun _ => ?_) (fun h => absurd ((by decide : (0 : Int32) = 0)) h)
                  refine q_aload_n (pc' := 124) ja_Reader_goOn_123 rfl rfl ?_
                  refine q_virt (pc' := 127) (c := 117) (as := []) (r := []) ja_Reader_goOn_124 rfl rfl rfl (by decide) ⟨rfl, by decide⟩ ?_
                  refine q_in (M := jm_Reader_readSign) rfl (Nat.le_of_ble_eq_true rfl) (ls := [some (.ref 117), none]) rfl ?_
                  refine q_aload_n (pc' := 1) ja_Reader_readSign_0 rfl rfl ?_
                  refine q_aload_n (pc' := 2) ja_Reader_readSign_1 rfl rfl ?_
                  refine q_getf (pc' := 5) (v := .int (s92 117 2)) ja_Reader_readSign_2 rfl (by decide) ⟨rfl, by decide⟩ rfl ?_
                  refine q_virt (pc' := 8) (c := 117) (as := [.int (s92 117 2)]) (r := []) ja_Reader_readSign_5 rfl rfl rfl (by decide) ⟨rfl, by decide⟩ ?_
                  refine q_in (M := jm_Reader_byteAt) rfl (Nat.le_of_ble_eq_true rfl) (ls := [some (.ref 117), some (.int (s92 117 2))]) rfl ?_
                  refine q_iload_n (pc' := 1) ja_Reader_byteAt_0 rfl rfl ?_
                  refine q_if_lt (pc' := 4) ja_Reader_byteAt_1 rfl (fun h => absurd h (h116)) (fun _ => ?_)
                  refine q_iload_n (pc' := 5) ja_Reader_byteAt_4 rfl rfl ?_
                  refine q_aload_n (pc' := 6) ja_Reader_byteAt_5 rfl rfl ?_
                  refine q_getf (pc' := 9) (v := .int (s92 117 1)) ja_Reader_byteAt_6 rfl (by decide) ⟨rfl, by decide⟩ rfl ?_
                  refine q_ic_ge (pc' := 12) ja_Reader_byteAt_9 rfl (fun h => absurd (h112) h) (fun _ => ?_)
                  refine q_iload_n (pc' := 13) ja_Reader_byteAt_12 rfl rfl ?_
                  refine q_aload_n (pc' := 14) ja_Reader_byteAt_13 rfl rfl ?_
                  refine q_getf (pc' := 17) (v := .ref 118) ja_Reader_byteAt_14 rfl (by decide) ⟨rfl, by decide⟩ rfl ?_
                  refine q_alen (pc' := 18) ja_Reader_byteAt_17 rfl (by decide) (kd := 13) (l := 200) rfl (by decide) (v := 200) (by decide) ?_
                  refine q_ic_ge (pc' := 21) ja_Reader_byteAt_18 rfl (fun _ => ?_) (fun h => absurd h (h117))
                  refine q_iconst (pc' := 31) ja_Reader_byteAt_30 rfl 0 (by decide) ?_
                  refine q_iret ja_Reader_byteAt_31 rfl rfl ?_
                  show q_W _ _ _ _ 8 [some (.ref 117), none] [.int 0] s92
                  refine q_istore_n (pc' := 9) (ls' := [some (.ref 117), some (.int 0)]) ja_Reader_readSign_8 rfl ⟨Nat.le_of_ble_eq_true rfl, rfl⟩ rfl ?_
                  refine q_aload_n (pc' := 10) ja_Reader_readSign_9 rfl rfl ?_
                  refine q_dup (pc' := 11) ja_Reader_readSign_10 rfl rfl ?_
                  refine q_getf (pc' := 14) (v := .int (s92 117 3)) ja_Reader_readSign_11 rfl (by decide) ⟨rfl, by decide⟩ rfl ?_
                  refine q_iconst (pc' := 15) ja_Reader_readSign_14 rfl 1 (by decide) ?_
                  refine q_iadd (pc' := 16) ja_Reader_readSign_15 rfl ?_
                  refine q_putf (pc' := 19) ja_Reader_readSign_16 rfl (by decide) rfl rfl rfl ?_
                  intro s97 e97
                  refine q_iload_n (pc' := 20) ja_Reader_readSign_19 rfl rfl ?_
                  refine q_swOut (pc' := 132) ja_Reader_readSign_20 (by decide) (by decide) ?_
                  refine q_aload_n (pc' := 133) ja_Reader_readSign_132 rfl rfl ?_
                  refine q_virt (pc' := 136) (c := 117) (as := []) (r := []) ja_Reader_readSign_133 rfl rfl rfl (by decide) ⟨rfl, by decide⟩ ?_
                  refine q_in (M := jm_Reader_fail) rfl (Nat.le_of_ble_eq_true rfl) (ls := [some (.ref 117)]) rfl ?_
                  refine q_aload_n (pc' := 1) ja_Reader_fail_0 rfl rfl ?_
                  refine q_getf (pc' := 4) (v := .int (s97 117 7)) ja_Reader_fail_1 rfl (by decide) ⟨rfl, by decide⟩ rfl ?_
                  refine q_iconst (pc' := 5) ja_Reader_fail_4 rfl (-1) (by decide) ?_
                  refine q_ic_ne (pc' := 8) ja_Reader_fail_5 rfl ?_ ?_
                  · intro h118
                    refine q_aload_n (pc' := 17) ja_Reader_fail_16 rfl rfl ?_
                    refine q_bipush (pc' := 19) ja_Reader_fail_17 rfl 17 (by decide) ?_
                    refine q_putf (pc' := 22) ja_Reader_fail_19 rfl (by decide) rfl rfl rfl ?_
                    intro s98 e98
                    refine q_vret ja_Reader_fail_22 rfl ?_
                    show q_W _ _ _ _ 136 [some (.ref 117), some (.int 0)] [] s98
                    refine q_vret ja_Reader_readSign_136 rfl ?_
                    show q_W _ _ _ _ 127 [some (.ref 117)] [] s98
                    exact q_vret ja_Reader_goOn_127 rfl (k64 h36 h72 h108 h110 h111 s92 e92 h112 h116 h117 s97 e97 h118 s98 e98)
                  · intro h119
                    refine q_aload_n (pc' := 9) ja_Reader_fail_8 rfl rfl ?_
                    refine q_aload_n (pc' := 10) ja_Reader_fail_9 rfl rfl ?_
                    refine q_getf (pc' := 13) (v := .int (s97 117 2)) ja_Reader_fail_10 rfl (by decide) ⟨rfl, by decide⟩ rfl ?_
                    refine q_putf (pc' := 16) ja_Reader_fail_13 rfl (by decide) rfl rfl rfl ?_
                    intro s99 e99
                    refine q_aload_n (pc' := 17) ja_Reader_fail_16 rfl rfl ?_
                    refine q_bipush (pc' := 19) ja_Reader_fail_17 rfl 17 (by decide) ?_
                    refine q_putf (pc' := 22) ja_Reader_fail_19 rfl (by decide) rfl rfl rfl ?_
                    intro s100 e100
                    refine q_vret ja_Reader_fail_22 rfl ?_
                    show q_W _ _ _ _ 136 [some (.ref 117), some (.int 0)] [] s100
                    refine q_vret ja_Reader_readSign_136 rfl ?_
                    show q_W _ _ _ _ 127 [some (.ref 117)] [] s100
                    exact q_vret ja_Reader_goOn_127 rfl (k65 h36 h72 h108 h110 h111 s92 e92 h112 h116 h117 s97 e97 h119 s99 e99 s100 e100)
                · intro h120
                  refine q_aload_n (pc' := 22) ja_Reader_byteAt_21 rfl rfl ?_
                  refine q_getf (pc' := 25) (v := .ref 118) ja_Reader_byteAt_22 rfl (by decide) ⟨rfl, by decide⟩ rfl ?_
                  refine q_iload_n (pc' := 26) ja_Reader_byteAt_25 rfl rfl ?_
                  refine q_iald (pc' := 27) (v := .int (s92 118 (s92 117 2).toNatClampNeg)) ja_Reader_byteAt_26 rfl (by decide) (l := 200) rfl (q_inr (l := 200) (by decide) h116 h120) rfl ?_
                  refine q_goto ja_Reader_byteAt_27 ?_
                  refine q_iret ja_Reader_byteAt_31 rfl rfl ?_
                  show q_W _ _ _ _ 5 [some (.ref 117), some (.int (s92 117 2))] [.int (s92 118 (s92 117 2).toNatClampNeg)] s92
                  refine q_bipush (pc' := 7) ja_Reader_isLetter_5 rfl 97 (by decide) ?_
                  refine q_ic_lt (pc' := 10) ja_Reader_isLetter_7 rfl ?_ ?_
                  · intro h121
                    refine q_iconst (pc' := 25) ja_Reader_isLetter_24 rfl 0 (by decide) ?_
                    refine q_iret ja_Reader_isLetter_25 rfl (by decide) ?_
                    show q_W _ _ _ _ 95 [some (.ref 117)] [.int 0] s92
                    refine q_if_eq (pc' := 98) ja_Reader_goOn_95 rfl (fun _ => ?_) (fun h => absurd ((by decide : (0 : Int32) = 0)) h)
                    refine q_aload_n (pc' := 106) ja_Reader_goOn_105 rfl rfl ?_
                    refine q_aload_n (pc' := 107) ja_Reader_goOn_106 rfl rfl ?_
                    refine q_getf (pc' := 110) (v := .int (s92 117 2)) ja_Reader_goOn_107 rfl (by decide) ⟨rfl, by decide⟩ rfl ?_
                    refine q_virt (pc' := 113) (c := 117) (as := [.int (s92 117 2)]) (r := []) ja_Reader_goOn_110 rfl rfl rfl (by decide) ⟨rfl, by decide⟩ ?_
                    refine q_in (M := jm_Reader_isDigit) rfl (Nat.le_of_ble_eq_true rfl) (ls := [some (.ref 117), some (.int (s92 117 2))]) rfl ?_
                    refine q_aload_n (pc' := 1) ja_Reader_isDigit_0 rfl rfl ?_
                    refine q_iload_n (pc' := 2) ja_Reader_isDigit_1 rfl rfl ?_
                    refine q_virt (pc' := 5) (c := 117) (as := [.int (s92 117 2)]) (r := []) ja_Reader_isDigit_2 rfl rfl rfl (by decide) ⟨rfl, by decide⟩ ?_
                    refine q_in (M := jm_Reader_byteAt) rfl (Nat.le_of_ble_eq_true rfl) (ls := [some (.ref 117), some (.int (s92 117 2))]) rfl ?_
                    refine q_iload_n (pc' := 1) ja_Reader_byteAt_0 rfl rfl ?_
                    refine q_if_lt (pc' := 4) ja_Reader_byteAt_1 rfl (fun h => absurd h (h116)) (fun _ => ?_)
                    refine q_iload_n (pc' := 5) ja_Reader_byteAt_4 rfl rfl ?_
                    refine q_aload_n (pc' := 6) ja_Reader_byteAt_5 rfl rfl ?_
                    refine q_getf (pc' := 9) (v := .int (s92 117 1)) ja_Reader_byteAt_6 rfl (by decide) ⟨rfl, by decide⟩ rfl ?_
                    refine q_ic_ge (pc' := 12) ja_Reader_byteAt_9 rfl (fun h => absurd (h112) h) (fun _ => ?_)
                    refine q_iload_n (pc' := 13) ja_Reader_byteAt_12 rfl rfl ?_
                    refine q_aload_n (pc' := 14) ja_Reader_byteAt_13 rfl rfl ?_
                    refine q_getf (pc' := 17) (v := .ref 118) ja_Reader_byteAt_14 rfl (by decide) ⟨rfl, by decide⟩ rfl ?_
                    refine q_alen (pc' := 18) ja_Reader_byteAt_17 rfl (by decide) (kd := 13) (l := 200) rfl (by decide) (v := 200) (by decide) ?_
                    refine q_ic_ge (pc' := 21) ja_Reader_byteAt_18 rfl (fun h => absurd (h120) h) (fun _ => ?_)
                    refine q_aload_n (pc' := 22) ja_Reader_byteAt_21 rfl rfl ?_
                    refine q_getf (pc' := 25) (v := .ref 118) ja_Reader_byteAt_22 rfl (by decide) ⟨rfl, by decide⟩ rfl ?_
                    refine q_iload_n (pc' := 26) ja_Reader_byteAt_25 rfl rfl ?_
                    refine q_iald (pc' := 27) (v := .int (s92 118 (s92 117 2).toNatClampNeg)) ja_Reader_byteAt_26 rfl (by decide) (l := 200) rfl (q_inr (l := 200) (by decide) h116 h120) rfl ?_
                    refine q_goto ja_Reader_byteAt_27 ?_
                    refine q_iret ja_Reader_byteAt_31 rfl rfl ?_
                    show q_W _ _ _ _ 5 [some (.ref 117), some (.int (s92 117 2))] [.int (s92 118 (s92 117 2).toNatClampNeg)] s92
                    refine q_bipush (pc' := 7) ja_Reader_isDigit_5 rfl 48 (by decide) ?_
                    refine q_ic_lt (pc' := 10) ja_Reader_isDigit_7 rfl ?_ ?_
                    · intro h122
                      refine q_iconst (pc' := 25) ja_Reader_isDigit_24 rfl 0 (by decide) ?_
                      refine q_iret ja_Reader_isDigit_25 rfl (by decide) ?_
                      show q_W _ _ _ _ 113 [some (.ref 117)] [.int 0] s92
                      refine q_if_eq (pc' := 116) ja_Reader_goOn_113 rfl (fun _ => ?_) (fun h => absurd ((by decide : (0 : Int32) = 0)) h)
                      refine q_aload_n (pc' := 124) ja_Reader_goOn_123 rfl rfl ?_
                      refine q_virt (pc' := 127) (c := 117) (as := []) (r := []) ja_Reader_goOn_124 rfl rfl rfl (by decide) ⟨rfl, by decide⟩ ?_
                      refine q_in (M := jm_Reader_readSign) rfl (Nat.le_of_ble_eq_true rfl) (ls := [some (.ref 117), none]) rfl ?_
                      refine q_aload_n (pc' := 1) ja_Reader_readSign_0 rfl rfl ?_
                      refine q_aload_n (pc' := 2) ja_Reader_readSign_1 rfl rfl ?_
                      refine q_getf (pc' := 5) (v := .int (s92 117 2)) ja_Reader_readSign_2 rfl (by decide) ⟨rfl, by decide⟩ rfl ?_
                      refine q_virt (pc' := 8) (c := 117) (as := [.int (s92 117 2)]) (r := []) ja_Reader_readSign_5 rfl rfl rfl (by decide) ⟨rfl, by decide⟩ ?_
                      refine q_in (M := jm_Reader_byteAt) rfl (Nat.le_of_ble_eq_true rfl) (ls := [some (.ref 117), some (.int (s92 117 2))]) rfl ?_
                      refine q_iload_n (pc' := 1) ja_Reader_byteAt_0 rfl rfl ?_
                      refine q_if_lt (pc' := 4) ja_Reader_byteAt_1 rfl (fun h => absurd h (h116)) (fun _ => ?_)
                      refine q_iload_n (pc' := 5) ja_Reader_byteAt_4 rfl rfl ?_
                      refine q_aload_n (pc' := 6) ja_Reader_byteAt_5 rfl rfl ?_
                      refine q_getf (pc' := 9) (v := .int (s92 117 1)) ja_Reader_byteAt_6 rfl (by decide) ⟨rfl, by decide⟩ rfl ?_
                      refine q_ic_ge (pc' := 12) ja_Reader_byteAt_9 rfl (fun h => absurd (h112) h) (fun _ => ?_)
                      refine q_iload_n (pc' := 13) ja_Reader_byteAt_12 rfl rfl ?_
                      refine q_aload_n (pc' := 14) ja_Reader_byteAt_13 rfl rfl ?_
                      refine q_getf (pc' := 17) (v := .ref 118) ja_Reader_byteAt_14 rfl (by decide) ⟨rfl, by decide⟩ rfl ?_
                      refine q_alen (pc' := 18) ja_Reader_byteAt_17 rfl (by decide) (kd := 13) (l := 200) rfl (by decide) (v := 200) (by decide) ?_
                      refine q_ic_ge (pc' := 21) ja_Reader_byteAt_18 rfl (fun h => absurd (h120) h) (fun _ => ?_)
                      refine q_aload_n (pc' := 22) ja_Reader_byteAt_21 rfl rfl ?_
                      refine q_getf (pc' := 25) (v := .ref 118) ja_Reader_byteAt_22 rfl (by decide) ⟨rfl, by decide⟩ rfl ?_
                      refine q_iload_n (pc' := 26) ja_Reader_byteAt_25 rfl rfl ?_
                      refine q_iald (pc' := 27) (v := .int (s92 118 (s92 117 2).toNatClampNeg)) ja_Reader_byteAt_26 rfl (by decide) (l := 200) rfl (q_inr (l := 200) (by decide) h116 h120) rfl ?_
                      refine q_goto ja_Reader_byteAt_27 ?_
                      refine q_iret ja_Reader_byteAt_31 rfl rfl ?_
                      show q_W _ _ _ _ 8 [some (.ref 117), none] [.int (s92 118 (s92 117 2).toNatClampNeg)] s92
                      refine q_istore_n (pc' := 9) (ls' := [some (.ref 117), some (.int (s92 118 (s92 117 2).toNatClampNeg))]) ja_Reader_readSign_8 rfl ⟨Nat.le_of_ble_eq_true rfl, rfl⟩ rfl ?_
                      refine q_aload_n (pc' := 10) ja_Reader_readSign_9 rfl rfl ?_
                      refine q_dup (pc' := 11) ja_Reader_readSign_10 rfl rfl ?_
                      refine q_getf (pc' := 14) (v := .int (s92 117 3)) ja_Reader_readSign_11 rfl (by decide) ⟨rfl, by decide⟩ rfl ?_
                      refine q_iconst (pc' := 15) ja_Reader_readSign_14 rfl 1 (by decide) ?_
                      refine q_iadd (pc' := 16) ja_Reader_readSign_15 rfl ?_
                      refine q_putf (pc' := 19) ja_Reader_readSign_16 rfl (by decide) rfl rfl rfl ?_
                      intro s101 e101
                      refine q_iload_n (pc' := 20) ja_Reader_readSign_19 rfl rfl ?_
                      by_cases h123 : ((s92 118 (s92 117 2).toNatClampNeg) = 40 ∨ (s92 118 (s92 117 2).toNatClampNeg) = 41 ∨ (s92 118 (s92 117 2).toNatClampNeg) = 42 ∨ (s92 118 (s92 117 2).toNatClampNeg) = 43 ∨ (s92 118 (s92 117 2).toNatClampNeg) = 45 ∨ (s92 118 (s92 117 2).toNatClampNeg) = 59 ∨ (s92 118 (s92 117 2).toNatClampNeg) = 60 ∨ (s92 118 (s92 117 2).toNatClampNeg) = 61)
                      · refine q_swE (pc' := 124) ja_Reader_readSign_20 (by rcases h123 with e | e | e | e | e | e | e | e <;> (rw [e]; decide)) (by rcases h123 with e | e | e | e | e | e | e | e <;> (rw [e]; exact ⟨_, rfl, rfl⟩)) ?_
                        refine q_aload_n (pc' := 125) ja_Reader_readSign_124 rfl rfl ?_
                        refine q_iload_n (pc' := 126) ja_Reader_readSign_125 rfl rfl ?_
                        refine q_putf (pc' := 129) ja_Reader_readSign_126 rfl (by decide) rfl rfl rfl ?_
                        intro s102 e102
                        refine q_goto ja_Reader_readSign_129 ?_
                        refine q_vret ja_Reader_readSign_136 rfl ?_
                        show q_W _ _ _ _ 127 [some (.ref 117)] [] s102
                        exact q_vret ja_Reader_goOn_127 rfl (k66 h36 h72 h108 h110 h111 s92 e92 h112 h116 h120 h121 h122 s101 e101 h123 s102 e102)
                      refine q_swD (pc' := 132) ja_Reader_readSign_20 [40, 41, 42, 43, 45, 59, 60, 61] (List.forall_mem_cons.mpr ⟨fun e => h123 (by rw [e]; decide), (List.forall_mem_cons.mpr ⟨fun e => h123 (by rw [e]; decide), (List.forall_mem_cons.mpr ⟨fun e => h123 (by rw [e]; decide), (List.forall_mem_cons.mpr ⟨fun e => h123 (by rw [e]; decide), (List.forall_mem_cons.mpr ⟨fun e => h123 (by rw [e]; decide), (List.forall_mem_cons.mpr ⟨fun e => h123 (by rw [e]; decide), (List.forall_mem_cons.mpr ⟨fun e => h123 (by rw [e]; decide), (List.forall_mem_cons.mpr ⟨fun e => h123 (by rw [e]; decide), (List.forall_mem_nil _)⟩)⟩)⟩)⟩)⟩)⟩)⟩)⟩) (by decide) rfl ?_
                      refine q_aload_n (pc' := 133) ja_Reader_readSign_132 rfl rfl ?_
                      refine q_virt (pc' := 136) (c := 117) (as := []) (r := []) ja_Reader_readSign_133 rfl rfl rfl (by decide) ⟨rfl, by decide⟩ ?_
                      refine q_in (M := jm_Reader_fail) rfl (Nat.le_of_ble_eq_true rfl) (ls := [some (.ref 117)]) rfl ?_
                      refine q_aload_n (pc' := 1) ja_Reader_fail_0 rfl rfl ?_
                      refine q_getf (pc' := 4) (v := .int (s101 117 7)) ja_Reader_fail_1 rfl (by decide) ⟨rfl, by decide⟩ rfl ?_
                      refine q_iconst (pc' := 5) ja_Reader_fail_4 rfl (-1) (by decide) ?_
                      refine q_ic_ne (pc' := 8) ja_Reader_fail_5 rfl ?_ ?_
                      · intro h124
                        refine q_aload_n (pc' := 17) ja_Reader_fail_16 rfl rfl ?_
                        refine q_bipush (pc' := 19) ja_Reader_fail_17 rfl 17 (by decide) ?_
                        refine q_putf (pc' := 22) ja_Reader_fail_19 rfl (by decide) rfl rfl rfl ?_
                        intro s103 e103
                        refine q_vret ja_Reader_fail_22 rfl ?_
                        show q_W _ _ _ _ 136 [some (.ref 117), some (.int (s92 118 (s92 117 2).toNatClampNeg))] [] s103
                        refine q_vret ja_Reader_readSign_136 rfl ?_
                        show q_W _ _ _ _ 127 [some (.ref 117)] [] s103
                        exact q_vret ja_Reader_goOn_127 rfl (k67 h36 h72 h108 h110 h111 s92 e92 h112 h116 h120 h121 h122 s101 e101 h123 h124 s103 e103)
                      · intro h125
                        refine q_aload_n (pc' := 9) ja_Reader_fail_8 rfl rfl ?_
                        refine q_aload_n (pc' := 10) ja_Reader_fail_9 rfl rfl ?_
                        refine q_getf (pc' := 13) (v := .int (s101 117 2)) ja_Reader_fail_10 rfl (by decide) ⟨rfl, by decide⟩ rfl ?_
                        refine q_putf (pc' := 16) ja_Reader_fail_13 rfl (by decide) rfl rfl rfl ?_
                        intro s104 e104
                        refine q_aload_n (pc' := 17) ja_Reader_fail_16 rfl rfl ?_
                        refine q_bipush (pc' := 19) ja_Reader_fail_17 rfl 17 (by decide) ?_
                        refine q_putf (pc' := 22) ja_Reader_fail_19 rfl (by decide) rfl rfl rfl ?_
                        intro s105 e105
                        refine q_vret ja_Reader_fail_22 rfl ?_
                        show q_W _ _ _ _ 136 [some (.ref 117), some (.int (s92 118 (s92 117 2).toNatClampNeg))] [] s105
                        refine q_vret ja_Reader_readSign_136 rfl ?_
                        show q_W _ _ _ _ 127 [some (.ref 117)] [] s105
                        exact q_vret ja_Reader_goOn_127 rfl (k68 h36 h72 h108 h110 h111 s92 e92 h112 h116 h120 h121 h122 s101 e101 h123 h125 s104 e104 s105 e105)
                    · intro h126
                      refine q_aload_n (pc' := 11) ja_Reader_isDigit_10 rfl rfl ?_
                      refine q_iload_n (pc' := 12) ja_Reader_isDigit_11 rfl rfl ?_
                      refine q_virt (pc' := 15) (c := 117) (as := [.int (s92 117 2)]) (r := []) ja_Reader_isDigit_12 rfl rfl rfl (by decide) ⟨rfl, by decide⟩ ?_
                      refine q_in (M := jm_Reader_byteAt) rfl (Nat.le_of_ble_eq_true rfl) (ls := [some (.ref 117), some (.int (s92 117 2))]) rfl ?_
                      refine q_iload_n (pc' := 1) ja_Reader_byteAt_0 rfl rfl ?_
                      refine q_if_lt (pc' := 4) ja_Reader_byteAt_1 rfl (fun h => absurd h (h116)) (fun _ => ?_)
                      refine q_iload_n (pc' := 5) ja_Reader_byteAt_4 rfl rfl ?_
                      refine q_aload_n (pc' := 6) ja_Reader_byteAt_5 rfl rfl ?_
                      refine q_getf (pc' := 9) (v := .int (s92 117 1)) ja_Reader_byteAt_6 rfl (by decide) ⟨rfl, by decide⟩ rfl ?_
                      refine q_ic_ge (pc' := 12) ja_Reader_byteAt_9 rfl (fun h => absurd (h112) h) (fun _ => ?_)
                      refine q_iload_n (pc' := 13) ja_Reader_byteAt_12 rfl rfl ?_
                      refine q_aload_n (pc' := 14) ja_Reader_byteAt_13 rfl rfl ?_
                      refine q_getf (pc' := 17) (v := .ref 118) ja_Reader_byteAt_14 rfl (by decide) ⟨rfl, by decide⟩ rfl ?_
                      refine q_alen (pc' := 18) ja_Reader_byteAt_17 rfl (by decide) (kd := 13) (l := 200) rfl (by decide) (v := 200) (by decide) ?_
                      refine q_ic_ge (pc' := 21) ja_Reader_byteAt_18 rfl (fun h => absurd (h120) h) (fun _ => ?_)
                      refine q_aload_n (pc' := 22) ja_Reader_byteAt_21 rfl rfl ?_
                      refine q_getf (pc' := 25) (v := .ref 118) ja_Reader_byteAt_22 rfl (by decide) ⟨rfl, by decide⟩ rfl ?_
                      refine q_iload_n (pc' := 26) ja_Reader_byteAt_25 rfl rfl ?_
                      refine q_iald (pc' := 27) (v := .int (s92 118 (s92 117 2).toNatClampNeg)) ja_Reader_byteAt_26 rfl (by decide) (l := 200) rfl (q_inr (l := 200) (by decide) h116 h120) rfl ?_
                      refine q_goto ja_Reader_byteAt_27 ?_
                      refine q_iret ja_Reader_byteAt_31 rfl rfl ?_
                      show q_W _ _ _ _ 15 [some (.ref 117), some (.int (s92 117 2))] [.int (s92 118 (s92 117 2).toNatClampNeg)] s92
                      refine q_bipush (pc' := 17) ja_Reader_isDigit_15 rfl 57 (by decide) ?_
                      refine q_ic_gt (pc' := 20) ja_Reader_isDigit_17 rfl ?_ ?_
                      · intro h127
                        refine q_iconst (pc' := 25) ja_Reader_isDigit_24 rfl 0 (by decide) ?_
                        refine q_iret ja_Reader_isDigit_25 rfl (by decide) ?_
                        show q_W _ _ _ _ 113 [some (.ref 117)] [.int 0] s92
                        refine q_if_eq (pc' := 116) ja_Reader_goOn_113 rfl (fun _ => ?_) (fun h => absurd ((by decide : (0 : Int32) = 0)) h)
                        refine q_aload_n (pc' := 124) ja_Reader_goOn_123 rfl rfl ?_
                        refine q_virt (pc' := 127) (c := 117) (as := []) (r := []) ja_Reader_goOn_124 rfl rfl rfl (by decide) ⟨rfl, by decide⟩ ?_
                        refine q_in (M := jm_Reader_readSign) rfl (Nat.le_of_ble_eq_true rfl) (ls := [some (.ref 117), none]) rfl ?_
                        refine q_aload_n (pc' := 1) ja_Reader_readSign_0 rfl rfl ?_
                        refine q_aload_n (pc' := 2) ja_Reader_readSign_1 rfl rfl ?_
                        refine q_getf (pc' := 5) (v := .int (s92 117 2)) ja_Reader_readSign_2 rfl (by decide) ⟨rfl, by decide⟩ rfl ?_
                        refine q_virt (pc' := 8) (c := 117) (as := [.int (s92 117 2)]) (r := []) ja_Reader_readSign_5 rfl rfl rfl (by decide) ⟨rfl, by decide⟩ ?_
                        refine q_in (M := jm_Reader_byteAt) rfl (Nat.le_of_ble_eq_true rfl) (ls := [some (.ref 117), some (.int (s92 117 2))]) rfl ?_
                        refine q_iload_n (pc' := 1) ja_Reader_byteAt_0 rfl rfl ?_
                        refine q_if_lt (pc' := 4) ja_Reader_byteAt_1 rfl (fun h => absurd h (h116)) (fun _ => ?_)
                        refine q_iload_n (pc' := 5) ja_Reader_byteAt_4 rfl rfl ?_
                        refine q_aload_n (pc' := 6) ja_Reader_byteAt_5 rfl rfl ?_
                        refine q_getf (pc' := 9) (v := .int (s92 117 1)) ja_Reader_byteAt_6 rfl (by decide) ⟨rfl, by decide⟩ rfl ?_
                        refine q_ic_ge (pc' := 12) ja_Reader_byteAt_9 rfl (fun h => absurd (h112) h) (fun _ => ?_)
                        refine q_iload_n (pc' := 13) ja_Reader_byteAt_12 rfl rfl ?_
                        refine q_aload_n (pc' := 14) ja_Reader_byteAt_13 rfl rfl ?_
                        refine q_getf (pc' := 17) (v := .ref 118) ja_Reader_byteAt_14 rfl (by decide) ⟨rfl, by decide⟩ rfl ?_
                        refine q_alen (pc' := 18) ja_Reader_byteAt_17 rfl (by decide) (kd := 13) (l := 200) rfl (by decide) (v := 200) (by decide) ?_
                        refine q_ic_ge (pc' := 21) ja_Reader_byteAt_18 rfl (fun h => absurd (h120) h) (fun _ => ?_)
                        refine q_aload_n (pc' := 22) ja_Reader_byteAt_21 rfl rfl ?_
                        refine q_getf (pc' := 25) (v := .ref 118) ja_Reader_byteAt_22 rfl (by decide) ⟨rfl, by decide⟩ rfl ?_
                        refine q_iload_n (pc' := 26) ja_Reader_byteAt_25 rfl rfl ?_
                        refine q_iald (pc' := 27) (v := .int (s92 118 (s92 117 2).toNatClampNeg)) ja_Reader_byteAt_26 rfl (by decide) (l := 200) rfl (q_inr (l := 200) (by decide) h116 h120) rfl ?_
                        refine q_goto ja_Reader_byteAt_27 ?_
                        refine q_iret ja_Reader_byteAt_31 rfl rfl ?_
                        show q_W _ _ _ _ 8 [some (.ref 117), none] [.int (s92 118 (s92 117 2).toNatClampNeg)] s92
                        refine q_istore_n (pc' := 9) (ls' := [some (.ref 117), some (.int (s92 118 (s92 117 2).toNatClampNeg))]) ja_Reader_readSign_8 rfl ⟨Nat.le_of_ble_eq_true rfl, rfl⟩ rfl ?_
                        refine q_aload_n (pc' := 10) ja_Reader_readSign_9 rfl rfl ?_
                        refine q_dup (pc' := 11) ja_Reader_readSign_10 rfl rfl ?_
                        refine q_getf (pc' := 14) (v := .int (s92 117 3)) ja_Reader_readSign_11 rfl (by decide) ⟨rfl, by decide⟩ rfl ?_
                        refine q_iconst (pc' := 15) ja_Reader_readSign_14 rfl 1 (by decide) ?_
                        refine q_iadd (pc' := 16) ja_Reader_readSign_15 rfl ?_
                        refine q_putf (pc' := 19) ja_Reader_readSign_16 rfl (by decide) rfl rfl rfl ?_
                        intro s106 e106
                        refine q_iload_n (pc' := 20) ja_Reader_readSign_19 rfl rfl ?_
                        by_cases h128 : ((s92 118 (s92 117 2).toNatClampNeg) = 40 ∨ (s92 118 (s92 117 2).toNatClampNeg) = 41 ∨ (s92 118 (s92 117 2).toNatClampNeg) = 42 ∨ (s92 118 (s92 117 2).toNatClampNeg) = 43 ∨ (s92 118 (s92 117 2).toNatClampNeg) = 45 ∨ (s92 118 (s92 117 2).toNatClampNeg) = 59 ∨ (s92 118 (s92 117 2).toNatClampNeg) = 60 ∨ (s92 118 (s92 117 2).toNatClampNeg) = 61)
                        · refine q_swE (pc' := 124) ja_Reader_readSign_20 (by rcases h128 with e | e | e | e | e | e | e | e <;> (rw [e]; decide)) (by rcases h128 with e | e | e | e | e | e | e | e <;> (rw [e]; exact ⟨_, rfl, rfl⟩)) ?_
                          refine q_aload_n (pc' := 125) ja_Reader_readSign_124 rfl rfl ?_
                          refine q_iload_n (pc' := 126) ja_Reader_readSign_125 rfl rfl ?_
                          refine q_putf (pc' := 129) ja_Reader_readSign_126 rfl (by decide) rfl rfl rfl ?_
                          intro s107 e107
                          refine q_goto ja_Reader_readSign_129 ?_
                          refine q_vret ja_Reader_readSign_136 rfl ?_
                          show q_W _ _ _ _ 127 [some (.ref 117)] [] s107
                          exact q_vret ja_Reader_goOn_127 rfl (k69 h36 h72 h108 h110 h111 s92 e92 h112 h116 h120 h121 h126 h127 s106 e106 h128 s107 e107)
                        refine q_swD (pc' := 132) ja_Reader_readSign_20 [40, 41, 42, 43, 45, 59, 60, 61] (List.forall_mem_cons.mpr ⟨fun e => h128 (by rw [e]; decide), (List.forall_mem_cons.mpr ⟨fun e => h128 (by rw [e]; decide), (List.forall_mem_cons.mpr ⟨fun e => h128 (by rw [e]; decide), (List.forall_mem_cons.mpr ⟨fun e => h128 (by rw [e]; decide), (List.forall_mem_cons.mpr ⟨fun e => h128 (by rw [e]; decide), (List.forall_mem_cons.mpr ⟨fun e => h128 (by rw [e]; decide), (List.forall_mem_cons.mpr ⟨fun e => h128 (by rw [e]; decide), (List.forall_mem_cons.mpr ⟨fun e => h128 (by rw [e]; decide), (List.forall_mem_nil _)⟩)⟩)⟩)⟩)⟩)⟩)⟩)⟩) (by decide) rfl ?_
                        refine q_aload_n (pc' := 133) ja_Reader_readSign_132 rfl rfl ?_
                        refine q_virt (pc' := 136) (c := 117) (as := []) (r := []) ja_Reader_readSign_133 rfl rfl rfl (by decide) ⟨rfl, by decide⟩ ?_
                        refine q_in (M := jm_Reader_fail) rfl (Nat.le_of_ble_eq_true rfl) (ls := [some (.ref 117)]) rfl ?_
                        refine q_aload_n (pc' := 1) ja_Reader_fail_0 rfl rfl ?_
                        refine q_getf (pc' := 4) (v := .int (s106 117 7)) ja_Reader_fail_1 rfl (by decide) ⟨rfl, by decide⟩ rfl ?_
                        refine q_iconst (pc' := 5) ja_Reader_fail_4 rfl (-1) (by decide) ?_
                        refine q_ic_ne (pc' := 8) ja_Reader_fail_5 rfl ?_ ?_
                        · intro h129
                          refine q_aload_n (pc' := 17) ja_Reader_fail_16 rfl rfl ?_
                          refine q_bipush (pc' := 19) ja_Reader_fail_17 rfl 17 (by decide) ?_
                          refine q_putf (pc' := 22) ja_Reader_fail_19 rfl (by decide) rfl rfl rfl ?_
                          intro s108 e108
                          refine q_vret ja_Reader_fail_22 rfl ?_
                          show q_W _ _ _ _ 136 [some (.ref 117), some (.int (s92 118 (s92 117 2).toNatClampNeg))] [] s108
                          refine q_vret ja_Reader_readSign_136 rfl ?_
                          show q_W _ _ _ _ 127 [some (.ref 117)] [] s108
                          exact q_vret ja_Reader_goOn_127 rfl (k70 h36 h72 h108 h110 h111 s92 e92 h112 h116 h120 h121 h126 h127 s106 e106 h128 h129 s108 e108)
                        · intro h130
                          refine q_aload_n (pc' := 9) ja_Reader_fail_8 rfl rfl ?_
                          refine q_aload_n (pc' := 10) ja_Reader_fail_9 rfl rfl ?_
                          refine q_getf (pc' := 13) (v := .int (s106 117 2)) ja_Reader_fail_10 rfl (by decide) ⟨rfl, by decide⟩ rfl ?_
                          refine q_putf (pc' := 16) ja_Reader_fail_13 rfl (by decide) rfl rfl rfl ?_
                          intro s109 e109
                          refine q_aload_n (pc' := 17) ja_Reader_fail_16 rfl rfl ?_
                          refine q_bipush (pc' := 19) ja_Reader_fail_17 rfl 17 (by decide) ?_
                          refine q_putf (pc' := 22) ja_Reader_fail_19 rfl (by decide) rfl rfl rfl ?_
                          intro s110 e110
                          refine q_vret ja_Reader_fail_22 rfl ?_
                          show q_W _ _ _ _ 136 [some (.ref 117), some (.int (s92 118 (s92 117 2).toNatClampNeg))] [] s110
                          refine q_vret ja_Reader_readSign_136 rfl ?_
                          show q_W _ _ _ _ 127 [some (.ref 117)] [] s110
                          exact q_vret ja_Reader_goOn_127 rfl (k71 h36 h72 h108 h110 h111 s92 e92 h112 h116 h120 h121 h126 h127 s106 e106 h128 h130 s109 e109 s110 e110)
                      · intro h131
                        refine q_iconst (pc' := 21) ja_Reader_isDigit_20 rfl 1 (by decide) ?_
                        refine q_goto ja_Reader_isDigit_21 ?_
                        refine q_iret ja_Reader_isDigit_25 rfl (by decide) ?_
                        show q_W _ _ _ _ 113 [some (.ref 117)] [.int 1] s92
                        refine q_if_eq (pc' := 116) ja_Reader_goOn_113 rfl (fun h => absurd h ((by decide : ¬ (1 : Int32) = 0))) (fun _ => ?_)
                        refine q_aload_n (pc' := 117) ja_Reader_goOn_116 rfl rfl ?_
                        refine q_virt (pc' := 120) (c := 117) (as := []) (r := []) ja_Reader_goOn_117 rfl rfl rfl (by decide) ⟨rfl, by decide⟩ ?_
                        exact (k72 h36 h72 h108 h110 h111 s92 e92 h112 h116 h120 h121 h126 h131)
                  · intro h132
                    refine q_aload_n (pc' := 11) ja_Reader_isLetter_10 rfl rfl ?_
                    refine q_iload_n (pc' := 12) ja_Reader_isLetter_11 rfl rfl ?_
                    refine q_virt (pc' := 15) (c := 117) (as := [.int (s92 117 2)]) (r := []) ja_Reader_isLetter_12 rfl rfl rfl (by decide) ⟨rfl, by decide⟩ ?_
                    refine q_in (M := jm_Reader_byteAt) rfl (Nat.le_of_ble_eq_true rfl) (ls := [some (.ref 117), some (.int (s92 117 2))]) rfl ?_
                    refine q_iload_n (pc' := 1) ja_Reader_byteAt_0 rfl rfl ?_
                    refine q_if_lt (pc' := 4) ja_Reader_byteAt_1 rfl (fun h => absurd h (h116)) (fun _ => ?_)
                    refine q_iload_n (pc' := 5) ja_Reader_byteAt_4 rfl rfl ?_
                    refine q_aload_n (pc' := 6) ja_Reader_byteAt_5 rfl rfl ?_
                    refine q_getf (pc' := 9) (v := .int (s92 117 1)) ja_Reader_byteAt_6 rfl (by decide) ⟨rfl, by decide⟩ rfl ?_
                    refine q_ic_ge (pc' := 12) ja_Reader_byteAt_9 rfl (fun h => absurd (h112) h) (fun _ => ?_)
                    refine q_iload_n (pc' := 13) ja_Reader_byteAt_12 rfl rfl ?_
                    refine q_aload_n (pc' := 14) ja_Reader_byteAt_13 rfl rfl ?_
                    refine q_getf (pc' := 17) (v := .ref 118) ja_Reader_byteAt_14 rfl (by decide) ⟨rfl, by decide⟩ rfl ?_
                    refine q_alen (pc' := 18) ja_Reader_byteAt_17 rfl (by decide) (kd := 13) (l := 200) rfl (by decide) (v := 200) (by decide) ?_
                    refine q_ic_ge (pc' := 21) ja_Reader_byteAt_18 rfl (fun h => absurd (h120) h) (fun _ => ?_)
                    refine q_aload_n (pc' := 22) ja_Reader_byteAt_21 rfl rfl ?_
                    refine q_getf (pc' := 25) (v := .ref 118) ja_Reader_byteAt_22 rfl (by decide) ⟨rfl, by decide⟩ rfl ?_
                    refine q_iload_n (pc' := 26) ja_Reader_byteAt_25 rfl rfl ?_
                    refine q_iald (pc' := 27) (v := .int (s92 118 (s92 117 2).toNatClampNeg)) ja_Reader_byteAt_26 rfl (by decide) (l := 200) rfl (q_inr (l := 200) (by decide) h116 h120) rfl ?_
                    refine q_goto ja_Reader_byteAt_27 ?_
                    refine q_iret ja_Reader_byteAt_31 rfl rfl ?_
                    show q_W _ _ _ _ 15 [some (.ref 117), some (.int (s92 117 2))] [.int (s92 118 (s92 117 2).toNatClampNeg)] s92
                    refine q_bipush (pc' := 17) ja_Reader_isLetter_15 rfl 122 (by decide) ?_
                    refine q_ic_gt (pc' := 20) ja_Reader_isLetter_17 rfl ?_ ?_
                    · intro h133
                      refine q_iconst (pc' := 25) ja_Reader_isLetter_24 rfl 0 (by decide) ?_
                      refine q_iret ja_Reader_isLetter_25 rfl (by decide) ?_
                      show q_W _ _ _ _ 95 [some (.ref 117)] [.int 0] s92
                      refine q_if_eq (pc' := 98) ja_Reader_goOn_95 rfl (fun _ => ?_) (fun h => absurd ((by decide : (0 : Int32) = 0)) h)
                      refine q_aload_n (pc' := 106) ja_Reader_goOn_105 rfl rfl ?_
                      refine q_aload_n (pc' := 107) ja_Reader_goOn_106 rfl rfl ?_
                      refine q_getf (pc' := 110) (v := .int (s92 117 2)) ja_Reader_goOn_107 rfl (by decide) ⟨rfl, by decide⟩ rfl ?_
                      refine q_virt (pc' := 113) (c := 117) (as := [.int (s92 117 2)]) (r := []) ja_Reader_goOn_110 rfl rfl rfl (by decide) ⟨rfl, by decide⟩ ?_
                      refine q_in (M := jm_Reader_isDigit) rfl (Nat.le_of_ble_eq_true rfl) (ls := [some (.ref 117), some (.int (s92 117 2))]) rfl ?_
                      refine q_aload_n (pc' := 1) ja_Reader_isDigit_0 rfl rfl ?_
                      refine q_iload_n (pc' := 2) ja_Reader_isDigit_1 rfl rfl ?_
                      refine q_virt (pc' := 5) (c := 117) (as := [.int (s92 117 2)]) (r := []) ja_Reader_isDigit_2 rfl rfl rfl (by decide) ⟨rfl, by decide⟩ ?_
                      refine q_in (M := jm_Reader_byteAt) rfl (Nat.le_of_ble_eq_true rfl) (ls := [some (.ref 117), some (.int (s92 117 2))]) rfl ?_
                      refine q_iload_n (pc' := 1) ja_Reader_byteAt_0 rfl rfl ?_
                      refine q_if_lt (pc' := 4) ja_Reader_byteAt_1 rfl (fun h => absurd h (h116)) (fun _ => ?_)
                      refine q_iload_n (pc' := 5) ja_Reader_byteAt_4 rfl rfl ?_
                      refine q_aload_n (pc' := 6) ja_Reader_byteAt_5 rfl rfl ?_
                      refine q_getf (pc' := 9) (v := .int (s92 117 1)) ja_Reader_byteAt_6 rfl (by decide) ⟨rfl, by decide⟩ rfl ?_
                      refine q_ic_ge (pc' := 12) ja_Reader_byteAt_9 rfl (fun h => absurd (h112) h) (fun _ => ?_)
                      refine q_iload_n (pc' := 13) ja_Reader_byteAt_12 rfl rfl ?_
                      refine q_aload_n (pc' := 14) ja_Reader_byteAt_13 rfl rfl ?_
                      refine q_getf (pc' := 17) (v := .ref 118) ja_Reader_byteAt_14 rfl (by decide) ⟨rfl, by decide⟩ rfl ?_
                      refine q_alen (pc' := 18) ja_Reader_byteAt_17 rfl (by decide) (kd := 13) (l := 200) rfl (by decide) (v := 200) (by decide) ?_
                      refine q_ic_ge (pc' := 21) ja_Reader_byteAt_18 rfl (fun h => absurd (h120) h) (fun _ => ?_)
                      refine q_aload_n (pc' := 22) ja_Reader_byteAt_21 rfl rfl ?_
                      refine q_getf (pc' := 25) (v := .ref 118) ja_Reader_byteAt_22 rfl (by decide) ⟨rfl, by decide⟩ rfl ?_
                      refine q_iload_n (pc' := 26) ja_Reader_byteAt_25 rfl rfl ?_
                      refine q_iald (pc' := 27) (v := .int (s92 118 (s92 117 2).toNatClampNeg)) ja_Reader_byteAt_26 rfl (by decide) (l := 200) rfl (q_inr (l := 200) (by decide) h116 h120) rfl ?_
                      refine q_goto ja_Reader_byteAt_27 ?_
                      refine q_iret ja_Reader_byteAt_31 rfl rfl ?_
                      show q_W _ _ _ _ 5 [some (.ref 117), some (.int (s92 117 2))] [.int (s92 118 (s92 117 2).toNatClampNeg)] s92
                      refine q_bipush (pc' := 7) ja_Reader_isDigit_5 rfl 48 (by decide) ?_
                      refine q_ic_lt (pc' := 10) ja_Reader_isDigit_7 rfl ?_ ?_
                      · intro h134
                        refine q_iconst (pc' := 25) ja_Reader_isDigit_24 rfl 0 (by decide) ?_
                        refine q_iret ja_Reader_isDigit_25 rfl (by decide) ?_
                        show q_W _ _ _ _ 113 [some (.ref 117)] [.int 0] s92
                        refine q_if_eq (pc' := 116) ja_Reader_goOn_113 rfl (fun _ => ?_) (fun h => absurd ((by decide : (0 : Int32) = 0)) h)
                        refine q_aload_n (pc' := 124) ja_Reader_goOn_123 rfl rfl ?_
                        refine q_virt (pc' := 127) (c := 117) (as := []) (r := []) ja_Reader_goOn_124 rfl rfl rfl (by decide) ⟨rfl, by decide⟩ ?_
                        refine q_in (M := jm_Reader_readSign) rfl (Nat.le_of_ble_eq_true rfl) (ls := [some (.ref 117), none]) rfl ?_
                        refine q_aload_n (pc' := 1) ja_Reader_readSign_0 rfl rfl ?_
                        refine q_aload_n (pc' := 2) ja_Reader_readSign_1 rfl rfl ?_
                        refine q_getf (pc' := 5) (v := .int (s92 117 2)) ja_Reader_readSign_2 rfl (by decide) ⟨rfl, by decide⟩ rfl ?_
                        refine q_virt (pc' := 8) (c := 117) (as := [.int (s92 117 2)]) (r := []) ja_Reader_readSign_5 rfl rfl rfl (by decide) ⟨rfl, by decide⟩ ?_
                        refine q_in (M := jm_Reader_byteAt) rfl (Nat.le_of_ble_eq_true rfl) (ls := [some (.ref 117), some (.int (s92 117 2))]) rfl ?_
                        refine q_iload_n (pc' := 1) ja_Reader_byteAt_0 rfl rfl ?_
                        refine q_if_lt (pc' := 4) ja_Reader_byteAt_1 rfl (fun h => absurd h (h116)) (fun _ => ?_)
                        refine q_iload_n (pc' := 5) ja_Reader_byteAt_4 rfl rfl ?_
                        refine q_aload_n (pc' := 6) ja_Reader_byteAt_5 rfl rfl ?_
                        refine q_getf (pc' := 9) (v := .int (s92 117 1)) ja_Reader_byteAt_6 rfl (by decide) ⟨rfl, by decide⟩ rfl ?_
                        refine q_ic_ge (pc' := 12) ja_Reader_byteAt_9 rfl (fun h => absurd (h112) h) (fun _ => ?_)
                        refine q_iload_n (pc' := 13) ja_Reader_byteAt_12 rfl rfl ?_
                        refine q_aload_n (pc' := 14) ja_Reader_byteAt_13 rfl rfl ?_
                        refine q_getf (pc' := 17) (v := .ref 118) ja_Reader_byteAt_14 rfl (by decide) ⟨rfl, by decide⟩ rfl ?_
                        refine q_alen (pc' := 18) ja_Reader_byteAt_17 rfl (by decide) (kd := 13) (l := 200) rfl (by decide) (v := 200) (by decide) ?_
                        refine q_ic_ge (pc' := 21) ja_Reader_byteAt_18 rfl (fun h => absurd (h120) h) (fun _ => ?_)
                        refine q_aload_n (pc' := 22) ja_Reader_byteAt_21 rfl rfl ?_
                        refine q_getf (pc' := 25) (v := .ref 118) ja_Reader_byteAt_22 rfl (by decide) ⟨rfl, by decide⟩ rfl ?_
                        refine q_iload_n (pc' := 26) ja_Reader_byteAt_25 rfl rfl ?_
                        refine q_iald (pc' := 27) (v := .int (s92 118 (s92 117 2).toNatClampNeg)) ja_Reader_byteAt_26 rfl (by decide) (l := 200) rfl (q_inr (l := 200) (by decide) h116 h120) rfl ?_
                        refine q_goto ja_Reader_byteAt_27 ?_
                        refine q_iret ja_Reader_byteAt_31 rfl rfl ?_
                        show q_W _ _ _ _ 8 [some (.ref 117), none] [.int (s92 118 (s92 117 2).toNatClampNeg)] s92
                        refine q_istore_n (pc' := 9) (ls' := [some (.ref 117), some (.int (s92 118 (s92 117 2).toNatClampNeg))]) ja_Reader_readSign_8 rfl ⟨Nat.le_of_ble_eq_true rfl, rfl⟩ rfl ?_
                        refine q_aload_n (pc' := 10) ja_Reader_readSign_9 rfl rfl ?_
                        refine q_dup (pc' := 11) ja_Reader_readSign_10 rfl rfl ?_
                        refine q_getf (pc' := 14) (v := .int (s92 117 3)) ja_Reader_readSign_11 rfl (by decide) ⟨rfl, by decide⟩ rfl ?_
                        refine q_iconst (pc' := 15) ja_Reader_readSign_14 rfl 1 (by decide) ?_
                        refine q_iadd (pc' := 16) ja_Reader_readSign_15 rfl ?_
                        refine q_putf (pc' := 19) ja_Reader_readSign_16 rfl (by decide) rfl rfl rfl ?_
                        intro s111 e111
                        refine q_iload_n (pc' := 20) ja_Reader_readSign_19 rfl rfl ?_
                        by_cases h135 : ((s92 118 (s92 117 2).toNatClampNeg) = 40 ∨ (s92 118 (s92 117 2).toNatClampNeg) = 41 ∨ (s92 118 (s92 117 2).toNatClampNeg) = 42 ∨ (s92 118 (s92 117 2).toNatClampNeg) = 43 ∨ (s92 118 (s92 117 2).toNatClampNeg) = 45 ∨ (s92 118 (s92 117 2).toNatClampNeg) = 59 ∨ (s92 118 (s92 117 2).toNatClampNeg) = 60 ∨ (s92 118 (s92 117 2).toNatClampNeg) = 61)
                        · refine q_swE (pc' := 124) ja_Reader_readSign_20 (by rcases h135 with e | e | e | e | e | e | e | e <;> (rw [e]; decide)) (by rcases h135 with e | e | e | e | e | e | e | e <;> (rw [e]; exact ⟨_, rfl, rfl⟩)) ?_
                          refine q_aload_n (pc' := 125) ja_Reader_readSign_124 rfl rfl ?_
                          refine q_iload_n (pc' := 126) ja_Reader_readSign_125 rfl rfl ?_
                          refine q_putf (pc' := 129) ja_Reader_readSign_126 rfl (by decide) rfl rfl rfl ?_
                          intro s112 e112
                          refine q_goto ja_Reader_readSign_129 ?_
                          refine q_vret ja_Reader_readSign_136 rfl ?_
                          show q_W _ _ _ _ 127 [some (.ref 117)] [] s112
                          exact q_vret ja_Reader_goOn_127 rfl (k73 h36 h72 h108 h110 h111 s92 e92 h112 h116 h120 h132 h133 h134 s111 e111 h135 s112 e112)
                        refine q_swD (pc' := 132) ja_Reader_readSign_20 [40, 41, 42, 43, 45, 59, 60, 61] (List.forall_mem_cons.mpr ⟨fun e => h135 (by rw [e]; decide), (List.forall_mem_cons.mpr ⟨fun e => h135 (by rw [e]; decide), (List.forall_mem_cons.mpr ⟨fun e => h135 (by rw [e]; decide), (List.forall_mem_cons.mpr ⟨fun e => h135 (by rw [e]; decide), (List.forall_mem_cons.mpr ⟨fun e => h135 (by rw [e]; decide), (List.forall_mem_cons.mpr ⟨fun e => h135 (by rw [e]; decide), (List.forall_mem_cons.mpr ⟨fun e => h135 (by rw [e]; decide), (List.forall_mem_cons.mpr ⟨fun e => h135 (by rw [e]; decide), (List.forall_mem_nil _)⟩)⟩)⟩)⟩)⟩)⟩)⟩)⟩) (by decide) rfl ?_
                        refine q_aload_n (pc' := 133) ja_Reader_readSign_132 rfl rfl ?_
                        refine q_virt (pc' := 136) (c := 117) (as := []) (r := []) ja_Reader_readSign_133 rfl rfl rfl (by decide) ⟨rfl, by decide⟩ ?_
                        refine q_in (M := jm_Reader_fail) rfl (Nat.le_of_ble_eq_true rfl) (ls := [some (.ref 117)]) rfl ?_
                        refine q_aload_n (pc' := 1) ja_Reader_fail_0 rfl rfl ?_
                        refine q_getf (pc' := 4) (v := .int (s111 117 7)) ja_Reader_fail_1 rfl (by decide) ⟨rfl, by decide⟩ rfl ?_
                        refine q_iconst (pc' := 5) ja_Reader_fail_4 rfl (-1) (by decide) ?_
                        refine q_ic_ne (pc' := 8) ja_Reader_fail_5 rfl ?_ ?_
                        · intro h136
                          refine q_aload_n (pc' := 17) ja_Reader_fail_16 rfl rfl ?_
                          refine q_bipush (pc' := 19) ja_Reader_fail_17 rfl 17 (by decide) ?_
                          refine q_putf (pc' := 22) ja_Reader_fail_19 rfl (by decide) rfl rfl rfl ?_
                          intro s113 e113
                          refine q_vret ja_Reader_fail_22 rfl ?_
                          show q_W _ _ _ _ 136 [some (.ref 117), some (.int (s92 118 (s92 117 2).toNatClampNeg))] [] s113
                          refine q_vret ja_Reader_readSign_136 rfl ?_
                          show q_W _ _ _ _ 127 [some (.ref 117)] [] s113
                          exact q_vret ja_Reader_goOn_127 rfl (k74 h36 h72 h108 h110 h111 s92 e92 h112 h116 h120 h132 h133 h134 s111 e111 h135 h136 s113 e113)
                        · intro h137
                          refine q_aload_n (pc' := 9) ja_Reader_fail_8 rfl rfl ?_
                          refine q_aload_n (pc' := 10) ja_Reader_fail_9 rfl rfl ?_
                          refine q_getf (pc' := 13) (v := .int (s111 117 2)) ja_Reader_fail_10 rfl (by decide) ⟨rfl, by decide⟩ rfl ?_
                          refine q_putf (pc' := 16) ja_Reader_fail_13 rfl (by decide) rfl rfl rfl ?_
                          intro s114 e114
                          refine q_aload_n (pc' := 17) ja_Reader_fail_16 rfl rfl ?_
                          refine q_bipush (pc' := 19) ja_Reader_fail_17 rfl 17 (by decide) ?_
                          refine q_putf (pc' := 22) ja_Reader_fail_19 rfl (by decide) rfl rfl rfl ?_
                          intro s115 e115
                          refine q_vret ja_Reader_fail_22 rfl ?_
                          show q_W _ _ _ _ 136 [some (.ref 117), some (.int (s92 118 (s92 117 2).toNatClampNeg))] [] s115
                          refine q_vret ja_Reader_readSign_136 rfl ?_
                          show q_W _ _ _ _ 127 [some (.ref 117)] [] s115
                          exact q_vret ja_Reader_goOn_127 rfl (k75 h36 h72 h108 h110 h111 s92 e92 h112 h116 h120 h132 h133 h134 s111 e111 h135 h137 s114 e114 s115 e115)
                      · intro h138
                        refine q_aload_n (pc' := 11) ja_Reader_isDigit_10 rfl rfl ?_
                        refine q_iload_n (pc' := 12) ja_Reader_isDigit_11 rfl rfl ?_
                        refine q_virt (pc' := 15) (c := 117) (as := [.int (s92 117 2)]) (r := []) ja_Reader_isDigit_12 rfl rfl rfl (by decide) ⟨rfl, by decide⟩ ?_
                        refine q_in (M := jm_Reader_byteAt) rfl (Nat.le_of_ble_eq_true rfl) (ls := [some (.ref 117), some (.int (s92 117 2))]) rfl ?_
                        refine q_iload_n (pc' := 1) ja_Reader_byteAt_0 rfl rfl ?_
                        refine q_if_lt (pc' := 4) ja_Reader_byteAt_1 rfl (fun h => absurd h (h116)) (fun _ => ?_)
                        refine q_iload_n (pc' := 5) ja_Reader_byteAt_4 rfl rfl ?_
                        refine q_aload_n (pc' := 6) ja_Reader_byteAt_5 rfl rfl ?_
                        refine q_getf (pc' := 9) (v := .int (s92 117 1)) ja_Reader_byteAt_6 rfl (by decide) ⟨rfl, by decide⟩ rfl ?_
                        refine q_ic_ge (pc' := 12) ja_Reader_byteAt_9 rfl (fun h => absurd (h112) h) (fun _ => ?_)
                        refine q_iload_n (pc' := 13) ja_Reader_byteAt_12 rfl rfl ?_
                        refine q_aload_n (pc' := 14) ja_Reader_byteAt_13 rfl rfl ?_
                        refine q_getf (pc' := 17) (v := .ref 118) ja_Reader_byteAt_14 rfl (by decide) ⟨rfl, by decide⟩ rfl ?_
                        refine q_alen (pc' := 18) ja_Reader_byteAt_17 rfl (by decide) (kd := 13) (l := 200) rfl (by decide) (v := 200) (by decide) ?_
                        refine q_ic_ge (pc' := 21) ja_Reader_byteAt_18 rfl (fun h => absurd (h120) h) (fun _ => ?_)
                        refine q_aload_n (pc' := 22) ja_Reader_byteAt_21 rfl rfl ?_
                        refine q_getf (pc' := 25) (v := .ref 118) ja_Reader_byteAt_22 rfl (by decide) ⟨rfl, by decide⟩ rfl ?_
                        refine q_iload_n (pc' := 26) ja_Reader_byteAt_25 rfl rfl ?_
                        refine q_iald (pc' := 27) (v := .int (s92 118 (s92 117 2).toNatClampNeg)) ja_Reader_byteAt_26 rfl (by decide) (l := 200) rfl (q_inr (l := 200) (by decide) h116 h120) rfl ?_
                        refine q_goto ja_Reader_byteAt_27 ?_
                        refine q_iret ja_Reader_byteAt_31 rfl rfl ?_
                        show q_W _ _ _ _ 15 [some (.ref 117), some (.int (s92 117 2))] [.int (s92 118 (s92 117 2).toNatClampNeg)] s92
                        refine q_bipush (pc' := 17) ja_Reader_isDigit_15 rfl 57 (by decide) ?_
                        refine q_ic_gt (pc' := 20) ja_Reader_isDigit_17 rfl ?_ ?_
                        · intro h139
                          refine q_iconst (pc' := 25) ja_Reader_isDigit_24 rfl 0 (by decide) ?_
                          refine q_iret ja_Reader_isDigit_25 rfl (by decide) ?_
                          show q_W _ _ _ _ 113 [some (.ref 117)] [.int 0] s92
                          refine q_if_eq (pc' := 116) ja_Reader_goOn_113 rfl (fun _ => ?_) (fun h => absurd ((by decide : (0 : Int32) = 0)) h)
                          refine q_aload_n (pc' := 124) ja_Reader_goOn_123 rfl rfl ?_
                          refine q_virt (pc' := 127) (c := 117) (as := []) (r := []) ja_Reader_goOn_124 rfl rfl rfl (by decide) ⟨rfl, by decide⟩ ?_
                          refine q_in (M := jm_Reader_readSign) rfl (Nat.le_of_ble_eq_true rfl) (ls := [some (.ref 117), none]) rfl ?_
                          refine q_aload_n (pc' := 1) ja_Reader_readSign_0 rfl rfl ?_
                          refine q_aload_n (pc' := 2) ja_Reader_readSign_1 rfl rfl ?_
                          refine q_getf (pc' := 5) (v := .int (s92 117 2)) ja_Reader_readSign_2 rfl (by decide) ⟨rfl, by decide⟩ rfl ?_
                          refine q_virt (pc' := 8) (c := 117) (as := [.int (s92 117 2)]) (r := []) ja_Reader_readSign_5 rfl rfl rfl (by decide) ⟨rfl, by decide⟩ ?_
                          refine q_in (M := jm_Reader_byteAt) rfl (Nat.le_of_ble_eq_true rfl) (ls := [some (.ref 117), some (.int (s92 117 2))]) rfl ?_
                          refine q_iload_n (pc' := 1) ja_Reader_byteAt_0 rfl rfl ?_
                          refine q_if_lt (pc' := 4) ja_Reader_byteAt_1 rfl (fun h => absurd h (h116)) (fun _ => ?_)
                          refine q_iload_n (pc' := 5) ja_Reader_byteAt_4 rfl rfl ?_
                          refine q_aload_n (pc' := 6) ja_Reader_byteAt_5 rfl rfl ?_
                          refine q_getf (pc' := 9) (v := .int (s92 117 1)) ja_Reader_byteAt_6 rfl (by decide) ⟨rfl, by decide⟩ rfl ?_
                          refine q_ic_ge (pc' := 12) ja_Reader_byteAt_9 rfl (fun h => absurd (h112) h) (fun _ => ?_)
                          refine q_iload_n (pc' := 13) ja_Reader_byteAt_12 rfl rfl ?_
                          refine q_aload_n (pc' := 14) ja_Reader_byteAt_13 rfl rfl ?_
                          refine q_getf (pc' := 17) (v := .ref 118) ja_Reader_byteAt_14 rfl (by decide) ⟨rfl, by decide⟩ rfl ?_
                          refine q_alen (pc' := 18) ja_Reader_byteAt_17 rfl (by decide) (kd := 13) (l := 200) rfl (by decide) (v := 200) (by decide) ?_
                          refine q_ic_ge (pc' := 21) ja_Reader_byteAt_18 rfl (fun h => absurd (h120) h) (fun _ => ?_)
                          refine q_aload_n (pc' := 22) ja_Reader_byteAt_21 rfl rfl ?_
                          refine q_getf (pc' := 25) (v := .ref 118) ja_Reader_byteAt_22 rfl (by decide) ⟨rfl, by decide⟩ rfl ?_
                          refine q_iload_n (pc' := 26) ja_Reader_byteAt_25 rfl rfl ?_
                          refine q_iald (pc' := 27) (v := .int (s92 118 (s92 117 2).toNatClampNeg)) ja_Reader_byteAt_26 rfl (by decide) (l := 200) rfl (q_inr (l := 200) (by decide) h116 h120) rfl ?_
                          refine q_goto ja_Reader_byteAt_27 ?_
                          refine q_iret ja_Reader_byteAt_31 rfl rfl ?_
                          show q_W _ _ _ _ 8 [some (.ref 117), none] [.int (s92 118 (s92 117 2).toNatClampNeg)] s92
                          refine q_istore_n (pc' := 9) (ls' := [some (.ref 117), some (.int (s92 118 (s92 117 2).toNatClampNeg))]) ja_Reader_readSign_8 rfl ⟨Nat.le_of_ble_eq_true rfl, rfl⟩ rfl ?_
                          refine q_aload_n (pc' := 10) ja_Reader_readSign_9 rfl rfl ?_
                          refine q_dup (pc' := 11) ja_Reader_readSign_10 rfl rfl ?_
                          refine q_getf (pc' := 14) (v := .int (s92 117 3)) ja_Reader_readSign_11 rfl (by decide) ⟨rfl, by decide⟩ rfl ?_
                          refine q_iconst (pc' := 15) ja_Reader_readSign_14 rfl 1 (by decide) ?_
                          refine q_iadd (pc' := 16) ja_Reader_readSign_15 rfl ?_
                          refine q_putf (pc' := 19) ja_Reader_readSign_16 rfl (by decide) rfl rfl rfl ?_
                          intro s116 e116
                          refine q_iload_n (pc' := 20) ja_Reader_readSign_19 rfl rfl ?_
                          by_cases h140 : ((s92 118 (s92 117 2).toNatClampNeg) = 40 ∨ (s92 118 (s92 117 2).toNatClampNeg) = 41 ∨ (s92 118 (s92 117 2).toNatClampNeg) = 42 ∨ (s92 118 (s92 117 2).toNatClampNeg) = 43 ∨ (s92 118 (s92 117 2).toNatClampNeg) = 45 ∨ (s92 118 (s92 117 2).toNatClampNeg) = 59 ∨ (s92 118 (s92 117 2).toNatClampNeg) = 60 ∨ (s92 118 (s92 117 2).toNatClampNeg) = 61)
                          · refine q_swE (pc' := 124) ja_Reader_readSign_20 (by rcases h140 with e | e | e | e | e | e | e | e <;> (rw [e]; decide)) (by rcases h140 with e | e | e | e | e | e | e | e <;> (rw [e]; exact ⟨_, rfl, rfl⟩)) ?_
                            refine q_aload_n (pc' := 125) ja_Reader_readSign_124 rfl rfl ?_
                            refine q_iload_n (pc' := 126) ja_Reader_readSign_125 rfl rfl ?_
                            refine q_putf (pc' := 129) ja_Reader_readSign_126 rfl (by decide) rfl rfl rfl ?_
                            intro s117 e117
                            refine q_goto ja_Reader_readSign_129 ?_
                            refine q_vret ja_Reader_readSign_136 rfl ?_
                            show q_W _ _ _ _ 127 [some (.ref 117)] [] s117
                            exact q_vret ja_Reader_goOn_127 rfl (k76 h36 h72 h108 h110 h111 s92 e92 h112 h116 h120 h132 h133 h138 h139 s116 e116 h140 s117 e117)
                          refine q_swD (pc' := 132) ja_Reader_readSign_20 [40, 41, 42, 43, 45, 59, 60, 61] (List.forall_mem_cons.mpr ⟨fun e => h140 (by rw [e]; decide), (List.forall_mem_cons.mpr ⟨fun e => h140 (by rw [e]; decide), (List.forall_mem_cons.mpr ⟨fun e => h140 (by rw [e]; decide), (List.forall_mem_cons.mpr ⟨fun e => h140 (by rw [e]; decide), (List.forall_mem_cons.mpr ⟨fun e => h140 (by rw [e]; decide), (List.forall_mem_cons.mpr ⟨fun e => h140 (by rw [e]; decide), (List.forall_mem_cons.mpr ⟨fun e => h140 (by rw [e]; decide), (List.forall_mem_cons.mpr ⟨fun e => h140 (by rw [e]; decide), (List.forall_mem_nil _)⟩)⟩)⟩)⟩)⟩)⟩)⟩)⟩) (by decide) rfl ?_
                          refine q_aload_n (pc' := 133) ja_Reader_readSign_132 rfl rfl ?_
                          refine q_virt (pc' := 136) (c := 117) (as := []) (r := []) ja_Reader_readSign_133 rfl rfl rfl (by decide) ⟨rfl, by decide⟩ ?_
                          refine q_in (M := jm_Reader_fail) rfl (Nat.le_of_ble_eq_true rfl) (ls := [some (.ref 117)]) rfl ?_
                          refine q_aload_n (pc' := 1) ja_Reader_fail_0 rfl rfl ?_
                          refine q_getf (pc' := 4) (v := .int (s116 117 7)) ja_Reader_fail_1 rfl (by decide) ⟨rfl, by decide⟩ rfl ?_
                          refine q_iconst (pc' := 5) ja_Reader_fail_4 rfl (-1) (by decide) ?_
                          refine q_ic_ne (pc' := 8) ja_Reader_fail_5 rfl ?_ ?_
                          · intro h141
                            refine q_aload_n (pc' := 17) ja_Reader_fail_16 rfl rfl ?_
                            refine q_bipush (pc' := 19) ja_Reader_fail_17 rfl 17 (by decide) ?_
                            refine q_putf (pc' := 22) ja_Reader_fail_19 rfl (by decide) rfl rfl rfl ?_
                            intro s118 e118
                            refine q_vret ja_Reader_fail_22 rfl ?_
                            show q_W _ _ _ _ 136 [some (.ref 117), some (.int (s92 118 (s92 117 2).toNatClampNeg))] [] s118
                            refine q_vret ja_Reader_readSign_136 rfl ?_
                            show q_W _ _ _ _ 127 [some (.ref 117)] [] s118
                            exact q_vret ja_Reader_goOn_127 rfl (k77 h36 h72 h108 h110 h111 s92 e92 h112 h116 h120 h132 h133 h138 h139 s116 e116 h140 h141 s118 e118)
                          · intro h142
                            refine q_aload_n (pc' := 9) ja_Reader_fail_8 rfl rfl ?_
                            refine q_aload_n (pc' := 10) ja_Reader_fail_9 rfl rfl ?_
                            refine q_getf (pc' := 13) (v := .int (s116 117 2)) ja_Reader_fail_10 rfl (by decide) ⟨rfl, by decide⟩ rfl ?_
                            refine q_putf (pc' := 16) ja_Reader_fail_13 rfl (by decide) rfl rfl rfl ?_
                            intro s119 e119
                            refine q_aload_n (pc' := 17) ja_Reader_fail_16 rfl rfl ?_
                            refine q_bipush (pc' := 19) ja_Reader_fail_17 rfl 17 (by decide) ?_
                            refine q_putf (pc' := 22) ja_Reader_fail_19 rfl (by decide) rfl rfl rfl ?_
                            intro s120 e120
                            refine q_vret ja_Reader_fail_22 rfl ?_
                            show q_W _ _ _ _ 136 [some (.ref 117), some (.int (s92 118 (s92 117 2).toNatClampNeg))] [] s120
                            refine q_vret ja_Reader_readSign_136 rfl ?_
                            show q_W _ _ _ _ 127 [some (.ref 117)] [] s120
                            exact q_vret ja_Reader_goOn_127 rfl (k78 h36 h72 h108 h110 h111 s92 e92 h112 h116 h120 h132 h133 h138 h139 s116 e116 h140 h142 s119 e119 s120 e120)
                        · intro h143
                          refine q_iconst (pc' := 21) ja_Reader_isDigit_20 rfl 1 (by decide) ?_
                          refine q_goto ja_Reader_isDigit_21 ?_
                          refine q_iret ja_Reader_isDigit_25 rfl (by decide) ?_
                          show q_W _ _ _ _ 113 [some (.ref 117)] [.int 1] s92
                          refine q_if_eq (pc' := 116) ja_Reader_goOn_113 rfl (fun h => absurd h ((by decide : ¬ (1 : Int32) = 0))) (fun _ => ?_)
                          refine q_aload_n (pc' := 117) ja_Reader_goOn_116 rfl rfl ?_
                          refine q_virt (pc' := 120) (c := 117) (as := []) (r := []) ja_Reader_goOn_117 rfl rfl rfl (by decide) ⟨rfl, by decide⟩ ?_
                          exact (k79 h36 h72 h108 h110 h111 s92 e92 h112 h116 h120 h132 h133 h138 h143)
                    · intro h144
                      refine q_iconst (pc' := 21) ja_Reader_isLetter_20 rfl 1 (by decide) ?_
                      refine q_goto ja_Reader_isLetter_21 ?_
                      refine q_iret ja_Reader_isLetter_25 rfl (by decide) ?_
                      show q_W _ _ _ _ 95 [some (.ref 117)] [.int 1] s92
                      refine q_if_eq (pc' := 98) ja_Reader_goOn_95 rfl (fun h => absurd h ((by decide : ¬ (1 : Int32) = 0))) (fun _ => ?_)
                      refine q_aload_n (pc' := 99) ja_Reader_goOn_98 rfl rfl ?_
                      refine q_virt (pc' := 102) (c := 117) (as := []) (r := []) ja_Reader_goOn_99 rfl rfl rfl (by decide) ⟨rfl, by decide⟩ ?_
                      exact (k80 h36 h72 h108 h110 h111 s92 e92 h112 h116 h120 h132 h144)
            · intro h145
              refine q_aload_n (pc' := 79) ja_Reader_goOn_78 rfl rfl ?_
              refine q_bipush (pc' := 81) ja_Reader_goOn_79 rfl 16 (by decide) ?_
              refine q_putf (pc' := 84) ja_Reader_goOn_81 rfl (by decide) rfl rfl rfl ?_
              intro s121 e121
              refine q_goto ja_Reader_goOn_84 ?_
              exact q_vret ja_Reader_goOn_127 rfl (k81 h36 h72 h108 h110 h111 s92 e92 h145 s121 e121)
          · intro h146
            refine q_aload_n (pc' := 47) ja_Reader_goOn_46 rfl rfl ?_
            refine q_dup (pc' := 48) ja_Reader_goOn_47 rfl rfl ?_
            refine q_getf (pc' := 51) (v := .int (s 117 3)) ja_Reader_goOn_48 rfl (by decide) ⟨rfl, by decide⟩ rfl ?_
            refine q_iconst (pc' := 52) ja_Reader_goOn_51 rfl 1 (by decide) ?_
            refine q_iadd (pc' := 53) ja_Reader_goOn_52 rfl ?_
            refine q_putf (pc' := 56) ja_Reader_goOn_53 rfl (by decide) rfl rfl rfl ?_
            intro s122 e122
            refine q_goto ja_Reader_goOn_56 ?_
            exact (k82 h36 h72 h108 h110 h146 s122 e122)
set_option maxRecDepth 20000 in
theorem t_Reader_goOn_102 {G : jv_X} {d : Nat} {B : Option Value → jg_H → Prop} {s : jg_H} 
    (k1 : B none s) :
    q_W G (d + 2) jm_Reader_goOn B 102 [some (.ref 117)] [] s := by
  refine q_goto ja_Reader_goOn_102 ?_
  exact q_vret ja_Reader_goOn_127 rfl k1
set_option maxRecDepth 20000 in
theorem t_Reader_goOn_120 {G : jv_X} {d : Nat} {B : Option Value → jg_H → Prop} {s : jg_H} 
    (k1 : B none s) :
    q_W G (d + 2) jm_Reader_goOn B 120 [some (.ref 117)] [] s := by
  refine q_goto ja_Reader_goOn_120 ?_
  exact q_vret ja_Reader_goOn_127 rfl k1
set_option maxRecDepth 20000 in
theorem t_Reader_isDigit {G : jv_X} {d : Nat} {B : Option Value → jg_H → Prop} {s : jg_H} (a1 : Int32)
    (k1 : a1 < 0 → B (some (.int 0)) s)
    (k2 : ¬ a1 < 0 → ¬ a1 < (s 117 1) → B (some (.int 0)) s)
    (k3 : ¬ a1 < 0 → a1 < (s 117 1) → ¬ a1 < 200 → B (some (.int 0)) s)
    (k4 : ¬ a1 < 0 → a1 < (s 117 1) → a1 < 200 → (s 118 a1.toNatClampNeg) < 48 → B (some (.int 0)) s)
    (k5 : ¬ a1 < 0 → a1 < (s 117 1) → a1 < 200 → ¬ (s 118 a1.toNatClampNeg) < 48 → ¬ (s 118 a1.toNatClampNeg) ≤ 57 → B (some (.int 0)) s)
    (k6 : ¬ a1 < 0 → a1 < (s 117 1) → a1 < 200 → ¬ (s 118 a1.toNatClampNeg) < 48 → (s 118 a1.toNatClampNeg) ≤ 57 → B (some (.int 1)) s) :
    q_P G (d + 2) 27 [.ref 117, .int a1] s B := by
  refine q_in (M := jm_Reader_isDigit) rfl (Nat.le_of_ble_eq_true rfl) (ls := [some (.ref 117), some (.int a1)]) rfl ?_
  refine q_aload_n (pc' := 1) ja_Reader_isDigit_0 rfl rfl ?_
  refine q_iload_n (pc' := 2) ja_Reader_isDigit_1 rfl rfl ?_
  refine q_virt (pc' := 5) (c := 117) (as := [.int a1]) (r := []) ja_Reader_isDigit_2 rfl rfl rfl (by decide) ⟨rfl, by decide⟩ ?_
  refine q_in (M := jm_Reader_byteAt) rfl (Nat.le_of_ble_eq_true rfl) (ls := [some (.ref 117), some (.int a1)]) rfl ?_
  refine q_iload_n (pc' := 1) ja_Reader_byteAt_0 rfl rfl ?_
  refine q_if_lt (pc' := 4) ja_Reader_byteAt_1 rfl ?_ ?_
  · intro h1
    refine q_iconst (pc' := 31) ja_Reader_byteAt_30 rfl 0 (by decide) ?_
    refine q_iret ja_Reader_byteAt_31 rfl rfl ?_
    show q_W _ _ _ _ 5 [some (.ref 117), some (.int a1)] [.int 0] s
    refine q_bipush (pc' := 7) ja_Reader_isDigit_5 rfl 48 (by decide) ?_
    refine q_ic_lt (pc' := 10) ja_Reader_isDigit_7 rfl (fun _ => ?_) (fun h => absurd ((by decide : (0 : Int32) < 48)) h)
    refine q_iconst (pc' := 25) ja_Reader_isDigit_24 rfl 0 (by decide) ?_
    exact q_iret ja_Reader_isDigit_25 rfl (by decide) (k1 h1)
  · intro h2
    refine q_iload_n (pc' := 5) ja_Reader_byteAt_4 rfl rfl ?_
    refine q_aload_n (pc' := 6) ja_Reader_byteAt_5 rfl rfl ?_
    refine q_getf (pc' := 9) (v := .int (s 117 1)) ja_Reader_byteAt_6 rfl (by decide) ⟨rfl, by decide⟩ rfl ?_
    refine q_ic_ge (pc' := 12) ja_Reader_byteAt_9 rfl ?_ ?_
    · intro h3
      refine q_iconst (pc' := 31) ja_Reader_byteAt_30 rfl 0 (by decide) ?_
      refine q_iret ja_Reader_byteAt_31 rfl rfl ?_
      show q_W _ _ _ _ 5 [some (.ref 117), some (.int a1)] [.int 0] s
      refine q_bipush (pc' := 7) ja_Reader_isDigit_5 rfl 48 (by decide) ?_
      refine q_ic_lt (pc' := 10) ja_Reader_isDigit_7 rfl (fun _ => ?_) (fun h => absurd ((by decide : (0 : Int32) < 48)) h)
      refine q_iconst (pc' := 25) ja_Reader_isDigit_24 rfl 0 (by decide) ?_
      exact q_iret ja_Reader_isDigit_25 rfl (by decide) (k2 h2 h3)
    · intro h4
      refine q_iload_n (pc' := 13) ja_Reader_byteAt_12 rfl rfl ?_
      refine q_aload_n (pc' := 14) ja_Reader_byteAt_13 rfl rfl ?_
      refine q_getf (pc' := 17) (v := .ref 118) ja_Reader_byteAt_14 rfl (by decide) ⟨rfl, by decide⟩ rfl ?_
      refine q_alen (pc' := 18) ja_Reader_byteAt_17 rfl (by decide) (kd := 13) (l := 200) rfl (by decide) (v := 200) (by decide) ?_
      refine q_ic_ge (pc' := 21) ja_Reader_byteAt_18 rfl ?_ ?_
      · intro h5
        refine q_iconst (pc' := 31) ja_Reader_byteAt_30 rfl 0 (by decide) ?_
        refine q_iret ja_Reader_byteAt_31 rfl rfl ?_
        show q_W _ _ _ _ 5 [some (.ref 117), some (.int a1)] [.int 0] s
        refine q_bipush (pc' := 7) ja_Reader_isDigit_5 rfl 48 (by decide) ?_
        refine q_ic_lt (pc' := 10) ja_Reader_isDigit_7 rfl (fun _ => ?_) (fun h => absurd ((by decide : (0 : Int32) < 48)) h)
        refine q_iconst (pc' := 25) ja_Reader_isDigit_24 rfl 0 (by decide) ?_
        exact q_iret ja_Reader_isDigit_25 rfl (by decide) (k3 h2 h4 h5)
      · intro h6
        refine q_aload_n (pc' := 22) ja_Reader_byteAt_21 rfl rfl ?_
        refine q_getf (pc' := 25) (v := .ref 118) ja_Reader_byteAt_22 rfl (by decide) ⟨rfl, by decide⟩ rfl ?_
        refine q_iload_n (pc' := 26) ja_Reader_byteAt_25 rfl rfl ?_
        refine q_iald (pc' := 27) (v := .int (s 118 a1.toNatClampNeg)) ja_Reader_byteAt_26 rfl (by decide) (l := 200) rfl (q_inr (l := 200) (by decide) h2 h6) rfl ?_
        refine q_goto ja_Reader_byteAt_27 ?_
        refine q_iret ja_Reader_byteAt_31 rfl rfl ?_
        show q_W _ _ _ _ 5 [some (.ref 117), some (.int a1)] [.int (s 118 a1.toNatClampNeg)] s
        refine q_bipush (pc' := 7) ja_Reader_isDigit_5 rfl 48 (by decide) ?_
        refine q_ic_lt (pc' := 10) ja_Reader_isDigit_7 rfl ?_ ?_
        · intro h7
          refine q_iconst (pc' := 25) ja_Reader_isDigit_24 rfl 0 (by decide) ?_
          exact q_iret ja_Reader_isDigit_25 rfl (by decide) (k4 h2 h4 h6 h7)
        · intro h8
          refine q_aload_n (pc' := 11) ja_Reader_isDigit_10 rfl rfl ?_
          refine q_iload_n (pc' := 12) ja_Reader_isDigit_11 rfl rfl ?_
          refine q_virt (pc' := 15) (c := 117) (as := [.int a1]) (r := []) ja_Reader_isDigit_12 rfl rfl rfl (by decide) ⟨rfl, by decide⟩ ?_
          refine q_in (M := jm_Reader_byteAt) rfl (Nat.le_of_ble_eq_true rfl) (ls := [some (.ref 117), some (.int a1)]) rfl ?_
          refine q_iload_n (pc' := 1) ja_Reader_byteAt_0 rfl rfl ?_
          refine q_if_lt (pc' := 4) ja_Reader_byteAt_1 rfl (fun h => absurd h (h2)) (fun _ => ?_)
          refine q_iload_n (pc' := 5) ja_Reader_byteAt_4 rfl rfl ?_
          refine q_aload_n (pc' := 6) ja_Reader_byteAt_5 rfl rfl ?_
          refine q_getf (pc' := 9) (v := .int (s 117 1)) ja_Reader_byteAt_6 rfl (by decide) ⟨rfl, by decide⟩ rfl ?_
          refine q_ic_ge (pc' := 12) ja_Reader_byteAt_9 rfl (fun h => absurd (h4) h) (fun _ => ?_)
          refine q_iload_n (pc' := 13) ja_Reader_byteAt_12 rfl rfl ?_
          refine q_aload_n (pc' := 14) ja_Reader_byteAt_13 rfl rfl ?_
          refine q_getf (pc' := 17) (v := .ref 118) ja_Reader_byteAt_14 rfl (by decide) ⟨rfl, by decide⟩ rfl ?_
          refine q_alen (pc' := 18) ja_Reader_byteAt_17 rfl (by decide) (kd := 13) (l := 200) rfl (by decide) (v := 200) (by decide) ?_
          refine q_ic_ge (pc' := 21) ja_Reader_byteAt_18 rfl (fun h => absurd (h6) h) (fun _ => ?_)
          refine q_aload_n (pc' := 22) ja_Reader_byteAt_21 rfl rfl ?_
          refine q_getf (pc' := 25) (v := .ref 118) ja_Reader_byteAt_22 rfl (by decide) ⟨rfl, by decide⟩ rfl ?_
          refine q_iload_n (pc' := 26) ja_Reader_byteAt_25 rfl rfl ?_
          refine q_iald (pc' := 27) (v := .int (s 118 a1.toNatClampNeg)) ja_Reader_byteAt_26 rfl (by decide) (l := 200) rfl (q_inr (l := 200) (by decide) h2 h6) rfl ?_
          refine q_goto ja_Reader_byteAt_27 ?_
          refine q_iret ja_Reader_byteAt_31 rfl rfl ?_
          show q_W _ _ _ _ 15 [some (.ref 117), some (.int a1)] [.int (s 118 a1.toNatClampNeg)] s
          refine q_bipush (pc' := 17) ja_Reader_isDigit_15 rfl 57 (by decide) ?_
          refine q_ic_gt (pc' := 20) ja_Reader_isDigit_17 rfl ?_ ?_
          · intro h9
            refine q_iconst (pc' := 25) ja_Reader_isDigit_24 rfl 0 (by decide) ?_
            exact q_iret ja_Reader_isDigit_25 rfl (by decide) (k5 h2 h4 h6 h8 h9)
          · intro h10
            refine q_iconst (pc' := 21) ja_Reader_isDigit_20 rfl 1 (by decide) ?_
            refine q_goto ja_Reader_isDigit_21 ?_
            exact q_iret ja_Reader_isDigit_25 rfl (by decide) (k6 h2 h4 h6 h8 h10)
set_option maxRecDepth 20000 in
theorem t_Reader_isKnown {G : jv_X} {d : Nat} {B : Option Value → jg_H → Prop} {s : jg_H} (a1 : Int32)
    (k1 : q_W G (d + 1) jm_Reader_isKnown B 2 [some (.ref 117), some (.int a1), some (.int 0), none, none] [] s) :
    q_P G (d + 2) 25 [.ref 117, .int a1] s B := by
  refine q_in (M := jm_Reader_isKnown) rfl (Nat.le_of_ble_eq_true rfl) (ls := [some (.ref 117), some (.int a1), none, none, none]) rfl ?_
  refine q_iconst (pc' := 1) ja_Reader_isKnown_0 rfl 0 (by decide) ?_
  refine q_istore_n (pc' := 2) (ls' := [some (.ref 117), some (.int a1), some (.int 0), none, none]) ja_Reader_isKnown_1 rfl ⟨Nat.le_of_ble_eq_true rfl, rfl⟩ rfl ?_
  exact k1
set_option maxRecDepth 20000 in
theorem t_Reader_isKnown_2 {G : jv_X} {d : Nat} {B : Option Value → jg_H → Prop} {s : jg_H} (x1 : Int32) (x2 : Int32) {o3 : Option Value} (ho3 : f_n o3 = true) {o4 : Option Value} (ho4 : f_n o4 = true)
    (k1 : ¬ x2 < 8 → B (some (.int 1)) s)
    (k2 : x2 < 8 → ¬ ((s 117 2) + x2) < (s 117 3) → ((8 * x1) + x2) < 0 → B (some (.int 0)) s)
    (k3 : x2 < 8 → ¬ ((s 117 2) + x2) < (s 117 3) → ¬ ((8 * x1) + x2) < 0 → q_P G (d + 1) 12 [.ref 1000002] s (fun v t => q_W G (d + 1) jm_Reader_isKnown B 57 [some (.ref 117), some (.int x1), some (.int x2), some (.int 32), some (.int ((8 * x1) + x2))] (v.toList ++ [.int ((8 * x1) + x2)]) t))
    (k4 : x2 < 8 → ((s 117 2) + x2) < (s 117 3) → ((s 117 2) + x2) < 0 → ((8 * x1) + x2) < 0 → B (some (.int 0)) s)
    (k5 : x2 < 8 → ((s 117 2) + x2) < (s 117 3) → ((s 117 2) + x2) < 0 → ¬ ((8 * x1) + x2) < 0 → q_P G (d + 1) 12 [.ref 1000002] s (fun v t => q_W G (d + 1) jm_Reader_isKnown B 57 [some (.ref 117), some (.int x1), some (.int x2), some (.int 0), some (.int ((8 * x1) + x2))] (v.toList ++ [.int ((8 * x1) + x2)]) t))
    (k6 : x2 < 8 → ((s 117 2) + x2) < (s 117 3) → ¬ ((s 117 2) + x2) < 0 → ¬ ((s 117 2) + x2) < (s 117 1) → ((8 * x1) + x2) < 0 → B (some (.int 0)) s)
    (k7 : x2 < 8 → ((s 117 2) + x2) < (s 117 3) → ¬ ((s 117 2) + x2) < 0 → ¬ ((s 117 2) + x2) < (s 117 1) → ¬ ((8 * x1) + x2) < 0 → q_P G (d + 1) 12 [.ref 1000002] s (fun v t => q_W G (d + 1) jm_Reader_isKnown B 57 [some (.ref 117), some (.int x1), some (.int x2), some (.int 0), some (.int ((8 * x1) + x2))] (v.toList ++ [.int ((8 * x1) + x2)]) t))
    (k8 : x2 < 8 → ((s 117 2) + x2) < (s 117 3) → ¬ ((s 117 2) + x2) < 0 → ((s 117 2) + x2) < (s 117 1) → ¬ ((s 117 2) + x2) < 200 → ((8 * x1) + x2) < 0 → B (some (.int 0)) s)
    (k9 : x2 < 8 → ((s 117 2) + x2) < (s 117 3) → ¬ ((s 117 2) + x2) < 0 → ((s 117 2) + x2) < (s 117 1) → ¬ ((s 117 2) + x2) < 200 → ¬ ((8 * x1) + x2) < 0 → q_P G (d + 1) 12 [.ref 1000002] s (fun v t => q_W G (d + 1) jm_Reader_isKnown B 57 [some (.ref 117), some (.int x1), some (.int x2), some (.int 0), some (.int ((8 * x1) + x2))] (v.toList ++ [.int ((8 * x1) + x2)]) t))
    (k10 : x2 < 8 → ((s 117 2) + x2) < (s 117 3) → ¬ ((s 117 2) + x2) < 0 → ((s 117 2) + x2) < (s 117 1) → ((s 117 2) + x2) < 200 → ((8 * x1) + x2) < 0 → B (some (.int 0)) s)
    (k11 : x2 < 8 → ((s 117 2) + x2) < (s 117 3) → ¬ ((s 117 2) + x2) < 0 → ((s 117 2) + x2) < (s 117 1) → ((s 117 2) + x2) < 200 → ¬ ((8 * x1) + x2) < 0 → q_P G (d + 1) 12 [.ref 1000002] s (fun v t => q_W G (d + 1) jm_Reader_isKnown B 57 [some (.ref 117), some (.int x1), some (.int x2), some (.int (s 118 ((s 117 2) + x2).toNatClampNeg)), some (.int ((8 * x1) + x2))] (v.toList ++ [.int ((8 * x1) + x2)]) t)) :
    q_W G (d + 1) jm_Reader_isKnown B 2 [some (.ref 117), some (.int x1), some (.int x2), o3, o4] [] s := by
  refine q_iload_n (pc' := 3) ja_Reader_isKnown_2 rfl rfl ?_
  refine q_bipush (pc' := 5) ja_Reader_isKnown_3 rfl 8 (by decide) ?_
  refine q_ic_ge (pc' := 8) ja_Reader_isKnown_5 rfl ?_ ?_
  · intro h1
    refine q_iconst (pc' := 80) ja_Reader_isKnown_79 rfl 1 (by decide) ?_
    exact q_iret ja_Reader_isKnown_80 rfl (by decide) (k1 h1)
  · intro h2
    refine q_aload_n (pc' := 9) ja_Reader_isKnown_8 rfl rfl ?_
    refine q_getf (pc' := 12) (v := .int (s 117 2)) ja_Reader_isKnown_9 rfl (by decide) ⟨rfl, by decide⟩ rfl ?_
    refine q_iload_n (pc' := 13) ja_Reader_isKnown_12 rfl rfl ?_
    refine q_iadd (pc' := 14) ja_Reader_isKnown_13 rfl ?_
    refine q_aload_n (pc' := 15) ja_Reader_isKnown_14 rfl rfl ?_
    refine q_getf (pc' := 18) (v := .int (s 117 3)) ja_Reader_isKnown_15 rfl (by decide) ⟨rfl, by decide⟩ rfl ?_
    refine q_ic_ge (pc' := 21) ja_Reader_isKnown_18 rfl ?_ ?_
    · intro h3
      refine q_bipush (pc' := 36) ja_Reader_isKnown_34 rfl 32 (by decide) ?_
      refine q_istore_n (pc' := 37) (ls' := [some (.ref 117), some (.int x1), some (.int x2), some (.int 32), o4]) ja_Reader_isKnown_36 rfl ⟨Nat.le_of_ble_eq_true rfl, rfl⟩ rfl ?_
      refine q_bipush (pc' := 39) ja_Reader_isKnown_37 rfl 8 (by decide) ?_
      refine q_iload_n (pc' := 40) ja_Reader_isKnown_39 rfl rfl ?_
      refine q_imul (pc' := 41) ja_Reader_isKnown_40 rfl ?_
      refine q_iload_n (pc' := 42) ja_Reader_isKnown_41 rfl rfl ?_
      refine q_iadd (pc' := 43) ja_Reader_isKnown_42 rfl ?_
      refine q_istore (pc' := 45) (ls' := [some (.ref 117), some (.int x1), some (.int x2), some (.int 32), some (.int ((8 * x1) + x2))]) ja_Reader_isKnown_43 rfl ⟨Nat.le_of_ble_eq_true rfl, rfl⟩ rfl ?_
      refine q_iload (pc' := 47) ja_Reader_isKnown_45 rfl rfl ?_
      refine q_if_lt (pc' := 50) ja_Reader_isKnown_47 rfl ?_ ?_
      · intro h4
        refine q_iconst (pc' := 72) ja_Reader_isKnown_71 rfl 0 (by decide) ?_
        exact q_iret ja_Reader_isKnown_72 rfl (by decide) (k2 h2 h3 h4)
      · intro h5
        refine q_iload (pc' := 52) ja_Reader_isKnown_50 rfl rfl ?_
        refine q_ldcs (pc' := 54) ja_Reader_isKnown_52 rfl rfl 1000002 rfl ?_
        refine q_virs (pc' := 57) (c := 1000002) (as := []) (r := [.int ((8 * x1) + x2)]) ja_Reader_isKnown_54 rfl rfl rfl (by decide) rfl ?_
        exact (k3 h2 h3 h5)
    · intro h6
      refine q_aload_n (pc' := 22) ja_Reader_isKnown_21 rfl rfl ?_
      refine q_aload_n (pc' := 23) ja_Reader_isKnown_22 rfl rfl ?_
      refine q_getf (pc' := 26) (v := .int (s 117 2)) ja_Reader_isKnown_23 rfl (by decide) ⟨rfl, by decide⟩ rfl ?_
      refine q_iload_n (pc' := 27) ja_Reader_isKnown_26 rfl rfl ?_
      refine q_iadd (pc' := 28) ja_Reader_isKnown_27 rfl ?_
      refine q_virt (pc' := 31) (c := 117) (as := [.int ((s 117 2) + x2)]) (r := []) ja_Reader_isKnown_28 rfl rfl rfl (by decide) ⟨rfl, by decide⟩ ?_
      refine q_in (M := jm_Reader_byteAt) rfl (Nat.le_of_ble_eq_true rfl) (ls := [some (.ref 117), some (.int ((s 117 2) + x2))]) rfl ?_
      refine q_iload_n (pc' := 1) ja_Reader_byteAt_0 rfl rfl ?_
      refine q_if_lt (pc' := 4) ja_Reader_byteAt_1 rfl ?_ ?_
      · intro h7
        refine q_iconst (pc' := 31) ja_Reader_byteAt_30 rfl 0 (by decide) ?_
        refine q_iret ja_Reader_byteAt_31 rfl rfl ?_
        show q_W _ _ _ _ 31 [some (.ref 117), some (.int x1), some (.int x2), o3, o4] [.int 0] s
        refine q_goto ja_Reader_isKnown_31 ?_
        refine q_istore_n (pc' := 37) (ls' := [some (.ref 117), some (.int x1), some (.int x2), some (.int 0), o4]) ja_Reader_isKnown_36 rfl ⟨Nat.le_of_ble_eq_true rfl, rfl⟩ rfl ?_
        refine q_bipush (pc' := 39) ja_Reader_isKnown_37 rfl 8 (by decide) ?_
        refine q_iload_n (pc' := 40) ja_Reader_isKnown_39 rfl rfl ?_
        refine q_imul (pc' := 41) ja_Reader_isKnown_40 rfl ?_
        refine q_iload_n (pc' := 42) ja_Reader_isKnown_41 rfl rfl ?_
        refine q_iadd (pc' := 43) ja_Reader_isKnown_42 rfl ?_
        refine q_istore (pc' := 45) (ls' := [some (.ref 117), some (.int x1), some (.int x2), some (.int 0), some (.int ((8 * x1) + x2))]) ja_Reader_isKnown_43 rfl ⟨Nat.le_of_ble_eq_true rfl, rfl⟩ rfl ?_
        refine q_iload (pc' := 47) ja_Reader_isKnown_45 rfl rfl ?_
        refine q_if_lt (pc' := 50) ja_Reader_isKnown_47 rfl ?_ ?_
        · intro h8
          refine q_iconst (pc' := 72) ja_Reader_isKnown_71 rfl 0 (by decide) ?_
          exact q_iret ja_Reader_isKnown_72 rfl (by decide) (k4 h2 h6 h7 h8)
        · intro h9
          refine q_iload (pc' := 52) ja_Reader_isKnown_50 rfl rfl ?_
          refine q_ldcs (pc' := 54) ja_Reader_isKnown_52 rfl rfl 1000002 rfl ?_
          refine q_virs (pc' := 57) (c := 1000002) (as := []) (r := [.int ((8 * x1) + x2)]) ja_Reader_isKnown_54 rfl rfl rfl (by decide) rfl ?_
          exact (k5 h2 h6 h7 h9)
      · intro h10
        refine q_iload_n (pc' := 5) ja_Reader_byteAt_4 rfl rfl ?_
        refine q_aload_n (pc' := 6) ja_Reader_byteAt_5 rfl rfl ?_
        refine q_getf (pc' := 9) (v := .int (s 117 1)) ja_Reader_byteAt_6 rfl (by decide) ⟨rfl, by decide⟩ rfl ?_
        refine q_ic_ge (pc' := 12) ja_Reader_byteAt_9 rfl ?_ ?_
        · intro h11
          refine q_iconst (pc' := 31) ja_Reader_byteAt_30 rfl 0 (by decide) ?_
          refine q_iret ja_Reader_byteAt_31 rfl rfl ?_
          show q_W _ _ _ _ 31 [some (.ref 117), some (.int x1), some (.int x2), o3, o4] [.int 0] s
          refine q_goto ja_Reader_isKnown_31 ?_
          refine q_istore_n (pc' := 37) (ls' := [some (.ref 117), some (.int x1), some (.int x2), some (.int 0), o4]) ja_Reader_isKnown_36 rfl ⟨Nat.le_of_ble_eq_true rfl, rfl⟩ rfl ?_
          refine q_bipush (pc' := 39) ja_Reader_isKnown_37 rfl 8 (by decide) ?_
          refine q_iload_n (pc' := 40) ja_Reader_isKnown_39 rfl rfl ?_
          refine q_imul (pc' := 41) ja_Reader_isKnown_40 rfl ?_
          refine q_iload_n (pc' := 42) ja_Reader_isKnown_41 rfl rfl ?_
          refine q_iadd (pc' := 43) ja_Reader_isKnown_42 rfl ?_
          refine q_istore (pc' := 45) (ls' := [some (.ref 117), some (.int x1), some (.int x2), some (.int 0), some (.int ((8 * x1) + x2))]) ja_Reader_isKnown_43 rfl ⟨Nat.le_of_ble_eq_true rfl, rfl⟩ rfl ?_
          refine q_iload (pc' := 47) ja_Reader_isKnown_45 rfl rfl ?_
          refine q_if_lt (pc' := 50) ja_Reader_isKnown_47 rfl ?_ ?_
          · intro h12
            refine q_iconst (pc' := 72) ja_Reader_isKnown_71 rfl 0 (by decide) ?_
            exact q_iret ja_Reader_isKnown_72 rfl (by decide) (k6 h2 h6 h10 h11 h12)
          · intro h13
            refine q_iload (pc' := 52) ja_Reader_isKnown_50 rfl rfl ?_
            refine q_ldcs (pc' := 54) ja_Reader_isKnown_52 rfl rfl 1000002 rfl ?_
            refine q_virs (pc' := 57) (c := 1000002) (as := []) (r := [.int ((8 * x1) + x2)]) ja_Reader_isKnown_54 rfl rfl rfl (by decide) rfl ?_
            exact (k7 h2 h6 h10 h11 h13)
        · intro h14
          refine q_iload_n (pc' := 13) ja_Reader_byteAt_12 rfl rfl ?_
          refine q_aload_n (pc' := 14) ja_Reader_byteAt_13 rfl rfl ?_
          refine q_getf (pc' := 17) (v := .ref 118) ja_Reader_byteAt_14 rfl (by decide) ⟨rfl, by decide⟩ rfl ?_
          refine q_alen (pc' := 18) ja_Reader_byteAt_17 rfl (by decide) (kd := 13) (l := 200) rfl (by decide) (v := 200) (by decide) ?_
          refine q_ic_ge (pc' := 21) ja_Reader_byteAt_18 rfl ?_ ?_
          · intro h15
            refine q_iconst (pc' := 31) ja_Reader_byteAt_30 rfl 0 (by decide) ?_
            refine q_iret ja_Reader_byteAt_31 rfl rfl ?_
            show q_W _ _ _ _ 31 [some (.ref 117), some (.int x1), some (.int x2), o3, o4] [.int 0] s
            refine q_goto ja_Reader_isKnown_31 ?_
            refine q_istore_n (pc' := 37) (ls' := [some (.ref 117), some (.int x1), some (.int x2), some (.int 0), o4]) ja_Reader_isKnown_36 rfl ⟨Nat.le_of_ble_eq_true rfl, rfl⟩ rfl ?_
            refine q_bipush (pc' := 39) ja_Reader_isKnown_37 rfl 8 (by decide) ?_
            refine q_iload_n (pc' := 40) ja_Reader_isKnown_39 rfl rfl ?_
            refine q_imul (pc' := 41) ja_Reader_isKnown_40 rfl ?_
            refine q_iload_n (pc' := 42) ja_Reader_isKnown_41 rfl rfl ?_
            refine q_iadd (pc' := 43) ja_Reader_isKnown_42 rfl ?_
            refine q_istore (pc' := 45) (ls' := [some (.ref 117), some (.int x1), some (.int x2), some (.int 0), some (.int ((8 * x1) + x2))]) ja_Reader_isKnown_43 rfl ⟨Nat.le_of_ble_eq_true rfl, rfl⟩ rfl ?_
            refine q_iload (pc' := 47) ja_Reader_isKnown_45 rfl rfl ?_
            refine q_if_lt (pc' := 50) ja_Reader_isKnown_47 rfl ?_ ?_
            · intro h16
              refine q_iconst (pc' := 72) ja_Reader_isKnown_71 rfl 0 (by decide) ?_
              exact q_iret ja_Reader_isKnown_72 rfl (by decide) (k8 h2 h6 h10 h14 h15 h16)
            · intro h17
              refine q_iload (pc' := 52) ja_Reader_isKnown_50 rfl rfl ?_
              refine q_ldcs (pc' := 54) ja_Reader_isKnown_52 rfl rfl 1000002 rfl ?_
              refine q_virs (pc' := 57) (c := 1000002) (as := []) (r := [.int ((8 * x1) + x2)]) ja_Reader_isKnown_54 rfl rfl rfl (by decide) rfl ?_
              exact (k9 h2 h6 h10 h14 h15 h17)
          · intro h18
            refine q_aload_n (pc' := 22) ja_Reader_byteAt_21 rfl rfl ?_
            refine q_getf (pc' := 25) (v := .ref 118) ja_Reader_byteAt_22 rfl (by decide) ⟨rfl, by decide⟩ rfl ?_
            refine q_iload_n (pc' := 26) ja_Reader_byteAt_25 rfl rfl ?_
            refine q_iald (pc' := 27) (v := .int (s 118 ((s 117 2) + x2).toNatClampNeg)) ja_Reader_byteAt_26 rfl (by decide) (l := 200) rfl (q_inr (l := 200) (by decide) h10 h18) rfl ?_
            refine q_goto ja_Reader_byteAt_27 ?_
            refine q_iret ja_Reader_byteAt_31 rfl rfl ?_
            show q_W _ _ _ _ 31 [some (.ref 117), some (.int x1), some (.int x2), o3, o4] [.int (s 118 ((s 117 2) + x2).toNatClampNeg)] s
            refine q_goto ja_Reader_isKnown_31 ?_
            refine q_istore_n (pc' := 37) (ls' := [some (.ref 117), some (.int x1), some (.int x2), some (.int (s 118 ((s 117 2) + x2).toNatClampNeg)), o4]) ja_Reader_isKnown_36 rfl ⟨Nat.le_of_ble_eq_true rfl, rfl⟩ rfl ?_
            refine q_bipush (pc' := 39) ja_Reader_isKnown_37 rfl 8 (by decide) ?_
            refine q_iload_n (pc' := 40) ja_Reader_isKnown_39 rfl rfl ?_
            refine q_imul (pc' := 41) ja_Reader_isKnown_40 rfl ?_
            refine q_iload_n (pc' := 42) ja_Reader_isKnown_41 rfl rfl ?_
            refine q_iadd (pc' := 43) ja_Reader_isKnown_42 rfl ?_
            refine q_istore (pc' := 45) (ls' := [some (.ref 117), some (.int x1), some (.int x2), some (.int (s 118 ((s 117 2) + x2).toNatClampNeg)), some (.int ((8 * x1) + x2))]) ja_Reader_isKnown_43 rfl ⟨Nat.le_of_ble_eq_true rfl, rfl⟩ rfl ?_
            refine q_iload (pc' := 47) ja_Reader_isKnown_45 rfl rfl ?_
            refine q_if_lt (pc' := 50) ja_Reader_isKnown_47 rfl ?_ ?_
            · intro h19
              refine q_iconst (pc' := 72) ja_Reader_isKnown_71 rfl 0 (by decide) ?_
              exact q_iret ja_Reader_isKnown_72 rfl (by decide) (k10 h2 h6 h10 h14 h18 h19)
            · intro h20
              refine q_iload (pc' := 52) ja_Reader_isKnown_50 rfl rfl ?_
              refine q_ldcs (pc' := 54) ja_Reader_isKnown_52 rfl rfl 1000002 rfl ?_
              refine q_virs (pc' := 57) (c := 1000002) (as := []) (r := [.int ((8 * x1) + x2)]) ja_Reader_isKnown_54 rfl rfl rfl (by decide) rfl ?_
              exact (k11 h2 h6 h10 h14 h18 h20)
set_option maxRecDepth 20000 in
theorem t_Reader_isKnown_57 {G : jv_X} {d : Nat} {B : Option Value → jg_H → Prop} {s : jg_H} (x1 : Int32) (x2 : Int32) (x3 : Int32) (x4 : Int32) (y0 : Int32) (y1 : Int32)
    (k1 : ¬ y0 < y1 → B (some (.int 0)) s)
    (k2 : y0 < y1 → q_P G (d + 1) 14 [.ref 1000002, .int x4] s (fun v t => q_W G (d + 1) jm_Reader_isKnown B 67 [some (.ref 117), some (.int x1), some (.int x2), some (.int x3), some (.int x4)] (v.toList ++ []) t)) :
    q_W G (d + 1) jm_Reader_isKnown B 57 [some (.ref 117), some (.int x1), some (.int x2), some (.int x3), some (.int x4)] [.int y1, .int y0] s := by
  refine q_ic_ge (pc' := 60) ja_Reader_isKnown_57 rfl ?_ ?_
  · intro h1
    refine q_iconst (pc' := 72) ja_Reader_isKnown_71 rfl 0 (by decide) ?_
    exact q_iret ja_Reader_isKnown_72 rfl (by decide) (k1 h1)
  · intro h2
    refine q_ldcs (pc' := 62) ja_Reader_isKnown_60 rfl rfl 1000002 rfl ?_
    refine q_iload (pc' := 64) ja_Reader_isKnown_62 rfl rfl ?_
    refine q_virs (pc' := 67) (c := 1000002) (as := [.int x4]) (r := []) ja_Reader_isKnown_64 rfl rfl rfl (by decide) rfl ?_
    exact (k2 h2)
set_option maxRecDepth 20000 in
theorem t_Reader_isKnown_67 {G : jv_X} {d : Nat} {B : Option Value → jg_H → Prop} {s : jg_H} (x1 : Int32) (x2 : Int32) (x3 : Int32) (x4 : Int32) (y0 : Int32)
    (k1 : y0 = x3 → q_W G (d + 1) jm_Reader_isKnown B 2 [some (.ref 117), some (.int x1), some (.int (x2 + 1)), some (.int x3), some (.int x4)] [] s)
    (k2 : ¬ y0 = x3 → B (some (.int 0)) s) :
    q_W G (d + 1) jm_Reader_isKnown B 67 [some (.ref 117), some (.int x1), some (.int x2), some (.int x3), some (.int x4)] [.int y0] s := by
  refine q_iload_n (pc' := 68) ja_Reader_isKnown_67 rfl rfl ?_
  refine q_ic_eq (pc' := 71) ja_Reader_isKnown_68 rfl ?_ ?_
  · intro h1
    refine q_iinc (pc' := 76) (ls' := [some (.ref 117), some (.int x1), some (.int (x2 + 1)), some (.int x3), some (.int x4)]) ja_Reader_isKnown_73 rfl rfl (x2 + 1) rfl ⟨Nat.le_of_ble_eq_true rfl, rfl⟩ rfl ?_
    refine q_goto ja_Reader_isKnown_76 ?_
    exact (k1 h1)
  · intro h2
    refine q_iconst (pc' := 72) ja_Reader_isKnown_71 rfl 0 (by decide) ?_
    exact q_iret ja_Reader_isKnown_72 rfl (by decide) (k2 h2)
set_option maxRecDepth 20000 in
theorem t_Reader_isLetter {G : jv_X} {d : Nat} {B : Option Value → jg_H → Prop} {s : jg_H} (a1 : Int32)
    (k1 : a1 < 0 → B (some (.int 0)) s)
    (k2 : ¬ a1 < 0 → ¬ a1 < (s 117 1) → B (some (.int 0)) s)
    (k3 : ¬ a1 < 0 → a1 < (s 117 1) → ¬ a1 < 200 → B (some (.int 0)) s)
    (k4 : ¬ a1 < 0 → a1 < (s 117 1) → a1 < 200 → (s 118 a1.toNatClampNeg) < 97 → B (some (.int 0)) s)
    (k5 : ¬ a1 < 0 → a1 < (s 117 1) → a1 < 200 → ¬ (s 118 a1.toNatClampNeg) < 97 → ¬ (s 118 a1.toNatClampNeg) ≤ 122 → B (some (.int 0)) s)
    (k6 : ¬ a1 < 0 → a1 < (s 117 1) → a1 < 200 → ¬ (s 118 a1.toNatClampNeg) < 97 → (s 118 a1.toNatClampNeg) ≤ 122 → B (some (.int 1)) s) :
    q_P G (d + 2) 23 [.ref 117, .int a1] s B := by
  refine q_in (M := jm_Reader_isLetter) rfl (Nat.le_of_ble_eq_true rfl) (ls := [some (.ref 117), some (.int a1)]) rfl ?_
  refine q_aload_n (pc' := 1) ja_Reader_isLetter_0 rfl rfl ?_
  refine q_iload_n (pc' := 2) ja_Reader_isLetter_1 rfl rfl ?_
  refine q_virt (pc' := 5) (c := 117) (as := [.int a1]) (r := []) ja_Reader_isLetter_2 rfl rfl rfl (by decide) ⟨rfl, by decide⟩ ?_
  refine q_in (M := jm_Reader_byteAt) rfl (Nat.le_of_ble_eq_true rfl) (ls := [some (.ref 117), some (.int a1)]) rfl ?_
  refine q_iload_n (pc' := 1) ja_Reader_byteAt_0 rfl rfl ?_
  refine q_if_lt (pc' := 4) ja_Reader_byteAt_1 rfl ?_ ?_
  · intro h1
    refine q_iconst (pc' := 31) ja_Reader_byteAt_30 rfl 0 (by decide) ?_
    refine q_iret ja_Reader_byteAt_31 rfl rfl ?_
    show q_W _ _ _ _ 5 [some (.ref 117), some (.int a1)] [.int 0] s
    refine q_bipush (pc' := 7) ja_Reader_isLetter_5 rfl 97 (by decide) ?_
    refine q_ic_lt (pc' := 10) ja_Reader_isLetter_7 rfl (fun _ => ?_) (fun h => absurd ((by decide : (0 : Int32) < 97)) h)
    refine q_iconst (pc' := 25) ja_Reader_isLetter_24 rfl 0 (by decide) ?_
    exact q_iret ja_Reader_isLetter_25 rfl (by decide) (k1 h1)
  · intro h2
    refine q_iload_n (pc' := 5) ja_Reader_byteAt_4 rfl rfl ?_
    refine q_aload_n (pc' := 6) ja_Reader_byteAt_5 rfl rfl ?_
    refine q_getf (pc' := 9) (v := .int (s 117 1)) ja_Reader_byteAt_6 rfl (by decide) ⟨rfl, by decide⟩ rfl ?_
    refine q_ic_ge (pc' := 12) ja_Reader_byteAt_9 rfl ?_ ?_
    · intro h3
      refine q_iconst (pc' := 31) ja_Reader_byteAt_30 rfl 0 (by decide) ?_
      refine q_iret ja_Reader_byteAt_31 rfl rfl ?_
      show q_W _ _ _ _ 5 [some (.ref 117), some (.int a1)] [.int 0] s
      refine q_bipush (pc' := 7) ja_Reader_isLetter_5 rfl 97 (by decide) ?_
      refine q_ic_lt (pc' := 10) ja_Reader_isLetter_7 rfl (fun _ => ?_) (fun h => absurd ((by decide : (0 : Int32) < 97)) h)
      refine q_iconst (pc' := 25) ja_Reader_isLetter_24 rfl 0 (by decide) ?_
      exact q_iret ja_Reader_isLetter_25 rfl (by decide) (k2 h2 h3)
    · intro h4
      refine q_iload_n (pc' := 13) ja_Reader_byteAt_12 rfl rfl ?_
      refine q_aload_n (pc' := 14) ja_Reader_byteAt_13 rfl rfl ?_
      refine q_getf (pc' := 17) (v := .ref 118) ja_Reader_byteAt_14 rfl (by decide) ⟨rfl, by decide⟩ rfl ?_
      refine q_alen (pc' := 18) ja_Reader_byteAt_17 rfl (by decide) (kd := 13) (l := 200) rfl (by decide) (v := 200) (by decide) ?_
      refine q_ic_ge (pc' := 21) ja_Reader_byteAt_18 rfl ?_ ?_
      · intro h5
        refine q_iconst (pc' := 31) ja_Reader_byteAt_30 rfl 0 (by decide) ?_
        refine q_iret ja_Reader_byteAt_31 rfl rfl ?_
        show q_W _ _ _ _ 5 [some (.ref 117), some (.int a1)] [.int 0] s
        refine q_bipush (pc' := 7) ja_Reader_isLetter_5 rfl 97 (by decide) ?_
        refine q_ic_lt (pc' := 10) ja_Reader_isLetter_7 rfl (fun _ => ?_) (fun h => absurd ((by decide : (0 : Int32) < 97)) h)
        refine q_iconst (pc' := 25) ja_Reader_isLetter_24 rfl 0 (by decide) ?_
        exact q_iret ja_Reader_isLetter_25 rfl (by decide) (k3 h2 h4 h5)
      · intro h6
        refine q_aload_n (pc' := 22) ja_Reader_byteAt_21 rfl rfl ?_
        refine q_getf (pc' := 25) (v := .ref 118) ja_Reader_byteAt_22 rfl (by decide) ⟨rfl, by decide⟩ rfl ?_
        refine q_iload_n (pc' := 26) ja_Reader_byteAt_25 rfl rfl ?_
        refine q_iald (pc' := 27) (v := .int (s 118 a1.toNatClampNeg)) ja_Reader_byteAt_26 rfl (by decide) (l := 200) rfl (q_inr (l := 200) (by decide) h2 h6) rfl ?_
        refine q_goto ja_Reader_byteAt_27 ?_
        refine q_iret ja_Reader_byteAt_31 rfl rfl ?_
        show q_W _ _ _ _ 5 [some (.ref 117), some (.int a1)] [.int (s 118 a1.toNatClampNeg)] s
        refine q_bipush (pc' := 7) ja_Reader_isLetter_5 rfl 97 (by decide) ?_
        refine q_ic_lt (pc' := 10) ja_Reader_isLetter_7 rfl ?_ ?_
        · intro h7
          refine q_iconst (pc' := 25) ja_Reader_isLetter_24 rfl 0 (by decide) ?_
          exact q_iret ja_Reader_isLetter_25 rfl (by decide) (k4 h2 h4 h6 h7)
        · intro h8
          refine q_aload_n (pc' := 11) ja_Reader_isLetter_10 rfl rfl ?_
          refine q_iload_n (pc' := 12) ja_Reader_isLetter_11 rfl rfl ?_
          refine q_virt (pc' := 15) (c := 117) (as := [.int a1]) (r := []) ja_Reader_isLetter_12 rfl rfl rfl (by decide) ⟨rfl, by decide⟩ ?_
          refine q_in (M := jm_Reader_byteAt) rfl (Nat.le_of_ble_eq_true rfl) (ls := [some (.ref 117), some (.int a1)]) rfl ?_
          refine q_iload_n (pc' := 1) ja_Reader_byteAt_0 rfl rfl ?_
          refine q_if_lt (pc' := 4) ja_Reader_byteAt_1 rfl (fun h => absurd h (h2)) (fun _ => ?_)
          refine q_iload_n (pc' := 5) ja_Reader_byteAt_4 rfl rfl ?_
          refine q_aload_n (pc' := 6) ja_Reader_byteAt_5 rfl rfl ?_
          refine q_getf (pc' := 9) (v := .int (s 117 1)) ja_Reader_byteAt_6 rfl (by decide) ⟨rfl, by decide⟩ rfl ?_
          refine q_ic_ge (pc' := 12) ja_Reader_byteAt_9 rfl (fun h => absurd (h4) h) (fun _ => ?_)
          refine q_iload_n (pc' := 13) ja_Reader_byteAt_12 rfl rfl ?_
          refine q_aload_n (pc' := 14) ja_Reader_byteAt_13 rfl rfl ?_
          refine q_getf (pc' := 17) (v := .ref 118) ja_Reader_byteAt_14 rfl (by decide) ⟨rfl, by decide⟩ rfl ?_
          refine q_alen (pc' := 18) ja_Reader_byteAt_17 rfl (by decide) (kd := 13) (l := 200) rfl (by decide) (v := 200) (by decide) ?_
          refine q_ic_ge (pc' := 21) ja_Reader_byteAt_18 rfl (fun h => absurd (h6) h) (fun _ => ?_)
          refine q_aload_n (pc' := 22) ja_Reader_byteAt_21 rfl rfl ?_
          refine q_getf (pc' := 25) (v := .ref 118) ja_Reader_byteAt_22 rfl (by decide) ⟨rfl, by decide⟩ rfl ?_
          refine q_iload_n (pc' := 26) ja_Reader_byteAt_25 rfl rfl ?_
          refine q_iald (pc' := 27) (v := .int (s 118 a1.toNatClampNeg)) ja_Reader_byteAt_26 rfl (by decide) (l := 200) rfl (q_inr (l := 200) (by decide) h2 h6) rfl ?_
          refine q_goto ja_Reader_byteAt_27 ?_
          refine q_iret ja_Reader_byteAt_31 rfl rfl ?_
          show q_W _ _ _ _ 15 [some (.ref 117), some (.int a1)] [.int (s 118 a1.toNatClampNeg)] s
          refine q_bipush (pc' := 17) ja_Reader_isLetter_15 rfl 122 (by decide) ?_
          refine q_ic_gt (pc' := 20) ja_Reader_isLetter_17 rfl ?_ ?_
          · intro h9
            refine q_iconst (pc' := 25) ja_Reader_isLetter_24 rfl 0 (by decide) ?_
            exact q_iret ja_Reader_isLetter_25 rfl (by decide) (k5 h2 h4 h6 h8 h9)
          · intro h10
            refine q_iconst (pc' := 21) ja_Reader_isLetter_20 rfl 1 (by decide) ?_
            refine q_goto ja_Reader_isLetter_21 ?_
            exact q_iret ja_Reader_isLetter_25 rfl (by decide) (k6 h2 h4 h6 h8 h10)
set_option maxRecDepth 20000 in
theorem t_Reader_read {G : jv_X} {d : Nat} {B : Option Value → jg_H → Prop} {s : jg_H} {T : Nat} (hT : f_9 T) {c1 : Nat} (hc1 : f_9 c1)
    (k1 : ∀ s1 : jg_H, s1 = jg_up s 117 8 (Int32.ofNat c1) → s1 117 8 = Int32.ofNat T)
    (k2 : ∀ s1 : jg_H, s1 = jg_up s 117 8 (Int32.ofNat c1) → ∀ s2 : jg_H, s2 = jg_up s1 T 1 0 → ∀ s3 : jg_H, s3 = jg_up s2 117 3 0 → ∀ s4 : jg_H, s4 = jg_up s3 117 6 0 → ∀ s5 : jg_H, s5 = jg_up s4 117 7 (-1) → q_P G (d + 1) 21 [.ref 117] s5 (fun v t => q_W G (d + 1) jm_Reader_read B 32 [some (.ref 117), some (.ref c1), none] (v.toList ++ []) t)) :
    q_P G (d + 2) 20 [.ref 117, .ref c1] s B := by
  refine q_in (M := jm_Reader_read) rfl (Nat.le_of_ble_eq_true rfl) (ls := [some (.ref 117), some (.ref c1), none]) rfl ?_
  refine q_aload_n (pc' := 1) ja_Reader_read_0 rfl rfl ?_
  refine q_aload_n (pc' := 2) ja_Reader_read_1 rfl rfl ?_
  refine q_putr (pc' := 5) ja_Reader_read_2 rfl ⟨rfl, rfl⟩ (f_9_c hc1) ?_
  intro s1 e1
  refine q_aload_n (pc' := 6) ja_Reader_read_5 rfl rfl ?_
  refine q_getf (pc' := 9) (v := .ref T) ja_Reader_read_6 rfl (by decide) ⟨rfl, by decide⟩ (f_into hT (k1 s1 e1)) ?_
  refine q_iconst (pc' := 10) ja_Reader_read_9 rfl 0 (by decide) ?_
  refine q_putf (pc' := 13) ja_Reader_read_10 rfl (f_9_c hT) (by rw [f_9_k hT]) rfl (by rw [f_9_k hT]; rfl) ?_
  intro s2 e2
  refine q_aload_n (pc' := 14) ja_Reader_read_13 rfl rfl ?_
  refine q_iconst (pc' := 15) ja_Reader_read_14 rfl 0 (by decide) ?_
  refine q_putf (pc' := 18) ja_Reader_read_15 rfl (by decide) rfl rfl rfl ?_
  intro s3 e3
  refine q_aload_n (pc' := 19) ja_Reader_read_18 rfl rfl ?_
  refine q_iconst (pc' := 20) ja_Reader_read_19 rfl 0 (by decide) ?_
  refine q_putf (pc' := 23) ja_Reader_read_20 rfl (by decide) rfl rfl rfl ?_
  intro s4 e4
  refine q_aload_n (pc' := 24) ja_Reader_read_23 rfl rfl ?_
  refine q_iconst (pc' := 25) ja_Reader_read_24 rfl (-1) (by decide) ?_
  refine q_putf (pc' := 28) ja_Reader_read_25 rfl (by decide) rfl rfl rfl ?_
  intro s5 e5
  refine q_aload_n (pc' := 29) ja_Reader_read_28 rfl rfl ?_
  refine q_virt (pc' := 32) (c := 117) (as := []) (r := []) ja_Reader_read_29 rfl rfl rfl (by decide) ⟨rfl, by decide⟩ ?_
  exact (k2 s1 e1 s2 e2 s3 e3 s4 e4 s5 e5)
set_option maxRecDepth 20000 in
theorem t_Reader_read_32 {G : jv_X} {d : Nat} {B : Option Value → jg_H → Prop} {s : jg_H} {x1 : Nat} (hx1 : f_9 x1)
    (k1 : q_W G (d + 1) jm_Reader_read B 34 [some (.ref 117), some (.ref x1), some (.int 0)] [] s) :
    q_W G (d + 1) jm_Reader_read B 32 [some (.ref 117), some (.ref x1), none] [] s := by
  refine q_iconst (pc' := 33) ja_Reader_read_32 rfl 0 (by decide) ?_
  refine q_istore_n (pc' := 34) (ls' := [some (.ref 117), some (.ref x1), some (.int 0)]) ja_Reader_read_33 rfl ⟨Nat.le_of_ble_eq_true rfl, rfl⟩ rfl ?_
  exact k1
set_option maxRecDepth 20000 in
theorem t_Reader_read_34 {G : jv_X} {d : Nat} {B : Option Value → jg_H → Prop} {s : jg_H} {T : Nat} (hT : f_9 T) {x1 : Nat} (hx1 : f_9 x1) (x2 : Int32)
    (k1 : ¬ x2 < 4 → s 117 8 = Int32.ofNat T)
    (k2 : ¬ x2 < 4 → s 117 8 = Int32.ofNat T)
    (k3 : ¬ x2 < 4 → ∀ s1 : jg_H, s1 = jg_up s (T + 2) 4 (s T 1) → (s1 117 4) = 16 → ∀ s2 : jg_H, s2 = jg_up s1 117 1 0 → B (some (.int (s2 117 7))) s2)
    (k4 : ¬ x2 < 4 → ∀ s1 : jg_H, s1 = jg_up s (T + 2) 4 (s T 1) → ¬ (s1 117 4) = 16 → ¬ (s1 117 7) = (-1) → ∀ s3 : jg_H, s3 = jg_up s1 117 4 17 → ∀ s4 : jg_H, s4 = jg_up s3 117 1 0 → B (some (.int (s4 117 7))) s4)
    (k5 : ¬ x2 < 4 → ∀ s1 : jg_H, s1 = jg_up s (T + 2) 4 (s T 1) → ¬ (s1 117 4) = 16 → (s1 117 7) = (-1) → ∀ s5 : jg_H, s5 = jg_up s1 117 7 (s1 117 2) → ∀ s6 : jg_H, s6 = jg_up s5 117 4 17 → ∀ s7 : jg_H, s7 = jg_up s6 117 1 0 → B (some (.int (s7 117 7))) s7)
    (k6 : x2 < 4 → q_P G (d + 1) 30 [.ref 117, .int (8 + x2)] s (fun v t => q_W G (d + 1) jm_Reader_read B 47 [some (.ref 117), some (.ref x1), some (.int x2)] (v.toList ++ []) t)) :
    q_W G (d + 1) jm_Reader_read B 34 [some (.ref 117), some (.ref x1), some (.int x2)] [] s := by
  refine q_iload_n (pc' := 35) ja_Reader_read_34 rfl rfl ?_
  refine q_iconst (pc' := 36) ja_Reader_read_35 rfl 4 (by decide) ?_
  refine q_ic_ge (pc' := 39) ja_Reader_read_36 rfl ?_ ?_
  · intro h1
    refine q_aload_n (pc' := 80) ja_Reader_read_79 rfl rfl ?_
    refine q_getf (pc' := 83) (v := .ref T) ja_Reader_read_80 rfl (by decide) ⟨rfl, by decide⟩ (f_into hT (k1 h1)) ?_
    refine q_getf (pc' := 86) (v := .ref (T + 2)) ja_Reader_read_83 rfl (f_9_c hT) ⟨by rw [f_9_k hT], by decide⟩ (f_9_g2 hT) ?_
    refine q_iconst (pc' := 87) ja_Reader_read_86 rfl 4 (by decide) ?_
    refine q_aload_n (pc' := 88) ja_Reader_read_87 rfl rfl ?_
    refine q_getf (pc' := 91) (v := .ref T) ja_Reader_read_88 rfl (by decide) ⟨rfl, by decide⟩ (f_into hT (k2 h1)) ?_
    refine q_getf (pc' := 94) (v := .int (s T 1)) ja_Reader_read_91 rfl (f_9_c hT) ⟨by rw [f_9_k hT], by decide⟩ (f_i (f_9_k hT) rfl) ?_
    refine q_iast (pc' := 95) ja_Reader_read_94 rfl (f_a_c (f_9_s2 hT)) (l := 5) (f_a_k (f_9_s2 hT)) (by decide) ?_
    intro s1 e1
    refine q_aload_n (pc' := 96) ja_Reader_read_95 rfl rfl ?_
    refine q_getf (pc' := 99) (v := .int (s1 117 4)) ja_Reader_read_96 rfl (by decide) ⟨rfl, by decide⟩ rfl ?_
    refine q_bipush (pc' := 101) ja_Reader_read_99 rfl 16 (by decide) ?_
    refine q_ic_eq (pc' := 104) ja_Reader_read_101 rfl ?_ ?_
    · intro h2
      refine q_aload_n (pc' := 109) ja_Reader_read_108 rfl rfl ?_
      refine q_iconst (pc' := 110) ja_Reader_read_109 rfl 0 (by decide) ?_
      refine q_putf (pc' := 113) ja_Reader_read_110 rfl (by decide) rfl rfl rfl ?_
      intro s2 e2
      refine q_aload_n (pc' := 114) ja_Reader_read_113 rfl rfl ?_
      refine q_getf (pc' := 117) (v := .int (s2 117 7)) ja_Reader_read_114 rfl (by decide) ⟨rfl, by decide⟩ rfl ?_
      exact q_iret ja_Reader_read_117 rfl rfl (k3 h1 s1 e1 h2 s2 e2)
    · intro h3
      refine q_aload_n (pc' := 105) ja_Reader_read_104 rfl rfl ?_
      refine q_virt (pc' := 108) (c := 117) (as := []) (r := []) ja_Reader_read_105 rfl rfl rfl (by decide) ⟨rfl, by decide⟩ ?_
      refine q_in (M := jm_Reader_fail) rfl (Nat.le_of_ble_eq_true rfl) (ls := [some (.ref 117)]) rfl ?_
      refine q_aload_n (pc' := 1) ja_Reader_fail_0 rfl rfl ?_
      refine q_getf (pc' := 4) (v := .int (s1 117 7)) ja_Reader_fail_1 rfl (by decide) ⟨rfl, by decide⟩ rfl ?_
      refine q_iconst (pc' := 5) ja_Reader_fail_4 rfl (-1) (by decide) ?_
      refine q_ic_ne (pc' := 8) ja_Reader_fail_5 rfl ?_ ?_
      · intro h4
        refine q_aload_n (pc' := 17) ja_Reader_fail_16 rfl rfl ?_
        refine q_bipush (pc' := 19) ja_Reader_fail_17 rfl 17 (by decide) ?_
        refine q_putf (pc' := 22) ja_Reader_fail_19 rfl (by decide) rfl rfl rfl ?_
        intro s3 e3
        refine q_vret ja_Reader_fail_22 rfl ?_
        show q_W _ _ _ _ 108 [some (.ref 117), some (.ref x1), some (.int x2)] [] s3
        refine q_aload_n (pc' := 109) ja_Reader_read_108 rfl rfl ?_
        refine q_iconst (pc' := 110) ja_Reader_read_109 rfl 0 (by decide) ?_
        refine q_putf (pc' := 113) ja_Reader_read_110 rfl (by decide) rfl rfl rfl ?_
        intro s4 e4
        refine q_aload_n (pc' := 114) ja_Reader_read_113 rfl rfl ?_
        refine q_getf (pc' := 117) (v := .int (s4 117 7)) ja_Reader_read_114 rfl (by decide) ⟨rfl, by decide⟩ rfl ?_
        exact q_iret ja_Reader_read_117 rfl rfl (k4 h1 s1 e1 h3 h4 s3 e3 s4 e4)
      · intro h5
        refine q_aload_n (pc' := 9) ja_Reader_fail_8 rfl rfl ?_
        refine q_aload_n (pc' := 10) ja_Reader_fail_9 rfl rfl ?_
        refine q_getf (pc' := 13) (v := .int (s1 117 2)) ja_Reader_fail_10 rfl (by decide) ⟨rfl, by decide⟩ rfl ?_
        refine q_putf (pc' := 16) ja_Reader_fail_13 rfl (by decide) rfl rfl rfl ?_
        intro s5 e5
        refine q_aload_n (pc' := 17) ja_Reader_fail_16 rfl rfl ?_
        refine q_bipush (pc' := 19) ja_Reader_fail_17 rfl 17 (by decide) ?_
        refine q_putf (pc' := 22) ja_Reader_fail_19 rfl (by decide) rfl rfl rfl ?_
        intro s6 e6
        refine q_vret ja_Reader_fail_22 rfl ?_
        show q_W _ _ _ _ 108 [some (.ref 117), some (.ref x1), some (.int x2)] [] s6
        refine q_aload_n (pc' := 109) ja_Reader_read_108 rfl rfl ?_
        refine q_iconst (pc' := 110) ja_Reader_read_109 rfl 0 (by decide) ?_
        refine q_putf (pc' := 113) ja_Reader_read_110 rfl (by decide) rfl rfl rfl ?_
        intro s7 e7
        refine q_aload_n (pc' := 114) ja_Reader_read_113 rfl rfl ?_
        refine q_getf (pc' := 117) (v := .int (s7 117 7)) ja_Reader_read_114 rfl (by decide) ⟨rfl, by decide⟩ rfl ?_
        exact q_iret ja_Reader_read_117 rfl rfl (k5 h1 s1 e1 h3 h5 s5 e5 s6 e6 s7 e7)
  · intro h6
    refine q_aload_n (pc' := 40) ja_Reader_read_39 rfl rfl ?_
    refine q_bipush (pc' := 42) ja_Reader_read_40 rfl 8 (by decide) ?_
    refine q_iload_n (pc' := 43) ja_Reader_read_42 rfl rfl ?_
    refine q_iadd (pc' := 44) ja_Reader_read_43 rfl ?_
    refine q_virt (pc' := 47) (c := 117) (as := [.int (8 + x2)]) (r := []) ja_Reader_read_44 rfl rfl rfl (by decide) ⟨rfl, by decide⟩ ?_
    exact (k6 h6)
set_option maxRecDepth 20000 in
theorem t_Reader_read_47 {G : jv_X} {d : Nat} {B : Option Value → jg_H → Prop} {s : jg_H} {T : Nat} (hT : f_9 T) {x1 : Nat} (hx1 : f_9 x1) (x2 : Int32)
    (k1 : s 117 8 = Int32.ofNat T)
    (k2 : s 117 8 = Int32.ofNat T)
    (k3 : jv_in x2 5 = true)
    (k4 : ∀ s1 : jg_H, s1 = jg_up s (T + 2) x2.toNatClampNeg (s T 1) → q_P G (d + 1) 31 [.ref 117] s1 (fun v t => q_W G (d + 1) jm_Reader_read B 67 [some (.ref 117), some (.ref x1), some (.int x2)] (v.toList ++ []) t)) :
    q_W G (d + 1) jm_Reader_read B 47 [some (.ref 117), some (.ref x1), some (.int x2)] [] s := by
  refine q_aload_n (pc' := 48) ja_Reader_read_47 rfl rfl ?_
  refine q_getf (pc' := 51) (v := .ref T) ja_Reader_read_48 rfl (by decide) ⟨rfl, by decide⟩ (f_into hT k1) ?_
  refine q_getf (pc' := 54) (v := .ref (T + 2)) ja_Reader_read_51 rfl (f_9_c hT) ⟨by rw [f_9_k hT], by decide⟩ (f_9_g2 hT) ?_
  refine q_iload_n (pc' := 55) ja_Reader_read_54 rfl rfl ?_
  refine q_aload_n (pc' := 56) ja_Reader_read_55 rfl rfl ?_
  refine q_getf (pc' := 59) (v := .ref T) ja_Reader_read_56 rfl (by decide) ⟨rfl, by decide⟩ (f_into hT k2) ?_
  refine q_getf (pc' := 62) (v := .int (s T 1)) ja_Reader_read_59 rfl (f_9_c hT) ⟨by rw [f_9_k hT], by decide⟩ (f_i (f_9_k hT) rfl) ?_
  refine q_iast (pc' := 63) ja_Reader_read_62 rfl (f_a_c (f_9_s2 hT)) (l := 5) (f_a_k (f_9_s2 hT)) k3 ?_
  intro s1 e1
  refine q_aload_n (pc' := 64) ja_Reader_read_63 rfl rfl ?_
  refine q_virt (pc' := 67) (c := 117) (as := []) (r := []) ja_Reader_read_64 rfl rfl rfl (by decide) ⟨rfl, by decide⟩ ?_
  exact (k4 s1 e1)
set_option maxRecDepth 20000 in
theorem t_Reader_read_67 {G : jv_X} {d : Nat} {B : Option Value → jg_H → Prop} {s : jg_H} {x1 : Nat} (hx1 : f_9 x1) (x2 : Int32)
    (k1 : q_P G (d + 1) 30 [.ref 117, .int 59] s (fun v t => q_W G (d + 1) jm_Reader_read B 73 [some (.ref 117), some (.ref x1), some (.int x2)] (v.toList ++ []) t)) :
    q_W G (d + 1) jm_Reader_read B 67 [some (.ref 117), some (.ref x1), some (.int x2)] [] s := by
  refine q_aload_n (pc' := 68) ja_Reader_read_67 rfl rfl ?_
  refine q_bipush (pc' := 70) ja_Reader_read_68 rfl 59 (by decide) ?_
  refine q_virt (pc' := 73) (c := 117) (as := [.int 59]) (r := []) ja_Reader_read_70 rfl rfl rfl (by decide) ⟨rfl, by decide⟩ ?_
  exact k1
set_option maxRecDepth 20000 in
theorem t_Reader_read_73 {G : jv_X} {d : Nat} {B : Option Value → jg_H → Prop} {s : jg_H} {x1 : Nat} (hx1 : f_9 x1) (x2 : Int32)
    (k1 : q_W G (d + 1) jm_Reader_read B 34 [some (.ref 117), some (.ref x1), some (.int (x2 + 1))] [] s) :
    q_W G (d + 1) jm_Reader_read B 73 [some (.ref 117), some (.ref x1), some (.int x2)] [] s := by
  refine q_iinc (pc' := 76) (ls' := [some (.ref 117), some (.ref x1), some (.int (x2 + 1))]) ja_Reader_read_73 rfl rfl (x2 + 1) rfl ⟨Nat.le_of_ble_eq_true rfl, rfl⟩ rfl ?_
  refine q_goto ja_Reader_read_76 ?_
  exact k1
set_option maxRecDepth 20000 in
theorem t_Reader_readAll {G : jv_X} {d : Nat} {B : Option Value → jg_H → Prop} {s : jg_H} 
    (k1 : q_P G (d + 1) 33 [.ref 117] s (fun v t => q_W G (d + 1) jm_Reader_readAll B 4 [some (.ref 117), none] (v.toList ++ []) t)) :
    q_P G (d + 2) 32 [.ref 117] s B := by
  refine q_in (M := jm_Reader_readAll) rfl (Nat.le_of_ble_eq_true rfl) (ls := [some (.ref 117), none]) rfl ?_
  refine q_aload_n (pc' := 1) ja_Reader_readAll_0 rfl rfl ?_
  refine q_virt (pc' := 4) (c := 117) (as := []) (r := []) ja_Reader_readAll_1 rfl rfl rfl (by decide) ⟨rfl, by decide⟩ ?_
  exact k1
set_option maxRecDepth 20000 in
theorem t_Reader_readAll_4 {G : jv_X} {d : Nat} {B : Option Value → jg_H → Prop} {s : jg_H} 
    (k1 : q_W G (d + 1) jm_Reader_readAll B 6 [some (.ref 117), some (.int 0)] [] s) :
    q_W G (d + 1) jm_Reader_readAll B 4 [some (.ref 117), none] [] s := by
  refine q_iconst (pc' := 5) ja_Reader_readAll_4 rfl 0 (by decide) ?_
  refine q_istore_n (pc' := 6) (ls' := [some (.ref 117), some (.int 0)]) ja_Reader_readAll_5 rfl ⟨Nat.le_of_ble_eq_true rfl, rfl⟩ rfl ?_
  exact k1
set_option maxRecDepth 20000 in
theorem t_Reader_readAll_6 {G : jv_X} {d : Nat} {B : Option Value → jg_H → Prop} {s : jg_H} (x1 : Int32)
    (k1 : ¬ x1 < 200 → B none s)
    (k2 : x1 < 200 → ¬ (s 117 4) = 13 → B none s)
    (k3 : x1 < 200 → (s 117 4) = 13 → q_P G (d + 1) 21 [.ref 117] s (fun v t => q_W G (d + 1) jm_Reader_readAll B 26 [some (.ref 117), some (.int x1)] (v.toList ++ []) t)) :
    q_W G (d + 1) jm_Reader_readAll B 6 [some (.ref 117), some (.int x1)] [] s := by
  refine q_iload_n (pc' := 7) ja_Reader_readAll_6 rfl rfl ?_
  refine q_sipush (pc' := 10) ja_Reader_readAll_7 rfl 200 (by decide) ?_
  refine q_ic_ge (pc' := 13) ja_Reader_readAll_10 rfl ?_ ?_
  · intro h1
    exact q_vret ja_Reader_readAll_45 rfl (k1 h1)
  · intro h2
    refine q_aload_n (pc' := 14) ja_Reader_readAll_13 rfl rfl ?_
    refine q_getf (pc' := 17) (v := .int (s 117 4)) ja_Reader_readAll_14 rfl (by decide) ⟨rfl, by decide⟩ rfl ?_
    refine q_bipush (pc' := 19) ja_Reader_readAll_17 rfl 13 (by decide) ?_
    refine q_ic_ne (pc' := 22) ja_Reader_readAll_19 rfl ?_ ?_
    · intro h3
      exact q_vret ja_Reader_readAll_45 rfl (k2 h2 h3)
    · intro h4
      refine q_aload_n (pc' := 23) ja_Reader_readAll_22 rfl rfl ?_
      refine q_virt (pc' := 26) (c := 117) (as := []) (r := []) ja_Reader_readAll_23 rfl rfl rfl (by decide) ⟨rfl, by decide⟩ ?_
      exact (k3 h2 h4)
set_option maxRecDepth 20000 in
theorem t_Reader_readAll_26 {G : jv_X} {d : Nat} {B : Option Value → jg_H → Prop} {s : jg_H} (x1 : Int32)
    (k1 : q_P G (d + 1) 33 [.ref 117] s (fun v t => q_W G (d + 1) jm_Reader_readAll B 30 [some (.ref 117), some (.int x1)] (v.toList ++ []) t)) :
    q_W G (d + 1) jm_Reader_readAll B 26 [some (.ref 117), some (.int x1)] [] s := by
  refine q_aload_n (pc' := 27) ja_Reader_readAll_26 rfl rfl ?_
  refine q_virt (pc' := 30) (c := 117) (as := []) (r := []) ja_Reader_readAll_27 rfl rfl rfl (by decide) ⟨rfl, by decide⟩ ?_
  exact k1
set_option maxRecDepth 20000 in
theorem t_Reader_readAll_30 {G : jv_X} {d : Nat} {B : Option Value → jg_H → Prop} {s : jg_H} {T : Nat} (hT : f_9 T) (x1 : Int32)
    (k1 : s 117 8 = Int32.ofNat T)
    (k2 : (s T 1) < 0 → q_W G (d + 1) jm_Reader_readAll B 6 [some (.ref 117), some (.int (x1 + 1))] [] s)
    (k3 : ¬ (s T 1) < 0 → (s T 1) < 200 → ∀ s1 : jg_H, s1 = jg_up s (T + 1) (s T 1).toNatClampNeg (-10) → ∀ s2 : jg_H, s2 = jg_up s1 T 1 ((s1 T 1) + 1) → q_W G (d + 1) jm_Reader_readAll B 6 [some (.ref 117), some (.int (x1 + 1))] [] s2)
    (k4 : ¬ (s T 1) < 0 → ¬ (s T 1) < 200 → q_W G (d + 1) jm_Reader_readAll B 6 [some (.ref 117), some (.int (x1 + 1))] [] s) :
    q_W G (d + 1) jm_Reader_readAll B 30 [some (.ref 117), some (.int x1)] [] s := by
  refine q_aload_n (pc' := 31) ja_Reader_readAll_30 rfl rfl ?_
  refine q_getf (pc' := 34) (v := .ref T) ja_Reader_readAll_31 rfl (by decide) ⟨rfl, by decide⟩ (f_into hT k1) ?_
  refine q_bipush (pc' := 36) ja_Reader_readAll_34 rfl (-10) (by decide) ?_
  refine q_virt (pc' := 39) (c := T) (as := [.int (-10)]) (r := []) ja_Reader_readAll_36 rfl rfl rfl (f_9_c hT) ⟨by rw [f_9_k hT], by decide⟩ ?_
  refine q_in (M := jm_Text_add) rfl (Nat.le_of_ble_eq_true rfl) (ls := [some (.ref T), some (.int (-10))]) rfl ?_
  refine q_aload_n (pc' := 1) ja_Text_add_0 rfl rfl ?_
  refine q_getf (pc' := 4) (v := .int (s T 1)) ja_Text_add_1 rfl (f_9_c hT) ⟨by rw [f_9_k hT], by decide⟩ (f_i (f_9_k hT) rfl) ?_
  refine q_if_lt (pc' := 7) ja_Text_add_4 rfl ?_ ?_
  · intro h1
    refine q_vret ja_Text_add_19 rfl ?_
    show q_W _ _ _ _ 39 [some (.ref 117), some (.int x1)] [] s
    refine q_iinc (pc' := 42) (ls' := [some (.ref 117), some (.int (x1 + 1))]) ja_Reader_readAll_39 rfl rfl (x1 + 1) rfl ⟨Nat.le_of_ble_eq_true rfl, rfl⟩ rfl ?_
    refine q_goto ja_Reader_readAll_42 ?_
    exact (k2 h1)
  · intro h2
    refine q_aload_n (pc' := 8) ja_Text_add_7 rfl rfl ?_
    refine q_getf (pc' := 11) (v := .int (s T 1)) ja_Text_add_8 rfl (f_9_c hT) ⟨by rw [f_9_k hT], by decide⟩ (f_i (f_9_k hT) rfl) ?_
    refine q_aload_n (pc' := 12) ja_Text_add_11 rfl rfl ?_
    refine q_getf (pc' := 15) (v := .ref (T + 1)) ja_Text_add_12 rfl (f_9_c hT) ⟨by rw [f_9_k hT], by decide⟩ (f_9_g0 hT) ?_
    refine q_alen (pc' := 16) ja_Text_add_15 rfl (f_a_c (f_9_s0 hT)) (kd := 13) (l := 200) (f_a_k (f_9_s0 hT)) (by decide) (v := 200) (by decide) ?_
    refine q_ic_lt (pc' := 19) ja_Text_add_16 rfl ?_ ?_
    · intro h3
      refine q_aload_n (pc' := 21) ja_Text_add_20 rfl rfl ?_
      refine q_getf (pc' := 24) (v := .ref (T + 1)) ja_Text_add_21 rfl (f_9_c hT) ⟨by rw [f_9_k hT], by decide⟩ (f_9_g0 hT) ?_
      refine q_aload_n (pc' := 25) ja_Text_add_24 rfl rfl ?_
      refine q_getf (pc' := 28) (v := .int (s T 1)) ja_Text_add_25 rfl (f_9_c hT) ⟨by rw [f_9_k hT], by decide⟩ (f_i (f_9_k hT) rfl) ?_
      refine q_iload_n (pc' := 29) ja_Text_add_28 rfl rfl ?_
      refine q_iast (pc' := 30) ja_Text_add_29 rfl (f_a_c (f_9_s0 hT)) (l := 200) (f_a_k (f_9_s0 hT)) (q_inr (l := 200) (by decide) h2 h3) ?_
      intro s1 e1
      refine q_aload_n (pc' := 31) ja_Text_add_30 rfl rfl ?_
      refine q_dup (pc' := 32) ja_Text_add_31 rfl rfl ?_
      refine q_getf (pc' := 35) (v := .int (s1 T 1)) ja_Text_add_32 rfl (f_9_c hT) ⟨by rw [f_9_k hT], by decide⟩ (f_i (f_9_k hT) rfl) ?_
      refine q_iconst (pc' := 36) ja_Text_add_35 rfl 1 (by decide) ?_
      refine q_iadd (pc' := 37) ja_Text_add_36 rfl ?_
      refine q_putf (pc' := 40) ja_Text_add_37 rfl (f_9_c hT) (by rw [f_9_k hT]) rfl (by rw [f_9_k hT]; rfl) ?_
      intro s2 e2
      refine q_vret ja_Text_add_40 rfl ?_
      show q_W _ _ _ _ 39 [some (.ref 117), some (.int x1)] [] s2
      refine q_iinc (pc' := 42) (ls' := [some (.ref 117), some (.int (x1 + 1))]) ja_Reader_readAll_39 rfl rfl (x1 + 1) rfl ⟨Nat.le_of_ble_eq_true rfl, rfl⟩ rfl ?_
      refine q_goto ja_Reader_readAll_42 ?_
      exact (k3 h2 h3 s1 e1 s2 e2)
    · intro h4
      refine q_vret ja_Text_add_19 rfl ?_
      show q_W _ _ _ _ 39 [some (.ref 117), some (.int x1)] [] s
      refine q_iinc (pc' := 42) (ls' := [some (.ref 117), some (.int (x1 + 1))]) ja_Reader_readAll_39 rfl rfl (x1 + 1) rfl ⟨Nat.le_of_ble_eq_true rfl, rfl⟩ rfl ?_
      refine q_goto ja_Reader_readAll_42 ?_
      exact (k4 h2 h4)
set_option maxRecDepth 20000 in
theorem t_Reader_readClaim {G : jv_X} {d : Nat} {B : Option Value → jg_H → Prop} {s : jg_H} 
    (k1 : ¬ (s 117 4) = 14 → q_P G (d + 1) 37 [.ref 117] s (fun v t => q_W G (d + 1) jm_Reader_readClaim B 18 [some (.ref 117), none] (v.toList ++ []) t))
    (k2 : (s 117 4) = 14 → q_P G (d + 1) 34 [.ref 117] s (fun v t => q_W G (d + 1) jm_Reader_readClaim B 13 [some (.ref 117), none] (v.toList ++ []) t)) :
    q_P G (d + 2) 33 [.ref 117] s B := by
  refine q_in (M := jm_Reader_readClaim) rfl (Nat.le_of_ble_eq_true rfl) (ls := [some (.ref 117), none]) rfl ?_
  refine q_aload_n (pc' := 1) ja_Reader_readClaim_0 rfl rfl ?_
  refine q_getf (pc' := 4) (v := .int (s 117 4)) ja_Reader_readClaim_1 rfl (by decide) ⟨rfl, by decide⟩ rfl ?_
  refine q_bipush (pc' := 6) ja_Reader_readClaim_4 rfl 14 (by decide) ?_
  refine q_ic_ne (pc' := 9) ja_Reader_readClaim_6 rfl ?_ ?_
  · intro h1
    refine q_aload_n (pc' := 15) ja_Reader_readClaim_14 rfl rfl ?_
    refine q_virt (pc' := 18) (c := 117) (as := []) (r := []) ja_Reader_readClaim_15 rfl rfl rfl (by decide) ⟨rfl, by decide⟩ ?_
    exact (k1 h1)
  · intro h2
    refine q_aload_n (pc' := 10) ja_Reader_readClaim_9 rfl rfl ?_
    refine q_virt (pc' := 13) (c := 117) (as := []) (r := []) ja_Reader_readClaim_10 rfl rfl rfl (by decide) ⟨rfl, by decide⟩ ?_
    exact (k2 h2)
set_option maxRecDepth 20000 in
theorem t_Reader_readClaim_13 {G : jv_X} {d : Nat} {B : Option Value → jg_H → Prop} {s : jg_H} 
    (k1 : B none s) :
    q_W G (d + 1) jm_Reader_readClaim B 13 [some (.ref 117), none] [] s := by
  exact q_vret ja_Reader_readClaim_13 rfl k1
set_option maxRecDepth 20000 in
theorem t_Reader_readClaim_18 {G : jv_X} {d : Nat} {B : Option Value → jg_H → Prop} {s : jg_H} 
    (k1 : (s 117 4) = 60 → q_P G (d + 1) 21 [.ref 117] s (fun v t => q_W G (d + 1) jm_Reader_readClaim B 57 [some (.ref 117), some (.int (-12))] (v.toList ++ []) t))
    (k2 : ¬ (s 117 4) = 60 → ¬ (s 117 4) = 61 → B none s)
    (k3 : ¬ (s 117 4) = 60 → (s 117 4) = 61 → q_P G (d + 1) 21 [.ref 117] s (fun v t => q_W G (d + 1) jm_Reader_readClaim B 57 [some (.ref 117), some (.int (-13))] (v.toList ++ []) t)) :
    q_W G (d + 1) jm_Reader_readClaim B 18 [some (.ref 117), none] [] s := by
  refine q_aload_n (pc' := 19) ja_Reader_readClaim_18 rfl rfl ?_
  refine q_getf (pc' := 22) (v := .int (s 117 4)) ja_Reader_readClaim_19 rfl (by decide) ⟨rfl, by decide⟩ rfl ?_
  refine q_bipush (pc' := 24) ja_Reader_readClaim_22 rfl 60 (by decide) ?_
  refine q_ic_eq (pc' := 27) ja_Reader_readClaim_24 rfl ?_ ?_
  · intro h1
    refine q_aload_n (pc' := 37) ja_Reader_readClaim_36 rfl rfl ?_
    refine q_getf (pc' := 40) (v := .int (s 117 4)) ja_Reader_readClaim_37 rfl (by decide) ⟨rfl, by decide⟩ rfl ?_
    refine q_bipush (pc' := 42) ja_Reader_readClaim_40 rfl 60 (by decide) ?_
    refine q_ic_ne (pc' := 45) ja_Reader_readClaim_42 rfl (fun h => absurd (h1) h) (fun _ => ?_)
    refine q_bipush (pc' := 47) ja_Reader_readClaim_45 rfl (-12) (by decide) ?_
    refine q_goto ja_Reader_readClaim_47 ?_
    refine q_istore_n (pc' := 53) (ls' := [some (.ref 117), some (.int (-12))]) ja_Reader_readClaim_52 rfl ⟨Nat.le_of_ble_eq_true rfl, rfl⟩ rfl ?_
    refine q_aload_n (pc' := 54) ja_Reader_readClaim_53 rfl rfl ?_
    refine q_virt (pc' := 57) (c := 117) (as := []) (r := []) ja_Reader_readClaim_54 rfl rfl rfl (by decide) ⟨rfl, by decide⟩ ?_
    exact (k1 h1)
  · intro h2
    refine q_aload_n (pc' := 28) ja_Reader_readClaim_27 rfl rfl ?_
    refine q_getf (pc' := 31) (v := .int (s 117 4)) ja_Reader_readClaim_28 rfl (by decide) ⟨rfl, by decide⟩ rfl ?_
    refine q_bipush (pc' := 33) ja_Reader_readClaim_31 rfl 61 (by decide) ?_
    refine q_ic_ne (pc' := 36) ja_Reader_readClaim_33 rfl ?_ ?_
    · intro h3
      exact q_vret ja_Reader_readClaim_69 rfl (k2 h2 h3)
    · intro h4
      refine q_aload_n (pc' := 37) ja_Reader_readClaim_36 rfl rfl ?_
      refine q_getf (pc' := 40) (v := .int (s 117 4)) ja_Reader_readClaim_37 rfl (by decide) ⟨rfl, by decide⟩ rfl ?_
      refine q_bipush (pc' := 42) ja_Reader_readClaim_40 rfl 60 (by decide) ?_
      refine q_ic_ne (pc' := 45) ja_Reader_readClaim_42 rfl (fun _ => ?_) (fun h => absurd h (h2))
      refine q_bipush (pc' := 52) ja_Reader_readClaim_50 rfl (-13) (by decide) ?_
      refine q_istore_n (pc' := 53) (ls' := [some (.ref 117), some (.int (-13))]) ja_Reader_readClaim_52 rfl ⟨Nat.le_of_ble_eq_true rfl, rfl⟩ rfl ?_
      refine q_aload_n (pc' := 54) ja_Reader_readClaim_53 rfl rfl ?_
      refine q_virt (pc' := 57) (c := 117) (as := []) (r := []) ja_Reader_readClaim_54 rfl rfl rfl (by decide) ⟨rfl, by decide⟩ ?_
      exact (k3 h2 h4)
set_option maxRecDepth 20000 in
theorem t_Reader_readClaim_57 {G : jv_X} {d : Nat} {B : Option Value → jg_H → Prop} {s : jg_H} (x1 : Int32)
    (k1 : q_P G (d + 1) 37 [.ref 117] s (fun v t => q_W G (d + 1) jm_Reader_readClaim B 61 [some (.ref 117), some (.int x1)] (v.toList ++ []) t)) :
    q_W G (d + 1) jm_Reader_readClaim B 57 [some (.ref 117), some (.int x1)] [] s := by
  refine q_aload_n (pc' := 58) ja_Reader_readClaim_57 rfl rfl ?_
  refine q_virt (pc' := 61) (c := 117) (as := []) (r := []) ja_Reader_readClaim_58 rfl rfl rfl (by decide) ⟨rfl, by decide⟩ ?_
  exact k1
set_option maxRecDepth 20000 in
theorem t_Reader_readClaim_61 {G : jv_X} {d : Nat} {B : Option Value → jg_H → Prop} {s : jg_H} {T : Nat} (hT : f_9 T) (x1 : Int32)
    (k1 : s 117 8 = Int32.ofNat T)
    (k2 : (s T 1) < 0 → B none s)
    (k3 : ¬ (s T 1) < 0 → (s T 1) < 200 → ∀ s1 : jg_H, s1 = jg_up s (T + 1) (s T 1).toNatClampNeg x1 → ∀ s2 : jg_H, s2 = jg_up s1 T 1 ((s1 T 1) + 1) → B none s2)
    (k4 : ¬ (s T 1) < 0 → ¬ (s T 1) < 200 → B none s) :
    q_W G (d + 1) jm_Reader_readClaim B 61 [some (.ref 117), some (.int x1)] [] s := by
  refine q_aload_n (pc' := 62) ja_Reader_readClaim_61 rfl rfl ?_
  refine q_getf (pc' := 65) (v := .ref T) ja_Reader_readClaim_62 rfl (by decide) ⟨rfl, by decide⟩ (f_into hT k1) ?_
  refine q_iload_n (pc' := 66) ja_Reader_readClaim_65 rfl rfl ?_
  refine q_virt (pc' := 69) (c := T) (as := [.int x1]) (r := []) ja_Reader_readClaim_66 rfl rfl rfl (f_9_c hT) ⟨by rw [f_9_k hT], by decide⟩ ?_
  refine q_in (M := jm_Text_add) rfl (Nat.le_of_ble_eq_true rfl) (ls := [some (.ref T), some (.int x1)]) rfl ?_
  refine q_aload_n (pc' := 1) ja_Text_add_0 rfl rfl ?_
  refine q_getf (pc' := 4) (v := .int (s T 1)) ja_Text_add_1 rfl (f_9_c hT) ⟨by rw [f_9_k hT], by decide⟩ (f_i (f_9_k hT) rfl) ?_
  refine q_if_lt (pc' := 7) ja_Text_add_4 rfl ?_ ?_
  · intro h1
    refine q_vret ja_Text_add_19 rfl ?_
    show q_W _ _ _ _ 69 [some (.ref 117), some (.int x1)] [] s
    exact q_vret ja_Reader_readClaim_69 rfl (k2 h1)
  · intro h2
    refine q_aload_n (pc' := 8) ja_Text_add_7 rfl rfl ?_
    refine q_getf (pc' := 11) (v := .int (s T 1)) ja_Text_add_8 rfl (f_9_c hT) ⟨by rw [f_9_k hT], by decide⟩ (f_i (f_9_k hT) rfl) ?_
    refine q_aload_n (pc' := 12) ja_Text_add_11 rfl rfl ?_
    refine q_getf (pc' := 15) (v := .ref (T + 1)) ja_Text_add_12 rfl (f_9_c hT) ⟨by rw [f_9_k hT], by decide⟩ (f_9_g0 hT) ?_
    refine q_alen (pc' := 16) ja_Text_add_15 rfl (f_a_c (f_9_s0 hT)) (kd := 13) (l := 200) (f_a_k (f_9_s0 hT)) (by decide) (v := 200) (by decide) ?_
    refine q_ic_lt (pc' := 19) ja_Text_add_16 rfl ?_ ?_
    · intro h3
      refine q_aload_n (pc' := 21) ja_Text_add_20 rfl rfl ?_
      refine q_getf (pc' := 24) (v := .ref (T + 1)) ja_Text_add_21 rfl (f_9_c hT) ⟨by rw [f_9_k hT], by decide⟩ (f_9_g0 hT) ?_
      refine q_aload_n (pc' := 25) ja_Text_add_24 rfl rfl ?_
      refine q_getf (pc' := 28) (v := .int (s T 1)) ja_Text_add_25 rfl (f_9_c hT) ⟨by rw [f_9_k hT], by decide⟩ (f_i (f_9_k hT) rfl) ?_
      refine q_iload_n (pc' := 29) ja_Text_add_28 rfl rfl ?_
      refine q_iast (pc' := 30) ja_Text_add_29 rfl (f_a_c (f_9_s0 hT)) (l := 200) (f_a_k (f_9_s0 hT)) (q_inr (l := 200) (by decide) h2 h3) ?_
      intro s1 e1
      refine q_aload_n (pc' := 31) ja_Text_add_30 rfl rfl ?_
      refine q_dup (pc' := 32) ja_Text_add_31 rfl rfl ?_
      refine q_getf (pc' := 35) (v := .int (s1 T 1)) ja_Text_add_32 rfl (f_9_c hT) ⟨by rw [f_9_k hT], by decide⟩ (f_i (f_9_k hT) rfl) ?_
      refine q_iconst (pc' := 36) ja_Text_add_35 rfl 1 (by decide) ?_
      refine q_iadd (pc' := 37) ja_Text_add_36 rfl ?_
      refine q_putf (pc' := 40) ja_Text_add_37 rfl (f_9_c hT) (by rw [f_9_k hT]) rfl (by rw [f_9_k hT]; rfl) ?_
      intro s2 e2
      refine q_vret ja_Text_add_40 rfl ?_
      show q_W _ _ _ _ 69 [some (.ref 117), some (.int x1)] [] s2
      exact q_vret ja_Reader_readClaim_69 rfl (k3 h2 h3 s1 e1 s2 e2)
    · intro h4
      refine q_vret ja_Text_add_19 rfl ?_
      show q_W _ _ _ _ 69 [some (.ref 117), some (.int x1)] [] s
      exact q_vret ja_Reader_readClaim_69 rfl (k4 h2 h4)
set_option maxRecDepth 20000 in
theorem t_Reader_readNumber {G : jv_X} {d : Nat} {B : Option Value → jg_H → Prop} {s : jg_H} 
    (k1 : ∀ s1 : jg_H, s1 = jg_up s 117 5 0 → q_W G (d + 2) jm_Reader_readNumber B 5 [some (.ref 117)] [] s1) :
    q_P G (d + 3) 28 [.ref 117] s B := by
  refine q_in (M := jm_Reader_readNumber) rfl (Nat.le_of_ble_eq_true rfl) (ls := [some (.ref 117)]) rfl ?_
  refine q_aload_n (pc' := 1) ja_Reader_readNumber_0 rfl rfl ?_
  refine q_iconst (pc' := 2) ja_Reader_readNumber_1 rfl 0 (by decide) ?_
  refine q_putf (pc' := 5) ja_Reader_readNumber_2 rfl (by decide) rfl rfl rfl ?_
  intro s1 e1
  exact (k1 s1 e1)
set_option maxRecDepth 20000 in
theorem t_Reader_readNumber_5 {G : jv_X} {d : Nat} {B : Option Value → jg_H → Prop} {s : jg_H} 
    (k1 : ¬ (s 117 3) < (s 117 1) → ((s 117 3) - (s 117 2)) ≤ 4 → ∀ s1 : jg_H, s1 = jg_up s 117 4 15 → B none s1)
    (k2 : ¬ (s 117 3) < (s 117 1) → ¬ ((s 117 3) - (s 117 2)) ≤ 4 → ¬ (s 117 7) = (-1) → ∀ s2 : jg_H, s2 = jg_up s 117 4 17 → B none s2)
    (k3 : ¬ (s 117 3) < (s 117 1) → ¬ ((s 117 3) - (s 117 2)) ≤ 4 → (s 117 7) = (-1) → ∀ s3 : jg_H, s3 = jg_up s 117 7 (s 117 2) → ∀ s4 : jg_H, s4 = jg_up s3 117 4 17 → B none s4)
    (k4 : (s 117 3) < (s 117 1) → (s 117 3) < 0 → ((s 117 3) - (s 117 2)) ≤ 4 → ∀ s5 : jg_H, s5 = jg_up s 117 4 15 → B none s5)
    (k5 : (s 117 3) < (s 117 1) → (s 117 3) < 0 → ¬ ((s 117 3) - (s 117 2)) ≤ 4 → ¬ (s 117 7) = (-1) → ∀ s6 : jg_H, s6 = jg_up s 117 4 17 → B none s6)
    (k6 : (s 117 3) < (s 117 1) → (s 117 3) < 0 → ¬ ((s 117 3) - (s 117 2)) ≤ 4 → (s 117 7) = (-1) → ∀ s7 : jg_H, s7 = jg_up s 117 7 (s 117 2) → ∀ s8 : jg_H, s8 = jg_up s7 117 4 17 → B none s8)
    (k7 : (s 117 3) < (s 117 1) → ¬ (s 117 3) < 0 → ¬ (s 117 3) < 200 → ((s 117 3) - (s 117 2)) ≤ 4 → ∀ s9 : jg_H, s9 = jg_up s 117 4 15 → B none s9)
    (k8 : (s 117 3) < (s 117 1) → ¬ (s 117 3) < 0 → ¬ (s 117 3) < 200 → ¬ ((s 117 3) - (s 117 2)) ≤ 4 → ¬ (s 117 7) = (-1) → ∀ s10 : jg_H, s10 = jg_up s 117 4 17 → B none s10)
    (k9 : (s 117 3) < (s 117 1) → ¬ (s 117 3) < 0 → ¬ (s 117 3) < 200 → ¬ ((s 117 3) - (s 117 2)) ≤ 4 → (s 117 7) = (-1) → ∀ s11 : jg_H, s11 = jg_up s 117 7 (s 117 2) → ∀ s12 : jg_H, s12 = jg_up s11 117 4 17 → B none s12)
    (k10 : (s 117 3) < (s 117 1) → ¬ (s 117 3) < 0 → (s 117 3) < 200 → (s 118 (s 117 3).toNatClampNeg) < 48 → ((s 117 3) - (s 117 2)) ≤ 4 → ∀ s13 : jg_H, s13 = jg_up s 117 4 15 → B none s13)
    (k11 : (s 117 3) < (s 117 1) → ¬ (s 117 3) < 0 → (s 117 3) < 200 → (s 118 (s 117 3).toNatClampNeg) < 48 → ¬ ((s 117 3) - (s 117 2)) ≤ 4 → ¬ (s 117 7) = (-1) → ∀ s14 : jg_H, s14 = jg_up s 117 4 17 → B none s14)
    (k12 : (s 117 3) < (s 117 1) → ¬ (s 117 3) < 0 → (s 117 3) < 200 → (s 118 (s 117 3).toNatClampNeg) < 48 → ¬ ((s 117 3) - (s 117 2)) ≤ 4 → (s 117 7) = (-1) → ∀ s15 : jg_H, s15 = jg_up s 117 7 (s 117 2) → ∀ s16 : jg_H, s16 = jg_up s15 117 4 17 → B none s16)
    (k13 : (s 117 3) < (s 117 1) → ¬ (s 117 3) < 0 → (s 117 3) < 200 → ¬ (s 118 (s 117 3).toNatClampNeg) < 48 → ¬ (s 118 (s 117 3).toNatClampNeg) ≤ 57 → ((s 117 3) - (s 117 2)) ≤ 4 → ∀ s17 : jg_H, s17 = jg_up s 117 4 15 → B none s17)
    (k14 : (s 117 3) < (s 117 1) → ¬ (s 117 3) < 0 → (s 117 3) < 200 → ¬ (s 118 (s 117 3).toNatClampNeg) < 48 → ¬ (s 118 (s 117 3).toNatClampNeg) ≤ 57 → ¬ ((s 117 3) - (s 117 2)) ≤ 4 → ¬ (s 117 7) = (-1) → ∀ s18 : jg_H, s18 = jg_up s 117 4 17 → B none s18)
    (k15 : (s 117 3) < (s 117 1) → ¬ (s 117 3) < 0 → (s 117 3) < 200 → ¬ (s 118 (s 117 3).toNatClampNeg) < 48 → ¬ (s 118 (s 117 3).toNatClampNeg) ≤ 57 → ¬ ((s 117 3) - (s 117 2)) ≤ 4 → (s 117 7) = (-1) → ∀ s19 : jg_H, s19 = jg_up s 117 7 (s 117 2) → ∀ s20 : jg_H, s20 = jg_up s19 117 4 17 → B none s20)
    (k16 : (s 117 3) < (s 117 1) → ¬ (s 117 3) < 0 → (s 117 3) < 200 → ¬ (s 118 (s 117 3).toNatClampNeg) < 48 → (s 118 (s 117 3).toNatClampNeg) ≤ 57 → ∀ s21 : jg_H, s21 = jg_up s 117 5 ((((s 117 5) * 10) + (s 118 (s 117 3).toNatClampNeg)) - 48) → ∀ s22 : jg_H, s22 = jg_up s21 117 3 ((s21 117 3) + 1) → q_W G (d + 2) jm_Reader_readNumber B 5 [some (.ref 117)] [] s22) :
    q_W G (d + 2) jm_Reader_readNumber B 5 [some (.ref 117)] [] s := by
  refine q_aload_n (pc' := 6) ja_Reader_readNumber_5 rfl rfl ?_
  refine q_getf (pc' := 9) (v := .int (s 117 3)) ja_Reader_readNumber_6 rfl (by decide) ⟨rfl, by decide⟩ rfl ?_
  refine q_aload_n (pc' := 10) ja_Reader_readNumber_9 rfl rfl ?_
  refine q_getf (pc' := 13) (v := .int (s 117 1)) ja_Reader_readNumber_10 rfl (by decide) ⟨rfl, by decide⟩ rfl ?_
  refine q_ic_ge (pc' := 16) ja_Reader_readNumber_13 rfl ?_ ?_
  · intro h1
    refine q_aload_n (pc' := 64) ja_Reader_readNumber_63 rfl rfl ?_
    refine q_getf (pc' := 67) (v := .int (s 117 3)) ja_Reader_readNumber_64 rfl (by decide) ⟨rfl, by decide⟩ rfl ?_
    refine q_aload_n (pc' := 68) ja_Reader_readNumber_67 rfl rfl ?_
    refine q_getf (pc' := 71) (v := .int (s 117 2)) ja_Reader_readNumber_68 rfl (by decide) ⟨rfl, by decide⟩ rfl ?_
    refine q_isub (pc' := 72) ja_Reader_readNumber_71 rfl ?_
    refine q_iconst (pc' := 73) ja_Reader_readNumber_72 rfl 4 (by decide) ?_
    refine q_ic_le (pc' := 76) ja_Reader_readNumber_73 rfl ?_ ?_
    · intro h2
      refine q_aload_n (pc' := 84) ja_Reader_readNumber_83 rfl rfl ?_
      refine q_bipush (pc' := 86) ja_Reader_readNumber_84 rfl 15 (by decide) ?_
      refine q_putf (pc' := 89) ja_Reader_readNumber_86 rfl (by decide) rfl rfl rfl ?_
      intro s1 e1
      exact q_vret ja_Reader_readNumber_89 rfl (k1 h1 h2 s1 e1)
    · intro h3
      refine q_aload_n (pc' := 77) ja_Reader_readNumber_76 rfl rfl ?_
      refine q_virt (pc' := 80) (c := 117) (as := []) (r := []) ja_Reader_readNumber_77 rfl rfl rfl (by decide) ⟨rfl, by decide⟩ ?_
      refine q_in (M := jm_Reader_fail) rfl (Nat.le_of_ble_eq_true rfl) (ls := [some (.ref 117)]) rfl ?_
      refine q_aload_n (pc' := 1) ja_Reader_fail_0 rfl rfl ?_
      refine q_getf (pc' := 4) (v := .int (s 117 7)) ja_Reader_fail_1 rfl (by decide) ⟨rfl, by decide⟩ rfl ?_
      refine q_iconst (pc' := 5) ja_Reader_fail_4 rfl (-1) (by decide) ?_
      refine q_ic_ne (pc' := 8) ja_Reader_fail_5 rfl ?_ ?_
      · intro h4
        refine q_aload_n (pc' := 17) ja_Reader_fail_16 rfl rfl ?_
        refine q_bipush (pc' := 19) ja_Reader_fail_17 rfl 17 (by decide) ?_
        refine q_putf (pc' := 22) ja_Reader_fail_19 rfl (by decide) rfl rfl rfl ?_
        intro s2 e2
        refine q_vret ja_Reader_fail_22 rfl ?_
        show q_W _ _ _ _ 80 [some (.ref 117)] [] s2
        refine q_goto ja_Reader_readNumber_80 ?_
        exact q_vret ja_Reader_readNumber_89 rfl (k2 h1 h3 h4 s2 e2)
      · intro h5
        refine q_aload_n (pc' := 9) ja_Reader_fail_8 rfl rfl ?_
        refine q_aload_n (pc' := 10) ja_Reader_fail_9 rfl rfl ?_
        refine q_getf (pc' := 13) (v := .int (s 117 2)) ja_Reader_fail_10 rfl (by decide) ⟨rfl, by decide⟩ rfl ?_
        refine q_putf (pc' := 16) ja_Reader_fail_13 rfl (by decide) rfl rfl rfl ?_
        intro s3 e3
        refine q_aload_n (pc' := 17) ja_Reader_fail_16 rfl rfl ?_
        refine q_bipush (pc' := 19) ja_Reader_fail_17 rfl 17 (by decide) ?_
        refine q_putf (pc' := 22) ja_Reader_fail_19 rfl (by decide) rfl rfl rfl ?_
        intro s4 e4
        refine q_vret ja_Reader_fail_22 rfl ?_
        show q_W _ _ _ _ 80 [some (.ref 117)] [] s4
        refine q_goto ja_Reader_readNumber_80 ?_
        exact q_vret ja_Reader_readNumber_89 rfl (k3 h1 h3 h5 s3 e3 s4 e4)
  · intro h6
    refine q_aload_n (pc' := 17) ja_Reader_readNumber_16 rfl rfl ?_
    refine q_aload_n (pc' := 18) ja_Reader_readNumber_17 rfl rfl ?_
    refine q_getf (pc' := 21) (v := .int (s 117 3)) ja_Reader_readNumber_18 rfl (by decide) ⟨rfl, by decide⟩ rfl ?_
    refine q_virt (pc' := 24) (c := 117) (as := [.int (s 117 3)]) (r := []) ja_Reader_readNumber_21 rfl rfl rfl (by decide) ⟨rfl, by decide⟩ ?_
    refine q_in (M := jm_Reader_isDigit) rfl (Nat.le_of_ble_eq_true rfl) (ls := [some (.ref 117), some (.int (s 117 3))]) rfl ?_
    refine q_aload_n (pc' := 1) ja_Reader_isDigit_0 rfl rfl ?_
    refine q_iload_n (pc' := 2) ja_Reader_isDigit_1 rfl rfl ?_
    refine q_virt (pc' := 5) (c := 117) (as := [.int (s 117 3)]) (r := []) ja_Reader_isDigit_2 rfl rfl rfl (by decide) ⟨rfl, by decide⟩ ?_
    refine q_in (M := jm_Reader_byteAt) rfl (Nat.le_of_ble_eq_true rfl) (ls := [some (.ref 117), some (.int (s 117 3))]) rfl ?_
    refine q_iload_n (pc' := 1) ja_Reader_byteAt_0 rfl rfl ?_
    refine q_if_lt (pc' := 4) ja_Reader_byteAt_1 rfl ?_ ?_
    · intro h7
      refine q_iconst (pc' := 31) ja_Reader_byteAt_30 rfl 0 (by decide) ?_
      refine q_iret ja_Reader_byteAt_31 rfl rfl ?_
      show q_W _ _ _ _ 5 [some (.ref 117), some (.int (s 117 3))] [.int 0] s
      refine q_bipush (pc' := 7) ja_Reader_isDigit_5 rfl 48 (by decide) ?_
      refine q_ic_lt (pc' := 10) ja_Reader_isDigit_7 rfl (fun _ => ?_) (fun h => absurd ((by decide : (0 : Int32) < 48)) h)
      refine q_iconst (pc' := 25) ja_Reader_isDigit_24 rfl 0 (by decide) ?_
      refine q_iret ja_Reader_isDigit_25 rfl (by decide) ?_
      show q_W _ _ _ _ 24 [some (.ref 117)] [.int 0] s
      refine q_if_eq (pc' := 27) ja_Reader_readNumber_24 rfl (fun _ => ?_) (fun h => absurd ((by decide : (0 : Int32) = 0)) h)
      refine q_aload_n (pc' := 64) ja_Reader_readNumber_63 rfl rfl ?_
      refine q_getf (pc' := 67) (v := .int (s 117 3)) ja_Reader_readNumber_64 rfl (by decide) ⟨rfl, by decide⟩ rfl ?_
      refine q_aload_n (pc' := 68) ja_Reader_readNumber_67 rfl rfl ?_
      refine q_getf (pc' := 71) (v := .int (s 117 2)) ja_Reader_readNumber_68 rfl (by decide) ⟨rfl, by decide⟩ rfl ?_
      refine q_isub (pc' := 72) ja_Reader_readNumber_71 rfl ?_
      refine q_iconst (pc' := 73) ja_Reader_readNumber_72 rfl 4 (by decide) ?_
      refine q_ic_le (pc' := 76) ja_Reader_readNumber_73 rfl ?_ ?_
      · intro h8
        refine q_aload_n (pc' := 84) ja_Reader_readNumber_83 rfl rfl ?_
        refine q_bipush (pc' := 86) ja_Reader_readNumber_84 rfl 15 (by decide) ?_
        refine q_putf (pc' := 89) ja_Reader_readNumber_86 rfl (by decide) rfl rfl rfl ?_
        intro s5 e5
        exact q_vret ja_Reader_readNumber_89 rfl (k4 h6 h7 h8 s5 e5)
      · intro h9
        refine q_aload_n (pc' := 77) ja_Reader_readNumber_76 rfl rfl ?_
        refine q_virt (pc' := 80) (c := 117) (as := []) (r := []) ja_Reader_readNumber_77 rfl rfl rfl (by decide) ⟨rfl, by decide⟩ ?_
        refine q_in (M := jm_Reader_fail) rfl (Nat.le_of_ble_eq_true rfl) (ls := [some (.ref 117)]) rfl ?_
        refine q_aload_n (pc' := 1) ja_Reader_fail_0 rfl rfl ?_
        refine q_getf (pc' := 4) (v := .int (s 117 7)) ja_Reader_fail_1 rfl (by decide) ⟨rfl, by decide⟩ rfl ?_
        refine q_iconst (pc' := 5) ja_Reader_fail_4 rfl (-1) (by decide) ?_
        refine q_ic_ne (pc' := 8) ja_Reader_fail_5 rfl ?_ ?_
        · intro h10
          refine q_aload_n (pc' := 17) ja_Reader_fail_16 rfl rfl ?_
          refine q_bipush (pc' := 19) ja_Reader_fail_17 rfl 17 (by decide) ?_
          refine q_putf (pc' := 22) ja_Reader_fail_19 rfl (by decide) rfl rfl rfl ?_
          intro s6 e6
          refine q_vret ja_Reader_fail_22 rfl ?_
          show q_W _ _ _ _ 80 [some (.ref 117)] [] s6
          refine q_goto ja_Reader_readNumber_80 ?_
          exact q_vret ja_Reader_readNumber_89 rfl (k5 h6 h7 h9 h10 s6 e6)
        · intro h11
          refine q_aload_n (pc' := 9) ja_Reader_fail_8 rfl rfl ?_
          refine q_aload_n (pc' := 10) ja_Reader_fail_9 rfl rfl ?_
          refine q_getf (pc' := 13) (v := .int (s 117 2)) ja_Reader_fail_10 rfl (by decide) ⟨rfl, by decide⟩ rfl ?_
          refine q_putf (pc' := 16) ja_Reader_fail_13 rfl (by decide) rfl rfl rfl ?_
          intro s7 e7
          refine q_aload_n (pc' := 17) ja_Reader_fail_16 rfl rfl ?_
          refine q_bipush (pc' := 19) ja_Reader_fail_17 rfl 17 (by decide) ?_
          refine q_putf (pc' := 22) ja_Reader_fail_19 rfl (by decide) rfl rfl rfl ?_
          intro s8 e8
          refine q_vret ja_Reader_fail_22 rfl ?_
          show q_W _ _ _ _ 80 [some (.ref 117)] [] s8
          refine q_goto ja_Reader_readNumber_80 ?_
          exact q_vret ja_Reader_readNumber_89 rfl (k6 h6 h7 h9 h11 s7 e7 s8 e8)
    · intro h12
      refine q_iload_n (pc' := 5) ja_Reader_byteAt_4 rfl rfl ?_
      refine q_aload_n (pc' := 6) ja_Reader_byteAt_5 rfl rfl ?_
      refine q_getf (pc' := 9) (v := .int (s 117 1)) ja_Reader_byteAt_6 rfl (by decide) ⟨rfl, by decide⟩ rfl ?_
      refine q_ic_ge (pc' := 12) ja_Reader_byteAt_9 rfl (fun h => absurd (h6) h) (fun _ => ?_)
      refine q_iload_n (pc' := 13) ja_Reader_byteAt_12 rfl rfl ?_
      refine q_aload_n (pc' := 14) ja_Reader_byteAt_13 rfl rfl ?_
      refine q_getf (pc' := 17) (v := .ref 118) ja_Reader_byteAt_14 rfl (by decide) ⟨rfl, by decide⟩ rfl ?_
      refine q_alen (pc' := 18) ja_Reader_byteAt_17 rfl (by decide) (kd := 13) (l := 200) rfl (by decide) (v := 200) (by decide) ?_
      refine q_ic_ge (pc' := 21) ja_Reader_byteAt_18 rfl ?_ ?_
      · intro h13
        refine q_iconst (pc' := 31) ja_Reader_byteAt_30 rfl 0 (by decide) ?_
        refine q_iret ja_Reader_byteAt_31 rfl rfl ?_
        show q_W _ _ _ _ 5 [some (.ref 117), some (.int (s 117 3))] [.int 0] s
        refine q_bipush (pc' := 7) ja_Reader_isDigit_5 rfl 48 (by decide) ?_
        refine q_ic_lt (pc' := 10) ja_Reader_isDigit_7 rfl (fun _ => ?_) (fun h => absurd ((by decide : (0 : Int32) < 48)) h)
        refine q_iconst (pc' := 25) ja_Reader_isDigit_24 rfl 0 (by decide) ?_
        refine q_iret ja_Reader_isDigit_25 rfl (by decide) ?_
        show q_W _ _ _ _ 24 [some (.ref 117)] [.int 0] s
        refine q_if_eq (pc' := 27) ja_Reader_readNumber_24 rfl (fun _ => ?_) (fun h => absurd ((by decide : (0 : Int32) = 0)) h)
        refine q_aload_n (pc' := 64) ja_Reader_readNumber_63 rfl rfl ?_
        refine q_getf (pc' := 67) (v := .int (s 117 3)) ja_Reader_readNumber_64 rfl (by decide) ⟨rfl, by decide⟩ rfl ?_
        refine q_aload_n (pc' := 68) ja_Reader_readNumber_67 rfl rfl ?_
        refine q_getf (pc' := 71) (v := .int (s 117 2)) ja_Reader_readNumber_68 rfl (by decide) ⟨rfl, by decide⟩ rfl ?_
        refine q_isub (pc' := 72) ja_Reader_readNumber_71 rfl ?_
        refine q_iconst (pc' := 73) ja_Reader_readNumber_72 rfl 4 (by decide) ?_
        refine q_ic_le (pc' := 76) ja_Reader_readNumber_73 rfl ?_ ?_
        · intro h14
          refine q_aload_n (pc' := 84) ja_Reader_readNumber_83 rfl rfl ?_
          refine q_bipush (pc' := 86) ja_Reader_readNumber_84 rfl 15 (by decide) ?_
          refine q_putf (pc' := 89) ja_Reader_readNumber_86 rfl (by decide) rfl rfl rfl ?_
          intro s9 e9
          exact q_vret ja_Reader_readNumber_89 rfl (k7 h6 h12 h13 h14 s9 e9)
        · intro h15
          refine q_aload_n (pc' := 77) ja_Reader_readNumber_76 rfl rfl ?_
          refine q_virt (pc' := 80) (c := 117) (as := []) (r := []) ja_Reader_readNumber_77 rfl rfl rfl (by decide) ⟨rfl, by decide⟩ ?_
          refine q_in (M := jm_Reader_fail) rfl (Nat.le_of_ble_eq_true rfl) (ls := [some (.ref 117)]) rfl ?_
          refine q_aload_n (pc' := 1) ja_Reader_fail_0 rfl rfl ?_
          refine q_getf (pc' := 4) (v := .int (s 117 7)) ja_Reader_fail_1 rfl (by decide) ⟨rfl, by decide⟩ rfl ?_
          refine q_iconst (pc' := 5) ja_Reader_fail_4 rfl (-1) (by decide) ?_
          refine q_ic_ne (pc' := 8) ja_Reader_fail_5 rfl ?_ ?_
          · intro h16
            refine q_aload_n (pc' := 17) ja_Reader_fail_16 rfl rfl ?_
            refine q_bipush (pc' := 19) ja_Reader_fail_17 rfl 17 (by decide) ?_
            refine q_putf (pc' := 22) ja_Reader_fail_19 rfl (by decide) rfl rfl rfl ?_
            intro s10 e10
            refine q_vret ja_Reader_fail_22 rfl ?_
            show q_W _ _ _ _ 80 [some (.ref 117)] [] s10
            refine q_goto ja_Reader_readNumber_80 ?_
            exact q_vret ja_Reader_readNumber_89 rfl (k8 h6 h12 h13 h15 h16 s10 e10)
          · intro h17
            refine q_aload_n (pc' := 9) ja_Reader_fail_8 rfl rfl ?_
            refine q_aload_n (pc' := 10) ja_Reader_fail_9 rfl rfl ?_
            refine q_getf (pc' := 13) (v := .int (s 117 2)) ja_Reader_fail_10 rfl (by decide) ⟨rfl, by decide⟩ rfl ?_
            refine q_putf (pc' := 16) ja_Reader_fail_13 rfl (by decide) rfl rfl rfl ?_
            intro s11 e11
            refine q_aload_n (pc' := 17) ja_Reader_fail_16 rfl rfl ?_
            refine q_bipush (pc' := 19) ja_Reader_fail_17 rfl 17 (by decide) ?_
            refine q_putf (pc' := 22) ja_Reader_fail_19 rfl (by decide) rfl rfl rfl ?_
            intro s12 e12
            refine q_vret ja_Reader_fail_22 rfl ?_
            show q_W _ _ _ _ 80 [some (.ref 117)] [] s12
            refine q_goto ja_Reader_readNumber_80 ?_
            exact q_vret ja_Reader_readNumber_89 rfl (k9 h6 h12 h13 h15 h17 s11 e11 s12 e12)
      · intro h18
        refine q_aload_n (pc' := 22) ja_Reader_byteAt_21 rfl rfl ?_
        refine q_getf (pc' := 25) (v := .ref 118) ja_Reader_byteAt_22 rfl (by decide) ⟨rfl, by decide⟩ rfl ?_
        refine q_iload_n (pc' := 26) ja_Reader_byteAt_25 rfl rfl ?_
        refine q_iald (pc' := 27) (v := .int (s 118 (s 117 3).toNatClampNeg)) ja_Reader_byteAt_26 rfl (by decide) (l := 200) rfl (q_inr (l := 200) (by decide) h12 h18) rfl ?_
        refine q_goto ja_Reader_byteAt_27 ?_
        refine q_iret ja_Reader_byteAt_31 rfl rfl ?_
        show q_W _ _ _ _ 5 [some (.ref 117), some (.int (s 117 3))] [.int (s 118 (s 117 3).toNatClampNeg)] s
        refine q_bipush (pc' := 7) ja_Reader_isDigit_5 rfl 48 (by decide) ?_
        refine q_ic_lt (pc' := 10) ja_Reader_isDigit_7 rfl ?_ ?_
        · intro h19
          refine q_iconst (pc' := 25) ja_Reader_isDigit_24 rfl 0 (by decide) ?_
          refine q_iret ja_Reader_isDigit_25 rfl (by decide) ?_
          show q_W _ _ _ _ 24 [some (.ref 117)] [.int 0] s
          refine q_if_eq (pc' := 27) ja_Reader_readNumber_24 rfl (fun _ => ?_) (fun h => absurd ((by decide : (0 : Int32) = 0)) h)
          refine q_aload_n (pc' := 64) ja_Reader_readNumber_63 rfl rfl ?_
          refine q_getf (pc' := 67) (v := .int (s 117 3)) ja_Reader_readNumber_64 rfl (by decide) ⟨rfl, by decide⟩ rfl ?_
          refine q_aload_n (pc' := 68) ja_Reader_readNumber_67 rfl rfl ?_
          refine q_getf (pc' := 71) (v := .int (s 117 2)) ja_Reader_readNumber_68 rfl (by decide) ⟨rfl, by decide⟩ rfl ?_
          refine q_isub (pc' := 72) ja_Reader_readNumber_71 rfl ?_
          refine q_iconst (pc' := 73) ja_Reader_readNumber_72 rfl 4 (by decide) ?_
          refine q_ic_le (pc' := 76) ja_Reader_readNumber_73 rfl ?_ ?_
          · intro h20
            refine q_aload_n (pc' := 84) ja_Reader_readNumber_83 rfl rfl ?_
            refine q_bipush (pc' := 86) ja_Reader_readNumber_84 rfl 15 (by decide) ?_
            refine q_putf (pc' := 89) ja_Reader_readNumber_86 rfl (by decide) rfl rfl rfl ?_
            intro s13 e13
            exact q_vret ja_Reader_readNumber_89 rfl (k10 h6 h12 h18 h19 h20 s13 e13)
          · intro h21
            refine q_aload_n (pc' := 77) ja_Reader_readNumber_76 rfl rfl ?_
            refine q_virt (pc' := 80) (c := 117) (as := []) (r := []) ja_Reader_readNumber_77 rfl rfl rfl (by decide) ⟨rfl, by decide⟩ ?_
            refine q_in (M := jm_Reader_fail) rfl (Nat.le_of_ble_eq_true rfl) (ls := [some (.ref 117)]) rfl ?_
            refine q_aload_n (pc' := 1) ja_Reader_fail_0 rfl rfl ?_
            refine q_getf (pc' := 4) (v := .int (s 117 7)) ja_Reader_fail_1 rfl (by decide) ⟨rfl, by decide⟩ rfl ?_
            refine q_iconst (pc' := 5) ja_Reader_fail_4 rfl (-1) (by decide) ?_
            refine q_ic_ne (pc' := 8) ja_Reader_fail_5 rfl ?_ ?_
            · intro h22
              refine q_aload_n (pc' := 17) ja_Reader_fail_16 rfl rfl ?_
              refine q_bipush (pc' := 19) ja_Reader_fail_17 rfl 17 (by decide) ?_
              refine q_putf (pc' := 22) ja_Reader_fail_19 rfl (by decide) rfl rfl rfl ?_
              intro s14 e14
              refine q_vret ja_Reader_fail_22 rfl ?_
              show q_W _ _ _ _ 80 [some (.ref 117)] [] s14
              refine q_goto ja_Reader_readNumber_80 ?_
              exact q_vret ja_Reader_readNumber_89 rfl (k11 h6 h12 h18 h19 h21 h22 s14 e14)
            · intro h23
              refine q_aload_n (pc' := 9) ja_Reader_fail_8 rfl rfl ?_
              refine q_aload_n (pc' := 10) ja_Reader_fail_9 rfl rfl ?_
              refine q_getf (pc' := 13) (v := .int (s 117 2)) ja_Reader_fail_10 rfl (by decide) ⟨rfl, by decide⟩ rfl ?_
              refine q_putf (pc' := 16) ja_Reader_fail_13 rfl (by decide) rfl rfl rfl ?_
              intro s15 e15
              refine q_aload_n (pc' := 17) ja_Reader_fail_16 rfl rfl ?_
              refine q_bipush (pc' := 19) ja_Reader_fail_17 rfl 17 (by decide) ?_
              refine q_putf (pc' := 22) ja_Reader_fail_19 rfl (by decide) rfl rfl rfl ?_
              intro s16 e16
              refine q_vret ja_Reader_fail_22 rfl ?_
              show q_W _ _ _ _ 80 [some (.ref 117)] [] s16
              refine q_goto ja_Reader_readNumber_80 ?_
              exact q_vret ja_Reader_readNumber_89 rfl (k12 h6 h12 h18 h19 h21 h23 s15 e15 s16 e16)
        · intro h24
          refine q_aload_n (pc' := 11) ja_Reader_isDigit_10 rfl rfl ?_
          refine q_iload_n (pc' := 12) ja_Reader_isDigit_11 rfl rfl ?_
          refine q_virt (pc' := 15) (c := 117) (as := [.int (s 117 3)]) (r := []) ja_Reader_isDigit_12 rfl rfl rfl (by decide) ⟨rfl, by decide⟩ ?_
          refine q_in (M := jm_Reader_byteAt) rfl (Nat.le_of_ble_eq_true rfl) (ls := [some (.ref 117), some (.int (s 117 3))]) rfl ?_
          refine q_iload_n (pc' := 1) ja_Reader_byteAt_0 rfl rfl ?_
          refine q_if_lt (pc' := 4) ja_Reader_byteAt_1 rfl (fun h => absurd h (h12)) (fun _ => ?_)
          refine q_iload_n (pc' := 5) ja_Reader_byteAt_4 rfl rfl ?_
          refine q_aload_n (pc' := 6) ja_Reader_byteAt_5 rfl rfl ?_
          refine q_getf (pc' := 9) (v := .int (s 117 1)) ja_Reader_byteAt_6 rfl (by decide) ⟨rfl, by decide⟩ rfl ?_
          refine q_ic_ge (pc' := 12) ja_Reader_byteAt_9 rfl (fun h => absurd (h6) h) (fun _ => ?_)
          refine q_iload_n (pc' := 13) ja_Reader_byteAt_12 rfl rfl ?_
          refine q_aload_n (pc' := 14) ja_Reader_byteAt_13 rfl rfl ?_
          refine q_getf (pc' := 17) (v := .ref 118) ja_Reader_byteAt_14 rfl (by decide) ⟨rfl, by decide⟩ rfl ?_
          refine q_alen (pc' := 18) ja_Reader_byteAt_17 rfl (by decide) (kd := 13) (l := 200) rfl (by decide) (v := 200) (by decide) ?_
          refine q_ic_ge (pc' := 21) ja_Reader_byteAt_18 rfl (fun h => absurd (h18) h) (fun _ => ?_)
          refine q_aload_n (pc' := 22) ja_Reader_byteAt_21 rfl rfl ?_
          refine q_getf (pc' := 25) (v := .ref 118) ja_Reader_byteAt_22 rfl (by decide) ⟨rfl, by decide⟩ rfl ?_
          refine q_iload_n (pc' := 26) ja_Reader_byteAt_25 rfl rfl ?_
          refine q_iald (pc' := 27) (v := .int (s 118 (s 117 3).toNatClampNeg)) ja_Reader_byteAt_26 rfl (by decide) (l := 200) rfl (q_inr (l := 200) (by decide) h12 h18) rfl ?_
          refine q_goto ja_Reader_byteAt_27 ?_
          refine q_iret ja_Reader_byteAt_31 rfl rfl ?_
          show q_W _ _ _ _ 15 [some (.ref 117), some (.int (s 117 3))] [.int (s 118 (s 117 3).toNatClampNeg)] s
          refine q_bipush (pc' := 17) ja_Reader_isDigit_15 rfl 57 (by decide) ?_
          refine q_ic_gt (pc' := 20) ja_Reader_isDigit_17 rfl ?_ ?_
          · intro h25
            refine q_iconst (pc' := 25) ja_Reader_isDigit_24 rfl 0 (by decide) ?_
            refine q_iret ja_Reader_isDigit_25 rfl (by decide) ?_
            show q_W _ _ _ _ 24 [some (.ref 117)] [.int 0] s
            refine q_if_eq (pc' := 27) ja_Reader_readNumber_24 rfl (fun _ => ?_) (fun h => absurd ((by decide : (0 : Int32) = 0)) h)
            refine q_aload_n (pc' := 64) ja_Reader_readNumber_63 rfl rfl ?_
            refine q_getf (pc' := 67) (v := .int (s 117 3)) ja_Reader_readNumber_64 rfl (by decide) ⟨rfl, by decide⟩ rfl ?_
            refine q_aload_n (pc' := 68) ja_Reader_readNumber_67 rfl rfl ?_
            refine q_getf (pc' := 71) (v := .int (s 117 2)) ja_Reader_readNumber_68 rfl (by decide) ⟨rfl, by decide⟩ rfl ?_
            refine q_isub (pc' := 72) ja_Reader_readNumber_71 rfl ?_
            refine q_iconst (pc' := 73) ja_Reader_readNumber_72 rfl 4 (by decide) ?_
            refine q_ic_le (pc' := 76) ja_Reader_readNumber_73 rfl ?_ ?_
            · intro h26
              refine q_aload_n (pc' := 84) ja_Reader_readNumber_83 rfl rfl ?_
              refine q_bipush (pc' := 86) ja_Reader_readNumber_84 rfl 15 (by decide) ?_
              refine q_putf (pc' := 89) ja_Reader_readNumber_86 rfl (by decide) rfl rfl rfl ?_
              intro s17 e17
              exact q_vret ja_Reader_readNumber_89 rfl (k13 h6 h12 h18 h24 h25 h26 s17 e17)
            · intro h27
              refine q_aload_n (pc' := 77) ja_Reader_readNumber_76 rfl rfl ?_
              refine q_virt (pc' := 80) (c := 117) (as := []) (r := []) ja_Reader_readNumber_77 rfl rfl rfl (by decide) ⟨rfl, by decide⟩ ?_
              refine q_in (M := jm_Reader_fail) rfl (Nat.le_of_ble_eq_true rfl) (ls := [some (.ref 117)]) rfl ?_
              refine q_aload_n (pc' := 1) ja_Reader_fail_0 rfl rfl ?_
              refine q_getf (pc' := 4) (v := .int (s 117 7)) ja_Reader_fail_1 rfl (by decide) ⟨rfl, by decide⟩ rfl ?_
              refine q_iconst (pc' := 5) ja_Reader_fail_4 rfl (-1) (by decide) ?_
              refine q_ic_ne (pc' := 8) ja_Reader_fail_5 rfl ?_ ?_
              · intro h28
                refine q_aload_n (pc' := 17) ja_Reader_fail_16 rfl rfl ?_
                refine q_bipush (pc' := 19) ja_Reader_fail_17 rfl 17 (by decide) ?_
                refine q_putf (pc' := 22) ja_Reader_fail_19 rfl (by decide) rfl rfl rfl ?_
                intro s18 e18
                refine q_vret ja_Reader_fail_22 rfl ?_
                show q_W _ _ _ _ 80 [some (.ref 117)] [] s18
                refine q_goto ja_Reader_readNumber_80 ?_
                exact q_vret ja_Reader_readNumber_89 rfl (k14 h6 h12 h18 h24 h25 h27 h28 s18 e18)
              · intro h29
                refine q_aload_n (pc' := 9) ja_Reader_fail_8 rfl rfl ?_
                refine q_aload_n (pc' := 10) ja_Reader_fail_9 rfl rfl ?_
                refine q_getf (pc' := 13) (v := .int (s 117 2)) ja_Reader_fail_10 rfl (by decide) ⟨rfl, by decide⟩ rfl ?_
                refine q_putf (pc' := 16) ja_Reader_fail_13 rfl (by decide) rfl rfl rfl ?_
                intro s19 e19
                refine q_aload_n (pc' := 17) ja_Reader_fail_16 rfl rfl ?_
                refine q_bipush (pc' := 19) ja_Reader_fail_17 rfl 17 (by decide) ?_
                refine q_putf (pc' := 22) ja_Reader_fail_19 rfl (by decide) rfl rfl rfl ?_
                intro s20 e20
                refine q_vret ja_Reader_fail_22 rfl ?_
                show q_W _ _ _ _ 80 [some (.ref 117)] [] s20
                refine q_goto ja_Reader_readNumber_80 ?_
                exact q_vret ja_Reader_readNumber_89 rfl (k15 h6 h12 h18 h24 h25 h27 h29 s19 e19 s20 e20)
          · intro h30
            refine q_iconst (pc' := 21) ja_Reader_isDigit_20 rfl 1 (by decide) ?_
            refine q_goto ja_Reader_isDigit_21 ?_
            refine q_iret ja_Reader_isDigit_25 rfl (by decide) ?_
            show q_W _ _ _ _ 24 [some (.ref 117)] [.int 1] s
            refine q_if_eq (pc' := 27) ja_Reader_readNumber_24 rfl (fun h => absurd h ((by decide : ¬ (1 : Int32) = 0))) (fun _ => ?_)
            refine q_aload_n (pc' := 28) ja_Reader_readNumber_27 rfl rfl ?_
            refine q_aload_n (pc' := 29) ja_Reader_readNumber_28 rfl rfl ?_
            refine q_getf (pc' := 32) (v := .int (s 117 5)) ja_Reader_readNumber_29 rfl (by decide) ⟨rfl, by decide⟩ rfl ?_
            refine q_bipush (pc' := 34) ja_Reader_readNumber_32 rfl 10 (by decide) ?_
            refine q_imul (pc' := 35) ja_Reader_readNumber_34 rfl ?_
            refine q_aload_n (pc' := 36) ja_Reader_readNumber_35 rfl rfl ?_
            refine q_aload_n (pc' := 37) ja_Reader_readNumber_36 rfl rfl ?_
            refine q_getf (pc' := 40) (v := .int (s 117 3)) ja_Reader_readNumber_37 rfl (by decide) ⟨rfl, by decide⟩ rfl ?_
            refine q_virt (pc' := 43) (c := 117) (as := [.int (s 117 3)]) (r := [.int ((s 117 5) * 10), .ref 117]) ja_Reader_readNumber_40 rfl rfl rfl (by decide) ⟨rfl, by decide⟩ ?_
            refine q_in (M := jm_Reader_byteAt) rfl (Nat.le_of_ble_eq_true rfl) (ls := [some (.ref 117), some (.int (s 117 3))]) rfl ?_
            refine q_iload_n (pc' := 1) ja_Reader_byteAt_0 rfl rfl ?_
            refine q_if_lt (pc' := 4) ja_Reader_byteAt_1 rfl (fun h => absurd h (h12)) (fun _ => ?_)
            refine q_iload_n (pc' := 5) ja_Reader_byteAt_4 rfl rfl ?_
            refine q_aload_n (pc' := 6) ja_Reader_byteAt_5 rfl rfl ?_
            refine q_getf (pc' := 9) (v := .int (s 117 1)) ja_Reader_byteAt_6 rfl (by decide) ⟨rfl, by decide⟩ rfl ?_
            refine q_ic_ge (pc' := 12) ja_Reader_byteAt_9 rfl (fun h => absurd (h6) h) (fun _ => ?_)
            refine q_iload_n (pc' := 13) ja_Reader_byteAt_12 rfl rfl ?_
            refine q_aload_n (pc' := 14) ja_Reader_byteAt_13 rfl rfl ?_
            refine q_getf (pc' := 17) (v := .ref 118) ja_Reader_byteAt_14 rfl (by decide) ⟨rfl, by decide⟩ rfl ?_
            refine q_alen (pc' := 18) ja_Reader_byteAt_17 rfl (by decide) (kd := 13) (l := 200) rfl (by decide) (v := 200) (by decide) ?_
            refine q_ic_ge (pc' := 21) ja_Reader_byteAt_18 rfl (fun h => absurd (h18) h) (fun _ => ?_)
            refine q_aload_n (pc' := 22) ja_Reader_byteAt_21 rfl rfl ?_
            refine q_getf (pc' := 25) (v := .ref 118) ja_Reader_byteAt_22 rfl (by decide) ⟨rfl, by decide⟩ rfl ?_
            refine q_iload_n (pc' := 26) ja_Reader_byteAt_25 rfl rfl ?_
            refine q_iald (pc' := 27) (v := .int (s 118 (s 117 3).toNatClampNeg)) ja_Reader_byteAt_26 rfl (by decide) (l := 200) rfl (q_inr (l := 200) (by decide) h12 h18) rfl ?_
            refine q_goto ja_Reader_byteAt_27 ?_
            refine q_iret ja_Reader_byteAt_31 rfl rfl ?_
            show q_W _ _ _ _ 43 [some (.ref 117)] [.int (s 118 (s 117 3).toNatClampNeg), .int ((s 117 5) * 10), .ref 117] s
            refine q_iadd (pc' := 44) ja_Reader_readNumber_43 rfl ?_
            refine q_bipush (pc' := 46) ja_Reader_readNumber_44 rfl 48 (by decide) ?_
            refine q_isub (pc' := 47) ja_Reader_readNumber_46 rfl ?_
            refine q_putf (pc' := 50) ja_Reader_readNumber_47 rfl (by decide) rfl rfl rfl ?_
            intro s21 e21
            refine q_aload_n (pc' := 51) ja_Reader_readNumber_50 rfl rfl ?_
            refine q_dup (pc' := 52) ja_Reader_readNumber_51 rfl rfl ?_
            refine q_getf (pc' := 55) (v := .int (s21 117 3)) ja_Reader_readNumber_52 rfl (by decide) ⟨rfl, by decide⟩ rfl ?_
            refine q_iconst (pc' := 56) ja_Reader_readNumber_55 rfl 1 (by decide) ?_
            refine q_iadd (pc' := 57) ja_Reader_readNumber_56 rfl ?_
            refine q_putf (pc' := 60) ja_Reader_readNumber_57 rfl (by decide) rfl rfl rfl ?_
            intro s22 e22
            refine q_goto ja_Reader_readNumber_60 ?_
            exact (k16 h6 h12 h18 h24 h30 s21 e21 s22 e22)
