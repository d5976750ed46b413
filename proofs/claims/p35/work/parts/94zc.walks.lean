/-! walks of what is foreseen, with calls left -/
theorem t2_C_foresee {G : jv_X} {d : Nat} {B : Option Value → jg_H → Prop} {s : jg_H} (a1 : Int32) (a2 : Int32)
    (k1 : a2 < 0 → B (some (.long (-4611686018427387904))) s)
    (k2 : ¬ a2 < 0 → ¬ a2 < (s 0 1) → B (some (.long (-4611686018427387904))) s)
    (k3 : ¬ a2 < 0 → a2 < (s 0 1) → ¬ a2 < 15 → B (some (.long (-4611686018427387904))) s)
    (k4 : ¬ a2 < 0 → a2 < (s 0 1) → a2 < 15 → (s 0 6) = (-1) → B (some (.long (-4611686018427387904))) s)
    (k5 : ¬ a2 < 0 → a2 < (s 0 1) → a2 < 15 → ¬ (s 0 6) = (-1) → q_P G (d + 1) 108 [.ref 65, .int a1] s (fun v t => q_W G (d + 1) jm_C_foresee B 24 [some (.ref 0), some (.int a1), some (.int a2), none, none] (v.toList ++ []) t)) :
    q_P G (d + 2) 107 [.ref 0, .int a1, .int a2] s B := by
  refine q_in (M := jm_C_foresee) rfl (Nat.le_of_ble_eq_true rfl) (ls := [some (.ref 0), some (.int a1), some (.int a2), none, none]) rfl ?_
  refine q_aload_n (pc' := 1) ja_C_foresee_0 rfl rfl ?_
  refine q_iload_n (pc' := 2) ja_C_foresee_1 rfl rfl ?_
  refine q_virt (pc' := 5) (c := 0) (as := [.int a2]) (r := []) ja_C_foresee_2 rfl rfl rfl (by decide) ⟨rfl, by decide⟩ ?_
  refine q_in (M := jm_C_isMember) rfl (Nat.le_of_ble_eq_true rfl) (ls := [some (.ref 0), some (.int a2)]) rfl ?_
  refine q_iload_n (pc' := 1) ja_C_isMember_0 rfl rfl ?_
  refine q_if_lt (pc' := 4) ja_C_isMember_1 rfl ?_ ?_
  · intro h1
    refine q_iconst (pc' := 26) ja_C_isMember_25 rfl 0 (by decide) ?_
    refine q_iret ja_C_isMember_26 rfl (by decide) ?_
    show q_W _ _ _ _ 5 [some (.ref 0), some (.int a1), some (.int a2), none, none] [.int 0] s
    refine q_if_eq (pc' := 8) ja_C_foresee_5 rfl (fun _ => ?_) (fun h => absurd ((by decide : (0 : Int32) = 0)) h)
    refine q_ldc2 (pc' := 30) ja_C_foresee_27 rfl (-4611686018427387904) (by decide) ?_
    exact q_lret ja_C_foresee_30 rfl (k1 h1)
  · intro h2
    refine q_iload_n (pc' := 5) ja_C_isMember_4 rfl rfl ?_
    refine q_aload_n (pc' := 6) ja_C_isMember_5 rfl rfl ?_
    refine q_getf (pc' := 9) (v := .int (s 0 1)) ja_C_isMember_6 rfl (by decide) ⟨rfl, by decide⟩ rfl ?_
    refine q_ic_ge (pc' := 12) ja_C_isMember_9 rfl ?_ ?_
    · intro h3
      refine q_iconst (pc' := 26) ja_C_isMember_25 rfl 0 (by decide) ?_
      refine q_iret ja_C_isMember_26 rfl (by decide) ?_
      show q_W _ _ _ _ 5 [some (.ref 0), some (.int a1), some (.int a2), none, none] [.int 0] s
      refine q_if_eq (pc' := 8) ja_C_foresee_5 rfl (fun _ => ?_) (fun h => absurd ((by decide : (0 : Int32) = 0)) h)
      refine q_ldc2 (pc' := 30) ja_C_foresee_27 rfl (-4611686018427387904) (by decide) ?_
      exact q_lret ja_C_foresee_30 rfl (k2 h2 h3)
    · intro h4
      refine q_iload_n (pc' := 13) ja_C_isMember_12 rfl rfl ?_
      refine q_aload_n (pc' := 14) ja_C_isMember_13 rfl rfl ?_
      refine q_getf (pc' := 17) (v := .ref 1) ja_C_isMember_14 rfl (by decide) ⟨rfl, by decide⟩ rfl ?_
      refine q_alen (pc' := 18) ja_C_isMember_17 rfl (by decide) (kd := 16) (l := 15) rfl (by decide) (v := 15) (by decide) ?_
      refine q_ic_ge (pc' := 21) ja_C_isMember_18 rfl ?_ ?_
      · intro h5
        refine q_iconst (pc' := 26) ja_C_isMember_25 rfl 0 (by decide) ?_
        refine q_iret ja_C_isMember_26 rfl (by decide) ?_
        show q_W _ _ _ _ 5 [some (.ref 0), some (.int a1), some (.int a2), none, none] [.int 0] s
        refine q_if_eq (pc' := 8) ja_C_foresee_5 rfl (fun _ => ?_) (fun h => absurd ((by decide : (0 : Int32) = 0)) h)
        refine q_ldc2 (pc' := 30) ja_C_foresee_27 rfl (-4611686018427387904) (by decide) ?_
        exact q_lret ja_C_foresee_30 rfl (k3 h2 h4 h5)
      · intro h6
        refine q_iconst (pc' := 22) ja_C_isMember_21 rfl 1 (by decide) ?_
        refine q_goto ja_C_isMember_22 ?_
        refine q_iret ja_C_isMember_26 rfl (by decide) ?_
        show q_W _ _ _ _ 5 [some (.ref 0), some (.int a1), some (.int a2), none, none] [.int 1] s
        refine q_if_eq (pc' := 8) ja_C_foresee_5 rfl (fun h => absurd h ((by decide : ¬ (1 : Int32) = 0))) (fun _ => ?_)
        refine q_aload_n (pc' := 9) ja_C_foresee_8 rfl rfl ?_
        refine q_getf (pc' := 12) (v := .int (s 0 6)) ja_C_foresee_9 rfl (by decide) ⟨rfl, by decide⟩ rfl ?_
        refine q_iconst (pc' := 13) ja_C_foresee_12 rfl (-1) (by decide) ?_
        refine q_ic_eq (pc' := 16) ja_C_foresee_13 rfl ?_ ?_
        · intro h7
          refine q_ldc2 (pc' := 30) ja_C_foresee_27 rfl (-4611686018427387904) (by decide) ?_
          exact q_lret ja_C_foresee_30 rfl (k4 h2 h4 h6 h7)
        · intro h8
          refine q_aload_n (pc' := 17) ja_C_foresee_16 rfl rfl ?_
          refine q_getf (pc' := 20) (v := .ref 65) ja_C_foresee_17 rfl (by decide) ⟨rfl, by decide⟩ rfl ?_
          refine q_iload_n (pc' := 21) ja_C_foresee_20 rfl rfl ?_
          refine q_virt (pc' := 24) (c := 65) (as := [.int a1]) (r := []) ja_C_foresee_21 rfl rfl rfl (by decide) ⟨rfl, by decide⟩ ?_
          exact (k5 h2 h4 h6 h8)
theorem t2_C_foresee_24 {G : jv_X} {d : Nat} {B : Option Value → jg_H → Prop} {s : jg_H} (x1 : Int32) (x2 : Int32) (y0 : Int32)
    (k1 : ¬ y0 = 0 → q_P G (d + 1) 84 [.ref 0] s (fun v t => q_W G (d + 1) jm_C_foresee B 39 [some (.ref 0), some (.int x1), some (.int x2), none, none] (v.toList ++ [.ref 65]) t))
    (k2 : y0 = 0 → B (some (.long (-4611686018427387904))) s) :
    q_W G (d + 1) jm_C_foresee B 24 [some (.ref 0), some (.int x1), some (.int x2), none, none] [.int y0] s := by
  refine q_if_ne (pc' := 27) ja_C_foresee_24 rfl ?_ ?_
  · intro h1
    refine q_aload_n (pc' := 32) ja_C_foresee_31 rfl rfl ?_
    refine q_getf (pc' := 35) (v := .ref 65) ja_C_foresee_32 rfl (by decide) ⟨rfl, by decide⟩ rfl ?_
    refine q_aload_n (pc' := 36) ja_C_foresee_35 rfl rfl ?_
    refine q_virt (pc' := 39) (c := 0) (as := []) (r := [.ref 65]) ja_C_foresee_36 rfl rfl rfl (by decide) ⟨rfl, by decide⟩ ?_
    exact (k1 h1)
  · intro h2
    refine q_ldc2 (pc' := 30) ja_C_foresee_27 rfl (-4611686018427387904) (by decide) ?_
    exact q_lret ja_C_foresee_30 rfl (k2 h2)
theorem t2_C_foresee_39 {G : jv_X} {d : Nat} {B : Option Value → jg_H → Prop} {s : jg_H} (x1 : Int32) (x2 : Int32) {y1 : Nat} (hy1 : f_8 y1)
    (k1 : q_P G (d + 1) 109 [.ref 65, .ref y1] s (fun v t => q_W G (d + 1) jm_C_foresee B 42 [some (.ref 0), some (.int x1), some (.int x2), none, none] (v.toList ++ []) t)) :
    q_W G (d + 1) jm_C_foresee B 39 [some (.ref 0), some (.int x1), some (.int x2), none, none] [.ref y1, .ref 65] s := by
  refine q_virt (pc' := 42) (c := 65) (as := [.ref y1]) (r := []) ja_C_foresee_39 rfl rfl rfl (by decide) ⟨rfl, by decide⟩ ?_
  exact k1
theorem t2_C_foresee_42 {G : jv_X} {d : Nat} {B : Option Value → jg_H → Prop} {s : jg_H} (x1 : Int32) (x2 : Int32)
    (k1 : q_W G (d + 1) jm_C_foresee B 47 [some (.ref 0), some (.int x1), some (.int x2), some (.int x1), some (.int 0)] [] s) :
    q_W G (d + 1) jm_C_foresee B 42 [some (.ref 0), some (.int x1), some (.int x2), none, none] [] s := by
  refine q_iload_n (pc' := 43) ja_C_foresee_42 rfl rfl ?_
  refine q_istore_n (pc' := 44) (ls' := [some (.ref 0), some (.int x1), some (.int x2), some (.int x1), none]) ja_C_foresee_43 rfl ⟨Nat.le_of_ble_eq_true rfl, rfl⟩ rfl ?_
  refine q_iconst (pc' := 45) ja_C_foresee_44 rfl 0 (by decide) ?_
  refine q_istore (pc' := 47) (ls' := [some (.ref 0), some (.int x1), some (.int x2), some (.int x1), some (.int 0)]) ja_C_foresee_45 rfl ⟨Nat.le_of_ble_eq_true rfl, rfl⟩ rfl ?_
  exact k1
theorem t2_C_foresee_47 {G : jv_X} {d : Nat} {B : Option Value → jg_H → Prop} {s : jg_H} (x1 : Int32) (x2 : Int32) (x3 : Int32) (x4 : Int32)
    (k1 : ¬ x4 < (s 66 0) → jv_in x2 15 = true)
    (k2 : ¬ x4 < (s 66 0) → q_P G (d + 1) 113 [.ref 65, .ref (2 + 2 * x2.toNatClampNeg)] s (fun v t => q_W G (d + 1) jm_C_foresee B 96 [some (.ref 0), some (.int x1), some (.int x2), some (.int x3), some (.int x4)] (v.toList ++ []) t))
    (k3 : x4 < (s 66 0) → q_P G (d + 1) 111 [.ref 0, .int x4, .int (x3 - x3 / 6 * 6)] s (fun v t => q_W G (d + 1) jm_C_foresee B 72 [some (.ref 0), some (.int x1), some (.int x2), some (.int x3), some (.int x4)] (v.toList ++ []) t)) :
    q_W G (d + 1) jm_C_foresee B 47 [some (.ref 0), some (.int x1), some (.int x2), some (.int x3), some (.int x4)] [] s := by
  refine q_iload (pc' := 49) ja_C_foresee_47 rfl rfl ?_
  refine q_aload_n (pc' := 50) ja_C_foresee_49 rfl rfl ?_
  refine q_getf (pc' := 53) (v := .ref 65) ja_C_foresee_50 rfl (by decide) ⟨rfl, by decide⟩ rfl ?_
  refine q_getf (pc' := 56) (v := .ref 66) ja_C_foresee_53 rfl (by decide) ⟨rfl, by decide⟩ rfl ?_
  refine q_getf (pc' := 59) (v := .int (s 66 0)) ja_C_foresee_56 rfl (by decide) ⟨rfl, by decide⟩ rfl ?_
  refine q_ic_ge (pc' := 62) ja_C_foresee_59 rfl ?_ ?_
  · intro h1
    refine q_aload_n (pc' := 84) ja_C_foresee_83 rfl rfl ?_
    refine q_getf (pc' := 87) (v := .ref 65) ja_C_foresee_84 rfl (by decide) ⟨rfl, by decide⟩ rfl ?_
    refine q_aload_n (pc' := 88) ja_C_foresee_87 rfl rfl ?_
    refine q_getf (pc' := 91) (v := .ref 1) ja_C_foresee_88 rfl (by decide) ⟨rfl, by decide⟩ rfl ?_
    refine q_iload_n (pc' := 92) ja_C_foresee_91 rfl rfl ?_
    refine q_aald (pc' := 93) (v := .ref (2 + 2 * x2.toNatClampNeg)) ja_C_foresee_92 rfl (by decide) (kd := 16) (l := 15) rfl (by decide) (k1 h1) (f_A1 (f_in (k1 h1))) ?_
    refine q_virt (pc' := 96) (c := 65) (as := [.ref (2 + 2 * x2.toNatClampNeg)]) (r := []) ja_C_foresee_93 rfl rfl rfl (by decide) ⟨rfl, by decide⟩ ?_
    exact (k2 h1)
  · intro h2
    refine q_aload_n (pc' := 63) ja_C_foresee_62 rfl rfl ?_
    refine q_iload (pc' := 65) ja_C_foresee_63 rfl rfl ?_
    refine q_iload_n (pc' := 66) ja_C_foresee_65 rfl rfl ?_
    refine q_bipush (pc' := 68) ja_C_foresee_66 rfl 6 (by decide) ?_
    refine q_irem (pc' := 69) ja_C_foresee_68 rfl (by decide) ?_
    refine q_virt (pc' := 72) (c := 0) (as := [.int x4, .int (x3 - x3 / 6 * 6)]) (r := []) ja_C_foresee_69 rfl rfl rfl (by decide) ⟨rfl, by decide⟩ ?_
    exact (k3 h2)
theorem t2_C_foresee_72 {G : jv_X} {d : Nat} {B : Option Value → jg_H → Prop} {s : jg_H} (x1 : Int32) (x2 : Int32) (x3 : Int32) (x4 : Int32)
    (k1 : q_W G (d + 1) jm_C_foresee B 47 [some (.ref 0), some (.int x1), some (.int x2), some (.int (x3 / 6)), some (.int (x4 + 1))] [] s) :
    q_W G (d + 1) jm_C_foresee B 72 [some (.ref 0), some (.int x1), some (.int x2), some (.int x3), some (.int x4)] [] s := by
  refine q_iload_n (pc' := 73) ja_C_foresee_72 rfl rfl ?_
  refine q_bipush (pc' := 75) ja_C_foresee_73 rfl 6 (by decide) ?_
  refine q_idiv (pc' := 76) ja_C_foresee_75 rfl (by decide) ?_
  refine q_istore_n (pc' := 77) (ls' := [some (.ref 0), some (.int x1), some (.int x2), some (.int (x3 / 6)), some (.int x4)]) ja_C_foresee_76 rfl ⟨Nat.le_of_ble_eq_true rfl, rfl⟩ rfl ?_
  refine q_iinc (pc' := 80) (ls' := [some (.ref 0), some (.int x1), some (.int x2), some (.int (x3 / 6)), some (.int (x4 + 1))]) ja_C_foresee_77 rfl rfl (x4 + 1) rfl ⟨Nat.le_of_ble_eq_true rfl, rfl⟩ rfl ?_
  refine q_goto ja_C_foresee_80 ?_
  exact k1
theorem t2_C_foresee_96 {G : jv_X} {d : Nat} {B : Option Value → jg_H → Prop} {s : jg_H} (x1 : Int32) (x2 : Int32) (x3 : Int32) (x4 : Int32) (y0 : Int32)
    (k1 : B (some (.long (y0).toInt64)) s) :
    q_W G (d + 1) jm_C_foresee B 96 [some (.ref 0), some (.int x1), some (.int x2), some (.int x3), some (.int x4)] [.int y0] s := by
  refine q_i2l (pc' := 97) ja_C_foresee_96 rfl ?_
  exact q_lret ja_C_foresee_97 rfl k1
theorem t2_C_best {G : jv_X} {d : Nat} {B : Option Value → jg_H → Prop} {s : jg_H} (a1 : Int32)
    (k1 : a1 < 0 → B (some (.int (-2))) s)
    (k2 : ¬ a1 < 0 → ¬ a1 < (s 0 1) → B (some (.int (-2))) s)
    (k3 : ¬ a1 < 0 → a1 < (s 0 1) → ¬ a1 < 15 → B (some (.int (-2))) s)
    (k4 : ¬ a1 < 0 → a1 < (s 0 1) → a1 < 15 → ¬ (s 0 6) = (-1) → q_P G (d + 1) 84 [.ref 0] s (fun v t => q_W G (d + 1) jm_C_best B 30 [some (.ref 0), some (.int a1)] (v.toList ++ [.ref 65]) t))
    (k5 : ¬ a1 < 0 → a1 < (s 0 1) → a1 < 15 → (s 0 6) = (-1) → B (some (.int (-3))) s) :
    q_P G (d + 2) 114 [.ref 0, .int a1] s B := by
  refine q_in (M := jm_C_best) rfl (Nat.le_of_ble_eq_true rfl) (ls := [some (.ref 0), some (.int a1)]) rfl ?_
  refine q_aload_n (pc' := 1) ja_C_best_0 rfl rfl ?_
  refine q_iload_n (pc' := 2) ja_C_best_1 rfl rfl ?_
  refine q_virt (pc' := 5) (c := 0) (as := [.int a1]) (r := []) ja_C_best_2 rfl rfl rfl (by decide) ⟨rfl, by decide⟩ ?_
  refine q_in (M := jm_C_isMember) rfl (Nat.le_of_ble_eq_true rfl) (ls := [some (.ref 0), some (.int a1)]) rfl ?_
  refine q_iload_n (pc' := 1) ja_C_isMember_0 rfl rfl ?_
  refine q_if_lt (pc' := 4) ja_C_isMember_1 rfl ?_ ?_
  · intro h1
    refine q_iconst (pc' := 26) ja_C_isMember_25 rfl 0 (by decide) ?_
    refine q_iret ja_C_isMember_26 rfl (by decide) ?_
    show q_W _ _ _ _ 5 [some (.ref 0), some (.int a1)] [.int 0] s
    refine q_if_ne (pc' := 8) ja_C_best_5 rfl (fun h => absurd ((by decide : (0 : Int32) = 0)) h) (fun _ => ?_)
    refine q_bipush (pc' := 10) ja_C_best_8 rfl (-2) (by decide) ?_
    exact q_iret ja_C_best_10 rfl rfl (k1 h1)
  · intro h2
    refine q_iload_n (pc' := 5) ja_C_isMember_4 rfl rfl ?_
    refine q_aload_n (pc' := 6) ja_C_isMember_5 rfl rfl ?_
    refine q_getf (pc' := 9) (v := .int (s 0 1)) ja_C_isMember_6 rfl (by decide) ⟨rfl, by decide⟩ rfl ?_
    refine q_ic_ge (pc' := 12) ja_C_isMember_9 rfl ?_ ?_
    · intro h3
      refine q_iconst (pc' := 26) ja_C_isMember_25 rfl 0 (by decide) ?_
      refine q_iret ja_C_isMember_26 rfl (by decide) ?_
      show q_W _ _ _ _ 5 [some (.ref 0), some (.int a1)] [.int 0] s
      refine q_if_ne (pc' := 8) ja_C_best_5 rfl (fun h => absurd ((by decide : (0 : Int32) = 0)) h) (fun _ => ?_)
      refine q_bipush (pc' := 10) ja_C_best_8 rfl (-2) (by decide) ?_
      exact q_iret ja_C_best_10 rfl rfl (k2 h2 h3)
    · intro h4
      refine q_iload_n (pc' := 13) ja_C_isMember_12 rfl rfl ?_
      refine q_aload_n (pc' := 14) ja_C_isMember_13 rfl rfl ?_
      refine q_getf (pc' := 17) (v := .ref 1) ja_C_isMember_14 rfl (by decide) ⟨rfl, by decide⟩ rfl ?_
      refine q_alen (pc' := 18) ja_C_isMember_17 rfl (by decide) (kd := 16) (l := 15) rfl (by decide) (v := 15) (by decide) ?_
      refine q_ic_ge (pc' := 21) ja_C_isMember_18 rfl ?_ ?_
      · intro h5
        refine q_iconst (pc' := 26) ja_C_isMember_25 rfl 0 (by decide) ?_
        refine q_iret ja_C_isMember_26 rfl (by decide) ?_
        show q_W _ _ _ _ 5 [some (.ref 0), some (.int a1)] [.int 0] s
        refine q_if_ne (pc' := 8) ja_C_best_5 rfl (fun h => absurd ((by decide : (0 : Int32) = 0)) h) (fun _ => ?_)
        refine q_bipush (pc' := 10) ja_C_best_8 rfl (-2) (by decide) ?_
        exact q_iret ja_C_best_10 rfl rfl (k3 h2 h4 h5)
      · intro h6
        refine q_iconst (pc' := 22) ja_C_isMember_21 rfl 1 (by decide) ?_
        refine q_goto ja_C_isMember_22 ?_
        refine q_iret ja_C_isMember_26 rfl (by decide) ?_
        show q_W _ _ _ _ 5 [some (.ref 0), some (.int a1)] [.int 1] s
        refine q_if_ne (pc' := 8) ja_C_best_5 rfl (fun _ => ?_) (fun h => absurd h ((by decide : ¬ (1 : Int32) = 0)))
        refine q_aload_n (pc' := 12) ja_C_best_11 rfl rfl ?_
        refine q_getf (pc' := 15) (v := .int (s 0 6)) ja_C_best_12 rfl (by decide) ⟨rfl, by decide⟩ rfl ?_
        refine q_iconst (pc' := 16) ja_C_best_15 rfl (-1) (by decide) ?_
        refine q_ic_ne (pc' := 19) ja_C_best_16 rfl ?_ ?_
        · intro h7
          refine q_aload_n (pc' := 23) ja_C_best_22 rfl rfl ?_
          refine q_getf (pc' := 26) (v := .ref 65) ja_C_best_23 rfl (by decide) ⟨rfl, by decide⟩ rfl ?_
          refine q_aload_n (pc' := 27) ja_C_best_26 rfl rfl ?_
          refine q_virt (pc' := 30) (c := 0) (as := []) (r := [.ref 65]) ja_C_best_27 rfl rfl rfl (by decide) ⟨rfl, by decide⟩ ?_
          exact (k4 h2 h4 h6 h7)
        · intro h8
          refine q_bipush (pc' := 21) ja_C_best_19 rfl (-3) (by decide) ?_
          exact q_iret ja_C_best_21 rfl rfl (k5 h2 h4 h6 h8)
theorem t2_C_best_30 {G : jv_X} {d : Nat} {B : Option Value → jg_H → Prop} {s : jg_H} (x1 : Int32) {y1 : Nat} (hy1 : f_8 y1)
    (k1 : q_P G (d + 1) 109 [.ref 65, .ref y1] s (fun v t => q_W G (d + 1) jm_C_best B 33 [some (.ref 0), some (.int x1)] (v.toList ++ []) t)) :
    q_W G (d + 1) jm_C_best B 30 [some (.ref 0), some (.int x1)] [.ref y1, .ref 65] s := by
  refine q_virt (pc' := 33) (c := 65) (as := [.ref y1]) (r := []) ja_C_best_30 rfl rfl rfl (by decide) ⟨rfl, by decide⟩ ?_
  exact k1
theorem t2_C_best_33 {G : jv_X} {d : Nat} {B : Option Value → jg_H → Prop} {s : jg_H} (x1 : Int32)
    (k1 : jv_in x1 15 = true)
    (k2 : q_P G (d + 1) 115 [.ref 0, .ref (2 + 2 * x1.toNatClampNeg), .int 0, .int 0, .int 0, .int 1] s (fun v t => q_W G (d + 1) jm_C_best B 47 [some (.ref 0), some (.int x1)] (v.toList ++ []) t)) :
    q_W G (d + 1) jm_C_best B 33 [some (.ref 0), some (.int x1)] [] s := by
  refine q_aload_n (pc' := 34) ja_C_best_33 rfl rfl ?_
  refine q_aload_n (pc' := 35) ja_C_best_34 rfl rfl ?_
  refine q_getf (pc' := 38) (v := .ref 1) ja_C_best_35 rfl (by decide) ⟨rfl, by decide⟩ rfl ?_
  refine q_iload_n (pc' := 39) ja_C_best_38 rfl rfl ?_
  refine q_aald (pc' := 40) (v := .ref (2 + 2 * x1.toNatClampNeg)) ja_C_best_39 rfl (by decide) (kd := 16) (l := 15) rfl (by decide) k1 (f_A1 (f_in k1)) ?_
  refine q_iconst (pc' := 41) ja_C_best_40 rfl 0 (by decide) ?_
  refine q_iconst (pc' := 42) ja_C_best_41 rfl 0 (by decide) ?_
  refine q_iconst (pc' := 43) ja_C_best_42 rfl 0 (by decide) ?_
  refine q_iconst (pc' := 44) ja_C_best_43 rfl 1 (by decide) ?_
  refine q_stat (pc' := 47) (as := [.ref 0, .ref (2 + 2 * x1.toNatClampNeg), .int 0, .int 0, .int 0, .int 1]) (r := []) ja_C_best_44 rfl (by decide) rfl rfl ?_
  exact k2
theorem t2_C_best_47 {G : jv_X} {d : Nat} {B : Option Value → jg_H → Prop} {s : jg_H} (x1 : Int32)
    (k1 : B (some (.int (s 65 4))) s) :
    q_W G (d + 1) jm_C_best B 47 [some (.ref 0), some (.int x1)] [] s := by
  refine q_aload_n (pc' := 48) ja_C_best_47 rfl rfl ?_
  refine q_getf (pc' := 51) (v := .ref 65) ja_C_best_48 rfl (by decide) ⟨rfl, by decide⟩ rfl ?_
  refine q_getf (pc' := 54) (v := .int (s 65 4)) ja_C_best_51 rfl (by decide) ⟨rfl, by decide⟩ rfl ?_
  exact q_iret ja_C_best_54 rfl rfl k1
theorem t2_C_foreseeOne {G : jv_X} {d : Nat} {B : Option Value → jg_H → Prop} {s : jg_H} (a1 : Int32) (a2 : Int32)
    (k1 : a2 < 0 → B none s)
    (k2 : ¬ a2 < 0 → ¬ a2 < (s 66 0) → B none s)
    (k3 : ¬ a2 < 0 → a2 < (s 66 0) → ¬ a2 < (s 66 1) → B none s)
    (k4 : ¬ a2 < 0 → a2 < (s 66 0) → a2 < (s 66 1) → q_P G (d + 1) 112 [.ref 65, .int a1] s (fun v t => q_W G (d + 1) jm_C_foreseeOne B 22 [some (.ref 0), some (.int a1), some (.int a2), none, none, none, none, none] (v.toList ++ []) t)) :
    q_P G (d + 2) 111 [.ref 0, .int a1, .int a2] s B := by
  refine q_in (M := jm_C_foreseeOne) rfl (Nat.le_of_ble_eq_true rfl) (ls := [some (.ref 0), some (.int a1), some (.int a2), none, none, none, none, none]) rfl ?_
  refine q_aload_n (pc' := 1) ja_C_foreseeOne_0 rfl rfl ?_
  refine q_getf (pc' := 4) (v := .ref 65) ja_C_foreseeOne_1 rfl (by decide) ⟨rfl, by decide⟩ rfl ?_
  refine q_getf (pc' := 7) (v := .ref 66) ja_C_foreseeOne_4 rfl (by decide) ⟨rfl, by decide⟩ rfl ?_
  refine q_iload_n (pc' := 8) ja_C_foreseeOne_7 rfl rfl ?_
  refine q_virt (pc' := 11) (c := 66) (as := [.int a2]) (r := []) ja_C_foreseeOne_8 rfl rfl rfl (by decide) ⟨rfl, by decide⟩ ?_
  refine q_in (M := jm_Motions_has) rfl (Nat.le_of_ble_eq_true rfl) (ls := [some (.ref 66), some (.int a2)]) rfl ?_
  refine q_iload_n (pc' := 1) ja_Motions_has_0 rfl rfl ?_
  refine q_if_lt (pc' := 4) ja_Motions_has_1 rfl ?_ ?_
  · intro h1
    refine q_iconst (pc' := 25) ja_Motions_has_24 rfl 0 (by decide) ?_
    refine q_iret ja_Motions_has_25 rfl (by decide) ?_
    show q_W _ _ _ _ 11 [some (.ref 0), some (.int a1), some (.int a2), none, none, none, none, none] [.int 0] s
    refine q_if_eq (pc' := 14) ja_C_foreseeOne_11 rfl (fun _ => ?_) (fun h => absurd ((by decide : (0 : Int32) = 0)) h)
    exact q_vret ja_C_foreseeOne_25 rfl (k1 h1)
  · intro h2
    refine q_iload_n (pc' := 5) ja_Motions_has_4 rfl rfl ?_
    refine q_aload_n (pc' := 6) ja_Motions_has_5 rfl rfl ?_
    refine q_getf (pc' := 9) (v := .int (s 66 0)) ja_Motions_has_6 rfl (by decide) ⟨rfl, by decide⟩ rfl ?_
    refine q_ic_ge (pc' := 12) ja_Motions_has_9 rfl ?_ ?_
    · intro h3
      refine q_iconst (pc' := 25) ja_Motions_has_24 rfl 0 (by decide) ?_
      refine q_iret ja_Motions_has_25 rfl (by decide) ?_
      show q_W _ _ _ _ 11 [some (.ref 0), some (.int a1), some (.int a2), none, none, none, none, none] [.int 0] s
      refine q_if_eq (pc' := 14) ja_C_foreseeOne_11 rfl (fun _ => ?_) (fun h => absurd ((by decide : (0 : Int32) = 0)) h)
      exact q_vret ja_C_foreseeOne_25 rfl (k2 h2 h3)
    · intro h4
      refine q_iload_n (pc' := 13) ja_Motions_has_12 rfl rfl ?_
      refine q_aload_n (pc' := 14) ja_Motions_has_13 rfl rfl ?_
      refine q_getf (pc' := 17) (v := .int (s 66 1)) ja_Motions_has_14 rfl (by decide) ⟨rfl, by decide⟩ rfl ?_
      refine q_ic_ge (pc' := 20) ja_Motions_has_17 rfl ?_ ?_
      · intro h5
        refine q_iconst (pc' := 25) ja_Motions_has_24 rfl 0 (by decide) ?_
        refine q_iret ja_Motions_has_25 rfl (by decide) ?_
        show q_W _ _ _ _ 11 [some (.ref 0), some (.int a1), some (.int a2), none, none, none, none, none] [.int 0] s
        refine q_if_eq (pc' := 14) ja_C_foreseeOne_11 rfl (fun _ => ?_) (fun h => absurd ((by decide : (0 : Int32) = 0)) h)
        exact q_vret ja_C_foreseeOne_25 rfl (k3 h2 h4 h5)
      · intro h6
        refine q_iconst (pc' := 21) ja_Motions_has_20 rfl 1 (by decide) ?_
        refine q_goto ja_Motions_has_21 ?_
        refine q_iret ja_Motions_has_25 rfl (by decide) ?_
        show q_W _ _ _ _ 11 [some (.ref 0), some (.int a1), some (.int a2), none, none, none, none, none] [.int 1] s
        refine q_if_eq (pc' := 14) ja_C_foreseeOne_11 rfl (fun h => absurd h ((by decide : ¬ (1 : Int32) = 0))) (fun _ => ?_)
        refine q_aload_n (pc' := 15) ja_C_foreseeOne_14 rfl rfl ?_
        refine q_getf (pc' := 18) (v := .ref 65) ja_C_foreseeOne_15 rfl (by decide) ⟨rfl, by decide⟩ rfl ?_
        refine q_iload_n (pc' := 19) ja_C_foreseeOne_18 rfl rfl ?_
        refine q_virt (pc' := 22) (c := 65) (as := [.int a1]) (r := []) ja_C_foreseeOne_19 rfl rfl rfl (by decide) ⟨rfl, by decide⟩ ?_
        exact (k4 h2 h4 h6)
theorem t2_C_foreseeOne_22 {G : jv_X} {d : Nat} {B : Option Value → jg_H → Prop} {s : jg_H} (x1 : Int32) (x2 : Int32) (y0 : Int32)
    (k1 : ¬ y0 = 0 → jv_in (x1 + 1) 6 = true)
    (k2 : ¬ y0 = 0 → jv_in (x1 + 1) 6 = true)
    (k3 : ¬ y0 = 0 → jv_in x2 5 = true)
    (k4 : ¬ y0 = 0 → jv_in x2 5 = true)
    (k5 : ¬ y0 = 0 → q_P G (d + 1) 55 [.ref (80 + 2 * (x1 + 1).toNatClampNeg), .int (s 67 x2.toNatClampNeg), .int (s (73 + (x1 + 1).toNatClampNeg) x2.toNatClampNeg)] s (fun v t => q_W G (d + 1) jm_C_foreseeOne B 79 [some (.ref 0), some (.int x1), some (.int x2), some (.ref (80 + 2 * (x1 + 1).toNatClampNeg)), some (.ref (73 + (x1 + 1).toNatClampNeg)), some (.int (s 67 x2.toNatClampNeg)), some (.int (s (73 + (x1 + 1).toNatClampNeg) x2.toNatClampNeg)), none] (v.toList ++ []) t))
    (k6 : y0 = 0 → B none s) :
    q_W G (d + 1) jm_C_foreseeOne B 22 [some (.ref 0), some (.int x1), some (.int x2), none, none, none, none, none] [.int y0] s := by
  refine q_if_ne (pc' := 25) ja_C_foreseeOne_22 rfl ?_ ?_
  · intro h1
    refine q_aload_n (pc' := 27) ja_C_foreseeOne_26 rfl rfl ?_
    refine q_getf (pc' := 30) (v := .ref 65) ja_C_foreseeOne_27 rfl (by decide) ⟨rfl, by decide⟩ rfl ?_
    refine q_getf (pc' := 33) (v := .ref 71) ja_C_foreseeOne_30 rfl (by decide) ⟨rfl, by decide⟩ rfl ?_
    refine q_iload_n (pc' := 34) ja_C_foreseeOne_33 rfl rfl ?_
    refine q_iconst (pc' := 35) ja_C_foreseeOne_34 rfl 1 (by decide) ?_
    refine q_iadd (pc' := 36) ja_C_foreseeOne_35 rfl ?_
    refine q_aald (pc' := 37) (v := .ref (80 + 2 * (x1 + 1).toNatClampNeg)) ja_C_foreseeOne_36 rfl (by decide) (kd := 18) (l := 6) rfl (by decide) (k1 h1) (f_A71 (f_in (k1 h1))) ?_
    refine q_astore_n (pc' := 38) (ls' := [some (.ref 0), some (.int x1), some (.int x2), some (.ref (80 + 2 * (x1 + 1).toNatClampNeg)), none, none, none, none]) ja_C_foreseeOne_37 rfl ⟨Nat.le_of_ble_eq_true rfl, rfl⟩ rfl ?_
    refine q_aload_n (pc' := 39) ja_C_foreseeOne_38 rfl rfl ?_
    refine q_getf (pc' := 42) (v := .ref 65) ja_C_foreseeOne_39 rfl (by decide) ⟨rfl, by decide⟩ rfl ?_
    refine q_getf (pc' := 45) (v := .ref 72) ja_C_foreseeOne_42 rfl (by decide) ⟨rfl, by decide⟩ rfl ?_
    refine q_iload_n (pc' := 46) ja_C_foreseeOne_45 rfl rfl ?_
    refine q_iconst (pc' := 47) ja_C_foreseeOne_46 rfl 1 (by decide) ?_
    refine q_iadd (pc' := 48) ja_C_foreseeOne_47 rfl ?_
    refine q_aald (pc' := 49) (v := .ref (73 + (x1 + 1).toNatClampNeg)) ja_C_foreseeOne_48 rfl (by decide) (kd := 15) (l := 6) rfl (by decide) (k2 h1) (f_A72 (f_in (k2 h1))) ?_
    refine q_astore (pc' := 51) (ls' := [some (.ref 0), some (.int x1), some (.int x2), some (.ref (80 + 2 * (x1 + 1).toNatClampNeg)), some (.ref (73 + (x1 + 1).toNatClampNeg)), none, none, none]) ja_C_foreseeOne_49 rfl ⟨Nat.le_of_ble_eq_true rfl, rfl⟩ rfl ?_
    refine q_aload_n (pc' := 52) ja_C_foreseeOne_51 rfl rfl ?_
    refine q_getf (pc' := 55) (v := .ref 65) ja_C_foreseeOne_52 rfl (by decide) ⟨rfl, by decide⟩ rfl ?_
    refine q_getf (pc' := 58) (v := .ref 66) ja_C_foreseeOne_55 rfl (by decide) ⟨rfl, by decide⟩ rfl ?_
    refine q_getf (pc' := 61) (v := .ref 67) ja_C_foreseeOne_58 rfl (by decide) ⟨rfl, by decide⟩ rfl ?_
    refine q_iload_n (pc' := 62) ja_C_foreseeOne_61 rfl rfl ?_
    refine q_iald (pc' := 63) (v := .int (s 67 x2.toNatClampNeg)) ja_C_foreseeOne_62 rfl (by decide) (l := 5) rfl (k3 h1) rfl ?_
    refine q_istore (pc' := 65) (ls' := [some (.ref 0), some (.int x1), some (.int x2), some (.ref (80 + 2 * (x1 + 1).toNatClampNeg)), some (.ref (73 + (x1 + 1).toNatClampNeg)), some (.int (s 67 x2.toNatClampNeg)), none, none]) ja_C_foreseeOne_63 rfl ⟨Nat.le_of_ble_eq_true rfl, rfl⟩ rfl ?_
    refine q_aload (pc' := 67) ja_C_foreseeOne_65 rfl rfl ?_
    refine q_iload_n (pc' := 68) ja_C_foreseeOne_67 rfl rfl ?_
    refine q_iald (pc' := 69) (v := .int (s (73 + (x1 + 1).toNatClampNeg) x2.toNatClampNeg)) ja_C_foreseeOne_68 rfl (f_a_c (f_m72 (f_in (k2 h1)))) (l := 5) (f_a_k (f_m72 (f_in (k2 h1)))) (k4 h1) (f_i (f_a_k (f_m72 (f_in (k2 h1)))) rfl) ?_
    refine q_istore (pc' := 71) (ls' := [some (.ref 0), some (.int x1), some (.int x2), some (.ref (80 + 2 * (x1 + 1).toNatClampNeg)), some (.ref (73 + (x1 + 1).toNatClampNeg)), some (.int (s 67 x2.toNatClampNeg)), some (.int (s (73 + (x1 + 1).toNatClampNeg) x2.toNatClampNeg)), none]) ja_C_foreseeOne_69 rfl ⟨Nat.le_of_ble_eq_true rfl, rfl⟩ rfl ?_
    refine q_aload_n (pc' := 72) ja_C_foreseeOne_71 rfl rfl ?_
    refine q_iload (pc' := 74) ja_C_foreseeOne_72 rfl rfl ?_
    refine q_iload (pc' := 76) ja_C_foreseeOne_74 rfl rfl ?_
    refine q_virt (pc' := 79) (c := (80 + 2 * (x1 + 1).toNatClampNeg)) (as := [.int (s 67 x2.toNatClampNeg), .int (s (73 + (x1 + 1).toNatClampNeg) x2.toNatClampNeg)]) (r := []) ja_C_foreseeOne_76 rfl rfl rfl (f_8_c (f_m71 (f_in (k1 h1)))) ⟨by rw [f_8_k (f_m71 (f_in (k1 h1)))], by decide⟩ ?_
    exact (k5 h1)
  · intro h2
    exact q_vret ja_C_foreseeOne_25 rfl (k6 h2)
theorem t2_C_foreseeOne_79 {G : jv_X} {d : Nat} {B : Option Value → jg_H → Prop} {s : jg_H} (x1 : Int32) (x2 : Int32) {x3 : Nat} (hx3 : f_8 x3) {x4 : Nat} (hx4 : f_a x4 5) (x5 : Int32) (x6 : Int32) (y0 : Int32)
    (k1 : ¬ y0 = 0 → q_P G (d + 1) 93 [.ref 0, .ref 79, .ref x3, .ref 66, .int x2, .int x6] s (fun v t => q_W G (d + 1) jm_C_foreseeOne B 109 [some (.ref 0), some (.int x1), some (.int x2), some (.ref x3), some (.ref x4), some (.int x5), some (.int x6), some (.ref 79)] (v.toList ++ []) t))
    (k2 : y0 = 0 → B none s) :
    q_W G (d + 1) jm_C_foreseeOne B 79 [some (.ref 0), some (.int x1), some (.int x2), some (.ref x3), some (.ref x4), some (.int x5), some (.int x6), none] [.int y0] s := by
  refine q_if_ne (pc' := 82) ja_C_foreseeOne_79 rfl ?_ ?_
  · intro h1
    refine q_aload_n (pc' := 84) ja_C_foreseeOne_83 rfl rfl ?_
    refine q_getf (pc' := 87) (v := .ref 65) ja_C_foreseeOne_84 rfl (by decide) ⟨rfl, by decide⟩ rfl ?_
    refine q_getf (pc' := 90) (v := .ref 79) ja_C_foreseeOne_87 rfl (by decide) ⟨rfl, by decide⟩ rfl ?_
    refine q_astore (pc' := 92) (ls' := [some (.ref 0), some (.int x1), some (.int x2), some (.ref x3), some (.ref x4), some (.int x5), some (.int x6), some (.ref 79)]) ja_C_foreseeOne_90 rfl ⟨Nat.le_of_ble_eq_true rfl, rfl⟩ rfl ?_
    refine q_aload_n (pc' := 93) ja_C_foreseeOne_92 rfl rfl ?_
    refine q_aload (pc' := 95) ja_C_foreseeOne_93 rfl rfl ?_
    refine q_aload_n (pc' := 96) ja_C_foreseeOne_95 rfl rfl ?_
    refine q_aload_n (pc' := 97) ja_C_foreseeOne_96 rfl rfl ?_
    refine q_getf (pc' := 100) (v := .ref 65) ja_C_foreseeOne_97 rfl (by decide) ⟨rfl, by decide⟩ rfl ?_
    refine q_getf (pc' := 103) (v := .ref 66) ja_C_foreseeOne_100 rfl (by decide) ⟨rfl, by decide⟩ rfl ?_
    refine q_iload_n (pc' := 104) ja_C_foreseeOne_103 rfl rfl ?_
    refine q_iload (pc' := 106) ja_C_foreseeOne_104 rfl rfl ?_
    refine q_virt (pc' := 109) (c := 0) (as := [.ref 79, .ref x3, .ref 66, .int x2, .int x6]) (r := []) ja_C_foreseeOne_106 rfl rfl rfl (by decide) ⟨rfl, by decide⟩ ?_
    exact (k1 h1)
  · intro h2
    exact q_vret ja_C_foreseeOne_82 rfl (k2 h2)
theorem t2_C_foreseeOne_109 {G : jv_X} {d : Nat} {B : Option Value → jg_H → Prop} {s : jg_H} (x1 : Int32) (x2 : Int32) {x3 : Nat} (hx3 : f_8 x3) {x4 : Nat} (hx4 : f_a x4 5) (x5 : Int32) (x6 : Int32)
    (k1 : ∀ s1 : jg_H, s1 = jg_up s 120 0 x5 → ∀ s2 : jg_H, s2 = jg_up s1 120 1 0 → ∀ s3 : jg_H, s3 = jg_up s2 120 3 0 → ∀ s4 : jg_H, s4 = jg_up s3 120 6 (s 79 0) → ∀ s5 : jg_H, s5 = jg_up s4 120 7 (s 79 1) → q_P G (d + 1) 75 [.ref 0, .int (s5 0 12), .int 2] s5 (fun v t => q_W G (d + 1) jm_C_foreseeOne B 139 [some (.ref 0), some (.int x1), some (.int x2), some (.ref x3), some (.ref x4), some (.int x5), some (.int x6), some (.ref 79)] (v.toList ++ []) t)) :
    q_W G (d + 1) jm_C_foreseeOne B 109 [some (.ref 0), some (.int x1), some (.int x2), some (.ref x3), some (.ref x4), some (.int x5), some (.int x6), some (.ref 79)] [] s := by
  refine q_aload_n (pc' := 110) ja_C_foreseeOne_109 rfl rfl ?_
  refine q_getf (pc' := 113) (v := .ref 119) ja_C_foreseeOne_110 rfl (by decide) ⟨rfl, by decide⟩ rfl ?_
  refine q_iload (pc' := 115) ja_C_foreseeOne_113 rfl rfl ?_
  refine q_iconst (pc' := 116) ja_C_foreseeOne_115 rfl 0 (by decide) ?_
  refine q_iconst (pc' := 117) ja_C_foreseeOne_116 rfl 0 (by decide) ?_
  refine q_aload (pc' := 119) ja_C_foreseeOne_117 rfl rfl ?_
  refine q_getf (pc' := 122) (v := .int (s 79 0)) ja_C_foreseeOne_119 rfl (by decide) ⟨rfl, by decide⟩ rfl ?_
  refine q_aload (pc' := 124) ja_C_foreseeOne_122 rfl rfl ?_
  refine q_getf (pc' := 127) (v := .int (s 79 1)) ja_C_foreseeOne_124 rfl (by decide) ⟨rfl, by decide⟩ rfl ?_
  refine q_virt (pc' := 130) (c := 119) (as := [.int x5, .int 0, .int 0, .int (s 79 0), .int (s 79 1)]) (r := []) ja_C_foreseeOne_127 rfl rfl rfl (by decide) ⟨rfl, by decide⟩ ?_
  refine q_in (M := jm_Machine_sets) rfl (Nat.le_of_ble_eq_true rfl) (ls := [some (.ref 119), some (.int x5), some (.int 0), some (.int 0), some (.int (s 79 0)), some (.int (s 79 1))]) rfl ?_
  refine q_aload_n (pc' := 1) ja_Machine_sets_0 rfl rfl ?_
  refine q_getf (pc' := 4) (v := .ref 120) ja_Machine_sets_1 rfl (by decide) ⟨rfl, by decide⟩ rfl ?_
  refine q_iconst (pc' := 5) ja_Machine_sets_4 rfl 0 (by decide) ?_
  refine q_iload_n (pc' := 6) ja_Machine_sets_5 rfl rfl ?_
  refine q_iast (pc' := 7) ja_Machine_sets_6 rfl (by decide) (l := 8) rfl (by decide) ?_
  intro s1 e1
  refine q_aload_n (pc' := 8) ja_Machine_sets_7 rfl rfl ?_
  refine q_getf (pc' := 11) (v := .ref 120) ja_Machine_sets_8 rfl (by decide) ⟨rfl, by decide⟩ rfl ?_
  refine q_iconst (pc' := 12) ja_Machine_sets_11 rfl 1 (by decide) ?_
  refine q_iload_n (pc' := 13) ja_Machine_sets_12 rfl rfl ?_
  refine q_iast (pc' := 14) ja_Machine_sets_13 rfl (by decide) (l := 8) rfl (by decide) ?_
  intro s2 e2
  refine q_aload_n (pc' := 15) ja_Machine_sets_14 rfl rfl ?_
  refine q_getf (pc' := 18) (v := .ref 120) ja_Machine_sets_15 rfl (by decide) ⟨rfl, by decide⟩ rfl ?_
  refine q_iconst (pc' := 19) ja_Machine_sets_18 rfl 3 (by decide) ?_
  refine q_iload_n (pc' := 20) ja_Machine_sets_19 rfl rfl ?_
  refine q_iast (pc' := 21) ja_Machine_sets_20 rfl (by decide) (l := 8) rfl (by decide) ?_
  intro s3 e3
  refine q_aload_n (pc' := 22) ja_Machine_sets_21 rfl rfl ?_
  refine q_getf (pc' := 25) (v := .ref 120) ja_Machine_sets_22 rfl (by decide) ⟨rfl, by decide⟩ rfl ?_
  refine q_bipush (pc' := 27) ja_Machine_sets_25 rfl 6 (by decide) ?_
  refine q_iload (pc' := 29) ja_Machine_sets_27 rfl rfl ?_
  refine q_iast (pc' := 30) ja_Machine_sets_29 rfl (by decide) (l := 8) rfl (by decide) ?_
  intro s4 e4
  refine q_aload_n (pc' := 31) ja_Machine_sets_30 rfl rfl ?_
  refine q_getf (pc' := 34) (v := .ref 120) ja_Machine_sets_31 rfl (by decide) ⟨rfl, by decide⟩ rfl ?_
  refine q_bipush (pc' := 36) ja_Machine_sets_34 rfl 7 (by decide) ?_
  refine q_iload (pc' := 38) ja_Machine_sets_36 rfl rfl ?_
  refine q_iast (pc' := 39) ja_Machine_sets_38 rfl (by decide) (l := 8) rfl (by decide) ?_
  intro s5 e5
  refine q_vret ja_Machine_sets_39 rfl ?_
  show q_W _ _ _ _ 130 [some (.ref 0), some (.int x1), some (.int x2), some (.ref x3), some (.ref x4), some (.int x5), some (.int x6), some (.ref 79)] [] s5
  refine q_aload_n (pc' := 131) ja_C_foreseeOne_130 rfl rfl ?_
  refine q_aload_n (pc' := 132) ja_C_foreseeOne_131 rfl rfl ?_
  refine q_getf (pc' := 135) (v := .int (s5 0 12)) ja_C_foreseeOne_132 rfl (by decide) ⟨rfl, by decide⟩ rfl ?_
  refine q_iconst (pc' := 136) ja_C_foreseeOne_135 rfl 2 (by decide) ?_
  refine q_virt (pc' := 139) (c := 0) (as := [.int (s5 0 12), .int 2]) (r := []) ja_C_foreseeOne_136 rfl rfl rfl (by decide) ⟨rfl, by decide⟩ ?_
  exact (k1 s1 e1 s2 e2 s3 e3 s4 e4 s5 e5)
theorem t2_C_foreseeOne_139 {G : jv_X} {d : Nat} {B : Option Value → jg_H → Prop} {s : jg_H} (x1 : Int32) (x2 : Int32) {x3 : Nat} (hx3 : f_8 x3) {x4 : Nat} (hx4 : f_a x4 5) (x5 : Int32) (x6 : Int32) (y0 : Int32)
    (k1 : ¬ y0 = 0 → jv_in x2 5 = true)
    (k2 : ¬ y0 = 0 → q_P G (d + 1) 54 [.ref x3, .int x5, .int x6, .int (s 70 x2.toNatClampNeg)] s (fun v t => q_W G (d + 1) jm_C_foreseeOne B 163 [some (.ref 0), some (.int x1), some (.int x2), some (.ref x3), some (.ref x4), some (.int x5), some (.int x6), some (.ref 79)] (v.toList ++ []) t))
    (k3 : y0 = 0 → B none s) :
    q_W G (d + 1) jm_C_foreseeOne B 139 [some (.ref 0), some (.int x1), some (.int x2), some (.ref x3), some (.ref x4), some (.int x5), some (.int x6), some (.ref 79)] [.int y0] s := by
  refine q_if_ne (pc' := 142) ja_C_foreseeOne_139 rfl ?_ ?_
  · intro h1
    refine q_aload_n (pc' := 144) ja_C_foreseeOne_143 rfl rfl ?_
    refine q_iload (pc' := 146) ja_C_foreseeOne_144 rfl rfl ?_
    refine q_iload (pc' := 148) ja_C_foreseeOne_146 rfl rfl ?_
    refine q_aload_n (pc' := 149) ja_C_foreseeOne_148 rfl rfl ?_
    refine q_getf (pc' := 152) (v := .ref 65) ja_C_foreseeOne_149 rfl (by decide) ⟨rfl, by decide⟩ rfl ?_
    refine q_getf (pc' := 155) (v := .ref 66) ja_C_foreseeOne_152 rfl (by decide) ⟨rfl, by decide⟩ rfl ?_
    refine q_getf (pc' := 158) (v := .ref 70) ja_C_foreseeOne_155 rfl (by decide) ⟨rfl, by decide⟩ rfl ?_
    refine q_iload_n (pc' := 159) ja_C_foreseeOne_158 rfl rfl ?_
    refine q_iald (pc' := 160) (v := .int (s 70 x2.toNatClampNeg)) ja_C_foreseeOne_159 rfl (by decide) (l := 5) rfl (k1 h1) rfl ?_
    refine q_virt (pc' := 163) (c := x3) (as := [.int x5, .int x6, .int (s 70 x2.toNatClampNeg)]) (r := []) ja_C_foreseeOne_160 rfl rfl rfl (f_8_c hx3) ⟨by rw [f_8_k hx3], by decide⟩ ?_
    exact (k2 h1)
  · intro h2
    exact q_vret ja_C_foreseeOne_142 rfl (k3 h2)
theorem t2_C_foreseeOne_163 {G : jv_X} {d : Nat} {B : Option Value → jg_H → Prop} {s : jg_H} (x1 : Int32) (x2 : Int32) {x3 : Nat} (hx3 : f_8 x3) {x4 : Nat} (hx4 : f_a x4 5) (x5 : Int32) (x6 : Int32) (y0 : Int32)
    (k1 : q_P G (d + 1) 100 [.ref x4, .int (s 66 0), .int x5, .int x6] s (fun v t => q_W G (d + 1) jm_C_foreseeOne B 183 [some (.ref 0), some (.int x1), some (.int x2), some (.ref x3), some (.ref x4), some (.int x5), some (.int x6), some (.ref 79)] (v.toList ++ []) t)) :
    q_W G (d + 1) jm_C_foreseeOne B 163 [some (.ref 0), some (.int x1), some (.int x2), some (.ref x3), some (.ref x4), some (.int x5), some (.int x6), some (.ref 79)] [.int y0] s := by
  refine q_pop (pc' := 164) ja_C_foreseeOne_163 rfl rfl ?_
  refine q_aload (pc' := 166) ja_C_foreseeOne_164 rfl rfl ?_
  refine q_aload_n (pc' := 167) ja_C_foreseeOne_166 rfl rfl ?_
  refine q_getf (pc' := 170) (v := .ref 65) ja_C_foreseeOne_167 rfl (by decide) ⟨rfl, by decide⟩ rfl ?_
  refine q_getf (pc' := 173) (v := .ref 66) ja_C_foreseeOne_170 rfl (by decide) ⟨rfl, by decide⟩ rfl ?_
  refine q_getf (pc' := 176) (v := .int (s 66 0)) ja_C_foreseeOne_173 rfl (by decide) ⟨rfl, by decide⟩ rfl ?_
  refine q_iload (pc' := 178) ja_C_foreseeOne_176 rfl rfl ?_
  refine q_iload (pc' := 180) ja_C_foreseeOne_178 rfl rfl ?_
  refine q_stat (pc' := 183) (as := [.ref x4, .int (s 66 0), .int x5, .int x6]) (r := []) ja_C_foreseeOne_180 rfl (by decide) rfl rfl ?_
  exact k1
theorem t2_C_foreseeOne_183 {G : jv_X} {d : Nat} {B : Option Value → jg_H → Prop} {s : jg_H} (x1 : Int32) (x2 : Int32) {x3 : Nat} (hx3 : f_8 x3) {x4 : Nat} (hx4 : f_a x4 5) (x5 : Int32) (x6 : Int32)
    (k1 : B none s) :
    q_W G (d + 1) jm_C_foreseeOne B 183 [some (.ref 0), some (.int x1), some (.int x2), some (.ref x3), some (.ref x4), some (.int x5), some (.int x6), some (.ref 79)] [] s := by
  exact q_vret ja_C_foreseeOne_183 rfl k1
theorem t2_M_foresees {G : jv_X} {d : Nat} {B : Option Value → jg_H → Prop} {s : jg_H} (a1 : Int32)
    (k1 : q_P G d 169 [.ref 146, .int (s 146 13)] s (fun v t => q_W G d jm_M_foresees B 8 [some (.ref 146), some (.int a1), none, none, none, none, none, none] (v.toList ++ []) t)) :
    q_P G (d + 1) 208 [.ref 146, .int a1] s B := by
  refine q_in (M := jm_M_foresees) rfl (Nat.le_of_ble_eq_true rfl) (ls := [some (.ref 146), some (.int a1), none, none, none, none, none, none]) rfl ?_
  refine q_aload_n (pc' := 1) ja_M_foresees_0 rfl rfl ?_
  refine q_aload_n (pc' := 2) ja_M_foresees_1 rfl rfl ?_
  refine q_getf (pc' := 5) (v := .int (s 146 13)) ja_M_foresees_2 rfl (by decide) ⟨rfl, by decide⟩ rfl ?_
  refine q_virt (pc' := 8) (c := 146) (as := [.int (s 146 13)]) (r := []) ja_M_foresees_5 rfl rfl rfl (by decide) ⟨rfl, by decide⟩ ?_
  exact k1
theorem t2_M_foresees_8 {G : jv_X} {d : Nat} {B : Option Value → jg_H → Prop} {s : jg_H} (x1 : Int32)
    (k1 : q_W G d jm_M_foresees B 10 [some (.ref 146), some (.int x1), some (.int 0), none, none, none, none, none] [] s) :
    q_W G d jm_M_foresees B 8 [some (.ref 146), some (.int x1), none, none, none, none, none, none] [] s := by
  refine q_iconst (pc' := 9) ja_M_foresees_8 rfl 0 (by decide) ?_
  refine q_istore_n (pc' := 10) (ls' := [some (.ref 146), some (.int x1), some (.int 0), none, none, none, none, none]) ja_M_foresees_9 rfl ⟨Nat.le_of_ble_eq_true rfl, rfl⟩ rfl ?_
  exact k1
theorem t2_M_foresees_10 {G : jv_X} {d : Nat} {B : Option Value → jg_H → Prop} {s : jg_H} (x1 : Int32) (x2 : Int32) {o3 : Option Value} (ho3 : f_n o3 = true)
    (k1 : ¬ x2 < (s 146 19) → q_W G d jm_M_foresees B 103 [some (.ref 146), some (.int x1), some (.int x1), some (.int 0), none, none, none, none] [] s)
    (k2 : x2 < (s 146 19) → jv_in x2 5 = true)
    (k3 : x2 < (s 146 19) → jv_in (8 + x2) 13 = true)
    (k4 : x2 < (s 146 19) → ∀ s1 : jg_H, s1 = jg_up s 157 (8 + x2).toNatClampNeg (s 172 x2.toNatClampNeg) → jv_in x2 5 = true)
    (k5 : x2 < (s 146 19) → ∀ s1 : jg_H, s1 = jg_up s 157 (8 + x2).toNatClampNeg (s 172 x2.toNatClampNeg) → jv_in (8 + x2) 13 = true)
    (k6 : x2 < (s 146 19) → ∀ s1 : jg_H, s1 = jg_up s 157 (8 + x2).toNatClampNeg (s 172 x2.toNatClampNeg) → ∀ s2 : jg_H, s2 = jg_up s1 159 (8 + x2).toNatClampNeg (s1 173 x2.toNatClampNeg) → jv_in x2 5 = true)
    (k7 : x2 < (s 146 19) → ∀ s1 : jg_H, s1 = jg_up s 157 (8 + x2).toNatClampNeg (s 172 x2.toNatClampNeg) → ∀ s2 : jg_H, s2 = jg_up s1 159 (8 + x2).toNatClampNeg (s1 173 x2.toNatClampNeg) → jv_in (8 + x2) 13 = true)
    (k8 : x2 < (s 146 19) → ∀ s1 : jg_H, s1 = jg_up s 157 (8 + x2).toNatClampNeg (s 172 x2.toNatClampNeg) → ∀ s2 : jg_H, s2 = jg_up s1 159 (8 + x2).toNatClampNeg (s1 173 x2.toNatClampNeg) → ∀ s3 : jg_H, s3 = jg_up s2 160 (8 + x2).toNatClampNeg (s2 174 x2.toNatClampNeg) → jv_in (8 + x2) 13 = true)
    (k9 : x2 < (s 146 19) → ∀ s1 : jg_H, s1 = jg_up s 157 (8 + x2).toNatClampNeg (s 172 x2.toNatClampNeg) → ∀ s2 : jg_H, s2 = jg_up s1 159 (8 + x2).toNatClampNeg (s1 173 x2.toNatClampNeg) → ∀ s3 : jg_H, s3 = jg_up s2 160 (8 + x2).toNatClampNeg (s2 174 x2.toNatClampNeg) → ¬ (s3 157 (8 + x2).toNatClampNeg) = 2 → jv_in (8 + x2) 13 = true)
    (k10 : x2 < (s 146 19) → ∀ s1 : jg_H, s1 = jg_up s 157 (8 + x2).toNatClampNeg (s 172 x2.toNatClampNeg) → ∀ s2 : jg_H, s2 = jg_up s1 159 (8 + x2).toNatClampNeg (s1 173 x2.toNatClampNeg) → ∀ s3 : jg_H, s3 = jg_up s2 160 (8 + x2).toNatClampNeg (s2 174 x2.toNatClampNeg) → ¬ (s3 157 (8 + x2).toNatClampNeg) = 2 → ∀ s4 : jg_H, s4 = jg_up s3 161 (8 + x2).toNatClampNeg 0 → q_W G d jm_M_foresees B 10 [some (.ref 146), some (.int x1), some (.int (x2 + 1)), some (.int (8 + x2)), none, none, none, none] [] s4)
    (k11 : x2 < (s 146 19) → ∀ s1 : jg_H, s1 = jg_up s 157 (8 + x2).toNatClampNeg (s 172 x2.toNatClampNeg) → ∀ s2 : jg_H, s2 = jg_up s1 159 (8 + x2).toNatClampNeg (s1 173 x2.toNatClampNeg) → ∀ s3 : jg_H, s3 = jg_up s2 160 (8 + x2).toNatClampNeg (s2 174 x2.toNatClampNeg) → (s3 157 (8 + x2).toNatClampNeg) = 2 → jv_in (8 + x2) 13 = true)
    (k12 : x2 < (s 146 19) → ∀ s1 : jg_H, s1 = jg_up s 157 (8 + x2).toNatClampNeg (s 172 x2.toNatClampNeg) → ∀ s2 : jg_H, s2 = jg_up s1 159 (8 + x2).toNatClampNeg (s1 173 x2.toNatClampNeg) → ∀ s3 : jg_H, s3 = jg_up s2 160 (8 + x2).toNatClampNeg (s2 174 x2.toNatClampNeg) → (s3 157 (8 + x2).toNatClampNeg) = 2 → ¬ (s3 159 (8 + x2).toNatClampNeg) = (s3 146 53) → jv_in (8 + x2) 13 = true)
    (k13 : x2 < (s 146 19) → ∀ s1 : jg_H, s1 = jg_up s 157 (8 + x2).toNatClampNeg (s 172 x2.toNatClampNeg) → ∀ s2 : jg_H, s2 = jg_up s1 159 (8 + x2).toNatClampNeg (s1 173 x2.toNatClampNeg) → ∀ s3 : jg_H, s3 = jg_up s2 160 (8 + x2).toNatClampNeg (s2 174 x2.toNatClampNeg) → (s3 157 (8 + x2).toNatClampNeg) = 2 → ¬ (s3 159 (8 + x2).toNatClampNeg) = (s3 146 53) → ∀ s5 : jg_H, s5 = jg_up s3 161 (8 + x2).toNatClampNeg 0 → q_W G d jm_M_foresees B 10 [some (.ref 146), some (.int x1), some (.int (x2 + 1)), some (.int (8 + x2)), none, none, none, none] [] s5)
    (k14 : x2 < (s 146 19) → ∀ s1 : jg_H, s1 = jg_up s 157 (8 + x2).toNatClampNeg (s 172 x2.toNatClampNeg) → ∀ s2 : jg_H, s2 = jg_up s1 159 (8 + x2).toNatClampNeg (s1 173 x2.toNatClampNeg) → ∀ s3 : jg_H, s3 = jg_up s2 160 (8 + x2).toNatClampNeg (s2 174 x2.toNatClampNeg) → (s3 157 (8 + x2).toNatClampNeg) = 2 → (s3 159 (8 + x2).toNatClampNeg) = (s3 146 53) → jv_in (8 + x2) 13 = true)
    (k15 : x2 < (s 146 19) → ∀ s1 : jg_H, s1 = jg_up s 157 (8 + x2).toNatClampNeg (s 172 x2.toNatClampNeg) → ∀ s2 : jg_H, s2 = jg_up s1 159 (8 + x2).toNatClampNeg (s1 173 x2.toNatClampNeg) → ∀ s3 : jg_H, s3 = jg_up s2 160 (8 + x2).toNatClampNeg (s2 174 x2.toNatClampNeg) → (s3 157 (8 + x2).toNatClampNeg) = 2 → (s3 159 (8 + x2).toNatClampNeg) = (s3 146 53) → ∀ s6 : jg_H, s6 = jg_up s3 161 (8 + x2).toNatClampNeg 1 → q_W G d jm_M_foresees B 10 [some (.ref 146), some (.int x1), some (.int (x2 + 1)), some (.int (8 + x2)), none, none, none, none] [] s6) :
    q_W G d jm_M_foresees B 10 [some (.ref 146), some (.int x1), some (.int x2), o3, none, none, none, none] [] s := by
  refine q_iload_n (pc' := 11) ja_M_foresees_10 rfl rfl ?_
  refine q_aload_n (pc' := 12) ja_M_foresees_11 rfl rfl ?_
  refine q_getf (pc' := 15) (v := .int (s 146 19)) ja_M_foresees_12 rfl (by decide) ⟨rfl, by decide⟩ rfl ?_
  refine q_ic_ge (pc' := 18) ja_M_foresees_15 rfl ?_ ?_
  · intro h1
    refine q_iload_n (pc' := 100) ja_M_foresees_99 rfl rfl ?_
    refine q_istore_n (pc' := 101) (ls' := [some (.ref 146), some (.int x1), some (.int x1), o3, none, none, none, none]) ja_M_foresees_100 rfl ⟨Nat.le_of_ble_eq_true rfl, rfl⟩ rfl ?_
    refine q_iconst (pc' := 102) ja_M_foresees_101 rfl 0 (by decide) ?_
    refine q_istore_n (pc' := 103) (ls' := [some (.ref 146), some (.int x1), some (.int x1), some (.int 0), none, none, none, none]) ja_M_foresees_102 rfl ⟨Nat.le_of_ble_eq_true rfl, rfl⟩ rfl ?_
    exact (k1 h1)
  · intro h2
    refine q_bipush (pc' := 20) ja_M_foresees_18 rfl 8 (by decide) ?_
    refine q_iload_n (pc' := 21) ja_M_foresees_20 rfl rfl ?_
    refine q_iadd (pc' := 22) ja_M_foresees_21 rfl ?_
    refine q_istore_n (pc' := 23) (ls' := [some (.ref 146), some (.int x1), some (.int x2), some (.int (8 + x2)), none, none, none, none]) ja_M_foresees_22 rfl ⟨Nat.le_of_ble_eq_true rfl, rfl⟩ rfl ?_
    refine q_aload_n (pc' := 24) ja_M_foresees_23 rfl rfl ?_
    refine q_getf (pc' := 27) (v := .ref 157) ja_M_foresees_24 rfl (by decide) ⟨rfl, by decide⟩ rfl ?_
    refine q_iload_n (pc' := 28) ja_M_foresees_27 rfl rfl ?_
    refine q_aload_n (pc' := 29) ja_M_foresees_28 rfl rfl ?_
    refine q_getf (pc' := 32) (v := .ref 172) ja_M_foresees_29 rfl (by decide) ⟨rfl, by decide⟩ rfl ?_
    refine q_iload_n (pc' := 33) ja_M_foresees_32 rfl rfl ?_
    refine q_iald (pc' := 34) (v := .int (s 172 x2.toNatClampNeg)) ja_M_foresees_33 rfl (by decide) (l := 5) rfl (k2 h2) rfl ?_
    refine q_iast (pc' := 35) ja_M_foresees_34 rfl (by decide) (l := 13) rfl (k3 h2) ?_
    intro s1 e1
    refine q_aload_n (pc' := 36) ja_M_foresees_35 rfl rfl ?_
    refine q_getf (pc' := 39) (v := .ref 159) ja_M_foresees_36 rfl (by decide) ⟨rfl, by decide⟩ rfl ?_
    refine q_iload_n (pc' := 40) ja_M_foresees_39 rfl rfl ?_
    refine q_aload_n (pc' := 41) ja_M_foresees_40 rfl rfl ?_
    refine q_getf (pc' := 44) (v := .ref 173) ja_M_foresees_41 rfl (by decide) ⟨rfl, by decide⟩ rfl ?_
    refine q_iload_n (pc' := 45) ja_M_foresees_44 rfl rfl ?_
    refine q_iald (pc' := 46) (v := .int (s1 173 x2.toNatClampNeg)) ja_M_foresees_45 rfl (by decide) (l := 5) rfl (k4 h2 s1 e1) rfl ?_
    refine q_iast (pc' := 47) ja_M_foresees_46 rfl (by decide) (l := 13) rfl (k5 h2 s1 e1) ?_
    intro s2 e2
    refine q_aload_n (pc' := 48) ja_M_foresees_47 rfl rfl ?_
    refine q_getf (pc' := 51) (v := .ref 160) ja_M_foresees_48 rfl (by decide) ⟨rfl, by decide⟩ rfl ?_
    refine q_iload_n (pc' := 52) ja_M_foresees_51 rfl rfl ?_
    refine q_aload_n (pc' := 53) ja_M_foresees_52 rfl rfl ?_
    refine q_getf (pc' := 56) (v := .ref 174) ja_M_foresees_53 rfl (by decide) ⟨rfl, by decide⟩ rfl ?_
    refine q_iload_n (pc' := 57) ja_M_foresees_56 rfl rfl ?_
    refine q_iald (pc' := 58) (v := .int (s2 174 x2.toNatClampNeg)) ja_M_foresees_57 rfl (by decide) (l := 5) rfl (k6 h2 s1 e1 s2 e2) rfl ?_
    refine q_iast (pc' := 59) ja_M_foresees_58 rfl (by decide) (l := 13) rfl (k7 h2 s1 e1 s2 e2) ?_
    intro s3 e3
    refine q_aload_n (pc' := 60) ja_M_foresees_59 rfl rfl ?_
    refine q_getf (pc' := 63) (v := .ref 161) ja_M_foresees_60 rfl (by decide) ⟨rfl, by decide⟩ rfl ?_
    refine q_iload_n (pc' := 64) ja_M_foresees_63 rfl rfl ?_
    refine q_aload_n (pc' := 65) ja_M_foresees_64 rfl rfl ?_
    refine q_getf (pc' := 68) (v := .ref 157) ja_M_foresees_65 rfl (by decide) ⟨rfl, by decide⟩ rfl ?_
    refine q_iload_n (pc' := 69) ja_M_foresees_68 rfl rfl ?_
    refine q_iald (pc' := 70) (v := .int (s3 157 (8 + x2).toNatClampNeg)) ja_M_foresees_69 rfl (by decide) (l := 13) rfl (k8 h2 s1 e1 s2 e2 s3 e3) rfl ?_
    refine q_iconst (pc' := 71) ja_M_foresees_70 rfl 2 (by decide) ?_
    refine q_ic_ne (pc' := 74) ja_M_foresees_71 rfl ?_ ?_
    · intro h3
      refine q_iconst (pc' := 92) ja_M_foresees_91 rfl 0 (by decide) ?_
      refine q_bast (pc' := 93) ja_M_foresees_92 rfl (by decide) (l := 13) rfl (k9 h2 s1 e1 s2 e2 s3 e3 h3) (by decide) ?_
      intro s4 e4
      refine q_iinc (pc' := 96) (ls' := [some (.ref 146), some (.int x1), some (.int (x2 + 1)), some (.int (8 + x2)), none, none, none, none]) ja_M_foresees_93 rfl rfl (x2 + 1) rfl ⟨Nat.le_of_ble_eq_true rfl, rfl⟩ rfl ?_
      refine q_goto ja_M_foresees_96 ?_
      exact (k10 h2 s1 e1 s2 e2 s3 e3 h3 s4 e4)
    · intro h4
      refine q_aload_n (pc' := 75) ja_M_foresees_74 rfl rfl ?_
      refine q_getf (pc' := 78) (v := .ref 159) ja_M_foresees_75 rfl (by decide) ⟨rfl, by decide⟩ rfl ?_
      refine q_iload_n (pc' := 79) ja_M_foresees_78 rfl rfl ?_
      refine q_iald (pc' := 80) (v := .int (s3 159 (8 + x2).toNatClampNeg)) ja_M_foresees_79 rfl (by decide) (l := 13) rfl (k11 h2 s1 e1 s2 e2 s3 e3 h4) rfl ?_
      refine q_aload_n (pc' := 81) ja_M_foresees_80 rfl rfl ?_
      refine q_getf (pc' := 84) (v := .int (s3 146 53)) ja_M_foresees_81 rfl (by decide) ⟨rfl, by decide⟩ rfl ?_
      refine q_ic_ne (pc' := 87) ja_M_foresees_84 rfl ?_ ?_
      · intro h5
        refine q_iconst (pc' := 92) ja_M_foresees_91 rfl 0 (by decide) ?_
        refine q_bast (pc' := 93) ja_M_foresees_92 rfl (by decide) (l := 13) rfl (k12 h2 s1 e1 s2 e2 s3 e3 h4 h5) (by decide) ?_
        intro s5 e5
        refine q_iinc (pc' := 96) (ls' := [some (.ref 146), some (.int x1), some (.int (x2 + 1)), some (.int (8 + x2)), none, none, none, none]) ja_M_foresees_93 rfl rfl (x2 + 1) rfl ⟨Nat.le_of_ble_eq_true rfl, rfl⟩ rfl ?_
        refine q_goto ja_M_foresees_96 ?_
        exact (k13 h2 s1 e1 s2 e2 s3 e3 h4 h5 s5 e5)
      · intro h6
        refine q_iconst (pc' := 88) ja_M_foresees_87 rfl 1 (by decide) ?_
        refine q_goto ja_M_foresees_88 ?_
        refine q_bast (pc' := 93) ja_M_foresees_92 rfl (by decide) (l := 13) rfl (k14 h2 s1 e1 s2 e2 s3 e3 h4 h6) (by decide) ?_
        intro s6 e6
        refine q_iinc (pc' := 96) (ls' := [some (.ref 146), some (.int x1), some (.int (x2 + 1)), some (.int (8 + x2)), none, none, none, none]) ja_M_foresees_93 rfl rfl (x2 + 1) rfl ⟨Nat.le_of_ble_eq_true rfl, rfl⟩ rfl ?_
        refine q_goto ja_M_foresees_96 ?_
        exact (k15 h2 s1 e1 s2 e2 s3 e3 h4 h6 s6 e6)
theorem t2_M_foresees_103 {G : jv_X} {d : Nat} {B : Option Value → jg_H → Prop} {s : jg_H} (x1 : Int32) (x2 : Int32) (x3 : Int32) {o4 : Option Value} (ho4 : f_n o4 = true) {o5 : Option Value} (ho5 : f_n o5 = true) {o6 : Option Value} (ho6 : f_n o6 = true) {o7 : Option Value} (ho7 : f_n o7 = true)
    (k1 : ¬ x3 < (s 146 19) → B none s)
    (k2 : x3 < (s 146 19) → jv_in (8 + (x2 - x2 / 6 * 6)) 13 = true)
    (k3 : x3 < (s 146 19) → q_P G d 190 [.ref 146, .int (8 + (x2 - x2 / 6 * 6)), .int 1] s (fun v t => q_W G d jm_M_foresees B 147 [some (.ref 146), some (.int x1), some (.int (x2 / 6)), some (.int x3), some (.int (8 + (x2 - x2 / 6 * 6))), o5, o6, o7] (v.toList ++ [.int 0, .int 0, .int (s 157 (8 + (x2 - x2 / 6 * 6)).toNatClampNeg), .int 2, .int (s 146 15), .ref 146]) t)) :
    q_W G d jm_M_foresees B 103 [some (.ref 146), some (.int x1), some (.int x2), some (.int x3), o4, o5, o6, o7] [] s := by
  refine q_iload_n (pc' := 104) ja_M_foresees_103 rfl rfl ?_
  refine q_aload_n (pc' := 105) ja_M_foresees_104 rfl rfl ?_
  refine q_getf (pc' := 108) (v := .int (s 146 19)) ja_M_foresees_105 rfl (by decide) ⟨rfl, by decide⟩ rfl ?_
  refine q_ic_ge (pc' := 111) ja_M_foresees_108 rfl ?_ ?_
  · intro h1
    exact q_vret ja_M_foresees_245 rfl (k1 h1)
  · intro h2
    refine q_bipush (pc' := 113) ja_M_foresees_111 rfl 8 (by decide) ?_
    refine q_iload_n (pc' := 114) ja_M_foresees_113 rfl rfl ?_
    refine q_bipush (pc' := 116) ja_M_foresees_114 rfl 6 (by decide) ?_
    refine q_irem (pc' := 117) ja_M_foresees_116 rfl (by decide) ?_
    refine q_iadd (pc' := 118) ja_M_foresees_117 rfl ?_
    refine q_istore (pc' := 120) (ls' := [some (.ref 146), some (.int x1), some (.int x2), some (.int x3), some (.int (8 + (x2 - x2 / 6 * 6))), o5, o6, o7]) ja_M_foresees_118 rfl ⟨Nat.le_of_ble_eq_true rfl, rfl⟩ rfl ?_
    refine q_iload_n (pc' := 121) ja_M_foresees_120 rfl rfl ?_
    refine q_bipush (pc' := 123) ja_M_foresees_121 rfl 6 (by decide) ?_
    refine q_idiv (pc' := 124) ja_M_foresees_123 rfl (by decide) ?_
    refine q_istore_n (pc' := 125) (ls' := [some (.ref 146), some (.int x1), some (.int (x2 / 6)), some (.int x3), some (.int (8 + (x2 - x2 / 6 * 6))), o5, o6, o7]) ja_M_foresees_124 rfl ⟨Nat.le_of_ble_eq_true rfl, rfl⟩ rfl ?_
    refine q_aload_n (pc' := 126) ja_M_foresees_125 rfl rfl ?_
    refine q_aload_n (pc' := 127) ja_M_foresees_126 rfl rfl ?_
    refine q_getf (pc' := 130) (v := .int (s 146 15)) ja_M_foresees_127 rfl (by decide) ⟨rfl, by decide⟩ rfl ?_
    refine q_iconst (pc' := 131) ja_M_foresees_130 rfl 2 (by decide) ?_
    refine q_aload_n (pc' := 132) ja_M_foresees_131 rfl rfl ?_
    refine q_getf (pc' := 135) (v := .ref 157) ja_M_foresees_132 rfl (by decide) ⟨rfl, by decide⟩ rfl ?_
    refine q_iload (pc' := 137) ja_M_foresees_135 rfl rfl ?_
    refine q_iald (pc' := 138) (v := .int (s 157 (8 + (x2 - x2 / 6 * 6)).toNatClampNeg)) ja_M_foresees_137 rfl (by decide) (l := 13) rfl (k2 h2) rfl ?_
    refine q_iconst (pc' := 139) ja_M_foresees_138 rfl 0 (by decide) ?_
    refine q_iconst (pc' := 140) ja_M_foresees_139 rfl 0 (by decide) ?_
    refine q_aload_n (pc' := 141) ja_M_foresees_140 rfl rfl ?_
    refine q_iload (pc' := 143) ja_M_foresees_141 rfl rfl ?_
    refine q_iconst (pc' := 144) ja_M_foresees_143 rfl 1 (by decide) ?_
    refine q_virt (pc' := 147) (c := 146) (as := [.int (8 + (x2 - x2 / 6 * 6)), .int 1]) (r := [.int 0, .int 0, .int (s 157 (8 + (x2 - x2 / 6 * 6)).toNatClampNeg), .int 2, .int (s 146 15), .ref 146]) ja_M_foresees_144 rfl rfl rfl (by decide) ⟨rfl, by decide⟩ ?_
    exact (k3 h2)
theorem t2_M_foresees_147 {G : jv_X} {d : Nat} {B : Option Value → jg_H → Prop} {s : jg_H} (x1 : Int32) (x2 : Int32) (x3 : Int32) (x4 : Int32) {o5 : Option Value} (ho5 : f_n o5 = true) {o6 : Option Value} (ho6 : f_n o6 = true) {o7 : Option Value} (ho7 : f_n o7 = true) (y1 : Int32) (y2 : Int32) (y3 : Int32) (y4 : Int32) (y5 : Int32) (y6 : Int32)
    (k1 : q_P G d 190 [.ref 146, .int x4, .int 2] s (fun v t => q_W G d jm_M_foresees B 154 [some (.ref 146), some (.int x1), some (.int x2), some (.int x3), some (.int x4), o5, o6, o7] (v.toList ++ [.int y6, .int y5, .int y4, .int y3, .int y2, .int y1, .ref 146]) t)) :
    q_W G d jm_M_foresees B 147 [some (.ref 146), some (.int x1), some (.int x2), some (.int x3), some (.int x4), o5, o6, o7] [.int y6, .int y5, .int y4, .int y3, .int y2, .int y1, .ref 146] s := by
  refine q_aload_n (pc' := 148) ja_M_foresees_147 rfl rfl ?_
  refine q_iload (pc' := 150) ja_M_foresees_148 rfl rfl ?_
  refine q_iconst (pc' := 151) ja_M_foresees_150 rfl 2 (by decide) ?_
  refine q_virt (pc' := 154) (c := 146) (as := [.int x4, .int 2]) (r := [.int y6, .int y5, .int y4, .int y3, .int y2, .int y1, .ref 146]) ja_M_foresees_151 rfl rfl rfl (by decide) ⟨rfl, by decide⟩ ?_
  exact k1
theorem t2_M_foresees_154 {G : jv_X} {d : Nat} {B : Option Value → jg_H → Prop} {s : jg_H} (x1 : Int32) (x2 : Int32) (x3 : Int32) (x4 : Int32) {o5 : Option Value} (ho5 : f_n o5 = true) {o6 : Option Value} (ho6 : f_n o6 = true) {o7 : Option Value} (ho7 : f_n o7 = true) (y1 : Int32) (y2 : Int32) (y3 : Int32) (y4 : Int32) (y5 : Int32) (y6 : Int32) (y7 : Int32)
    (k1 : q_P G d 178 [.ref 146, .int y1, .int y2, .int y3, .int y4, .int y5, .int y6, .int y7] s (fun v t => q_W G d jm_M_foresees B 157 [some (.ref 146), some (.int x1), some (.int x2), some (.int x3), some (.int x4), o5, o6, o7] (v.toList ++ []) t)) :
    q_W G d jm_M_foresees B 154 [some (.ref 146), some (.int x1), some (.int x2), some (.int x3), some (.int x4), o5, o6, o7] [.int y7, .int y6, .int y5, .int y4, .int y3, .int y2, .int y1, .ref 146] s := by
  refine q_virt (pc' := 157) (c := 146) (as := [.int y1, .int y2, .int y3, .int y4, .int y5, .int y6, .int y7]) (r := []) ja_M_foresees_154 rfl rfl rfl (by decide) ⟨rfl, by decide⟩ ?_
  exact k1
theorem t2_M_foresees_157 {G : jv_X} {d : Nat} {B : Option Value → jg_H → Prop} {s : jg_H} (x1 : Int32) (x2 : Int32) (x3 : Int32) (x4 : Int32) {o5 : Option Value} (ho5 : f_n o5 = true) {o6 : Option Value} (ho6 : f_n o6 = true) {o7 : Option Value} (ho7 : f_n o7 = true) (y0 : Int32)
    (k1 : y0 = 0 → q_W G d jm_M_foresees B 103 [some (.ref 146), some (.int x1), some (.int x2), some (.int (x3 + 1)), some (.int x4), some (.int 0), o6, o7] [] s)
    (k2 : ¬ y0 = 0 → q_P G d 194 [.ref 146, .int x4] s (fun v t => q_W G d jm_M_foresees B 178 [some (.ref 146), some (.int x1), some (.int x2), some (.int x3), some (.int x4), some (.int 1), o6, o7] (v.toList ++ []) t)) :
    q_W G d jm_M_foresees B 157 [some (.ref 146), some (.int x1), some (.int x2), some (.int x3), some (.int x4), o5, o6, o7] [.int y0] s := by
  refine q_if_eq (pc' := 160) ja_M_foresees_157 rfl ?_ ?_
  · intro h1
    refine q_iconst (pc' := 165) ja_M_foresees_164 rfl 0 (by decide) ?_
    refine q_istore (pc' := 167) (ls' := [some (.ref 146), some (.int x1), some (.int x2), some (.int x3), some (.int x4), some (.int 0), o6, o7]) ja_M_foresees_165 rfl ⟨Nat.le_of_ble_eq_true rfl, rfl⟩ rfl ?_
    refine q_iload (pc' := 169) ja_M_foresees_167 rfl rfl ?_
    refine q_if_eq (pc' := 172) ja_M_foresees_169 rfl (fun _ => ?_) (fun h => absurd ((by decide : (0 : Int32) = 0)) h)
    refine q_iinc (pc' := 242) (ls' := [some (.ref 146), some (.int x1), some (.int x2), some (.int (x3 + 1)), some (.int x4), some (.int 0), o6, o7]) ja_M_foresees_239 rfl rfl (x3 + 1) rfl ⟨Nat.le_of_ble_eq_true rfl, rfl⟩ rfl ?_
    refine q_goto ja_M_foresees_242 ?_
    exact (k1 h1)
  · intro h2
    refine q_iconst (pc' := 161) ja_M_foresees_160 rfl 1 (by decide) ?_
    refine q_goto ja_M_foresees_161 ?_
    refine q_istore (pc' := 167) (ls' := [some (.ref 146), some (.int x1), some (.int x2), some (.int x3), some (.int x4), some (.int 1), o6, o7]) ja_M_foresees_165 rfl ⟨Nat.le_of_ble_eq_true rfl, rfl⟩ rfl ?_
    refine q_iload (pc' := 169) ja_M_foresees_167 rfl rfl ?_
    refine q_if_eq (pc' := 172) ja_M_foresees_169 rfl (fun h => absurd h ((by decide : ¬ (1 : Int32) = 0))) (fun _ => ?_)
    refine q_aload_n (pc' := 173) ja_M_foresees_172 rfl rfl ?_
    refine q_iload (pc' := 175) ja_M_foresees_173 rfl rfl ?_
    refine q_virt (pc' := 178) (c := 146) (as := [.int x4]) (r := []) ja_M_foresees_175 rfl rfl rfl (by decide) ⟨rfl, by decide⟩ ?_
    exact (k2 h2)
theorem t2_M_foresees_178 {G : jv_X} {d : Nat} {B : Option Value → jg_H → Prop} {s : jg_H} (x1 : Int32) (x2 : Int32) (x3 : Int32) (x4 : Int32) (x5 : Int32) {o6 : Option Value} (ho6 : f_n o6 = true) {o7 : Option Value} (ho7 : f_n o7 = true) (y0 : Int32)
    (k1 : y0 = 0 → q_W G d jm_M_foresees B 103 [some (.ref 146), some (.int x1), some (.int x2), some (.int (x3 + 1)), some (.int x4), some (.int x5), o6, o7] [] s)
    (k2 : ¬ y0 = 0 → q_P G d 195 [.ref 146, .int x4] s (fun v t => q_W G d jm_M_foresees B 187 [some (.ref 146), some (.int x1), some (.int x2), some (.int x3), some (.int x4), some (.int x5), o6, o7] (v.toList ++ []) t)) :
    q_W G d jm_M_foresees B 178 [some (.ref 146), some (.int x1), some (.int x2), some (.int x3), some (.int x4), some (.int x5), o6, o7] [.int y0] s := by
  refine q_if_eq (pc' := 181) ja_M_foresees_178 rfl ?_ ?_
  · intro h1
    refine q_iinc (pc' := 242) (ls' := [some (.ref 146), some (.int x1), some (.int x2), some (.int (x3 + 1)), some (.int x4), some (.int x5), o6, o7]) ja_M_foresees_239 rfl rfl (x3 + 1) rfl ⟨Nat.le_of_ble_eq_true rfl, rfl⟩ rfl ?_
    refine q_goto ja_M_foresees_242 ?_
    exact (k1 h1)
  · intro h2
    refine q_aload_n (pc' := 182) ja_M_foresees_181 rfl rfl ?_
    refine q_iload (pc' := 184) ja_M_foresees_182 rfl rfl ?_
    refine q_virt (pc' := 187) (c := 146) (as := [.int x4]) (r := []) ja_M_foresees_184 rfl rfl rfl (by decide) ⟨rfl, by decide⟩ ?_
    exact (k2 h2)
theorem t2_M_foresees_187 {G : jv_X} {d : Nat} {B : Option Value → jg_H → Prop} {s : jg_H} (x1 : Int32) (x2 : Int32) (x3 : Int32) (x4 : Int32) (x5 : Int32) {o6 : Option Value} (ho6 : f_n o6 = true) {o7 : Option Value} (ho7 : f_n o7 = true) (y0 : Int32)
    (k1 : q_P G d 198 [.ref 146, .int x4] s (fun v t => q_W G d jm_M_foresees B 195 [some (.ref 146), some (.int x1), some (.int x2), some (.int x3), some (.int x4), some (.int x5), some (.int y0), o7] (v.toList ++ []) t)) :
    q_W G d jm_M_foresees B 187 [some (.ref 146), some (.int x1), some (.int x2), some (.int x3), some (.int x4), some (.int x5), o6, o7] [.int y0] s := by
  refine q_istore (pc' := 189) (ls' := [some (.ref 146), some (.int x1), some (.int x2), some (.int x3), some (.int x4), some (.int x5), some (.int y0), o7]) ja_M_foresees_187 rfl ⟨Nat.le_of_ble_eq_true rfl, rfl⟩ rfl ?_
  refine q_aload_n (pc' := 190) ja_M_foresees_189 rfl rfl ?_
  refine q_iload (pc' := 192) ja_M_foresees_190 rfl rfl ?_
  refine q_virt (pc' := 195) (c := 146) (as := [.int x4]) (r := []) ja_M_foresees_192 rfl rfl rfl (by decide) ⟨rfl, by decide⟩ ?_
  exact k1
theorem t2_M_foresees_195 {G : jv_X} {d : Nat} {B : Option Value → jg_H → Prop} {s : jg_H} (x1 : Int32) (x2 : Int32) (x3 : Int32) (x4 : Int32) (x5 : Int32) (x6 : Int32) {o7 : Option Value} (ho7 : f_n o7 = true)
    (k1 : q_W G d jm_M_foresees B 199 [some (.ref 146), some (.int x1), some (.int x2), some (.int x3), some (.int x4), some (.int x5), some (.int x6), some (.int 8)] [] s) :
    q_W G d jm_M_foresees B 195 [some (.ref 146), some (.int x1), some (.int x2), some (.int x3), some (.int x4), some (.int x5), some (.int x6), o7] [] s := by
  refine q_bipush (pc' := 197) ja_M_foresees_195 rfl 8 (by decide) ?_
  refine q_istore (pc' := 199) (ls' := [some (.ref 146), some (.int x1), some (.int x2), some (.int x3), some (.int x4), some (.int x5), some (.int x6), some (.int 8)]) ja_M_foresees_197 rfl ⟨Nat.le_of_ble_eq_true rfl, rfl⟩ rfl ?_
  exact k1
theorem t2_M_foresees_199 {G : jv_X} {d : Nat} {B : Option Value → jg_H → Prop} {s : jg_H} (x1 : Int32) (x2 : Int32) (x3 : Int32) (x4 : Int32) (x5 : Int32) (x6 : Int32) (x7 : Int32)
    (k1 : ¬ x7 < (8 + (s 146 19)) → q_W G d jm_M_foresees B 103 [some (.ref 146), some (.int x1), some (.int x2), some (.int (x3 + 1)), some (.int x4), some (.int x5), some (.int x6), some (.int x7)] [] s)
    (k2 : x7 < (8 + (s 146 19)) → jv_in x4 13 = true)
    (k3 : x7 < (8 + (s 146 19)) → jv_in x4 13 = true)
    (k4 : x7 < (8 + (s 146 19)) → q_P G d 199 [.ref 146, .int x7, .int (s 157 x4.toNatClampNeg), .int x6, .int (s 161 x4.toNatClampNeg)] s (fun v t => q_W G d jm_M_foresees B 233 [some (.ref 146), some (.int x1), some (.int x2), some (.int x3), some (.int x4), some (.int x5), some (.int x6), some (.int x7)] (v.toList ++ []) t)) :
    q_W G d jm_M_foresees B 199 [some (.ref 146), some (.int x1), some (.int x2), some (.int x3), some (.int x4), some (.int x5), some (.int x6), some (.int x7)] [] s := by
  refine q_iload (pc' := 201) ja_M_foresees_199 rfl rfl ?_
  refine q_bipush (pc' := 203) ja_M_foresees_201 rfl 8 (by decide) ?_
  refine q_aload_n (pc' := 204) ja_M_foresees_203 rfl rfl ?_
  refine q_getf (pc' := 207) (v := .int (s 146 19)) ja_M_foresees_204 rfl (by decide) ⟨rfl, by decide⟩ rfl ?_
  refine q_iadd (pc' := 208) ja_M_foresees_207 rfl ?_
  refine q_ic_ge (pc' := 211) ja_M_foresees_208 rfl ?_ ?_
  · intro h1
    refine q_iinc (pc' := 242) (ls' := [some (.ref 146), some (.int x1), some (.int x2), some (.int (x3 + 1)), some (.int x4), some (.int x5), some (.int x6), some (.int x7)]) ja_M_foresees_239 rfl rfl (x3 + 1) rfl ⟨Nat.le_of_ble_eq_true rfl, rfl⟩ rfl ?_
    refine q_goto ja_M_foresees_242 ?_
    exact (k1 h1)
  · intro h2
    refine q_aload_n (pc' := 212) ja_M_foresees_211 rfl rfl ?_
    refine q_iload (pc' := 214) ja_M_foresees_212 rfl rfl ?_
    refine q_aload_n (pc' := 215) ja_M_foresees_214 rfl rfl ?_
    refine q_getf (pc' := 218) (v := .ref 157) ja_M_foresees_215 rfl (by decide) ⟨rfl, by decide⟩ rfl ?_
    refine q_iload (pc' := 220) ja_M_foresees_218 rfl rfl ?_
    refine q_iald (pc' := 221) (v := .int (s 157 x4.toNatClampNeg)) ja_M_foresees_220 rfl (by decide) (l := 13) rfl (k2 h2) rfl ?_
    refine q_iload (pc' := 223) ja_M_foresees_221 rfl rfl ?_
    refine q_aload_n (pc' := 224) ja_M_foresees_223 rfl rfl ?_
    refine q_getf (pc' := 227) (v := .ref 161) ja_M_foresees_224 rfl (by decide) ⟨rfl, by decide⟩ rfl ?_
    refine q_iload (pc' := 229) ja_M_foresees_227 rfl rfl ?_
    refine q_bald (pc' := 230) (v := .int (s 161 x4.toNatClampNeg)) ja_M_foresees_229 rfl (by decide) (l := 13) rfl (k3 h2) rfl ?_
    refine q_virt (pc' := 233) (c := 146) (as := [.int x7, .int (s 157 x4.toNatClampNeg), .int x6, .int (s 161 x4.toNatClampNeg)]) (r := []) ja_M_foresees_230 rfl rfl rfl (by decide) ⟨rfl, by decide⟩ ?_
    exact (k4 h2)
theorem t2_M_foresees_233 {G : jv_X} {d : Nat} {B : Option Value → jg_H → Prop} {s : jg_H} (x1 : Int32) (x2 : Int32) (x3 : Int32) (x4 : Int32) (x5 : Int32) (x6 : Int32) (x7 : Int32)
    (k1 : q_W G d jm_M_foresees B 199 [some (.ref 146), some (.int x1), some (.int x2), some (.int x3), some (.int x4), some (.int x5), some (.int x6), some (.int (x7 + 1))] [] s) :
    q_W G d jm_M_foresees B 233 [some (.ref 146), some (.int x1), some (.int x2), some (.int x3), some (.int x4), some (.int x5), some (.int x6), some (.int x7)] [] s := by
  refine q_iinc (pc' := 236) (ls' := [some (.ref 146), some (.int x1), some (.int x2), some (.int x3), some (.int x4), some (.int x5), some (.int x6), some (.int (x7 + 1))]) ja_M_foresees_233 rfl rfl (x7 + 1) rfl ⟨Nat.le_of_ble_eq_true rfl, rfl⟩ rfl ?_
  refine q_goto ja_M_foresees_236 ?_
  exact k1
theorem t2_C_search {G : jv_X} {d : Nat} {B : Option Value → jg_H → Prop} {s : jg_H} {c2 : Nat} (hc2 : f_5 c2) (a3 : Int32) (a4 : Int32) (a5 : Int32) (a6 : Int32)
    (k1 : ¬ a3 < (s 66 0) → q_P G d 113 [.ref 65, .ref c2] s (fun v t => q_W G d jm_C_search B 33 [some (.ref 0), some (.ref c2), some (.int a3), some (.int a4), some (.int a5), some (.int a6), some (.ref 65), none] (v.toList ++ [.int a5, .ref 65]) t))
    (k2 : a3 < (s 66 0) → a3 < 5 → q_W G d jm_C_search B 40 [some (.ref 0), some (.ref c2), some (.int a3), some (.int a4), some (.int a5), some (.int a6), some (.ref 65), some (.int 0)] [] s)
    (k3 : a3 < (s 66 0) → ¬ a3 < 5 → q_P G d 113 [.ref 65, .ref c2] s (fun v t => q_W G d jm_C_search B 33 [some (.ref 0), some (.ref c2), some (.int a3), some (.int a4), some (.int a5), some (.int a6), some (.ref 65), none] (v.toList ++ [.int a5, .ref 65]) t)) :
    q_P G (d + 1) 115 [.ref 0, .ref c2, .int a3, .int a4, .int a5, .int a6] s B := by
  refine q_in (M := jm_C_search) rfl (Nat.le_of_ble_eq_true rfl) (ls := [some (.ref 0), some (.ref c2), some (.int a3), some (.int a4), some (.int a5), some (.int a6), none, none]) rfl ?_
  refine q_aload_n (pc' := 1) ja_C_search_0 rfl rfl ?_
  refine q_getf (pc' := 4) (v := .ref 65) ja_C_search_1 rfl (by decide) ⟨rfl, by decide⟩ rfl ?_
  refine q_astore (pc' := 6) (ls' := [some (.ref 0), some (.ref c2), some (.int a3), some (.int a4), some (.int a5), some (.int a6), some (.ref 65), none]) ja_C_search_4 rfl ⟨Nat.le_of_ble_eq_true rfl, rfl⟩ rfl ?_
  refine q_iload_n (pc' := 7) ja_C_search_6 rfl rfl ?_
  refine q_aload (pc' := 9) ja_C_search_7 rfl rfl ?_
  refine q_getf (pc' := 12) (v := .ref 66) ja_C_search_9 rfl (by decide) ⟨rfl, by decide⟩ rfl ?_
  refine q_getf (pc' := 15) (v := .int (s 66 0)) ja_C_search_12 rfl (by decide) ⟨rfl, by decide⟩ rfl ?_
  refine q_ic_ge (pc' := 18) ja_C_search_15 rfl ?_ ?_
  · intro h1
    refine q_aload (pc' := 25) ja_C_search_23 rfl rfl ?_
    refine q_iload (pc' := 27) ja_C_search_25 rfl rfl ?_
    refine q_aload (pc' := 29) ja_C_search_27 rfl rfl ?_
    refine q_aload_n (pc' := 30) ja_C_search_29 rfl rfl ?_
    refine q_virt (pc' := 33) (c := 65) (as := [.ref c2]) (r := [.int a5, .ref 65]) ja_C_search_30 rfl rfl rfl (by decide) ⟨rfl, by decide⟩ ?_
    exact (k1 h1)
  · intro h2
    refine q_iload_n (pc' := 19) ja_C_search_18 rfl rfl ?_
    refine q_iconst (pc' := 20) ja_C_search_19 rfl 5 (by decide) ?_
    refine q_ic_lt (pc' := 23) ja_C_search_20 rfl ?_ ?_
    · intro h3
      refine q_iconst (pc' := 38) ja_C_search_37 rfl 0 (by decide) ?_
      refine q_istore (pc' := 40) (ls' := [some (.ref 0), some (.ref c2), some (.int a3), some (.int a4), some (.int a5), some (.int a6), some (.ref 65), some (.int 0)]) ja_C_search_38 rfl ⟨Nat.le_of_ble_eq_true rfl, rfl⟩ rfl ?_
      exact (k2 h2 h3)
    · intro h4
      refine q_aload (pc' := 25) ja_C_search_23 rfl rfl ?_
      refine q_iload (pc' := 27) ja_C_search_25 rfl rfl ?_
      refine q_aload (pc' := 29) ja_C_search_27 rfl rfl ?_
      refine q_aload_n (pc' := 30) ja_C_search_29 rfl rfl ?_
      refine q_virt (pc' := 33) (c := 65) (as := [.ref c2]) (r := [.int a5, .ref 65]) ja_C_search_30 rfl rfl rfl (by decide) ⟨rfl, by decide⟩ ?_
      exact (k3 h2 h4)
theorem t2_C_search_33 {G : jv_X} {d : Nat} {B : Option Value → jg_H → Prop} {s : jg_H} {x1 : Nat} (hx1 : f_5 x1) (x2 : Int32) (x3 : Int32) (x4 : Int32) (x5 : Int32) (y1 : Int32) (y2 : Int32)
    (k1 : q_P G d 116 [.ref 65, .int y1, .int y2] s (fun v t => q_W G d jm_C_search B 36 [some (.ref 0), some (.ref x1), some (.int x2), some (.int x3), some (.int x4), some (.int x5), some (.ref 65), none] (v.toList ++ []) t)) :
    q_W G d jm_C_search B 33 [some (.ref 0), some (.ref x1), some (.int x2), some (.int x3), some (.int x4), some (.int x5), some (.ref 65), none] [.int y2, .int y1, .ref 65] s := by
  refine q_virt (pc' := 36) (c := 65) (as := [.int y1, .int y2]) (r := []) ja_C_search_33 rfl rfl rfl (by decide) ⟨rfl, by decide⟩ ?_
  exact k1
theorem t2_C_search_36 {G : jv_X} {d : Nat} {B : Option Value → jg_H → Prop} {s : jg_H} {x1 : Nat} (hx1 : f_5 x1) (x2 : Int32) (x3 : Int32) (x4 : Int32) (x5 : Int32)
    (k1 : B none s) :
    q_W G d jm_C_search B 36 [some (.ref 0), some (.ref x1), some (.int x2), some (.int x3), some (.int x4), some (.int x5), some (.ref 65), none] [] s := by
  exact q_vret ja_C_search_36 rfl k1
theorem t2_C_search_40 {G : jv_X} {d : Nat} {B : Option Value → jg_H → Prop} {s : jg_H} {x1 : Nat} (hx1 : f_5 x1) (x2 : Int32) (x3 : Int32) (x4 : Int32) (x5 : Int32) (x7 : Int32)
    (k1 : ¬ x7 < (s 66 0) → B none s)
    (k2 : x7 < (s 66 0) → ((x3 >>> (x7 &&& 31)) &&& 1) = 0 → q_P G d 111 [.ref 0, .int x2, .int x7] s (fun v t => q_W G d jm_C_search B 72 [some (.ref 0), some (.ref x1), some (.int x2), some (.int x3), some (.int x4), some (.int x5), some (.ref 65), some (.int x7)] (v.toList ++ []) t))
    (k3 : x7 < (s 66 0) → ¬ ((x3 >>> (x7 &&& 31)) &&& 1) = 0 → q_W G d jm_C_search B 40 [some (.ref 0), some (.ref x1), some (.int x2), some (.int x3), some (.int x4), some (.int x5), some (.ref 65), some (.int (x7 + 1))] [] s) :
    q_W G d jm_C_search B 40 [some (.ref 0), some (.ref x1), some (.int x2), some (.int x3), some (.int x4), some (.int x5), some (.ref 65), some (.int x7)] [] s := by
  refine q_iload (pc' := 42) ja_C_search_40 rfl rfl ?_
  refine q_aload (pc' := 44) ja_C_search_42 rfl rfl ?_
  refine q_getf (pc' := 47) (v := .ref 66) ja_C_search_44 rfl (by decide) ⟨rfl, by decide⟩ rfl ?_
  refine q_getf (pc' := 50) (v := .int (s 66 0)) ja_C_search_47 rfl (by decide) ⟨rfl, by decide⟩ rfl ?_
  refine q_ic_ge (pc' := 53) ja_C_search_50 rfl ?_ ?_
  · intro h1
    exact q_vret ja_C_search_105 rfl (k1 h1)
  · intro h2
    refine q_iload_n (pc' := 54) ja_C_search_53 rfl rfl ?_
    refine q_iload (pc' := 56) ja_C_search_54 rfl rfl ?_
    refine q_ishr (pc' := 57) ja_C_search_56 rfl ?_
    refine q_iconst (pc' := 58) ja_C_search_57 rfl 1 (by decide) ?_
    refine q_iand (pc' := 59) ja_C_search_58 rfl ?_
    refine q_if_eq (pc' := 62) ja_C_search_59 rfl ?_ ?_
    · intro h3
      refine q_aload_n (pc' := 66) ja_C_search_65 rfl rfl ?_
      refine q_iload_n (pc' := 67) ja_C_search_66 rfl rfl ?_
      refine q_iload (pc' := 69) ja_C_search_67 rfl rfl ?_
      refine q_virt (pc' := 72) (c := 0) (as := [.int x2, .int x7]) (r := []) ja_C_search_69 rfl rfl rfl (by decide) ⟨rfl, by decide⟩ ?_
      exact (k2 h2 h3)
    · intro h4
      refine q_goto ja_C_search_62 ?_
      refine q_iinc (pc' := 102) (ls' := [some (.ref 0), some (.ref x1), some (.int x2), some (.int x3), some (.int x4), some (.int x5), some (.ref 65), some (.int (x7 + 1))]) ja_C_search_99 rfl rfl (x7 + 1) rfl ⟨Nat.le_of_ble_eq_true rfl, rfl⟩ rfl ?_
      refine q_goto ja_C_search_102 ?_
      exact (k3 h2 h4)
theorem t2_C_search_72 {G : jv_X} {d : Nat} {B : Option Value → jg_H → Prop} {s : jg_H} {x1 : Nat} (hx1 : f_5 x1) (x2 : Int32) (x3 : Int32) (x4 : Int32) (x5 : Int32) (x7 : Int32)
    (k1 : q_P G d 115 [.ref 0, .ref x1, .int (x2 + 1), .int (x3 ||| (1 <<< (x7 &&& 31))), .int (x4 + (x7 * x5)), .int (x5 * 6)] s (fun v t => q_W G d jm_C_search B 99 [some (.ref 0), some (.ref x1), some (.int x2), some (.int x3), some (.int x4), some (.int x5), some (.ref 65), some (.int x7)] (v.toList ++ []) t)) :
    q_W G d jm_C_search B 72 [some (.ref 0), some (.ref x1), some (.int x2), some (.int x3), some (.int x4), some (.int x5), some (.ref 65), some (.int x7)] [] s := by
  refine q_aload_n (pc' := 73) ja_C_search_72 rfl rfl ?_
  refine q_aload_n (pc' := 74) ja_C_search_73 rfl rfl ?_
  refine q_iload_n (pc' := 75) ja_C_search_74 rfl rfl ?_
  refine q_iconst (pc' := 76) ja_C_search_75 rfl 1 (by decide) ?_
  refine q_iadd (pc' := 77) ja_C_search_76 rfl ?_
  refine q_iload_n (pc' := 78) ja_C_search_77 rfl rfl ?_
  refine q_iconst (pc' := 79) ja_C_search_78 rfl 1 (by decide) ?_
  refine q_iload (pc' := 81) ja_C_search_79 rfl rfl ?_
  refine q_ishl (pc' := 82) ja_C_search_81 rfl ?_
  refine q_ior (pc' := 83) ja_C_search_82 rfl ?_
  refine q_iload (pc' := 85) ja_C_search_83 rfl rfl ?_
  refine q_iload (pc' := 87) ja_C_search_85 rfl rfl ?_
  refine q_iload (pc' := 89) ja_C_search_87 rfl rfl ?_
  refine q_imul (pc' := 90) ja_C_search_89 rfl ?_
  refine q_iadd (pc' := 91) ja_C_search_90 rfl ?_
  refine q_iload (pc' := 93) ja_C_search_91 rfl rfl ?_
  refine q_bipush (pc' := 95) ja_C_search_93 rfl 6 (by decide) ?_
  refine q_imul (pc' := 96) ja_C_search_95 rfl ?_
  refine q_stat (pc' := 99) (as := [.ref 0, .ref x1, .int (x2 + 1), .int (x3 ||| (1 <<< (x7 &&& 31))), .int (x4 + (x7 * x5)), .int (x5 * 6)]) (r := []) ja_C_search_96 rfl (by decide) rfl rfl ?_
  exact k1
theorem t2_C_search_99 {G : jv_X} {d : Nat} {B : Option Value → jg_H → Prop} {s : jg_H} {x1 : Nat} (hx1 : f_5 x1) (x2 : Int32) (x3 : Int32) (x4 : Int32) (x5 : Int32) (x7 : Int32)
    (k1 : q_W G d jm_C_search B 40 [some (.ref 0), some (.ref x1), some (.int x2), some (.int x3), some (.int x4), some (.int x5), some (.ref 65), some (.int (x7 + 1))] [] s) :
    q_W G d jm_C_search B 99 [some (.ref 0), some (.ref x1), some (.int x2), some (.int x3), some (.int x4), some (.int x5), some (.ref 65), some (.int x7)] [] s := by
  refine q_iinc (pc' := 102) (ls' := [some (.ref 0), some (.ref x1), some (.int x2), some (.int x3), some (.int x4), some (.int x5), some (.ref 65), some (.int (x7 + 1))]) ja_C_search_99 rfl rfl (x7 + 1) rfl ⟨Nat.le_of_ble_eq_true rfl, rfl⟩ rfl ?_
  refine q_goto ja_C_search_102 ?_
  exact k1
