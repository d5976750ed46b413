/-! walks of a vote, with calls left -/
theorem t2_C_vote {G : jv_X} {d : Nat} {B : Option Value → jg_H → Prop} {s : jg_H} 
    (k1 : ((s 60 0) - 1) < 0 → B (some (.int (-21))) s)
    (k2 : ¬ ((s 60 0) - 1) < 0 → ¬ ((s 60 0) - 1) < (s 60 0) → B (some (.int (-21))) s)
    (k3 : ¬ ((s 60 0) - 1) < 0 → ((s 60 0) - 1) < (s 60 0) → ¬ ((s 60 0) - 1) < (s 60 1) → B (some (.int (-21))) s)
    (k4 : ¬ ((s 60 0) - 1) < 0 → ((s 60 0) - 1) < (s 60 0) → ((s 60 0) - 1) < (s 60 1) → (s 0 19) < 100 → jv_in ((s 60 0) - 1) 8 = true)
    (k5 : ¬ ((s 60 0) - 1) < 0 → ((s 60 0) - 1) < (s 60 0) → ((s 60 0) - 1) < (s 60 1) → (s 0 19) < 100 → jv_in ((s 60 0) - 1) 8 = true)
    (k6 : ¬ ((s 60 0) - 1) < 0 → ((s 60 0) - 1) < (s 60 0) → ((s 60 0) - 1) < (s 60 1) → (s 0 19) < 100 → q_P G (d + 1) 87 [.ref 0, .int 3, .int (s 61 ((s 60 0) - 1).toNatClampNeg), .int (s 62 ((s 60 0) - 1).toNatClampNeg)] s (fun v t => q_W G (d + 1) jm_C_vote B 63 [some (.ref 0), some (.int ((s 60 0) - 1)), some (.int (s 61 ((s 60 0) - 1).toNatClampNeg)), some (.int (s 62 ((s 60 0) - 1).toNatClampNeg))] (v.toList ++ []) t))
    (k7 : ¬ ((s 60 0) - 1) < 0 → ((s 60 0) - 1) < (s 60 0) → ((s 60 0) - 1) < (s 60 1) → ¬ (s 0 19) < 100 → B (some (.int (-22))) s) :
    q_P G (d + 2) 92 [.ref 0] s B := by
  refine q_in (M := jm_C_vote) rfl (Nat.le_of_ble_eq_true rfl) (ls := [some (.ref 0), none, none, none]) rfl ?_
  refine q_aload_n (pc' := 1) ja_C_vote_0 rfl rfl ?_
  refine q_getf (pc' := 4) (v := .ref 60) ja_C_vote_1 rfl (by decide) ⟨rfl, by decide⟩ rfl ?_
  refine q_getf (pc' := 7) (v := .int (s 60 0)) ja_C_vote_4 rfl (by decide) ⟨rfl, by decide⟩ rfl ?_
  refine q_iconst (pc' := 8) ja_C_vote_7 rfl 1 (by decide) ?_
  refine q_isub (pc' := 9) ja_C_vote_8 rfl ?_
  refine q_istore_n (pc' := 10) (ls' := [some (.ref 0), some (.int ((s 60 0) - 1)), none, none]) ja_C_vote_9 rfl ⟨Nat.le_of_ble_eq_true rfl, rfl⟩ rfl ?_
  refine q_aload_n (pc' := 11) ja_C_vote_10 rfl rfl ?_
  refine q_getf (pc' := 14) (v := .ref 60) ja_C_vote_11 rfl (by decide) ⟨rfl, by decide⟩ rfl ?_
  refine q_iload_n (pc' := 15) ja_C_vote_14 rfl rfl ?_
  refine q_virt (pc' := 18) (c := 60) (as := [.int ((s 60 0) - 1)]) (r := []) ja_C_vote_15 rfl rfl rfl (by decide) ⟨rfl, by decide⟩ ?_
  refine q_in (M := jm_Motions_has) rfl (Nat.le_of_ble_eq_true rfl) (ls := [some (.ref 60), some (.int ((s 60 0) - 1))]) rfl ?_
  refine q_iload_n (pc' := 1) ja_Motions_has_0 rfl rfl ?_
  refine q_if_lt (pc' := 4) ja_Motions_has_1 rfl ?_ ?_
  · intro h1
    refine q_iconst (pc' := 25) ja_Motions_has_24 rfl 0 (by decide) ?_
    refine q_iret ja_Motions_has_25 rfl (by decide) ?_
    show q_W _ _ _ _ 18 [some (.ref 0), some (.int ((s 60 0) - 1)), none, none] [.int 0] s
    refine q_if_ne (pc' := 21) ja_C_vote_18 rfl (fun h => absurd ((by decide : (0 : Int32) = 0)) h) (fun _ => ?_)
    refine q_bipush (pc' := 23) ja_C_vote_21 rfl (-21) (by decide) ?_
    exact q_iret ja_C_vote_23 rfl rfl (k1 h1)
  · intro h2
    refine q_iload_n (pc' := 5) ja_Motions_has_4 rfl rfl ?_
    refine q_aload_n (pc' := 6) ja_Motions_has_5 rfl rfl ?_
    refine q_getf (pc' := 9) (v := .int (s 60 0)) ja_Motions_has_6 rfl (by decide) ⟨rfl, by decide⟩ rfl ?_
    refine q_ic_ge (pc' := 12) ja_Motions_has_9 rfl ?_ ?_
    · intro h3
      refine q_iconst (pc' := 25) ja_Motions_has_24 rfl 0 (by decide) ?_
      refine q_iret ja_Motions_has_25 rfl (by decide) ?_
      show q_W _ _ _ _ 18 [some (.ref 0), some (.int ((s 60 0) - 1)), none, none] [.int 0] s
      refine q_if_ne (pc' := 21) ja_C_vote_18 rfl (fun h => absurd ((by decide : (0 : Int32) = 0)) h) (fun _ => ?_)
      refine q_bipush (pc' := 23) ja_C_vote_21 rfl (-21) (by decide) ?_
      exact q_iret ja_C_vote_23 rfl rfl (k2 h2 h3)
    · intro h4
      refine q_iload_n (pc' := 13) ja_Motions_has_12 rfl rfl ?_
      refine q_aload_n (pc' := 14) ja_Motions_has_13 rfl rfl ?_
      refine q_getf (pc' := 17) (v := .int (s 60 1)) ja_Motions_has_14 rfl (by decide) ⟨rfl, by decide⟩ rfl ?_
      refine q_ic_ge (pc' := 20) ja_Motions_has_17 rfl ?_ ?_
      · intro h5
        refine q_iconst (pc' := 25) ja_Motions_has_24 rfl 0 (by decide) ?_
        refine q_iret ja_Motions_has_25 rfl (by decide) ?_
        show q_W _ _ _ _ 18 [some (.ref 0), some (.int ((s 60 0) - 1)), none, none] [.int 0] s
        refine q_if_ne (pc' := 21) ja_C_vote_18 rfl (fun h => absurd ((by decide : (0 : Int32) = 0)) h) (fun _ => ?_)
        refine q_bipush (pc' := 23) ja_C_vote_21 rfl (-21) (by decide) ?_
        exact q_iret ja_C_vote_23 rfl rfl (k3 h2 h4 h5)
      · intro h6
        refine q_iconst (pc' := 21) ja_Motions_has_20 rfl 1 (by decide) ?_
        refine q_goto ja_Motions_has_21 ?_
        refine q_iret ja_Motions_has_25 rfl (by decide) ?_
        show q_W _ _ _ _ 18 [some (.ref 0), some (.int ((s 60 0) - 1)), none, none] [.int 1] s
        refine q_if_ne (pc' := 21) ja_C_vote_18 rfl (fun _ => ?_) (fun h => absurd h ((by decide : ¬ (1 : Int32) = 0)))
        refine q_aload_n (pc' := 25) ja_C_vote_24 rfl rfl ?_
        refine q_getf (pc' := 28) (v := .int (s 0 19)) ja_C_vote_25 rfl (by decide) ⟨rfl, by decide⟩ rfl ?_
        refine q_bipush (pc' := 30) ja_C_vote_28 rfl 100 (by decide) ?_
        refine q_ic_lt (pc' := 33) ja_C_vote_30 rfl ?_ ?_
        · intro h7
          refine q_aload_n (pc' := 37) ja_C_vote_36 rfl rfl ?_
          refine q_getf (pc' := 40) (v := .ref 60) ja_C_vote_37 rfl (by decide) ⟨rfl, by decide⟩ rfl ?_
          refine q_getf (pc' := 43) (v := .ref 61) ja_C_vote_40 rfl (by decide) ⟨rfl, by decide⟩ rfl ?_
          refine q_iload_n (pc' := 44) ja_C_vote_43 rfl rfl ?_
          refine q_iald (pc' := 45) (v := .int (s 61 ((s 60 0) - 1).toNatClampNeg)) ja_C_vote_44 rfl (by decide) (l := 8) rfl (k4 h2 h4 h6 h7) rfl ?_
          refine q_istore_n (pc' := 46) (ls' := [some (.ref 0), some (.int ((s 60 0) - 1)), some (.int (s 61 ((s 60 0) - 1).toNatClampNeg)), none]) ja_C_vote_45 rfl ⟨Nat.le_of_ble_eq_true rfl, rfl⟩ rfl ?_
          refine q_aload_n (pc' := 47) ja_C_vote_46 rfl rfl ?_
          refine q_getf (pc' := 50) (v := .ref 60) ja_C_vote_47 rfl (by decide) ⟨rfl, by decide⟩ rfl ?_
          refine q_getf (pc' := 53) (v := .ref 62) ja_C_vote_50 rfl (by decide) ⟨rfl, by decide⟩ rfl ?_
          refine q_iload_n (pc' := 54) ja_C_vote_53 rfl rfl ?_
          refine q_iald (pc' := 55) (v := .int (s 62 ((s 60 0) - 1).toNatClampNeg)) ja_C_vote_54 rfl (by decide) (l := 8) rfl (k5 h2 h4 h6 h7) rfl ?_
          refine q_istore_n (pc' := 56) (ls' := [some (.ref 0), some (.int ((s 60 0) - 1)), some (.int (s 61 ((s 60 0) - 1).toNatClampNeg)), some (.int (s 62 ((s 60 0) - 1).toNatClampNeg))]) ja_C_vote_55 rfl ⟨Nat.le_of_ble_eq_true rfl, rfl⟩ rfl ?_
          refine q_aload_n (pc' := 57) ja_C_vote_56 rfl rfl ?_
          refine q_iconst (pc' := 58) ja_C_vote_57 rfl 3 (by decide) ?_
          refine q_iload_n (pc' := 59) ja_C_vote_58 rfl rfl ?_
          refine q_iload_n (pc' := 60) ja_C_vote_59 rfl rfl ?_
          refine q_virt (pc' := 63) (c := 0) (as := [.int 3, .int (s 61 ((s 60 0) - 1).toNatClampNeg), .int (s 62 ((s 60 0) - 1).toNatClampNeg)]) (r := []) ja_C_vote_60 rfl rfl rfl (by decide) ⟨rfl, by decide⟩ ?_
          exact (k6 h2 h4 h6 h7)
        · intro h8
          refine q_bipush (pc' := 35) ja_C_vote_33 rfl (-22) (by decide) ?_
          exact q_iret ja_C_vote_35 rfl rfl (k7 h2 h4 h6 h8)
theorem t2_C_vote_63 {G : jv_X} {d : Nat} {B : Option Value → jg_H → Prop} {s : jg_H} (x1 : Int32) (x2 : Int32) (x3 : Int32) (y0 : Int32)
    (k1 : ¬ y0 = 0 → q_P G (d + 1) 84 [.ref 0] s (fun v t => q_W G (d + 1) jm_C_vote B 78 [some (.ref 0), some (.int x1), some (.int x2), some (.int x3)] (v.toList ++ [.ref 122, .ref 0]) t))
    (k2 : y0 = 0 → B (some (.int (-23))) s) :
    q_W G (d + 1) jm_C_vote B 63 [some (.ref 0), some (.int x1), some (.int x2), some (.int x3)] [.int y0] s := by
  refine q_if_ne (pc' := 66) ja_C_vote_63 rfl ?_ ?_
  · intro h1
    refine q_aload_n (pc' := 70) ja_C_vote_69 rfl rfl ?_
    refine q_aload_n (pc' := 71) ja_C_vote_70 rfl rfl ?_
    refine q_getf (pc' := 74) (v := .ref 122) ja_C_vote_71 rfl (by decide) ⟨rfl, by decide⟩ rfl ?_
    refine q_aload_n (pc' := 75) ja_C_vote_74 rfl rfl ?_
    refine q_virt (pc' := 78) (c := 0) (as := []) (r := [.ref 122, .ref 0]) ja_C_vote_75 rfl rfl rfl (by decide) ⟨rfl, by decide⟩ ?_
    exact (k1 h1)
  · intro h2
    refine q_bipush (pc' := 68) ja_C_vote_66 rfl (-23) (by decide) ?_
    exact q_iret ja_C_vote_68 rfl rfl (k2 h2)
theorem t2_C_vote_78 {G : jv_X} {d : Nat} {B : Option Value → jg_H → Prop} {s : jg_H} (x1 : Int32) (x2 : Int32) (x3 : Int32) {y2 : Nat} (hy2 : f_8 y2)
    (k1 : jv_in x1 8 = true)
    (k2 : q_P G (d + 1) 93 [.ref 0, .ref 122, .ref y2, .ref 60, .int x1, .int (s 63 x1.toNatClampNeg)] s (fun v t => q_W G (d + 1) jm_C_vote B 95 [some (.ref 0), some (.int x1), some (.int x2), some (.int x3)] (v.toList ++ []) t)) :
    q_W G (d + 1) jm_C_vote B 78 [some (.ref 0), some (.int x1), some (.int x2), some (.int x3)] [.ref y2, .ref 122, .ref 0] s := by
  refine q_aload_n (pc' := 79) ja_C_vote_78 rfl rfl ?_
  refine q_getf (pc' := 82) (v := .ref 60) ja_C_vote_79 rfl (by decide) ⟨rfl, by decide⟩ rfl ?_
  refine q_iload_n (pc' := 83) ja_C_vote_82 rfl rfl ?_
  refine q_aload_n (pc' := 84) ja_C_vote_83 rfl rfl ?_
  refine q_getf (pc' := 87) (v := .ref 60) ja_C_vote_84 rfl (by decide) ⟨rfl, by decide⟩ rfl ?_
  refine q_getf (pc' := 90) (v := .ref 63) ja_C_vote_87 rfl (by decide) ⟨rfl, by decide⟩ rfl ?_
  refine q_iload_n (pc' := 91) ja_C_vote_90 rfl rfl ?_
  refine q_iald (pc' := 92) (v := .int (s 63 x1.toNatClampNeg)) ja_C_vote_91 rfl (by decide) (l := 8) rfl k1 rfl ?_
  refine q_virt (pc' := 95) (c := 0) (as := [.ref 122, .ref y2, .ref 60, .int x1, .int (s 63 x1.toNatClampNeg)]) (r := []) ja_C_vote_92 rfl rfl rfl (by decide) ⟨rfl, by decide⟩ ?_
  exact k2
theorem t2_C_vote_95 {G : jv_X} {d : Nat} {B : Option Value → jg_H → Prop} {s : jg_H} (x1 : Int32) (x2 : Int32) (x3 : Int32)
    (k1 : q_P G (d + 1) 88 [.ref 0, .int x3] s (fun v t => q_W G (d + 1) jm_C_vote B 105 [some (.ref 0), some (.int x1), some (.int x2), some (.int x3)] (v.toList ++ [.int x2, .ref 119]) t)) :
    q_W G (d + 1) jm_C_vote B 95 [some (.ref 0), some (.int x1), some (.int x2), some (.int x3)] [] s := by
  refine q_aload_n (pc' := 96) ja_C_vote_95 rfl rfl ?_
  refine q_getf (pc' := 99) (v := .ref 119) ja_C_vote_96 rfl (by decide) ⟨rfl, by decide⟩ rfl ?_
  refine q_iload_n (pc' := 100) ja_C_vote_99 rfl rfl ?_
  refine q_aload_n (pc' := 101) ja_C_vote_100 rfl rfl ?_
  refine q_iload_n (pc' := 102) ja_C_vote_101 rfl rfl ?_
  refine q_virt (pc' := 105) (c := 0) (as := [.int x3]) (r := [.int x2, .ref 119]) ja_C_vote_102 rfl rfl rfl (by decide) ⟨rfl, by decide⟩ ?_
  exact k1
theorem t2_C_vote_105 {G : jv_X} {d : Nat} {B : Option Value → jg_H → Prop} {s : jg_H} (x1 : Int32) (x2 : Int32) (x3 : Int32) (y1 : Int32) (y2 : Int32)
    (k1 : ∀ s1 : jg_H, s1 = jg_up s 120 0 y1 → ∀ s2 : jg_H, s2 = jg_up s1 120 1 (s 60 0) → ∀ s3 : jg_H, s3 = jg_up s2 120 3 y2 → ∀ s4 : jg_H, s4 = jg_up s3 120 6 (s 122 0) → ∀ s5 : jg_H, s5 = jg_up s4 120 7 (s 122 1) → q_P G (d + 1) 75 [.ref 0, .int (s5 0 12), .int 2] s5 (fun v t => q_W G (d + 1) jm_C_vote B 142 [some (.ref 0), some (.int x1), some (.int x2), some (.int x3)] (v.toList ++ [.ref 122]) t)) :
    q_W G (d + 1) jm_C_vote B 105 [some (.ref 0), some (.int x1), some (.int x2), some (.int x3)] [.int y2, .int y1, .ref 119] s := by
  refine q_aload_n (pc' := 106) ja_C_vote_105 rfl rfl ?_
  refine q_getf (pc' := 109) (v := .ref 60) ja_C_vote_106 rfl (by decide) ⟨rfl, by decide⟩ rfl ?_
  refine q_getf (pc' := 112) (v := .int (s 60 0)) ja_C_vote_109 rfl (by decide) ⟨rfl, by decide⟩ rfl ?_
  refine q_aload_n (pc' := 113) ja_C_vote_112 rfl rfl ?_
  refine q_getf (pc' := 116) (v := .ref 122) ja_C_vote_113 rfl (by decide) ⟨rfl, by decide⟩ rfl ?_
  refine q_getf (pc' := 119) (v := .int (s 122 0)) ja_C_vote_116 rfl (by decide) ⟨rfl, by decide⟩ rfl ?_
  refine q_aload_n (pc' := 120) ja_C_vote_119 rfl rfl ?_
  refine q_getf (pc' := 123) (v := .ref 122) ja_C_vote_120 rfl (by decide) ⟨rfl, by decide⟩ rfl ?_
  refine q_getf (pc' := 126) (v := .int (s 122 1)) ja_C_vote_123 rfl (by decide) ⟨rfl, by decide⟩ rfl ?_
  refine q_virt (pc' := 129) (c := 119) (as := [.int y1, .int y2, .int (s 60 0), .int (s 122 0), .int (s 122 1)]) (r := []) ja_C_vote_126 rfl rfl rfl (by decide) ⟨rfl, by decide⟩ ?_
  refine q_in (M := jm_Machine_sets) rfl (Nat.le_of_ble_eq_true rfl) (ls := [some (.ref 119), some (.int y1), some (.int y2), some (.int (s 60 0)), some (.int (s 122 0)), some (.int (s 122 1))]) rfl ?_
  refine q_aload_n (pc' := 1) ja_Machine_sets_0 rfl rfl ?_
  refine q_getf (pc' := 4) (v := .ref 120) ja_Machine_sets_1 rfl (by decide) ⟨rfl, by decide⟩ rfl ?_
  refine q_iconst (pc' := 5) ja_Machine_sets_4 rfl 0 (by decide) ?_
  refine q_iload_n (pc' := 6) ja_Machine_sets_5 rfl rfl ?_
  refine q_iast (pc' := 7) ja_Machine_sets_6 rfl (by decide) (l := 8) rfl (by decide) ?_
  intro s1 e1
  refine q_aload_n (pc' := 8) ja_Machine_sets_7 rfl rfl ?_
  refine q_getf (pc' := 11) (v := .ref 120) ja_Machine_sets_8 rfl (by decide) ⟨rfl, by decide⟩ rfl ?_
  refine q_iconst (pc' := 12) ja_Machine_sets_11 rfl 1 (by decide) ?_
  refine q_iload_n (pc' := 13) ja_Machine_sets_12 rfl rfl ?_
  refine q_iast (pc' := 14) ja_Machine_sets_13 rfl (by decide) (l := 8) rfl (by decide) ?_
  intro s2 e2
  refine q_aload_n (pc' := 15) ja_Machine_sets_14 rfl rfl ?_
  refine q_getf (pc' := 18) (v := .ref 120) ja_Machine_sets_15 rfl (by decide) ⟨rfl, by decide⟩ rfl ?_
  refine q_iconst (pc' := 19) ja_Machine_sets_18 rfl 3 (by decide) ?_
  refine q_iload_n (pc' := 20) ja_Machine_sets_19 rfl rfl ?_
  refine q_iast (pc' := 21) ja_Machine_sets_20 rfl (by decide) (l := 8) rfl (by decide) ?_
  intro s3 e3
  refine q_aload_n (pc' := 22) ja_Machine_sets_21 rfl rfl ?_
  refine q_getf (pc' := 25) (v := .ref 120) ja_Machine_sets_22 rfl (by decide) ⟨rfl, by decide⟩ rfl ?_
  refine q_bipush (pc' := 27) ja_Machine_sets_25 rfl 6 (by decide) ?_
  refine q_iload (pc' := 29) ja_Machine_sets_27 rfl rfl ?_
  refine q_iast (pc' := 30) ja_Machine_sets_29 rfl (by decide) (l := 8) rfl (by decide) ?_
  intro s4 e4
  refine q_aload_n (pc' := 31) ja_Machine_sets_30 rfl rfl ?_
  refine q_getf (pc' := 34) (v := .ref 120) ja_Machine_sets_31 rfl (by decide) ⟨rfl, by decide⟩ rfl ?_
  refine q_bipush (pc' := 36) ja_Machine_sets_34 rfl 7 (by decide) ?_
  refine q_iload (pc' := 38) ja_Machine_sets_36 rfl rfl ?_
  refine q_iast (pc' := 39) ja_Machine_sets_38 rfl (by decide) (l := 8) rfl (by decide) ?_
  intro s5 e5
  refine q_vret ja_Machine_sets_39 rfl ?_
  show q_W _ _ _ _ 129 [some (.ref 0), some (.int x1), some (.int x2), some (.int x3)] [] s5
  refine q_aload_n (pc' := 130) ja_C_vote_129 rfl rfl ?_
  refine q_getf (pc' := 133) (v := .ref 122) ja_C_vote_130 rfl (by decide) ⟨rfl, by decide⟩ rfl ?_
  refine q_aload_n (pc' := 134) ja_C_vote_133 rfl rfl ?_
  refine q_aload_n (pc' := 135) ja_C_vote_134 rfl rfl ?_
  refine q_getf (pc' := 138) (v := .int (s5 0 12)) ja_C_vote_135 rfl (by decide) ⟨rfl, by decide⟩ rfl ?_
  refine q_iconst (pc' := 139) ja_C_vote_138 rfl 2 (by decide) ?_
  refine q_virt (pc' := 142) (c := 0) (as := [.int (s5 0 12), .int 2]) (r := [.ref 122]) ja_C_vote_139 rfl rfl rfl (by decide) ⟨rfl, by decide⟩ ?_
  exact (k1 s1 e1 s2 e2 s3 e3 s4 e4 s5 e5)
theorem t2_C_vote_142 {G : jv_X} {d : Nat} {B : Option Value → jg_H → Prop} {s : jg_H} (x1 : Int32) (x2 : Int32) (x3 : Int32) (y1 : Int32)
    (k1 : y1 = 0 → ∀ s1 : jg_H, s1 = jg_up s 122 3 0 → ∀ s2 : jg_H, s2 = jg_up s1 60 0 ((s1 60 0) - 1) → (s2 122 3) = 0 → ¬ x2 = 0 → ∀ s3 : jg_H, s3 = jg_up s2 0 19 ((s2 0 19) + 1) → (s3 122 3) = 0 → B (some (.int 0)) s3)
    (k2 : y1 = 0 → ∀ s1 : jg_H, s1 = jg_up s 122 3 0 → ∀ s2 : jg_H, s2 = jg_up s1 60 0 ((s1 60 0) - 1) → (s2 122 3) = 0 → ¬ x2 = 0 → ∀ s3 : jg_H, s3 = jg_up s2 0 19 ((s2 0 19) + 1) → ¬ (s3 122 3) = 0 → B (some (.int 1)) s3)
    (k3 : y1 = 0 → ∀ s1 : jg_H, s1 = jg_up s 122 3 0 → ∀ s2 : jg_H, s2 = jg_up s1 60 0 ((s1 60 0) - 1) → (s2 122 3) = 0 → x2 = 0 → q_P G (d + 1) 98 [.ref 0, .int 4] s2 (fun v t => q_W G (d + 1) jm_C_vote B 211 [some (.ref 0), some (.int x1), some (.int x2), some (.int x3)] (v.toList ++ []) t))
    (k4 : y1 = 0 → ∀ s1 : jg_H, s1 = jg_up s 122 3 0 → ∀ s2 : jg_H, s2 = jg_up s1 60 0 ((s1 60 0) - 1) → ¬ (s2 122 3) = 0 → jv_in x1 8 = true)
    (k5 : y1 = 0 → ∀ s1 : jg_H, s1 = jg_up s 122 3 0 → ∀ s2 : jg_H, s2 = jg_up s1 60 0 ((s1 60 0) - 1) → ¬ (s2 122 3) = 0 → jv_in x1 8 = true)
    (k6 : y1 = 0 → ∀ s1 : jg_H, s1 = jg_up s 122 3 0 → ∀ s2 : jg_H, s2 = jg_up s1 60 0 ((s1 60 0) - 1) → ¬ (s2 122 3) = 0 → q_P G (d + 1) 97 [.ref 0, .int x2, .int (s2 63 x1.toNatClampNeg), .int (s2 64 x1.toNatClampNeg)] s2 (fun v t => q_W G (d + 1) jm_C_vote B 199 [some (.ref 0), some (.int x1), some (.int x2), some (.int x3)] (v.toList ++ []) t))
    (k7 : ¬ y1 = 0 → ∀ s4 : jg_H, s4 = jg_up s 122 3 1 → ∀ s5 : jg_H, s5 = jg_up s4 60 0 ((s4 60 0) - 1) → (s5 122 3) = 0 → ¬ x2 = 0 → ∀ s6 : jg_H, s6 = jg_up s5 0 19 ((s5 0 19) + 1) → (s6 122 3) = 0 → B (some (.int 0)) s6)
    (k8 : ¬ y1 = 0 → ∀ s4 : jg_H, s4 = jg_up s 122 3 1 → ∀ s5 : jg_H, s5 = jg_up s4 60 0 ((s4 60 0) - 1) → (s5 122 3) = 0 → ¬ x2 = 0 → ∀ s6 : jg_H, s6 = jg_up s5 0 19 ((s5 0 19) + 1) → ¬ (s6 122 3) = 0 → B (some (.int 1)) s6)
    (k9 : ¬ y1 = 0 → ∀ s4 : jg_H, s4 = jg_up s 122 3 1 → ∀ s5 : jg_H, s5 = jg_up s4 60 0 ((s4 60 0) - 1) → (s5 122 3) = 0 → x2 = 0 → q_P G (d + 1) 98 [.ref 0, .int 4] s5 (fun v t => q_W G (d + 1) jm_C_vote B 211 [some (.ref 0), some (.int x1), some (.int x2), some (.int x3)] (v.toList ++ []) t))
    (k10 : ¬ y1 = 0 → ∀ s4 : jg_H, s4 = jg_up s 122 3 1 → ∀ s5 : jg_H, s5 = jg_up s4 60 0 ((s4 60 0) - 1) → ¬ (s5 122 3) = 0 → jv_in x1 8 = true)
    (k11 : ¬ y1 = 0 → ∀ s4 : jg_H, s4 = jg_up s 122 3 1 → ∀ s5 : jg_H, s5 = jg_up s4 60 0 ((s4 60 0) - 1) → ¬ (s5 122 3) = 0 → jv_in x1 8 = true)
    (k12 : ¬ y1 = 0 → ∀ s4 : jg_H, s4 = jg_up s 122 3 1 → ∀ s5 : jg_H, s5 = jg_up s4 60 0 ((s4 60 0) - 1) → ¬ (s5 122 3) = 0 → q_P G (d + 1) 97 [.ref 0, .int x2, .int (s5 63 x1.toNatClampNeg), .int (s5 64 x1.toNatClampNeg)] s5 (fun v t => q_W G (d + 1) jm_C_vote B 199 [some (.ref 0), some (.int x1), some (.int x2), some (.int x3)] (v.toList ++ []) t)) :
    q_W G (d + 1) jm_C_vote B 142 [some (.ref 0), some (.int x1), some (.int x2), some (.int x3)] [.int y1, .ref 122] s := by
  refine q_if_eq (pc' := 145) ja_C_vote_142 rfl ?_ ?_
  · intro h1
    refine q_iconst (pc' := 150) ja_C_vote_149 rfl 0 (by decide) ?_
    refine q_putf (pc' := 153) ja_C_vote_150 rfl (by decide) rfl (by decide) rfl ?_
    intro s1 e1
    refine q_aload_n (pc' := 154) ja_C_vote_153 rfl rfl ?_
    refine q_getf (pc' := 157) (v := .ref 60) ja_C_vote_154 rfl (by decide) ⟨rfl, by decide⟩ rfl ?_
    refine q_dup (pc' := 158) ja_C_vote_157 rfl rfl ?_
    refine q_getf (pc' := 161) (v := .int (s1 60 0)) ja_C_vote_158 rfl (by decide) ⟨rfl, by decide⟩ rfl ?_
    refine q_iconst (pc' := 162) ja_C_vote_161 rfl 1 (by decide) ?_
    refine q_isub (pc' := 163) ja_C_vote_162 rfl ?_
    refine q_putf (pc' := 166) ja_C_vote_163 rfl (by decide) rfl rfl rfl ?_
    intro s2 e2
    refine q_aload_n (pc' := 167) ja_C_vote_166 rfl rfl ?_
    refine q_getf (pc' := 170) (v := .ref 122) ja_C_vote_167 rfl (by decide) ⟨rfl, by decide⟩ rfl ?_
    refine q_getf (pc' := 173) (v := .int (s2 122 3)) ja_C_vote_170 rfl (by decide) ⟨rfl, by decide⟩ rfl ?_
    refine q_if_eq (pc' := 176) ja_C_vote_173 rfl ?_ ?_
    · intro h2
      refine q_iload_n (pc' := 203) ja_C_vote_202 rfl rfl ?_
      refine q_if_ne (pc' := 206) ja_C_vote_203 rfl ?_ ?_
      · intro h3
        refine q_aload_n (pc' := 212) ja_C_vote_211 rfl rfl ?_
        refine q_dup (pc' := 213) ja_C_vote_212 rfl rfl ?_
        refine q_getf (pc' := 216) (v := .int (s2 0 19)) ja_C_vote_213 rfl (by decide) ⟨rfl, by decide⟩ rfl ?_
        refine q_iconst (pc' := 217) ja_C_vote_216 rfl 1 (by decide) ?_
        refine q_iadd (pc' := 218) ja_C_vote_217 rfl ?_
        refine q_putf (pc' := 221) ja_C_vote_218 rfl (by decide) rfl rfl rfl ?_
        intro s3 e3
        refine q_aload_n (pc' := 222) ja_C_vote_221 rfl rfl ?_
        refine q_getf (pc' := 225) (v := .ref 122) ja_C_vote_222 rfl (by decide) ⟨rfl, by decide⟩ rfl ?_
        refine q_getf (pc' := 228) (v := .int (s3 122 3)) ja_C_vote_225 rfl (by decide) ⟨rfl, by decide⟩ rfl ?_
        refine q_if_eq (pc' := 231) ja_C_vote_228 rfl ?_ ?_
        · intro h4
          refine q_iconst (pc' := 236) ja_C_vote_235 rfl 0 (by decide) ?_
          exact q_iret ja_C_vote_236 rfl rfl (k1 h1 s1 e1 s2 e2 h2 h3 s3 e3 h4)
        · intro h5
          refine q_iconst (pc' := 232) ja_C_vote_231 rfl 1 (by decide) ?_
          refine q_goto ja_C_vote_232 ?_
          exact q_iret ja_C_vote_236 rfl rfl (k2 h1 s1 e1 s2 e2 h2 h3 s3 e3 h5)
      · intro h6
        refine q_aload_n (pc' := 207) ja_C_vote_206 rfl rfl ?_
        refine q_iconst (pc' := 208) ja_C_vote_207 rfl 4 (by decide) ?_
        refine q_virt (pc' := 211) (c := 0) (as := [.int 4]) (r := []) ja_C_vote_208 rfl rfl rfl (by decide) ⟨rfl, by decide⟩ ?_
        exact (k3 h1 s1 e1 s2 e2 h2 h6)
    · intro h7
      refine q_aload_n (pc' := 177) ja_C_vote_176 rfl rfl ?_
      refine q_iload_n (pc' := 178) ja_C_vote_177 rfl rfl ?_
      refine q_aload_n (pc' := 179) ja_C_vote_178 rfl rfl ?_
      refine q_getf (pc' := 182) (v := .ref 60) ja_C_vote_179 rfl (by decide) ⟨rfl, by decide⟩ rfl ?_
      refine q_getf (pc' := 185) (v := .ref 63) ja_C_vote_182 rfl (by decide) ⟨rfl, by decide⟩ rfl ?_
      refine q_iload_n (pc' := 186) ja_C_vote_185 rfl rfl ?_
      refine q_iald (pc' := 187) (v := .int (s2 63 x1.toNatClampNeg)) ja_C_vote_186 rfl (by decide) (l := 8) rfl (k4 h1 s1 e1 s2 e2 h7) rfl ?_
      refine q_aload_n (pc' := 188) ja_C_vote_187 rfl rfl ?_
      refine q_getf (pc' := 191) (v := .ref 60) ja_C_vote_188 rfl (by decide) ⟨rfl, by decide⟩ rfl ?_
      refine q_getf (pc' := 194) (v := .ref 64) ja_C_vote_191 rfl (by decide) ⟨rfl, by decide⟩ rfl ?_
      refine q_iload_n (pc' := 195) ja_C_vote_194 rfl rfl ?_
      refine q_iald (pc' := 196) (v := .int (s2 64 x1.toNatClampNeg)) ja_C_vote_195 rfl (by decide) (l := 8) rfl (k5 h1 s1 e1 s2 e2 h7) rfl ?_
      refine q_virt (pc' := 199) (c := 0) (as := [.int x2, .int (s2 63 x1.toNatClampNeg), .int (s2 64 x1.toNatClampNeg)]) (r := []) ja_C_vote_196 rfl rfl rfl (by decide) ⟨rfl, by decide⟩ ?_
      exact (k6 h1 s1 e1 s2 e2 h7)
  · intro h8
    refine q_iconst (pc' := 146) ja_C_vote_145 rfl 1 (by decide) ?_
    refine q_goto ja_C_vote_146 ?_
    refine q_putf (pc' := 153) ja_C_vote_150 rfl (by decide) rfl (by decide) rfl ?_
    intro s4 e4
    refine q_aload_n (pc' := 154) ja_C_vote_153 rfl rfl ?_
    refine q_getf (pc' := 157) (v := .ref 60) ja_C_vote_154 rfl (by decide) ⟨rfl, by decide⟩ rfl ?_
    refine q_dup (pc' := 158) ja_C_vote_157 rfl rfl ?_
    refine q_getf (pc' := 161) (v := .int (s4 60 0)) ja_C_vote_158 rfl (by decide) ⟨rfl, by decide⟩ rfl ?_
    refine q_iconst (pc' := 162) ja_C_vote_161 rfl 1 (by decide) ?_
    refine q_isub (pc' := 163) ja_C_vote_162 rfl ?_
    refine q_putf (pc' := 166) ja_C_vote_163 rfl (by decide) rfl rfl rfl ?_
    intro s5 e5
    refine q_aload_n (pc' := 167) ja_C_vote_166 rfl rfl ?_
    refine q_getf (pc' := 170) (v := .ref 122) ja_C_vote_167 rfl (by decide) ⟨rfl, by decide⟩ rfl ?_
    refine q_getf (pc' := 173) (v := .int (s5 122 3)) ja_C_vote_170 rfl (by decide) ⟨rfl, by decide⟩ rfl ?_
    refine q_if_eq (pc' := 176) ja_C_vote_173 rfl ?_ ?_
    · intro h9
      refine q_iload_n (pc' := 203) ja_C_vote_202 rfl rfl ?_
      refine q_if_ne (pc' := 206) ja_C_vote_203 rfl ?_ ?_
      · intro h10
        refine q_aload_n (pc' := 212) ja_C_vote_211 rfl rfl ?_
        refine q_dup (pc' := 213) ja_C_vote_212 rfl rfl ?_
        refine q_getf (pc' := 216) (v := .int (s5 0 19)) ja_C_vote_213 rfl (by decide) ⟨rfl, by decide⟩ rfl ?_
        refine q_iconst (pc' := 217) ja_C_vote_216 rfl 1 (by decide) ?_
        refine q_iadd (pc' := 218) ja_C_vote_217 rfl ?_
        refine q_putf (pc' := 221) ja_C_vote_218 rfl (by decide) rfl rfl rfl ?_
        intro s6 e6
        refine q_aload_n (pc' := 222) ja_C_vote_221 rfl rfl ?_
        refine q_getf (pc' := 225) (v := .ref 122) ja_C_vote_222 rfl (by decide) ⟨rfl, by decide⟩ rfl ?_
        refine q_getf (pc' := 228) (v := .int (s6 122 3)) ja_C_vote_225 rfl (by decide) ⟨rfl, by decide⟩ rfl ?_
        refine q_if_eq (pc' := 231) ja_C_vote_228 rfl ?_ ?_
        · intro h11
          refine q_iconst (pc' := 236) ja_C_vote_235 rfl 0 (by decide) ?_
          exact q_iret ja_C_vote_236 rfl rfl (k7 h8 s4 e4 s5 e5 h9 h10 s6 e6 h11)
        · intro h12
          refine q_iconst (pc' := 232) ja_C_vote_231 rfl 1 (by decide) ?_
          refine q_goto ja_C_vote_232 ?_
          exact q_iret ja_C_vote_236 rfl rfl (k8 h8 s4 e4 s5 e5 h9 h10 s6 e6 h12)
      · intro h13
        refine q_aload_n (pc' := 207) ja_C_vote_206 rfl rfl ?_
        refine q_iconst (pc' := 208) ja_C_vote_207 rfl 4 (by decide) ?_
        refine q_virt (pc' := 211) (c := 0) (as := [.int 4]) (r := []) ja_C_vote_208 rfl rfl rfl (by decide) ⟨rfl, by decide⟩ ?_
        exact (k9 h8 s4 e4 s5 e5 h9 h13)
    · intro h14
      refine q_aload_n (pc' := 177) ja_C_vote_176 rfl rfl ?_
      refine q_iload_n (pc' := 178) ja_C_vote_177 rfl rfl ?_
      refine q_aload_n (pc' := 179) ja_C_vote_178 rfl rfl ?_
      refine q_getf (pc' := 182) (v := .ref 60) ja_C_vote_179 rfl (by decide) ⟨rfl, by decide⟩ rfl ?_
      refine q_getf (pc' := 185) (v := .ref 63) ja_C_vote_182 rfl (by decide) ⟨rfl, by decide⟩ rfl ?_
      refine q_iload_n (pc' := 186) ja_C_vote_185 rfl rfl ?_
      refine q_iald (pc' := 187) (v := .int (s5 63 x1.toNatClampNeg)) ja_C_vote_186 rfl (by decide) (l := 8) rfl (k10 h8 s4 e4 s5 e5 h14) rfl ?_
      refine q_aload_n (pc' := 188) ja_C_vote_187 rfl rfl ?_
      refine q_getf (pc' := 191) (v := .ref 60) ja_C_vote_188 rfl (by decide) ⟨rfl, by decide⟩ rfl ?_
      refine q_getf (pc' := 194) (v := .ref 64) ja_C_vote_191 rfl (by decide) ⟨rfl, by decide⟩ rfl ?_
      refine q_iload_n (pc' := 195) ja_C_vote_194 rfl rfl ?_
      refine q_iald (pc' := 196) (v := .int (s5 64 x1.toNatClampNeg)) ja_C_vote_195 rfl (by decide) (l := 8) rfl (k11 h8 s4 e4 s5 e5 h14) rfl ?_
      refine q_virt (pc' := 199) (c := 0) (as := [.int x2, .int (s5 63 x1.toNatClampNeg), .int (s5 64 x1.toNatClampNeg)]) (r := []) ja_C_vote_196 rfl rfl rfl (by decide) ⟨rfl, by decide⟩ ?_
      exact (k12 h8 s4 e4 s5 e5 h14)
theorem t2_C_vote_199 {G : jv_X} {d : Nat} {B : Option Value → jg_H → Prop} {s : jg_H} (x1 : Int32) (x2 : Int32) (x3 : Int32)
    (k1 : ∀ s1 : jg_H, s1 = jg_up s 0 19 ((s 0 19) + 1) → (s1 122 3) = 0 → B (some (.int 0)) s1)
    (k2 : ∀ s1 : jg_H, s1 = jg_up s 0 19 ((s 0 19) + 1) → ¬ (s1 122 3) = 0 → B (some (.int 1)) s1) :
    q_W G (d + 1) jm_C_vote B 199 [some (.ref 0), some (.int x1), some (.int x2), some (.int x3)] [] s := by
  refine q_goto ja_C_vote_199 ?_
  refine q_aload_n (pc' := 212) ja_C_vote_211 rfl rfl ?_
  refine q_dup (pc' := 213) ja_C_vote_212 rfl rfl ?_
  refine q_getf (pc' := 216) (v := .int (s 0 19)) ja_C_vote_213 rfl (by decide) ⟨rfl, by decide⟩ rfl ?_
  refine q_iconst (pc' := 217) ja_C_vote_216 rfl 1 (by decide) ?_
  refine q_iadd (pc' := 218) ja_C_vote_217 rfl ?_
  refine q_putf (pc' := 221) ja_C_vote_218 rfl (by decide) rfl rfl rfl ?_
  intro s1 e1
  refine q_aload_n (pc' := 222) ja_C_vote_221 rfl rfl ?_
  refine q_getf (pc' := 225) (v := .ref 122) ja_C_vote_222 rfl (by decide) ⟨rfl, by decide⟩ rfl ?_
  refine q_getf (pc' := 228) (v := .int (s1 122 3)) ja_C_vote_225 rfl (by decide) ⟨rfl, by decide⟩ rfl ?_
  refine q_if_eq (pc' := 231) ja_C_vote_228 rfl ?_ ?_
  · intro h1
    refine q_iconst (pc' := 236) ja_C_vote_235 rfl 0 (by decide) ?_
    exact q_iret ja_C_vote_236 rfl rfl (k1 s1 e1 h1)
  · intro h2
    refine q_iconst (pc' := 232) ja_C_vote_231 rfl 1 (by decide) ?_
    refine q_goto ja_C_vote_232 ?_
    exact q_iret ja_C_vote_236 rfl rfl (k2 s1 e1 h2)
theorem t2_C_vote_211 {G : jv_X} {d : Nat} {B : Option Value → jg_H → Prop} {s : jg_H} (x1 : Int32) (x2 : Int32) (x3 : Int32)
    (k1 : ∀ s1 : jg_H, s1 = jg_up s 0 19 ((s 0 19) + 1) → (s1 122 3) = 0 → B (some (.int 0)) s1)
    (k2 : ∀ s1 : jg_H, s1 = jg_up s 0 19 ((s 0 19) + 1) → ¬ (s1 122 3) = 0 → B (some (.int 1)) s1) :
    q_W G (d + 1) jm_C_vote B 211 [some (.ref 0), some (.int x1), some (.int x2), some (.int x3)] [] s := by
  refine q_aload_n (pc' := 212) ja_C_vote_211 rfl rfl ?_
  refine q_dup (pc' := 213) ja_C_vote_212 rfl rfl ?_
  refine q_getf (pc' := 216) (v := .int (s 0 19)) ja_C_vote_213 rfl (by decide) ⟨rfl, by decide⟩ rfl ?_
  refine q_iconst (pc' := 217) ja_C_vote_216 rfl 1 (by decide) ?_
  refine q_iadd (pc' := 218) ja_C_vote_217 rfl ?_
  refine q_putf (pc' := 221) ja_C_vote_218 rfl (by decide) rfl rfl rfl ?_
  intro s1 e1
  refine q_aload_n (pc' := 222) ja_C_vote_221 rfl rfl ?_
  refine q_getf (pc' := 225) (v := .ref 122) ja_C_vote_222 rfl (by decide) ⟨rfl, by decide⟩ rfl ?_
  refine q_getf (pc' := 228) (v := .int (s1 122 3)) ja_C_vote_225 rfl (by decide) ⟨rfl, by decide⟩ rfl ?_
  refine q_if_eq (pc' := 231) ja_C_vote_228 rfl ?_ ?_
  · intro h1
    refine q_iconst (pc' := 236) ja_C_vote_235 rfl 0 (by decide) ?_
    exact q_iret ja_C_vote_236 rfl rfl (k1 s1 e1 h1)
  · intro h2
    refine q_iconst (pc' := 232) ja_C_vote_231 rfl 1 (by decide) ?_
    refine q_goto ja_C_vote_232 ?_
    exact q_iret ja_C_vote_236 rfl rfl (k2 s1 e1 h2)
theorem t2_C_carry {G : jv_X} {d : Nat} {B : Option Value → jg_H → Prop} {s : jg_H} (a1 : Int32) (a2 : Int32) (a3 : Int32)
    (k1 : a1 = 0 → q_P G d 98 [.ref 0, .int 3] s (fun v t => q_W G d jm_C_carry B 49 [some (.ref 0), some (.int a1), some (.int a2), some (.int a3)] (v.toList ++ []) t))
    (k2 : ¬ a1 = 0 → a1 = 4 → q_P G d 98 [.ref 0, .int 4] s (fun v t => q_W G d jm_C_carry B 57 [some (.ref 0), some (.int a1), some (.int a2), some (.int a3)] (v.toList ++ []) t))
    (k3 : ¬ a1 = 0 → ¬ a1 = 4 → a1 = 5 → q_P G d 98 [.ref 0, .int 0] s (fun v t => q_W G d jm_C_carry B 65 [some (.ref 0), some (.int a1), some (.int a2), some (.int a3)] (v.toList ++ []) t))
    (k4 : ¬ a1 = 0 → ¬ a1 = 4 → ¬ a1 = 5 → a1 = 6 → ∀ s1 : jg_H, s1 = jg_up s 0 12 a3 → B none s1)
    (k5 : ¬ a1 = 0 → ¬ a1 = 4 → ¬ a1 = 5 → ¬ a1 = 6 → q_P G d 99 [.ref 0, .int a1, .int a2, .int a3] s (fun v t => q_W G d jm_C_carry B 83 [some (.ref 0), some (.int a1), some (.int a2), some (.int a3)] (v.toList ++ []) t)) :
    q_P G (d + 1) 97 [.ref 0, .int a1, .int a2, .int a3] s B := by
  refine q_in (M := jm_C_carry) rfl (Nat.le_of_ble_eq_true rfl) (ls := [some (.ref 0), some (.int a1), some (.int a2), some (.int a3)]) rfl ?_
  refine q_iload_n (pc' := 1) ja_C_carry_0 rfl rfl ?_
  by_cases h1 : a1 = 0
  · refine q_swE (pc' := 44) ja_C_carry_1 (by rw [h1]; decide) (by rw [h1]; exact ⟨_, rfl, rfl⟩) ?_
    refine q_aload_n (pc' := 45) ja_C_carry_44 rfl rfl ?_
    refine q_iconst (pc' := 46) ja_C_carry_45 rfl 3 (by decide) ?_
    refine q_virt (pc' := 49) (c := 0) (as := [.int 3]) (r := []) ja_C_carry_46 rfl rfl rfl (by decide) ⟨rfl, by decide⟩ ?_
    exact (k1 h1)
  by_cases h2 : a1 = 4
  · refine q_swE (pc' := 52) ja_C_carry_1 (by rw [h2]; decide) (by rw [h2]; exact ⟨_, rfl, rfl⟩) ?_
    refine q_aload_n (pc' := 53) ja_C_carry_52 rfl rfl ?_
    refine q_iconst (pc' := 54) ja_C_carry_53 rfl 4 (by decide) ?_
    refine q_virt (pc' := 57) (c := 0) (as := [.int 4]) (r := []) ja_C_carry_54 rfl rfl rfl (by decide) ⟨rfl, by decide⟩ ?_
    exact (k2 h1 h2)
  by_cases h3 : a1 = 5
  · refine q_swE (pc' := 60) ja_C_carry_1 (by rw [h3]; decide) (by rw [h3]; exact ⟨_, rfl, rfl⟩) ?_
    refine q_aload_n (pc' := 61) ja_C_carry_60 rfl rfl ?_
    refine q_iconst (pc' := 62) ja_C_carry_61 rfl 0 (by decide) ?_
    refine q_virt (pc' := 65) (c := 0) (as := [.int 0]) (r := []) ja_C_carry_62 rfl rfl rfl (by decide) ⟨rfl, by decide⟩ ?_
    exact (k3 h1 h2 h3)
  by_cases h4 : a1 = 6
  · refine q_swE (pc' := 68) ja_C_carry_1 (by rw [h4]; decide) (by rw [h4]; exact ⟨_, rfl, rfl⟩) ?_
    refine q_aload_n (pc' := 69) ja_C_carry_68 rfl rfl ?_
    refine q_iload_n (pc' := 70) ja_C_carry_69 rfl rfl ?_
    refine q_putf (pc' := 73) ja_C_carry_70 rfl (by decide) rfl rfl rfl ?_
    intro s1 e1
    refine q_goto ja_C_carry_73 ?_
    exact q_vret ja_C_carry_83 rfl (k4 h1 h2 h3 h4 s1 e1)
  refine q_swD (pc' := 76) ja_C_carry_1 [0, 4, 5, 6] (List.forall_mem_cons.mpr ⟨fun e => h1 (by rw [e]; decide), (List.forall_mem_cons.mpr ⟨fun e => h2 (by rw [e]; decide), (List.forall_mem_cons.mpr ⟨fun e => h3 (by rw [e]; decide), (List.forall_mem_cons.mpr ⟨fun e => h4 (by rw [e]; decide), (List.forall_mem_nil _)⟩)⟩)⟩)⟩) (by decide) rfl ?_
  refine q_aload_n (pc' := 77) ja_C_carry_76 rfl rfl ?_
  refine q_iload_n (pc' := 78) ja_C_carry_77 rfl rfl ?_
  refine q_iload_n (pc' := 79) ja_C_carry_78 rfl rfl ?_
  refine q_iload_n (pc' := 80) ja_C_carry_79 rfl rfl ?_
  refine q_virt (pc' := 83) (c := 0) (as := [.int a1, .int a2, .int a3]) (r := []) ja_C_carry_80 rfl rfl rfl (by decide) ⟨rfl, by decide⟩ ?_
  exact (k5 h1 h2 h3 h4)
theorem t2_C_carry_49 {G : jv_X} {d : Nat} {B : Option Value → jg_H → Prop} {s : jg_H} (x1 : Int32) (x2 : Int32) (x3 : Int32)
    (k1 : B none s) :
    q_W G d jm_C_carry B 49 [some (.ref 0), some (.int x1), some (.int x2), some (.int x3)] [] s := by
  refine q_goto ja_C_carry_49 ?_
  exact q_vret ja_C_carry_83 rfl k1
theorem t2_C_carry_57 {G : jv_X} {d : Nat} {B : Option Value → jg_H → Prop} {s : jg_H} (x1 : Int32) (x2 : Int32) (x3 : Int32)
    (k1 : B none s) :
    q_W G d jm_C_carry B 57 [some (.ref 0), some (.int x1), some (.int x2), some (.int x3)] [] s := by
  refine q_goto ja_C_carry_57 ?_
  exact q_vret ja_C_carry_83 rfl k1
theorem t2_C_carry_65 {G : jv_X} {d : Nat} {B : Option Value → jg_H → Prop} {s : jg_H} (x1 : Int32) (x2 : Int32) (x3 : Int32)
    (k1 : B none s) :
    q_W G d jm_C_carry B 65 [some (.ref 0), some (.int x1), some (.int x2), some (.int x3)] [] s := by
  refine q_goto ja_C_carry_65 ?_
  exact q_vret ja_C_carry_83 rfl k1
theorem t2_C_carry_83 {G : jv_X} {d : Nat} {B : Option Value → jg_H → Prop} {s : jg_H} (x1 : Int32) (x2 : Int32) (x3 : Int32)
    (k1 : B none s) :
    q_W G d jm_C_carry B 83 [some (.ref 0), some (.int x1), some (.int x2), some (.int x3)] [] s := by
  exact q_vret ja_C_carry_83 rfl k1
theorem t2_C_amendFloor {G : jv_X} {d : Nat} {B : Option Value → jg_H → Prop} {s : jg_H} (a1 : Int32) (a2 : Int32) (a3 : Int32)
    (k1 : q_P G d 84 [.ref 0] s (fun v t => q_W G d jm_C_amendFloor B 4 [some (.ref 0), some (.int a1), some (.int a2), some (.int a3)] (v.toList ++ []) t)) :
    q_P G (d + 1) 99 [.ref 0, .int a1, .int a2, .int a3] s B := by
  refine q_in (M := jm_C_amendFloor) rfl (Nat.le_of_ble_eq_true rfl) (ls := [some (.ref 0), some (.int a1), some (.int a2), some (.int a3)]) rfl ?_
  refine q_aload_n (pc' := 1) ja_C_amendFloor_0 rfl rfl ?_
  refine q_virt (pc' := 4) (c := 0) (as := []) (r := []) ja_C_amendFloor_1 rfl rfl rfl (by decide) ⟨rfl, by decide⟩ ?_
  exact k1
theorem t2_C_amendFloor_4 {G : jv_X} {d : Nat} {B : Option Value → jg_H → Prop} {s : jg_H} (x1 : Int32) (x2 : Int32) (x3 : Int32) {y0 : Nat} (hy0 : f_8 y0)
    (k1 : q_P G d 54 [.ref y0, .int x1, .int x2, .int x3] s (fun v t => q_W G d jm_C_amendFloor B 10 [some (.ref 0), some (.int x1), some (.int x2), some (.int x3)] (v.toList ++ []) t)) :
    q_W G d jm_C_amendFloor B 4 [some (.ref 0), some (.int x1), some (.int x2), some (.int x3)] [.ref y0] s := by
  refine q_iload_n (pc' := 5) ja_C_amendFloor_4 rfl rfl ?_
  refine q_iload_n (pc' := 6) ja_C_amendFloor_5 rfl rfl ?_
  refine q_iload_n (pc' := 7) ja_C_amendFloor_6 rfl rfl ?_
  refine q_virt (pc' := 10) (c := y0) (as := [.int x1, .int x2, .int x3]) (r := []) ja_C_amendFloor_7 rfl rfl rfl (f_8_c hy0) ⟨by rw [f_8_k hy0], by decide⟩ ?_
  exact k1
theorem t2_C_amendFloor_10 {G : jv_X} {d : Nat} {B : Option Value → jg_H → Prop} {s : jg_H} (x1 : Int32) (x2 : Int32) (x3 : Int32) (y0 : Int32)
    (k1 : ¬ y0 = 0 → q_P G d 100 [.ref 63, .int (s 60 0), .int x1, .int x2] s (fun v t => q_W G d jm_C_amendFloor B 33 [some (.ref 0), some (.int x1), some (.int x2), some (.int x3)] (v.toList ++ []) t))
    (k2 : y0 = 0 → B none s) :
    q_W G d jm_C_amendFloor B 10 [some (.ref 0), some (.int x1), some (.int x2), some (.int x3)] [.int y0] s := by
  refine q_if_ne (pc' := 13) ja_C_amendFloor_10 rfl ?_ ?_
  · intro h1
    refine q_aload_n (pc' := 15) ja_C_amendFloor_14 rfl rfl ?_
    refine q_getf (pc' := 18) (v := .ref 60) ja_C_amendFloor_15 rfl (by decide) ⟨rfl, by decide⟩ rfl ?_
    refine q_getf (pc' := 21) (v := .ref 63) ja_C_amendFloor_18 rfl (by decide) ⟨rfl, by decide⟩ rfl ?_
    refine q_aload_n (pc' := 22) ja_C_amendFloor_21 rfl rfl ?_
    refine q_getf (pc' := 25) (v := .ref 60) ja_C_amendFloor_22 rfl (by decide) ⟨rfl, by decide⟩ rfl ?_
    refine q_getf (pc' := 28) (v := .int (s 60 0)) ja_C_amendFloor_25 rfl (by decide) ⟨rfl, by decide⟩ rfl ?_
    refine q_iload_n (pc' := 29) ja_C_amendFloor_28 rfl rfl ?_
    refine q_iload_n (pc' := 30) ja_C_amendFloor_29 rfl rfl ?_
    refine q_stat (pc' := 33) (as := [.ref 63, .int (s 60 0), .int x1, .int x2]) (r := []) ja_C_amendFloor_30 rfl (by decide) rfl rfl ?_
    exact (k1 h1)
  · intro h2
    exact q_vret ja_C_amendFloor_13 rfl (k2 h2)
theorem t2_C_amendFloor_33 {G : jv_X} {d : Nat} {B : Option Value → jg_H → Prop} {s : jg_H} (x1 : Int32) (x2 : Int32) (x3 : Int32)
    (k1 : ∀ s1 : jg_H, s1 = jg_up s 66 0 0 → B none s1) :
    q_W G d jm_C_amendFloor B 33 [some (.ref 0), some (.int x1), some (.int x2), some (.int x3)] [] s := by
  refine q_aload_n (pc' := 34) ja_C_amendFloor_33 rfl rfl ?_
  refine q_getf (pc' := 37) (v := .ref 65) ja_C_amendFloor_34 rfl (by decide) ⟨rfl, by decide⟩ rfl ?_
  refine q_getf (pc' := 40) (v := .ref 66) ja_C_amendFloor_37 rfl (by decide) ⟨rfl, by decide⟩ rfl ?_
  refine q_iconst (pc' := 41) ja_C_amendFloor_40 rfl 0 (by decide) ?_
  refine q_putf (pc' := 44) ja_C_amendFloor_41 rfl (by decide) rfl rfl rfl ?_
  intro s1 e1
  exact q_vret ja_C_amendFloor_44 rfl (k1 s1 e1)
theorem t2_M_vote {G : jv_X} {d : Nat} {B : Option Value → jg_H → Prop} {s : jg_H} 
    (k1 : ¬ (s 146 18) = 0 → (s 146 17) < 100 → jv_in ((s 146 18) - 1) 13 = true)
    (k2 : ¬ (s 146 18) = 0 → (s 146 17) < 100 → jv_in ((s 146 18) - 1) 13 = true)
    (k3 : ¬ (s 146 18) = 0 → (s 146 17) < 100 → jv_in (s 158 ((s 146 18) - 1).toNatClampNeg) 15 = true)
    (k4 : ¬ (s 146 18) = 0 → (s 146 17) < 100 → q_P G d 178 [.ref 146, .int (s 146 15), .int 3, .int (s 157 ((s 146 18) - 1).toNatClampNeg), .int (s 147 (s 158 ((s 146 18) - 1).toNatClampNeg).toNatClampNeg), .int (s 146 18), .int 0, .int 0] s (fun v t => q_W G d jm_M_vote B 61 [some (.ref 146), some (.int ((s 146 18) - 1)), none] (v.toList ++ []) t))
    (k5 : ¬ (s 146 18) = 0 → ¬ (s 146 17) < 100 → B (some (.int (-22))) s)
    (k6 : (s 146 18) = 0 → B (some (.int (-21))) s) :
    q_P G (d + 1) 189 [.ref 146] s B := by
  refine q_in (M := jm_M_vote) rfl (Nat.le_of_ble_eq_true rfl) (ls := [some (.ref 146), none, none]) rfl ?_
  refine q_aload_n (pc' := 1) ja_M_vote_0 rfl rfl ?_
  refine q_getf (pc' := 4) (v := .int (s 146 18)) ja_M_vote_1 rfl (by decide) ⟨rfl, by decide⟩ rfl ?_
  refine q_if_ne (pc' := 7) ja_M_vote_4 rfl ?_ ?_
  · intro h1
    refine q_aload_n (pc' := 11) ja_M_vote_10 rfl rfl ?_
    refine q_getf (pc' := 14) (v := .int (s 146 17)) ja_M_vote_11 rfl (by decide) ⟨rfl, by decide⟩ rfl ?_
    refine q_bipush (pc' := 16) ja_M_vote_14 rfl 100 (by decide) ?_
    refine q_ic_lt (pc' := 19) ja_M_vote_16 rfl ?_ ?_
    · intro h2
      refine q_aload_n (pc' := 23) ja_M_vote_22 rfl rfl ?_
      refine q_getf (pc' := 26) (v := .int (s 146 18)) ja_M_vote_23 rfl (by decide) ⟨rfl, by decide⟩ rfl ?_
      refine q_iconst (pc' := 27) ja_M_vote_26 rfl 1 (by decide) ?_
      refine q_isub (pc' := 28) ja_M_vote_27 rfl ?_
      refine q_istore_n (pc' := 29) (ls' := [some (.ref 146), some (.int ((s 146 18) - 1)), none]) ja_M_vote_28 rfl ⟨Nat.le_of_ble_eq_true rfl, rfl⟩ rfl ?_
      refine q_aload_n (pc' := 30) ja_M_vote_29 rfl rfl ?_
      refine q_aload_n (pc' := 31) ja_M_vote_30 rfl rfl ?_
      refine q_getf (pc' := 34) (v := .int (s 146 15)) ja_M_vote_31 rfl (by decide) ⟨rfl, by decide⟩ rfl ?_
      refine q_iconst (pc' := 35) ja_M_vote_34 rfl 3 (by decide) ?_
      refine q_aload_n (pc' := 36) ja_M_vote_35 rfl rfl ?_
      refine q_getf (pc' := 39) (v := .ref 157) ja_M_vote_36 rfl (by decide) ⟨rfl, by decide⟩ rfl ?_
      refine q_iload_n (pc' := 40) ja_M_vote_39 rfl rfl ?_
      refine q_iald (pc' := 41) (v := .int (s 157 ((s 146 18) - 1).toNatClampNeg)) ja_M_vote_40 rfl (by decide) (l := 13) rfl (k1 h1 h2) rfl ?_
      refine q_aload_n (pc' := 42) ja_M_vote_41 rfl rfl ?_
      refine q_getf (pc' := 45) (v := .ref 147) ja_M_vote_42 rfl (by decide) ⟨rfl, by decide⟩ rfl ?_
      refine q_aload_n (pc' := 46) ja_M_vote_45 rfl rfl ?_
      refine q_getf (pc' := 49) (v := .ref 158) ja_M_vote_46 rfl (by decide) ⟨rfl, by decide⟩ rfl ?_
      refine q_iload_n (pc' := 50) ja_M_vote_49 rfl rfl ?_
      refine q_iald (pc' := 51) (v := .int (s 158 ((s 146 18) - 1).toNatClampNeg)) ja_M_vote_50 rfl (by decide) (l := 13) rfl (k2 h1 h2) rfl ?_
      refine q_iald (pc' := 52) (v := .int (s 147 (s 158 ((s 146 18) - 1).toNatClampNeg).toNatClampNeg)) ja_M_vote_51 rfl (by decide) (l := 15) rfl (k3 h1 h2) rfl ?_
      refine q_aload_n (pc' := 53) ja_M_vote_52 rfl rfl ?_
      refine q_getf (pc' := 56) (v := .int (s 146 18)) ja_M_vote_53 rfl (by decide) ⟨rfl, by decide⟩ rfl ?_
      refine q_iconst (pc' := 57) ja_M_vote_56 rfl 0 (by decide) ?_
      refine q_iconst (pc' := 58) ja_M_vote_57 rfl 0 (by decide) ?_
      refine q_virt (pc' := 61) (c := 146) (as := [.int (s 146 15), .int 3, .int (s 157 ((s 146 18) - 1).toNatClampNeg), .int (s 147 (s 158 ((s 146 18) - 1).toNatClampNeg).toNatClampNeg), .int (s 146 18), .int 0, .int 0]) (r := []) ja_M_vote_58 rfl rfl rfl (by decide) ⟨rfl, by decide⟩ ?_
      exact (k4 h1 h2)
    · intro h3
      refine q_bipush (pc' := 21) ja_M_vote_19 rfl (-22) (by decide) ?_
      exact q_iret ja_M_vote_21 rfl rfl (k5 h1 h3)
  · intro h4
    refine q_bipush (pc' := 9) ja_M_vote_7 rfl (-21) (by decide) ?_
    exact q_iret ja_M_vote_9 rfl rfl (k6 h4)
theorem t2_M_vote_61 {G : jv_X} {d : Nat} {B : Option Value → jg_H → Prop} {s : jg_H} (x1 : Int32) (y0 : Int32)
    (k1 : ¬ y0 = 0 → (s 146 13) = (-1) → q_P G d 190 [.ref 146, .int x1, .int 1] s (fun v t => q_W G d jm_M_vote B 90 [some (.ref 146), some (.int x1), none] (v.toList ++ [.ref 146]) t))
    (k2 : ¬ y0 = 0 → ¬ (s 146 13) = (-1) → q_P G d 169 [.ref 146, .int (s 146 13)] s (fun v t => q_W G d jm_M_vote B 83 [some (.ref 146), some (.int x1), none] (v.toList ++ []) t))
    (k3 : y0 = 0 → B (some (.int (-23))) s) :
    q_W G d jm_M_vote B 61 [some (.ref 146), some (.int x1), none] [.int y0] s := by
  refine q_if_ne (pc' := 64) ja_M_vote_61 rfl ?_ ?_
  · intro h1
    refine q_aload_n (pc' := 68) ja_M_vote_67 rfl rfl ?_
    refine q_getf (pc' := 71) (v := .int (s 146 13)) ja_M_vote_68 rfl (by decide) ⟨rfl, by decide⟩ rfl ?_
    refine q_iconst (pc' := 72) ja_M_vote_71 rfl (-1) (by decide) ?_
    refine q_ic_eq (pc' := 75) ja_M_vote_72 rfl ?_ ?_
    · intro h2
      refine q_aload_n (pc' := 84) ja_M_vote_83 rfl rfl ?_
      refine q_aload_n (pc' := 85) ja_M_vote_84 rfl rfl ?_
      refine q_iload_n (pc' := 86) ja_M_vote_85 rfl rfl ?_
      refine q_iconst (pc' := 87) ja_M_vote_86 rfl 1 (by decide) ?_
      refine q_virt (pc' := 90) (c := 146) (as := [.int x1, .int 1]) (r := [.ref 146]) ja_M_vote_87 rfl rfl rfl (by decide) ⟨rfl, by decide⟩ ?_
      exact (k1 h1 h2)
    · intro h3
      refine q_aload_n (pc' := 76) ja_M_vote_75 rfl rfl ?_
      refine q_aload_n (pc' := 77) ja_M_vote_76 rfl rfl ?_
      refine q_getf (pc' := 80) (v := .int (s 146 13)) ja_M_vote_77 rfl (by decide) ⟨rfl, by decide⟩ rfl ?_
      refine q_virt (pc' := 83) (c := 146) (as := [.int (s 146 13)]) (r := []) ja_M_vote_80 rfl rfl rfl (by decide) ⟨rfl, by decide⟩ ?_
      exact (k2 h1 h3)
  · intro h4
    refine q_bipush (pc' := 66) ja_M_vote_64 rfl (-23) (by decide) ?_
    exact q_iret ja_M_vote_66 rfl rfl (k3 h4)
theorem t2_M_vote_83 {G : jv_X} {d : Nat} {B : Option Value → jg_H → Prop} {s : jg_H} (x1 : Int32)
    (k1 : q_P G d 190 [.ref 146, .int x1, .int 1] s (fun v t => q_W G d jm_M_vote B 90 [some (.ref 146), some (.int x1), none] (v.toList ++ [.ref 146]) t)) :
    q_W G d jm_M_vote B 83 [some (.ref 146), some (.int x1), none] [] s := by
  refine q_aload_n (pc' := 84) ja_M_vote_83 rfl rfl ?_
  refine q_aload_n (pc' := 85) ja_M_vote_84 rfl rfl ?_
  refine q_iload_n (pc' := 86) ja_M_vote_85 rfl rfl ?_
  refine q_iconst (pc' := 87) ja_M_vote_86 rfl 1 (by decide) ?_
  refine q_virt (pc' := 90) (c := 146) (as := [.int x1, .int 1]) (r := [.ref 146]) ja_M_vote_87 rfl rfl rfl (by decide) ⟨rfl, by decide⟩ ?_
  exact k1
theorem t2_M_vote_90 {G : jv_X} {d : Nat} {B : Option Value → jg_H → Prop} {s : jg_H} (x1 : Int32) (y1 : Int32)
    (k1 : ∀ s1 : jg_H, s1 = jg_up s 146 25 y1 → q_P G d 190 [.ref 146, .int x1, .int 2] s1 (fun v t => q_W G d jm_M_vote B 100 [some (.ref 146), some (.int x1), none] (v.toList ++ [.ref 146]) t)) :
    q_W G d jm_M_vote B 90 [some (.ref 146), some (.int x1), none] [.int y1, .ref 146] s := by
  refine q_putf (pc' := 93) ja_M_vote_90 rfl (by decide) rfl rfl rfl ?_
  intro s1 e1
  refine q_aload_n (pc' := 94) ja_M_vote_93 rfl rfl ?_
  refine q_aload_n (pc' := 95) ja_M_vote_94 rfl rfl ?_
  refine q_iload_n (pc' := 96) ja_M_vote_95 rfl rfl ?_
  refine q_iconst (pc' := 97) ja_M_vote_96 rfl 2 (by decide) ?_
  refine q_virt (pc' := 100) (c := 146) (as := [.int x1, .int 2]) (r := [.ref 146]) ja_M_vote_97 rfl rfl rfl (by decide) ⟨rfl, by decide⟩ ?_
  exact (k1 s1 e1)
theorem t2_M_vote_100 {G : jv_X} {d : Nat} {B : Option Value → jg_H → Prop} {s : jg_H} (x1 : Int32) (y1 : Int32)
    (k1 : ∀ s1 : jg_H, s1 = jg_up s 146 26 y1 → jv_in x1 13 = true)
    (k2 : ∀ s1 : jg_H, s1 = jg_up s 146 26 y1 → ∀ s2 : jg_H, s2 = jg_up s1 146 27 (s1 157 x1.toNatClampNeg) → jv_in x1 13 = true)
    (k3 : ∀ s1 : jg_H, s1 = jg_up s 146 26 y1 → ∀ s2 : jg_H, s2 = jg_up s1 146 27 (s1 157 x1.toNatClampNeg) → jv_in x1 13 = true)
    (k4 : ∀ s1 : jg_H, s1 = jg_up s 146 26 y1 → ∀ s2 : jg_H, s2 = jg_up s1 146 27 (s1 157 x1.toNatClampNeg) → jv_in (s2 158 x1.toNatClampNeg) 15 = true)
    (k5 : ∀ s1 : jg_H, s1 = jg_up s 146 26 y1 → ∀ s2 : jg_H, s2 = jg_up s1 146 27 (s1 157 x1.toNatClampNeg) → q_P G d 178 [.ref 146, .int (s2 146 15), .int 2, .int (s2 157 x1.toNatClampNeg), .int (s2 147 (s2 158 x1.toNatClampNeg).toNatClampNeg), .int (s2 146 18), .int (s2 146 25), .int (s2 146 26)] s2 (fun v t => q_W G d jm_M_vote B 151 [some (.ref 146), some (.int x1), none] (v.toList ++ []) t)) :
    q_W G d jm_M_vote B 100 [some (.ref 146), some (.int x1), none] [.int y1, .ref 146] s := by
  refine q_putf (pc' := 103) ja_M_vote_100 rfl (by decide) rfl rfl rfl ?_
  intro s1 e1
  refine q_aload_n (pc' := 104) ja_M_vote_103 rfl rfl ?_
  refine q_aload_n (pc' := 105) ja_M_vote_104 rfl rfl ?_
  refine q_getf (pc' := 108) (v := .ref 157) ja_M_vote_105 rfl (by decide) ⟨rfl, by decide⟩ rfl ?_
  refine q_iload_n (pc' := 109) ja_M_vote_108 rfl rfl ?_
  refine q_iald (pc' := 110) (v := .int (s1 157 x1.toNatClampNeg)) ja_M_vote_109 rfl (by decide) (l := 13) rfl (k1 s1 e1) rfl ?_
  refine q_putf (pc' := 113) ja_M_vote_110 rfl (by decide) rfl rfl rfl ?_
  intro s2 e2
  refine q_aload_n (pc' := 114) ja_M_vote_113 rfl rfl ?_
  refine q_aload_n (pc' := 115) ja_M_vote_114 rfl rfl ?_
  refine q_getf (pc' := 118) (v := .int (s2 146 15)) ja_M_vote_115 rfl (by decide) ⟨rfl, by decide⟩ rfl ?_
  refine q_iconst (pc' := 119) ja_M_vote_118 rfl 2 (by decide) ?_
  refine q_aload_n (pc' := 120) ja_M_vote_119 rfl rfl ?_
  refine q_getf (pc' := 123) (v := .ref 157) ja_M_vote_120 rfl (by decide) ⟨rfl, by decide⟩ rfl ?_
  refine q_iload_n (pc' := 124) ja_M_vote_123 rfl rfl ?_
  refine q_iald (pc' := 125) (v := .int (s2 157 x1.toNatClampNeg)) ja_M_vote_124 rfl (by decide) (l := 13) rfl (k2 s1 e1 s2 e2) rfl ?_
  refine q_aload_n (pc' := 126) ja_M_vote_125 rfl rfl ?_
  refine q_getf (pc' := 129) (v := .ref 147) ja_M_vote_126 rfl (by decide) ⟨rfl, by decide⟩ rfl ?_
  refine q_aload_n (pc' := 130) ja_M_vote_129 rfl rfl ?_
  refine q_getf (pc' := 133) (v := .ref 158) ja_M_vote_130 rfl (by decide) ⟨rfl, by decide⟩ rfl ?_
  refine q_iload_n (pc' := 134) ja_M_vote_133 rfl rfl ?_
  refine q_iald (pc' := 135) (v := .int (s2 158 x1.toNatClampNeg)) ja_M_vote_134 rfl (by decide) (l := 13) rfl (k3 s1 e1 s2 e2) rfl ?_
  refine q_iald (pc' := 136) (v := .int (s2 147 (s2 158 x1.toNatClampNeg).toNatClampNeg)) ja_M_vote_135 rfl (by decide) (l := 15) rfl (k4 s1 e1 s2 e2) rfl ?_
  refine q_aload_n (pc' := 137) ja_M_vote_136 rfl rfl ?_
  refine q_getf (pc' := 140) (v := .int (s2 146 18)) ja_M_vote_137 rfl (by decide) ⟨rfl, by decide⟩ rfl ?_
  refine q_aload_n (pc' := 141) ja_M_vote_140 rfl rfl ?_
  refine q_getf (pc' := 144) (v := .int (s2 146 25)) ja_M_vote_141 rfl (by decide) ⟨rfl, by decide⟩ rfl ?_
  refine q_aload_n (pc' := 145) ja_M_vote_144 rfl rfl ?_
  refine q_getf (pc' := 148) (v := .int (s2 146 26)) ja_M_vote_145 rfl (by decide) ⟨rfl, by decide⟩ rfl ?_
  refine q_virt (pc' := 151) (c := 146) (as := [.int (s2 146 15), .int 2, .int (s2 157 x1.toNatClampNeg), .int (s2 147 (s2 158 x1.toNatClampNeg).toNatClampNeg), .int (s2 146 18), .int (s2 146 25), .int (s2 146 26)]) (r := []) ja_M_vote_148 rfl rfl rfl (by decide) ⟨rfl, by decide⟩ ?_
  exact (k5 s1 e1 s2 e2)
theorem t2_M_vote_151 {G : jv_X} {d : Nat} {B : Option Value → jg_H → Prop} {s : jg_H} (x1 : Int32) (y0 : Int32)
    (k1 : y0 = 0 → ∀ s1 : jg_H, s1 = jg_up s 146 28 0 → ∀ s2 : jg_H, s2 = jg_up s1 146 18 ((s1 146 18) - 1) → ¬ (s2 146 27) = 0 → ∀ s3 : jg_H, s3 = jg_up s2 146 17 ((s2 146 17) + 1) → B (some (.int (s3 146 28))) s3)
    (k2 : y0 = 0 → ∀ s1 : jg_H, s1 = jg_up s 146 28 0 → ∀ s2 : jg_H, s2 = jg_up s1 146 18 ((s1 146 18) - 1) → (s2 146 27) = 0 → q_P G d 197 [.ref 146, .int 4] s2 (fun v t => q_W G d jm_M_vote B 207 [some (.ref 146), some (.int x1), some (.int 0)] (v.toList ++ []) t))
    (k3 : ¬ y0 = 0 → ∀ s4 : jg_H, s4 = jg_up s 146 28 1 → ∀ s5 : jg_H, s5 = jg_up s4 146 18 ((s4 146 18) - 1) → q_P G d 196 [.ref 146, .int x1] s5 (fun v t => q_W G d jm_M_vote B 192 [some (.ref 146), some (.int x1), some (.int 1)] (v.toList ++ []) t)) :
    q_W G d jm_M_vote B 151 [some (.ref 146), some (.int x1), none] [.int y0] s := by
  refine q_if_eq (pc' := 154) ja_M_vote_151 rfl ?_ ?_
  · intro h1
    refine q_iconst (pc' := 159) ja_M_vote_158 rfl 0 (by decide) ?_
    refine q_istore_n (pc' := 160) (ls' := [some (.ref 146), some (.int x1), some (.int 0)]) ja_M_vote_159 rfl ⟨Nat.le_of_ble_eq_true rfl, rfl⟩ rfl ?_
    refine q_aload_n (pc' := 161) ja_M_vote_160 rfl rfl ?_
    refine q_iload_n (pc' := 162) ja_M_vote_161 rfl rfl ?_
    refine q_if_eq (pc' := 165) ja_M_vote_162 rfl (fun _ => ?_) (fun h => absurd ((by decide : (0 : Int32) = 0)) h)
    refine q_iconst (pc' := 170) ja_M_vote_169 rfl 0 (by decide) ?_
    refine q_putf (pc' := 173) ja_M_vote_170 rfl (by decide) rfl rfl rfl ?_
    intro s1 e1
    refine q_aload_n (pc' := 174) ja_M_vote_173 rfl rfl ?_
    refine q_dup (pc' := 175) ja_M_vote_174 rfl rfl ?_
    refine q_getf (pc' := 178) (v := .int (s1 146 18)) ja_M_vote_175 rfl (by decide) ⟨rfl, by decide⟩ rfl ?_
    refine q_iconst (pc' := 179) ja_M_vote_178 rfl 1 (by decide) ?_
    refine q_isub (pc' := 180) ja_M_vote_179 rfl ?_
    refine q_putf (pc' := 183) ja_M_vote_180 rfl (by decide) rfl rfl rfl ?_
    intro s2 e2
    refine q_iload_n (pc' := 184) ja_M_vote_183 rfl rfl ?_
    refine q_if_eq (pc' := 187) ja_M_vote_184 rfl (fun _ => ?_) (fun h => absurd ((by decide : (0 : Int32) = 0)) h)
    refine q_aload_n (pc' := 196) ja_M_vote_195 rfl rfl ?_
    refine q_getf (pc' := 199) (v := .int (s2 146 27)) ja_M_vote_196 rfl (by decide) ⟨rfl, by decide⟩ rfl ?_
    refine q_if_ne (pc' := 202) ja_M_vote_199 rfl ?_ ?_
    · intro h2
      refine q_aload_n (pc' := 208) ja_M_vote_207 rfl rfl ?_
      refine q_dup (pc' := 209) ja_M_vote_208 rfl rfl ?_
      refine q_getf (pc' := 212) (v := .int (s2 146 17)) ja_M_vote_209 rfl (by decide) ⟨rfl, by decide⟩ rfl ?_
      refine q_iconst (pc' := 213) ja_M_vote_212 rfl 1 (by decide) ?_
      refine q_iadd (pc' := 214) ja_M_vote_213 rfl ?_
      refine q_putf (pc' := 217) ja_M_vote_214 rfl (by decide) rfl rfl rfl ?_
      intro s3 e3
      refine q_aload_n (pc' := 218) ja_M_vote_217 rfl rfl ?_
      refine q_getf (pc' := 221) (v := .int (s3 146 28)) ja_M_vote_218 rfl (by decide) ⟨rfl, by decide⟩ rfl ?_
      exact q_iret ja_M_vote_221 rfl rfl (k1 h1 s1 e1 s2 e2 h2 s3 e3)
    · intro h3
      refine q_aload_n (pc' := 203) ja_M_vote_202 rfl rfl ?_
      refine q_iconst (pc' := 204) ja_M_vote_203 rfl 4 (by decide) ?_
      refine q_virt (pc' := 207) (c := 146) (as := [.int 4]) (r := []) ja_M_vote_204 rfl rfl rfl (by decide) ⟨rfl, by decide⟩ ?_
      exact (k2 h1 s1 e1 s2 e2 h3)
  · intro h4
    refine q_iconst (pc' := 155) ja_M_vote_154 rfl 1 (by decide) ?_
    refine q_goto ja_M_vote_155 ?_
    refine q_istore_n (pc' := 160) (ls' := [some (.ref 146), some (.int x1), some (.int 1)]) ja_M_vote_159 rfl ⟨Nat.le_of_ble_eq_true rfl, rfl⟩ rfl ?_
    refine q_aload_n (pc' := 161) ja_M_vote_160 rfl rfl ?_
    refine q_iload_n (pc' := 162) ja_M_vote_161 rfl rfl ?_
    refine q_if_eq (pc' := 165) ja_M_vote_162 rfl (fun h => absurd h ((by decide : ¬ (1 : Int32) = 0))) (fun _ => ?_)
    refine q_iconst (pc' := 166) ja_M_vote_165 rfl 1 (by decide) ?_
    refine q_goto ja_M_vote_166 ?_
    refine q_putf (pc' := 173) ja_M_vote_170 rfl (by decide) rfl rfl rfl ?_
    intro s4 e4
    refine q_aload_n (pc' := 174) ja_M_vote_173 rfl rfl ?_
    refine q_dup (pc' := 175) ja_M_vote_174 rfl rfl ?_
    refine q_getf (pc' := 178) (v := .int (s4 146 18)) ja_M_vote_175 rfl (by decide) ⟨rfl, by decide⟩ rfl ?_
    refine q_iconst (pc' := 179) ja_M_vote_178 rfl 1 (by decide) ?_
    refine q_isub (pc' := 180) ja_M_vote_179 rfl ?_
    refine q_putf (pc' := 183) ja_M_vote_180 rfl (by decide) rfl rfl rfl ?_
    intro s5 e5
    refine q_iload_n (pc' := 184) ja_M_vote_183 rfl rfl ?_
    refine q_if_eq (pc' := 187) ja_M_vote_184 rfl (fun h => absurd h ((by decide : ¬ (1 : Int32) = 0))) (fun _ => ?_)
    refine q_aload_n (pc' := 188) ja_M_vote_187 rfl rfl ?_
    refine q_iload_n (pc' := 189) ja_M_vote_188 rfl rfl ?_
    refine q_virt (pc' := 192) (c := 146) (as := [.int x1]) (r := []) ja_M_vote_189 rfl rfl rfl (by decide) ⟨rfl, by decide⟩ ?_
    exact (k3 h4 s4 e4 s5 e5)
theorem t2_M_vote_192 {G : jv_X} {d : Nat} {B : Option Value → jg_H → Prop} {s : jg_H} (x1 : Int32) (x2 : Int32)
    (k1 : ∀ s1 : jg_H, s1 = jg_up s 146 17 ((s 146 17) + 1) → B (some (.int (s1 146 28))) s1) :
    q_W G d jm_M_vote B 192 [some (.ref 146), some (.int x1), some (.int x2)] [] s := by
  refine q_goto ja_M_vote_192 ?_
  refine q_aload_n (pc' := 208) ja_M_vote_207 rfl rfl ?_
  refine q_dup (pc' := 209) ja_M_vote_208 rfl rfl ?_
  refine q_getf (pc' := 212) (v := .int (s 146 17)) ja_M_vote_209 rfl (by decide) ⟨rfl, by decide⟩ rfl ?_
  refine q_iconst (pc' := 213) ja_M_vote_212 rfl 1 (by decide) ?_
  refine q_iadd (pc' := 214) ja_M_vote_213 rfl ?_
  refine q_putf (pc' := 217) ja_M_vote_214 rfl (by decide) rfl rfl rfl ?_
  intro s1 e1
  refine q_aload_n (pc' := 218) ja_M_vote_217 rfl rfl ?_
  refine q_getf (pc' := 221) (v := .int (s1 146 28)) ja_M_vote_218 rfl (by decide) ⟨rfl, by decide⟩ rfl ?_
  exact q_iret ja_M_vote_221 rfl rfl (k1 s1 e1)
theorem t2_M_vote_207 {G : jv_X} {d : Nat} {B : Option Value → jg_H → Prop} {s : jg_H} (x1 : Int32) (x2 : Int32)
    (k1 : ∀ s1 : jg_H, s1 = jg_up s 146 17 ((s 146 17) + 1) → B (some (.int (s1 146 28))) s1) :
    q_W G d jm_M_vote B 207 [some (.ref 146), some (.int x1), some (.int x2)] [] s := by
  refine q_aload_n (pc' := 208) ja_M_vote_207 rfl rfl ?_
  refine q_dup (pc' := 209) ja_M_vote_208 rfl rfl ?_
  refine q_getf (pc' := 212) (v := .int (s 146 17)) ja_M_vote_209 rfl (by decide) ⟨rfl, by decide⟩ rfl ?_
  refine q_iconst (pc' := 213) ja_M_vote_212 rfl 1 (by decide) ?_
  refine q_iadd (pc' := 214) ja_M_vote_213 rfl ?_
  refine q_putf (pc' := 217) ja_M_vote_214 rfl (by decide) rfl rfl rfl ?_
  intro s1 e1
  refine q_aload_n (pc' := 218) ja_M_vote_217 rfl rfl ?_
  refine q_getf (pc' := 221) (v := .int (s1 146 28)) ja_M_vote_218 rfl (by decide) ⟨rfl, by decide⟩ rfl ?_
  exact q_iret ja_M_vote_221 rfl rfl (k1 s1 e1)
theorem t2_M_carries {G : jv_X} {d : Nat} {B : Option Value → jg_H → Prop} {s : jg_H} (a1 : Int32)
    (k1 : jv_in a1 13 = true)
    (k2 : (s 157 a1.toNatClampNeg) = 0 → q_P G d 197 [.ref 146, .int 3] s (fun v t => q_W G d jm_M_carries B 53 [some (.ref 146), some (.int a1), none, none] (v.toList ++ []) t))
    (k3 : ¬ (s 157 a1.toNatClampNeg) = 0 → (s 157 a1.toNatClampNeg) = 4 → q_P G d 197 [.ref 146, .int 4] s (fun v t => q_W G d jm_M_carries B 61 [some (.ref 146), some (.int a1), none, none] (v.toList ++ []) t))
    (k4 : ¬ (s 157 a1.toNatClampNeg) = 0 → ¬ (s 157 a1.toNatClampNeg) = 4 → (s 157 a1.toNatClampNeg) = 5 → q_P G d 197 [.ref 146, .int 0] s (fun v t => q_W G d jm_M_carries B 69 [some (.ref 146), some (.int a1), none, none] (v.toList ++ []) t))
    (k5 : ¬ (s 157 a1.toNatClampNeg) = 0 → ¬ (s 157 a1.toNatClampNeg) = 4 → ¬ (s 157 a1.toNatClampNeg) = 5 → (s 157 a1.toNatClampNeg) = 6 → jv_in a1 13 = true)
    (k6 : ¬ (s 157 a1.toNatClampNeg) = 0 → ¬ (s 157 a1.toNatClampNeg) = 4 → ¬ (s 157 a1.toNatClampNeg) = 5 → (s 157 a1.toNatClampNeg) = 6 → ∀ s1 : jg_H, s1 = jg_up s 146 15 (s 160 a1.toNatClampNeg) → B none s1)
    (k7 : ¬ (s 157 a1.toNatClampNeg) = 0 → ¬ (s 157 a1.toNatClampNeg) = 4 → ¬ (s 157 a1.toNatClampNeg) = 5 → ¬ (s 157 a1.toNatClampNeg) = 6 → q_P G d 194 [.ref 146, .int a1] s (fun v t => q_W G d jm_M_carries B 90 [some (.ref 146), some (.int a1), none, none] (v.toList ++ []) t)) :
    q_P G (d + 1) 196 [.ref 146, .int a1] s B := by
  refine q_in (M := jm_M_carries) rfl (Nat.le_of_ble_eq_true rfl) (ls := [some (.ref 146), some (.int a1), none, none]) rfl ?_
  refine q_aload_n (pc' := 1) ja_M_carries_0 rfl rfl ?_
  refine q_getf (pc' := 4) (v := .ref 157) ja_M_carries_1 rfl (by decide) ⟨rfl, by decide⟩ rfl ?_
  refine q_iload_n (pc' := 5) ja_M_carries_4 rfl rfl ?_
  refine q_iald (pc' := 6) (v := .int (s 157 a1.toNatClampNeg)) ja_M_carries_5 rfl (by decide) (l := 13) rfl k1 rfl ?_
  by_cases h1 : (s 157 a1.toNatClampNeg) = 0
  · refine q_swE (pc' := 48) ja_M_carries_6 (by rw [h1]; decide) (by rw [h1]; exact ⟨_, rfl, rfl⟩) ?_
    refine q_aload_n (pc' := 49) ja_M_carries_48 rfl rfl ?_
    refine q_iconst (pc' := 50) ja_M_carries_49 rfl 3 (by decide) ?_
    refine q_virt (pc' := 53) (c := 146) (as := [.int 3]) (r := []) ja_M_carries_50 rfl rfl rfl (by decide) ⟨rfl, by decide⟩ ?_
    exact (k2 h1)
  by_cases h2 : (s 157 a1.toNatClampNeg) = 4
  · refine q_swE (pc' := 56) ja_M_carries_6 (by rw [h2]; decide) (by rw [h2]; exact ⟨_, rfl, rfl⟩) ?_
    refine q_aload_n (pc' := 57) ja_M_carries_56 rfl rfl ?_
    refine q_iconst (pc' := 58) ja_M_carries_57 rfl 4 (by decide) ?_
    refine q_virt (pc' := 61) (c := 146) (as := [.int 4]) (r := []) ja_M_carries_58 rfl rfl rfl (by decide) ⟨rfl, by decide⟩ ?_
    exact (k3 h1 h2)
  by_cases h3 : (s 157 a1.toNatClampNeg) = 5
  · refine q_swE (pc' := 64) ja_M_carries_6 (by rw [h3]; decide) (by rw [h3]; exact ⟨_, rfl, rfl⟩) ?_
    refine q_aload_n (pc' := 65) ja_M_carries_64 rfl rfl ?_
    refine q_iconst (pc' := 66) ja_M_carries_65 rfl 0 (by decide) ?_
    refine q_virt (pc' := 69) (c := 146) (as := [.int 0]) (r := []) ja_M_carries_66 rfl rfl rfl (by decide) ⟨rfl, by decide⟩ ?_
    exact (k4 h1 h2 h3)
  by_cases h4 : (s 157 a1.toNatClampNeg) = 6
  · refine q_swE (pc' := 72) ja_M_carries_6 (by rw [h4]; decide) (by rw [h4]; exact ⟨_, rfl, rfl⟩) ?_
    refine q_aload_n (pc' := 73) ja_M_carries_72 rfl rfl ?_
    refine q_aload_n (pc' := 74) ja_M_carries_73 rfl rfl ?_
    refine q_getf (pc' := 77) (v := .ref 160) ja_M_carries_74 rfl (by decide) ⟨rfl, by decide⟩ rfl ?_
    refine q_iload_n (pc' := 78) ja_M_carries_77 rfl rfl ?_
    refine q_iald (pc' := 79) (v := .int (s 160 a1.toNatClampNeg)) ja_M_carries_78 rfl (by decide) (l := 13) rfl (k5 h1 h2 h3 h4) rfl ?_
    refine q_putf (pc' := 82) ja_M_carries_79 rfl (by decide) rfl rfl rfl ?_
    intro s1 e1
    refine q_goto ja_M_carries_82 ?_
    exact q_vret ja_M_carries_192 rfl (k6 h1 h2 h3 h4 s1 e1)
  refine q_swD (pc' := 85) ja_M_carries_6 [0, 4, 5, 6] (List.forall_mem_cons.mpr ⟨fun e => h1 (by rw [e]; decide), (List.forall_mem_cons.mpr ⟨fun e => h2 (by rw [e]; decide), (List.forall_mem_cons.mpr ⟨fun e => h3 (by rw [e]; decide), (List.forall_mem_cons.mpr ⟨fun e => h4 (by rw [e]; decide), (List.forall_mem_nil _)⟩)⟩)⟩)⟩) (by decide) rfl ?_
  refine q_aload_n (pc' := 86) ja_M_carries_85 rfl rfl ?_
  refine q_iload_n (pc' := 87) ja_M_carries_86 rfl rfl ?_
  refine q_virt (pc' := 90) (c := 146) (as := [.int a1]) (r := []) ja_M_carries_87 rfl rfl rfl (by decide) ⟨rfl, by decide⟩ ?_
  exact (k7 h1 h2 h3 h4)
theorem t2_M_carries_53 {G : jv_X} {d : Nat} {B : Option Value → jg_H → Prop} {s : jg_H} (x1 : Int32)
    (k1 : B none s) :
    q_W G d jm_M_carries B 53 [some (.ref 146), some (.int x1), none, none] [] s := by
  refine q_goto ja_M_carries_53 ?_
  exact q_vret ja_M_carries_192 rfl k1
theorem t2_M_carries_61 {G : jv_X} {d : Nat} {B : Option Value → jg_H → Prop} {s : jg_H} (x1 : Int32)
    (k1 : B none s) :
    q_W G d jm_M_carries B 61 [some (.ref 146), some (.int x1), none, none] [] s := by
  refine q_goto ja_M_carries_61 ?_
  exact q_vret ja_M_carries_192 rfl k1
theorem t2_M_carries_69 {G : jv_X} {d : Nat} {B : Option Value → jg_H → Prop} {s : jg_H} (x1 : Int32)
    (k1 : B none s) :
    q_W G d jm_M_carries B 69 [some (.ref 146), some (.int x1), none, none] [] s := by
  refine q_goto ja_M_carries_69 ?_
  exact q_vret ja_M_carries_192 rfl k1
theorem t2_M_carries_90 {G : jv_X} {d : Nat} {B : Option Value → jg_H → Prop} {s : jg_H} (x1 : Int32) (y0 : Int32)
    (k1 : y0 = 0 → B none s)
    (k2 : ¬ y0 = 0 → q_P G d 195 [.ref 146, .int x1] s (fun v t => q_W G d jm_M_carries B 98 [some (.ref 146), some (.int x1), none, none] (v.toList ++ []) t)) :
    q_W G d jm_M_carries B 90 [some (.ref 146), some (.int x1), none, none] [.int y0] s := by
  refine q_if_eq (pc' := 93) ja_M_carries_90 rfl ?_ ?_
  · intro h1
    exact q_vret ja_M_carries_192 rfl (k1 h1)
  · intro h2
    refine q_aload_n (pc' := 94) ja_M_carries_93 rfl rfl ?_
    refine q_iload_n (pc' := 95) ja_M_carries_94 rfl rfl ?_
    refine q_virt (pc' := 98) (c := 146) (as := [.int x1]) (r := []) ja_M_carries_95 rfl rfl rfl (by decide) ⟨rfl, by decide⟩ ?_
    exact (k2 h2)
theorem t2_M_carries_98 {G : jv_X} {d : Nat} {B : Option Value → jg_H → Prop} {s : jg_H} (x1 : Int32) (y0 : Int32)
    (k1 : q_P G d 198 [.ref 146, .int x1] s (fun v t => q_W G d jm_M_carries B 104 [some (.ref 146), some (.int x1), some (.int y0), none] (v.toList ++ []) t)) :
    q_W G d jm_M_carries B 98 [some (.ref 146), some (.int x1), none, none] [.int y0] s := by
  refine q_istore_n (pc' := 99) (ls' := [some (.ref 146), some (.int x1), some (.int y0), none]) ja_M_carries_98 rfl ⟨Nat.le_of_ble_eq_true rfl, rfl⟩ rfl ?_
  refine q_aload_n (pc' := 100) ja_M_carries_99 rfl rfl ?_
  refine q_iload_n (pc' := 101) ja_M_carries_100 rfl rfl ?_
  refine q_virt (pc' := 104) (c := 146) (as := [.int x1]) (r := []) ja_M_carries_101 rfl rfl rfl (by decide) ⟨rfl, by decide⟩ ?_
  exact k1
theorem t2_M_carries_104 {G : jv_X} {d : Nat} {B : Option Value → jg_H → Prop} {s : jg_H} (x1 : Int32) (x2 : Int32)
    (k1 : jv_in (s 146 13) 8 = true)
    (k2 : ∀ s1 : jg_H, s1 = jg_up s 153 (s 146 13).toNatClampNeg (s 146 53) → q_W G d jm_M_carries B 119 [some (.ref 146), some (.int x1), some (.int x2), some (.int 0)] [] s1) :
    q_W G d jm_M_carries B 104 [some (.ref 146), some (.int x1), some (.int x2), none] [] s := by
  refine q_aload_n (pc' := 105) ja_M_carries_104 rfl rfl ?_
  refine q_getf (pc' := 108) (v := .ref 153) ja_M_carries_105 rfl (by decide) ⟨rfl, by decide⟩ rfl ?_
  refine q_aload_n (pc' := 109) ja_M_carries_108 rfl rfl ?_
  refine q_getf (pc' := 112) (v := .int (s 146 13)) ja_M_carries_109 rfl (by decide) ⟨rfl, by decide⟩ rfl ?_
  refine q_aload_n (pc' := 113) ja_M_carries_112 rfl rfl ?_
  refine q_getf (pc' := 116) (v := .int (s 146 53)) ja_M_carries_113 rfl (by decide) ⟨rfl, by decide⟩ rfl ?_
  refine q_iast (pc' := 117) ja_M_carries_116 rfl (by decide) (l := 8) rfl k1 ?_
  intro s1 e1
  refine q_iconst (pc' := 118) ja_M_carries_117 rfl 0 (by decide) ?_
  refine q_istore_n (pc' := 119) (ls' := [some (.ref 146), some (.int x1), some (.int x2), some (.int 0)]) ja_M_carries_118 rfl ⟨Nat.le_of_ble_eq_true rfl, rfl⟩ rfl ?_
  exact (k2 s1 e1)
theorem t2_M_carries_119 {G : jv_X} {d : Nat} {B : Option Value → jg_H → Prop} {s : jg_H} (x1 : Int32) (x2 : Int32) (x3 : Int32)
    (k1 : ¬ x3 < (s 146 53) → q_W G d jm_M_carries B 155 [some (.ref 146), some (.int x1), some (.int x2), some (.int 0)] [] s)
    (k2 : x3 < (s 146 53) → jv_in x3 11 = true)
    (k3 : x3 < (s 146 53) → jv_in ((10 * (s 146 13)) + x3) 80 = true)
    (k4 : x3 < (s 146 53) → ∀ s1 : jg_H, s1 = jg_up s 154 ((10 * (s 146 13)) + x3).toNatClampNeg (s 171 x3.toNatClampNeg) → q_W G d jm_M_carries B 119 [some (.ref 146), some (.int x1), some (.int x2), some (.int (x3 + 1))] [] s1) :
    q_W G d jm_M_carries B 119 [some (.ref 146), some (.int x1), some (.int x2), some (.int x3)] [] s := by
  refine q_iload_n (pc' := 120) ja_M_carries_119 rfl rfl ?_
  refine q_aload_n (pc' := 121) ja_M_carries_120 rfl rfl ?_
  refine q_getf (pc' := 124) (v := .int (s 146 53)) ja_M_carries_121 rfl (by decide) ⟨rfl, by decide⟩ rfl ?_
  refine q_ic_ge (pc' := 127) ja_M_carries_124 rfl ?_ ?_
  · intro h1
    refine q_iconst (pc' := 154) ja_M_carries_153 rfl 0 (by decide) ?_
    refine q_istore_n (pc' := 155) (ls' := [some (.ref 146), some (.int x1), some (.int x2), some (.int 0)]) ja_M_carries_154 rfl ⟨Nat.le_of_ble_eq_true rfl, rfl⟩ rfl ?_
    exact (k1 h1)
  · intro h2
    refine q_aload_n (pc' := 128) ja_M_carries_127 rfl rfl ?_
    refine q_getf (pc' := 131) (v := .ref 154) ja_M_carries_128 rfl (by decide) ⟨rfl, by decide⟩ rfl ?_
    refine q_bipush (pc' := 133) ja_M_carries_131 rfl 10 (by decide) ?_
    refine q_aload_n (pc' := 134) ja_M_carries_133 rfl rfl ?_
    refine q_getf (pc' := 137) (v := .int (s 146 13)) ja_M_carries_134 rfl (by decide) ⟨rfl, by decide⟩ rfl ?_
    refine q_imul (pc' := 138) ja_M_carries_137 rfl ?_
    refine q_iload_n (pc' := 139) ja_M_carries_138 rfl rfl ?_
    refine q_iadd (pc' := 140) ja_M_carries_139 rfl ?_
    refine q_aload_n (pc' := 141) ja_M_carries_140 rfl rfl ?_
    refine q_getf (pc' := 144) (v := .ref 171) ja_M_carries_141 rfl (by decide) ⟨rfl, by decide⟩ rfl ?_
    refine q_iload_n (pc' := 145) ja_M_carries_144 rfl rfl ?_
    refine q_iald (pc' := 146) (v := .int (s 171 x3.toNatClampNeg)) ja_M_carries_145 rfl (by decide) (l := 11) rfl (k2 h2) rfl ?_
    refine q_iast (pc' := 147) ja_M_carries_146 rfl (by decide) (l := 80) rfl (k3 h2) ?_
    intro s1 e1
    refine q_iinc (pc' := 150) (ls' := [some (.ref 146), some (.int x1), some (.int x2), some (.int (x3 + 1))]) ja_M_carries_147 rfl rfl (x3 + 1) rfl ⟨Nat.le_of_ble_eq_true rfl, rfl⟩ rfl ?_
    refine q_goto ja_M_carries_150 ?_
    exact (k4 h2 s1 e1)
theorem t2_M_carries_155 {G : jv_X} {d : Nat} {B : Option Value → jg_H → Prop} {s : jg_H} (x1 : Int32) (x2 : Int32) (x3 : Int32)
    (k1 : ¬ x3 < (s 146 18) → ∀ s1 : jg_H, s1 = jg_up s 146 19 0 → B none s1)
    (k2 : x3 < (s 146 18) → jv_in x1 13 = true)
    (k3 : x3 < (s 146 18) → jv_in x1 13 = true)
    (k4 : x3 < (s 146 18) → q_P G d 199 [.ref 146, .int x3, .int (s 157 x1.toNatClampNeg), .int x2, .int (s 161 x1.toNatClampNeg)] s (fun v t => q_W G d jm_M_carries B 181 [some (.ref 146), some (.int x1), some (.int x2), some (.int x3)] (v.toList ++ []) t)) :
    q_W G d jm_M_carries B 155 [some (.ref 146), some (.int x1), some (.int x2), some (.int x3)] [] s := by
  refine q_iload_n (pc' := 156) ja_M_carries_155 rfl rfl ?_
  refine q_aload_n (pc' := 157) ja_M_carries_156 rfl rfl ?_
  refine q_getf (pc' := 160) (v := .int (s 146 18)) ja_M_carries_157 rfl (by decide) ⟨rfl, by decide⟩ rfl ?_
  refine q_ic_ge (pc' := 163) ja_M_carries_160 rfl ?_ ?_
  · intro h1
    refine q_aload_n (pc' := 188) ja_M_carries_187 rfl rfl ?_
    refine q_iconst (pc' := 189) ja_M_carries_188 rfl 0 (by decide) ?_
    refine q_putf (pc' := 192) ja_M_carries_189 rfl (by decide) rfl rfl rfl ?_
    intro s1 e1
    exact q_vret ja_M_carries_192 rfl (k1 h1 s1 e1)
  · intro h2
    refine q_aload_n (pc' := 164) ja_M_carries_163 rfl rfl ?_
    refine q_iload_n (pc' := 165) ja_M_carries_164 rfl rfl ?_
    refine q_aload_n (pc' := 166) ja_M_carries_165 rfl rfl ?_
    refine q_getf (pc' := 169) (v := .ref 157) ja_M_carries_166 rfl (by decide) ⟨rfl, by decide⟩ rfl ?_
    refine q_iload_n (pc' := 170) ja_M_carries_169 rfl rfl ?_
    refine q_iald (pc' := 171) (v := .int (s 157 x1.toNatClampNeg)) ja_M_carries_170 rfl (by decide) (l := 13) rfl (k2 h2) rfl ?_
    refine q_iload_n (pc' := 172) ja_M_carries_171 rfl rfl ?_
    refine q_aload_n (pc' := 173) ja_M_carries_172 rfl rfl ?_
    refine q_getf (pc' := 176) (v := .ref 161) ja_M_carries_173 rfl (by decide) ⟨rfl, by decide⟩ rfl ?_
    refine q_iload_n (pc' := 177) ja_M_carries_176 rfl rfl ?_
    refine q_bald (pc' := 178) (v := .int (s 161 x1.toNatClampNeg)) ja_M_carries_177 rfl (by decide) (l := 13) rfl (k3 h2) rfl ?_
    refine q_virt (pc' := 181) (c := 146) (as := [.int x3, .int (s 157 x1.toNatClampNeg), .int x2, .int (s 161 x1.toNatClampNeg)]) (r := []) ja_M_carries_178 rfl rfl rfl (by decide) ⟨rfl, by decide⟩ ?_
    exact (k4 h2)
theorem t2_M_carries_181 {G : jv_X} {d : Nat} {B : Option Value → jg_H → Prop} {s : jg_H} (x1 : Int32) (x2 : Int32) (x3 : Int32)
    (k1 : q_W G d jm_M_carries B 155 [some (.ref 146), some (.int x1), some (.int x2), some (.int (x3 + 1))] [] s) :
    q_W G d jm_M_carries B 181 [some (.ref 146), some (.int x1), some (.int x2), some (.int x3)] [] s := by
  refine q_iinc (pc' := 184) (ls' := [some (.ref 146), some (.int x1), some (.int x2), some (.int (x3 + 1))]) ja_M_carries_181 rfl rfl (x3 + 1) rfl ⟨Nat.le_of_ble_eq_true rfl, rfl⟩ rfl ?_
  refine q_goto ja_M_carries_184 ?_
  exact k1
